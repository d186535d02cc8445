section
/-! bits as whole numbers -/
def jpow (k : Int) : Int := ((2 ^ k.toNat : Nat) : Int)
def jand (a b : Int) : Int := ((a.toNat &&& b.toNat : Nat) : Int)
def jor (a b : Int) : Int := ((a.toNat ||| b.toNat : Nat) : Int)
def jushr (x k : Int) : Int := (x % 18446744073709551616) / ((2 ^ k.toNat : Nat) : Int)
theorem jz {z : Int} (h : 0 ≤ z ∧ z ≤ 1) : narrow .boolean (.int (jI z)) = .int (jI z) := by
  have h2 : z = 0 ∨ z = 1 := by omega
  rcases h2 with rfl | rfl <;> decide
theorem jI_shl1_n : ∀ n, n < 32 → jI 1 <<< (jI (n : Nat) &&& 31) = jI ((2 ^ n : Nat) : Int) := by decide +kernel
theorem jI_shl1 {k : Int} (h0 : 0 ≤ k) (h1 : k < 32) : jI 1 <<< (jI k &&& 31) = jI (jpow k) := by
  have h := jI_shl1_n k.toNat (by omega)
  rw [Int.toNat_of_nonneg h0] at h
  exact h
theorem jI_bv (n : Nat) : (jI (n : Int)).toBitVec = BitVec.ofNat 32 n := by
  show BitVec.ofInt 32 (n : Int) = _
  exact BitVec.ofInt_natCast 32 n
theorem jI_and {a b : Int} (ha : 0 ≤ a) (hb : 0 ≤ b) : jI a &&& jI b = jI (jand a b) := by
  obtain ⟨n, rfl⟩ := Int.eq_ofNat_of_zero_le ha
  obtain ⟨k, rfl⟩ := Int.eq_ofNat_of_zero_le hb
  apply Int32.toBitVec_inj.mp
  rw [Int32.toBitVec_and, jI_bv, jI_bv, jand, jI_bv]
  apply BitVec.eq_of_getLsbD_eq
  intro i hi
  simp [BitVec.getLsbD_ofNat, Nat.testBit_and, hi]
theorem jI_or {a b : Int} (ha : 0 ≤ a) (hb : 0 ≤ b) : jI a ||| jI b = jI (jor a b) := by
  obtain ⟨n, rfl⟩ := Int.eq_ofNat_of_zero_le ha
  obtain ⟨k, rfl⟩ := Int.eq_ofNat_of_zero_le hb
  apply Int32.toBitVec_inj.mp
  rw [Int32.toBitVec_or, jI_bv, jI_bv, jor, jI_bv]
  apply BitVec.eq_of_getLsbD_eq
  intro i hi
  simp [BitVec.getLsbD_ofNat, Nat.testBit_or, hi]
theorem jL_nat (x : Int) : (jL x).toUInt64.toNat = (x % 18446744073709551616).toNat := by
  show (BitVec.ofInt 64 x).toNat = _
  rw [BitVec.toNat_ofInt]; rfl
theorem jsh_n : ∀ n, n < 64 → (((jI (n : Nat)).toInt64.toUInt64 &&& Int64.toUInt64 63).toNat) = n := by decide +kernel
theorem jL_ushr {x k : Int} (h0 : 0 ≤ k) (h1 : k < 64) : ((jL x).toUInt64 >>> ((jI k).toInt64.toUInt64 &&& Int64.toUInt64 63)).toInt64 = jL (jushr x k) := by
  have hk := jsh_n k.toNat (by omega)
  rw [Int.toNat_of_nonneg h0] at hk
  apply Int64.toBitVec_inj.mp
  show ((jL x).toUInt64 >>> ((jI k).toInt64.toUInt64 &&& Int64.toUInt64 63)).toBitVec = BitVec.ofInt 64 (jushr x k)
  apply BitVec.eq_of_toNat_eq
  rw [BitVec.toNat_ofInt]
  have e1 : ((jL x).toUInt64 >>> ((jI k).toInt64.toUInt64 &&& Int64.toUInt64 63)).toBitVec.toNat = (x % 18446744073709551616).toNat / 2 ^ k.toNat := by
    show ((jL x).toUInt64 >>> ((jI k).toInt64.toUInt64 &&& Int64.toUInt64 63)).toNat = _
    rw [UInt64.toNat_shiftRight, jL_nat, hk, Nat.mod_eq_of_lt (show k.toNat < 64 by omega), Nat.shiftRight_eq_div_pow]
  rw [e1]
  have hx := Int.emod_nonneg x (show (18446744073709551616 : Int) ≠ 0 by decide)
  have hx2 := Int.emod_lt_of_pos x (show (0 : Int) < 18446744073709551616 by decide)
  obtain ⟨y, hy⟩ := Int.eq_ofNat_of_zero_le hx
  unfold jushr
  rw [hy] at hx2 ⊢
  have hlt : y / 2 ^ k.toNat < 18446744073709551616 := Nat.lt_of_le_of_lt (Nat.div_le_self _ _) (by omega)
  show y / 2 ^ k.toNat = (((y : Int) / ((2 ^ k.toNat : Nat) : Int)) % ((2 ^ 64 : Nat) : Int)).toNat
  rw [← Int.natCast_ediv, ← Int.natCast_emod, Int.toNat_natCast]
  exact (Nat.mod_eq_of_lt (by omega)).symm
theorem jL_255 (x : Int) : jL x &&& jL 255 = jL (x % 256) := by
  apply Int64.toBitVec_inj.mp
  rw [Int64.toBitVec_and]
  show BitVec.ofInt 64 x &&& BitVec.ofInt 64 255 = BitVec.ofInt 64 (x % 256)
  apply BitVec.eq_of_toNat_eq
  rw [BitVec.toNat_and, BitVec.toNat_ofInt, BitVec.toNat_ofInt, BitVec.toNat_ofInt]
  have h2 : ((255 : Int) % ((2 ^ 64 : Nat) : Int)).toNat = 2 ^ 8 - 1 := by decide
  rw [h2, Nat.and_two_pow_sub_one_eq_mod]
  omega
section JB
variable {p : Program} {l : Launch} {e : Env} {R : Room} {s : State} {m : MethodId} {args : Array Value} {below : List Frame} {meth : Method} {c : Code} {H : Heap} {locs : List Loc} {cells slots : Nat} {Q : State → Prop}
variable {cc : ByteArray} {pc : Nat} {ls : Array Slot} {rest : List Value}
theorem ji_ishl1 (hx : p.tables.exec = Jvm.exec) (hb : c.code = cc) {k : Int} (hdg : decode cc pc = .ok (.ishl, 1)) (h0 : 0 ≤ k) (h1 : k < 32) (kk : W p l e R s m args below meth c H locs cells slots Q (F0 m (pc + 1) ls (.int (jI (jpow k)) :: rest))) : W p l e R s m args below meth c H locs cells slots Q (F0 m pc ls (.int (jI k) :: .int (jI 1) :: rest)) := lv_ishl hx hb hdg (by rw [jI_shl1 h0 h1]; exact kk)
theorem ji_iand (hx : p.tables.exec = Jvm.exec) (hb : c.code = cc) {x y : Int} (hdg : decode cc pc = .ok (.iand, 1)) (h0 : 0 ≤ x) (h1 : 0 ≤ y) (kk : W p l e R s m args below meth c H locs cells slots Q (F0 m (pc + 1) ls (.int (jI (jand x y)) :: rest))) : W p l e R s m args below meth c H locs cells slots Q (F0 m pc ls (.int (jI y) :: .int (jI x) :: rest)) := lv_iand hx hb hdg (by rw [jI_and h0 h1]; exact kk)
theorem ji_ior (hx : p.tables.exec = Jvm.exec) (hb : c.code = cc) {x y : Int} (hdg : decode cc pc = .ok (.ior, 1)) (h0 : 0 ≤ x) (h1 : 0 ≤ y) (kk : W p l e R s m args below meth c H locs cells slots Q (F0 m (pc + 1) ls (.int (jI (jor x y)) :: rest))) : W p l e R s m args below meth c H locs cells slots Q (F0 m pc ls (.int (jI y) :: .int (jI x) :: rest)) := lv_ior hx hb hdg (by rw [jI_or h0 h1]; exact kk)
theorem ji_lushr (hx : p.tables.exec = Jvm.exec) (hb : c.code = cc) {x k : Int} (hdg : decode cc pc = .ok (.lushr, 1)) (h : 0 ≤ k ∧ k < 64) (kk : W p l e R s m args below meth c H locs cells slots Q (F0 m (pc + 1) ls (.long (jL (jushr x k)) :: rest))) : W p l e R s m args below meth c H locs cells slots Q (F0 m pc ls (.int (jI k) :: .long (jL x) :: rest)) := lv_lushr hx hb hdg (jL_ushr h.1 h.2) kk
theorem ji_land255 (hx : p.tables.exec = Jvm.exec) (hb : c.code = cc) {x : Int} (hdg : decode cc pc = .ok (.land, 1)) (kk : W p l e R s m args below meth c H locs cells slots Q (F0 m (pc + 1) ls (.long (jL (x % 256)) :: rest))) : W p l e R s m args below meth c H locs cells slots Q (F0 m pc ls (.long (jL 255) :: .long (jL x) :: rest)) := lv_land hx hb hdg (by rw [jL_255]; exact kk)
end JB
/-! facts about them -/
theorem jpow_pos (k : Int) : 0 < jpow k := by unfold jpow; exact Int.natCast_pos.mpr (Nat.two_pow_pos _)
theorem jand_nn (a b : Int) : 0 ≤ jand a b := Int.natCast_nonneg _
theorem jor_nn (a b : Int) : 0 ≤ jor a b := Int.natCast_nonneg _
theorem jand_le {a : Int} (h : 0 ≤ a) (b : Int) : jand a b ≤ a := by
  unfold jand
  have := Nat.and_le_left (n := a.toNat) (m := b.toNat)
  omega
theorem jpow_lt {k : Int} (h : k < 31) : jpow k < 2147483648 := by
  unfold jpow
  have h1 : 2 ^ k.toNat ≤ 2 ^ 30 := Nat.pow_le_pow_right (by omega) (by omega)
  have h2 : (2 : Nat) ^ 30 = 1073741824 := by decide
  omega
theorem jor_lt {a b : Int} (ha : a < 2147483648) (hb : b < 2147483648) : jor a b < 2147483648 := by
  unfold jor
  have h := Nat.or_lt_two_pow (x := a.toNat) (y := b.toNat) (n := 31) (by omega) (by omega)
  omega
/-! a value that nothing unfolds -/
noncomputable def jopq {α : Type} (x : α) : α := Classical.choose (⟨x, rfl⟩ : ∃ h : α, h = x)
theorem jopq_eq {α : Type} (x : α) : jopq x = x := Classical.choose_spec (⟨x, rfl⟩ : ∃ h : α, h = x)

end
section
noncomputable def g_XG_hasBit (zb : Int) (zk : Int) : Int :=
  if (jand zb (jpow zk)) = 0 then
    0
  else
    1
noncomputable def f_XG_hasBit : Int → Int → Int := jopq g_XG_hasBit
theorem f_XG_hasBit_q : f_XG_hasBit = g_XG_hasBit := jopq_eq _
theorem f_XG_hasBit_s (zb : Int) (zk : Int) : f_XG_hasBit zb zk = (
    if (jand zb (jpow zk)) = 0 then
      0
    else
      1
  : Int) := by rw [f_XG_hasBit_q]; rfl
theorem f_XG_hasBit_01 (zb zk : Int) (h1 : 0 ≤ zb ∧ zb < 2147483648) (h2 : 0 ≤ zk ∧ zk < 31) : 0 ≤ f_XG_hasBit zb zk ∧ f_XG_hasBit zb zk ≤ 1 := by rw [f_XG_hasBit_s]; split <;> omega
set_option maxHeartbeats 4000000 in
set_option maxRecDepth 100000 in
theorem c_XG_hasBit (l : Launch) (dC : Nat → ClassId) (dI : Nat → Nat → Nat) (cA : ClassId) (zb : Int) (zk : Int) (h1 : 0 ≤ zb ∧ zb < 2147483648) (h2 : 0 ≤ zk ∧ zk < 31) : Met l yXG_hasBit (Cond.code yXG_hasBit cXG_hasBit 2 (some .boolean) :: TBL) ({ frames := 0, cells := 0, slots := 0, locals := 0 } : Room) (va_Pc [.int (jI zb), .int (jI zk)] (jB (dC, dI) [(cA, .int)] [])) (vp_Si (fun r => r = jI (f_XG_hasBit zb zk))) 0 0 (fun _ => False) := by
  refine jMet (cc := cXG_hasBit) (maxL := 2) (ret := some .boolean) (by decide) rfl ?_
  intro p e s m args below meth c s₁ R Q hR hQ B hml hv
  obtain ⟨rfl, hP, hK, hN⟩ := hv
  have hx := B.exec
  have hb := B.bytes
  have hr := B.returns
  have hts := atoms_spec (ws := Cond.code yXG_hasBit cXG_hasBit 2 (some .boolean) :: TBL) B.pre
  have hown : s.vm.findClass RXG = some m.cls := findClass_of_methodNamed B.named
  have hlocks := B.notSynchronized
  have hP : va_P (dC, dI) vwCl [] s.heap := hP
  have hl := lv_entry ([.int (jI zb), .int (jI zk)]) (n := 2) (Nat.le_of_ble_eq_true rfl)
  rw [lg_entry_eq]
  generalize (lg_sl ([.int (jI zb), .int (jI zk)]) ++ List.replicate (2 - (lg_sl ([.int (jI zb), .int (jI zk)])).length) Slot.unset).toArray = ls at hl ⊢
  have hl : lv_has ls 2 [(0, .int (jI zb)), (1, .int (jI zk))] := hl
  have q1 := jpow_pos zk
  have q2 := jand_nn zb (jpow zk)
  have q3 := jand_le h1.1 (jpow zk)
  refine lv_iload_n hx hb dXG_hasBit_0 rfl (lv_at hl 0 rfl) ?_
  refine ji_iconst hx hb dXG_hasBit_1 ?_
  refine lv_iload_n hx hb dXG_hasBit_2 rfl (lv_at hl 1 rfl) ?_
  refine ji_ishl1 hx hb dXG_hasBit_3 (by omega) (by omega) ?_
  refine ji_iand hx hb dXG_hasBit_4 (by omega) (by omega) ?_
  refine ji_if_eq (tgt := 12) hx hb dXG_hasBit_5 (by decide) (by omega) (fun c5_ => ?_) (fun c5_ => ?_)
  · refine ji_iconst hx hb dXG_hasBit_12 ?_
    subst hQ
    exact W.zret (v := jI 0) hx hb hr (by first | decide | exact jz (by omega)) (fun t ht hW => ⟨_, rfl, congrArg jI (Eq.trans (by rw [f_XG_hasBit_s]; rw [if_pos c5_]; try rfl) rfl), ht⟩) (fun _ h => nomatch h) dXG_hasBit_13
  · refine ji_iconst hx hb dXG_hasBit_8 ?_
    refine lv_goto (tgt := 13) hx hb dXG_hasBit_9 (by decide) ?_
    subst hQ
    exact W.zret (v := jI 1) hx hb hr (by first | decide | exact jz (by omega)) (fun t ht hW => ⟨_, rfl, congrArg jI (Eq.trans (by rw [f_XG_hasBit_s]; rw [if_neg c5_]; try rfl) rfl), ht⟩) (fun _ h => nomatch h) dXG_hasBit_13
noncomputable def g_XG_isDigit (zs : Int) : Int :=
  if zs < 48 then
    0
  else
    if 57 < zs then
      0
    else
      1
noncomputable def f_XG_isDigit : Int → Int := jopq g_XG_isDigit
theorem f_XG_isDigit_q : f_XG_isDigit = g_XG_isDigit := jopq_eq _
theorem f_XG_isDigit_s (zs : Int) : f_XG_isDigit zs = (
    if zs < 48 then
      0
    else
      if 57 < zs then
        0
      else
        1
  : Int) := by rw [f_XG_isDigit_q]; rfl
theorem f_XG_isDigit_01 (zs : Int) (h1 : i32 zs) : (f_XG_isDigit zs = 1 ∧ 48 ≤ zs ∧ zs ≤ 57) ∨ (f_XG_isDigit zs = 0 ∧ (zs < 48 ∨ 57 < zs)) := by rw [f_XG_isDigit_s]; split <;> (try split) <;> omega
set_option maxHeartbeats 4000000 in
set_option maxRecDepth 100000 in
theorem c_XG_isDigit (l : Launch) (dC : Nat → ClassId) (dI : Nat → Nat → Nat) (cA : ClassId) (zs : Int) (h1 : i32 zs) : Met l yXG_isDigit (Cond.code yXG_isDigit cXG_isDigit 1 (some .boolean) :: TBL) ({ frames := 0, cells := 0, slots := 0, locals := 0 } : Room) (va_Pc [.int (jI zs)] (jB (dC, dI) [(cA, .int)] [])) (vp_Si (fun r => r = jI (f_XG_isDigit zs))) 0 0 (fun _ => False) := by
  refine jMet (cc := cXG_isDigit) (maxL := 1) (ret := some .boolean) (by decide) rfl ?_
  intro p e s m args below meth c s₁ R Q hR hQ B hml hv
  obtain ⟨rfl, hP, hK, hN⟩ := hv
  have hx := B.exec
  have hb := B.bytes
  have hr := B.returns
  have hts := atoms_spec (ws := Cond.code yXG_isDigit cXG_isDigit 1 (some .boolean) :: TBL) B.pre
  have hown : s.vm.findClass RXG = some m.cls := findClass_of_methodNamed B.named
  have hlocks := B.notSynchronized
  have hP : va_P (dC, dI) vwCl [] s.heap := hP
  have hl := lv_entry ([.int (jI zs)]) (n := 1) (Nat.le_of_ble_eq_true rfl)
  rw [lg_entry_eq]
  generalize (lg_sl ([.int (jI zs)]) ++ List.replicate (1 - (lg_sl ([.int (jI zs)])).length) Slot.unset).toArray = ls at hl ⊢
  have hl : lv_has ls 1 [(0, .int (jI zs))] := hl
  refine lv_iload_n hx hb dXG_isDigit_0 rfl (lv_at hl 0 rfl) ?_
  refine ji_bipush hx hb dXG_isDigit_1 (by decide) ?_
  refine ji_icmp_lt (tgt := 16) hx hb dXG_isDigit_3 (by decide) (by omega) (by omega) (fun c3_ => ?_) (fun c3_ => ?_)
  · refine ji_iconst hx hb dXG_isDigit_16 ?_
    subst hQ
    exact W.zret (v := jI 0) hx hb hr (by first | decide | exact jz (by omega)) (fun t ht hW => ⟨_, rfl, congrArg jI (Eq.trans (by rw [f_XG_isDigit_s]; rw [if_pos c3_]; try rfl) rfl), ht⟩) (fun _ h => nomatch h) dXG_isDigit_17
  · refine lv_iload_n hx hb dXG_isDigit_6 rfl (lv_at hl 0 rfl) ?_
    refine ji_bipush hx hb dXG_isDigit_7 (by decide) ?_
    refine ji_icmp_gt (tgt := 16) hx hb dXG_isDigit_9 (by decide) (by omega) (by omega) (fun c9_ => ?_) (fun c9_ => ?_)
    · refine ji_iconst hx hb dXG_isDigit_16 ?_
      subst hQ
      exact W.zret (v := jI 0) hx hb hr (by first | decide | exact jz (by omega)) (fun t ht hW => ⟨_, rfl, congrArg jI (Eq.trans (by rw [f_XG_isDigit_s]; rw [if_neg (Int.not_lt.mpr c3_), if_pos c9_]; try rfl) rfl), ht⟩) (fun _ h => nomatch h) dXG_isDigit_17
    · refine ji_iconst hx hb dXG_isDigit_12 ?_
      refine lv_goto (tgt := 17) hx hb dXG_isDigit_13 (by decide) ?_
      subst hQ
      exact W.zret (v := jI 1) hx hb hr (by first | decide | exact jz (by omega)) (fun t ht hW => ⟨_, rfl, congrArg jI (Eq.trans (by rw [f_XG_isDigit_s]; rw [if_neg (Int.not_lt.mpr c3_), if_neg (Int.not_lt.mpr c9_)]; try rfl) rfl), ht⟩) (fun _ h => nomatch h) dXG_isDigit_17
noncomputable def g_XG_isElement (zs : Int) : Int :=
  if zs < 65 then
    0
  else
    if zs < 73 then
      1
    else
      0
noncomputable def f_XG_isElement : Int → Int := jopq g_XG_isElement
theorem f_XG_isElement_q : f_XG_isElement = g_XG_isElement := jopq_eq _
theorem f_XG_isElement_s (zs : Int) : f_XG_isElement zs = (
    if zs < 65 then
      0
    else
      if zs < 73 then
        1
      else
        0
  : Int) := by rw [f_XG_isElement_q]; rfl
theorem f_XG_isElement_01 (zs : Int) (h1 : i32 zs) : (f_XG_isElement zs = 1 ∧ 65 ≤ zs ∧ zs < 73) ∨ (f_XG_isElement zs = 0 ∧ (zs < 65 ∨ 73 ≤ zs)) := by rw [f_XG_isElement_s]; split <;> (try split) <;> omega
set_option maxHeartbeats 4000000 in
set_option maxRecDepth 100000 in
theorem c_XG_isElement (l : Launch) (dC : Nat → ClassId) (dI : Nat → Nat → Nat) (cA : ClassId) (zs : Int) (h1 : i32 zs) : Met l yXG_isElement (Cond.code yXG_isElement cXG_isElement 1 (some .boolean) :: TBL) ({ frames := 0, cells := 0, slots := 0, locals := 0 } : Room) (va_Pc [.int (jI zs)] (jB (dC, dI) [(cA, .int)] [])) (vp_Si (fun r => r = jI (f_XG_isElement zs))) 0 0 (fun _ => False) := by
  refine jMet (cc := cXG_isElement) (maxL := 1) (ret := some .boolean) (by decide) rfl ?_
  intro p e s m args below meth c s₁ R Q hR hQ B hml hv
  obtain ⟨rfl, hP, hK, hN⟩ := hv
  have hx := B.exec
  have hb := B.bytes
  have hr := B.returns
  have hts := atoms_spec (ws := Cond.code yXG_isElement cXG_isElement 1 (some .boolean) :: TBL) B.pre
  have hown : s.vm.findClass RXG = some m.cls := findClass_of_methodNamed B.named
  have hlocks := B.notSynchronized
  have hP : va_P (dC, dI) vwCl [] s.heap := hP
  have hl := lv_entry ([.int (jI zs)]) (n := 1) (Nat.le_of_ble_eq_true rfl)
  rw [lg_entry_eq]
  generalize (lg_sl ([.int (jI zs)]) ++ List.replicate (1 - (lg_sl ([.int (jI zs)])).length) Slot.unset).toArray = ls at hl ⊢
  have hl : lv_has ls 1 [(0, .int (jI zs))] := hl
  refine lv_iload_n hx hb dXG_isElement_0 rfl (lv_at hl 0 rfl) ?_
  refine ji_bipush hx hb dXG_isElement_1 (by decide) ?_
  refine ji_icmp_lt (tgt := 16) hx hb dXG_isElement_3 (by decide) (by omega) (by omega) (fun c3_ => ?_) (fun c3_ => ?_)
  · refine ji_iconst hx hb dXG_isElement_16 ?_
    subst hQ
    exact W.zret (v := jI 0) hx hb hr (by first | decide | exact jz (by omega)) (fun t ht hW => ⟨_, rfl, congrArg jI (Eq.trans (by rw [f_XG_isElement_s]; rw [if_pos c3_]; try rfl) rfl), ht⟩) (fun _ h => nomatch h) dXG_isElement_17
  · refine lv_iload_n hx hb dXG_isElement_6 rfl (lv_at hl 0 rfl) ?_
    refine ji_bipush hx hb dXG_isElement_7 (by decide) ?_
    refine ji_icmp_ge (tgt := 16) hx hb dXG_isElement_9 (by decide) (by omega) (by omega) (fun c9_ => ?_) (fun c9_ => ?_)
    · refine ji_iconst hx hb dXG_isElement_16 ?_
      subst hQ
      exact W.zret (v := jI 0) hx hb hr (by first | decide | exact jz (by omega)) (fun t ht hW => ⟨_, rfl, congrArg jI (Eq.trans (by rw [f_XG_isElement_s]; rw [if_neg (Int.not_lt.mpr c3_), if_neg (Int.not_lt.mpr c9_)]; try rfl) rfl), ht⟩) (fun _ h => nomatch h) dXG_isElement_17
    · refine ji_iconst hx hb dXG_isElement_12 ?_
      refine lv_goto (tgt := 17) hx hb dXG_isElement_13 (by decide) ?_
      subst hQ
      exact W.zret (v := jI 1) hx hb hr (by first | decide | exact jz (by omega)) (fun t ht hW => ⟨_, rfl, congrArg jI (Eq.trans (by rw [f_XG_isElement_s]; rw [if_neg (Int.not_lt.mpr c3_), if_pos c9_]; try rfl) rfl), ht⟩) (fun _ h => nomatch h) dXG_isElement_17

end
section
noncomputable def g_XT_empty (tn : Int) (tp : Int) (tw : Int) (tf : Int → Int) : Int :=
  0
noncomputable def f_XT_empty : Int → Int → Int → (Int → Int) → Int := jopq g_XT_empty
theorem f_XT_empty_q : f_XT_empty = g_XT_empty := jopq_eq _
theorem f_XT_empty_s (tn : Int) (tp : Int) (tw : Int) (tf : Int → Int) : f_XT_empty tn tp tw tf = (
    0
  : Int) := by rw [f_XT_empty_q]; rfl
theorem f_XT_empty_b (tn : Int) (tp : Int) (tw : Int) (tf : Int → Int) : (f_XT_empty tn tp tw tf) = 0 := by rw [f_XT_empty_s]
set_option maxHeartbeats 4000000 in
set_option maxRecDepth 100000 in
theorem c_XT_empty (l : Launch) (dC : Nat → ClassId) (dI : Nat → Nat → Nat) (cA : ClassId) (sz : Nat) (ta : Nat) (ts : Nat) (tn : Int) (tp : Int) (tw : Int) (tf : Int → Int) : Met l yXT_empty (Cond.code yXT_empty cXT_empty 1 none :: TBL) ({ frames := 0, cells := 0, slots := 0, locals := 0 } : Room) (va_Pc [.ref ta] (jBw (dC, dI) [(cA, .int)] [(ta, .inr (3, [.ref ts, .int (jI tn), .int (jI tp), .int (jI tw)])), (ts, .inl (cA, 400, .inl (jA tf)))] sz)) (va_Qv (fun (u : Int) => u = f_XT_empty tn tp tw tf) (fun u t => jE (dC, dI) [(cA, .int)] [(ta, .inr (3, [.ref ts, .int (jI tn), .int (jI tp), .int (jI tw)])), (ts, .inl (cA, 400, .inl (jA tf)))] sz [(ta, .inr (3, [.ref ts, .int (jI u), .int (jI tp), .int (jI tw)])), (ts, .inl (cA, 400, .inl (jA tf)))] t) (va_A [(ta, .inr (3, [.ref ts, .int (jI tn), .int (jI tp), .int (jI tw)])), (ts, .inl (cA, 400, .inl (jA tf)))] sz)) 0 0 (va_A [(ta, .inr (3, [.ref ts, .int (jI tn), .int (jI tp), .int (jI tw)])), (ts, .inl (cA, 400, .inl (jA tf)))] sz) := by
  refine jMet (cc := cXT_empty) (maxL := 1) (ret := none) (by decide) rfl ?_
  intro p e s m args below meth c s₁ R Q hR hQ B hml hv
  obtain ⟨rfl, hsz, hP, hK, hD0, hN⟩ := hv
  have hx := B.exec
  have hb := B.bytes
  have hr := B.returns
  have hts := atoms_spec (ws := Cond.code yXT_empty cXT_empty 1 none :: TBL) B.pre
  have hown : s.vm.findClass RXT = some m.cls := findClass_of_methodNamed B.named
  have hlocks := B.notSynchronized
  subst hsz
  obtain ⟨A, hAe⟩ : ∃ A, A = va_A [(ta, .inr (3, [.ref ts, .int (jI tn), .int (jI tp), .int (jI tw)])), (ts, .inl (cA, 400, .inl (jA tf)))] s.heap.size := ⟨_, rfl⟩
  have hD : va_D A [(ta, .inr (3, [.ref ts, .int (jI tn), .int (jI tp), .int (jI tw)])), (ts, .inl (cA, 400, .inl (jA tf)))] := by rw [hAe]; exact hD0.self
  have hA : ∀ q : Nat, s.heap.size ≤ q → A q := fun q h => by rw [hAe]; exact Or.inr h
  have hS : va_S A s.heap s.heap [] := va_S.rf
  have hP : va_P (dC, dI) vwCl [(ta, .inr (3, [.ref ts, .int (jI tn), .int (jI tp), .int (jI tw)])), (ts, .inl (cA, 400, .inl (jA tf)))] s.heap := hP
  have hl := lv_entry ([.ref ta]) (n := 1) (Nat.le_of_ble_eq_true rfl)
  rw [lg_entry_eq]
  generalize (lg_sl ([.ref ta]) ++ List.replicate (1 - (lg_sl ([.ref ta])).length) Slot.unset).toArray = ls at hl ⊢
  have hl : lv_has ls 1 [(0, .ref ta)] := hl
  refine lv_aload_n hx hb dXT_empty_0 rfl (lv_at hl 0 rfl) ?_
  refine ji_iconst hx hb dXT_empty_1 ?_
  refine va_put (D := (dC, dI)) (ci := 3) (v := .int (jI 0)) (ty := (.int)) (C := RXT) (T := TXT) (N := 4) hx hb hts (fun w h => jmem (inXT w h)) tyXT tyXT_ok nXT hown hK hP hD hS 0 rfl rfl 1 (by decide) (hts _ (jmem tw_31)) (fun _ h9 => h9) rfl (by decide +kernel) rfl rfl (Nat.le_of_ble_eq_true rfl) dXT_empty_2 (fun H locs hP hD hS => ?_)
  have hP : va_P (dC, dI) vwCl [(ta, .inr (3, [.ref ts, .int (jI 0), .int (jI tp), .int (jI tw)])), (ts, .inl (cA, 400, .inl (jA tf)))] H := hP
  have hD : va_D A [(ta, .inr (3, [.ref ts, .int (jI 0), .int (jI tp), .int (jI tw)])), (ts, .inl (cA, 400, .inl (jA tf)))] := hD
  have hP9 := hP.sub (ws' := [(ta, .inr (3, [.ref ts, .int (jI 0), .int (jI tp), .int (jI tw)])), (ts, .inl (cA, 400, .inl (jA tf)))]) [0, 1] rfl
  have hD9 := hD.sub (ws' := [(ta, .inr (3, [.ref ts, .int (jI 0), .int (jI tp), .int (jI tw)])), (ts, .inl (cA, 400, .inl (jA tf)))]) [0, 1] (by decide) rfl
  subst hAe
  subst hQ
  exact W.vret hx hb hr (fun t ht hW => ⟨⟨0, rfl, Eq.trans (by rw [f_XT_empty_s]; try rfl) rfl, ⟨by rw [ht]; exact hP9, va_K.moved hW.alike hK, hD9⟩⟩, hS.F ht⟩) hS.2.2 dXT_empty_5
noncomputable def g_XT_rewind (tn : Int) (tp : Int) (tw : Int) (tf : Int → Int) : Int :=
  0
noncomputable def f_XT_rewind : Int → Int → Int → (Int → Int) → Int := jopq g_XT_rewind
theorem f_XT_rewind_q : f_XT_rewind = g_XT_rewind := jopq_eq _
theorem f_XT_rewind_s (tn : Int) (tp : Int) (tw : Int) (tf : Int → Int) : f_XT_rewind tn tp tw tf = (
    0
  : Int) := by rw [f_XT_rewind_q]; rfl
theorem f_XT_rewind_b (tn : Int) (tp : Int) (tw : Int) (tf : Int → Int) : (f_XT_rewind tn tp tw tf) = 0 := by rw [f_XT_rewind_s]
set_option maxHeartbeats 4000000 in
set_option maxRecDepth 100000 in
theorem c_XT_rewind (l : Launch) (dC : Nat → ClassId) (dI : Nat → Nat → Nat) (cA : ClassId) (sz : Nat) (ta : Nat) (ts : Nat) (tn : Int) (tp : Int) (tw : Int) (tf : Int → Int) : Met l yXT_rewind (Cond.code yXT_rewind cXT_rewind 1 none :: TBL) ({ frames := 0, cells := 0, slots := 0, locals := 0 } : Room) (va_Pc [.ref ta] (jBw (dC, dI) [(cA, .int)] [(ta, .inr (3, [.ref ts, .int (jI tn), .int (jI tp), .int (jI tw)])), (ts, .inl (cA, 400, .inl (jA tf)))] sz)) (va_Qv (fun (u : Int) => u = f_XT_rewind tn tp tw tf) (fun u t => jE (dC, dI) [(cA, .int)] [(ta, .inr (3, [.ref ts, .int (jI tn), .int (jI tp), .int (jI tw)])), (ts, .inl (cA, 400, .inl (jA tf)))] sz [(ta, .inr (3, [.ref ts, .int (jI tn), .int (jI u), .int (jI tw)])), (ts, .inl (cA, 400, .inl (jA tf)))] t) (va_A [(ta, .inr (3, [.ref ts, .int (jI tn), .int (jI tp), .int (jI tw)])), (ts, .inl (cA, 400, .inl (jA tf)))] sz)) 0 0 (va_A [(ta, .inr (3, [.ref ts, .int (jI tn), .int (jI tp), .int (jI tw)])), (ts, .inl (cA, 400, .inl (jA tf)))] sz) := by
  refine jMet (cc := cXT_rewind) (maxL := 1) (ret := none) (by decide) rfl ?_
  intro p e s m args below meth c s₁ R Q hR hQ B hml hv
  obtain ⟨rfl, hsz, hP, hK, hD0, hN⟩ := hv
  have hx := B.exec
  have hb := B.bytes
  have hr := B.returns
  have hts := atoms_spec (ws := Cond.code yXT_rewind cXT_rewind 1 none :: TBL) B.pre
  have hown : s.vm.findClass RXT = some m.cls := findClass_of_methodNamed B.named
  have hlocks := B.notSynchronized
  subst hsz
  obtain ⟨A, hAe⟩ : ∃ A, A = va_A [(ta, .inr (3, [.ref ts, .int (jI tn), .int (jI tp), .int (jI tw)])), (ts, .inl (cA, 400, .inl (jA tf)))] s.heap.size := ⟨_, rfl⟩
  have hD : va_D A [(ta, .inr (3, [.ref ts, .int (jI tn), .int (jI tp), .int (jI tw)])), (ts, .inl (cA, 400, .inl (jA tf)))] := by rw [hAe]; exact hD0.self
  have hA : ∀ q : Nat, s.heap.size ≤ q → A q := fun q h => by rw [hAe]; exact Or.inr h
  have hS : va_S A s.heap s.heap [] := va_S.rf
  have hP : va_P (dC, dI) vwCl [(ta, .inr (3, [.ref ts, .int (jI tn), .int (jI tp), .int (jI tw)])), (ts, .inl (cA, 400, .inl (jA tf)))] s.heap := hP
  have hl := lv_entry ([.ref ta]) (n := 1) (Nat.le_of_ble_eq_true rfl)
  rw [lg_entry_eq]
  generalize (lg_sl ([.ref ta]) ++ List.replicate (1 - (lg_sl ([.ref ta])).length) Slot.unset).toArray = ls at hl ⊢
  have hl : lv_has ls 1 [(0, .ref ta)] := hl
  refine lv_aload_n hx hb dXT_rewind_0 rfl (lv_at hl 0 rfl) ?_
  refine ji_iconst hx hb dXT_rewind_1 ?_
  refine va_put (D := (dC, dI)) (ci := 3) (v := .int (jI 0)) (ty := (.int)) (C := RXT) (T := TXT) (N := 4) hx hb hts (fun w h => jmem (inXT w h)) tyXT tyXT_ok nXT hown hK hP hD hS 0 rfl rfl 2 (by decide) (hts _ (jmem tw_32)) (fun _ h9 => h9) rfl (by decide +kernel) rfl rfl (Nat.le_of_ble_eq_true rfl) dXT_rewind_2 (fun H locs hP hD hS => ?_)
  have hP : va_P (dC, dI) vwCl [(ta, .inr (3, [.ref ts, .int (jI tn), .int (jI 0), .int (jI tw)])), (ts, .inl (cA, 400, .inl (jA tf)))] H := hP
  have hD : va_D A [(ta, .inr (3, [.ref ts, .int (jI tn), .int (jI 0), .int (jI tw)])), (ts, .inl (cA, 400, .inl (jA tf)))] := hD
  have hP9 := hP.sub (ws' := [(ta, .inr (3, [.ref ts, .int (jI tn), .int (jI 0), .int (jI tw)])), (ts, .inl (cA, 400, .inl (jA tf)))]) [0, 1] rfl
  have hD9 := hD.sub (ws' := [(ta, .inr (3, [.ref ts, .int (jI tn), .int (jI 0), .int (jI tw)])), (ts, .inl (cA, 400, .inl (jA tf)))]) [0, 1] (by decide) rfl
  subst hAe
  subst hQ
  exact W.vret hx hb hr (fun t ht hW => ⟨⟨0, rfl, Eq.trans (by rw [f_XT_rewind_s]; try rfl) rfl, ⟨by rw [ht]; exact hP9, va_K.moved hW.alike hK, hD9⟩⟩, hS.F ht⟩) hS.2.2 dXT_rewind_5
noncomputable def g_XT_wrongPlace (tn : Int) (tp : Int) (tw : Int) (tf : Int → Int) : Int :=
  tw
noncomputable def f_XT_wrongPlace : Int → Int → Int → (Int → Int) → Int := jopq g_XT_wrongPlace
theorem f_XT_wrongPlace_q : f_XT_wrongPlace = g_XT_wrongPlace := jopq_eq _
theorem f_XT_wrongPlace_s (tn : Int) (tp : Int) (tw : Int) (tf : Int → Int) : f_XT_wrongPlace tn tp tw tf = (
    tw
  : Int) := by rw [f_XT_wrongPlace_q]; rfl
set_option maxHeartbeats 4000000 in
set_option maxRecDepth 100000 in
theorem c_XT_wrongPlace (l : Launch) (dC : Nat → ClassId) (dI : Nat → Nat → Nat) (cA : ClassId) (ta : Nat) (ts : Nat) (tn : Int) (tp : Int) (tw : Int) (tf : Int → Int) : Met l yXT_wrongPlace (Cond.code yXT_wrongPlace cXT_wrongPlace 1 (some .int) :: TBL) ({ frames := 0, cells := 0, slots := 0, locals := 0 } : Room) (va_Pc [.ref ta] (jB (dC, dI) [(cA, .int)] [(ta, .inr (3, [.ref ts, .int (jI tn), .int (jI tp), .int (jI tw)])), (ts, .inl (cA, 400, .inl (jA tf)))])) (vp_Si (fun r => r = jI (f_XT_wrongPlace tn tp tw tf))) 0 0 (fun _ => False) := by
  refine jMet (cc := cXT_wrongPlace) (maxL := 1) (ret := some .int) (by decide) rfl ?_
  intro p e s m args below meth c s₁ R Q hR hQ B hml hv
  obtain ⟨rfl, hP, hK, hN⟩ := hv
  have hx := B.exec
  have hb := B.bytes
  have hr := B.returns
  have hts := atoms_spec (ws := Cond.code yXT_wrongPlace cXT_wrongPlace 1 (some .int) :: TBL) B.pre
  have hown : s.vm.findClass RXT = some m.cls := findClass_of_methodNamed B.named
  have hlocks := B.notSynchronized
  have hP : va_P (dC, dI) vwCl [(ta, .inr (3, [.ref ts, .int (jI tn), .int (jI tp), .int (jI tw)])), (ts, .inl (cA, 400, .inl (jA tf)))] s.heap := hP
  have hl := lv_entry ([.ref ta]) (n := 1) (Nat.le_of_ble_eq_true rfl)
  rw [lg_entry_eq]
  generalize (lg_sl ([.ref ta]) ++ List.replicate (1 - (lg_sl ([.ref ta])).length) Slot.unset).toArray = ls at hl ⊢
  have hl : lv_has ls 1 [(0, .ref ta)] := hl
  refine lv_aload_n hx hb dXT_wrongPlace_0 rfl (lv_at hl 0 rfl) ?_
  refine va_get (D := (dC, dI)) (ci := 3) (v := .int (jI tw)) (C := RXT) (T := TXT) (N := 4) hx hb hts (fun w h => jmem (inXT w h)) hown hK hP 0 rfl rfl 3 (by decide) (hts _ (jmem tw_33)) (fun _ h9 => h9) rfl dXT_wrongPlace_1 ?_
  subst hQ
  exact W.iret (v := jI tw) hx hb hr (fun t ht hW => ⟨_, rfl, congrArg jI (Eq.trans (by rw [f_XT_wrongPlace_s]; try rfl) rfl), ht⟩) (fun _ h => nomatch h) dXT_wrongPlace_4
noncomputable def g_XT_refuse (tn : Int) (tp : Int) (tw : Int) (tf : Int → Int) : Int × Int :=
  (0, tp)
noncomputable def f_XT_refuse : Int → Int → Int → (Int → Int) → Int × Int := jopq g_XT_refuse
theorem f_XT_refuse_q : f_XT_refuse = g_XT_refuse := jopq_eq _
theorem f_XT_refuse_s (tn : Int) (tp : Int) (tw : Int) (tf : Int → Int) : f_XT_refuse tn tp tw tf = (
    (0, tp)
  : Int × Int) := by rw [f_XT_refuse_q]; rfl
theorem f_XT_refuse_b (tn tp tw : Int) (tf : Int → Int) : (f_XT_refuse tn tp tw tf).1 = 0 := by rw [f_XT_refuse_s]
set_option maxHeartbeats 4000000 in
set_option maxRecDepth 100000 in
theorem c_XT_refuse (l : Launch) (dC : Nat → ClassId) (dI : Nat → Nat → Nat) (cA : ClassId) (sz : Nat) (ta : Nat) (ts : Nat) (tn : Int) (tp : Int) (tw : Int) (tf : Int → Int) : Met l yXT_refuse (Cond.code yXT_refuse cXT_refuse 1 (some .boolean) :: TBL) ({ frames := 0, cells := 0, slots := 0, locals := 0 } : Room) (va_Pc [.ref ta] (jBw (dC, dI) [(cA, .int)] [(ta, .inr (3, [.ref ts, .int (jI tn), .int (jI tp), .int (jI tw)])), (ts, .inl (cA, 400, .inl (jA tf)))] sz)) (va_Qi (fun (r : Int32) (u : Int × Int) => r = jI u.1 ∧ u = f_XT_refuse tn tp tw tf) (fun u t => jE (dC, dI) [(cA, .int)] [(ta, .inr (3, [.ref ts, .int (jI tn), .int (jI tp), .int (jI tw)])), (ts, .inl (cA, 400, .inl (jA tf)))] sz [(ta, .inr (3, [.ref ts, .int (jI tn), .int (jI tp), .int (jI u.2)])), (ts, .inl (cA, 400, .inl (jA tf)))] t) (va_A [(ta, .inr (3, [.ref ts, .int (jI tn), .int (jI tp), .int (jI tw)])), (ts, .inl (cA, 400, .inl (jA tf)))] sz)) 0 0 (va_A [(ta, .inr (3, [.ref ts, .int (jI tn), .int (jI tp), .int (jI tw)])), (ts, .inl (cA, 400, .inl (jA tf)))] sz) := by
  refine jMet (cc := cXT_refuse) (maxL := 1) (ret := some .boolean) (by decide) rfl ?_
  intro p e s m args below meth c s₁ R Q hR hQ B hml hv
  obtain ⟨rfl, hsz, hP, hK, hD0, hN⟩ := hv
  have hx := B.exec
  have hb := B.bytes
  have hr := B.returns
  have hts := atoms_spec (ws := Cond.code yXT_refuse cXT_refuse 1 (some .boolean) :: TBL) B.pre
  have hown : s.vm.findClass RXT = some m.cls := findClass_of_methodNamed B.named
  have hlocks := B.notSynchronized
  subst hsz
  obtain ⟨A, hAe⟩ : ∃ A, A = va_A [(ta, .inr (3, [.ref ts, .int (jI tn), .int (jI tp), .int (jI tw)])), (ts, .inl (cA, 400, .inl (jA tf)))] s.heap.size := ⟨_, rfl⟩
  have hD : va_D A [(ta, .inr (3, [.ref ts, .int (jI tn), .int (jI tp), .int (jI tw)])), (ts, .inl (cA, 400, .inl (jA tf)))] := by rw [hAe]; exact hD0.self
  have hA : ∀ q : Nat, s.heap.size ≤ q → A q := fun q h => by rw [hAe]; exact Or.inr h
  have hS : va_S A s.heap s.heap [] := va_S.rf
  have hP : va_P (dC, dI) vwCl [(ta, .inr (3, [.ref ts, .int (jI tn), .int (jI tp), .int (jI tw)])), (ts, .inl (cA, 400, .inl (jA tf)))] s.heap := hP
  have hl := lv_entry ([.ref ta]) (n := 1) (Nat.le_of_ble_eq_true rfl)
  rw [lg_entry_eq]
  generalize (lg_sl ([.ref ta]) ++ List.replicate (1 - (lg_sl ([.ref ta])).length) Slot.unset).toArray = ls at hl ⊢
  have hl : lv_has ls 1 [(0, .ref ta)] := hl
  refine lv_aload_n hx hb dXT_refuse_0 rfl (lv_at hl 0 rfl) ?_
  refine lv_aload_n hx hb dXT_refuse_1 rfl (lv_at hl 0 rfl) ?_
  refine va_get (D := (dC, dI)) (ci := 3) (v := .int (jI tp)) (C := RXT) (T := TXT) (N := 4) hx hb hts (fun w h => jmem (inXT w h)) hown hK hP 0 rfl rfl 2 (by decide) (hts _ (jmem tw_32)) (fun _ h9 => h9) rfl dXT_refuse_2 ?_
  refine va_put (D := (dC, dI)) (ci := 3) (v := .int (jI tp)) (ty := (.int)) (C := RXT) (T := TXT) (N := 4) hx hb hts (fun w h => jmem (inXT w h)) tyXT tyXT_ok nXT hown hK hP hD hS 0 rfl rfl 3 (by decide) (hts _ (jmem tw_33)) (fun _ h9 => h9) rfl (by decide +kernel) rfl rfl (Nat.le_of_ble_eq_true rfl) dXT_refuse_5 (fun H locs hP hD hS => ?_)
  have hP : va_P (dC, dI) vwCl [(ta, .inr (3, [.ref ts, .int (jI tn), .int (jI tp), .int (jI tp)])), (ts, .inl (cA, 400, .inl (jA tf)))] H := hP
  have hD : va_D A [(ta, .inr (3, [.ref ts, .int (jI tn), .int (jI tp), .int (jI tp)])), (ts, .inl (cA, 400, .inl (jA tf)))] := hD
  refine ji_iconst hx hb dXT_refuse_8 ?_
  have hP9 := hP.sub (ws' := [(ta, .inr (3, [.ref ts, .int (jI tn), .int (jI tp), .int (jI tp)])), (ts, .inl (cA, 400, .inl (jA tf)))]) [0, 1] rfl
  have hD9 := hD.sub (ws' := [(ta, .inr (3, [.ref ts, .int (jI tn), .int (jI tp), .int (jI tp)])), (ts, .inl (cA, 400, .inl (jA tf)))]) [0, 1] (by decide) rfl
  subst hAe
  subst hQ
  exact W.zret (v := jI 0) hx hb hr (by first | decide | exact jz (by omega)) (fun t ht hW => ⟨⟨_, (0, tp), rfl, ⟨rfl, Eq.trans (by rw [f_XT_refuse_s]; try rfl) rfl⟩, ⟨by rw [ht]; exact hP9, va_K.moved hW.alike hK, hD9⟩⟩, hS.F ht⟩) hS.2.2 dXT_refuse_9
noncomputable def g_XT_refuseLast (tn : Int) (tp : Int) (tw : Int) (tf : Int → Int) : Int × Int :=
  (0, tp - 1)
noncomputable def f_XT_refuseLast : Int → Int → Int → (Int → Int) → Int × Int := jopq g_XT_refuseLast
theorem f_XT_refuseLast_q : f_XT_refuseLast = g_XT_refuseLast := jopq_eq _
theorem f_XT_refuseLast_s (tn : Int) (tp : Int) (tw : Int) (tf : Int → Int) : f_XT_refuseLast tn tp tw tf = (
    (0, tp - 1)
  : Int × Int) := by rw [f_XT_refuseLast_q]; rfl
theorem f_XT_refuseLast_b (tn tp tw : Int) (tf : Int → Int) : (f_XT_refuseLast tn tp tw tf).1 = 0 := by rw [f_XT_refuseLast_s]
set_option maxHeartbeats 4000000 in
set_option maxRecDepth 100000 in
theorem c_XT_refuseLast (l : Launch) (dC : Nat → ClassId) (dI : Nat → Nat → Nat) (cA : ClassId) (sz : Nat) (ta : Nat) (ts : Nat) (tn : Int) (tp : Int) (tw : Int) (tf : Int → Int) : Met l yXT_refuseLast (Cond.code yXT_refuseLast cXT_refuseLast 1 (some .boolean) :: TBL) ({ frames := 0, cells := 0, slots := 0, locals := 0 } : Room) (va_Pc [.ref ta] (jBw (dC, dI) [(cA, .int)] [(ta, .inr (3, [.ref ts, .int (jI tn), .int (jI tp), .int (jI tw)])), (ts, .inl (cA, 400, .inl (jA tf)))] sz)) (va_Qi (fun (r : Int32) (u : Int × Int) => r = jI u.1 ∧ u = f_XT_refuseLast tn tp tw tf) (fun u t => jE (dC, dI) [(cA, .int)] [(ta, .inr (3, [.ref ts, .int (jI tn), .int (jI tp), .int (jI tw)])), (ts, .inl (cA, 400, .inl (jA tf)))] sz [(ta, .inr (3, [.ref ts, .int (jI tn), .int (jI tp), .int (jI u.2)])), (ts, .inl (cA, 400, .inl (jA tf)))] t) (va_A [(ta, .inr (3, [.ref ts, .int (jI tn), .int (jI tp), .int (jI tw)])), (ts, .inl (cA, 400, .inl (jA tf)))] sz)) 0 0 (va_A [(ta, .inr (3, [.ref ts, .int (jI tn), .int (jI tp), .int (jI tw)])), (ts, .inl (cA, 400, .inl (jA tf)))] sz) := by
  refine jMet (cc := cXT_refuseLast) (maxL := 1) (ret := some .boolean) (by decide) rfl ?_
  intro p e s m args below meth c s₁ R Q hR hQ B hml hv
  obtain ⟨rfl, hsz, hP, hK, hD0, hN⟩ := hv
  have hx := B.exec
  have hb := B.bytes
  have hr := B.returns
  have hts := atoms_spec (ws := Cond.code yXT_refuseLast cXT_refuseLast 1 (some .boolean) :: TBL) B.pre
  have hown : s.vm.findClass RXT = some m.cls := findClass_of_methodNamed B.named
  have hlocks := B.notSynchronized
  subst hsz
  obtain ⟨A, hAe⟩ : ∃ A, A = va_A [(ta, .inr (3, [.ref ts, .int (jI tn), .int (jI tp), .int (jI tw)])), (ts, .inl (cA, 400, .inl (jA tf)))] s.heap.size := ⟨_, rfl⟩
  have hD : va_D A [(ta, .inr (3, [.ref ts, .int (jI tn), .int (jI tp), .int (jI tw)])), (ts, .inl (cA, 400, .inl (jA tf)))] := by rw [hAe]; exact hD0.self
  have hA : ∀ q : Nat, s.heap.size ≤ q → A q := fun q h => by rw [hAe]; exact Or.inr h
  have hS : va_S A s.heap s.heap [] := va_S.rf
  have hP : va_P (dC, dI) vwCl [(ta, .inr (3, [.ref ts, .int (jI tn), .int (jI tp), .int (jI tw)])), (ts, .inl (cA, 400, .inl (jA tf)))] s.heap := hP
  have hl := lv_entry ([.ref ta]) (n := 1) (Nat.le_of_ble_eq_true rfl)
  rw [lg_entry_eq]
  generalize (lg_sl ([.ref ta]) ++ List.replicate (1 - (lg_sl ([.ref ta])).length) Slot.unset).toArray = ls at hl ⊢
  have hl : lv_has ls 1 [(0, .ref ta)] := hl
  refine lv_aload_n hx hb dXT_refuseLast_0 rfl (lv_at hl 0 rfl) ?_
  refine lv_aload_n hx hb dXT_refuseLast_1 rfl (lv_at hl 0 rfl) ?_
  refine va_get (D := (dC, dI)) (ci := 3) (v := .int (jI tp)) (C := RXT) (T := TXT) (N := 4) hx hb hts (fun w h => jmem (inXT w h)) hown hK hP 0 rfl rfl 2 (by decide) (hts _ (jmem tw_32)) (fun _ h9 => h9) rfl dXT_refuseLast_2 ?_
  refine ji_iconst hx hb dXT_refuseLast_5 ?_
  refine ji_isub hx hb dXT_refuseLast_6 ?_
  refine va_put (D := (dC, dI)) (ci := 3) (v := .int (jI (tp - 1))) (ty := (.int)) (C := RXT) (T := TXT) (N := 4) hx hb hts (fun w h => jmem (inXT w h)) tyXT tyXT_ok nXT hown hK hP hD hS 0 rfl rfl 3 (by decide) (hts _ (jmem tw_33)) (fun _ h9 => h9) rfl (by decide +kernel) rfl rfl (Nat.le_of_ble_eq_true rfl) dXT_refuseLast_7 (fun H locs hP hD hS => ?_)
  have hP : va_P (dC, dI) vwCl [(ta, .inr (3, [.ref ts, .int (jI tn), .int (jI tp), .int (jI (tp - 1))])), (ts, .inl (cA, 400, .inl (jA tf)))] H := hP
  have hD : va_D A [(ta, .inr (3, [.ref ts, .int (jI tn), .int (jI tp), .int (jI (tp - 1))])), (ts, .inl (cA, 400, .inl (jA tf)))] := hD
  refine ji_iconst hx hb dXT_refuseLast_10 ?_
  have hP9 := hP.sub (ws' := [(ta, .inr (3, [.ref ts, .int (jI tn), .int (jI tp), .int (jI (tp - 1))])), (ts, .inl (cA, 400, .inl (jA tf)))]) [0, 1] rfl
  have hD9 := hD.sub (ws' := [(ta, .inr (3, [.ref ts, .int (jI tn), .int (jI tp), .int (jI (tp - 1))])), (ts, .inl (cA, 400, .inl (jA tf)))]) [0, 1] (by decide) rfl
  subst hAe
  subst hQ
  exact W.zret (v := jI 0) hx hb hr (by first | decide | exact jz (by omega)) (fun t ht hW => ⟨⟨_, (0, tp - 1), rfl, ⟨rfl, Eq.trans (by rw [f_XT_refuseLast_s]; try rfl) rfl⟩, ⟨by rw [ht]; exact hP9, va_K.moved hW.alike hK, hD9⟩⟩, hS.F ht⟩) hS.2.2 dXT_refuseLast_11
noncomputable def g_XT_hasRoom (tn : Int) (tp : Int) (tw : Int) (tf : Int → Int) (zn : Int) : Int :=
  if (400 - tn) < zn then
    0
  else
    1
noncomputable def f_XT_hasRoom : Int → Int → Int → (Int → Int) → Int → Int := jopq g_XT_hasRoom
theorem f_XT_hasRoom_q : f_XT_hasRoom = g_XT_hasRoom := jopq_eq _
theorem f_XT_hasRoom_s (tn : Int) (tp : Int) (tw : Int) (tf : Int → Int) (zn : Int) : f_XT_hasRoom tn tp tw tf zn = (
    if (400 - tn) < zn then
      0
    else
      1
  : Int) := by rw [f_XT_hasRoom_q]; rfl
theorem f_XT_hasRoom_b (tn : Int) (tp : Int) (tw : Int) (tf : Int → Int) (zn : Int) (hn : 0 ≤ tn ∧ tn ≤ 400) (hz : i32 zn) : ((f_XT_hasRoom tn tp tw tf zn) = 1 ∧ tn + zn ≤ 400) ∨ ((f_XT_hasRoom tn tp tw tf zn) = 0 ∧ 400 < tn + zn) := by rw [f_XT_hasRoom_s]; split <;> omega
set_option maxHeartbeats 4000000 in
set_option maxRecDepth 100000 in
theorem c_XT_hasRoom (l : Launch) (dC : Nat → ClassId) (dI : Nat → Nat → Nat) (cA : ClassId) (ta : Nat) (ts : Nat) (tn : Int) (tp : Int) (tw : Int) (tf : Int → Int) (zn : Int) (hn : 0 ≤ tn ∧ tn ≤ 400) (hz : i32 zn) : Met l yXT_hasRoom (Cond.code yXT_hasRoom cXT_hasRoom 2 (some .boolean) :: TBL) ({ frames := 0, cells := 0, slots := 0, locals := 0 } : Room) (va_Pc [.ref ta, .int (jI zn)] (jB (dC, dI) [(cA, .int)] [(ta, .inr (3, [.ref ts, .int (jI tn), .int (jI tp), .int (jI tw)])), (ts, .inl (cA, 400, .inl (jA tf)))])) (vp_Si (fun r => r = jI (f_XT_hasRoom tn tp tw tf zn))) 0 0 (fun _ => False) := by
  refine jMet (cc := cXT_hasRoom) (maxL := 2) (ret := some .boolean) (by decide) rfl ?_
  intro p e s m args below meth c s₁ R Q hR hQ B hml hv
  obtain ⟨rfl, hP, hK, hN⟩ := hv
  have hx := B.exec
  have hb := B.bytes
  have hr := B.returns
  have hts := atoms_spec (ws := Cond.code yXT_hasRoom cXT_hasRoom 2 (some .boolean) :: TBL) B.pre
  have hown : s.vm.findClass RXT = some m.cls := findClass_of_methodNamed B.named
  have hlocks := B.notSynchronized
  have hP : va_P (dC, dI) vwCl [(ta, .inr (3, [.ref ts, .int (jI tn), .int (jI tp), .int (jI tw)])), (ts, .inl (cA, 400, .inl (jA tf)))] s.heap := hP
  have hl := lv_entry ([.ref ta, .int (jI zn)]) (n := 2) (Nat.le_of_ble_eq_true rfl)
  rw [lg_entry_eq]
  generalize (lg_sl ([.ref ta, .int (jI zn)]) ++ List.replicate (2 - (lg_sl ([.ref ta, .int (jI zn)])).length) Slot.unset).toArray = ls at hl ⊢
  have hl : lv_has ls 2 [(0, .ref ta), (1, .int (jI zn))] := hl
  refine lv_iload_n hx hb dXT_hasRoom_0 rfl (lv_at hl 1 rfl) ?_
  refine ji_sipush hx hb dXT_hasRoom_1 (by decide) ?_
  refine lv_aload_n hx hb dXT_hasRoom_4 rfl (lv_at hl 0 rfl) ?_
  refine va_get (D := (dC, dI)) (ci := 3) (v := .int (jI tn)) (C := RXT) (T := TXT) (N := 4) hx hb hts (fun w h => jmem (inXT w h)) hown hK hP 0 rfl rfl 1 (by decide) (hts _ (jmem tw_31)) (fun _ h9 => h9) rfl dXT_hasRoom_5 ?_
  refine ji_isub hx hb dXT_hasRoom_8 ?_
  refine ji_icmp_gt (tgt := 16) hx hb dXT_hasRoom_9 (by decide) (by omega) (by omega) (fun c9_ => ?_) (fun c9_ => ?_)
  · refine ji_iconst hx hb dXT_hasRoom_16 ?_
    subst hQ
    exact W.zret (v := jI 0) hx hb hr (by first | decide | exact jz (by omega)) (fun t ht hW => ⟨_, rfl, congrArg jI (Eq.trans (by rw [f_XT_hasRoom_s]; rw [if_pos c9_]; try rfl) rfl), ht⟩) (fun _ h => nomatch h) dXT_hasRoom_17
  · refine ji_iconst hx hb dXT_hasRoom_12 ?_
    refine lv_goto (tgt := 17) hx hb dXT_hasRoom_13 (by decide) ?_
    subst hQ
    exact W.zret (v := jI 1) hx hb hr (by first | decide | exact jz (by omega)) (fun t ht hW => ⟨_, rfl, congrArg jI (Eq.trans (by rw [f_XT_hasRoom_s]; rw [if_neg (Int.not_lt.mpr c9_)]; try rfl) rfl), ht⟩) (fun _ h => nomatch h) dXT_hasRoom_17
noncomputable def g_XT_here (tn : Int) (tp : Int) (tw : Int) (tf : Int → Int) : Int :=
  if tp < tn then
    tf tp
  else
    -1
noncomputable def f_XT_here : Int → Int → Int → (Int → Int) → Int := jopq g_XT_here
theorem f_XT_here_q : f_XT_here = g_XT_here := jopq_eq _
theorem f_XT_here_s (tn : Int) (tp : Int) (tw : Int) (tf : Int → Int) : f_XT_here tn tp tw tf = (
    if tp < tn then
      tf tp
    else
      -1
  : Int) := by rw [f_XT_here_q]; rfl
theorem f_XT_here_b (tn tp tw : Int) (tf : Int → Int) (hn : 0 ≤ tn ∧ tn ≤ 400) (hp : 0 ≤ tp ∧ tp ≤ tn) (hf : ∀ i, 0 ≤ tf i ∧ tf i < 256) : -1 ≤ f_XT_here tn tp tw tf ∧ f_XT_here tn tp tw tf < 256 ∧ (0 ≤ f_XT_here tn tp tw tf → tp < tn) := by have := hf tp; rw [f_XT_here_s]; split <;> omega
set_option maxHeartbeats 4000000 in
set_option maxRecDepth 100000 in
theorem c_XT_here (l : Launch) (dC : Nat → ClassId) (dI : Nat → Nat → Nat) (cA : ClassId) (ta : Nat) (ts : Nat) (tn : Int) (tp : Int) (tw : Int) (tf : Int → Int) (hn : 0 ≤ tn ∧ tn ≤ 400) (hp : 0 ≤ tp ∧ tp ≤ tn) (hf : ∀ i, 0 ≤ tf i ∧ tf i < 256) : Met l yXT_here (Cond.code yXT_here cXT_here 1 (some .int) :: TBL) ({ frames := 0, cells := 0, slots := 0, locals := 0 } : Room) (va_Pc [.ref ta] (jB (dC, dI) [(cA, .int)] [(ta, .inr (3, [.ref ts, .int (jI tn), .int (jI tp), .int (jI tw)])), (ts, .inl (cA, 400, .inl (jA tf)))])) (vp_Si (fun r => r = jI (f_XT_here tn tp tw tf))) 0 0 (fun _ => False) := by
  refine jMet (cc := cXT_here) (maxL := 1) (ret := some .int) (by decide) rfl ?_
  intro p e s m args below meth c s₁ R Q hR hQ B hml hv
  obtain ⟨rfl, hP, hK, hN⟩ := hv
  have hx := B.exec
  have hb := B.bytes
  have hr := B.returns
  have hts := atoms_spec (ws := Cond.code yXT_here cXT_here 1 (some .int) :: TBL) B.pre
  have hown : s.vm.findClass RXT = some m.cls := findClass_of_methodNamed B.named
  have hlocks := B.notSynchronized
  have hP : va_P (dC, dI) vwCl [(ta, .inr (3, [.ref ts, .int (jI tn), .int (jI tp), .int (jI tw)])), (ts, .inl (cA, 400, .inl (jA tf)))] s.heap := hP
  have hl := lv_entry ([.ref ta]) (n := 1) (Nat.le_of_ble_eq_true rfl)
  rw [lg_entry_eq]
  generalize (lg_sl ([.ref ta]) ++ List.replicate (1 - (lg_sl ([.ref ta])).length) Slot.unset).toArray = ls at hl ⊢
  have hl : lv_has ls 1 [(0, .ref ta)] := hl
  refine lv_aload_n hx hb dXT_here_0 rfl (lv_at hl 0 rfl) ?_
  refine va_get (D := (dC, dI)) (ci := 3) (v := .int (jI tp)) (C := RXT) (T := TXT) (N := 4) hx hb hts (fun w h => jmem (inXT w h)) hown hK hP 0 rfl rfl 2 (by decide) (hts _ (jmem tw_32)) (fun _ h9 => h9) rfl dXT_here_1 ?_
  refine lv_aload_n hx hb dXT_here_4 rfl (lv_at hl 0 rfl) ?_
  refine va_get (D := (dC, dI)) (ci := 3) (v := .int (jI tn)) (C := RXT) (T := TXT) (N := 4) hx hb hts (fun w h => jmem (inXT w h)) hown hK hP 0 rfl rfl 1 (by decide) (hts _ (jmem tw_31)) (fun _ h9 => h9) rfl dXT_here_5 ?_
  refine ji_icmp_ge (tgt := 23) hx hb dXT_here_8 (by decide) (by omega) (by omega) (fun c8_ => ?_) (fun c8_ => ?_)
  · refine ji_iconst hx hb dXT_here_23 ?_
    subst hQ
    exact W.iret (v := jI (-1)) hx hb hr (fun t ht hW => ⟨_, rfl, congrArg jI (Eq.trans (by rw [f_XT_here_s]; rw [if_neg (Int.not_lt.mpr c8_)]; try rfl) rfl), ht⟩) (fun _ h => nomatch h) dXT_here_24
  · refine lv_aload_n hx hb dXT_here_11 rfl (lv_at hl 0 rfl) ?_
    refine va_get (D := (dC, dI)) (ci := 3) (v := .ref ts) (C := RXT) (T := TXT) (N := 4) hx hb hts (fun w h => jmem (inXT w h)) hown hK hP 0 rfl rfl 0 (by decide) (hts _ (jmem tw_30)) (fun _ h9 => h9) rfl dXT_here_12 ?_
    refine lv_aload_n hx hb dXT_here_15 rfl (lv_at hl 0 rfl) ?_
    refine va_get (D := (dC, dI)) (ci := 3) (v := .int (jI tp)) (C := RXT) (T := TXT) (N := 4) hx hb hts (fun w h => jmem (inXT w h)) hown hK hP 0 rfl rfl 2 (by decide) (hts _ (jmem tw_32)) (fun _ h9 => h9) rfl dXT_here_16 ?_
    refine ji_iald hx hb hK hP 1 0 rfl rfl ⟨by omega, by omega⟩ (by decide) dXT_here_19 ?_
    have rb := hf tp
    refine lv_goto (tgt := 24) hx hb dXT_here_20 (by decide) ?_
    subst hQ
    exact W.iret (v := jI (tf tp)) hx hb hr (fun t ht hW => ⟨_, rfl, congrArg jI (Eq.trans (by rw [f_XT_here_s]; rw [if_pos c8_]; try rfl) rfl), ht⟩) (fun _ h => nomatch h) dXT_here_24
noncomputable def g_XT_next_L0 (tn : Int) (tp : Int) (tw : Int) (tf : Int → Int) : Nat → Int → Int × Int
  | 0, _ => (0, 0)
  | n9 + 1, q =>
    if q < tn then
      if (tf q) = 32 then
        g_XT_next_L0 tn tp tw tf n9 (q + 1)
      else
        if q < tn then
          (tf q, q)
        else
          (-1, q)
    else
      if q < tn then
        (tf q, q)
      else
        (-1, q)
noncomputable def f_XT_next_L0 : Int → Int → Int → (Int → Int) → Nat → Int → Int × Int := jopq g_XT_next_L0
theorem f_XT_next_L0_q : f_XT_next_L0 = g_XT_next_L0 := jopq_eq _
theorem f_XT_next_L0_s (tn : Int) (tp : Int) (tw : Int) (tf : Int → Int) (n9 : Nat) (q : Int) : f_XT_next_L0 tn tp tw tf (n9 + 1) q = (
    if q < tn then
      if (tf q) = 32 then
        f_XT_next_L0 tn tp tw tf n9 (q + 1)
      else
        if q < tn then
          (tf q, q)
        else
          (-1, q)
    else
      if q < tn then
        (tf q, q)
      else
        (-1, q)
  : Int × Int) := by rw [f_XT_next_L0_q]; rfl
noncomputable def g_XT_next (tn : Int) (tp : Int) (tw : Int) (tf : Int → Int) : Int × Int :=
  f_XT_next_L0 tn tp tw tf (Int.toNat (tn - tp) + 1) tp
noncomputable def f_XT_next : Int → Int → Int → (Int → Int) → Int × Int := jopq g_XT_next
theorem f_XT_next_q : f_XT_next = g_XT_next := jopq_eq _
theorem f_XT_next_s (tn : Int) (tp : Int) (tw : Int) (tf : Int → Int) : f_XT_next tn tp tw tf = (
    f_XT_next_L0 tn tp tw tf (Int.toNat (tn - tp) + 1) tp
  : Int × Int) := by rw [f_XT_next_q]; rfl
theorem f_XT_next_L_b (tn tp tw : Int) (tf : Int → Int) (hf : ∀ i, 0 ≤ tf i ∧ tf i < 256) : ∀ (n : Nat) (q : Int), tn - q < (n : Int) → 0 ≤ q → q ≤ tn → (q ≤ (f_XT_next_L0 tn tp tw tf n q).2 ∧ (f_XT_next_L0 tn tp tw tf n q).2 ≤ tn ∧ -1 ≤ (f_XT_next_L0 tn tp tw tf n q).1 ∧ (f_XT_next_L0 tn tp tw tf n q).1 < 256 ∧ (0 ≤ (f_XT_next_L0 tn tp tw tf n q).1 → (f_XT_next_L0 tn tp tw tf n q).2 < tn)) := by
  intro n
  induction n with
  | zero => intro q h; omega
  | succ n ih =>
    intro q h h1 h2
    have hq := hf q
    rw [f_XT_next_L0_s]
    split
    · split
      · have := ih (q + 1) (by omega) (by omega) (by omega)
        omega
      · (try split) <;> dsimp only <;> omega
    · (try split) <;> dsimp only <;> omega
theorem f_XT_next_b (tn tp tw : Int) (tf : Int → Int) (hn : 0 ≤ tn ∧ tn ≤ 400) (hp : 0 ≤ tp ∧ tp ≤ tn) (hf : ∀ i, 0 ≤ tf i ∧ tf i < 256) : tp ≤ (f_XT_next tn tp tw tf).2 ∧ (f_XT_next tn tp tw tf).2 ≤ tn ∧ -1 ≤ (f_XT_next tn tp tw tf).1 ∧ (f_XT_next tn tp tw tf).1 < 256 ∧ (0 ≤ (f_XT_next tn tp tw tf).1 → (f_XT_next tn tp tw tf).2 < tn) := by rw [f_XT_next_s]; exact f_XT_next_L_b tn tp tw tf hf _ _ (by omega) (by omega) (by omega)
set_option maxHeartbeats 4000000 in
set_option maxRecDepth 100000 in
theorem c_XT_next (l : Launch) (dC : Nat → ClassId) (dI : Nat → Nat → Nat) (cA : ClassId) (sz : Nat) (ta : Nat) (ts : Nat) (tn : Int) (tp : Int) (tw : Int) (tf : Int → Int) (hn : 0 ≤ tn ∧ tn ≤ 400) (hp : 0 ≤ tp ∧ tp ≤ tn) (hf : ∀ i, 0 ≤ tf i ∧ tf i < 256) : Met l yXT_next (Cond.code yXT_next cXT_next 1 (some .int) :: TBL) ({ frames := 0, cells := 0, slots := 0, locals := 0 } : Room) (va_Pc [.ref ta] (jBw (dC, dI) [(cA, .int)] [(ta, .inr (3, [.ref ts, .int (jI tn), .int (jI tp), .int (jI tw)])), (ts, .inl (cA, 400, .inl (jA tf)))] sz)) (va_Qi (fun (r : Int32) (u : Int × Int) => r = jI u.1 ∧ u = f_XT_next tn tp tw tf) (fun u t => jE (dC, dI) [(cA, .int)] [(ta, .inr (3, [.ref ts, .int (jI tn), .int (jI tp), .int (jI tw)])), (ts, .inl (cA, 400, .inl (jA tf)))] sz [(ta, .inr (3, [.ref ts, .int (jI tn), .int (jI u.2), .int (jI tw)])), (ts, .inl (cA, 400, .inl (jA tf)))] t) (va_A [(ta, .inr (3, [.ref ts, .int (jI tn), .int (jI tp), .int (jI tw)])), (ts, .inl (cA, 400, .inl (jA tf)))] sz)) 0 0 (va_A [(ta, .inr (3, [.ref ts, .int (jI tn), .int (jI tp), .int (jI tw)])), (ts, .inl (cA, 400, .inl (jA tf)))] sz) := by
  refine jMet (cc := cXT_next) (maxL := 1) (ret := some .int) (by decide) rfl ?_
  intro p e s m args below meth c s₁ R Q hR hQ B hml hv
  obtain ⟨rfl, hsz, hP, hK, hD0, hN⟩ := hv
  have hx := B.exec
  have hb := B.bytes
  have hr := B.returns
  have hts := atoms_spec (ws := Cond.code yXT_next cXT_next 1 (some .int) :: TBL) B.pre
  have hown : s.vm.findClass RXT = some m.cls := findClass_of_methodNamed B.named
  have hlocks := B.notSynchronized
  subst hsz
  obtain ⟨A, hAe⟩ : ∃ A, A = va_A [(ta, .inr (3, [.ref ts, .int (jI tn), .int (jI tp), .int (jI tw)])), (ts, .inl (cA, 400, .inl (jA tf)))] s.heap.size := ⟨_, rfl⟩
  have hD : va_D A [(ta, .inr (3, [.ref ts, .int (jI tn), .int (jI tp), .int (jI tw)])), (ts, .inl (cA, 400, .inl (jA tf)))] := by rw [hAe]; exact hD0.self
  have hA : ∀ q : Nat, s.heap.size ≤ q → A q := fun q h => by rw [hAe]; exact Or.inr h
  have hS : va_S A s.heap s.heap [] := va_S.rf
  have hP : va_P (dC, dI) vwCl [(ta, .inr (3, [.ref ts, .int (jI tn), .int (jI tp), .int (jI tw)])), (ts, .inl (cA, 400, .inl (jA tf)))] s.heap := hP
  have hl := lv_entry ([.ref ta]) (n := 1) (Nat.le_of_ble_eq_true rfl)
  rw [lg_entry_eq]
  generalize (lg_sl ([.ref ta]) ++ List.replicate (1 - (lg_sl ([.ref ta])).length) Slot.unset).toArray = ls at hl ⊢
  have hl : lv_has ls 1 [(0, .ref ta)] := hl
  have loop0 : ∀ (n9 : Nat) (q : Int) , tn - q < (n9 : Int) → f_XT_next_L0 tn tp tw tf n9 q = f_XT_next tn tp tw tf → (tp ≤ q ∧ q ≤ tn) → ∀ (H : Heap) (locs : List Loc), va_P (dC, dI) vwCl [(ta, .inr (3, [.ref ts, .int (jI tn), .int (jI q), .int (jI tw)])), (ts, .inl (cA, 400, .inl (jA tf)))] H → va_D A [(ta, .inr (3, [.ref ts, .int (jI tn), .int (jI q), .int (jI tw)])), (ts, .inl (cA, 400, .inl (jA tf)))] → va_S A s.heap H locs → ∀ ls : Array Slot, lv_has ls 1 [(0, .ref ta)] → W p l e R s m ([.ref ta] : List Value).toArray below meth c H locs 0 0 Q (F0 m 0 ls []) := by
    intro n9
    induction n9 with
    | zero =>
      intro q hm hF hq
      exact absurd hm (by omega)
    | succ n9 ih0 =>
      intro q hm hF hq H locs hP hD hS ls hl
      refine lv_aload_n hx hb dXT_next_0 rfl (lv_at hl 0 rfl) ?_
      refine va_get (D := (dC, dI)) (ci := 3) (v := .int (jI q)) (C := RXT) (T := TXT) (N := 4) hx hb hts (fun w h => jmem (inXT w h)) hown hK hP 0 rfl rfl 2 (by decide) (hts _ (jmem tw_32)) (fun _ h9 => h9) rfl dXT_next_1 ?_
      refine lv_aload_n hx hb dXT_next_4 rfl (lv_at hl 0 rfl) ?_
      refine va_get (D := (dC, dI)) (ci := 3) (v := .int (jI tn)) (C := RXT) (T := TXT) (N := 4) hx hb hts (fun w h => jmem (inXT w h)) hown hK hP 0 rfl rfl 1 (by decide) (hts _ (jmem tw_31)) (fun _ h9 => h9) rfl dXT_next_5 ?_
      refine ji_icmp_ge (tgt := 38) hx hb dXT_next_8 (by decide) (by omega) (by omega) (fun c8_ => ?_) (fun c8_ => ?_)
      · refine lv_aload_n hx hb dXT_next_38 rfl (lv_at hl 0 rfl) ?_
        refine va_get (D := (dC, dI)) (ci := 3) (v := .int (jI q)) (C := RXT) (T := TXT) (N := 4) hx hb hts (fun w h => jmem (inXT w h)) hown hK hP 0 rfl rfl 2 (by decide) (hts _ (jmem tw_32)) (fun _ h9 => h9) rfl dXT_next_39 ?_
        refine lv_aload_n hx hb dXT_next_42 rfl (lv_at hl 0 rfl) ?_
        refine va_get (D := (dC, dI)) (ci := 3) (v := .int (jI tn)) (C := RXT) (T := TXT) (N := 4) hx hb hts (fun w h => jmem (inXT w h)) hown hK hP 0 rfl rfl 1 (by decide) (hts _ (jmem tw_31)) (fun _ h9 => h9) rfl dXT_next_43 ?_
        refine ji_icmp_ge (tgt := 61) hx hb dXT_next_46 (by decide) (by omega) (by omega) (fun c46_ => ?_) (fun c46_ => ?_)
        · refine ji_iconst hx hb dXT_next_61 ?_
          have hP9 := hP.sub (ws' := [(ta, .inr (3, [.ref ts, .int (jI tn), .int (jI q), .int (jI tw)])), (ts, .inl (cA, 400, .inl (jA tf)))]) [0, 1] rfl
          have hD9 := hD.sub (ws' := [(ta, .inr (3, [.ref ts, .int (jI tn), .int (jI q), .int (jI tw)])), (ts, .inl (cA, 400, .inl (jA tf)))]) [0, 1] (by decide) rfl
          subst hAe
          subst hQ
          exact W.iret (v := jI (-1)) hx hb hr (fun t ht hW => ⟨⟨_, (-1, q), rfl, ⟨rfl, Eq.trans (by rw [f_XT_next_L0_s]; rw [if_neg (Int.not_lt.mpr c8_), if_neg (Int.not_lt.mpr c46_)]; try rfl) hF⟩, ⟨by rw [ht]; exact hP9, va_K.moved hW.alike hK, hD9⟩⟩, hS.F ht⟩) hS.2.2 dXT_next_62
        · refine lv_aload_n hx hb dXT_next_49 rfl (lv_at hl 0 rfl) ?_
          refine va_get (D := (dC, dI)) (ci := 3) (v := .ref ts) (C := RXT) (T := TXT) (N := 4) hx hb hts (fun w h => jmem (inXT w h)) hown hK hP 0 rfl rfl 0 (by decide) (hts _ (jmem tw_30)) (fun _ h9 => h9) rfl dXT_next_50 ?_
          refine lv_aload_n hx hb dXT_next_53 rfl (lv_at hl 0 rfl) ?_
          refine va_get (D := (dC, dI)) (ci := 3) (v := .int (jI q)) (C := RXT) (T := TXT) (N := 4) hx hb hts (fun w h => jmem (inXT w h)) hown hK hP 0 rfl rfl 2 (by decide) (hts _ (jmem tw_32)) (fun _ h9 => h9) rfl dXT_next_54 ?_
          refine ji_iald hx hb hK hP 1 0 rfl rfl ⟨by omega, by omega⟩ (by decide) dXT_next_57 ?_
          have rb := hf q
          refine lv_goto (tgt := 62) hx hb dXT_next_58 (by decide) ?_
          have hP9 := hP.sub (ws' := [(ta, .inr (3, [.ref ts, .int (jI tn), .int (jI q), .int (jI tw)])), (ts, .inl (cA, 400, .inl (jA tf)))]) [0, 1] rfl
          have hD9 := hD.sub (ws' := [(ta, .inr (3, [.ref ts, .int (jI tn), .int (jI q), .int (jI tw)])), (ts, .inl (cA, 400, .inl (jA tf)))]) [0, 1] (by decide) rfl
          subst hAe
          subst hQ
          exact W.iret (v := jI (tf q)) hx hb hr (fun t ht hW => ⟨⟨_, (tf q, q), rfl, ⟨rfl, Eq.trans (by rw [f_XT_next_L0_s]; rw [if_neg (Int.not_lt.mpr c8_), if_pos c46_]; try rfl) hF⟩, ⟨by rw [ht]; exact hP9, va_K.moved hW.alike hK, hD9⟩⟩, hS.F ht⟩) hS.2.2 dXT_next_62
      · refine lv_aload_n hx hb dXT_next_11 rfl (lv_at hl 0 rfl) ?_
        refine va_get (D := (dC, dI)) (ci := 3) (v := .ref ts) (C := RXT) (T := TXT) (N := 4) hx hb hts (fun w h => jmem (inXT w h)) hown hK hP 0 rfl rfl 0 (by decide) (hts _ (jmem tw_30)) (fun _ h9 => h9) rfl dXT_next_12 ?_
        refine lv_aload_n hx hb dXT_next_15 rfl (lv_at hl 0 rfl) ?_
        refine va_get (D := (dC, dI)) (ci := 3) (v := .int (jI q)) (C := RXT) (T := TXT) (N := 4) hx hb hts (fun w h => jmem (inXT w h)) hown hK hP 0 rfl rfl 2 (by decide) (hts _ (jmem tw_32)) (fun _ h9 => h9) rfl dXT_next_16 ?_
        refine ji_iald hx hb hK hP 1 0 rfl rfl ⟨by omega, by omega⟩ (by decide) dXT_next_19 ?_
        have rb1 := hf q
        refine ji_bipush hx hb dXT_next_20 (by decide) ?_
        refine ji_icmp_ne (tgt := 38) hx hb dXT_next_22 (by decide) (by omega) (by omega) (fun c22_ => ?_) (fun c22_ => ?_)
        · refine lv_aload_n hx hb dXT_next_38 rfl (lv_at hl 0 rfl) ?_
          refine va_get (D := (dC, dI)) (ci := 3) (v := .int (jI q)) (C := RXT) (T := TXT) (N := 4) hx hb hts (fun w h => jmem (inXT w h)) hown hK hP 0 rfl rfl 2 (by decide) (hts _ (jmem tw_32)) (fun _ h9 => h9) rfl dXT_next_39 ?_
          refine lv_aload_n hx hb dXT_next_42 rfl (lv_at hl 0 rfl) ?_
          refine va_get (D := (dC, dI)) (ci := 3) (v := .int (jI tn)) (C := RXT) (T := TXT) (N := 4) hx hb hts (fun w h => jmem (inXT w h)) hown hK hP 0 rfl rfl 1 (by decide) (hts _ (jmem tw_31)) (fun _ h9 => h9) rfl dXT_next_43 ?_
          refine ji_icmp_ge (tgt := 61) hx hb dXT_next_46 (by decide) (by omega) (by omega) (fun c46_2 => ?_) (fun c46_2 => ?_)
          · refine ji_iconst hx hb dXT_next_61 ?_
            have hP9 := hP.sub (ws' := [(ta, .inr (3, [.ref ts, .int (jI tn), .int (jI q), .int (jI tw)])), (ts, .inl (cA, 400, .inl (jA tf)))]) [0, 1] rfl
            have hD9 := hD.sub (ws' := [(ta, .inr (3, [.ref ts, .int (jI tn), .int (jI q), .int (jI tw)])), (ts, .inl (cA, 400, .inl (jA tf)))]) [0, 1] (by decide) rfl
            subst hAe
            subst hQ
            exact W.iret (v := jI (-1)) hx hb hr (fun t ht hW => ⟨⟨_, (-1, q), rfl, ⟨rfl, Eq.trans (by rw [f_XT_next_L0_s]; rw [if_pos c8_, if_neg c22_, if_neg (Int.not_lt.mpr c46_2)]; try rfl) hF⟩, ⟨by rw [ht]; exact hP9, va_K.moved hW.alike hK, hD9⟩⟩, hS.F ht⟩) hS.2.2 dXT_next_62
          · refine lv_aload_n hx hb dXT_next_49 rfl (lv_at hl 0 rfl) ?_
            refine va_get (D := (dC, dI)) (ci := 3) (v := .ref ts) (C := RXT) (T := TXT) (N := 4) hx hb hts (fun w h => jmem (inXT w h)) hown hK hP 0 rfl rfl 0 (by decide) (hts _ (jmem tw_30)) (fun _ h9 => h9) rfl dXT_next_50 ?_
            refine lv_aload_n hx hb dXT_next_53 rfl (lv_at hl 0 rfl) ?_
            refine va_get (D := (dC, dI)) (ci := 3) (v := .int (jI q)) (C := RXT) (T := TXT) (N := 4) hx hb hts (fun w h => jmem (inXT w h)) hown hK hP 0 rfl rfl 2 (by decide) (hts _ (jmem tw_32)) (fun _ h9 => h9) rfl dXT_next_54 ?_
            refine ji_iald hx hb hK hP 1 0 rfl rfl ⟨by omega, by omega⟩ (by decide) dXT_next_57 ?_
            have rb3 := hf q
            refine lv_goto (tgt := 62) hx hb dXT_next_58 (by decide) ?_
            have hP9 := hP.sub (ws' := [(ta, .inr (3, [.ref ts, .int (jI tn), .int (jI q), .int (jI tw)])), (ts, .inl (cA, 400, .inl (jA tf)))]) [0, 1] rfl
            have hD9 := hD.sub (ws' := [(ta, .inr (3, [.ref ts, .int (jI tn), .int (jI q), .int (jI tw)])), (ts, .inl (cA, 400, .inl (jA tf)))]) [0, 1] (by decide) rfl
            subst hAe
            subst hQ
            exact W.iret (v := jI (tf q)) hx hb hr (fun t ht hW => ⟨⟨_, (tf q, q), rfl, ⟨rfl, Eq.trans (by rw [f_XT_next_L0_s]; rw [if_pos c8_, if_neg c22_, if_pos c46_2]; try rfl) hF⟩, ⟨by rw [ht]; exact hP9, va_K.moved hW.alike hK, hD9⟩⟩, hS.F ht⟩) hS.2.2 dXT_next_62
        · refine lv_aload_n hx hb dXT_next_25 rfl (lv_at hl 0 rfl) ?_
          refine lv_dup hx hb dXT_next_26 rfl ?_
          refine va_get (D := (dC, dI)) (ci := 3) (v := .int (jI q)) (C := RXT) (T := TXT) (N := 4) hx hb hts (fun w h => jmem (inXT w h)) hown hK hP 0 rfl rfl 2 (by decide) (hts _ (jmem tw_32)) (fun _ h9 => h9) rfl dXT_next_27 ?_
          refine ji_iconst hx hb dXT_next_30 ?_
          refine ji_iadd hx hb dXT_next_31 ?_
          refine va_put (D := (dC, dI)) (ci := 3) (v := .int (jI (q + 1))) (ty := (.int)) (C := RXT) (T := TXT) (N := 4) hx hb hts (fun w h => jmem (inXT w h)) tyXT tyXT_ok nXT hown hK hP hD hS 0 rfl rfl 2 (by decide) (hts _ (jmem tw_32)) (fun _ h9 => h9) rfl (by decide +kernel) rfl rfl (Nat.le_of_ble_eq_true rfl) dXT_next_32 (fun H locs hP hD hS => ?_)
          have hP : va_P (dC, dI) vwCl [(ta, .inr (3, [.ref ts, .int (jI tn), .int (jI (q + 1)), .int (jI tw)])), (ts, .inl (cA, 400, .inl (jA tf)))] H := hP
          have hD : va_D A [(ta, .inr (3, [.ref ts, .int (jI tn), .int (jI (q + 1)), .int (jI tw)])), (ts, .inl (cA, 400, .inl (jA tf)))] := hD
          refine lv_goto (tgt := 0) hx hb dXT_next_35 (by decide) ?_
          exact ih0 (q + 1) (by omega) (Eq.trans (by rw [f_XT_next_L0_s]; rw [if_pos c8_, if_pos c22_]; try rfl) hF) (by first | assumption | omega) _ _ hP hD hS ls (lv_sub hl [0] rfl)
  exact loop0 (Int.toNat (tn - tp) + 1) tp (by omega) (Eq.trans (by rw [f_XT_next_s]; try rfl) rfl) (by first | assumption | omega) _ _ hP hD hS ls (lv_sub hl [0] rfl)

end
section
noncomputable def g_XT_skipIf (tn : Int) (tp : Int) (tw : Int) (tf : Int → Int) (zs : Int) : Int × Int :=
  match f_XT_next tn tp tw tf with
  | (r, tp1') =>
    if r = zs then
      (1, tp1' + 1)
    else
      (0, tp1')
noncomputable def f_XT_skipIf : Int → Int → Int → (Int → Int) → Int → Int × Int := jopq g_XT_skipIf
theorem f_XT_skipIf_q : f_XT_skipIf = g_XT_skipIf := jopq_eq _
theorem f_XT_skipIf_s (tn : Int) (tp : Int) (tw : Int) (tf : Int → Int) (zs : Int) : f_XT_skipIf tn tp tw tf zs = (
    match f_XT_next tn tp tw tf with
    | (r, tp1') =>
      if r = zs then
        (1, tp1' + 1)
      else
        (0, tp1')
  : Int × Int) := by rw [f_XT_skipIf_q]; rfl
theorem f_XT_skipIf_b (tn tp tw : Int) (tf : Int → Int) (zs : Int) (hn : 0 ≤ tn ∧ tn ≤ 400) (hp : 0 ≤ tp ∧ tp ≤ tn) (hf : ∀ i, 0 ≤ tf i ∧ tf i < 256) (hz : i32 zs) (hz0 : 0 ≤ zs) : (0 ≤ (f_XT_skipIf tn tp tw tf zs).1 ∧ (f_XT_skipIf tn tp tw tf zs).1 ≤ 1) ∧ 0 ≤ (f_XT_skipIf tn tp tw tf zs).2 ∧ (f_XT_skipIf tn tp tw tf zs).2 ≤ tn := by
  have h := f_XT_next_b tn tp tw tf hn hp hf
  rw [f_XT_skipIf_s]
  repeat' split
  all_goals (rename_i e _; rw [e] at h; dsimp only at h ⊢; omega)
set_option maxHeartbeats 4000000 in
set_option maxRecDepth 100000 in
theorem c_XT_skipIf (l : Launch) (dC : Nat → ClassId) (dI : Nat → Nat → Nat) (cA : ClassId) (sz : Nat) (ta : Nat) (ts : Nat) (tn : Int) (tp : Int) (tw : Int) (tf : Int → Int) (zs : Int) (hn : 0 ≤ tn ∧ tn ≤ 400) (hp : 0 ≤ tp ∧ tp ≤ tn) (hf : ∀ i, 0 ≤ tf i ∧ tf i < 256) (hz : i32 zs) (hz0 : 0 ≤ zs) : Met l yXT_skipIf (Cond.code yXT_skipIf cXT_skipIf 2 (some .boolean) :: TBL) ({ frames := 1, cells := 0, slots := 0, locals := 20 } : Room) (va_Pc [.ref ta, .int (jI zs)] (jBw (dC, dI) [(cA, .int)] [(ta, .inr (3, [.ref ts, .int (jI tn), .int (jI tp), .int (jI tw)])), (ts, .inl (cA, 400, .inl (jA tf)))] sz)) (va_Qi (fun (r : Int32) (u : Int × Int) => r = jI u.1 ∧ u = f_XT_skipIf tn tp tw tf zs) (fun u t => jE (dC, dI) [(cA, .int)] [(ta, .inr (3, [.ref ts, .int (jI tn), .int (jI tp), .int (jI tw)])), (ts, .inl (cA, 400, .inl (jA tf)))] sz [(ta, .inr (3, [.ref ts, .int (jI tn), .int (jI u.2), .int (jI tw)])), (ts, .inl (cA, 400, .inl (jA tf)))] t) (va_A [(ta, .inr (3, [.ref ts, .int (jI tn), .int (jI tp), .int (jI tw)])), (ts, .inl (cA, 400, .inl (jA tf)))] sz)) 0 0 (va_A [(ta, .inr (3, [.ref ts, .int (jI tn), .int (jI tp), .int (jI tw)])), (ts, .inl (cA, 400, .inl (jA tf)))] sz) := by
  refine jMet (cc := cXT_skipIf) (maxL := 2) (ret := some .boolean) (by decide) rfl ?_
  intro p e s m args below meth c s₁ R Q hR hQ B hml hv
  obtain ⟨rfl, hsz, hP, hK, hD0, hN⟩ := hv
  have hx := B.exec
  have hb := B.bytes
  have hr := B.returns
  have hts := atoms_spec (ws := Cond.code yXT_skipIf cXT_skipIf 2 (some .boolean) :: TBL) B.pre
  have hown : s.vm.findClass RXT = some m.cls := findClass_of_methodNamed B.named
  have hlocks := B.notSynchronized
  subst hsz
  obtain ⟨A, hAe⟩ : ∃ A, A = va_A [(ta, .inr (3, [.ref ts, .int (jI tn), .int (jI tp), .int (jI tw)])), (ts, .inl (cA, 400, .inl (jA tf)))] s.heap.size := ⟨_, rfl⟩
  have hD : va_D A [(ta, .inr (3, [.ref ts, .int (jI tn), .int (jI tp), .int (jI tw)])), (ts, .inl (cA, 400, .inl (jA tf)))] := by rw [hAe]; exact hD0.self
  have hA : ∀ q : Nat, s.heap.size ≤ q → A q := fun q h => by rw [hAe]; exact Or.inr h
  have hS : va_S A s.heap s.heap [] := va_S.rf
  have hP : va_P (dC, dI) vwCl [(ta, .inr (3, [.ref ts, .int (jI tn), .int (jI tp), .int (jI tw)])), (ts, .inl (cA, 400, .inl (jA tf)))] s.heap := hP
  have hl := lv_entry ([.ref ta, .int (jI zs)]) (n := 2) (Nat.le_of_ble_eq_true rfl)
  rw [lg_entry_eq]
  generalize (lg_sl ([.ref ta, .int (jI zs)]) ++ List.replicate (2 - (lg_sl ([.ref ta, .int (jI zs)])).length) Slot.unset).toArray = ls at hl ⊢
  have hl : lv_has ls 2 [(0, .ref ta), (1, .int (jI zs))] := hl
  refine lv_aload_n hx hb dXT_skipIf_0 rfl (lv_at hl 0 rfl) ?_
  refine jwVi (rest := []) (wr := []) ⟨hx, hb, hml, hown, hts⟩ (c_XT_next l dC dI cA _ ta ts tn tp tw tf (by first | assumption | omega) (by first | assumption | omega) (by first | assumption | omega)) (cwV 0 hts (jG_V tw_154 tw_143 tw_144 tw_2 tw_145) rfl rfl rfl (by decide +kernel) (by rw [hR]; exact ⟨Nat.le_of_ble_eq_true rfl, Nat.le_of_ble_eq_true rfl⟩)) hK hP hD hS hA hN [0, 1] [] rfl rfl (by decide) (by decide) (by decide) 0 3 rfl rfl rfl rfl hl.1 rfl (Nat.le_of_ble_eq_true rfl) dXT_skipIf_1 (by rw [hR]; exact ⟨Nat.le_of_ble_eq_true rfl, Nat.le_of_ble_eq_true rfl⟩) (fun v u H locs hwb hP hD hS => ?_)
  obtain ⟨r, tp1'⟩ := u
  try dsimp only at hwb
  obtain ⟨er, hwb⟩ := hwb
  subst er
  have hP : va_P (dC, dI) vwCl [(ta, .inr (3, [.ref ts, .int (jI tn), .int (jI tp1'), .int (jI tw)])), (ts, .inl (cA, 400, .inl (jA tf)))] H := hP
  have hD : va_D A [(ta, .inr (3, [.ref ts, .int (jI tn), .int (jI tp1'), .int (jI tw)])), (ts, .inl (cA, 400, .inl (jA tf)))] := hD
  have f := f_XT_next_b tn tp tw tf (by first | assumption | omega) (by first | assumption | omega) (by first | assumption | omega)
  rw [← hwb] at f; try dsimp only at f
  refine lv_iload_n hx hb dXT_skipIf_4 rfl (lv_at hl 1 rfl) ?_
  refine ji_icmp_eq (tgt := 10) hx hb dXT_skipIf_5 (by decide) (by omega) (by omega) (fun c5_ => ?_) (fun c5_ => ?_)
  · refine lv_aload_n hx hb dXT_skipIf_10 rfl (lv_at hl 0 rfl) ?_
    refine lv_dup hx hb dXT_skipIf_11 rfl ?_
    refine va_get (D := (dC, dI)) (ci := 3) (v := .int (jI tp1')) (C := RXT) (T := TXT) (N := 4) hx hb hts (fun w h => jmem (inXT w h)) hown hK hP 0 rfl rfl 2 (by decide) (hts _ (jmem tw_32)) (fun _ h9 => h9) rfl dXT_skipIf_12 ?_
    refine ji_iconst hx hb dXT_skipIf_15 ?_
    refine ji_iadd hx hb dXT_skipIf_16 ?_
    refine va_put (D := (dC, dI)) (ci := 3) (v := .int (jI (tp1' + 1))) (ty := (.int)) (C := RXT) (T := TXT) (N := 4) hx hb hts (fun w h => jmem (inXT w h)) tyXT tyXT_ok nXT hown hK hP hD hS 0 rfl rfl 2 (by decide) (hts _ (jmem tw_32)) (fun _ h9 => h9) rfl (by decide +kernel) rfl rfl (Nat.le_of_ble_eq_true rfl) dXT_skipIf_17 (fun H locs hP hD hS => ?_)
    have hP : va_P (dC, dI) vwCl [(ta, .inr (3, [.ref ts, .int (jI tn), .int (jI (tp1' + 1)), .int (jI tw)])), (ts, .inl (cA, 400, .inl (jA tf)))] H := hP
    have hD : va_D A [(ta, .inr (3, [.ref ts, .int (jI tn), .int (jI (tp1' + 1)), .int (jI tw)])), (ts, .inl (cA, 400, .inl (jA tf)))] := hD
    refine ji_iconst hx hb dXT_skipIf_20 ?_
    have hP9 := hP.sub (ws' := [(ta, .inr (3, [.ref ts, .int (jI tn), .int (jI (tp1' + 1)), .int (jI tw)])), (ts, .inl (cA, 400, .inl (jA tf)))]) [0, 1] rfl
    have hD9 := hD.sub (ws' := [(ta, .inr (3, [.ref ts, .int (jI tn), .int (jI (tp1' + 1)), .int (jI tw)])), (ts, .inl (cA, 400, .inl (jA tf)))]) [0, 1] (by decide) rfl
    subst hAe
    subst hQ
    exact W.zret (v := jI 1) hx hb hr (by first | decide | exact jz (by omega)) (fun t ht hW => ⟨⟨_, (1, tp1' + 1), rfl, ⟨rfl, Eq.trans (by rw [f_XT_skipIf_s]; rw [← hwb]; try dsimp only; rw [if_pos c5_]; try rfl) rfl⟩, ⟨by rw [ht]; exact hP9, va_K.moved hW.alike hK, hD9⟩⟩, hS.F ht⟩) hS.2.2 dXT_skipIf_21
  · refine ji_iconst hx hb dXT_skipIf_8 ?_
    have hP9 := hP.sub (ws' := [(ta, .inr (3, [.ref ts, .int (jI tn), .int (jI tp1'), .int (jI tw)])), (ts, .inl (cA, 400, .inl (jA tf)))]) [0, 1] rfl
    have hD9 := hD.sub (ws' := [(ta, .inr (3, [.ref ts, .int (jI tn), .int (jI tp1'), .int (jI tw)])), (ts, .inl (cA, 400, .inl (jA tf)))]) [0, 1] (by decide) rfl
    subst hAe
    subst hQ
    exact W.zret (v := jI 0) hx hb hr (by first | decide | exact jz (by omega)) (fun t ht hW => ⟨⟨_, (0, tp1'), rfl, ⟨rfl, Eq.trans (by rw [f_XT_skipIf_s]; rw [← hwb]; try dsimp only; rw [if_neg c5_]; try rfl) rfl⟩, ⟨by rw [ht]; exact hP9, va_K.moved hW.alike hK, hD9⟩⟩, hS.F ht⟩) hS.2.2 dXT_skipIf_9
noncomputable def g_XT_take (tn : Int) (tp : Int) (tw : Int) (tf : Int → Int) (zs : Int) : Int × Int × Int :=
  match f_XT_next tn tp tw tf with
  | (r, tp1') =>
    if r = zs then
      (1, tp1' + 1, tw)
    else
      match f_XT_refuse tn tp1' tw tf with
      | (r1, tw1') =>
        (r1, tp1', tw1')
noncomputable def f_XT_take : Int → Int → Int → (Int → Int) → Int → Int × Int × Int := jopq g_XT_take
theorem f_XT_take_q : f_XT_take = g_XT_take := jopq_eq _
theorem f_XT_take_s (tn : Int) (tp : Int) (tw : Int) (tf : Int → Int) (zs : Int) : f_XT_take tn tp tw tf zs = (
    match f_XT_next tn tp tw tf with
    | (r, tp1') =>
      if r = zs then
        (1, tp1' + 1, tw)
      else
        match f_XT_refuse tn tp1' tw tf with
        | (r1, tw1') =>
          (r1, tp1', tw1')
  : Int × Int × Int) := by rw [f_XT_take_q]; rfl
theorem f_XT_take_b (tn tp tw : Int) (tf : Int → Int) (zs : Int) (hn : 0 ≤ tn ∧ tn ≤ 400) (hp : 0 ≤ tp ∧ tp ≤ tn) (hf : ∀ i, 0 ≤ tf i ∧ tf i < 256) (hz : i32 zs) (hz0 : 0 ≤ zs) : (0 ≤ (f_XT_take tn tp tw tf zs).1 ∧ (f_XT_take tn tp tw tf zs).1 ≤ 1) ∧ 0 ≤ (f_XT_take tn tp tw tf zs).2.1 ∧ (f_XT_take tn tp tw tf zs).2.1 ≤ tn := by
  have h := f_XT_next_b tn tp tw tf hn hp hf
  simp only [f_XT_take_s, f_XT_refuse_s]
  (repeat' split) <;> (try dsimp only) <;> omega
set_option maxHeartbeats 4000000 in
set_option maxRecDepth 100000 in
theorem c_XT_take (l : Launch) (dC : Nat → ClassId) (dI : Nat → Nat → Nat) (cA : ClassId) (sz : Nat) (ta : Nat) (ts : Nat) (tn : Int) (tp : Int) (tw : Int) (tf : Int → Int) (zs : Int) (hn : 0 ≤ tn ∧ tn ≤ 400) (hp : 0 ≤ tp ∧ tp ≤ tn) (hf : ∀ i, 0 ≤ tf i ∧ tf i < 256) (hz : i32 zs) (hz0 : 0 ≤ zs) : Met l yXT_take (Cond.code yXT_take cXT_take 2 (some .boolean) :: TBL) ({ frames := 1, cells := 0, slots := 0, locals := 20 } : Room) (va_Pc [.ref ta, .int (jI zs)] (jBw (dC, dI) [(cA, .int)] [(ta, .inr (3, [.ref ts, .int (jI tn), .int (jI tp), .int (jI tw)])), (ts, .inl (cA, 400, .inl (jA tf)))] sz)) (va_Qi (fun (r : Int32) (u : Int × Int × Int) => r = jI u.1 ∧ u = f_XT_take tn tp tw tf zs) (fun u t => jE (dC, dI) [(cA, .int)] [(ta, .inr (3, [.ref ts, .int (jI tn), .int (jI tp), .int (jI tw)])), (ts, .inl (cA, 400, .inl (jA tf)))] sz [(ta, .inr (3, [.ref ts, .int (jI tn), .int (jI u.2.1), .int (jI u.2.2)])), (ts, .inl (cA, 400, .inl (jA tf)))] t) (va_A [(ta, .inr (3, [.ref ts, .int (jI tn), .int (jI tp), .int (jI tw)])), (ts, .inl (cA, 400, .inl (jA tf)))] sz)) 0 0 (va_A [(ta, .inr (3, [.ref ts, .int (jI tn), .int (jI tp), .int (jI tw)])), (ts, .inl (cA, 400, .inl (jA tf)))] sz) := by
  refine jMet (cc := cXT_take) (maxL := 2) (ret := some .boolean) (by decide) rfl ?_
  intro p e s m args below meth c s₁ R Q hR hQ B hml hv
  obtain ⟨rfl, hsz, hP, hK, hD0, hN⟩ := hv
  have hx := B.exec
  have hb := B.bytes
  have hr := B.returns
  have hts := atoms_spec (ws := Cond.code yXT_take cXT_take 2 (some .boolean) :: TBL) B.pre
  have hown : s.vm.findClass RXT = some m.cls := findClass_of_methodNamed B.named
  have hlocks := B.notSynchronized
  subst hsz
  obtain ⟨A, hAe⟩ : ∃ A, A = va_A [(ta, .inr (3, [.ref ts, .int (jI tn), .int (jI tp), .int (jI tw)])), (ts, .inl (cA, 400, .inl (jA tf)))] s.heap.size := ⟨_, rfl⟩
  have hD : va_D A [(ta, .inr (3, [.ref ts, .int (jI tn), .int (jI tp), .int (jI tw)])), (ts, .inl (cA, 400, .inl (jA tf)))] := by rw [hAe]; exact hD0.self
  have hA : ∀ q : Nat, s.heap.size ≤ q → A q := fun q h => by rw [hAe]; exact Or.inr h
  have hS : va_S A s.heap s.heap [] := va_S.rf
  have hP : va_P (dC, dI) vwCl [(ta, .inr (3, [.ref ts, .int (jI tn), .int (jI tp), .int (jI tw)])), (ts, .inl (cA, 400, .inl (jA tf)))] s.heap := hP
  have hl := lv_entry ([.ref ta, .int (jI zs)]) (n := 2) (Nat.le_of_ble_eq_true rfl)
  rw [lg_entry_eq]
  generalize (lg_sl ([.ref ta, .int (jI zs)]) ++ List.replicate (2 - (lg_sl ([.ref ta, .int (jI zs)])).length) Slot.unset).toArray = ls at hl ⊢
  have hl : lv_has ls 2 [(0, .ref ta), (1, .int (jI zs))] := hl
  refine lv_aload_n hx hb dXT_take_0 rfl (lv_at hl 0 rfl) ?_
  refine jwVi (rest := []) (wr := []) ⟨hx, hb, hml, hown, hts⟩ (c_XT_next l dC dI cA _ ta ts tn tp tw tf (by first | assumption | omega) (by first | assumption | omega) (by first | assumption | omega)) (cwV 0 hts (jG_V tw_154 tw_143 tw_144 tw_2 tw_145) rfl rfl rfl (by decide +kernel) (by rw [hR]; exact ⟨Nat.le_of_ble_eq_true rfl, Nat.le_of_ble_eq_true rfl⟩)) hK hP hD hS hA hN [0, 1] [] rfl rfl (by decide) (by decide) (by decide) 0 3 rfl rfl rfl rfl hl.1 rfl (Nat.le_of_ble_eq_true rfl) dXT_take_1 (by rw [hR]; exact ⟨Nat.le_of_ble_eq_true rfl, Nat.le_of_ble_eq_true rfl⟩) (fun v u H locs hwb hP hD hS => ?_)
  obtain ⟨r, tp1'⟩ := u
  try dsimp only at hwb
  obtain ⟨er, hwb⟩ := hwb
  subst er
  have hP : va_P (dC, dI) vwCl [(ta, .inr (3, [.ref ts, .int (jI tn), .int (jI tp1'), .int (jI tw)])), (ts, .inl (cA, 400, .inl (jA tf)))] H := hP
  have hD : va_D A [(ta, .inr (3, [.ref ts, .int (jI tn), .int (jI tp1'), .int (jI tw)])), (ts, .inl (cA, 400, .inl (jA tf)))] := hD
  have f := f_XT_next_b tn tp tw tf (by first | assumption | omega) (by first | assumption | omega) (by first | assumption | omega)
  rw [← hwb] at f; try dsimp only at f
  refine lv_iload_n hx hb dXT_take_4 rfl (lv_at hl 1 rfl) ?_
  refine ji_icmp_eq (tgt := 13) hx hb dXT_take_5 (by decide) (by omega) (by omega) (fun c5_ => ?_) (fun c5_ => ?_)
  · refine lv_aload_n hx hb dXT_take_13 rfl (lv_at hl 0 rfl) ?_
    refine lv_dup hx hb dXT_take_14 rfl ?_
    refine va_get (D := (dC, dI)) (ci := 3) (v := .int (jI tp1')) (C := RXT) (T := TXT) (N := 4) hx hb hts (fun w h => jmem (inXT w h)) hown hK hP 0 rfl rfl 2 (by decide) (hts _ (jmem tw_32)) (fun _ h9 => h9) rfl dXT_take_15 ?_
    refine ji_iconst hx hb dXT_take_18 ?_
    refine ji_iadd hx hb dXT_take_19 ?_
    refine va_put (D := (dC, dI)) (ci := 3) (v := .int (jI (tp1' + 1))) (ty := (.int)) (C := RXT) (T := TXT) (N := 4) hx hb hts (fun w h => jmem (inXT w h)) tyXT tyXT_ok nXT hown hK hP hD hS 0 rfl rfl 2 (by decide) (hts _ (jmem tw_32)) (fun _ h9 => h9) rfl (by decide +kernel) rfl rfl (Nat.le_of_ble_eq_true rfl) dXT_take_20 (fun H locs hP hD hS => ?_)
    have hP : va_P (dC, dI) vwCl [(ta, .inr (3, [.ref ts, .int (jI tn), .int (jI (tp1' + 1)), .int (jI tw)])), (ts, .inl (cA, 400, .inl (jA tf)))] H := hP
    have hD : va_D A [(ta, .inr (3, [.ref ts, .int (jI tn), .int (jI (tp1' + 1)), .int (jI tw)])), (ts, .inl (cA, 400, .inl (jA tf)))] := hD
    refine ji_iconst hx hb dXT_take_23 ?_
    have hP9 := hP.sub (ws' := [(ta, .inr (3, [.ref ts, .int (jI tn), .int (jI (tp1' + 1)), .int (jI tw)])), (ts, .inl (cA, 400, .inl (jA tf)))]) [0, 1] rfl
    have hD9 := hD.sub (ws' := [(ta, .inr (3, [.ref ts, .int (jI tn), .int (jI (tp1' + 1)), .int (jI tw)])), (ts, .inl (cA, 400, .inl (jA tf)))]) [0, 1] (by decide) rfl
    subst hAe
    subst hQ
    exact W.zret (v := jI 1) hx hb hr (by first | decide | exact jz (by omega)) (fun t ht hW => ⟨⟨_, (1, tp1' + 1, tw), rfl, ⟨rfl, Eq.trans (by rw [f_XT_take_s]; rw [← hwb]; try dsimp only; rw [if_pos c5_]; try rfl) rfl⟩, ⟨by rw [ht]; exact hP9, va_K.moved hW.alike hK, hD9⟩⟩, hS.F ht⟩) hS.2.2 dXT_take_24
  · refine lv_aload_n hx hb dXT_take_8 rfl (lv_at hl 0 rfl) ?_
    refine jwVi (rest := []) (wr := []) ⟨hx, hb, hml, hown, hts⟩ (c_XT_refuse l dC dI cA _ ta ts tn tp1' tw tf) (cwV 0 hts (jG_V tw_163 tw_164 tw_165 tw_2 tw_166) rfl rfl rfl (by decide +kernel) (by rw [hR]; exact ⟨Nat.le_of_ble_eq_true rfl, Nat.le_of_ble_eq_true rfl⟩)) hK hP hD hS hA hN [0, 1] [] rfl rfl (by decide) (by decide) (by decide) 0 3 rfl rfl rfl rfl hl.1 rfl (Nat.le_of_ble_eq_true rfl) dXT_take_9 (by rw [hR]; exact ⟨Nat.le_of_ble_eq_true rfl, Nat.le_of_ble_eq_true rfl⟩) (fun v3 u2 H locs hwb4 hP hD hS => ?_)
    obtain ⟨r1, tw1'⟩ := u2
    try dsimp only at hwb4
    obtain ⟨er, hwb4⟩ := hwb4
    subst er
    have hP : va_P (dC, dI) vwCl [(ta, .inr (3, [.ref ts, .int (jI tn), .int (jI tp1'), .int (jI tw1')])), (ts, .inl (cA, 400, .inl (jA tf)))] H := hP
    have hD : va_D A [(ta, .inr (3, [.ref ts, .int (jI tn), .int (jI tp1'), .int (jI tw1')])), (ts, .inl (cA, 400, .inl (jA tf)))] := hD
    have f5 := f_XT_refuse_b tn tp1' tw tf
    rw [← hwb4] at f5; try dsimp only at f5
    have hP9 := hP.sub (ws' := [(ta, .inr (3, [.ref ts, .int (jI tn), .int (jI tp1'), .int (jI tw1')])), (ts, .inl (cA, 400, .inl (jA tf)))]) [0, 1] rfl
    have hD9 := hD.sub (ws' := [(ta, .inr (3, [.ref ts, .int (jI tn), .int (jI tp1'), .int (jI tw1')])), (ts, .inl (cA, 400, .inl (jA tf)))]) [0, 1] (by decide) rfl
    subst hAe
    subst hQ
    exact W.zret (v := jI r1) hx hb hr (by first | decide | exact jz (by omega)) (fun t ht hW => ⟨⟨_, (r1, tp1', tw1'), rfl, ⟨rfl, Eq.trans (by rw [f_XT_take_s]; rw [← hwb]; try dsimp only; rw [if_neg c5_]; rw [← hwb4]; try dsimp only; try rfl) rfl⟩, ⟨by rw [ht]; exact hP9, va_K.moved hW.alike hK, hD9⟩⟩, hS.F ht⟩) hS.2.2 dXT_take_12
noncomputable def g_XT_takeOneOf (tn : Int) (tp : Int) (tw : Int) (tf : Int → Int) (zs : Int) (zc : Int) : Int × Int × Int :=
  match f_XT_next tn tp tw tf with
  | (r, tp1') =>
    if (r - zs) < 0 then
      match f_XT_refuse tn tp1' tw tf with
      | (r1, tw1') =>
        (-1, tp1', tw1')
    else
      if (r - zs) < zc then
        (r - zs, tp1' + 1, tw)
      else
        match f_XT_refuse tn tp1' tw tf with
        | (r6, tw1'7) =>
          (-1, tp1', tw1'7)
noncomputable def f_XT_takeOneOf : Int → Int → Int → (Int → Int) → Int → Int → Int × Int × Int := jopq g_XT_takeOneOf
theorem f_XT_takeOneOf_q : f_XT_takeOneOf = g_XT_takeOneOf := jopq_eq _
theorem f_XT_takeOneOf_s (tn : Int) (tp : Int) (tw : Int) (tf : Int → Int) (zs : Int) (zc : Int) : f_XT_takeOneOf tn tp tw tf zs zc = (
    match f_XT_next tn tp tw tf with
    | (r, tp1') =>
      if (r - zs) < 0 then
        match f_XT_refuse tn tp1' tw tf with
        | (r1, tw1') =>
          (-1, tp1', tw1')
      else
        if (r - zs) < zc then
          (r - zs, tp1' + 1, tw)
        else
          match f_XT_refuse tn tp1' tw tf with
          | (r6, tw1'7) =>
            (-1, tp1', tw1'7)
  : Int × Int × Int) := by rw [f_XT_takeOneOf_q]; rfl
theorem f_XT_takeOneOf_b (tn tp tw : Int) (tf : Int → Int) (zs zc : Int) (hn : 0 ≤ tn ∧ tn ≤ 400) (hp : 0 ≤ tp ∧ tp ≤ tn) (hf : ∀ i, 0 ≤ tf i ∧ tf i < 256) (hz : 0 ≤ zs ∧ zs < 256) (hc : 0 ≤ zc ∧ zc < 256) : (-1 ≤ (f_XT_takeOneOf tn tp tw tf zs zc).1 ∧ ((f_XT_takeOneOf tn tp tw tf zs zc).1 < zc ∨ (f_XT_takeOneOf tn tp tw tf zs zc).1 = -1)) ∧ 0 ≤ (f_XT_takeOneOf tn tp tw tf zs zc).2.1 ∧ (f_XT_takeOneOf tn tp tw tf zs zc).2.1 ≤ tn := by
  have h := f_XT_next_b tn tp tw tf hn hp hf
  simp only [f_XT_takeOneOf_s, f_XT_refuse_s]
  (repeat' split) <;> (try dsimp only) <;> omega
set_option maxHeartbeats 4000000 in
set_option maxRecDepth 100000 in
theorem c_XT_takeOneOf (l : Launch) (dC : Nat → ClassId) (dI : Nat → Nat → Nat) (cA : ClassId) (sz : Nat) (ta : Nat) (ts : Nat) (tn : Int) (tp : Int) (tw : Int) (tf : Int → Int) (zs : Int) (zc : Int) (hn : 0 ≤ tn ∧ tn ≤ 400) (hp : 0 ≤ tp ∧ tp ≤ tn) (hf : ∀ i, 0 ≤ tf i ∧ tf i < 256) (hz : 0 ≤ zs ∧ zs < 256) (hc : 0 ≤ zc ∧ zc < 256) : Met l yXT_takeOneOf (Cond.code yXT_takeOneOf cXT_takeOneOf 4 (some .int) :: TBL) ({ frames := 1, cells := 0, slots := 0, locals := 20 } : Room) (va_Pc [.ref ta, .int (jI zs), .int (jI zc)] (jBw (dC, dI) [(cA, .int)] [(ta, .inr (3, [.ref ts, .int (jI tn), .int (jI tp), .int (jI tw)])), (ts, .inl (cA, 400, .inl (jA tf)))] sz)) (va_Qi (fun (r : Int32) (u : Int × Int × Int) => r = jI u.1 ∧ u = f_XT_takeOneOf tn tp tw tf zs zc) (fun u t => jE (dC, dI) [(cA, .int)] [(ta, .inr (3, [.ref ts, .int (jI tn), .int (jI tp), .int (jI tw)])), (ts, .inl (cA, 400, .inl (jA tf)))] sz [(ta, .inr (3, [.ref ts, .int (jI tn), .int (jI u.2.1), .int (jI u.2.2)])), (ts, .inl (cA, 400, .inl (jA tf)))] t) (va_A [(ta, .inr (3, [.ref ts, .int (jI tn), .int (jI tp), .int (jI tw)])), (ts, .inl (cA, 400, .inl (jA tf)))] sz)) 0 0 (va_A [(ta, .inr (3, [.ref ts, .int (jI tn), .int (jI tp), .int (jI tw)])), (ts, .inl (cA, 400, .inl (jA tf)))] sz) := by
  refine jMet (cc := cXT_takeOneOf) (maxL := 4) (ret := some .int) (by decide) rfl ?_
  intro p e s m args below meth c s₁ R Q hR hQ B hml hv
  obtain ⟨rfl, hsz, hP, hK, hD0, hN⟩ := hv
  have hx := B.exec
  have hb := B.bytes
  have hr := B.returns
  have hts := atoms_spec (ws := Cond.code yXT_takeOneOf cXT_takeOneOf 4 (some .int) :: TBL) B.pre
  have hown : s.vm.findClass RXT = some m.cls := findClass_of_methodNamed B.named
  have hlocks := B.notSynchronized
  subst hsz
  obtain ⟨A, hAe⟩ : ∃ A, A = va_A [(ta, .inr (3, [.ref ts, .int (jI tn), .int (jI tp), .int (jI tw)])), (ts, .inl (cA, 400, .inl (jA tf)))] s.heap.size := ⟨_, rfl⟩
  have hD : va_D A [(ta, .inr (3, [.ref ts, .int (jI tn), .int (jI tp), .int (jI tw)])), (ts, .inl (cA, 400, .inl (jA tf)))] := by rw [hAe]; exact hD0.self
  have hA : ∀ q : Nat, s.heap.size ≤ q → A q := fun q h => by rw [hAe]; exact Or.inr h
  have hS : va_S A s.heap s.heap [] := va_S.rf
  have hP : va_P (dC, dI) vwCl [(ta, .inr (3, [.ref ts, .int (jI tn), .int (jI tp), .int (jI tw)])), (ts, .inl (cA, 400, .inl (jA tf)))] s.heap := hP
  have hl := lv_entry ([.ref ta, .int (jI zs), .int (jI zc)]) (n := 4) (Nat.le_of_ble_eq_true rfl)
  rw [lg_entry_eq]
  generalize (lg_sl ([.ref ta, .int (jI zs), .int (jI zc)]) ++ List.replicate (4 - (lg_sl ([.ref ta, .int (jI zs), .int (jI zc)])).length) Slot.unset).toArray = ls at hl ⊢
  have hl : lv_has ls 4 [(0, .ref ta), (1, .int (jI zs)), (2, .int (jI zc))] := hl
  refine lv_aload_n hx hb dXT_takeOneOf_0 rfl (lv_at hl 0 rfl) ?_
  refine jwVi (rest := []) (wr := []) ⟨hx, hb, hml, hown, hts⟩ (c_XT_next l dC dI cA _ ta ts tn tp tw tf (by first | assumption | omega) (by first | assumption | omega) (by first | assumption | omega)) (cwV 0 hts (jG_V tw_154 tw_143 tw_144 tw_2 tw_145) rfl rfl rfl (by decide +kernel) (by rw [hR]; exact ⟨Nat.le_of_ble_eq_true rfl, Nat.le_of_ble_eq_true rfl⟩)) hK hP hD hS hA hN [0, 1] [] rfl rfl (by decide) (by decide) (by decide) 0 3 rfl rfl rfl rfl hl.1 rfl (Nat.le_of_ble_eq_true rfl) dXT_takeOneOf_1 (by rw [hR]; exact ⟨Nat.le_of_ble_eq_true rfl, Nat.le_of_ble_eq_true rfl⟩) (fun v u H locs hwb hP hD hS => ?_)
  obtain ⟨r, tp1'⟩ := u
  try dsimp only at hwb
  obtain ⟨er, hwb⟩ := hwb
  subst er
  have hP : va_P (dC, dI) vwCl [(ta, .inr (3, [.ref ts, .int (jI tn), .int (jI tp1'), .int (jI tw)])), (ts, .inl (cA, 400, .inl (jA tf)))] H := hP
  have hD : va_D A [(ta, .inr (3, [.ref ts, .int (jI tn), .int (jI tp1'), .int (jI tw)])), (ts, .inl (cA, 400, .inl (jA tf)))] := hD
  have f := f_XT_next_b tn tp tw tf (by first | assumption | omega) (by first | assumption | omega) (by first | assumption | omega)
  rw [← hwb] at f; try dsimp only at f
  refine lv_iload_n hx hb dXT_takeOneOf_4 rfl (lv_at hl 1 rfl) ?_
  refine ji_isub hx hb dXT_takeOneOf_5 ?_
  refine lv_istore_n (lv' := [(3, .int (jI (r - zs))), (0, .ref ta), (1, .int (jI zs)), (2, .int (jI zc))]) hx hb dXT_takeOneOf_6 rfl hl (by decide) rfl (fun ls hl => ?_)
  refine lv_iload_n hx hb dXT_takeOneOf_7 rfl (lv_at hl 0 rfl) ?_
  refine ji_if_lt (tgt := 16) hx hb dXT_takeOneOf_8 (by decide) (by omega) (fun c8_ => ?_) (fun c8_ => ?_)
  · refine lv_aload_n hx hb dXT_takeOneOf_16 rfl (lv_at hl 1 rfl) ?_
    refine jwVi (rest := []) (wr := []) ⟨hx, hb, hml, hown, hts⟩ (c_XT_refuse l dC dI cA _ ta ts tn tp1' tw tf) (cwV 0 hts (jG_V tw_163 tw_164 tw_165 tw_2 tw_166) rfl rfl rfl (by decide +kernel) (by rw [hR]; exact ⟨Nat.le_of_ble_eq_true rfl, Nat.le_of_ble_eq_true rfl⟩)) hK hP hD hS hA hN [0, 1] [] rfl rfl (by decide) (by decide) (by decide) 0 3 rfl rfl rfl rfl hl.1 rfl (Nat.le_of_ble_eq_true rfl) dXT_takeOneOf_17 (by rw [hR]; exact ⟨Nat.le_of_ble_eq_true rfl, Nat.le_of_ble_eq_true rfl⟩) (fun v3 u2 H locs hwb4 hP hD hS => ?_)
    obtain ⟨r1, tw1'⟩ := u2
    try dsimp only at hwb4
    obtain ⟨er, hwb4⟩ := hwb4
    subst er
    have hP : va_P (dC, dI) vwCl [(ta, .inr (3, [.ref ts, .int (jI tn), .int (jI tp1'), .int (jI tw1')])), (ts, .inl (cA, 400, .inl (jA tf)))] H := hP
    have hD : va_D A [(ta, .inr (3, [.ref ts, .int (jI tn), .int (jI tp1'), .int (jI tw1')])), (ts, .inl (cA, 400, .inl (jA tf)))] := hD
    have f5 := f_XT_refuse_b tn tp1' tw tf
    rw [← hwb4] at f5; try dsimp only at f5
    refine lv_pop hx hb dXT_takeOneOf_20 rfl ?_
    refine ji_iconst hx hb dXT_takeOneOf_21 ?_
    have hP9 := hP.sub (ws' := [(ta, .inr (3, [.ref ts, .int (jI tn), .int (jI tp1'), .int (jI tw1')])), (ts, .inl (cA, 400, .inl (jA tf)))]) [0, 1] rfl
    have hD9 := hD.sub (ws' := [(ta, .inr (3, [.ref ts, .int (jI tn), .int (jI tp1'), .int (jI tw1')])), (ts, .inl (cA, 400, .inl (jA tf)))]) [0, 1] (by decide) rfl
    subst hAe
    subst hQ
    exact W.iret (v := jI (-1)) hx hb hr (fun t ht hW => ⟨⟨_, (-1, tp1', tw1'), rfl, ⟨rfl, Eq.trans (by rw [f_XT_takeOneOf_s]; rw [← hwb]; try dsimp only; rw [if_pos c8_]; rw [← hwb4]; try dsimp only; try rfl) rfl⟩, ⟨by rw [ht]; exact hP9, va_K.moved hW.alike hK, hD9⟩⟩, hS.F ht⟩) hS.2.2 dXT_takeOneOf_22
  · refine lv_iload_n hx hb dXT_takeOneOf_11 rfl (lv_at hl 0 rfl) ?_
    refine lv_iload_n hx hb dXT_takeOneOf_12 rfl (lv_at hl 3 rfl) ?_
    refine ji_icmp_lt (tgt := 23) hx hb dXT_takeOneOf_13 (by decide) (by omega) (by omega) (fun c13_ => ?_) (fun c13_ => ?_)
    · refine lv_aload_n hx hb dXT_takeOneOf_23 rfl (lv_at hl 1 rfl) ?_
      refine lv_dup hx hb dXT_takeOneOf_24 rfl ?_
      refine va_get (D := (dC, dI)) (ci := 3) (v := .int (jI tp1')) (C := RXT) (T := TXT) (N := 4) hx hb hts (fun w h => jmem (inXT w h)) hown hK hP 0 rfl rfl 2 (by decide) (hts _ (jmem tw_32)) (fun _ h9 => h9) rfl dXT_takeOneOf_25 ?_
      refine ji_iconst hx hb dXT_takeOneOf_28 ?_
      refine ji_iadd hx hb dXT_takeOneOf_29 ?_
      refine va_put (D := (dC, dI)) (ci := 3) (v := .int (jI (tp1' + 1))) (ty := (.int)) (C := RXT) (T := TXT) (N := 4) hx hb hts (fun w h => jmem (inXT w h)) tyXT tyXT_ok nXT hown hK hP hD hS 0 rfl rfl 2 (by decide) (hts _ (jmem tw_32)) (fun _ h9 => h9) rfl (by decide +kernel) rfl rfl (Nat.le_of_ble_eq_true rfl) dXT_takeOneOf_30 (fun H locs hP hD hS => ?_)
      have hP : va_P (dC, dI) vwCl [(ta, .inr (3, [.ref ts, .int (jI tn), .int (jI (tp1' + 1)), .int (jI tw)])), (ts, .inl (cA, 400, .inl (jA tf)))] H := hP
      have hD : va_D A [(ta, .inr (3, [.ref ts, .int (jI tn), .int (jI (tp1' + 1)), .int (jI tw)])), (ts, .inl (cA, 400, .inl (jA tf)))] := hD
      refine lv_iload_n hx hb dXT_takeOneOf_33 rfl (lv_at hl 0 rfl) ?_
      have hP9 := hP.sub (ws' := [(ta, .inr (3, [.ref ts, .int (jI tn), .int (jI (tp1' + 1)), .int (jI tw)])), (ts, .inl (cA, 400, .inl (jA tf)))]) [0, 1] rfl
      have hD9 := hD.sub (ws' := [(ta, .inr (3, [.ref ts, .int (jI tn), .int (jI (tp1' + 1)), .int (jI tw)])), (ts, .inl (cA, 400, .inl (jA tf)))]) [0, 1] (by decide) rfl
      subst hAe
      subst hQ
      exact W.iret (v := jI (r - zs)) hx hb hr (fun t ht hW => ⟨⟨_, (r - zs, tp1' + 1, tw), rfl, ⟨rfl, Eq.trans (by rw [f_XT_takeOneOf_s]; rw [← hwb]; try dsimp only; rw [if_neg (Int.not_lt.mpr c8_), if_pos c13_]; try rfl) rfl⟩, ⟨by rw [ht]; exact hP9, va_K.moved hW.alike hK, hD9⟩⟩, hS.F ht⟩) hS.2.2 dXT_takeOneOf_34
    · refine lv_aload_n hx hb dXT_takeOneOf_16 rfl (lv_at hl 1 rfl) ?_
      refine jwVi (rest := []) (wr := []) ⟨hx, hb, hml, hown, hts⟩ (c_XT_refuse l dC dI cA _ ta ts tn tp1' tw tf) (cwV 0 hts (jG_V tw_163 tw_164 tw_165 tw_2 tw_166) rfl rfl rfl (by decide +kernel) (by rw [hR]; exact ⟨Nat.le_of_ble_eq_true rfl, Nat.le_of_ble_eq_true rfl⟩)) hK hP hD hS hA hN [0, 1] [] rfl rfl (by decide) (by decide) (by decide) 0 3 rfl rfl rfl rfl hl.1 rfl (Nat.le_of_ble_eq_true rfl) dXT_takeOneOf_17 (by rw [hR]; exact ⟨Nat.le_of_ble_eq_true rfl, Nat.le_of_ble_eq_true rfl⟩) (fun v9 u8 H locs hwb10 hP hD hS => ?_)
      obtain ⟨r6, tw1'7⟩ := u8
      try dsimp only at hwb10
      obtain ⟨er, hwb10⟩ := hwb10
      subst er
      have hP : va_P (dC, dI) vwCl [(ta, .inr (3, [.ref ts, .int (jI tn), .int (jI tp1'), .int (jI tw1'7)])), (ts, .inl (cA, 400, .inl (jA tf)))] H := hP
      have hD : va_D A [(ta, .inr (3, [.ref ts, .int (jI tn), .int (jI tp1'), .int (jI tw1'7)])), (ts, .inl (cA, 400, .inl (jA tf)))] := hD
      have f11 := f_XT_refuse_b tn tp1' tw tf
      rw [← hwb10] at f11; try dsimp only at f11
      refine lv_pop hx hb dXT_takeOneOf_20 rfl ?_
      refine ji_iconst hx hb dXT_takeOneOf_21 ?_
      have hP9 := hP.sub (ws' := [(ta, .inr (3, [.ref ts, .int (jI tn), .int (jI tp1'), .int (jI tw1'7)])), (ts, .inl (cA, 400, .inl (jA tf)))]) [0, 1] rfl
      have hD9 := hD.sub (ws' := [(ta, .inr (3, [.ref ts, .int (jI tn), .int (jI tp1'), .int (jI tw1'7)])), (ts, .inl (cA, 400, .inl (jA tf)))]) [0, 1] (by decide) rfl
      subst hAe
      subst hQ
      exact W.iret (v := jI (-1)) hx hb hr (fun t ht hW => ⟨⟨_, (-1, tp1', tw1'7), rfl, ⟨rfl, Eq.trans (by rw [f_XT_takeOneOf_s]; rw [← hwb]; try dsimp only; rw [if_neg (Int.not_lt.mpr c8_), if_neg (Int.not_lt.mpr c13_)]; rw [← hwb10]; try dsimp only; try rfl) rfl⟩, ⟨by rw [ht]; exact hP9, va_K.moved hW.alike hK, hD9⟩⟩, hS.F ht⟩) hS.2.2 dXT_takeOneOf_22
noncomputable def g_XT_number_L22 (tn : Int) (tp : Int) (tw : Int) (tf : Int → Int) (zl : Int) (zm : Int) : Nat → Int → Int → Int → Int × Int × Int
  | 0, _, _, _ => (0, 0, 0)
  | n9 + 1, v, k, q =>
    if k < 6 then
      if (f_XG_isDigit (f_XT_here tn q tw tf)) = 0 then
        if v < zl then
          match f_XT_refuseLast tn q tw tf with
          | (r24, tw1'25) =>
            (-1, q, tw1'25)
        else
          if zm < v then
            match f_XT_refuseLast tn q tw tf with
            | (r40, tw1'41) =>
              (-1, q, tw1'41)
          else
            if (f_XG_isDigit (f_XT_here tn q tw tf)) = 0 then
              (v, q, tw)
            else
              match f_XT_refuse tn q tw tf with
              | (r34, tw1'35) =>
                (-1, q, tw1'35)
      else
        if 0 < k then
          if v = 0 then
            if v < zl then
              match f_XT_refuseLast tn q tw tf with
              | (r49, tw1'50) =>
                (-1, q, tw1'50)
            else
              if zm < v then
                match f_XT_refuseLast tn q tw tf with
                | (r65, tw1'66) =>
                  (-1, q, tw1'66)
              else
                if (f_XG_isDigit (f_XT_here tn q tw tf)) = 0 then
                  (v, q, tw)
                else
                  match f_XT_refuse tn q tw tf with
                  | (r59, tw1'60) =>
                    (-1, q, tw1'60)
          else
            g_XT_number_L22 tn tp tw tf zl zm n9 (((v * 10) + (f_XT_here tn q tw tf)) - 48) (k + 1) (q + 1)
        else
          g_XT_number_L22 tn tp tw tf zl zm n9 (((v * 10) + (f_XT_here tn q tw tf)) - 48) (k + 1) (q + 1)
    else
      if v < zl then
        match f_XT_refuseLast tn q tw tf with
        | (r2, tw1') =>
          (-1, q, tw1')
      else
        if zm < v then
          match f_XT_refuseLast tn q tw tf with
          | (r15, tw1'16) =>
            (-1, q, tw1'16)
        else
          if (f_XG_isDigit (f_XT_here tn q tw tf)) = 0 then
            (v, q, tw)
          else
            match f_XT_refuse tn q tw tf with
            | (r9, tw1'10) =>
              (-1, q, tw1'10)
noncomputable def f_XT_number_L22 : Int → Int → Int → (Int → Int) → Int → Int → Nat → Int → Int → Int → Int × Int × Int := jopq g_XT_number_L22
theorem f_XT_number_L22_q : f_XT_number_L22 = g_XT_number_L22 := jopq_eq _
theorem f_XT_number_L22_s (tn : Int) (tp : Int) (tw : Int) (tf : Int → Int) (zl : Int) (zm : Int) (n9 : Nat) (v : Int) (k : Int) (q : Int) : f_XT_number_L22 tn tp tw tf zl zm (n9 + 1) v k q = (
    if k < 6 then
      if (f_XG_isDigit (f_XT_here tn q tw tf)) = 0 then
        if v < zl then
          match f_XT_refuseLast tn q tw tf with
          | (r24, tw1'25) =>
            (-1, q, tw1'25)
        else
          if zm < v then
            match f_XT_refuseLast tn q tw tf with
            | (r40, tw1'41) =>
              (-1, q, tw1'41)
          else
            if (f_XG_isDigit (f_XT_here tn q tw tf)) = 0 then
              (v, q, tw)
            else
              match f_XT_refuse tn q tw tf with
              | (r34, tw1'35) =>
                (-1, q, tw1'35)
      else
        if 0 < k then
          if v = 0 then
            if v < zl then
              match f_XT_refuseLast tn q tw tf with
              | (r49, tw1'50) =>
                (-1, q, tw1'50)
            else
              if zm < v then
                match f_XT_refuseLast tn q tw tf with
                | (r65, tw1'66) =>
                  (-1, q, tw1'66)
              else
                if (f_XG_isDigit (f_XT_here tn q tw tf)) = 0 then
                  (v, q, tw)
                else
                  match f_XT_refuse tn q tw tf with
                  | (r59, tw1'60) =>
                    (-1, q, tw1'60)
          else
            f_XT_number_L22 tn tp tw tf zl zm n9 (((v * 10) + (f_XT_here tn q tw tf)) - 48) (k + 1) (q + 1)
        else
          f_XT_number_L22 tn tp tw tf zl zm n9 (((v * 10) + (f_XT_here tn q tw tf)) - 48) (k + 1) (q + 1)
    else
      if v < zl then
        match f_XT_refuseLast tn q tw tf with
        | (r2, tw1') =>
          (-1, q, tw1')
      else
        if zm < v then
          match f_XT_refuseLast tn q tw tf with
          | (r15, tw1'16) =>
            (-1, q, tw1'16)
        else
          if (f_XG_isDigit (f_XT_here tn q tw tf)) = 0 then
            (v, q, tw)
          else
            match f_XT_refuse tn q tw tf with
            | (r9, tw1'10) =>
              (-1, q, tw1'10)
  : Int × Int × Int) := by rw [f_XT_number_L22_q]; rfl
noncomputable def g_XT_number (tn : Int) (tp : Int) (tw : Int) (tf : Int → Int) (zl : Int) (zm : Int) : Int × Int × Int :=
  match f_XT_next tn tp tw tf with
  | (r, tp1') =>
    if (f_XG_isDigit r) = 0 then
      match f_XT_refuse tn tp1' tw tf with
      | (r71, tw1'72) =>
        (-1, tp1', tw1'72)
    else
      f_XT_number_L22 tn tp tw tf zl zm (Int.toNat (6 - 0) + 1) 0 0 tp1'
noncomputable def f_XT_number : Int → Int → Int → (Int → Int) → Int → Int → Int × Int × Int := jopq g_XT_number
theorem f_XT_number_q : f_XT_number = g_XT_number := jopq_eq _
theorem f_XT_number_s (tn : Int) (tp : Int) (tw : Int) (tf : Int → Int) (zl : Int) (zm : Int) : f_XT_number tn tp tw tf zl zm = (
    match f_XT_next tn tp tw tf with
    | (r, tp1') =>
      if (f_XG_isDigit r) = 0 then
        match f_XT_refuse tn tp1' tw tf with
        | (r71, tw1'72) =>
          (-1, tp1', tw1'72)
      else
        f_XT_number_L22 tn tp tw tf zl zm (Int.toNat (6 - 0) + 1) 0 0 tp1'
  : Int × Int × Int) := by rw [f_XT_number_q]; rfl
theorem f_XT_number_L_b (tn tp tw : Int) (tf : Int → Int) (zl zm : Int) (hn : 0 ≤ tn ∧ tn ≤ 400) (hf : ∀ i, 0 ≤ tf i ∧ tf i < 256) (hz : 0 ≤ zl ∧ zl < 1000000) : ∀ (n : Nat) (v k q : Int), 6 - k < (n : Int) → 0 ≤ k → k ≤ 6 → 0 ≤ v → 0 ≤ q ∧ q ≤ tn → (((f_XT_number_L22 tn tp tw tf zl zm n v k q).1 = -1 ∨ (zl ≤ (f_XT_number_L22 tn tp tw tf zl zm n v k q).1 ∧ (f_XT_number_L22 tn tp tw tf zl zm n v k q).1 ≤ zm)) ∧ 0 ≤ (f_XT_number_L22 tn tp tw tf zl zm n v k q).2.1 ∧ (f_XT_number_L22 tn tp tw tf zl zm n v k q).2.1 ≤ tn) := by
  intro n
  induction n with
  | zero => intro v k q h; omega
  | succ n ih =>
    intro v k q h h1 h2 h3 h4
    have hh := f_XT_here_b tn q tw tf hn h4 hf
    have hd := f_XG_isDigit_01 (f_XT_here tn q tw tf) (by omega)
    rw [f_XT_number_L22_s]; simp only [f_XT_refuse_s, f_XT_refuseLast_s]
    repeat' split
    all_goals first | (exact ih _ _ _ (by omega) (by omega) (by omega) (by omega) (by omega)) | (dsimp only; omega)
theorem f_XT_number_b (tn tp tw : Int) (tf : Int → Int) (zl zm : Int) (hn : 0 ≤ tn ∧ tn ≤ 400) (hp : 0 ≤ tp ∧ tp ≤ tn) (hf : ∀ i, 0 ≤ tf i ∧ tf i < 256) (hz : 0 ≤ zl ∧ zl < 1000000) (hc : 0 ≤ zm ∧ zm < 1000000) : ((f_XT_number tn tp tw tf zl zm).1 = -1 ∨ (zl ≤ (f_XT_number tn tp tw tf zl zm).1 ∧ (f_XT_number tn tp tw tf zl zm).1 ≤ zm)) ∧ 0 ≤ (f_XT_number tn tp tw tf zl zm).2.1 ∧ (f_XT_number tn tp tw tf zl zm).2.1 ≤ tn := by
  have h := f_XT_next_b tn tp tw tf hn hp hf
  simp only [f_XT_number_s, f_XT_refuse_s]
  split
  · dsimp only; omega
  · exact f_XT_number_L_b tn tp tw tf zl zm hn hf hz _ _ _ _ (by omega) (by omega) (by omega) (by omega) (by omega)
set_option maxHeartbeats 4000000 in
set_option maxRecDepth 100000 in
theorem c_XT_number (l : Launch) (dC : Nat → ClassId) (dI : Nat → Nat → Nat) (cA : ClassId) (sz : Nat) (ta : Nat) (ts : Nat) (tn : Int) (tp : Int) (tw : Int) (tf : Int → Int) (zl : Int) (zm : Int) (hn : 0 ≤ tn ∧ tn ≤ 400) (hp : 0 ≤ tp ∧ tp ≤ tn) (hf : ∀ i, 0 ≤ tf i ∧ tf i < 256) (hz : 0 ≤ zl ∧ zl < 1000000) (hc : 0 ≤ zm ∧ zm < 1000000) : Met l yXT_number (Cond.code yXT_number cXT_number 5 (some .int) :: TBL) ({ frames := 1, cells := 0, slots := 0, locals := 20 } : Room) (va_Pc [.ref ta, .int (jI zl), .int (jI zm)] (jBw (dC, dI) [(cA, .int)] [(ta, .inr (3, [.ref ts, .int (jI tn), .int (jI tp), .int (jI tw)])), (ts, .inl (cA, 400, .inl (jA tf)))] sz)) (va_Qi (fun (r : Int32) (u : Int × Int × Int) => r = jI u.1 ∧ u = f_XT_number tn tp tw tf zl zm) (fun u t => jE (dC, dI) [(cA, .int)] [(ta, .inr (3, [.ref ts, .int (jI tn), .int (jI tp), .int (jI tw)])), (ts, .inl (cA, 400, .inl (jA tf)))] sz [(ta, .inr (3, [.ref ts, .int (jI tn), .int (jI u.2.1), .int (jI u.2.2)])), (ts, .inl (cA, 400, .inl (jA tf)))] t) (va_A [(ta, .inr (3, [.ref ts, .int (jI tn), .int (jI tp), .int (jI tw)])), (ts, .inl (cA, 400, .inl (jA tf)))] sz)) 0 0 (va_A [(ta, .inr (3, [.ref ts, .int (jI tn), .int (jI tp), .int (jI tw)])), (ts, .inl (cA, 400, .inl (jA tf)))] sz) := by
  refine jMet (cc := cXT_number) (maxL := 5) (ret := some .int) (by decide) rfl ?_
  intro p e s m args below meth c s₁ R Q hR hQ B hml hv
  obtain ⟨rfl, hsz, hP, hK, hD0, hN⟩ := hv
  have hx := B.exec
  have hb := B.bytes
  have hr := B.returns
  have hts := atoms_spec (ws := Cond.code yXT_number cXT_number 5 (some .int) :: TBL) B.pre
  have hown : s.vm.findClass RXT = some m.cls := findClass_of_methodNamed B.named
  have hlocks := B.notSynchronized
  subst hsz
  obtain ⟨A, hAe⟩ : ∃ A, A = va_A [(ta, .inr (3, [.ref ts, .int (jI tn), .int (jI tp), .int (jI tw)])), (ts, .inl (cA, 400, .inl (jA tf)))] s.heap.size := ⟨_, rfl⟩
  have hD : va_D A [(ta, .inr (3, [.ref ts, .int (jI tn), .int (jI tp), .int (jI tw)])), (ts, .inl (cA, 400, .inl (jA tf)))] := by rw [hAe]; exact hD0.self
  have hA : ∀ q : Nat, s.heap.size ≤ q → A q := fun q h => by rw [hAe]; exact Or.inr h
  have hS : va_S A s.heap s.heap [] := va_S.rf
  have hP : va_P (dC, dI) vwCl [(ta, .inr (3, [.ref ts, .int (jI tn), .int (jI tp), .int (jI tw)])), (ts, .inl (cA, 400, .inl (jA tf)))] s.heap := hP
  have hl := lv_entry ([.ref ta, .int (jI zl), .int (jI zm)]) (n := 5) (Nat.le_of_ble_eq_true rfl)
  rw [lg_entry_eq]
  generalize (lg_sl ([.ref ta, .int (jI zl), .int (jI zm)]) ++ List.replicate (5 - (lg_sl ([.ref ta, .int (jI zl), .int (jI zm)])).length) Slot.unset).toArray = ls at hl ⊢
  have hl : lv_has ls 5 [(0, .ref ta), (1, .int (jI zl)), (2, .int (jI zm))] := hl
  refine lv_aload_n hx hb dXT_number_0 rfl (lv_at hl 0 rfl) ?_
  refine jwVi (rest := []) (wr := []) ⟨hx, hb, hml, hown, hts⟩ (c_XT_next l dC dI cA _ ta ts tn tp tw tf (by first | assumption | omega) (by first | assumption | omega) (by first | assumption | omega)) (cwV 0 hts (jG_V tw_154 tw_143 tw_144 tw_2 tw_145) rfl rfl rfl (by decide +kernel) (by rw [hR]; exact ⟨Nat.le_of_ble_eq_true rfl, Nat.le_of_ble_eq_true rfl⟩)) hK hP hD hS hA hN [0, 1] [] rfl rfl (by decide) (by decide) (by decide) 0 3 rfl rfl rfl rfl hl.1 rfl (Nat.le_of_ble_eq_true rfl) dXT_number_1 (by rw [hR]; exact ⟨Nat.le_of_ble_eq_true rfl, Nat.le_of_ble_eq_true rfl⟩) (fun v u H locs hwb hP hD hS => ?_)
  obtain ⟨r, tp1'⟩ := u
  try dsimp only at hwb
  obtain ⟨er, hwb⟩ := hwb
  subst er
  have hP : va_P (dC, dI) vwCl [(ta, .inr (3, [.ref ts, .int (jI tn), .int (jI tp1'), .int (jI tw)])), (ts, .inl (cA, 400, .inl (jA tf)))] H := hP
  have hD : va_D A [(ta, .inr (3, [.ref ts, .int (jI tn), .int (jI tp1'), .int (jI tw)])), (ts, .inl (cA, 400, .inl (jA tf)))] := hD
  have f := f_XT_next_b tn tp tw tf (by first | assumption | omega) (by first | assumption | omega) (by first | assumption | omega)
  rw [← hwb] at f; try dsimp only at f
  refine jrNi (rest := []) ⟨hx, hb, hml, hown, hts⟩ (c_XG_isDigit l dC dI cA r (by first | assumption | omega)) ⟨va_cnB 1 hts (jG (jG_c tw_200)) rfl rfl rfl (jN.n198 hN) (hts _ (jmem tw_1)) (by decide +kernel) (by rw [hR]; exact ⟨Nat.le_of_ble_eq_true rfl, Nat.le_of_ble_eq_true rfl⟩), hts _ (jmem tw_199), trivial⟩ hK hP hN [] rfl rfl hl.1 rfl (Nat.le_of_ble_eq_true rfl) dXT_number_4 (by rw [hR]; exact ⟨Nat.le_of_ble_eq_true rfl, Nat.le_of_ble_eq_true rfl⟩) ?_
  have f1 := f_XG_isDigit_01 r (by first | assumption | omega)
  refine ji_if_ne (tgt := 17) hx hb dXT_number_7 (by decide) (by omega) (fun c7_ => ?_) (fun c7_ => ?_)
  · refine ji_iconst hx hb dXT_number_17 ?_
    refine lv_istore_n (lv' := [(3, .int (jI 0)), (0, .ref ta), (1, .int (jI zl)), (2, .int (jI zm))]) hx hb dXT_number_18 rfl hl (by decide) rfl (fun ls hl => ?_)
    refine ji_iconst hx hb dXT_number_19 ?_
    refine lv_istore (lv' := [(4, .int (jI 0)), (3, .int (jI 0)), (0, .ref ta), (1, .int (jI zl)), (2, .int (jI zm))]) hx hb dXT_number_20 hl (by decide) rfl (fun ls hl => ?_)
    have loop22 : ∀ (n9 : Nat) (v : Int) (k : Int) (q : Int) , 6 - k < (n9 : Int) → f_XT_number_L22 tn tp tw tf zl zm n9 v k q = f_XT_number tn tp tw tf zl zm → (0 ≤ k ∧ k ≤ 6) → (0 ≤ v) → ((k < 1 → v < 1) ∧ (k < 2 → v < 10) ∧ (k < 3 → v < 100) ∧ (k < 4 → v < 1000) ∧ (k < 5 → v < 10000) ∧ (k < 6 → v < 100000) ∧ v < 1000000) → (0 ≤ q ∧ q ≤ tn) → ∀ (H : Heap) (locs : List Loc), va_P (dC, dI) vwCl [(ta, .inr (3, [.ref ts, .int (jI tn), .int (jI q), .int (jI tw)])), (ts, .inl (cA, 400, .inl (jA tf)))] H → va_D A [(ta, .inr (3, [.ref ts, .int (jI tn), .int (jI q), .int (jI tw)])), (ts, .inl (cA, 400, .inl (jA tf)))] → va_S A s.heap H locs → ∀ ls : Array Slot, lv_has ls 5 [(4, .int (jI k)), (3, .int (jI v)), (0, .ref ta), (1, .int (jI zl)), (2, .int (jI zm))] → W p l e R s m ([.ref ta, .int (jI zl), .int (jI zm)] : List Value).toArray below meth c H locs 0 0 Q (F0 m 22 ls []) := by
      intro n9
      induction n9 with
      | zero =>
        intro v k q hm hF hk hv hw hq
        exact absurd hm (by omega)
      | succ n9 ih22 =>
        intro v k q hm hF hk hv hw hq H locs hP hD hS ls hl
        refine lv_iload hx hb dXT_number_22 (lv_at hl 0 rfl) ?_
        refine ji_bipush hx hb dXT_number_24 (by decide) ?_
        refine ji_icmp_ge (tgt := 80) hx hb dXT_number_26 (by decide) (by omega) (by omega) (fun c26_ => ?_) (fun c26_ => ?_)
        · refine lv_iload_n hx hb dXT_number_80 rfl (lv_at hl 1 rfl) ?_
          refine lv_iload_n hx hb dXT_number_81 rfl (lv_at hl 3 rfl) ?_
          refine ji_icmp_lt (tgt := 90) hx hb dXT_number_82 (by decide) (by omega) (by omega) (fun c82_ => ?_) (fun c82_ => ?_)
          · refine lv_aload_n hx hb dXT_number_90 rfl (lv_at hl 2 rfl) ?_
            refine jwVi (rest := []) (wr := []) ⟨hx, hb, hml, hown, hts⟩ (c_XT_refuseLast l dC dI cA _ ta ts tn q tw tf) (cwV 0 hts (jG_V tw_205 tw_175 tw_176 tw_2 tw_177) rfl rfl rfl (by decide +kernel) (by rw [hR]; exact ⟨Nat.le_of_ble_eq_true rfl, Nat.le_of_ble_eq_true rfl⟩)) hK hP hD hS hA hN [0, 1] [] rfl rfl (by decide) (by decide) (by decide) 0 3 rfl rfl rfl rfl hl.1 rfl (Nat.le_of_ble_eq_true rfl) dXT_number_91 (by rw [hR]; exact ⟨Nat.le_of_ble_eq_true rfl, Nat.le_of_ble_eq_true rfl⟩) (fun v4 u3 H locs hwb5 hP hD hS => ?_)
            obtain ⟨r2, tw1'⟩ := u3
            try dsimp only at hwb5
            obtain ⟨er, hwb5⟩ := hwb5
            subst er
            have hP : va_P (dC, dI) vwCl [(ta, .inr (3, [.ref ts, .int (jI tn), .int (jI q), .int (jI tw1')])), (ts, .inl (cA, 400, .inl (jA tf)))] H := hP
            have hD : va_D A [(ta, .inr (3, [.ref ts, .int (jI tn), .int (jI q), .int (jI tw1')])), (ts, .inl (cA, 400, .inl (jA tf)))] := hD
            have f6 := f_XT_refuseLast_b tn q tw tf
            rw [← hwb5] at f6; try dsimp only at f6
            refine lv_pop hx hb dXT_number_94 rfl ?_
            refine ji_iconst hx hb dXT_number_95 ?_
            have hP9 := hP.sub (ws' := [(ta, .inr (3, [.ref ts, .int (jI tn), .int (jI q), .int (jI tw1')])), (ts, .inl (cA, 400, .inl (jA tf)))]) [0, 1] rfl
            have hD9 := hD.sub (ws' := [(ta, .inr (3, [.ref ts, .int (jI tn), .int (jI q), .int (jI tw1')])), (ts, .inl (cA, 400, .inl (jA tf)))]) [0, 1] (by decide) rfl
            subst hAe
            subst hQ
            exact W.iret (v := jI (-1)) hx hb hr (fun t ht hW => ⟨⟨_, (-1, q, tw1'), rfl, ⟨rfl, Eq.trans (by rw [f_XT_number_L22_s]; rw [if_neg (Int.not_lt.mpr c26_), if_pos c82_]; rw [← hwb5]; try dsimp only; try rfl) hF⟩, ⟨by rw [ht]; exact hP9, va_K.moved hW.alike hK, hD9⟩⟩, hS.F ht⟩) hS.2.2 dXT_number_96
          · refine lv_iload_n hx hb dXT_number_85 rfl (lv_at hl 1 rfl) ?_
            refine lv_iload_n hx hb dXT_number_86 rfl (lv_at hl 4 rfl) ?_
            refine ji_icmp_le (tgt := 97) hx hb dXT_number_87 (by decide) (by omega) (by omega) (fun c87_ => ?_) (fun c87_ => ?_)
            · refine lv_aload_n hx hb dXT_number_97 rfl (lv_at hl 2 rfl) ?_
              refine jrVi (rest := []) ⟨hx, hb, hml, hown, hts⟩ (c_XT_here l dC dI cA ta ts tn q tw tf (by first | assumption | omega) (by first | assumption | omega) (by first | assumption | omega)) (cwV 0 hts (jG_V tw_201 tw_202 tw_203 tw_2 tw_204) rfl rfl rfl (by decide +kernel) (by rw [hR]; exact ⟨Nat.le_of_ble_eq_true rfl, Nat.le_of_ble_eq_true rfl⟩)) hK hP hN [0, 1] rfl 0 3 rfl rfl rfl rfl hl.1 rfl (Nat.le_of_ble_eq_true rfl) dXT_number_98 (by rw [hR]; exact ⟨Nat.le_of_ble_eq_true rfl, Nat.le_of_ble_eq_true rfl⟩) ?_
              have f7 := f_XT_here_b tn q tw tf (by first | assumption | omega) (by first | assumption | omega) (by first | assumption | omega)
              refine jrNi (rest := []) ⟨hx, hb, hml, hown, hts⟩ (c_XG_isDigit l dC dI cA (f_XT_here tn q tw tf) (by first | assumption | omega)) ⟨va_cnB 1 hts (jG (jG_c tw_200)) rfl rfl rfl (jN.n198 hN) (hts _ (jmem tw_1)) (by decide +kernel) (by rw [hR]; exact ⟨Nat.le_of_ble_eq_true rfl, Nat.le_of_ble_eq_true rfl⟩), hts _ (jmem tw_199), trivial⟩ hK hP hN [] rfl rfl hl.1 rfl (Nat.le_of_ble_eq_true rfl) dXT_number_101 (by rw [hR]; exact ⟨Nat.le_of_ble_eq_true rfl, Nat.le_of_ble_eq_true rfl⟩) ?_
              have f8 := f_XG_isDigit_01 (f_XT_here tn q tw tf) (by first | assumption | omega)
              refine ji_if_eq (tgt := 114) hx hb dXT_number_104 (by decide) (by omega) (fun c104_ => ?_) (fun c104_ => ?_)
              · refine lv_iload_n hx hb dXT_number_114 rfl (lv_at hl 1 rfl) ?_
                have hP9 := hP.sub (ws' := [(ta, .inr (3, [.ref ts, .int (jI tn), .int (jI q), .int (jI tw)])), (ts, .inl (cA, 400, .inl (jA tf)))]) [0, 1] rfl
                have hD9 := hD.sub (ws' := [(ta, .inr (3, [.ref ts, .int (jI tn), .int (jI q), .int (jI tw)])), (ts, .inl (cA, 400, .inl (jA tf)))]) [0, 1] (by decide) rfl
                subst hAe
                subst hQ
                exact W.iret (v := jI v) hx hb hr (fun t ht hW => ⟨⟨_, (v, q, tw), rfl, ⟨rfl, Eq.trans (by rw [f_XT_number_L22_s]; rw [if_neg (Int.not_lt.mpr c26_), if_neg (Int.not_lt.mpr c82_), if_neg (Int.not_lt.mpr c87_), if_pos c104_]; try rfl) hF⟩, ⟨by rw [ht]; exact hP9, va_K.moved hW.alike hK, hD9⟩⟩, hS.F ht⟩) hS.2.2 dXT_number_115
              · refine lv_aload_n hx hb dXT_number_107 rfl (lv_at hl 2 rfl) ?_
                refine jwVi (rest := []) (wr := []) ⟨hx, hb, hml, hown, hts⟩ (c_XT_refuse l dC dI cA _ ta ts tn q tw tf) (cwV 0 hts (jG_V tw_163 tw_164 tw_165 tw_2 tw_166) rfl rfl rfl (by decide +kernel) (by rw [hR]; exact ⟨Nat.le_of_ble_eq_true rfl, Nat.le_of_ble_eq_true rfl⟩)) hK hP hD hS hA hN [0, 1] [] rfl rfl (by decide) (by decide) (by decide) 0 3 rfl rfl rfl rfl hl.1 rfl (Nat.le_of_ble_eq_true rfl) dXT_number_108 (by rw [hR]; exact ⟨Nat.le_of_ble_eq_true rfl, Nat.le_of_ble_eq_true rfl⟩) (fun v12 u11 H locs hwb13 hP hD hS => ?_)
                obtain ⟨r9, tw1'10⟩ := u11
                try dsimp only at hwb13
                obtain ⟨er, hwb13⟩ := hwb13
                subst er
                have hP : va_P (dC, dI) vwCl [(ta, .inr (3, [.ref ts, .int (jI tn), .int (jI q), .int (jI tw1'10)])), (ts, .inl (cA, 400, .inl (jA tf)))] H := hP
                have hD : va_D A [(ta, .inr (3, [.ref ts, .int (jI tn), .int (jI q), .int (jI tw1'10)])), (ts, .inl (cA, 400, .inl (jA tf)))] := hD
                have f14 := f_XT_refuse_b tn q tw tf
                rw [← hwb13] at f14; try dsimp only at f14
                refine lv_pop hx hb dXT_number_111 rfl ?_
                refine ji_iconst hx hb dXT_number_112 ?_
                have hP9 := hP.sub (ws' := [(ta, .inr (3, [.ref ts, .int (jI tn), .int (jI q), .int (jI tw1'10)])), (ts, .inl (cA, 400, .inl (jA tf)))]) [0, 1] rfl
                have hD9 := hD.sub (ws' := [(ta, .inr (3, [.ref ts, .int (jI tn), .int (jI q), .int (jI tw1'10)])), (ts, .inl (cA, 400, .inl (jA tf)))]) [0, 1] (by decide) rfl
                subst hAe
                subst hQ
                exact W.iret (v := jI (-1)) hx hb hr (fun t ht hW => ⟨⟨_, (-1, q, tw1'10), rfl, ⟨rfl, Eq.trans (by rw [f_XT_number_L22_s]; rw [if_neg (Int.not_lt.mpr c26_), if_neg (Int.not_lt.mpr c82_), if_neg (Int.not_lt.mpr c87_), if_neg c104_]; rw [← hwb13]; try dsimp only; try rfl) hF⟩, ⟨by rw [ht]; exact hP9, va_K.moved hW.alike hK, hD9⟩⟩, hS.F ht⟩) hS.2.2 dXT_number_113
            · refine lv_aload_n hx hb dXT_number_90 rfl (lv_at hl 2 rfl) ?_
              refine jwVi (rest := []) (wr := []) ⟨hx, hb, hml, hown, hts⟩ (c_XT_refuseLast l dC dI cA _ ta ts tn q tw tf) (cwV 0 hts (jG_V tw_205 tw_175 tw_176 tw_2 tw_177) rfl rfl rfl (by decide +kernel) (by rw [hR]; exact ⟨Nat.le_of_ble_eq_true rfl, Nat.le_of_ble_eq_true rfl⟩)) hK hP hD hS hA hN [0, 1] [] rfl rfl (by decide) (by decide) (by decide) 0 3 rfl rfl rfl rfl hl.1 rfl (Nat.le_of_ble_eq_true rfl) dXT_number_91 (by rw [hR]; exact ⟨Nat.le_of_ble_eq_true rfl, Nat.le_of_ble_eq_true rfl⟩) (fun v18 u17 H locs hwb19 hP hD hS => ?_)
              obtain ⟨r15, tw1'16⟩ := u17
              try dsimp only at hwb19
              obtain ⟨er, hwb19⟩ := hwb19
              subst er
              have hP : va_P (dC, dI) vwCl [(ta, .inr (3, [.ref ts, .int (jI tn), .int (jI q), .int (jI tw1'16)])), (ts, .inl (cA, 400, .inl (jA tf)))] H := hP
              have hD : va_D A [(ta, .inr (3, [.ref ts, .int (jI tn), .int (jI q), .int (jI tw1'16)])), (ts, .inl (cA, 400, .inl (jA tf)))] := hD
              have f20 := f_XT_refuseLast_b tn q tw tf
              rw [← hwb19] at f20; try dsimp only at f20
              refine lv_pop hx hb dXT_number_94 rfl ?_
              refine ji_iconst hx hb dXT_number_95 ?_
              have hP9 := hP.sub (ws' := [(ta, .inr (3, [.ref ts, .int (jI tn), .int (jI q), .int (jI tw1'16)])), (ts, .inl (cA, 400, .inl (jA tf)))]) [0, 1] rfl
              have hD9 := hD.sub (ws' := [(ta, .inr (3, [.ref ts, .int (jI tn), .int (jI q), .int (jI tw1'16)])), (ts, .inl (cA, 400, .inl (jA tf)))]) [0, 1] (by decide) rfl
              subst hAe
              subst hQ
              exact W.iret (v := jI (-1)) hx hb hr (fun t ht hW => ⟨⟨_, (-1, q, tw1'16), rfl, ⟨rfl, Eq.trans (by rw [f_XT_number_L22_s]; rw [if_neg (Int.not_lt.mpr c26_), if_neg (Int.not_lt.mpr c82_), if_pos c87_]; rw [← hwb19]; try dsimp only; try rfl) hF⟩, ⟨by rw [ht]; exact hP9, va_K.moved hW.alike hK, hD9⟩⟩, hS.F ht⟩) hS.2.2 dXT_number_96
        · refine lv_aload_n hx hb dXT_number_29 rfl (lv_at hl 2 rfl) ?_
          refine jrVi (rest := []) ⟨hx, hb, hml, hown, hts⟩ (c_XT_here l dC dI cA ta ts tn q tw tf (by first | assumption | omega) (by first | assumption | omega) (by first | assumption | omega)) (cwV 0 hts (jG_V tw_201 tw_202 tw_203 tw_2 tw_204) rfl rfl rfl (by decide +kernel) (by rw [hR]; exact ⟨Nat.le_of_ble_eq_true rfl, Nat.le_of_ble_eq_true rfl⟩)) hK hP hN [0, 1] rfl 0 3 rfl rfl rfl rfl hl.1 rfl (Nat.le_of_ble_eq_true rfl) dXT_number_30 (by rw [hR]; exact ⟨Nat.le_of_ble_eq_true rfl, Nat.le_of_ble_eq_true rfl⟩) ?_
          have f21 := f_XT_here_b tn q tw tf (by first | assumption | omega) (by first | assumption | omega) (by first | assumption | omega)
          refine jrNi (rest := []) ⟨hx, hb, hml, hown, hts⟩ (c_XG_isDigit l dC dI cA (f_XT_here tn q tw tf) (by first | assumption | omega)) ⟨va_cnB 1 hts (jG (jG_c tw_200)) rfl rfl rfl (jN.n198 hN) (hts _ (jmem tw_1)) (by decide +kernel) (by rw [hR]; exact ⟨Nat.le_of_ble_eq_true rfl, Nat.le_of_ble_eq_true rfl⟩), hts _ (jmem tw_199), trivial⟩ hK hP hN [] rfl rfl hl.1 rfl (Nat.le_of_ble_eq_true rfl) dXT_number_33 (by rw [hR]; exact ⟨Nat.le_of_ble_eq_true rfl, Nat.le_of_ble_eq_true rfl⟩) ?_
          have f22 := f_XG_isDigit_01 (f_XT_here tn q tw tf) (by first | assumption | omega)
          refine ji_if_eq (tgt := 80) hx hb dXT_number_36 (by decide) (by omega) (fun c36_ => ?_) (fun c36_ => ?_)
          · refine lv_iload_n hx hb dXT_number_80 rfl (lv_at hl 1 rfl) ?_
            refine lv_iload_n hx hb dXT_number_81 rfl (lv_at hl 3 rfl) ?_
            refine ji_icmp_lt (tgt := 90) hx hb dXT_number_82 (by decide) (by omega) (by omega) (fun c82_23 => ?_) (fun c82_23 => ?_)
            · refine lv_aload_n hx hb dXT_number_90 rfl (lv_at hl 2 rfl) ?_
              refine jwVi (rest := []) (wr := []) ⟨hx, hb, hml, hown, hts⟩ (c_XT_refuseLast l dC dI cA _ ta ts tn q tw tf) (cwV 0 hts (jG_V tw_205 tw_175 tw_176 tw_2 tw_177) rfl rfl rfl (by decide +kernel) (by rw [hR]; exact ⟨Nat.le_of_ble_eq_true rfl, Nat.le_of_ble_eq_true rfl⟩)) hK hP hD hS hA hN [0, 1] [] rfl rfl (by decide) (by decide) (by decide) 0 3 rfl rfl rfl rfl hl.1 rfl (Nat.le_of_ble_eq_true rfl) dXT_number_91 (by rw [hR]; exact ⟨Nat.le_of_ble_eq_true rfl, Nat.le_of_ble_eq_true rfl⟩) (fun v27 u26 H locs hwb28 hP hD hS => ?_)
              obtain ⟨r24, tw1'25⟩ := u26
              try dsimp only at hwb28
              obtain ⟨er, hwb28⟩ := hwb28
              subst er
              have hP : va_P (dC, dI) vwCl [(ta, .inr (3, [.ref ts, .int (jI tn), .int (jI q), .int (jI tw1'25)])), (ts, .inl (cA, 400, .inl (jA tf)))] H := hP
              have hD : va_D A [(ta, .inr (3, [.ref ts, .int (jI tn), .int (jI q), .int (jI tw1'25)])), (ts, .inl (cA, 400, .inl (jA tf)))] := hD
              have f29 := f_XT_refuseLast_b tn q tw tf
              rw [← hwb28] at f29; try dsimp only at f29
              refine lv_pop hx hb dXT_number_94 rfl ?_
              refine ji_iconst hx hb dXT_number_95 ?_
              have hP9 := hP.sub (ws' := [(ta, .inr (3, [.ref ts, .int (jI tn), .int (jI q), .int (jI tw1'25)])), (ts, .inl (cA, 400, .inl (jA tf)))]) [0, 1] rfl
              have hD9 := hD.sub (ws' := [(ta, .inr (3, [.ref ts, .int (jI tn), .int (jI q), .int (jI tw1'25)])), (ts, .inl (cA, 400, .inl (jA tf)))]) [0, 1] (by decide) rfl
              subst hAe
              subst hQ
              exact W.iret (v := jI (-1)) hx hb hr (fun t ht hW => ⟨⟨_, (-1, q, tw1'25), rfl, ⟨rfl, Eq.trans (by rw [f_XT_number_L22_s]; rw [if_pos c26_, if_pos c36_, if_pos c82_23]; rw [← hwb28]; try dsimp only; try rfl) hF⟩, ⟨by rw [ht]; exact hP9, va_K.moved hW.alike hK, hD9⟩⟩, hS.F ht⟩) hS.2.2 dXT_number_96
            · refine lv_iload_n hx hb dXT_number_85 rfl (lv_at hl 1 rfl) ?_
              refine lv_iload_n hx hb dXT_number_86 rfl (lv_at hl 4 rfl) ?_
              refine ji_icmp_le (tgt := 97) hx hb dXT_number_87 (by decide) (by omega) (by omega) (fun c87_30 => ?_) (fun c87_30 => ?_)
              · refine lv_aload_n hx hb dXT_number_97 rfl (lv_at hl 2 rfl) ?_
                refine jrVi (rest := []) ⟨hx, hb, hml, hown, hts⟩ (c_XT_here l dC dI cA ta ts tn q tw tf (by first | assumption | omega) (by first | assumption | omega) (by first | assumption | omega)) (cwV 0 hts (jG_V tw_201 tw_202 tw_203 tw_2 tw_204) rfl rfl rfl (by decide +kernel) (by rw [hR]; exact ⟨Nat.le_of_ble_eq_true rfl, Nat.le_of_ble_eq_true rfl⟩)) hK hP hN [0, 1] rfl 0 3 rfl rfl rfl rfl hl.1 rfl (Nat.le_of_ble_eq_true rfl) dXT_number_98 (by rw [hR]; exact ⟨Nat.le_of_ble_eq_true rfl, Nat.le_of_ble_eq_true rfl⟩) ?_
                have f31 := f_XT_here_b tn q tw tf (by first | assumption | omega) (by first | assumption | omega) (by first | assumption | omega)
                refine jrNi (rest := []) ⟨hx, hb, hml, hown, hts⟩ (c_XG_isDigit l dC dI cA (f_XT_here tn q tw tf) (by first | assumption | omega)) ⟨va_cnB 1 hts (jG (jG_c tw_200)) rfl rfl rfl (jN.n198 hN) (hts _ (jmem tw_1)) (by decide +kernel) (by rw [hR]; exact ⟨Nat.le_of_ble_eq_true rfl, Nat.le_of_ble_eq_true rfl⟩), hts _ (jmem tw_199), trivial⟩ hK hP hN [] rfl rfl hl.1 rfl (Nat.le_of_ble_eq_true rfl) dXT_number_101 (by rw [hR]; exact ⟨Nat.le_of_ble_eq_true rfl, Nat.le_of_ble_eq_true rfl⟩) ?_
                have f32 := f_XG_isDigit_01 (f_XT_here tn q tw tf) (by first | assumption | omega)
                refine ji_if_eq (tgt := 114) hx hb dXT_number_104 (by decide) (by omega) (fun c104_33 => ?_) (fun c104_33 => ?_)
                · refine lv_iload_n hx hb dXT_number_114 rfl (lv_at hl 1 rfl) ?_
                  have hP9 := hP.sub (ws' := [(ta, .inr (3, [.ref ts, .int (jI tn), .int (jI q), .int (jI tw)])), (ts, .inl (cA, 400, .inl (jA tf)))]) [0, 1] rfl
                  have hD9 := hD.sub (ws' := [(ta, .inr (3, [.ref ts, .int (jI tn), .int (jI q), .int (jI tw)])), (ts, .inl (cA, 400, .inl (jA tf)))]) [0, 1] (by decide) rfl
                  subst hAe
                  subst hQ
                  exact W.iret (v := jI v) hx hb hr (fun t ht hW => ⟨⟨_, (v, q, tw), rfl, ⟨rfl, Eq.trans (by rw [f_XT_number_L22_s]; rw [if_pos c26_, if_pos c36_, if_neg (Int.not_lt.mpr c82_23), if_neg (Int.not_lt.mpr c87_30), if_pos c104_33]; try rfl) hF⟩, ⟨by rw [ht]; exact hP9, va_K.moved hW.alike hK, hD9⟩⟩, hS.F ht⟩) hS.2.2 dXT_number_115
                · refine lv_aload_n hx hb dXT_number_107 rfl (lv_at hl 2 rfl) ?_
                  refine jwVi (rest := []) (wr := []) ⟨hx, hb, hml, hown, hts⟩ (c_XT_refuse l dC dI cA _ ta ts tn q tw tf) (cwV 0 hts (jG_V tw_163 tw_164 tw_165 tw_2 tw_166) rfl rfl rfl (by decide +kernel) (by rw [hR]; exact ⟨Nat.le_of_ble_eq_true rfl, Nat.le_of_ble_eq_true rfl⟩)) hK hP hD hS hA hN [0, 1] [] rfl rfl (by decide) (by decide) (by decide) 0 3 rfl rfl rfl rfl hl.1 rfl (Nat.le_of_ble_eq_true rfl) dXT_number_108 (by rw [hR]; exact ⟨Nat.le_of_ble_eq_true rfl, Nat.le_of_ble_eq_true rfl⟩) (fun v37 u36 H locs hwb38 hP hD hS => ?_)
                  obtain ⟨r34, tw1'35⟩ := u36
                  try dsimp only at hwb38
                  obtain ⟨er, hwb38⟩ := hwb38
                  subst er
                  have hP : va_P (dC, dI) vwCl [(ta, .inr (3, [.ref ts, .int (jI tn), .int (jI q), .int (jI tw1'35)])), (ts, .inl (cA, 400, .inl (jA tf)))] H := hP
                  have hD : va_D A [(ta, .inr (3, [.ref ts, .int (jI tn), .int (jI q), .int (jI tw1'35)])), (ts, .inl (cA, 400, .inl (jA tf)))] := hD
                  have f39 := f_XT_refuse_b tn q tw tf
                  rw [← hwb38] at f39; try dsimp only at f39
                  refine lv_pop hx hb dXT_number_111 rfl ?_
                  refine ji_iconst hx hb dXT_number_112 ?_
                  have hP9 := hP.sub (ws' := [(ta, .inr (3, [.ref ts, .int (jI tn), .int (jI q), .int (jI tw1'35)])), (ts, .inl (cA, 400, .inl (jA tf)))]) [0, 1] rfl
                  have hD9 := hD.sub (ws' := [(ta, .inr (3, [.ref ts, .int (jI tn), .int (jI q), .int (jI tw1'35)])), (ts, .inl (cA, 400, .inl (jA tf)))]) [0, 1] (by decide) rfl
                  subst hAe
                  subst hQ
                  exact W.iret (v := jI (-1)) hx hb hr (fun t ht hW => ⟨⟨_, (-1, q, tw1'35), rfl, ⟨rfl, Eq.trans (by rw [f_XT_number_L22_s]; rw [if_pos c26_, if_pos c36_, if_neg (Int.not_lt.mpr c82_23), if_neg (Int.not_lt.mpr c87_30), if_neg c104_33]; rw [← hwb38]; try dsimp only; try rfl) hF⟩, ⟨by rw [ht]; exact hP9, va_K.moved hW.alike hK, hD9⟩⟩, hS.F ht⟩) hS.2.2 dXT_number_113
              · refine lv_aload_n hx hb dXT_number_90 rfl (lv_at hl 2 rfl) ?_
                refine jwVi (rest := []) (wr := []) ⟨hx, hb, hml, hown, hts⟩ (c_XT_refuseLast l dC dI cA _ ta ts tn q tw tf) (cwV 0 hts (jG_V tw_205 tw_175 tw_176 tw_2 tw_177) rfl rfl rfl (by decide +kernel) (by rw [hR]; exact ⟨Nat.le_of_ble_eq_true rfl, Nat.le_of_ble_eq_true rfl⟩)) hK hP hD hS hA hN [0, 1] [] rfl rfl (by decide) (by decide) (by decide) 0 3 rfl rfl rfl rfl hl.1 rfl (Nat.le_of_ble_eq_true rfl) dXT_number_91 (by rw [hR]; exact ⟨Nat.le_of_ble_eq_true rfl, Nat.le_of_ble_eq_true rfl⟩) (fun v43 u42 H locs hwb44 hP hD hS => ?_)
                obtain ⟨r40, tw1'41⟩ := u42
                try dsimp only at hwb44
                obtain ⟨er, hwb44⟩ := hwb44
                subst er
                have hP : va_P (dC, dI) vwCl [(ta, .inr (3, [.ref ts, .int (jI tn), .int (jI q), .int (jI tw1'41)])), (ts, .inl (cA, 400, .inl (jA tf)))] H := hP
                have hD : va_D A [(ta, .inr (3, [.ref ts, .int (jI tn), .int (jI q), .int (jI tw1'41)])), (ts, .inl (cA, 400, .inl (jA tf)))] := hD
                have f45 := f_XT_refuseLast_b tn q tw tf
                rw [← hwb44] at f45; try dsimp only at f45
                refine lv_pop hx hb dXT_number_94 rfl ?_
                refine ji_iconst hx hb dXT_number_95 ?_
                have hP9 := hP.sub (ws' := [(ta, .inr (3, [.ref ts, .int (jI tn), .int (jI q), .int (jI tw1'41)])), (ts, .inl (cA, 400, .inl (jA tf)))]) [0, 1] rfl
                have hD9 := hD.sub (ws' := [(ta, .inr (3, [.ref ts, .int (jI tn), .int (jI q), .int (jI tw1'41)])), (ts, .inl (cA, 400, .inl (jA tf)))]) [0, 1] (by decide) rfl
                subst hAe
                subst hQ
                exact W.iret (v := jI (-1)) hx hb hr (fun t ht hW => ⟨⟨_, (-1, q, tw1'41), rfl, ⟨rfl, Eq.trans (by rw [f_XT_number_L22_s]; rw [if_pos c26_, if_pos c36_, if_neg (Int.not_lt.mpr c82_23), if_pos c87_30]; rw [← hwb44]; try dsimp only; try rfl) hF⟩, ⟨by rw [ht]; exact hP9, va_K.moved hW.alike hK, hD9⟩⟩, hS.F ht⟩) hS.2.2 dXT_number_96
          · refine lv_iload hx hb dXT_number_39 (lv_at hl 0 rfl) ?_
            refine ji_if_le (tgt := 51) hx hb dXT_number_41 (by decide) (by omega) (fun c41_ => ?_) (fun c41_ => ?_)
            · refine lv_iload_n hx hb dXT_number_51 rfl (lv_at hl 1 rfl) ?_
              refine ji_bipush hx hb dXT_number_52 (by decide) ?_
              refine ji_imul hx hb dXT_number_54 ?_
              refine lv_aload_n hx hb dXT_number_55 rfl (lv_at hl 2 rfl) ?_
              refine jrVi (rest := [.int (jI (v * 10))]) ⟨hx, hb, hml, hown, hts⟩ (c_XT_here l dC dI cA ta ts tn q tw tf (by first | assumption | omega) (by first | assumption | omega) (by first | assumption | omega)) (cwV 0 hts (jG_V tw_201 tw_202 tw_203 tw_2 tw_204) rfl rfl rfl (by decide +kernel) (by rw [hR]; exact ⟨Nat.le_of_ble_eq_true rfl, Nat.le_of_ble_eq_true rfl⟩)) hK hP hN [0, 1] rfl 0 3 rfl rfl rfl rfl hl.1 rfl (Nat.le_of_ble_eq_true rfl) dXT_number_56 (by rw [hR]; exact ⟨Nat.le_of_ble_eq_true rfl, Nat.le_of_ble_eq_true rfl⟩) ?_
              have f46 := f_XT_here_b tn q tw tf (by first | assumption | omega) (by first | assumption | omega) (by first | assumption | omega)
              refine ji_iadd hx hb dXT_number_59 ?_
              refine ji_bipush hx hb dXT_number_60 (by decide) ?_
              refine ji_isub hx hb dXT_number_62 ?_
              refine lv_istore_n (lv' := [(3, .int (jI (((v * 10) + (f_XT_here tn q tw tf)) - 48))), (4, .int (jI k)), (0, .ref ta), (1, .int (jI zl)), (2, .int (jI zm))]) hx hb dXT_number_63 rfl hl (by decide) rfl (fun ls hl => ?_)
              refine lv_aload_n hx hb dXT_number_64 rfl (lv_at hl 2 rfl) ?_
              refine lv_dup hx hb dXT_number_65 rfl ?_
              refine va_get (D := (dC, dI)) (ci := 3) (v := .int (jI q)) (C := RXT) (T := TXT) (N := 4) hx hb hts (fun w h => jmem (inXT w h)) hown hK hP 0 rfl rfl 2 (by decide) (hts _ (jmem tw_32)) (fun _ h9 => h9) rfl dXT_number_66 ?_
              refine ji_iconst hx hb dXT_number_69 ?_
              refine ji_iadd hx hb dXT_number_70 ?_
              refine va_put (D := (dC, dI)) (ci := 3) (v := .int (jI (q + 1))) (ty := (.int)) (C := RXT) (T := TXT) (N := 4) hx hb hts (fun w h => jmem (inXT w h)) tyXT tyXT_ok nXT hown hK hP hD hS 0 rfl rfl 2 (by decide) (hts _ (jmem tw_32)) (fun _ h9 => h9) rfl (by decide +kernel) rfl rfl (Nat.le_of_ble_eq_true rfl) dXT_number_71 (fun H locs hP hD hS => ?_)
              have hP : va_P (dC, dI) vwCl [(ta, .inr (3, [.ref ts, .int (jI tn), .int (jI (q + 1)), .int (jI tw)])), (ts, .inl (cA, 400, .inl (jA tf)))] H := hP
              have hD : va_D A [(ta, .inr (3, [.ref ts, .int (jI tn), .int (jI (q + 1)), .int (jI tw)])), (ts, .inl (cA, 400, .inl (jA tf)))] := hD
              refine ji_iinc (k := 1) (lv' := [(4, .int (jI (k + 1))), (3, .int (jI (((v * 10) + (f_XT_here tn q tw tf)) - 48))), (0, .ref ta), (1, .int (jI zl)), (2, .int (jI zm))]) hx hb dXT_number_74 hl rfl (by decide) rfl (fun ls hl => ?_)
              refine lv_goto (tgt := 22) hx hb dXT_number_77 (by decide) ?_
              exact ih22 (((v * 10) + (f_XT_here tn q tw tf)) - 48) (k + 1) (q + 1) (by omega) (Eq.trans (by rw [f_XT_number_L22_s]; rw [if_pos c26_, if_neg c36_, if_neg (Int.not_lt.mpr c41_)]; try rfl) hF) (by first | assumption | omega) (by first | assumption | omega) (by first | assumption | omega) (by first | assumption | omega) _ _ hP hD hS ls (lv_sub hl [0, 1, 2, 3, 4] rfl)
            · refine lv_iload_n hx hb dXT_number_44 rfl (lv_at hl 1 rfl) ?_
              refine ji_if_ne (tgt := 51) hx hb dXT_number_45 (by decide) (by omega) (fun c45_ => ?_) (fun c45_ => ?_)
              · refine lv_iload_n hx hb dXT_number_51 rfl (lv_at hl 1 rfl) ?_
                refine ji_bipush hx hb dXT_number_52 (by decide) ?_
                refine ji_imul hx hb dXT_number_54 ?_
                refine lv_aload_n hx hb dXT_number_55 rfl (lv_at hl 2 rfl) ?_
                refine jrVi (rest := [.int (jI (v * 10))]) ⟨hx, hb, hml, hown, hts⟩ (c_XT_here l dC dI cA ta ts tn q tw tf (by first | assumption | omega) (by first | assumption | omega) (by first | assumption | omega)) (cwV 0 hts (jG_V tw_201 tw_202 tw_203 tw_2 tw_204) rfl rfl rfl (by decide +kernel) (by rw [hR]; exact ⟨Nat.le_of_ble_eq_true rfl, Nat.le_of_ble_eq_true rfl⟩)) hK hP hN [0, 1] rfl 0 3 rfl rfl rfl rfl hl.1 rfl (Nat.le_of_ble_eq_true rfl) dXT_number_56 (by rw [hR]; exact ⟨Nat.le_of_ble_eq_true rfl, Nat.le_of_ble_eq_true rfl⟩) ?_
                have f47 := f_XT_here_b tn q tw tf (by first | assumption | omega) (by first | assumption | omega) (by first | assumption | omega)
                refine ji_iadd hx hb dXT_number_59 ?_
                refine ji_bipush hx hb dXT_number_60 (by decide) ?_
                refine ji_isub hx hb dXT_number_62 ?_
                refine lv_istore_n (lv' := [(3, .int (jI (((v * 10) + (f_XT_here tn q tw tf)) - 48))), (4, .int (jI k)), (0, .ref ta), (1, .int (jI zl)), (2, .int (jI zm))]) hx hb dXT_number_63 rfl hl (by decide) rfl (fun ls hl => ?_)
                refine lv_aload_n hx hb dXT_number_64 rfl (lv_at hl 2 rfl) ?_
                refine lv_dup hx hb dXT_number_65 rfl ?_
                refine va_get (D := (dC, dI)) (ci := 3) (v := .int (jI q)) (C := RXT) (T := TXT) (N := 4) hx hb hts (fun w h => jmem (inXT w h)) hown hK hP 0 rfl rfl 2 (by decide) (hts _ (jmem tw_32)) (fun _ h9 => h9) rfl dXT_number_66 ?_
                refine ji_iconst hx hb dXT_number_69 ?_
                refine ji_iadd hx hb dXT_number_70 ?_
                refine va_put (D := (dC, dI)) (ci := 3) (v := .int (jI (q + 1))) (ty := (.int)) (C := RXT) (T := TXT) (N := 4) hx hb hts (fun w h => jmem (inXT w h)) tyXT tyXT_ok nXT hown hK hP hD hS 0 rfl rfl 2 (by decide) (hts _ (jmem tw_32)) (fun _ h9 => h9) rfl (by decide +kernel) rfl rfl (Nat.le_of_ble_eq_true rfl) dXT_number_71 (fun H locs hP hD hS => ?_)
                have hP : va_P (dC, dI) vwCl [(ta, .inr (3, [.ref ts, .int (jI tn), .int (jI (q + 1)), .int (jI tw)])), (ts, .inl (cA, 400, .inl (jA tf)))] H := hP
                have hD : va_D A [(ta, .inr (3, [.ref ts, .int (jI tn), .int (jI (q + 1)), .int (jI tw)])), (ts, .inl (cA, 400, .inl (jA tf)))] := hD
                refine ji_iinc (k := 1) (lv' := [(4, .int (jI (k + 1))), (3, .int (jI (((v * 10) + (f_XT_here tn q tw tf)) - 48))), (0, .ref ta), (1, .int (jI zl)), (2, .int (jI zm))]) hx hb dXT_number_74 hl rfl (by decide) rfl (fun ls hl => ?_)
                refine lv_goto (tgt := 22) hx hb dXT_number_77 (by decide) ?_
                exact ih22 (((v * 10) + (f_XT_here tn q tw tf)) - 48) (k + 1) (q + 1) (by omega) (Eq.trans (by rw [f_XT_number_L22_s]; rw [if_pos c26_, if_neg c36_, if_pos c41_, if_neg c45_]; try rfl) hF) (by first | assumption | omega) (by first | assumption | omega) (by first | assumption | omega) (by first | assumption | omega) _ _ hP hD hS ls (lv_sub hl [0, 1, 2, 3, 4] rfl)
              · refine lv_goto (tgt := 80) hx hb dXT_number_48 (by decide) ?_
                refine lv_iload_n hx hb dXT_number_80 rfl (lv_at hl 1 rfl) ?_
                refine lv_iload_n hx hb dXT_number_81 rfl (lv_at hl 3 rfl) ?_
                refine ji_icmp_lt (tgt := 90) hx hb dXT_number_82 (by decide) (by omega) (by omega) (fun c82_48 => ?_) (fun c82_48 => ?_)
                · refine lv_aload_n hx hb dXT_number_90 rfl (lv_at hl 2 rfl) ?_
                  refine jwVi (rest := []) (wr := []) ⟨hx, hb, hml, hown, hts⟩ (c_XT_refuseLast l dC dI cA _ ta ts tn q tw tf) (cwV 0 hts (jG_V tw_205 tw_175 tw_176 tw_2 tw_177) rfl rfl rfl (by decide +kernel) (by rw [hR]; exact ⟨Nat.le_of_ble_eq_true rfl, Nat.le_of_ble_eq_true rfl⟩)) hK hP hD hS hA hN [0, 1] [] rfl rfl (by decide) (by decide) (by decide) 0 3 rfl rfl rfl rfl hl.1 rfl (Nat.le_of_ble_eq_true rfl) dXT_number_91 (by rw [hR]; exact ⟨Nat.le_of_ble_eq_true rfl, Nat.le_of_ble_eq_true rfl⟩) (fun v52 u51 H locs hwb53 hP hD hS => ?_)
                  obtain ⟨r49, tw1'50⟩ := u51
                  try dsimp only at hwb53
                  obtain ⟨er, hwb53⟩ := hwb53
                  subst er
                  have hP : va_P (dC, dI) vwCl [(ta, .inr (3, [.ref ts, .int (jI tn), .int (jI q), .int (jI tw1'50)])), (ts, .inl (cA, 400, .inl (jA tf)))] H := hP
                  have hD : va_D A [(ta, .inr (3, [.ref ts, .int (jI tn), .int (jI q), .int (jI tw1'50)])), (ts, .inl (cA, 400, .inl (jA tf)))] := hD
                  have f54 := f_XT_refuseLast_b tn q tw tf
                  rw [← hwb53] at f54; try dsimp only at f54
                  refine lv_pop hx hb dXT_number_94 rfl ?_
                  refine ji_iconst hx hb dXT_number_95 ?_
                  have hP9 := hP.sub (ws' := [(ta, .inr (3, [.ref ts, .int (jI tn), .int (jI q), .int (jI tw1'50)])), (ts, .inl (cA, 400, .inl (jA tf)))]) [0, 1] rfl
                  have hD9 := hD.sub (ws' := [(ta, .inr (3, [.ref ts, .int (jI tn), .int (jI q), .int (jI tw1'50)])), (ts, .inl (cA, 400, .inl (jA tf)))]) [0, 1] (by decide) rfl
                  subst hAe
                  subst hQ
                  exact W.iret (v := jI (-1)) hx hb hr (fun t ht hW => ⟨⟨_, (-1, q, tw1'50), rfl, ⟨rfl, Eq.trans (by rw [f_XT_number_L22_s]; rw [if_pos c26_, if_neg c36_, if_pos c41_, if_pos c45_, if_pos c82_48]; rw [← hwb53]; try dsimp only; try rfl) hF⟩, ⟨by rw [ht]; exact hP9, va_K.moved hW.alike hK, hD9⟩⟩, hS.F ht⟩) hS.2.2 dXT_number_96
                · refine lv_iload_n hx hb dXT_number_85 rfl (lv_at hl 1 rfl) ?_
                  refine lv_iload_n hx hb dXT_number_86 rfl (lv_at hl 4 rfl) ?_
                  refine ji_icmp_le (tgt := 97) hx hb dXT_number_87 (by decide) (by omega) (by omega) (fun c87_55 => ?_) (fun c87_55 => ?_)
                  · refine lv_aload_n hx hb dXT_number_97 rfl (lv_at hl 2 rfl) ?_
                    refine jrVi (rest := []) ⟨hx, hb, hml, hown, hts⟩ (c_XT_here l dC dI cA ta ts tn q tw tf (by first | assumption | omega) (by first | assumption | omega) (by first | assumption | omega)) (cwV 0 hts (jG_V tw_201 tw_202 tw_203 tw_2 tw_204) rfl rfl rfl (by decide +kernel) (by rw [hR]; exact ⟨Nat.le_of_ble_eq_true rfl, Nat.le_of_ble_eq_true rfl⟩)) hK hP hN [0, 1] rfl 0 3 rfl rfl rfl rfl hl.1 rfl (Nat.le_of_ble_eq_true rfl) dXT_number_98 (by rw [hR]; exact ⟨Nat.le_of_ble_eq_true rfl, Nat.le_of_ble_eq_true rfl⟩) ?_
                    have f56 := f_XT_here_b tn q tw tf (by first | assumption | omega) (by first | assumption | omega) (by first | assumption | omega)
                    refine jrNi (rest := []) ⟨hx, hb, hml, hown, hts⟩ (c_XG_isDigit l dC dI cA (f_XT_here tn q tw tf) (by first | assumption | omega)) ⟨va_cnB 1 hts (jG (jG_c tw_200)) rfl rfl rfl (jN.n198 hN) (hts _ (jmem tw_1)) (by decide +kernel) (by rw [hR]; exact ⟨Nat.le_of_ble_eq_true rfl, Nat.le_of_ble_eq_true rfl⟩), hts _ (jmem tw_199), trivial⟩ hK hP hN [] rfl rfl hl.1 rfl (Nat.le_of_ble_eq_true rfl) dXT_number_101 (by rw [hR]; exact ⟨Nat.le_of_ble_eq_true rfl, Nat.le_of_ble_eq_true rfl⟩) ?_
                    have f57 := f_XG_isDigit_01 (f_XT_here tn q tw tf) (by first | assumption | omega)
                    refine ji_if_eq (tgt := 114) hx hb dXT_number_104 (by decide) (by omega) (fun c104_58 => ?_) (fun c104_58 => ?_)
                    · refine lv_iload_n hx hb dXT_number_114 rfl (lv_at hl 1 rfl) ?_
                      have hP9 := hP.sub (ws' := [(ta, .inr (3, [.ref ts, .int (jI tn), .int (jI q), .int (jI tw)])), (ts, .inl (cA, 400, .inl (jA tf)))]) [0, 1] rfl
                      have hD9 := hD.sub (ws' := [(ta, .inr (3, [.ref ts, .int (jI tn), .int (jI q), .int (jI tw)])), (ts, .inl (cA, 400, .inl (jA tf)))]) [0, 1] (by decide) rfl
                      subst hAe
                      subst hQ
                      exact W.iret (v := jI v) hx hb hr (fun t ht hW => ⟨⟨_, (v, q, tw), rfl, ⟨rfl, Eq.trans (by rw [f_XT_number_L22_s]; rw [if_pos c26_, if_neg c36_, if_pos c41_, if_pos c45_, if_neg (Int.not_lt.mpr c82_48), if_neg (Int.not_lt.mpr c87_55), if_pos c104_58]; try rfl) hF⟩, ⟨by rw [ht]; exact hP9, va_K.moved hW.alike hK, hD9⟩⟩, hS.F ht⟩) hS.2.2 dXT_number_115
                    · refine lv_aload_n hx hb dXT_number_107 rfl (lv_at hl 2 rfl) ?_
                      refine jwVi (rest := []) (wr := []) ⟨hx, hb, hml, hown, hts⟩ (c_XT_refuse l dC dI cA _ ta ts tn q tw tf) (cwV 0 hts (jG_V tw_163 tw_164 tw_165 tw_2 tw_166) rfl rfl rfl (by decide +kernel) (by rw [hR]; exact ⟨Nat.le_of_ble_eq_true rfl, Nat.le_of_ble_eq_true rfl⟩)) hK hP hD hS hA hN [0, 1] [] rfl rfl (by decide) (by decide) (by decide) 0 3 rfl rfl rfl rfl hl.1 rfl (Nat.le_of_ble_eq_true rfl) dXT_number_108 (by rw [hR]; exact ⟨Nat.le_of_ble_eq_true rfl, Nat.le_of_ble_eq_true rfl⟩) (fun v62 u61 H locs hwb63 hP hD hS => ?_)
                      obtain ⟨r59, tw1'60⟩ := u61
                      try dsimp only at hwb63
                      obtain ⟨er, hwb63⟩ := hwb63
                      subst er
                      have hP : va_P (dC, dI) vwCl [(ta, .inr (3, [.ref ts, .int (jI tn), .int (jI q), .int (jI tw1'60)])), (ts, .inl (cA, 400, .inl (jA tf)))] H := hP
                      have hD : va_D A [(ta, .inr (3, [.ref ts, .int (jI tn), .int (jI q), .int (jI tw1'60)])), (ts, .inl (cA, 400, .inl (jA tf)))] := hD
                      have f64 := f_XT_refuse_b tn q tw tf
                      rw [← hwb63] at f64; try dsimp only at f64
                      refine lv_pop hx hb dXT_number_111 rfl ?_
                      refine ji_iconst hx hb dXT_number_112 ?_
                      have hP9 := hP.sub (ws' := [(ta, .inr (3, [.ref ts, .int (jI tn), .int (jI q), .int (jI tw1'60)])), (ts, .inl (cA, 400, .inl (jA tf)))]) [0, 1] rfl
                      have hD9 := hD.sub (ws' := [(ta, .inr (3, [.ref ts, .int (jI tn), .int (jI q), .int (jI tw1'60)])), (ts, .inl (cA, 400, .inl (jA tf)))]) [0, 1] (by decide) rfl
                      subst hAe
                      subst hQ
                      exact W.iret (v := jI (-1)) hx hb hr (fun t ht hW => ⟨⟨_, (-1, q, tw1'60), rfl, ⟨rfl, Eq.trans (by rw [f_XT_number_L22_s]; rw [if_pos c26_, if_neg c36_, if_pos c41_, if_pos c45_, if_neg (Int.not_lt.mpr c82_48), if_neg (Int.not_lt.mpr c87_55), if_neg c104_58]; rw [← hwb63]; try dsimp only; try rfl) hF⟩, ⟨by rw [ht]; exact hP9, va_K.moved hW.alike hK, hD9⟩⟩, hS.F ht⟩) hS.2.2 dXT_number_113
                  · refine lv_aload_n hx hb dXT_number_90 rfl (lv_at hl 2 rfl) ?_
                    refine jwVi (rest := []) (wr := []) ⟨hx, hb, hml, hown, hts⟩ (c_XT_refuseLast l dC dI cA _ ta ts tn q tw tf) (cwV 0 hts (jG_V tw_205 tw_175 tw_176 tw_2 tw_177) rfl rfl rfl (by decide +kernel) (by rw [hR]; exact ⟨Nat.le_of_ble_eq_true rfl, Nat.le_of_ble_eq_true rfl⟩)) hK hP hD hS hA hN [0, 1] [] rfl rfl (by decide) (by decide) (by decide) 0 3 rfl rfl rfl rfl hl.1 rfl (Nat.le_of_ble_eq_true rfl) dXT_number_91 (by rw [hR]; exact ⟨Nat.le_of_ble_eq_true rfl, Nat.le_of_ble_eq_true rfl⟩) (fun v68 u67 H locs hwb69 hP hD hS => ?_)
                    obtain ⟨r65, tw1'66⟩ := u67
                    try dsimp only at hwb69
                    obtain ⟨er, hwb69⟩ := hwb69
                    subst er
                    have hP : va_P (dC, dI) vwCl [(ta, .inr (3, [.ref ts, .int (jI tn), .int (jI q), .int (jI tw1'66)])), (ts, .inl (cA, 400, .inl (jA tf)))] H := hP
                    have hD : va_D A [(ta, .inr (3, [.ref ts, .int (jI tn), .int (jI q), .int (jI tw1'66)])), (ts, .inl (cA, 400, .inl (jA tf)))] := hD
                    have f70 := f_XT_refuseLast_b tn q tw tf
                    rw [← hwb69] at f70; try dsimp only at f70
                    refine lv_pop hx hb dXT_number_94 rfl ?_
                    refine ji_iconst hx hb dXT_number_95 ?_
                    have hP9 := hP.sub (ws' := [(ta, .inr (3, [.ref ts, .int (jI tn), .int (jI q), .int (jI tw1'66)])), (ts, .inl (cA, 400, .inl (jA tf)))]) [0, 1] rfl
                    have hD9 := hD.sub (ws' := [(ta, .inr (3, [.ref ts, .int (jI tn), .int (jI q), .int (jI tw1'66)])), (ts, .inl (cA, 400, .inl (jA tf)))]) [0, 1] (by decide) rfl
                    subst hAe
                    subst hQ
                    exact W.iret (v := jI (-1)) hx hb hr (fun t ht hW => ⟨⟨_, (-1, q, tw1'66), rfl, ⟨rfl, Eq.trans (by rw [f_XT_number_L22_s]; rw [if_pos c26_, if_neg c36_, if_pos c41_, if_pos c45_, if_neg (Int.not_lt.mpr c82_48), if_pos c87_55]; rw [← hwb69]; try dsimp only; try rfl) hF⟩, ⟨by rw [ht]; exact hP9, va_K.moved hW.alike hK, hD9⟩⟩, hS.F ht⟩) hS.2.2 dXT_number_96
    exact loop22 (Int.toNat (6 - 0) + 1) 0 0 tp1' (by omega) (Eq.trans (by rw [f_XT_number_s]; rw [← hwb]; try dsimp only; rw [if_neg c7_]; try rfl) rfl) (by first | assumption | omega) (by first | assumption | omega) (by first | assumption | omega) (by first | assumption | omega) _ _ hP hD hS ls (lv_sub hl [0, 1, 2, 3, 4] rfl)
  · refine lv_aload_n hx hb dXT_number_10 rfl (lv_at hl 0 rfl) ?_
    refine jwVi (rest := []) (wr := []) ⟨hx, hb, hml, hown, hts⟩ (c_XT_refuse l dC dI cA _ ta ts tn tp1' tw tf) (cwV 0 hts (jG_V tw_163 tw_164 tw_165 tw_2 tw_166) rfl rfl rfl (by decide +kernel) (by rw [hR]; exact ⟨Nat.le_of_ble_eq_true rfl, Nat.le_of_ble_eq_true rfl⟩)) hK hP hD hS hA hN [0, 1] [] rfl rfl (by decide) (by decide) (by decide) 0 3 rfl rfl rfl rfl hl.1 rfl (Nat.le_of_ble_eq_true rfl) dXT_number_11 (by rw [hR]; exact ⟨Nat.le_of_ble_eq_true rfl, Nat.le_of_ble_eq_true rfl⟩) (fun v74 u73 H locs hwb75 hP hD hS => ?_)
    obtain ⟨r71, tw1'72⟩ := u73
    try dsimp only at hwb75
    obtain ⟨er, hwb75⟩ := hwb75
    subst er
    have hP : va_P (dC, dI) vwCl [(ta, .inr (3, [.ref ts, .int (jI tn), .int (jI tp1'), .int (jI tw1'72)])), (ts, .inl (cA, 400, .inl (jA tf)))] H := hP
    have hD : va_D A [(ta, .inr (3, [.ref ts, .int (jI tn), .int (jI tp1'), .int (jI tw1'72)])), (ts, .inl (cA, 400, .inl (jA tf)))] := hD
    have f76 := f_XT_refuse_b tn tp1' tw tf
    rw [← hwb75] at f76; try dsimp only at f76
    refine lv_pop hx hb dXT_number_14 rfl ?_
    refine ji_iconst hx hb dXT_number_15 ?_
    have hP9 := hP.sub (ws' := [(ta, .inr (3, [.ref ts, .int (jI tn), .int (jI tp1'), .int (jI tw1'72)])), (ts, .inl (cA, 400, .inl (jA tf)))]) [0, 1] rfl
    have hD9 := hD.sub (ws' := [(ta, .inr (3, [.ref ts, .int (jI tn), .int (jI tp1'), .int (jI tw1'72)])), (ts, .inl (cA, 400, .inl (jA tf)))]) [0, 1] (by decide) rfl
    subst hAe
    subst hQ
    exact W.iret (v := jI (-1)) hx hb hr (fun t ht hW => ⟨⟨_, (-1, tp1', tw1'72), rfl, ⟨rfl, Eq.trans (by rw [f_XT_number_s]; rw [← hwb]; try dsimp only; rw [if_pos c7_]; rw [← hwb75]; try dsimp only; try rfl) rfl⟩, ⟨by rw [ht]; exact hP9, va_K.moved hW.alike hK, hD9⟩⟩, hS.F ht⟩) hS.2.2 dXT_number_16

end
section
noncomputable def g_XT_append_L5 (tn : Int) (tp : Int) (tw : Int) (tf : Int → Int) (zb : Int) (zn : Int) : Nat → Int → Int → (Int → Int) → Int × Int × (Int → Int)
  | 0, _, _, _ => (0, 0, fun _ => 0)
  | n9 + 1, k, q, fa =>
    if k < 0 then
      (q, q, fa)
    else
      if q < 400 then
        g_XT_append_L5 tn tp tw tf zb zn n9 (k + (-1)) (q + 1) (jset fa q ((jushr zb (8 * k)) % 256))
      else
        (q, q, fa)
noncomputable def f_XT_append_L5 : Int → Int → Int → (Int → Int) → Int → Int → Nat → Int → Int → (Int → Int) → Int × Int × (Int → Int) := jopq g_XT_append_L5
theorem f_XT_append_L5_q : f_XT_append_L5 = g_XT_append_L5 := jopq_eq _
theorem f_XT_append_L5_s (tn : Int) (tp : Int) (tw : Int) (tf : Int → Int) (zb : Int) (zn : Int) (n9 : Nat) (k : Int) (q : Int) (fa : Int → Int) : f_XT_append_L5 tn tp tw tf zb zn (n9 + 1) k q fa = (
    if k < 0 then
      (q, q, fa)
    else
      if q < 400 then
        f_XT_append_L5 tn tp tw tf zb zn n9 (k + (-1)) (q + 1) (jset fa q ((jushr zb (8 * k)) % 256))
      else
        (q, q, fa)
  : Int × Int × (Int → Int)) := by rw [f_XT_append_L5_q]; rfl
noncomputable def g_XT_append (tn : Int) (tp : Int) (tw : Int) (tf : Int → Int) (zb : Int) (zn : Int) : Int × Int × (Int → Int) :=
  f_XT_append_L5 tn tp tw tf zb zn (Int.toNat ((zn - 1) + 1) + 1) (zn - 1) tn tf
noncomputable def f_XT_append : Int → Int → Int → (Int → Int) → Int → Int → Int × Int × (Int → Int) := jopq g_XT_append
theorem f_XT_append_q : f_XT_append = g_XT_append := jopq_eq _
theorem f_XT_append_s (tn : Int) (tp : Int) (tw : Int) (tf : Int → Int) (zb : Int) (zn : Int) : f_XT_append tn tp tw tf zb zn = (
    f_XT_append_L5 tn tp tw tf zb zn (Int.toNat ((zn - 1) + 1) + 1) (zn - 1) tn tf
  : Int × Int × (Int → Int)) := by rw [f_XT_append_q]; rfl
theorem f_XT_append_L_b (tn tp tw : Int) (tf : Int → Int) (zb zn : Int) : ∀ (n : Nat) (k q : Int) (fa : Int → Int), k + 1 < (n : Int) → -1 ≤ k → 0 ≤ q → q ≤ 400 → (∀ i, 0 ≤ fa i ∧ fa i < 256) → ((f_XT_append_L5 tn tp tw tf zb zn n k q fa).1 = (f_XT_append_L5 tn tp tw tf zb zn n k q fa).2.1 ∧ 0 ≤ (f_XT_append_L5 tn tp tw tf zb zn n k q fa).2.1 ∧ (f_XT_append_L5 tn tp tw tf zb zn n k q fa).2.1 ≤ 400 ∧ (q + k + 1 ≤ 400 → (f_XT_append_L5 tn tp tw tf zb zn n k q fa).2.1 = q + k + 1)) ∧ ∀ i, 0 ≤ (f_XT_append_L5 tn tp tw tf zb zn n k q fa).2.2 i ∧ (f_XT_append_L5 tn tp tw tf zb zn n k q fa).2.2 i < 256 := by
  intro n
  induction n with
  | zero => intro k q fa h; omega
  | succ n ih =>
    intro k q fa h h1 h2 h3 hf
    rw [f_XT_append_L5_s]
    split
    · exact ⟨by dsimp only; omega, hf⟩
    · split
      · have h9 := ih (k + (-1)) (q + 1) (jset fa q ((jushr zb (8 * k)) % 256)) (by omega) (by omega) (by omega) (by omega) (fun i => by
          unfold jset; split
          · have := Int.emod_nonneg (jushr zb (8 * k)) (show (256 : Int) ≠ 0 by decide)
            have := Int.emod_lt_of_pos (jushr zb (8 * k)) (show (0 : Int) < 256 by decide)
            omega
          · exact hf i)
        exact ⟨by omega, h9.2⟩
      · exact ⟨by dsimp only; omega, hf⟩
theorem f_XT_append_b (tn tp tw : Int) (tf : Int → Int) (zb zn : Int) (hn : 0 ≤ tn ∧ tn ≤ 400) (hf : ∀ i, 0 ≤ tf i ∧ tf i < 256) (hz : 1 ≤ zn ∧ zn ≤ 8) : (f_XT_append tn tp tw tf zb zn).1 = (f_XT_append tn tp tw tf zb zn).2.1 ∧ 0 ≤ (f_XT_append tn tp tw tf zb zn).2.1 ∧ (f_XT_append tn tp tw tf zb zn).2.1 ≤ 400 ∧ (tn + zn ≤ 400 → (f_XT_append tn tp tw tf zb zn).2.1 = tn + zn) := by
  have h := (f_XT_append_L_b tn tp tw tf zb zn (Int.toNat (zn - 1 + 1) + 1) (zn - 1) tn tf (by omega) (by omega) (by omega) (by omega) hf).1
  rw [f_XT_append_s]
  omega
theorem f_XT_append_f (tn tp tw : Int) (tf : Int → Int) (zb zn : Int) (hn : 0 ≤ tn ∧ tn ≤ 400) (hf : ∀ i, 0 ≤ tf i ∧ tf i < 256) (hz : 1 ≤ zn ∧ zn ≤ 8) : ∀ i, 0 ≤ (f_XT_append tn tp tw tf zb zn).2.2 i ∧ (f_XT_append tn tp tw tf zb zn).2.2 i < 256 := by rw [f_XT_append_s]; exact (f_XT_append_L_b tn tp tw tf zb zn (Int.toNat (zn - 1 + 1) + 1) (zn - 1) tn tf (by omega) (by omega) (by omega) (by omega) hf).2
set_option maxHeartbeats 4000000 in
set_option maxRecDepth 100000 in
theorem c_XT_append (l : Launch) (dC : Nat → ClassId) (dI : Nat → Nat → Nat) (cA : ClassId) (sz : Nat) (ta : Nat) (ts : Nat) (tn : Int) (tp : Int) (tw : Int) (tf : Int → Int) (zb : Int) (zn : Int) (hn : 0 ≤ tn ∧ tn ≤ 400) (hf : ∀ i, 0 ≤ tf i ∧ tf i < 256) (hz : 1 ≤ zn ∧ zn ≤ 8) : Met l yXT_append (Cond.code yXT_append cXT_append 5 (some .int) :: TBL) ({ frames := 0, cells := 0, slots := 0, locals := 0 } : Room) (va_Pc [.ref ta, .long (jL zb), .int (jI zn)] (jBw (dC, dI) [(cA, .int)] [(ta, .inr (3, [.ref ts, .int (jI tn), .int (jI tp), .int (jI tw)])), (ts, .inl (cA, 400, .inl (jA tf)))] sz)) (va_Qi (fun (r : Int32) (u : Int × Int × (Int → Int)) => r = jI u.1 ∧ u = f_XT_append tn tp tw tf zb zn) (fun u t => jE (dC, dI) [(cA, .int)] [(ta, .inr (3, [.ref ts, .int (jI tn), .int (jI tp), .int (jI tw)])), (ts, .inl (cA, 400, .inl (jA tf)))] sz [(ta, .inr (3, [.ref ts, .int (jI u.2.1), .int (jI tp), .int (jI tw)])), (ts, .inl (cA, 400, .inl (jA u.2.2)))] t) (va_A [(ta, .inr (3, [.ref ts, .int (jI tn), .int (jI tp), .int (jI tw)])), (ts, .inl (cA, 400, .inl (jA tf)))] sz)) 0 0 (va_A [(ta, .inr (3, [.ref ts, .int (jI tn), .int (jI tp), .int (jI tw)])), (ts, .inl (cA, 400, .inl (jA tf)))] sz) := by
  refine jMet (cc := cXT_append) (maxL := 5) (ret := some .int) (by decide) rfl ?_
  intro p e s m args below meth c s₁ R Q hR hQ B hml hv
  obtain ⟨rfl, hsz, hP, hK, hD0, hN⟩ := hv
  have hx := B.exec
  have hb := B.bytes
  have hr := B.returns
  have hts := atoms_spec (ws := Cond.code yXT_append cXT_append 5 (some .int) :: TBL) B.pre
  have hown : s.vm.findClass RXT = some m.cls := findClass_of_methodNamed B.named
  have hlocks := B.notSynchronized
  subst hsz
  obtain ⟨A, hAe⟩ : ∃ A, A = va_A [(ta, .inr (3, [.ref ts, .int (jI tn), .int (jI tp), .int (jI tw)])), (ts, .inl (cA, 400, .inl (jA tf)))] s.heap.size := ⟨_, rfl⟩
  have hD : va_D A [(ta, .inr (3, [.ref ts, .int (jI tn), .int (jI tp), .int (jI tw)])), (ts, .inl (cA, 400, .inl (jA tf)))] := by rw [hAe]; exact hD0.self
  have hA : ∀ q : Nat, s.heap.size ≤ q → A q := fun q h => by rw [hAe]; exact Or.inr h
  have hS : va_S A s.heap s.heap [] := va_S.rf
  have hP : va_P (dC, dI) vwCl [(ta, .inr (3, [.ref ts, .int (jI tn), .int (jI tp), .int (jI tw)])), (ts, .inl (cA, 400, .inl (jA tf)))] s.heap := hP
  have hl := lv_entry ([.ref ta, .long (jL zb), .int (jI zn)]) (n := 5) (Nat.le_of_ble_eq_true rfl)
  rw [lg_entry_eq]
  generalize (lg_sl ([.ref ta, .long (jL zb), .int (jI zn)]) ++ List.replicate (5 - (lg_sl ([.ref ta, .long (jL zb), .int (jI zn)])).length) Slot.unset).toArray = ls at hl ⊢
  have hl : lv_has ls 5 [(0, .ref ta), (1, .long (jL zb)), (3, .int (jI zn))] := hl
  refine lv_iload_n hx hb dXT_append_0 rfl (lv_at hl 2 rfl) ?_
  refine ji_iconst hx hb dXT_append_1 ?_
  refine ji_isub hx hb dXT_append_2 ?_
  refine lv_istore (lv' := [(4, .int (jI (zn - 1))), (0, .ref ta), (1, .long (jL zb)), (3, .int (jI zn))]) hx hb dXT_append_3 hl (by decide) rfl (fun ls hl => ?_)
  have loop5 : ∀ (n9 : Nat) (k : Int) (q : Int) (fa : Int → Int) , k + 1 < (n9 : Int) → f_XT_append_L5 tn tp tw tf zb zn n9 k q fa = f_XT_append tn tp tw tf zb zn → (-1 ≤ k ∧ k ≤ 7) → (0 ≤ q ∧ q ≤ 400) → ∀ (H : Heap) (locs : List Loc), va_P (dC, dI) vwCl [(ta, .inr (3, [.ref ts, .int (jI q), .int (jI tp), .int (jI tw)])), (ts, .inl (cA, 400, .inl (jA fa)))] H → va_D A [(ta, .inr (3, [.ref ts, .int (jI q), .int (jI tp), .int (jI tw)])), (ts, .inl (cA, 400, .inl (jA fa)))] → va_S A s.heap H locs → ∀ ls : Array Slot, lv_has ls 5 [(4, .int (jI k)), (0, .ref ta), (1, .long (jL zb)), (3, .int (jI zn))] → W p l e R s m ([.ref ta, .long (jL zb), .int (jI zn)] : List Value).toArray below meth c H locs 0 0 Q (F0 m 5 ls []) := by
    intro n9
    induction n9 with
    | zero =>
      intro k q fa hm hF hk hq
      exact absurd hm (by omega)
    | succ n9 ih5 =>
      intro k q fa hm hF hk hq H locs hP hD hS ls hl
      refine lv_iload hx hb dXT_append_5 (lv_at hl 0 rfl) ?_
      refine ji_if_lt (tgt := 57) hx hb dXT_append_7 (by decide) (by omega) (fun c7_ => ?_) (fun c7_ => ?_)
      · refine lv_aload_n hx hb dXT_append_57 rfl (lv_at hl 1 rfl) ?_
        refine va_get (D := (dC, dI)) (ci := 3) (v := .int (jI q)) (C := RXT) (T := TXT) (N := 4) hx hb hts (fun w h => jmem (inXT w h)) hown hK hP 0 rfl rfl 1 (by decide) (hts _ (jmem tw_31)) (fun _ h9 => h9) rfl dXT_append_58 ?_
        have hP9 := hP.sub (ws' := [(ta, .inr (3, [.ref ts, .int (jI q), .int (jI tp), .int (jI tw)])), (ts, .inl (cA, 400, .inl (jA fa)))]) [0, 1] rfl
        have hD9 := hD.sub (ws' := [(ta, .inr (3, [.ref ts, .int (jI q), .int (jI tp), .int (jI tw)])), (ts, .inl (cA, 400, .inl (jA fa)))]) [0, 1] (by decide) rfl
        subst hAe
        subst hQ
        exact W.iret (v := jI q) hx hb hr (fun t ht hW => ⟨⟨_, (q, q, fa), rfl, ⟨rfl, Eq.trans (by rw [f_XT_append_L5_s]; rw [if_pos c7_]; try rfl) hF⟩, ⟨by rw [ht]; exact hP9, va_K.moved hW.alike hK, hD9⟩⟩, hS.F ht⟩) hS.2.2 dXT_append_61
      · refine lv_aload_n hx hb dXT_append_10 rfl (lv_at hl 1 rfl) ?_
        refine va_get (D := (dC, dI)) (ci := 3) (v := .int (jI q)) (C := RXT) (T := TXT) (N := 4) hx hb hts (fun w h => jmem (inXT w h)) hown hK hP 0 rfl rfl 1 (by decide) (hts _ (jmem tw_31)) (fun _ h9 => h9) rfl dXT_append_11 ?_
        refine ji_sipush hx hb dXT_append_14 (by decide) ?_
        refine ji_icmp_ge (tgt := 57) hx hb dXT_append_17 (by decide) (by omega) (by omega) (fun c17_ => ?_) (fun c17_ => ?_)
        · refine lv_aload_n hx hb dXT_append_57 rfl (lv_at hl 1 rfl) ?_
          refine va_get (D := (dC, dI)) (ci := 3) (v := .int (jI q)) (C := RXT) (T := TXT) (N := 4) hx hb hts (fun w h => jmem (inXT w h)) hown hK hP 0 rfl rfl 1 (by decide) (hts _ (jmem tw_31)) (fun _ h9 => h9) rfl dXT_append_58 ?_
          have hP9 := hP.sub (ws' := [(ta, .inr (3, [.ref ts, .int (jI q), .int (jI tp), .int (jI tw)])), (ts, .inl (cA, 400, .inl (jA fa)))]) [0, 1] rfl
          have hD9 := hD.sub (ws' := [(ta, .inr (3, [.ref ts, .int (jI q), .int (jI tp), .int (jI tw)])), (ts, .inl (cA, 400, .inl (jA fa)))]) [0, 1] (by decide) rfl
          subst hAe
          subst hQ
          exact W.iret (v := jI q) hx hb hr (fun t ht hW => ⟨⟨_, (q, q, fa), rfl, ⟨rfl, Eq.trans (by rw [f_XT_append_L5_s]; rw [if_neg (Int.not_lt.mpr c7_), if_neg (Int.not_lt.mpr c17_)]; try rfl) hF⟩, ⟨by rw [ht]; exact hP9, va_K.moved hW.alike hK, hD9⟩⟩, hS.F ht⟩) hS.2.2 dXT_append_61
        · refine lv_aload_n hx hb dXT_append_20 rfl (lv_at hl 1 rfl) ?_
          refine va_get (D := (dC, dI)) (ci := 3) (v := .ref ts) (C := RXT) (T := TXT) (N := 4) hx hb hts (fun w h => jmem (inXT w h)) hown hK hP 0 rfl rfl 0 (by decide) (hts _ (jmem tw_30)) (fun _ h9 => h9) rfl dXT_append_21 ?_
          refine lv_aload_n hx hb dXT_append_24 rfl (lv_at hl 1 rfl) ?_
          refine va_get (D := (dC, dI)) (ci := 3) (v := .int (jI q)) (C := RXT) (T := TXT) (N := 4) hx hb hts (fun w h => jmem (inXT w h)) hown hK hP 0 rfl rfl 1 (by decide) (hts _ (jmem tw_31)) (fun _ h9 => h9) rfl dXT_append_25 ?_
          refine lv_lload_n hx hb dXT_append_28 rfl (lv_at hl 2 rfl) ?_
          refine ji_bipush hx hb dXT_append_29 (by decide) ?_
          refine lv_iload hx hb dXT_append_31 (lv_at hl 0 rfl) ?_
          refine ji_imul hx hb dXT_append_33 ?_
          refine ji_lushr hx hb dXT_append_34 (by omega) ?_
          refine lv_ldc2 hx hb hown (hts _ (jmem tw_403)) dXT_append_35 ?_
          refine ji_rel (y := 255) (by decide) ?_
          refine ji_land255 hx hb dXT_append_38 ?_
          refine ji_l2i hx hb dXT_append_39 ?_
          refine ji_iast hx hb hK hP hD hS 1 0 rfl rfl ⟨by omega, by omega⟩ (by decide) dXT_append_40 (fun H locs hP hD hS => ?_)
          have hP : va_P (dC, dI) vwCl [(ta, .inr (3, [.ref ts, .int (jI q), .int (jI tp), .int (jI tw)])), (ts, .inl (cA, 400, .inl (jA (jset fa q ((jushr zb (8 * k)) % 256)))))] H := hP
          have hD : va_D A [(ta, .inr (3, [.ref ts, .int (jI q), .int (jI tp), .int (jI tw)])), (ts, .inl (cA, 400, .inl (jA (jset fa q ((jushr zb (8 * k)) % 256)))))] := hD
          refine lv_aload_n hx hb dXT_append_41 rfl (lv_at hl 1 rfl) ?_
          refine lv_dup hx hb dXT_append_42 rfl ?_
          refine va_get (D := (dC, dI)) (ci := 3) (v := .int (jI q)) (C := RXT) (T := TXT) (N := 4) hx hb hts (fun w h => jmem (inXT w h)) hown hK hP 0 rfl rfl 1 (by decide) (hts _ (jmem tw_31)) (fun _ h9 => h9) rfl dXT_append_43 ?_
          refine ji_iconst hx hb dXT_append_46 ?_
          refine ji_iadd hx hb dXT_append_47 ?_
          refine va_put (D := (dC, dI)) (ci := 3) (v := .int (jI (q + 1))) (ty := (.int)) (C := RXT) (T := TXT) (N := 4) hx hb hts (fun w h => jmem (inXT w h)) tyXT tyXT_ok nXT hown hK hP hD hS 0 rfl rfl 1 (by decide) (hts _ (jmem tw_31)) (fun _ h9 => h9) rfl (by decide +kernel) rfl rfl (Nat.le_of_ble_eq_true rfl) dXT_append_48 (fun H locs hP hD hS => ?_)
          have hP : va_P (dC, dI) vwCl [(ta, .inr (3, [.ref ts, .int (jI (q + 1)), .int (jI tp), .int (jI tw)])), (ts, .inl (cA, 400, .inl (jA (jset fa q ((jushr zb (8 * k)) % 256)))))] H := hP
          have hD : va_D A [(ta, .inr (3, [.ref ts, .int (jI (q + 1)), .int (jI tp), .int (jI tw)])), (ts, .inl (cA, 400, .inl (jA (jset fa q ((jushr zb (8 * k)) % 256)))))] := hD
          refine ji_iinc (k := 0) (lv' := [(4, .int (jI (k + (-1)))), (0, .ref ta), (1, .long (jL zb)), (3, .int (jI zn))]) hx hb dXT_append_51 hl rfl (by decide) rfl (fun ls hl => ?_)
          refine lv_goto (tgt := 5) hx hb dXT_append_54 (by decide) ?_
          exact ih5 (k + (-1)) (q + 1) (jset fa q ((jushr zb (8 * k)) % 256)) (by omega) (Eq.trans (by rw [f_XT_append_L5_s]; rw [if_neg (Int.not_lt.mpr c7_), if_pos c17_]; try rfl) hF) (by first | assumption | omega) (by first | assumption | omega) _ _ hP hD hS ls (lv_sub hl [0, 1, 2, 3] rfl)
  exact loop5 (Int.toNat ((zn - 1) + 1) + 1) (zn - 1) tn tf (by omega) (Eq.trans (by rw [f_XT_append_s]; try rfl) rfl) (by first | assumption | omega) (by first | assumption | omega) _ _ hP hD hS ls (lv_sub hl [0, 1, 2, 3] rfl)

end
section
noncomputable def g_XA_fill8_L5 (fw : Int → Int) (zv : Int) : Nat → Int → (Int → Int) → (Int → Int)
  | 0, _, _ => fun _ => 0
  | n9 + 1, k, fa =>
    if k < 8 then
      g_XA_fill8_L5 fw zv n9 (k + 1) (jset fa k zv)
    else
      fa
noncomputable def f_XA_fill8_L5 : (Int → Int) → Int → Nat → Int → (Int → Int) → (Int → Int) := jopq g_XA_fill8_L5
theorem f_XA_fill8_L5_q : f_XA_fill8_L5 = g_XA_fill8_L5 := jopq_eq _
theorem f_XA_fill8_L5_s (fw : Int → Int) (zv : Int) (n9 : Nat) (k : Int) (fa : Int → Int) : f_XA_fill8_L5 fw zv (n9 + 1) k fa = (
    if k < 8 then
      f_XA_fill8_L5 fw zv n9 (k + 1) (jset fa k zv)
    else
      fa
  : (Int → Int)) := by rw [f_XA_fill8_L5_q]; rfl
noncomputable def g_XA_fill8 (fw : Int → Int) (zv : Int) : (Int → Int) :=
  f_XA_fill8_L5 fw zv (Int.toNat (8 - 0) + 1) 0 fw
noncomputable def f_XA_fill8 : (Int → Int) → Int → (Int → Int) := jopq g_XA_fill8
theorem f_XA_fill8_q : f_XA_fill8 = g_XA_fill8 := jopq_eq _
theorem f_XA_fill8_s (fw : Int → Int) (zv : Int) : f_XA_fill8 fw zv = (
    f_XA_fill8_L5 fw zv (Int.toNat (8 - 0) + 1) 0 fw
  : (Int → Int)) := by rw [f_XA_fill8_q]; rfl
theorem f_XA_fill8_L (fw : Int → Int) (zv : Int) : ∀ (n : Nat) (k : Int) (fa : Int → Int), 8 - k < (n : Int) → 0 ≤ k → k ≤ 8 → f_XA_fill8_L5 fw zv n k fa = fun i => if k ≤ i ∧ i < 8 then zv else fa i := by
  intro n
  induction n with
  | zero => intro k fa h; omega
  | succ n ih =>
    intro k fa h h0 h1
    rw [f_XA_fill8_L5_s]
    split
    · rw [ih _ _ (by omega) (by omega) (by omega)]
      funext i
      unfold jset
      by_cases h : i = k
      · rw [if_neg (by omega), if_pos h, if_pos (by omega)]
      · by_cases h2 : k + 1 ≤ i ∧ i < 8
        · rw [if_pos h2, if_pos (by omega)]
        · rw [if_neg h2, if_neg h, if_neg (by omega)]
    · funext i
      rw [if_neg (by omega)]
theorem f_XA_fill8_eq (fw : Int → Int) (zv : Int) : f_XA_fill8 fw zv = fun i => if 0 ≤ i ∧ i < 8 then zv else fw i := by rw [f_XA_fill8_s]; exact f_XA_fill8_L fw zv _ _ _ (by omega) (by omega) (by omega)
theorem f_XA_fill8_p (P : Int → Prop) (fw : Int → Int) (zv : Int) (hv : P zv) (h : ∀ i, P (fw i)) : ∀ i, P (f_XA_fill8 fw zv i) := by
  intro i
  rw [f_XA_fill8_eq]
  dsimp only
  split
  · exact hv
  · exact h i
set_option maxHeartbeats 4000000 in
set_option maxRecDepth 100000 in
theorem c_XA_fill8 (l : Launch) (dC : Nat → ClassId) (dI : Nat → Nat → Nat) (cA : ClassId) (sz : Nat) (ra : Nat) (fw : Int → Int) (zv : Int) : Met l yXA_fill (Cond.code yXA_fill cXA_fill 4 none :: TBL) ({ frames := 0, cells := 0, slots := 0, locals := 0 } : Room) (va_Pc [.ref ra, .int (jI zv)] (jBw (dC, dI) [(cA, .int)] [(ra, .inl (cA, 8, .inl (jA fw)))] sz)) (va_Qv (fun (u : (Int → Int)) => u = f_XA_fill8 fw zv) (fun u t => jE (dC, dI) [(cA, .int)] [(ra, .inl (cA, 8, .inl (jA fw)))] sz [(ra, .inl (cA, 8, .inl (jA u)))] t) (va_A [(ra, .inl (cA, 8, .inl (jA fw)))] sz)) 0 0 (va_A [(ra, .inl (cA, 8, .inl (jA fw)))] sz) := by
  refine jMet (cc := cXA_fill) (maxL := 4) (ret := none) (by decide) rfl ?_
  intro p e s m args below meth c s₁ R Q hR hQ B hml hv
  obtain ⟨rfl, hsz, hP, hK, hD0, hN⟩ := hv
  have hx := B.exec
  have hb := B.bytes
  have hr := B.returns
  have hts := atoms_spec (ws := Cond.code yXA_fill cXA_fill 4 none :: TBL) B.pre
  have hown : s.vm.findClass RXA = some m.cls := findClass_of_methodNamed B.named
  have hlocks := B.notSynchronized
  subst hsz
  obtain ⟨A, hAe⟩ : ∃ A, A = va_A [(ra, .inl (cA, 8, .inl (jA fw)))] s.heap.size := ⟨_, rfl⟩
  have hD : va_D A [(ra, .inl (cA, 8, .inl (jA fw)))] := by rw [hAe]; exact hD0.self
  have hA : ∀ q : Nat, s.heap.size ≤ q → A q := fun q h => by rw [hAe]; exact Or.inr h
  have hS : va_S A s.heap s.heap [] := va_S.rf
  have hP : va_P (dC, dI) vwCl [(ra, .inl (cA, 8, .inl (jA fw)))] s.heap := hP
  have hl := lv_entry ([.ref ra, .int (jI zv)]) (n := 4) (Nat.le_of_ble_eq_true rfl)
  rw [lg_entry_eq]
  generalize (lg_sl ([.ref ra, .int (jI zv)]) ++ List.replicate (4 - (lg_sl ([.ref ra, .int (jI zv)])).length) Slot.unset).toArray = ls at hl ⊢
  have hl : lv_has ls 4 [(0, .ref ra), (1, .int (jI zv))] := hl
  refine ji_iconst hx hb dXA_fill_0 ?_
  refine lv_istore_n (lv' := [(2, .int (jI 0)), (0, .ref ra), (1, .int (jI zv))]) hx hb dXA_fill_1 rfl hl (by decide) rfl (fun ls hl => ?_)
  refine lv_aload_n hx hb dXA_fill_2 rfl (lv_at hl 1 rfl) ?_
  refine ji_alen (z := 8) hx hb hK hP 0 0 rfl rfl rfl dXA_fill_3 ?_
  refine lv_istore_n (lv' := [(3, .int (jI 8)), (2, .int (jI 0)), (0, .ref ra), (1, .int (jI zv))]) hx hb dXA_fill_4 rfl hl (by decide) rfl (fun ls hl => ?_)
  have loop5 : ∀ (n9 : Nat) (k : Int) (fa : Int → Int) , 8 - k < (n9 : Int) → f_XA_fill8_L5 fw zv n9 k fa = f_XA_fill8 fw zv → (0 ≤ k ∧ k ≤ 8) → ∀ (H : Heap) (locs : List Loc), va_P (dC, dI) vwCl [(ra, .inl (cA, 8, .inl (jA fa)))] H → va_D A [(ra, .inl (cA, 8, .inl (jA fa)))] → va_S A s.heap H locs → ∀ ls : Array Slot, lv_has ls 4 [(3, .int (jI 8)), (2, .int (jI k)), (0, .ref ra), (1, .int (jI zv))] → W p l e R s m ([.ref ra, .int (jI zv)] : List Value).toArray below meth c H locs 0 0 Q (F0 m 5 ls []) := by
    intro n9
    induction n9 with
    | zero =>
      intro k fa hm hF hk
      exact absurd hm (by omega)
    | succ n9 ih5 =>
      intro k fa hm hF hk H locs hP hD hS ls hl
      refine lv_iload_n hx hb dXA_fill_5 rfl (lv_at hl 1 rfl) ?_
      refine lv_iload_n hx hb dXA_fill_6 rfl (lv_at hl 0 rfl) ?_
      refine ji_icmp_ge (tgt := 20) hx hb dXA_fill_7 (by decide) (by omega) (by omega) (fun c7_ => ?_) (fun c7_ => ?_)
      · have hP9 := hP.sub (ws' := [(ra, .inl (cA, 8, .inl (jA fa)))]) [0] rfl
        have hD9 := hD.sub (ws' := [(ra, .inl (cA, 8, .inl (jA fa)))]) [0] (by decide) rfl
        subst hAe
        subst hQ
        exact W.vret hx hb hr (fun t ht hW => ⟨⟨fa, rfl, Eq.trans (by rw [f_XA_fill8_L5_s]; rw [if_neg (Int.not_lt.mpr c7_)]; try rfl) hF, ⟨by rw [ht]; exact hP9, va_K.moved hW.alike hK, hD9⟩⟩, hS.F ht⟩) hS.2.2 dXA_fill_20
      · refine lv_aload_n hx hb dXA_fill_10 rfl (lv_at hl 2 rfl) ?_
        refine lv_iload_n hx hb dXA_fill_11 rfl (lv_at hl 1 rfl) ?_
        refine lv_iload_n hx hb dXA_fill_12 rfl (lv_at hl 3 rfl) ?_
        refine ji_iast hx hb hK hP hD hS 0 0 rfl rfl ⟨by omega, by omega⟩ (by decide) dXA_fill_13 (fun H locs hP hD hS => ?_)
        have hP : va_P (dC, dI) vwCl [(ra, .inl (cA, 8, .inl (jA (jset fa k zv))))] H := hP
        have hD : va_D A [(ra, .inl (cA, 8, .inl (jA (jset fa k zv))))] := hD
        refine ji_iinc (k := 1) (lv' := [(2, .int (jI (k + 1))), (3, .int (jI 8)), (0, .ref ra), (1, .int (jI zv))]) hx hb dXA_fill_14 hl rfl (by decide) rfl (fun ls hl => ?_)
        refine lv_goto (tgt := 5) hx hb dXA_fill_17 (by decide) ?_
        exact ih5 (k + 1) (jset fa k zv) (by omega) (Eq.trans (by rw [f_XA_fill8_L5_s]; rw [if_pos c7_]; try rfl) hF) (by first | assumption | omega) _ _ hP hD hS ls (lv_sub hl [1, 0, 2, 3] rfl)
  exact loop5 (Int.toNat (8 - 0) + 1) 0 fw (by omega) (Eq.trans (by rw [f_XA_fill8_s]; try rfl) rfl) (by first | assumption | omega) _ _ hP hD hS ls (lv_sub hl [0, 1, 2, 3] rfl)
noncomputable def g_XA_fill31_L5 (fw : Int → Int) (zv : Int) : Nat → Int → (Int → Int) → (Int → Int)
  | 0, _, _ => fun _ => 0
  | n9 + 1, k, fa =>
    if k < 31 then
      g_XA_fill31_L5 fw zv n9 (k + 1) (jset fa k zv)
    else
      fa
noncomputable def f_XA_fill31_L5 : (Int → Int) → Int → Nat → Int → (Int → Int) → (Int → Int) := jopq g_XA_fill31_L5
theorem f_XA_fill31_L5_q : f_XA_fill31_L5 = g_XA_fill31_L5 := jopq_eq _
theorem f_XA_fill31_L5_s (fw : Int → Int) (zv : Int) (n9 : Nat) (k : Int) (fa : Int → Int) : f_XA_fill31_L5 fw zv (n9 + 1) k fa = (
    if k < 31 then
      f_XA_fill31_L5 fw zv n9 (k + 1) (jset fa k zv)
    else
      fa
  : (Int → Int)) := by rw [f_XA_fill31_L5_q]; rfl
noncomputable def g_XA_fill31 (fw : Int → Int) (zv : Int) : (Int → Int) :=
  f_XA_fill31_L5 fw zv (Int.toNat (31 - 0) + 1) 0 fw
noncomputable def f_XA_fill31 : (Int → Int) → Int → (Int → Int) := jopq g_XA_fill31
theorem f_XA_fill31_q : f_XA_fill31 = g_XA_fill31 := jopq_eq _
theorem f_XA_fill31_s (fw : Int → Int) (zv : Int) : f_XA_fill31 fw zv = (
    f_XA_fill31_L5 fw zv (Int.toNat (31 - 0) + 1) 0 fw
  : (Int → Int)) := by rw [f_XA_fill31_q]; rfl
theorem f_XA_fill31_L (fw : Int → Int) (zv : Int) : ∀ (n : Nat) (k : Int) (fa : Int → Int), 31 - k < (n : Int) → 0 ≤ k → k ≤ 31 → f_XA_fill31_L5 fw zv n k fa = fun i => if k ≤ i ∧ i < 31 then zv else fa i := by
  intro n
  induction n with
  | zero => intro k fa h; omega
  | succ n ih =>
    intro k fa h h0 h1
    rw [f_XA_fill31_L5_s]
    split
    · rw [ih _ _ (by omega) (by omega) (by omega)]
      funext i
      unfold jset
      by_cases h : i = k
      · rw [if_neg (by omega), if_pos h, if_pos (by omega)]
      · by_cases h2 : k + 1 ≤ i ∧ i < 31
        · rw [if_pos h2, if_pos (by omega)]
        · rw [if_neg h2, if_neg h, if_neg (by omega)]
    · funext i
      rw [if_neg (by omega)]
theorem f_XA_fill31_eq (fw : Int → Int) (zv : Int) : f_XA_fill31 fw zv = fun i => if 0 ≤ i ∧ i < 31 then zv else fw i := by rw [f_XA_fill31_s]; exact f_XA_fill31_L fw zv _ _ _ (by omega) (by omega) (by omega)
theorem f_XA_fill31_p (P : Int → Prop) (fw : Int → Int) (zv : Int) (hv : P zv) (h : ∀ i, P (fw i)) : ∀ i, P (f_XA_fill31 fw zv i) := by
  intro i
  rw [f_XA_fill31_eq]
  dsimp only
  split
  · exact hv
  · exact h i
set_option maxHeartbeats 4000000 in
set_option maxRecDepth 100000 in
theorem c_XA_fill31 (l : Launch) (dC : Nat → ClassId) (dI : Nat → Nat → Nat) (cA : ClassId) (sz : Nat) (ra : Nat) (fw : Int → Int) (zv : Int) : Met l yXA_fill (Cond.code yXA_fill cXA_fill 4 none :: TBL) ({ frames := 0, cells := 0, slots := 0, locals := 0 } : Room) (va_Pc [.ref ra, .int (jI zv)] (jBw (dC, dI) [(cA, .int)] [(ra, .inl (cA, 31, .inl (jA fw)))] sz)) (va_Qv (fun (u : (Int → Int)) => u = f_XA_fill31 fw zv) (fun u t => jE (dC, dI) [(cA, .int)] [(ra, .inl (cA, 31, .inl (jA fw)))] sz [(ra, .inl (cA, 31, .inl (jA u)))] t) (va_A [(ra, .inl (cA, 31, .inl (jA fw)))] sz)) 0 0 (va_A [(ra, .inl (cA, 31, .inl (jA fw)))] sz) := by
  refine jMet (cc := cXA_fill) (maxL := 4) (ret := none) (by decide) rfl ?_
  intro p e s m args below meth c s₁ R Q hR hQ B hml hv
  obtain ⟨rfl, hsz, hP, hK, hD0, hN⟩ := hv
  have hx := B.exec
  have hb := B.bytes
  have hr := B.returns
  have hts := atoms_spec (ws := Cond.code yXA_fill cXA_fill 4 none :: TBL) B.pre
  have hown : s.vm.findClass RXA = some m.cls := findClass_of_methodNamed B.named
  have hlocks := B.notSynchronized
  subst hsz
  obtain ⟨A, hAe⟩ : ∃ A, A = va_A [(ra, .inl (cA, 31, .inl (jA fw)))] s.heap.size := ⟨_, rfl⟩
  have hD : va_D A [(ra, .inl (cA, 31, .inl (jA fw)))] := by rw [hAe]; exact hD0.self
  have hA : ∀ q : Nat, s.heap.size ≤ q → A q := fun q h => by rw [hAe]; exact Or.inr h
  have hS : va_S A s.heap s.heap [] := va_S.rf
  have hP : va_P (dC, dI) vwCl [(ra, .inl (cA, 31, .inl (jA fw)))] s.heap := hP
  have hl := lv_entry ([.ref ra, .int (jI zv)]) (n := 4) (Nat.le_of_ble_eq_true rfl)
  rw [lg_entry_eq]
  generalize (lg_sl ([.ref ra, .int (jI zv)]) ++ List.replicate (4 - (lg_sl ([.ref ra, .int (jI zv)])).length) Slot.unset).toArray = ls at hl ⊢
  have hl : lv_has ls 4 [(0, .ref ra), (1, .int (jI zv))] := hl
  refine ji_iconst hx hb dXA_fill_0 ?_
  refine lv_istore_n (lv' := [(2, .int (jI 0)), (0, .ref ra), (1, .int (jI zv))]) hx hb dXA_fill_1 rfl hl (by decide) rfl (fun ls hl => ?_)
  refine lv_aload_n hx hb dXA_fill_2 rfl (lv_at hl 1 rfl) ?_
  refine ji_alen (z := 31) hx hb hK hP 0 0 rfl rfl rfl dXA_fill_3 ?_
  refine lv_istore_n (lv' := [(3, .int (jI 31)), (2, .int (jI 0)), (0, .ref ra), (1, .int (jI zv))]) hx hb dXA_fill_4 rfl hl (by decide) rfl (fun ls hl => ?_)
  have loop5 : ∀ (n9 : Nat) (k : Int) (fa : Int → Int) , 31 - k < (n9 : Int) → f_XA_fill31_L5 fw zv n9 k fa = f_XA_fill31 fw zv → (0 ≤ k ∧ k ≤ 31) → ∀ (H : Heap) (locs : List Loc), va_P (dC, dI) vwCl [(ra, .inl (cA, 31, .inl (jA fa)))] H → va_D A [(ra, .inl (cA, 31, .inl (jA fa)))] → va_S A s.heap H locs → ∀ ls : Array Slot, lv_has ls 4 [(3, .int (jI 31)), (2, .int (jI k)), (0, .ref ra), (1, .int (jI zv))] → W p l e R s m ([.ref ra, .int (jI zv)] : List Value).toArray below meth c H locs 0 0 Q (F0 m 5 ls []) := by
    intro n9
    induction n9 with
    | zero =>
      intro k fa hm hF hk
      exact absurd hm (by omega)
    | succ n9 ih5 =>
      intro k fa hm hF hk H locs hP hD hS ls hl
      refine lv_iload_n hx hb dXA_fill_5 rfl (lv_at hl 1 rfl) ?_
      refine lv_iload_n hx hb dXA_fill_6 rfl (lv_at hl 0 rfl) ?_
      refine ji_icmp_ge (tgt := 20) hx hb dXA_fill_7 (by decide) (by omega) (by omega) (fun c7_ => ?_) (fun c7_ => ?_)
      · have hP9 := hP.sub (ws' := [(ra, .inl (cA, 31, .inl (jA fa)))]) [0] rfl
        have hD9 := hD.sub (ws' := [(ra, .inl (cA, 31, .inl (jA fa)))]) [0] (by decide) rfl
        subst hAe
        subst hQ
        exact W.vret hx hb hr (fun t ht hW => ⟨⟨fa, rfl, Eq.trans (by rw [f_XA_fill31_L5_s]; rw [if_neg (Int.not_lt.mpr c7_)]; try rfl) hF, ⟨by rw [ht]; exact hP9, va_K.moved hW.alike hK, hD9⟩⟩, hS.F ht⟩) hS.2.2 dXA_fill_20
      · refine lv_aload_n hx hb dXA_fill_10 rfl (lv_at hl 2 rfl) ?_
        refine lv_iload_n hx hb dXA_fill_11 rfl (lv_at hl 1 rfl) ?_
        refine lv_iload_n hx hb dXA_fill_12 rfl (lv_at hl 3 rfl) ?_
        refine ji_iast hx hb hK hP hD hS 0 0 rfl rfl ⟨by omega, by omega⟩ (by decide) dXA_fill_13 (fun H locs hP hD hS => ?_)
        have hP : va_P (dC, dI) vwCl [(ra, .inl (cA, 31, .inl (jA (jset fa k zv))))] H := hP
        have hD : va_D A [(ra, .inl (cA, 31, .inl (jA (jset fa k zv))))] := hD
        refine ji_iinc (k := 1) (lv' := [(2, .int (jI (k + 1))), (3, .int (jI 31)), (0, .ref ra), (1, .int (jI zv))]) hx hb dXA_fill_14 hl rfl (by decide) rfl (fun ls hl => ?_)
        refine lv_goto (tgt := 5) hx hb dXA_fill_17 (by decide) ?_
        exact ih5 (k + 1) (jset fa k zv) (by omega) (Eq.trans (by rw [f_XA_fill31_L5_s]; rw [if_pos c7_]; try rfl) hF) (by first | assumption | omega) _ _ hP hD hS ls (lv_sub hl [1, 0, 2, 3] rfl)
  exact loop5 (Int.toNat (31 - 0) + 1) 0 fw (by omega) (Eq.trans (by rw [f_XA_fill31_s]; try rfl) rfl) (by first | assumption | omega) _ _ hP hD hS ls (lv_sub hl [0, 1, 2, 3] rfl)
noncomputable def g_XA_fill32_L5 (fw : Int → Int) (zv : Int) : Nat → Int → (Int → Int) → (Int → Int)
  | 0, _, _ => fun _ => 0
  | n9 + 1, k, fa =>
    if k < 32 then
      g_XA_fill32_L5 fw zv n9 (k + 1) (jset fa k zv)
    else
      fa
noncomputable def f_XA_fill32_L5 : (Int → Int) → Int → Nat → Int → (Int → Int) → (Int → Int) := jopq g_XA_fill32_L5
theorem f_XA_fill32_L5_q : f_XA_fill32_L5 = g_XA_fill32_L5 := jopq_eq _
theorem f_XA_fill32_L5_s (fw : Int → Int) (zv : Int) (n9 : Nat) (k : Int) (fa : Int → Int) : f_XA_fill32_L5 fw zv (n9 + 1) k fa = (
    if k < 32 then
      f_XA_fill32_L5 fw zv n9 (k + 1) (jset fa k zv)
    else
      fa
  : (Int → Int)) := by rw [f_XA_fill32_L5_q]; rfl
noncomputable def g_XA_fill32 (fw : Int → Int) (zv : Int) : (Int → Int) :=
  f_XA_fill32_L5 fw zv (Int.toNat (32 - 0) + 1) 0 fw
noncomputable def f_XA_fill32 : (Int → Int) → Int → (Int → Int) := jopq g_XA_fill32
theorem f_XA_fill32_q : f_XA_fill32 = g_XA_fill32 := jopq_eq _
theorem f_XA_fill32_s (fw : Int → Int) (zv : Int) : f_XA_fill32 fw zv = (
    f_XA_fill32_L5 fw zv (Int.toNat (32 - 0) + 1) 0 fw
  : (Int → Int)) := by rw [f_XA_fill32_q]; rfl
theorem f_XA_fill32_L (fw : Int → Int) (zv : Int) : ∀ (n : Nat) (k : Int) (fa : Int → Int), 32 - k < (n : Int) → 0 ≤ k → k ≤ 32 → f_XA_fill32_L5 fw zv n k fa = fun i => if k ≤ i ∧ i < 32 then zv else fa i := by
  intro n
  induction n with
  | zero => intro k fa h; omega
  | succ n ih =>
    intro k fa h h0 h1
    rw [f_XA_fill32_L5_s]
    split
    · rw [ih _ _ (by omega) (by omega) (by omega)]
      funext i
      unfold jset
      by_cases h : i = k
      · rw [if_neg (by omega), if_pos h, if_pos (by omega)]
      · by_cases h2 : k + 1 ≤ i ∧ i < 32
        · rw [if_pos h2, if_pos (by omega)]
        · rw [if_neg h2, if_neg h, if_neg (by omega)]
    · funext i
      rw [if_neg (by omega)]
theorem f_XA_fill32_eq (fw : Int → Int) (zv : Int) : f_XA_fill32 fw zv = fun i => if 0 ≤ i ∧ i < 32 then zv else fw i := by rw [f_XA_fill32_s]; exact f_XA_fill32_L fw zv _ _ _ (by omega) (by omega) (by omega)
theorem f_XA_fill32_p (P : Int → Prop) (fw : Int → Int) (zv : Int) (hv : P zv) (h : ∀ i, P (fw i)) : ∀ i, P (f_XA_fill32 fw zv i) := by
  intro i
  rw [f_XA_fill32_eq]
  dsimp only
  split
  · exact hv
  · exact h i
set_option maxHeartbeats 4000000 in
set_option maxRecDepth 100000 in
theorem c_XA_fill32 (l : Launch) (dC : Nat → ClassId) (dI : Nat → Nat → Nat) (cA : ClassId) (sz : Nat) (ra : Nat) (fw : Int → Int) (zv : Int) : Met l yXA_fill (Cond.code yXA_fill cXA_fill 4 none :: TBL) ({ frames := 0, cells := 0, slots := 0, locals := 0 } : Room) (va_Pc [.ref ra, .int (jI zv)] (jBw (dC, dI) [(cA, .int)] [(ra, .inl (cA, 32, .inl (jA fw)))] sz)) (va_Qv (fun (u : (Int → Int)) => u = f_XA_fill32 fw zv) (fun u t => jE (dC, dI) [(cA, .int)] [(ra, .inl (cA, 32, .inl (jA fw)))] sz [(ra, .inl (cA, 32, .inl (jA u)))] t) (va_A [(ra, .inl (cA, 32, .inl (jA fw)))] sz)) 0 0 (va_A [(ra, .inl (cA, 32, .inl (jA fw)))] sz) := by
  refine jMet (cc := cXA_fill) (maxL := 4) (ret := none) (by decide) rfl ?_
  intro p e s m args below meth c s₁ R Q hR hQ B hml hv
  obtain ⟨rfl, hsz, hP, hK, hD0, hN⟩ := hv
  have hx := B.exec
  have hb := B.bytes
  have hr := B.returns
  have hts := atoms_spec (ws := Cond.code yXA_fill cXA_fill 4 none :: TBL) B.pre
  have hown : s.vm.findClass RXA = some m.cls := findClass_of_methodNamed B.named
  have hlocks := B.notSynchronized
  subst hsz
  obtain ⟨A, hAe⟩ : ∃ A, A = va_A [(ra, .inl (cA, 32, .inl (jA fw)))] s.heap.size := ⟨_, rfl⟩
  have hD : va_D A [(ra, .inl (cA, 32, .inl (jA fw)))] := by rw [hAe]; exact hD0.self
  have hA : ∀ q : Nat, s.heap.size ≤ q → A q := fun q h => by rw [hAe]; exact Or.inr h
  have hS : va_S A s.heap s.heap [] := va_S.rf
  have hP : va_P (dC, dI) vwCl [(ra, .inl (cA, 32, .inl (jA fw)))] s.heap := hP
  have hl := lv_entry ([.ref ra, .int (jI zv)]) (n := 4) (Nat.le_of_ble_eq_true rfl)
  rw [lg_entry_eq]
  generalize (lg_sl ([.ref ra, .int (jI zv)]) ++ List.replicate (4 - (lg_sl ([.ref ra, .int (jI zv)])).length) Slot.unset).toArray = ls at hl ⊢
  have hl : lv_has ls 4 [(0, .ref ra), (1, .int (jI zv))] := hl
  refine ji_iconst hx hb dXA_fill_0 ?_
  refine lv_istore_n (lv' := [(2, .int (jI 0)), (0, .ref ra), (1, .int (jI zv))]) hx hb dXA_fill_1 rfl hl (by decide) rfl (fun ls hl => ?_)
  refine lv_aload_n hx hb dXA_fill_2 rfl (lv_at hl 1 rfl) ?_
  refine ji_alen (z := 32) hx hb hK hP 0 0 rfl rfl rfl dXA_fill_3 ?_
  refine lv_istore_n (lv' := [(3, .int (jI 32)), (2, .int (jI 0)), (0, .ref ra), (1, .int (jI zv))]) hx hb dXA_fill_4 rfl hl (by decide) rfl (fun ls hl => ?_)
  have loop5 : ∀ (n9 : Nat) (k : Int) (fa : Int → Int) , 32 - k < (n9 : Int) → f_XA_fill32_L5 fw zv n9 k fa = f_XA_fill32 fw zv → (0 ≤ k ∧ k ≤ 32) → ∀ (H : Heap) (locs : List Loc), va_P (dC, dI) vwCl [(ra, .inl (cA, 32, .inl (jA fa)))] H → va_D A [(ra, .inl (cA, 32, .inl (jA fa)))] → va_S A s.heap H locs → ∀ ls : Array Slot, lv_has ls 4 [(3, .int (jI 32)), (2, .int (jI k)), (0, .ref ra), (1, .int (jI zv))] → W p l e R s m ([.ref ra, .int (jI zv)] : List Value).toArray below meth c H locs 0 0 Q (F0 m 5 ls []) := by
    intro n9
    induction n9 with
    | zero =>
      intro k fa hm hF hk
      exact absurd hm (by omega)
    | succ n9 ih5 =>
      intro k fa hm hF hk H locs hP hD hS ls hl
      refine lv_iload_n hx hb dXA_fill_5 rfl (lv_at hl 1 rfl) ?_
      refine lv_iload_n hx hb dXA_fill_6 rfl (lv_at hl 0 rfl) ?_
      refine ji_icmp_ge (tgt := 20) hx hb dXA_fill_7 (by decide) (by omega) (by omega) (fun c7_ => ?_) (fun c7_ => ?_)
      · have hP9 := hP.sub (ws' := [(ra, .inl (cA, 32, .inl (jA fa)))]) [0] rfl
        have hD9 := hD.sub (ws' := [(ra, .inl (cA, 32, .inl (jA fa)))]) [0] (by decide) rfl
        subst hAe
        subst hQ
        exact W.vret hx hb hr (fun t ht hW => ⟨⟨fa, rfl, Eq.trans (by rw [f_XA_fill32_L5_s]; rw [if_neg (Int.not_lt.mpr c7_)]; try rfl) hF, ⟨by rw [ht]; exact hP9, va_K.moved hW.alike hK, hD9⟩⟩, hS.F ht⟩) hS.2.2 dXA_fill_20
      · refine lv_aload_n hx hb dXA_fill_10 rfl (lv_at hl 2 rfl) ?_
        refine lv_iload_n hx hb dXA_fill_11 rfl (lv_at hl 1 rfl) ?_
        refine lv_iload_n hx hb dXA_fill_12 rfl (lv_at hl 3 rfl) ?_
        refine ji_iast hx hb hK hP hD hS 0 0 rfl rfl ⟨by omega, by omega⟩ (by decide) dXA_fill_13 (fun H locs hP hD hS => ?_)
        have hP : va_P (dC, dI) vwCl [(ra, .inl (cA, 32, .inl (jA (jset fa k zv))))] H := hP
        have hD : va_D A [(ra, .inl (cA, 32, .inl (jA (jset fa k zv))))] := hD
        refine ji_iinc (k := 1) (lv' := [(2, .int (jI (k + 1))), (3, .int (jI 32)), (0, .ref ra), (1, .int (jI zv))]) hx hb dXA_fill_14 hl rfl (by decide) rfl (fun ls hl => ?_)
        refine lv_goto (tgt := 5) hx hb dXA_fill_17 (by decide) ?_
        exact ih5 (k + 1) (jset fa k zv) (by omega) (Eq.trans (by rw [f_XA_fill32_L5_s]; rw [if_pos c7_]; try rfl) hF) (by first | assumption | omega) _ _ hP hD hS ls (lv_sub hl [1, 0, 2, 3] rfl)
  exact loop5 (Int.toNat (32 - 0) + 1) 0 fw (by omega) (Eq.trans (by rw [f_XA_fill32_s]; try rfl) rfl) (by first | assumption | omega) _ _ hP hD hS ls (lv_sub hl [0, 1, 2, 3] rfl)
noncomputable def g_XA_fill124_L5 (fw : Int → Int) (zv : Int) : Nat → Int → (Int → Int) → (Int → Int)
  | 0, _, _ => fun _ => 0
  | n9 + 1, k, fa =>
    if k < 124 then
      g_XA_fill124_L5 fw zv n9 (k + 1) (jset fa k zv)
    else
      fa
noncomputable def f_XA_fill124_L5 : (Int → Int) → Int → Nat → Int → (Int → Int) → (Int → Int) := jopq g_XA_fill124_L5
theorem f_XA_fill124_L5_q : f_XA_fill124_L5 = g_XA_fill124_L5 := jopq_eq _
theorem f_XA_fill124_L5_s (fw : Int → Int) (zv : Int) (n9 : Nat) (k : Int) (fa : Int → Int) : f_XA_fill124_L5 fw zv (n9 + 1) k fa = (
    if k < 124 then
      f_XA_fill124_L5 fw zv n9 (k + 1) (jset fa k zv)
    else
      fa
  : (Int → Int)) := by rw [f_XA_fill124_L5_q]; rfl
noncomputable def g_XA_fill124 (fw : Int → Int) (zv : Int) : (Int → Int) :=
  f_XA_fill124_L5 fw zv (Int.toNat (124 - 0) + 1) 0 fw
noncomputable def f_XA_fill124 : (Int → Int) → Int → (Int → Int) := jopq g_XA_fill124
theorem f_XA_fill124_q : f_XA_fill124 = g_XA_fill124 := jopq_eq _
theorem f_XA_fill124_s (fw : Int → Int) (zv : Int) : f_XA_fill124 fw zv = (
    f_XA_fill124_L5 fw zv (Int.toNat (124 - 0) + 1) 0 fw
  : (Int → Int)) := by rw [f_XA_fill124_q]; rfl
theorem f_XA_fill124_L (fw : Int → Int) (zv : Int) : ∀ (n : Nat) (k : Int) (fa : Int → Int), 124 - k < (n : Int) → 0 ≤ k → k ≤ 124 → f_XA_fill124_L5 fw zv n k fa = fun i => if k ≤ i ∧ i < 124 then zv else fa i := by
  intro n
  induction n with
  | zero => intro k fa h; omega
  | succ n ih =>
    intro k fa h h0 h1
    rw [f_XA_fill124_L5_s]
    split
    · rw [ih _ _ (by omega) (by omega) (by omega)]
      funext i
      unfold jset
      by_cases h : i = k
      · rw [if_neg (by omega), if_pos h, if_pos (by omega)]
      · by_cases h2 : k + 1 ≤ i ∧ i < 124
        · rw [if_pos h2, if_pos (by omega)]
        · rw [if_neg h2, if_neg h, if_neg (by omega)]
    · funext i
      rw [if_neg (by omega)]
theorem f_XA_fill124_eq (fw : Int → Int) (zv : Int) : f_XA_fill124 fw zv = fun i => if 0 ≤ i ∧ i < 124 then zv else fw i := by rw [f_XA_fill124_s]; exact f_XA_fill124_L fw zv _ _ _ (by omega) (by omega) (by omega)
theorem f_XA_fill124_p (P : Int → Prop) (fw : Int → Int) (zv : Int) (hv : P zv) (h : ∀ i, P (fw i)) : ∀ i, P (f_XA_fill124 fw zv i) := by
  intro i
  rw [f_XA_fill124_eq]
  dsimp only
  split
  · exact hv
  · exact h i
set_option maxHeartbeats 4000000 in
set_option maxRecDepth 100000 in
theorem c_XA_fill124 (l : Launch) (dC : Nat → ClassId) (dI : Nat → Nat → Nat) (cA : ClassId) (sz : Nat) (ra : Nat) (fw : Int → Int) (zv : Int) : Met l yXA_fill (Cond.code yXA_fill cXA_fill 4 none :: TBL) ({ frames := 0, cells := 0, slots := 0, locals := 0 } : Room) (va_Pc [.ref ra, .int (jI zv)] (jBw (dC, dI) [(cA, .int)] [(ra, .inl (cA, 124, .inl (jA fw)))] sz)) (va_Qv (fun (u : (Int → Int)) => u = f_XA_fill124 fw zv) (fun u t => jE (dC, dI) [(cA, .int)] [(ra, .inl (cA, 124, .inl (jA fw)))] sz [(ra, .inl (cA, 124, .inl (jA u)))] t) (va_A [(ra, .inl (cA, 124, .inl (jA fw)))] sz)) 0 0 (va_A [(ra, .inl (cA, 124, .inl (jA fw)))] sz) := by
  refine jMet (cc := cXA_fill) (maxL := 4) (ret := none) (by decide) rfl ?_
  intro p e s m args below meth c s₁ R Q hR hQ B hml hv
  obtain ⟨rfl, hsz, hP, hK, hD0, hN⟩ := hv
  have hx := B.exec
  have hb := B.bytes
  have hr := B.returns
  have hts := atoms_spec (ws := Cond.code yXA_fill cXA_fill 4 none :: TBL) B.pre
  have hown : s.vm.findClass RXA = some m.cls := findClass_of_methodNamed B.named
  have hlocks := B.notSynchronized
  subst hsz
  obtain ⟨A, hAe⟩ : ∃ A, A = va_A [(ra, .inl (cA, 124, .inl (jA fw)))] s.heap.size := ⟨_, rfl⟩
  have hD : va_D A [(ra, .inl (cA, 124, .inl (jA fw)))] := by rw [hAe]; exact hD0.self
  have hA : ∀ q : Nat, s.heap.size ≤ q → A q := fun q h => by rw [hAe]; exact Or.inr h
  have hS : va_S A s.heap s.heap [] := va_S.rf
  have hP : va_P (dC, dI) vwCl [(ra, .inl (cA, 124, .inl (jA fw)))] s.heap := hP
  have hl := lv_entry ([.ref ra, .int (jI zv)]) (n := 4) (Nat.le_of_ble_eq_true rfl)
  rw [lg_entry_eq]
  generalize (lg_sl ([.ref ra, .int (jI zv)]) ++ List.replicate (4 - (lg_sl ([.ref ra, .int (jI zv)])).length) Slot.unset).toArray = ls at hl ⊢
  have hl : lv_has ls 4 [(0, .ref ra), (1, .int (jI zv))] := hl
  refine ji_iconst hx hb dXA_fill_0 ?_
  refine lv_istore_n (lv' := [(2, .int (jI 0)), (0, .ref ra), (1, .int (jI zv))]) hx hb dXA_fill_1 rfl hl (by decide) rfl (fun ls hl => ?_)
  refine lv_aload_n hx hb dXA_fill_2 rfl (lv_at hl 1 rfl) ?_
  refine ji_alen (z := 124) hx hb hK hP 0 0 rfl rfl rfl dXA_fill_3 ?_
  refine lv_istore_n (lv' := [(3, .int (jI 124)), (2, .int (jI 0)), (0, .ref ra), (1, .int (jI zv))]) hx hb dXA_fill_4 rfl hl (by decide) rfl (fun ls hl => ?_)
  have loop5 : ∀ (n9 : Nat) (k : Int) (fa : Int → Int) , 124 - k < (n9 : Int) → f_XA_fill124_L5 fw zv n9 k fa = f_XA_fill124 fw zv → (0 ≤ k ∧ k ≤ 124) → ∀ (H : Heap) (locs : List Loc), va_P (dC, dI) vwCl [(ra, .inl (cA, 124, .inl (jA fa)))] H → va_D A [(ra, .inl (cA, 124, .inl (jA fa)))] → va_S A s.heap H locs → ∀ ls : Array Slot, lv_has ls 4 [(3, .int (jI 124)), (2, .int (jI k)), (0, .ref ra), (1, .int (jI zv))] → W p l e R s m ([.ref ra, .int (jI zv)] : List Value).toArray below meth c H locs 0 0 Q (F0 m 5 ls []) := by
    intro n9
    induction n9 with
    | zero =>
      intro k fa hm hF hk
      exact absurd hm (by omega)
    | succ n9 ih5 =>
      intro k fa hm hF hk H locs hP hD hS ls hl
      refine lv_iload_n hx hb dXA_fill_5 rfl (lv_at hl 1 rfl) ?_
      refine lv_iload_n hx hb dXA_fill_6 rfl (lv_at hl 0 rfl) ?_
      refine ji_icmp_ge (tgt := 20) hx hb dXA_fill_7 (by decide) (by omega) (by omega) (fun c7_ => ?_) (fun c7_ => ?_)
      · have hP9 := hP.sub (ws' := [(ra, .inl (cA, 124, .inl (jA fa)))]) [0] rfl
        have hD9 := hD.sub (ws' := [(ra, .inl (cA, 124, .inl (jA fa)))]) [0] (by decide) rfl
        subst hAe
        subst hQ
        exact W.vret hx hb hr (fun t ht hW => ⟨⟨fa, rfl, Eq.trans (by rw [f_XA_fill124_L5_s]; rw [if_neg (Int.not_lt.mpr c7_)]; try rfl) hF, ⟨by rw [ht]; exact hP9, va_K.moved hW.alike hK, hD9⟩⟩, hS.F ht⟩) hS.2.2 dXA_fill_20
      · refine lv_aload_n hx hb dXA_fill_10 rfl (lv_at hl 2 rfl) ?_
        refine lv_iload_n hx hb dXA_fill_11 rfl (lv_at hl 1 rfl) ?_
        refine lv_iload_n hx hb dXA_fill_12 rfl (lv_at hl 3 rfl) ?_
        refine ji_iast hx hb hK hP hD hS 0 0 rfl rfl ⟨by omega, by omega⟩ (by decide) dXA_fill_13 (fun H locs hP hD hS => ?_)
        have hP : va_P (dC, dI) vwCl [(ra, .inl (cA, 124, .inl (jA (jset fa k zv))))] H := hP
        have hD : va_D A [(ra, .inl (cA, 124, .inl (jA (jset fa k zv))))] := hD
        refine ji_iinc (k := 1) (lv' := [(2, .int (jI (k + 1))), (3, .int (jI 124)), (0, .ref ra), (1, .int (jI zv))]) hx hb dXA_fill_14 hl rfl (by decide) rfl (fun ls hl => ?_)
        refine lv_goto (tgt := 5) hx hb dXA_fill_17 (by decide) ?_
        exact ih5 (k + 1) (jset fa k zv) (by omega) (Eq.trans (by rw [f_XA_fill124_L5_s]; rw [if_pos c7_]; try rfl) hF) (by first | assumption | omega) _ _ hP hD hS ls (lv_sub hl [1, 0, 2, 3] rfl)
  exact loop5 (Int.toNat (124 - 0) + 1) 0 fw (by omega) (Eq.trans (by rw [f_XA_fill124_s]; try rfl) rfl) (by first | assumption | omega) _ _ hP hD hS ls (lv_sub hl [0, 1, 2, 3] rfl)
noncomputable def g_XA_fill248_L5 (fw : Int → Int) (zv : Int) : Nat → Int → (Int → Int) → (Int → Int)
  | 0, _, _ => fun _ => 0
  | n9 + 1, k, fa =>
    if k < 248 then
      g_XA_fill248_L5 fw zv n9 (k + 1) (jset fa k zv)
    else
      fa
noncomputable def f_XA_fill248_L5 : (Int → Int) → Int → Nat → Int → (Int → Int) → (Int → Int) := jopq g_XA_fill248_L5
theorem f_XA_fill248_L5_q : f_XA_fill248_L5 = g_XA_fill248_L5 := jopq_eq _
theorem f_XA_fill248_L5_s (fw : Int → Int) (zv : Int) (n9 : Nat) (k : Int) (fa : Int → Int) : f_XA_fill248_L5 fw zv (n9 + 1) k fa = (
    if k < 248 then
      f_XA_fill248_L5 fw zv n9 (k + 1) (jset fa k zv)
    else
      fa
  : (Int → Int)) := by rw [f_XA_fill248_L5_q]; rfl
noncomputable def g_XA_fill248 (fw : Int → Int) (zv : Int) : (Int → Int) :=
  f_XA_fill248_L5 fw zv (Int.toNat (248 - 0) + 1) 0 fw
noncomputable def f_XA_fill248 : (Int → Int) → Int → (Int → Int) := jopq g_XA_fill248
theorem f_XA_fill248_q : f_XA_fill248 = g_XA_fill248 := jopq_eq _
theorem f_XA_fill248_s (fw : Int → Int) (zv : Int) : f_XA_fill248 fw zv = (
    f_XA_fill248_L5 fw zv (Int.toNat (248 - 0) + 1) 0 fw
  : (Int → Int)) := by rw [f_XA_fill248_q]; rfl
theorem f_XA_fill248_L (fw : Int → Int) (zv : Int) : ∀ (n : Nat) (k : Int) (fa : Int → Int), 248 - k < (n : Int) → 0 ≤ k → k ≤ 248 → f_XA_fill248_L5 fw zv n k fa = fun i => if k ≤ i ∧ i < 248 then zv else fa i := by
  intro n
  induction n with
  | zero => intro k fa h; omega
  | succ n ih =>
    intro k fa h h0 h1
    rw [f_XA_fill248_L5_s]
    split
    · rw [ih _ _ (by omega) (by omega) (by omega)]
      funext i
      unfold jset
      by_cases h : i = k
      · rw [if_neg (by omega), if_pos h, if_pos (by omega)]
      · by_cases h2 : k + 1 ≤ i ∧ i < 248
        · rw [if_pos h2, if_pos (by omega)]
        · rw [if_neg h2, if_neg h, if_neg (by omega)]
    · funext i
      rw [if_neg (by omega)]
theorem f_XA_fill248_eq (fw : Int → Int) (zv : Int) : f_XA_fill248 fw zv = fun i => if 0 ≤ i ∧ i < 248 then zv else fw i := by rw [f_XA_fill248_s]; exact f_XA_fill248_L fw zv _ _ _ (by omega) (by omega) (by omega)
theorem f_XA_fill248_p (P : Int → Prop) (fw : Int → Int) (zv : Int) (hv : P zv) (h : ∀ i, P (fw i)) : ∀ i, P (f_XA_fill248 fw zv i) := by
  intro i
  rw [f_XA_fill248_eq]
  dsimp only
  split
  · exact hv
  · exact h i
set_option maxHeartbeats 4000000 in
set_option maxRecDepth 100000 in
theorem c_XA_fill248 (l : Launch) (dC : Nat → ClassId) (dI : Nat → Nat → Nat) (cA : ClassId) (sz : Nat) (ra : Nat) (fw : Int → Int) (zv : Int) : Met l yXA_fill (Cond.code yXA_fill cXA_fill 4 none :: TBL) ({ frames := 0, cells := 0, slots := 0, locals := 0 } : Room) (va_Pc [.ref ra, .int (jI zv)] (jBw (dC, dI) [(cA, .int)] [(ra, .inl (cA, 248, .inl (jA fw)))] sz)) (va_Qv (fun (u : (Int → Int)) => u = f_XA_fill248 fw zv) (fun u t => jE (dC, dI) [(cA, .int)] [(ra, .inl (cA, 248, .inl (jA fw)))] sz [(ra, .inl (cA, 248, .inl (jA u)))] t) (va_A [(ra, .inl (cA, 248, .inl (jA fw)))] sz)) 0 0 (va_A [(ra, .inl (cA, 248, .inl (jA fw)))] sz) := by
  refine jMet (cc := cXA_fill) (maxL := 4) (ret := none) (by decide) rfl ?_
  intro p e s m args below meth c s₁ R Q hR hQ B hml hv
  obtain ⟨rfl, hsz, hP, hK, hD0, hN⟩ := hv
  have hx := B.exec
  have hb := B.bytes
  have hr := B.returns
  have hts := atoms_spec (ws := Cond.code yXA_fill cXA_fill 4 none :: TBL) B.pre
  have hown : s.vm.findClass RXA = some m.cls := findClass_of_methodNamed B.named
  have hlocks := B.notSynchronized
  subst hsz
  obtain ⟨A, hAe⟩ : ∃ A, A = va_A [(ra, .inl (cA, 248, .inl (jA fw)))] s.heap.size := ⟨_, rfl⟩
  have hD : va_D A [(ra, .inl (cA, 248, .inl (jA fw)))] := by rw [hAe]; exact hD0.self
  have hA : ∀ q : Nat, s.heap.size ≤ q → A q := fun q h => by rw [hAe]; exact Or.inr h
  have hS : va_S A s.heap s.heap [] := va_S.rf
  have hP : va_P (dC, dI) vwCl [(ra, .inl (cA, 248, .inl (jA fw)))] s.heap := hP
  have hl := lv_entry ([.ref ra, .int (jI zv)]) (n := 4) (Nat.le_of_ble_eq_true rfl)
  rw [lg_entry_eq]
  generalize (lg_sl ([.ref ra, .int (jI zv)]) ++ List.replicate (4 - (lg_sl ([.ref ra, .int (jI zv)])).length) Slot.unset).toArray = ls at hl ⊢
  have hl : lv_has ls 4 [(0, .ref ra), (1, .int (jI zv))] := hl
  refine ji_iconst hx hb dXA_fill_0 ?_
  refine lv_istore_n (lv' := [(2, .int (jI 0)), (0, .ref ra), (1, .int (jI zv))]) hx hb dXA_fill_1 rfl hl (by decide) rfl (fun ls hl => ?_)
  refine lv_aload_n hx hb dXA_fill_2 rfl (lv_at hl 1 rfl) ?_
  refine ji_alen (z := 248) hx hb hK hP 0 0 rfl rfl rfl dXA_fill_3 ?_
  refine lv_istore_n (lv' := [(3, .int (jI 248)), (2, .int (jI 0)), (0, .ref ra), (1, .int (jI zv))]) hx hb dXA_fill_4 rfl hl (by decide) rfl (fun ls hl => ?_)
  have loop5 : ∀ (n9 : Nat) (k : Int) (fa : Int → Int) , 248 - k < (n9 : Int) → f_XA_fill248_L5 fw zv n9 k fa = f_XA_fill248 fw zv → (0 ≤ k ∧ k ≤ 248) → ∀ (H : Heap) (locs : List Loc), va_P (dC, dI) vwCl [(ra, .inl (cA, 248, .inl (jA fa)))] H → va_D A [(ra, .inl (cA, 248, .inl (jA fa)))] → va_S A s.heap H locs → ∀ ls : Array Slot, lv_has ls 4 [(3, .int (jI 248)), (2, .int (jI k)), (0, .ref ra), (1, .int (jI zv))] → W p l e R s m ([.ref ra, .int (jI zv)] : List Value).toArray below meth c H locs 0 0 Q (F0 m 5 ls []) := by
    intro n9
    induction n9 with
    | zero =>
      intro k fa hm hF hk
      exact absurd hm (by omega)
    | succ n9 ih5 =>
      intro k fa hm hF hk H locs hP hD hS ls hl
      refine lv_iload_n hx hb dXA_fill_5 rfl (lv_at hl 1 rfl) ?_
      refine lv_iload_n hx hb dXA_fill_6 rfl (lv_at hl 0 rfl) ?_
      refine ji_icmp_ge (tgt := 20) hx hb dXA_fill_7 (by decide) (by omega) (by omega) (fun c7_ => ?_) (fun c7_ => ?_)
      · have hP9 := hP.sub (ws' := [(ra, .inl (cA, 248, .inl (jA fa)))]) [0] rfl
        have hD9 := hD.sub (ws' := [(ra, .inl (cA, 248, .inl (jA fa)))]) [0] (by decide) rfl
        subst hAe
        subst hQ
        exact W.vret hx hb hr (fun t ht hW => ⟨⟨fa, rfl, Eq.trans (by rw [f_XA_fill248_L5_s]; rw [if_neg (Int.not_lt.mpr c7_)]; try rfl) hF, ⟨by rw [ht]; exact hP9, va_K.moved hW.alike hK, hD9⟩⟩, hS.F ht⟩) hS.2.2 dXA_fill_20
      · refine lv_aload_n hx hb dXA_fill_10 rfl (lv_at hl 2 rfl) ?_
        refine lv_iload_n hx hb dXA_fill_11 rfl (lv_at hl 1 rfl) ?_
        refine lv_iload_n hx hb dXA_fill_12 rfl (lv_at hl 3 rfl) ?_
        refine ji_iast hx hb hK hP hD hS 0 0 rfl rfl ⟨by omega, by omega⟩ (by decide) dXA_fill_13 (fun H locs hP hD hS => ?_)
        have hP : va_P (dC, dI) vwCl [(ra, .inl (cA, 248, .inl (jA (jset fa k zv))))] H := hP
        have hD : va_D A [(ra, .inl (cA, 248, .inl (jA (jset fa k zv))))] := hD
        refine ji_iinc (k := 1) (lv' := [(2, .int (jI (k + 1))), (3, .int (jI 248)), (0, .ref ra), (1, .int (jI zv))]) hx hb dXA_fill_14 hl rfl (by decide) rfl (fun ls hl => ?_)
        refine lv_goto (tgt := 5) hx hb dXA_fill_17 (by decide) ?_
        exact ih5 (k + 1) (jset fa k zv) (by omega) (Eq.trans (by rw [f_XA_fill248_L5_s]; rw [if_pos c7_]; try rfl) hF) (by first | assumption | omega) _ _ hP hD hS ls (lv_sub hl [1, 0, 2, 3] rfl)
  exact loop5 (Int.toNat (248 - 0) + 1) 0 fw (by omega) (Eq.trans (by rw [f_XA_fill248_s]; try rfl) rfl) (by first | assumption | omega) _ _ hP hD hS ls (lv_sub hl [0, 1, 2, 3] rfl)

end
