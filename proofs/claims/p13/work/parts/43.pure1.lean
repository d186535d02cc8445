section
theorem q_needBelow (z b : Int) : (f_XG_needBelow z b = 0 ∧ 0 ≤ z ∧ z < b) ∨ (f_XG_needBelow z b = 1 ∧ (z < 0 ∨ b ≤ z)) := by
  rw [f_XG_needBelow_s]
  (repeat' split) <;> omega
theorem jw_in {v : Int} (h : i32 v) : jw v = v := jI_toInt h
theorem jset_at (f : Int → Int) (v : Int) : jset f 0 v 0 = v := by unfold jset; rw [if_pos rfl]
theorem q_share (fs : Int → Int) (z1 z2 : Int) : ((f_XL_share fs z1 z2).1 = 1 ∧ (z1 < 0 ∨ 7 < z1)) ∨ ((f_XL_share fs z1 z2).1 = 2 ∧ 0 ≤ z1 ∧ z1 ≤ 7 ∧ (z2 < 0 ∨ 100000 < z2)) ∨ ((f_XL_share fs z1 z2).1 = 0 ∧ 0 ≤ z1 ∧ z1 ≤ 7 ∧ 0 ≤ z2 ∧ z2 ≤ 100000) := by
  rw [f_XL_share_s, f_XG_share_s]
  rcases q_needBelow z1 8 with ⟨a, a1, a2⟩ | ⟨a, a1⟩
  · by_cases b : z2 < 0
    · right; left; simp [a, b]; omega
    · by_cases d : 100000 < z2
      · right; left; simp [a, b, d]; omega
      · right; right; simp [a, b, d]; omega
  · left; simp [a]; omega
theorem q_sign (tn tp tw : Int) (tf : Int → Int) (zy z1 : Int) (fo : Int → Int) (hn : 0 ≤ tn ∧ tn ≤ 400) (hf : ∀ i, 0 ≤ tf i ∧ tf i < 256) :
    ((f_XL_sign tn tp tw tf zy z1 fo).1 = 1 ∧ (z1 < 1 ∨ 8 < z1) ∧ (f_XL_sign tn tp tw tf zy z1 fo).2.2.1 = tn) ∨ ((f_XL_sign tn tp tw tf zy z1 fo).1 = 2 ∧ 1 ≤ z1 ∧ z1 ≤ 8 ∧ 400 < tn + z1 ∧ (f_XL_sign tn tp tw tf zy z1 fo).2.2.1 = tn) ∨ ((f_XL_sign tn tp tw tf zy z1 fo).1 = 0 ∧ 1 ≤ z1 ∧ z1 ≤ 8 ∧ tn + z1 ≤ 400 ∧ (f_XL_sign tn tp tw tf zy z1 fo).2.2.1 = tn + z1 ∧ (f_XL_sign tn tp tw tf zy z1 fo).2.1 0 = tn + z1) := by
  by_cases a : z1 < 1
  · left
    have e9 : (f_XG_sign tn tp tw tf zy z1) = (3, 0, 0, fun _ => 0) := by rw [f_XG_sign_s, if_pos a]
    rw [f_XL_sign_s, e9]; simp; omega
  · by_cases b : 8 < z1
    · left
      have e9 : (f_XG_sign tn tp tw tf zy z1) = (3, 0, 0, fun _ => 0) := by rw [f_XG_sign_s, if_neg a, if_pos b]
      rw [f_XL_sign_s, e9]; simp; omega
    · by_cases d : 400 - tn < z1
      · right; left
        have e9 : (f_XG_sign tn tp tw tf zy z1) = (4, 0, 0, fun _ => 0) := by rw [f_XG_sign_s, if_neg a, if_neg b, if_pos (by rw [f_XT_hasRoom_s, if_pos d])]
        rw [f_XL_sign_s, e9]; simp; omega
      · right; right
        have h9 := f_XT_append_b tn tp tw tf zy z1 hn hf (by omega)
        have e9 : (f_XG_sign tn tp tw tf zy z1) = (0, f_XT_append tn tp tw tf zy z1) := by rw [f_XG_sign_s, if_neg a, if_neg b, if_neg (by rw [f_XT_hasRoom_s, if_neg d]; decide)]
        have h2 : (f_XT_append tn tp tw tf zy z1).1 = tn + z1 := by omega
        have h3 : (f_XT_append tn tp tw tf zy z1).2.1 = tn + z1 := by omega
        have h4 : jw (tn + z1) = tn + z1 := jw_in (by omega)
        rw [f_XL_sign_s, e9, if_pos rfl]
        refine ⟨rfl, by omega, by omega, by omega, h3, ?_⟩
        show jset fo 0 (jw (f_XT_append tn tp tw tf zy z1).1) 0 = _
        rw [jset_at, h2, h4]
end
section
/-! the law's start -/
theorem tnm (k : Nat) {w : Cond} (h : tables_1[k]? = some w) : w ∈ lw_tbl := List.mem_append_right _ (List.mem_of_getElem? h)
theorem zSt.weak {O f d : String} {A : Nat → Prop} {U : State} {H : Heap} (h : zSt O f d A U H) : zSt O f d (fun _ => False) U H := by
  obtain ⟨c, k, i, fd, a, cell, v, hc, hf, hst, hsta, hcell, hiss, hcls, hlt, hty, hv, hr, hA⟩ := h
  exact ⟨c, k, i, fd, a, cell, v, hc, hf, hst, hsta, hcell, hiss, hcls, hlt, hty, hv, hr, id⟩
theorem lw_hts {args : Array Value} {s : State} (h : ∀ w ∈ lw_tbl, w.before args s = true) : ∀ w ∈ Cond.initialized RXL :: TBL, w.before args s = true := fun w hw => (List.mem_cons.mp hw).elim (fun e => by rw [e]; exact h _ (TBL_in _ tw_0)) (fun q => h _ (TBL_in _ q))
theorem lw_arr {args : Array Value} {s : State} {ty : FieldType} (h : (Cond.arrayClass ty).before args s = true) (hp : ∀ c : ClassId, s.vm.findClass ("[" ++ ty.toString) = some c → va_RA s c ty) : ∃ cA : ClassId, ArrOfT s cA ty ∧ va_RA s cA ty := by
  obtain ⟨c, k, comp, h1, h2, h3⟩ := Cond.arrayClass_spec h
  exact ⟨c, fun n z => ⟨fun k h => (by cases h), k, h2, comp, h3⟩, hp c h1⟩
theorem jX.now {A : Nat → Prop} {s U : State} {locs : List Loc} (hX : jX A s) (hS : va_S A s.heap U.heap locs) (hW : s.WarmedH U.vm) : jX (fun _ => False) U := by
  obtain ⟨h0, h1, h2, h3, h4, h5, h6, h7, h8, h9, h10, h11, h12, h13, h14, h15⟩ := hX
  exact ⟨((h0.kept hS.2.1).moved hW.alike).weak, ((h1.kept hS.2.1).moved hW.alike).weak, va_Nw.warmD hW h2, va_Nw.warmD hW h3, va_Nw.warmD hW h4, va_Nw.warmC hW h5, va_Nw.warmC hW h6, va_Nw.warmC hW h7, va_Nw.warmC hW h8, h9.imp (fun _ h => vk_R.warm hW h), h10.imp (fun _ h => vk_R.warm hW h), h11.imp (fun _ h => vk_R.warm hW h), h12.imp (fun _ h => vk_R.warm hW h), h13.imp (fun _ h => vk_R.warm hW h), h14.imp (fun _ h => vk_R.warm hW h), h15.imp (fun _ h => vk_R.warm hW h)⟩
theorem lw_N {args : Array Value} {s : State} (h : ∀ w ∈ lw_tbl, w.before args s = true) : jN s := ⟨va_Nw.of rfl (h _ (tnm 26 (by decide +kernel))), va_Nw.of rfl (h _ (tnm 56 (by decide +kernel))), va_Nw.of rfl (h _ (tnm 69 (by decide +kernel))), va_Nw.of rfl (h _ (tnm 171 (by decide +kernel))), va_Nw.of rfl (h _ (tnm 198 (by decide +kernel))), va_Nw.of rfl (h _ (tnm 235 (by decide +kernel))), va_Nw.of rfl (h _ (tnm 251 (by decide +kernel)))⟩
theorem lw_K {args : Array Value} {s : State} (h : ∀ w ∈ lw_tbl, w.before args s = true) : ∃ (dC : Nat → ClassId) (dI : Nat → Nat → Nat) (cA cL cZ : ClassId), va_K (dC, dI) vwCl [(cA, .int), (cL, .long), (cZ, .boolean)] s := by
  obtain ⟨c0, i0, k0⟩ := u_known (C := RXB) (T := TXB) (N := 9) (lw_hts h) (fun w hw => jmem (inXB w hw)) (lw_hts h _ (jmem tw_68))
  obtain ⟨c1, i1, k1⟩ := u_known (C := RXP) (T := TXP) (N := 2) (lw_hts h) (fun w hw => jmem (inXP w hw)) (lw_hts h _ (jmem tw_55))
  obtain ⟨c2, i2, k2⟩ := u_known (C := RXR) (T := TXR) (N := 1) (lw_hts h) (fun w hw => jmem (inXR w hw)) (lw_hts h _ (jmem tw_45))
  obtain ⟨c3, i3, k3⟩ := u_known (C := RXT) (T := TXT) (N := 4) (lw_hts h) (fun w hw => jmem (inXT w hw)) (lw_hts h _ (jmem tw_25))
  obtain ⟨c4, i4, k4⟩ := u_known (C := RXG) (T := TXG) (N := 7) (lw_hts h) (fun w hw => jmem (inXG w hw)) (lw_hts h _ (jmem tw_17))
  obtain ⟨c5, i5, k5⟩ := u_known (C := RXM) (T := TXM) (N := 19) (lw_hts h) (fun w hw => jmem (inXM w hw)) (lw_hts h _ (jmem tw_623))
  obtain ⟨a0, r0⟩ := lw_arr (lw_hts h _ (jmem tw_43)) (fun _ q => q)
  obtain ⟨a1, r1⟩ := lw_arr (lw_hts h _ (jmem tw_867)) (fun _ q => q)
  obtain ⟨a2, r2⟩ := lw_arr (lw_hts h _ (jmem tw_686)) (fun _ q => q)
  refine ⟨fun k => match k with | 0 => c0 | 1 => c1 | 2 => c2 | 3 => c3 | 4 => c4 | _ => c5, fun k => match k with | 0 => i0 | 1 => i1 | 2 => i2 | 3 => i3 | 4 => i4 | _ => i5, a0, a1, a2, fun c q hq => ?_, fun k q hk => ?_⟩
  · match c, hq with
    | 0, hq => cases hq; exact k0
    | 1, hq => cases hq; exact k1
    | 2, hq => cases hq; exact k2
    | 3, hq => cases hq; exact k3
    | 4, hq => cases hq; exact k4
    | 5, hq => cases hq; exact k5
    | n + 6, hq => cases hq
  · match k, hk with
    | 0, hk => cases hk; exact r0
    | 1, hk => cases hk; exact r1
    | 2, hk => cases hk; exact r2
    | n + 3, hk => cases hk
theorem lw_S {args : Array Value} {s : State} {own tx : String} {k : Nat} {c : ClassId} (hc : s.vm.findClass own = some c) (h : (Cond.stringRef own k tx).before args s = true) : ∃ a, vk_R own k tx a s := by
  obtain ⟨-, -, -, a, -, -, -, -, -, hev⟩ := Cond.stringRef_spec hc h
  exact ⟨a, vk_R.of h hev⟩
theorem lw_X {b : Nat} {s : State} (h : ∀ w ∈ lw_tbl, w.before #[Value.ref b] s = true) (hg : (Jvm.Cond.and given_1 narrow_1).before #[Value.ref b] s = true) {c : ClassId} (hc : s.vm.findClass RXG = some c) : jX (fun q => s.heap.size ≤ q) s := by
  have hs := flat_of_before _ hg
  have hA : ∀ a : Nat, a < s.heap.size → ¬ s.heap.size ≤ a := fun a h => Nat.not_le.mpr h
  exact ⟨zSt.of (h _ (tnm 337 (by decide +kernel))) (hs _ (by decide +kernel)) hA, zSt.of (h _ (tnm 339 (by decide +kernel))) (hs _ (by decide +kernel)) hA, va_Nw.of rfl (h _ (tnm 314 (by decide +kernel))), va_Nw.of rfl (h _ (tnm 316 (by decide +kernel))), va_Nw.of rfl (h _ (tnm 318 (by decide +kernel))), va_Nw.of rfl (h _ (tnm 419 (by decide +kernel))), va_Nw.of rfl (h _ (tnm 470 (by decide +kernel))), va_Nw.of rfl (h _ (tnm 312 (by decide +kernel))), va_Nw.of rfl (h _ (tnm 385 (by decide +kernel))), lw_S hc (h _ (tnm 352 (by decide +kernel))), lw_S hc (h _ (tnm 392 (by decide +kernel))), lw_S hc (h _ (tnm 426 (by decide +kernel))), lw_S hc (h _ (tnm 436 (by decide +kernel))), lw_S hc (h _ (tnm 477 (by decide +kernel))), lw_S hc (h _ (tnm 510 (by decide +kernel))), lw_S hc (h _ (tnm 549 (by decide +kernel)))⟩
theorem lw_C {b : Nat} {s : State} (hg : (Jvm.Cond.and given_1 narrow_1).before #[Value.ref b] s = true) : jC s := by
  have hs := flat_of_before _ hg
  exact ⟨va_Nc.of (hs _ (by decide +kernel)), va_Nc.of (hs _ (by decide +kernel)), va_Nc.of (hs _ (by decide +kernel))⟩

end
section
/-! rows of the law: the script, the wrappers -/
def jsc (xs : Nat → Int32) (i : Int) : Int := (xs i.toNat).toInt
theorem jsc_i (xs : Nat → Int32) (i : Int) : i32 (jsc xs i) := jti32 _
theorem jand15 (x : Int32) : 0 ≤ (x &&& jI 15).toInt ∧ (x &&& jI 15).toInt ≤ 15 := by
  have h : (x &&& jI 15).toInt = ((x.toBitVec &&& 15#32).toNat : Int) := by
    have h1 : (x &&& jI 15).toBitVec = x.toBitVec &&& 15#32 := rfl
    have h2 : (x.toBitVec &&& 15#32).toNat < 16 := by
      rw [BitVec.toNat_and]
      exact Nat.lt_of_le_of_lt Nat.and_le_right (by decide)
    show (x &&& jI 15).toBitVec.toInt = _
    rw [h1, BitVec.toInt_eq_toNat_of_lt (by omega)]
  have h2 : (x.toBitVec &&& 15#32).toNat ≤ 15 := by
    rw [BitVec.toNat_and]
    exact Nat.and_le_right
  omega
section JL
variable {p : Program} {l : Launch} {e : Env} {R : Room} {s : State} {m : MethodId} {args : Array Value} {below : List Frame} {meth : Method} {c : Code} {H : Heap} {locs : List Loc} {cells slots : Nat} {Q : State → Prop}
variable {cc bytes : ByteArray} {pc nL maxL n index : Nat} {ls : Array Slot} {rest st0 As : List Value} {D : va_G} {A : Nat → Prop} {b L : Nat} {xs : Nat → Int32} {tys : List (ClassId × FieldType)} {ws wc wr : va_W} {H0 : Heap} {own : String} {y : MethodName} {ret : Option FieldType} {rm : Room} {Ts : List Cond} {hh : List (Nat × Nat × Nat × Nat)}
theorem ji_sld (hx : p.tables.exec = Jvm.exec) (hb : c.code = cc) (hX : va_X b L xs s H0) (hbl : b < H0.size) (hbA : ¬ A b) (hS : va_S A H0 H locs) {i : Int} (h0 : 0 ≤ i ∧ i < (L : Int)) (hL : L ≤ 2147483648) (hdg : decode cc pc = .ok (.iaload, 1))
    (kk : W p l e R s m args below meth c H locs cells slots Q (F0 m (pc + 1) ls (.int (jI (jsc xs i)) :: rest))) : W p l e R s m args below meth c H locs cells slots Q (F0 m pc ls (.int (jI i) :: .ref b :: rest)) := va_sld hx hb hX hbl hbA hS (jA_in h0.1 h0.2 hL) hdg (by
  rw [jI_clamp h0.1 (by omega)]
  unfold jsc at kk
  rw [jI_ti] at kk
  exact kk)
theorem ji_slen (hx : p.tables.exec = Jvm.exec) (hb : c.code = cc) (hX : va_X b L xs s H0) (hbl : b < H0.size) (hbA : ¬ A b) (hS : va_S A H0 H locs) (hdg : decode cc pc = .ok (.arraylength, 1))
    (kk : W p l e R s m args below meth c H locs cells slots Q (F0 m (pc + 1) ls (.int (jI (L : Int)) :: rest))) : W p l e R s m args below meth c H locs cells slots Q (F0 m pc ls (.ref b :: rest)) := va_slen hx hb hX hbl hbA hS hdg (by rw [jI_nat]; exact kk)
/-- a call of one of the law's own methods, which have handlers -/
theorem jlS {U9 : Type} {post : Int32 → U9 → Prop} {w1 : U9 → va_W} {c0 : Cond} (S : CallFix p m c cc nL s args (c0 :: TBL) own) (hM : YMet l y (Cond.codeWith y bytes maxL ret hh :: TBL) rm (va_Pc As (jBc D tys wc H.size)) (va_Qi post (fun u t => jE D tys wc H.size (w1 u) t) (va_A wc H.size)) 1 6 1 6 (va_A wc H.size)) (hcode : Cond.codeWith y bytes maxL ret hh ∈ TBL) (hl : Cond.methodLink own index y ∈ TBL) (hstt : Cond.static y ∈ TBL) (hini : Cond.initialized y.cls ∈ TBL) (hrc : rm.cells = 1) (hrs : rm.slots = 6) (hfr : rm.frames + 1 ≤ R.frames) (hlo : 8 + (maxL + 11) + rm.locals ≤ R.locals) (hy : y.cls ≠ "java/lang/invoke/MethodHandle" ∧ y.cls ≠ "java/lang/invoke/VarHandle") (hlen : ∀ sig, parseMethodDescriptor y.desc = some sig → n = sig.parameters.length)
    (hK : va_K D vwCl tys s) (hP : va_P D vwCl ws H) (hD : va_D A ws) (hS : va_S A s.heap H locs) (hA : ∀ q, s.heap.size ≤ q → A q) (hN : jN s) (hX : jX A s) (hC9 : jC s) (isC isR : List Nat) (hC : isC.map (fun i => ws[i]?) = wc.map some) (hRr : isR.map (fun i => ws[i]?) = wr.map some) (hnd : va_nd isR = true) (hnc : va_nd isC = true) (hdis : ∀ i ∈ isR, i ∉ isC) (hn : As.length = n) (hsize : ls.size = nL) (hstack : st0 = As.reverse ++ rest) (hW : (rest.map fun v => v.category).sum ≤ 8) (hdg : decode cc pc = .ok (.invokestatic index, 3)) (hf : cells + 1 ≤ R.cells ∧ slots + 6 ≤ R.slots)
    (kk : ∀ (r : Int32) (u : U9) (H1 : Heap) (locs1 : List Loc), post r u → va_P D vwCl (wr ++ w1 u) H1 → va_D A (wr ++ w1 u) → va_S A s.heap H1 locs1 → W p l e R s m args below meth c H1 locs1 (cells + 1) (slots + 6) Q (F0 m (pc + 3) ls (.int r :: rest))) : W p l e R s m args below meth c H locs cells slots Q (F0 m pc ls st0) := by
  have hPc := hP.sub isC (by
    have h9 := congrArg (fun l => l.filterMap id) hC
    simpa [List.filterMap_map, Function.comp_def] using h9)
  have hDc : va_D A wc := hD.sub isC hnc hC
  have hFc := va_free (wc := wc) hD hS hA isC hC
  have ht := S.2.2.2.2
  have hG : GoodIn (c0 :: TBL) (Cond.codeWith y bytes maxL ret hh :: TBL) := jG (fun w hw => (List.mem_cons.mp hw).elim (fun e => by rw [e]; exact hcode) id)
  have hr := yRunSH (g := F0 m pc ls st0) (H := H) (locs := locs) (cells := cells) (slots := slots) (below := below) (meth := meth) (e := e) (R := R) (As := As) (rest := rest) S hM hG ht (ht _ (jmem hl)) (ht _ (jmem hstt)) (ht _ (jmem hini)) hrc hrs hfr hlo hy hlen ⟨jBc_blind, fun U hU hWm => ⟨rfl, ⟨by rw [hU], by rw [hU]; exact hPc, va_K.moved hWm.alike hK, hDc.weaken (fun _ _ _ _ => trivial), jN.warm hWm hN⟩, hX.now (by rw [hU]; exact hS) hWm, jC.moved hWm.alike hC9⟩⟩ rfl hn hsize hstack (lv_room hW) hdg hf
  intro T hT X
  obtain ⟨o, st₀, t, T', L, ⟨h0, hW0⟩, X', hL, e1, e2, ⟨⟨r, u, ho, hp, hB⟩, hF1, hF2⟩, st⟩ := hr T hT X
  cases ho
  rw [h0] at hF1 hF2
  obtain ⟨hP1, hK1, hD1⟩ := hB
  obtain ⟨hP2, hD2⟩ := va_join hP hD isC isR hC hRr hnd hdis hF2 hFc hP1 hD1
  obtain ⟨t2, a1, a2⟩ := kk r u t.heap (locs ++ L) hp hP2 hD2 ⟨Nat.le_trans hS.1 hF1, fun q h1 h2 => by rw [hF2 q (Nat.lt_of_lt_of_le h1 hS.1) (fun z => h2 (hFc q z))]; exact hS.2.1 q h1 h2, fun q hq => (List.mem_append.mp hq).elim (hS.2.2 q) (fun h => hFc _ (hL q h))⟩ T' e1 X'
  exact ⟨t2, st _ a1, a2⟩
end JL
end
