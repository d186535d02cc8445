/-! rows of the law: the script, the wrappers -/
def jsc (xs : Nat → Int32) (i : Int) : Int := (xs i.toNat).toInt
theorem jsc_i (xs : Nat → Int32) (i : Int) : i32 (jsc xs i) := jti32 _
theorem jand15 (x : Int32) : 0 ≤ (x &&& jI 15).toInt ∧ (x &&& jI 15).toInt ≤ 15 := by
  have h : (x &&& jI 15).toInt = ((x.toBitVec &&& 15#32).toNat : Int) := by
    have h1 : (x &&& jI 15).toBitVec = x.toBitVec &&& 15#32 := rfl
    have h2 : (x.toBitVec &&& 15#32).toNat < 16 := by
      rw [BitVec.toNat_and]
      exact Nat.lt_of_le_of_lt Nat.and_le_right (by decide)
    show (x &&& jI 15).toBitVec.toInt = _
    rw [h1, BitVec.toInt_eq_toNat_of_lt (by omega)]
  have h2 : (x.toBitVec &&& 15#32).toNat ≤ 15 := by
    rw [BitVec.toNat_and]
    exact Nat.and_le_right
  omega
section JL
variable {p : Program} {l : Launch} {e : Env} {R : Room} {s : State} {m : MethodId} {args : Array Value} {below : List Frame} {meth : Method} {c : Code} {H : Heap} {locs : List Loc} {cells slots : Nat} {Q : State → Prop}
variable {cc bytes : ByteArray} {pc nL maxL n index : Nat} {ls : Array Slot} {rest st0 As : List Value} {D : va_G} {A : Nat → Prop} {b L : Nat} {xs : Nat → Int32} {tys : List (ClassId × FieldType)} {ws wc wr : va_W} {H0 : Heap} {own : String} {y : MethodName} {ret : Option FieldType} {rm : Room} {Ts : List Cond} {hh : List (Nat × Nat × Nat × Nat)}
theorem ji_sld (hx : p.tables.exec = Jvm.exec) (hb : c.code = cc) (hX : va_X b L xs s H0) (hbl : b < H0.size) (hbA : ¬ A b) (hS : va_S A H0 H locs) {i : Int} (h0 : 0 ≤ i ∧ i < (L : Int)) (hL : L ≤ 2147483648) (hdg : decode cc pc = .ok (.iaload, 1))
    (kk : W p l e R s m args below meth c H locs cells slots Q (F0 m (pc + 1) ls (.int (jI (jsc xs i)) :: rest))) : W p l e R s m args below meth c H locs cells slots Q (F0 m pc ls (.int (jI i) :: .ref b :: rest)) := va_sld hx hb hX hbl hbA hS (jA_in h0.1 h0.2 hL) hdg (by
  rw [jI_clamp h0.1 (by omega)]
  unfold jsc at kk
  rw [jI_ti] at kk
  exact kk)
theorem ji_slen (hx : p.tables.exec = Jvm.exec) (hb : c.code = cc) (hX : va_X b L xs s H0) (hbl : b < H0.size) (hbA : ¬ A b) (hS : va_S A H0 H locs) (hdg : decode cc pc = .ok (.arraylength, 1))
    (kk : W p l e R s m args below meth c H locs cells slots Q (F0 m (pc + 1) ls (.int (jI (L : Int)) :: rest))) : W p l e R s m args below meth c H locs cells slots Q (F0 m pc ls (.ref b :: rest)) := va_slen hx hb hX hbl hbA hS hdg (by rw [jI_nat]; exact kk)
/-- a call of one of the law's own methods, which have handlers -/
theorem jlS {U9 : Type} {post : Int32 → U9 → Prop} {w1 : U9 → va_W} {c0 : Cond} (S : CallFix p m c cc nL s args (c0 :: TBL) own) (hM : YMet l y (Cond.codeWith y bytes maxL ret hh :: TBL) rm (va_Pc As (jBc D tys wc H.size)) (va_Qi post (fun u t => jE D tys wc H.size (w1 u) t) (va_A wc H.size)) 1 6 1 6 (va_A wc H.size)) (hcode : Cond.codeWith y bytes maxL ret hh ∈ TBL) (hl : Cond.methodLink own index y ∈ TBL) (hstt : Cond.static y ∈ TBL) (hini : Cond.initialized y.cls ∈ TBL) (hrc : rm.cells = 1) (hrs : rm.slots = 6) (hfr : rm.frames + 1 ≤ R.frames) (hlo : 8 + (maxL + 11) + rm.locals ≤ R.locals) (hy : y.cls ≠ "java/lang/invoke/MethodHandle" ∧ y.cls ≠ "java/lang/invoke/VarHandle") (hlen : ∀ sig, parseMethodDescriptor y.desc = some sig → n = sig.parameters.length)
    (hK : va_K D vwCl tys s) (hP : va_P D vwCl ws H) (hD : va_D A ws) (hS : va_S A s.heap H locs) (hA : ∀ q, s.heap.size ≤ q → A q) (hN : jN s) (hX : jX A s) (hC9 : jC s) (isC isR : List Nat) (hC : isC.map (fun i => ws[i]?) = wc.map some) (hRr : isR.map (fun i => ws[i]?) = wr.map some) (hnd : va_nd isR = true) (hnc : va_nd isC = true) (hdis : ∀ i ∈ isR, i ∉ isC) (hn : As.length = n) (hsize : ls.size = nL) (hstack : st0 = As.reverse ++ rest) (hW : (rest.map fun v => v.category).sum ≤ 8) (hdg : decode cc pc = .ok (.invokestatic index, 3)) (hf : cells + 1 ≤ R.cells ∧ slots + 6 ≤ R.slots)
    (kk : ∀ (r : Int32) (u : U9) (H1 : Heap) (locs1 : List Loc), post r u → va_P D vwCl (wr ++ w1 u) H1 → va_D A (wr ++ w1 u) → va_S A s.heap H1 locs1 → W p l e R s m args below meth c H1 locs1 (cells + 1) (slots + 6) Q (F0 m (pc + 3) ls (.int r :: rest))) : W p l e R s m args below meth c H locs cells slots Q (F0 m pc ls st0) := by
  have hPc := hP.sub isC (by
    have h9 := congrArg (fun l => l.filterMap id) hC
    simpa [List.filterMap_map, Function.comp_def] using h9)
  have hDc : va_D A wc := hD.sub isC hnc hC
  have hFc := va_free (wc := wc) hD hS hA isC hC
  have ht := S.2.2.2.2
  have hG : GoodIn (c0 :: TBL) (Cond.codeWith y bytes maxL ret hh :: TBL) := jG (fun w hw => (List.mem_cons.mp hw).elim (fun e => by rw [e]; exact hcode) id)
  have hr := yRunSH (g := F0 m pc ls st0) (H := H) (locs := locs) (cells := cells) (slots := slots) (below := below) (meth := meth) (e := e) (R := R) (As := As) (rest := rest) S hM hG ht (ht _ (jmem hl)) (ht _ (jmem hstt)) (ht _ (jmem hini)) hrc hrs hfr hlo hy hlen ⟨jBc_blind, fun U hU hWm => ⟨rfl, ⟨by rw [hU], by rw [hU]; exact hPc, va_K.moved hWm.alike hK, hDc.weaken (fun _ _ _ _ => trivial), jN.warm hWm hN⟩, hX.now (by rw [hU]; exact hS) hWm, jC.moved hWm.alike hC9⟩⟩ rfl hn hsize hstack (lv_room hW) hdg hf
  intro T hT X
  obtain ⟨o, st₀, t, T', L, ⟨h0, hW0⟩, X', hL, e1, e2, ⟨⟨r, u, ho, hp, hB⟩, hF1, hF2⟩, st⟩ := hr T hT X
  cases ho
  rw [h0] at hF1 hF2
  obtain ⟨hP1, hK1, hD1⟩ := hB
  obtain ⟨hP2, hD2⟩ := va_join hP hD isC isR hC hRr hnd hdis hF2 hFc hP1 hD1
  obtain ⟨t2, a1, a2⟩ := kk r u t.heap (locs ++ L) hp hP2 hD2 ⟨Nat.le_trans hS.1 hF1, fun q h1 h2 => by rw [hF2 q (Nat.lt_of_lt_of_le h1 hS.1) (fun z => h2 (hFc q z))]; exact hS.2.1 q h1 h2, fun q hq => (List.mem_append.mp hq).elim (hS.2.2 q) (fun h => hFc _ (hL q h))⟩ T' e1 X'
  exact ⟨t2, st _ a1, a2⟩
end JL
