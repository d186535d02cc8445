/-! THE CLAIM OUT OF ONE WALK OF THE LAW'S BODY. Your part is whole_start (and what it stands on); all else here is the same for every law, but numbers. -/
def R_law : String := "GradeTextsLaw"
def lw_P (b : Addr) (xs : List Int32) (args : Array Value) (s : State) : Prop := args = #[.ref b] ∧ s.IntsAt b xs ∧ xs.length ≤ 5 ∧ (Jvm.Cond.and given_1 narrow_1).before args s = true
def lw_Q (_ : Array Value) (s : State) (o : Outcome) (t : State) : Prop := o = .returned (some (.int 1)) ∧ Framed s o t [] 47 4878
def lw_Z (below : List Frame) (a : Array Value) (s : State) : State → Prop := fun t => ∃ o, t.status = .running ∧ Ended t below o ∧ lw_Q a s o t
/-- the law's own end, with 1 on the stack, nothing written that was there before, its room as the claim has it -/
theorem lw_ret {p : Program} {l : Launch} {e : Env} {s : State} {m : MethodId} {below : List Frame} {meth : Method} {c : Code} {b : Nat} (hx : p.tables.exec = Jvm.exec) (hb : c.code = code) (hr : meth.sig.returnType = ret) (hlocks : meth.locks = false) {pc : Nat} {H : Heap} {ls : Array Slot} (hdg : decode code pc = .ok (.ireturn, 1)) : W p l e room_1 s m #[Value.ref b] below meth c H [] 47 4878 (lw_Z below #[Value.ref b] s) (F0 m pc ls [.int 1]) := by
  intro T hT X
  obtain ⟨fs, hret, hrun, hended, hW, hframe⟩ := X.leave (v := some (.int 1)) (hlocks := hlocks) (fun h => by rw [hr] at h; cases h)
  have hmeth' : T.vm.method? m = some meth := X.method'
  refine ⟨T.setFrames fs, ?_, .returned (some (.int 1)), hrun, hended, rfl, ⟨_, rfl⟩, hW, hframe⟩
  jvm_step X.here [X.here.top, hx, hb, hdg, hmeth', hr, ret, narrow_b1]
  (try refine ⟨rfl, ?_⟩); (try refine ⟨rfl, ?_⟩)
  first | (intro acts; rw [hret _ acts rfl rfl rfl]) | rw [hret _ _ rfl rfl rfl]
  exact Steps.refl _
/-- what holds at the law's entry: the machine, the code, the tables' words (any of lw_tbl by 'hts w (by decide +kernel)'), the script of L ints xs at the cell b, what the Statement gives of the start (any of its parts by flat_of_before) -/
def lw_At (p : Program) (s : State) (m : MethodId) (meth : Method) (c : Code) (b L : Nat) (xs : Nat → Int32) : Prop :=
  p.tables.exec = Jvm.exec ∧ c.code = code ∧ meth.sig.returnType = ret ∧ c.maxLocals = 8 ∧ s.vm.findClass R_law = some m.cls ∧ (∀ w ∈ lw_tbl, w.before #[Value.ref b] s = true) ∧ va_X b L xs s s.heap ∧ b < s.heap.size ∧ meth.locks = false ∧ (Jvm.Cond.and given_1 narrow_1).before #[Value.ref b] s = true
set_option maxHeartbeats 4000000 in
set_option maxRecDepth 100000 in
theorem whole_start {p : Program} {e : Env} {s : State} {m : MethodId} {below : List Frame} {meth : Method} {c : Code} (l : Launch) (hst : l.stackTraces = false) {b L : Nat} {xs : Nat → Int32} (hL : L ≤ 5) (C0 : lw_At p s m meth c b L xs) : W p l e room_1 s m #[Value.ref b] below meth c s.heap [] 0 0 (lw_Z below #[Value.ref b] s) (entryFrame m ([Value.ref b] : List Value).toArray 8) := by
  obtain ⟨hx, hb, hr, hml, hown, hts0, hSc, hbl, hlocks, hgv⟩ := C0
  have hown : s.vm.findClass RXL = some m.cls := hown
  have hts := lw_hts hts0
  obtain ⟨dC, dI, cA, cL, cZ, hK⟩ := lw_K hts0
  have hN := lw_N hts0
  have hC9 := lw_C hgv
  have hX0 := lw_X hts0 hgv (hK.1 4 _ rfl).2.1
  obtain ⟨A, hAe⟩ : ∃ A : Nat → Prop, A = (fun q => s.heap.size ≤ q) := ⟨_, rfl⟩
  have hX : jX A s := by rw [hAe]; exact hX0
  have hA : ∀ q, s.heap.size ≤ q → A q := fun q h => by rw [hAe]; exact h
  have hbA : ¬ A b := by rw [hAe]; exact Nat.not_le.mpr hbl
  obtain ⟨R, hR⟩ : ∃ R, R = room_1 := ⟨_, rfl⟩
  obtain ⟨Q, hQ⟩ : ∃ Q, Q = lw_Z below #[Value.ref b] s := ⟨_, rfl⟩
  rw [← hR, ← hQ]
  have CX : lawCx p l R s m meth c b L xs dC dI cA cL cZ A := ⟨hx, hb, hr, hml, hown, hts, hSc, hbl, hlocks, hK, hN, hX, hC9, hR, hA, hbA, hst⟩
  have tail : lawTail p l e R s m below meth c b A Q := by
    intro H locs hS ls hl
    refine ji_iinc (k := 0) (lv' := [(4, .int (jI (0 + 5))), (0, .ref b)]) hx hb dXL_law_1037 hl rfl (by decide) rfl (fun ls hl => ?_)
    refine lv_goto (tgt := 23) hx hb dXL_law_1040 (by decide) ?_
    refine lv_iload hx hb dXL_law_23 (lv_at hl 0 rfl) ?_
    refine lv_aload_n hx hb dXL_law_25 rfl (lv_at hl 1 rfl) ?_
    refine ji_slen hx hb hSc hbl hbA hS dXL_law_26 ?_
    refine ji_iconst hx hb dXL_law_27 ?_
    refine ji_isub hx hb dXL_law_28 ?_
    refine ji_icmp_gt (tgt := 1043) hx hb dXL_law_29 (by decide) (by first | exact jsc_i _ _ | omega | decide) (by first | exact jsc_i _ _ | omega | decide) (fun c29_ => ?_) (fun c29_ => absurd c29_ (by omega))
    refine ji_iconst hx hb dXL_law_1043 ?_
    refine W.widen (k := 47) (n := 4878) (Nat.le_of_ble_eq_true rfl) (Nat.le_of_ble_eq_true rfl) ?_
    rw [show jI 1 = (1 : Int32) from by decide]
    subst hR
    subst hQ
    exact W.forget (locs := []) (fun q hq => by have h9 := hS.2.2 q hq; rw [hAe] at h9; exact h9) (lw_ret hx hb hr hlocks dXL_law_1044)
  have hP : va_P (dC, dI) vwCl [] s.heap := fun k q h => by cases h
  have hD : va_D A [] := ⟨fun i j p q h => (by cases h), fun k q h => (by cases h)⟩
  have hS : va_S A s.heap s.heap [] := va_S.rf
  have hl := lv_entry ([.ref b]) (n := 8) (Nat.le_of_ble_eq_true rfl)
  rw [lg_entry_eq]
  generalize (lg_sl ([.ref b]) ++ List.replicate (8 - (lg_sl ([.ref b])).length) Slot.unset).toArray = ls at hl ⊢
  have hl : lv_has ls 8 [(0, .ref b)] := hl
  refine va_new (D := (dC, dI)) (ci := 4) (fs := [.null, .null, .null, .null, .null, .null, .null]) (C := RXG) (T := TXG) (N := 7) hx hb hts (fun w h => jmem (inXG w h)) tyXG tyXG_ok hown (hts _ (jmem tw_16)) (hts _ (jmem tw_17)) (hts _ (jmem tw_1)) hK hP hD hS hA rfl (fun j hj => by rcases (show j = 0 ∨ j = 1 ∨ j = 2 ∨ j = 3 ∨ j = 4 ∨ j = 5 ∨ j = 6 by omega) with rfl | rfl | rfl | rfl | rfl | rfl | rfl <;> first | rfl | decide) (by rw [hR]; exact Nat.le_of_ble_eq_true rfl) (by rw [hR]; exact Nat.le_of_ble_eq_true rfl) dXL_law_0 (fun q H hP hD hS => ?_)
  have hP : va_P (dC, dI) vwCl [(q, .inr (4, [.null, .null, .null, .null, .null, .null, .null]))] H := hP
  have hD : va_D A [(q, .inr (4, [.null, .null, .null, .null, .null, .null, .null]))] := hD
  refine lv_dup hx hb dXL_law_3 rfl ?_
  refine jcI (As := []) (rest := [.ref q]) (wr := []) ⟨hx, hb, hml, hown, hts⟩ (c_XG_init l dC dI cA _ q) (cwI 0 hts (jG (jG_c tw_20)) rfl rfl rfl (hts _ (jmem tw_1)) (hts _ (jmem tw_18)) (hts _ (jmem tw_19)) rfl (by decide +kernel) (by rw [hR]; exact ⟨Nat.le_of_ble_eq_true rfl, Nat.le_of_ble_eq_true rfl⟩)) (va_K.sub hK [0] rfl) hP hD hS hA hN [0] [] rfl rfl (by decide) (by decide) (by decide) rfl hl.1 rfl (Nat.le_of_ble_eq_true rfl) dXL_law_4 (by rw [hR]; exact ⟨Nat.le_of_ble_eq_true rfl, Nat.le_of_ble_eq_true rfl⟩) (fun u H locs hpst hP hD hS => ?_)
  obtain ⟨ta, ts, rda, pa, ps, sa, ea, ba, bt, bp, bl, bh, bq, br, bd, da, dt, dp, dl, dh, dq, dr, dd⟩ := u
  have hP : va_P (dC, dI) vwCl [(q, .inr (4, [.ref ta, .ref rda, .ref pa, .ref sa, .ref ea, .ref ba, .ref da])), (ta, .inr (3, [.ref ts, .int (jI 0), .int (jI 0), .int (jI 0)])), (ts, .inl (cA, 400, .inl (jA (fun _ => 0)))), (rda, .inr (2, [.ref ta])), (pa, .inr (1, [.ref ps, .int (jI 0)])), (ps, .inl (cA, 160, .inl (jA (fun _ => 0)))), (sa, .inl (cA, 8, .inl (jA (fun _ => 0)))), (ea, .inl (cA, 8, .inl (jA (fun _ => 0)))), (ba, .inr (0, [.ref bt, .ref bp, .ref bl, .ref bh, .ref bq, .ref br, .ref bd, .int (jI 0), .int (jI 0)])), (bt, .inl (cA, 31, .inl (jA (fun _ => 0)))), (bp, .inl (cA, 31, .inl (jA (fun _ => 0)))), (bl, .inl (cA, 248, .inl (jA (fun _ => 0)))), (bh, .inl (cA, 248, .inl (jA (fun _ => 0)))), (bq, .inl (cA, 124, .inl (jA (fun _ => 0)))), (br, .inl (cA, 31, .inl (jA (fun _ => 0)))), (bd, .inl (cA, 32, .inl (jA (fun _ => 0)))), (da, .inr (0, [.ref dt, .ref dp, .ref dl, .ref dh, .ref dq, .ref dr, .ref dd, .int (jI 0), .int (jI 0)])), (dt, .inl (cA, 31, .inl (jA (fun _ => 0)))), (dp, .inl (cA, 31, .inl (jA (fun _ => 0)))), (dl, .inl (cA, 248, .inl (jA (fun _ => 0)))), (dh, .inl (cA, 248, .inl (jA (fun _ => 0)))), (dq, .inl (cA, 124, .inl (jA (fun _ => 0)))), (dr, .inl (cA, 31, .inl (jA (fun _ => 0)))), (dd, .inl (cA, 32, .inl (jA (fun _ => 0))))] H := hP
  have hD : va_D A [(q, .inr (4, [.ref ta, .ref rda, .ref pa, .ref sa, .ref ea, .ref ba, .ref da])), (ta, .inr (3, [.ref ts, .int (jI 0), .int (jI 0), .int (jI 0)])), (ts, .inl (cA, 400, .inl (jA (fun _ => 0)))), (rda, .inr (2, [.ref ta])), (pa, .inr (1, [.ref ps, .int (jI 0)])), (ps, .inl (cA, 160, .inl (jA (fun _ => 0)))), (sa, .inl (cA, 8, .inl (jA (fun _ => 0)))), (ea, .inl (cA, 8, .inl (jA (fun _ => 0)))), (ba, .inr (0, [.ref bt, .ref bp, .ref bl, .ref bh, .ref bq, .ref br, .ref bd, .int (jI 0), .int (jI 0)])), (bt, .inl (cA, 31, .inl (jA (fun _ => 0)))), (bp, .inl (cA, 31, .inl (jA (fun _ => 0)))), (bl, .inl (cA, 248, .inl (jA (fun _ => 0)))), (bh, .inl (cA, 248, .inl (jA (fun _ => 0)))), (bq, .inl (cA, 124, .inl (jA (fun _ => 0)))), (br, .inl (cA, 31, .inl (jA (fun _ => 0)))), (bd, .inl (cA, 32, .inl (jA (fun _ => 0)))), (da, .inr (0, [.ref dt, .ref dp, .ref dl, .ref dh, .ref dq, .ref dr, .ref dd, .int (jI 0), .int (jI 0)])), (dt, .inl (cA, 31, .inl (jA (fun _ => 0)))), (dp, .inl (cA, 31, .inl (jA (fun _ => 0)))), (dl, .inl (cA, 248, .inl (jA (fun _ => 0)))), (dh, .inl (cA, 248, .inl (jA (fun _ => 0)))), (dq, .inl (cA, 124, .inl (jA (fun _ => 0)))), (dr, .inl (cA, 31, .inl (jA (fun _ => 0)))), (dd, .inl (cA, 32, .inl (jA (fun _ => 0))))] := hD
  refine lv_astore_n (lv' := [(1, .ref q), (0, .ref b)]) hx hb dXL_law_7 rfl hl (by decide) rfl (fun ls hl => ?_)
  refine va_new (D := (dC, dI)) (ci := 5) (fs := [.int (jI 0), .int (jI 0), .null, .int (jI 0), .int (jI 0), .null, .null, .null, .null, .null, .null, .null, .null, .null, .null, .long (jL 0), .long (jL 0), .int (jI 0), .null]) (C := RXM) (T := TXM) (N := 19) hx hb hts (fun w h => jmem (inXM w h)) tyXM tyXM_ok hown (hts _ (jmem tw_622)) (hts _ (jmem tw_623)) (hts _ (jmem tw_6)) hK hP hD hS hA rfl (fun j hj => by rcases (show j = 0 ∨ j = 1 ∨ j = 2 ∨ j = 3 ∨ j = 4 ∨ j = 5 ∨ j = 6 ∨ j = 7 ∨ j = 8 ∨ j = 9 ∨ j = 10 ∨ j = 11 ∨ j = 12 ∨ j = 13 ∨ j = 14 ∨ j = 15 ∨ j = 16 ∨ j = 17 ∨ j = 18 by omega) with rfl | rfl | rfl | rfl | rfl | rfl | rfl | rfl | rfl | rfl | rfl | rfl | rfl | rfl | rfl | rfl | rfl | rfl | rfl <;> first | rfl | decide) (by rw [hR]; exact Nat.le_of_ble_eq_true rfl) (by rw [hR]; exact Nat.le_of_ble_eq_true rfl) dXL_law_8 (fun q1 H hP hD hS => ?_)
  have hP : va_P (dC, dI) vwCl [(q, .inr (4, [.ref ta, .ref rda, .ref pa, .ref sa, .ref ea, .ref ba, .ref da])), (ta, .inr (3, [.ref ts, .int (jI 0), .int (jI 0), .int (jI 0)])), (ts, .inl (cA, 400, .inl (jA (fun _ => 0)))), (rda, .inr (2, [.ref ta])), (pa, .inr (1, [.ref ps, .int (jI 0)])), (ps, .inl (cA, 160, .inl (jA (fun _ => 0)))), (sa, .inl (cA, 8, .inl (jA (fun _ => 0)))), (ea, .inl (cA, 8, .inl (jA (fun _ => 0)))), (ba, .inr (0, [.ref bt, .ref bp, .ref bl, .ref bh, .ref bq, .ref br, .ref bd, .int (jI 0), .int (jI 0)])), (bt, .inl (cA, 31, .inl (jA (fun _ => 0)))), (bp, .inl (cA, 31, .inl (jA (fun _ => 0)))), (bl, .inl (cA, 248, .inl (jA (fun _ => 0)))), (bh, .inl (cA, 248, .inl (jA (fun _ => 0)))), (bq, .inl (cA, 124, .inl (jA (fun _ => 0)))), (br, .inl (cA, 31, .inl (jA (fun _ => 0)))), (bd, .inl (cA, 32, .inl (jA (fun _ => 0)))), (da, .inr (0, [.ref dt, .ref dp, .ref dl, .ref dh, .ref dq, .ref dr, .ref dd, .int (jI 0), .int (jI 0)])), (dt, .inl (cA, 31, .inl (jA (fun _ => 0)))), (dp, .inl (cA, 31, .inl (jA (fun _ => 0)))), (dl, .inl (cA, 248, .inl (jA (fun _ => 0)))), (dh, .inl (cA, 248, .inl (jA (fun _ => 0)))), (dq, .inl (cA, 124, .inl (jA (fun _ => 0)))), (dr, .inl (cA, 31, .inl (jA (fun _ => 0)))), (dd, .inl (cA, 32, .inl (jA (fun _ => 0)))), (q1, .inr (5, [.int (jI 0), .int (jI 0), .null, .int (jI 0), .int (jI 0), .null, .null, .null, .null, .null, .null, .null, .null, .null, .null, .long (jL 0), .long (jL 0), .int (jI 0), .null]))] H := hP
  have hD : va_D A [(q, .inr (4, [.ref ta, .ref rda, .ref pa, .ref sa, .ref ea, .ref ba, .ref da])), (ta, .inr (3, [.ref ts, .int (jI 0), .int (jI 0), .int (jI 0)])), (ts, .inl (cA, 400, .inl (jA (fun _ => 0)))), (rda, .inr (2, [.ref ta])), (pa, .inr (1, [.ref ps, .int (jI 0)])), (ps, .inl (cA, 160, .inl (jA (fun _ => 0)))), (sa, .inl (cA, 8, .inl (jA (fun _ => 0)))), (ea, .inl (cA, 8, .inl (jA (fun _ => 0)))), (ba, .inr (0, [.ref bt, .ref bp, .ref bl, .ref bh, .ref bq, .ref br, .ref bd, .int (jI 0), .int (jI 0)])), (bt, .inl (cA, 31, .inl (jA (fun _ => 0)))), (bp, .inl (cA, 31, .inl (jA (fun _ => 0)))), (bl, .inl (cA, 248, .inl (jA (fun _ => 0)))), (bh, .inl (cA, 248, .inl (jA (fun _ => 0)))), (bq, .inl (cA, 124, .inl (jA (fun _ => 0)))), (br, .inl (cA, 31, .inl (jA (fun _ => 0)))), (bd, .inl (cA, 32, .inl (jA (fun _ => 0)))), (da, .inr (0, [.ref dt, .ref dp, .ref dl, .ref dh, .ref dq, .ref dr, .ref dd, .int (jI 0), .int (jI 0)])), (dt, .inl (cA, 31, .inl (jA (fun _ => 0)))), (dp, .inl (cA, 31, .inl (jA (fun _ => 0)))), (dl, .inl (cA, 248, .inl (jA (fun _ => 0)))), (dh, .inl (cA, 248, .inl (jA (fun _ => 0)))), (dq, .inl (cA, 124, .inl (jA (fun _ => 0)))), (dr, .inl (cA, 31, .inl (jA (fun _ => 0)))), (dd, .inl (cA, 32, .inl (jA (fun _ => 0)))), (q1, .inr (5, [.int (jI 0), .int (jI 0), .null, .int (jI 0), .int (jI 0), .null, .null, .null, .null, .null, .null, .null, .null, .null, .null, .long (jL 0), .long (jL 0), .int (jI 0), .null]))] := hD
  refine lv_dup hx hb dXL_law_11 rfl ?_
  refine jcI (As := []) (rest := [.ref q1]) (wr := [(q, .inr (4, [.ref ta, .ref rda, .ref pa, .ref sa, .ref ea, .ref ba, .ref da])), (ta, .inr (3, [.ref ts, .int (jI 0), .int (jI 0), .int (jI 0)])), (ts, .inl (cA, 400, .inl (jA (fun _ => 0)))), (rda, .inr (2, [.ref ta])), (pa, .inr (1, [.ref ps, .int (jI 0)])), (ps, .inl (cA, 160, .inl (jA (fun _ => 0)))), (sa, .inl (cA, 8, .inl (jA (fun _ => 0)))), (ea, .inl (cA, 8, .inl (jA (fun _ => 0)))), (ba, .inr (0, [.ref bt, .ref bp, .ref bl, .ref bh, .ref bq, .ref br, .ref bd, .int (jI 0), .int (jI 0)])), (bt, .inl (cA, 31, .inl (jA (fun _ => 0)))), (bp, .inl (cA, 31, .inl (jA (fun _ => 0)))), (bl, .inl (cA, 248, .inl (jA (fun _ => 0)))), (bh, .inl (cA, 248, .inl (jA (fun _ => 0)))), (bq, .inl (cA, 124, .inl (jA (fun _ => 0)))), (br, .inl (cA, 31, .inl (jA (fun _ => 0)))), (bd, .inl (cA, 32, .inl (jA (fun _ => 0)))), (da, .inr (0, [.ref dt, .ref dp, .ref dl, .ref dh, .ref dq, .ref dr, .ref dd, .int (jI 0), .int (jI 0)])), (dt, .inl (cA, 31, .inl (jA (fun _ => 0)))), (dp, .inl (cA, 31, .inl (jA (fun _ => 0)))), (dl, .inl (cA, 248, .inl (jA (fun _ => 0)))), (dh, .inl (cA, 248, .inl (jA (fun _ => 0)))), (dq, .inl (cA, 124, .inl (jA (fun _ => 0)))), (dr, .inl (cA, 31, .inl (jA (fun _ => 0)))), (dd, .inl (cA, 32, .inl (jA (fun _ => 0))))]) ⟨hx, hb, hml, hown, hts⟩ (c_XM_init l dC dI cA cZ _ q1) (cwI 0 hts (jG (jG_c tw_626)) rfl rfl rfl (hts _ (jmem tw_6)) (hts _ (jmem tw_624)) (hts _ (jmem tw_625)) rfl (by decide +kernel) (by rw [hR]; exact ⟨Nat.le_of_ble_eq_true rfl, Nat.le_of_ble_eq_true rfl⟩)) (va_K.sub hK [0, 2] rfl) hP hD hS hA hN [24] [0, 1, 2, 3, 4, 5, 6, 7, 8, 9, 10, 11, 12, 13, 14, 15, 16, 17, 18, 19, 20, 21, 22, 23] rfl rfl (by decide) (by decide) (by decide) rfl hl.1 rfl (Nat.le_of_ble_eq_true rfl) dXL_law_12 (by rw [hR]; exact ⟨Nat.le_of_ble_eq_true rfl, Nat.le_of_ble_eq_true rfl⟩) (fun u2 H locs hpst hP hD hS => ?_)
  obtain ⟨a0, a1, a2, a3, a4, a5, a6, a7, a8, a9, a10, a11, y7⟩ := u2
  have hP : va_P (dC, dI) vwCl [(q, .inr (4, [.ref ta, .ref rda, .ref pa, .ref sa, .ref ea, .ref ba, .ref da])), (ta, .inr (3, [.ref ts, .int (jI 0), .int (jI 0), .int (jI 0)])), (ts, .inl (cA, 400, .inl (jA (fun _ => 0)))), (rda, .inr (2, [.ref ta])), (pa, .inr (1, [.ref ps, .int (jI 0)])), (ps, .inl (cA, 160, .inl (jA (fun _ => 0)))), (sa, .inl (cA, 8, .inl (jA (fun _ => 0)))), (ea, .inl (cA, 8, .inl (jA (fun _ => 0)))), (ba, .inr (0, [.ref bt, .ref bp, .ref bl, .ref bh, .ref bq, .ref br, .ref bd, .int (jI 0), .int (jI 0)])), (bt, .inl (cA, 31, .inl (jA (fun _ => 0)))), (bp, .inl (cA, 31, .inl (jA (fun _ => 0)))), (bl, .inl (cA, 248, .inl (jA (fun _ => 0)))), (bh, .inl (cA, 248, .inl (jA (fun _ => 0)))), (bq, .inl (cA, 124, .inl (jA (fun _ => 0)))), (br, .inl (cA, 31, .inl (jA (fun _ => 0)))), (bd, .inl (cA, 32, .inl (jA (fun _ => 0)))), (da, .inr (0, [.ref dt, .ref dp, .ref dl, .ref dh, .ref dq, .ref dr, .ref dd, .int (jI 0), .int (jI 0)])), (dt, .inl (cA, 31, .inl (jA (fun _ => 0)))), (dp, .inl (cA, 31, .inl (jA (fun _ => 0)))), (dl, .inl (cA, 248, .inl (jA (fun _ => 0)))), (dh, .inl (cA, 248, .inl (jA (fun _ => 0)))), (dq, .inl (cA, 124, .inl (jA (fun _ => 0)))), (dr, .inl (cA, 31, .inl (jA (fun _ => 0)))), (dd, .inl (cA, 32, .inl (jA (fun _ => 0)))), (q1, .inr (5, [.int (jI 0), .int (jI 0), .ref a0, .int (jI 0), .int (jI 0), .ref a1, .ref a2, .ref a3, .ref a4, .ref a5, .ref a6, .ref a7, .ref a8, .ref a9, .ref a10, .long (jL 0), .long (jL 0), .int (jI 0), .ref a11])), (a0, .inl (cA, 400, .inl (jA (fun _ => 0)))), (a1, .inl (cZ, 62, .inl (jA (fun _ => 0)))), (a2, .inl (cA, 62, .inl (jA (fun _ => 0)))), (a3, .inl (cZ, 496, .inl (jA (fun _ => 0)))), (a4, .inl (cA, 496, .inl (jA (fun _ => 0)))), (a5, .inl (cA, 496, .inl (jA (fun _ => 0)))), (a6, .inl (cA, 62, .inl (jA (fun _ => 0)))), (a7, .inl (cA, 248, .inl (jA y7))), (a8, .inl (cZ, 8, .inl (jA (fun _ => 0)))), (a9, .inl (cA, 64, .inl (jA (fun _ => 0)))), (a10, .inl (cA, 8, .inl (jA (fun _ => 0)))), (a11, .inl (cA, 300, .inl (jA (fun _ => 0))))] H := hP
  have hD : va_D A [(q, .inr (4, [.ref ta, .ref rda, .ref pa, .ref sa, .ref ea, .ref ba, .ref da])), (ta, .inr (3, [.ref ts, .int (jI 0), .int (jI 0), .int (jI 0)])), (ts, .inl (cA, 400, .inl (jA (fun _ => 0)))), (rda, .inr (2, [.ref ta])), (pa, .inr (1, [.ref ps, .int (jI 0)])), (ps, .inl (cA, 160, .inl (jA (fun _ => 0)))), (sa, .inl (cA, 8, .inl (jA (fun _ => 0)))), (ea, .inl (cA, 8, .inl (jA (fun _ => 0)))), (ba, .inr (0, [.ref bt, .ref bp, .ref bl, .ref bh, .ref bq, .ref br, .ref bd, .int (jI 0), .int (jI 0)])), (bt, .inl (cA, 31, .inl (jA (fun _ => 0)))), (bp, .inl (cA, 31, .inl (jA (fun _ => 0)))), (bl, .inl (cA, 248, .inl (jA (fun _ => 0)))), (bh, .inl (cA, 248, .inl (jA (fun _ => 0)))), (bq, .inl (cA, 124, .inl (jA (fun _ => 0)))), (br, .inl (cA, 31, .inl (jA (fun _ => 0)))), (bd, .inl (cA, 32, .inl (jA (fun _ => 0)))), (da, .inr (0, [.ref dt, .ref dp, .ref dl, .ref dh, .ref dq, .ref dr, .ref dd, .int (jI 0), .int (jI 0)])), (dt, .inl (cA, 31, .inl (jA (fun _ => 0)))), (dp, .inl (cA, 31, .inl (jA (fun _ => 0)))), (dl, .inl (cA, 248, .inl (jA (fun _ => 0)))), (dh, .inl (cA, 248, .inl (jA (fun _ => 0)))), (dq, .inl (cA, 124, .inl (jA (fun _ => 0)))), (dr, .inl (cA, 31, .inl (jA (fun _ => 0)))), (dd, .inl (cA, 32, .inl (jA (fun _ => 0)))), (q1, .inr (5, [.int (jI 0), .int (jI 0), .ref a0, .int (jI 0), .int (jI 0), .ref a1, .ref a2, .ref a3, .ref a4, .ref a5, .ref a6, .ref a7, .ref a8, .ref a9, .ref a10, .long (jL 0), .long (jL 0), .int (jI 0), .ref a11])), (a0, .inl (cA, 400, .inl (jA (fun _ => 0)))), (a1, .inl (cZ, 62, .inl (jA (fun _ => 0)))), (a2, .inl (cA, 62, .inl (jA (fun _ => 0)))), (a3, .inl (cZ, 496, .inl (jA (fun _ => 0)))), (a4, .inl (cA, 496, .inl (jA (fun _ => 0)))), (a5, .inl (cA, 496, .inl (jA (fun _ => 0)))), (a6, .inl (cA, 62, .inl (jA (fun _ => 0)))), (a7, .inl (cA, 248, .inl (jA y7))), (a8, .inl (cZ, 8, .inl (jA (fun _ => 0)))), (a9, .inl (cA, 64, .inl (jA (fun _ => 0)))), (a10, .inl (cA, 8, .inl (jA (fun _ => 0)))), (a11, .inl (cA, 300, .inl (jA (fun _ => 0))))] := hD
  dsimp only at hpst
  refine lv_astore_n (lv' := [(2, .ref q1), (1, .ref q), (0, .ref b)]) hx hb dXL_law_15 rfl hl (by decide) rfl (fun ls hl => ?_)
  refine ji_iconst hx hb dXL_law_16 ?_
  refine ji_newl (N := 1) hx hb (hts _ (jmem tw_867)) hK hP hD hS hA 1 rfl rfl (by decide) (by rw [hR]; exact Nat.le_of_ble_eq_true rfl) (by rw [hR]; exact Nat.le_of_ble_eq_true rfl) dXL_law_17 (fun q3 H hP hD hS => ?_)
  have hP : va_P (dC, dI) vwCl [(q, .inr (4, [.ref ta, .ref rda, .ref pa, .ref sa, .ref ea, .ref ba, .ref da])), (ta, .inr (3, [.ref ts, .int (jI 0), .int (jI 0), .int (jI 0)])), (ts, .inl (cA, 400, .inl (jA (fun _ => 0)))), (rda, .inr (2, [.ref ta])), (pa, .inr (1, [.ref ps, .int (jI 0)])), (ps, .inl (cA, 160, .inl (jA (fun _ => 0)))), (sa, .inl (cA, 8, .inl (jA (fun _ => 0)))), (ea, .inl (cA, 8, .inl (jA (fun _ => 0)))), (ba, .inr (0, [.ref bt, .ref bp, .ref bl, .ref bh, .ref bq, .ref br, .ref bd, .int (jI 0), .int (jI 0)])), (bt, .inl (cA, 31, .inl (jA (fun _ => 0)))), (bp, .inl (cA, 31, .inl (jA (fun _ => 0)))), (bl, .inl (cA, 248, .inl (jA (fun _ => 0)))), (bh, .inl (cA, 248, .inl (jA (fun _ => 0)))), (bq, .inl (cA, 124, .inl (jA (fun _ => 0)))), (br, .inl (cA, 31, .inl (jA (fun _ => 0)))), (bd, .inl (cA, 32, .inl (jA (fun _ => 0)))), (da, .inr (0, [.ref dt, .ref dp, .ref dl, .ref dh, .ref dq, .ref dr, .ref dd, .int (jI 0), .int (jI 0)])), (dt, .inl (cA, 31, .inl (jA (fun _ => 0)))), (dp, .inl (cA, 31, .inl (jA (fun _ => 0)))), (dl, .inl (cA, 248, .inl (jA (fun _ => 0)))), (dh, .inl (cA, 248, .inl (jA (fun _ => 0)))), (dq, .inl (cA, 124, .inl (jA (fun _ => 0)))), (dr, .inl (cA, 31, .inl (jA (fun _ => 0)))), (dd, .inl (cA, 32, .inl (jA (fun _ => 0)))), (q1, .inr (5, [.int (jI 0), .int (jI 0), .ref a0, .int (jI 0), .int (jI 0), .ref a1, .ref a2, .ref a3, .ref a4, .ref a5, .ref a6, .ref a7, .ref a8, .ref a9, .ref a10, .long (jL 0), .long (jL 0), .int (jI 0), .ref a11])), (a0, .inl (cA, 400, .inl (jA (fun _ => 0)))), (a1, .inl (cZ, 62, .inl (jA (fun _ => 0)))), (a2, .inl (cA, 62, .inl (jA (fun _ => 0)))), (a3, .inl (cZ, 496, .inl (jA (fun _ => 0)))), (a4, .inl (cA, 496, .inl (jA (fun _ => 0)))), (a5, .inl (cA, 496, .inl (jA (fun _ => 0)))), (a6, .inl (cA, 62, .inl (jA (fun _ => 0)))), (a7, .inl (cA, 248, .inl (jA y7))), (a8, .inl (cZ, 8, .inl (jA (fun _ => 0)))), (a9, .inl (cA, 64, .inl (jA (fun _ => 0)))), (a10, .inl (cA, 8, .inl (jA (fun _ => 0)))), (a11, .inl (cA, 300, .inl (jA (fun _ => 0)))), (q3, .inl (cL, 1, .inr (.inl (jAL (fun _ => 0)))))] H := hP
  have hD : va_D A [(q, .inr (4, [.ref ta, .ref rda, .ref pa, .ref sa, .ref ea, .ref ba, .ref da])), (ta, .inr (3, [.ref ts, .int (jI 0), .int (jI 0), .int (jI 0)])), (ts, .inl (cA, 400, .inl (jA (fun _ => 0)))), (rda, .inr (2, [.ref ta])), (pa, .inr (1, [.ref ps, .int (jI 0)])), (ps, .inl (cA, 160, .inl (jA (fun _ => 0)))), (sa, .inl (cA, 8, .inl (jA (fun _ => 0)))), (ea, .inl (cA, 8, .inl (jA (fun _ => 0)))), (ba, .inr (0, [.ref bt, .ref bp, .ref bl, .ref bh, .ref bq, .ref br, .ref bd, .int (jI 0), .int (jI 0)])), (bt, .inl (cA, 31, .inl (jA (fun _ => 0)))), (bp, .inl (cA, 31, .inl (jA (fun _ => 0)))), (bl, .inl (cA, 248, .inl (jA (fun _ => 0)))), (bh, .inl (cA, 248, .inl (jA (fun _ => 0)))), (bq, .inl (cA, 124, .inl (jA (fun _ => 0)))), (br, .inl (cA, 31, .inl (jA (fun _ => 0)))), (bd, .inl (cA, 32, .inl (jA (fun _ => 0)))), (da, .inr (0, [.ref dt, .ref dp, .ref dl, .ref dh, .ref dq, .ref dr, .ref dd, .int (jI 0), .int (jI 0)])), (dt, .inl (cA, 31, .inl (jA (fun _ => 0)))), (dp, .inl (cA, 31, .inl (jA (fun _ => 0)))), (dl, .inl (cA, 248, .inl (jA (fun _ => 0)))), (dh, .inl (cA, 248, .inl (jA (fun _ => 0)))), (dq, .inl (cA, 124, .inl (jA (fun _ => 0)))), (dr, .inl (cA, 31, .inl (jA (fun _ => 0)))), (dd, .inl (cA, 32, .inl (jA (fun _ => 0)))), (q1, .inr (5, [.int (jI 0), .int (jI 0), .ref a0, .int (jI 0), .int (jI 0), .ref a1, .ref a2, .ref a3, .ref a4, .ref a5, .ref a6, .ref a7, .ref a8, .ref a9, .ref a10, .long (jL 0), .long (jL 0), .int (jI 0), .ref a11])), (a0, .inl (cA, 400, .inl (jA (fun _ => 0)))), (a1, .inl (cZ, 62, .inl (jA (fun _ => 0)))), (a2, .inl (cA, 62, .inl (jA (fun _ => 0)))), (a3, .inl (cZ, 496, .inl (jA (fun _ => 0)))), (a4, .inl (cA, 496, .inl (jA (fun _ => 0)))), (a5, .inl (cA, 496, .inl (jA (fun _ => 0)))), (a6, .inl (cA, 62, .inl (jA (fun _ => 0)))), (a7, .inl (cA, 248, .inl (jA y7))), (a8, .inl (cZ, 8, .inl (jA (fun _ => 0)))), (a9, .inl (cA, 64, .inl (jA (fun _ => 0)))), (a10, .inl (cA, 8, .inl (jA (fun _ => 0)))), (a11, .inl (cA, 300, .inl (jA (fun _ => 0)))), (q3, .inl (cL, 1, .inr (.inl (jAL (fun _ => 0)))))] := hD
  refine lv_astore_n (lv' := [(3, .ref q3), (2, .ref q1), (1, .ref q), (0, .ref b)]) hx hb dXL_law_19 rfl hl (by decide) rfl (fun ls hl => ?_)
  refine ji_iconst hx hb dXL_law_20 ?_
  refine lv_istore (lv' := [(4, .int (jI 0)), (3, .ref q3), (2, .ref q1), (1, .ref q), (0, .ref b)]) hx hb dXL_law_21 hl (by decide) rfl (fun ls hl => ?_)
  refine lv_iload hx hb dXL_law_23 (lv_at hl 0 rfl) ?_
  refine lv_aload_n hx hb dXL_law_25 rfl (lv_at hl 4 rfl) ?_
  refine ji_slen hx hb hSc hbl hbA hS dXL_law_26 ?_
  refine ji_iconst hx hb dXL_law_27 ?_
  refine ji_isub hx hb dXL_law_28 ?_
  refine ji_icmp_gt (tgt := 1043) hx hb dXL_law_29 (by decide) (by first | exact jsc_i _ _ | omega | decide) (by first | exact jsc_i _ _ | omega | decide) (fun c29_ => ?_) (fun c29_ => ?_)
  · refine ji_iconst hx hb dXL_law_1043 ?_
    refine W.widen (k := 47) (n := 4878) (Nat.le_of_ble_eq_true rfl) (Nat.le_of_ble_eq_true rfl) ?_
    rw [show jI 1 = (1 : Int32) from by decide]
    subst hR
    subst hQ
    exact W.forget (locs := []) (fun q hq => by have h9 := hS.2.2 q hq; rw [hAe] at h9; exact h9) (lw_ret hx hb hr hlocks dXL_law_1044)
  · refine lv_aload_n hx hb dXL_law_32 rfl (lv_at hl 4 rfl) ?_
    refine lv_iload hx hb dXL_law_33 (lv_at hl 0 rfl) ?_
    refine ji_sld hx hb hSc hbl hbA hS ⟨by omega, by omega⟩ (by omega) dXL_law_35 ?_
    refine ji_bipush hx hb dXL_law_36 (by decide) ?_
    refine lv_iand hx hb dXL_law_38 ?_
    refine ji_rev ?_
    have h15 := jand15 (jI (jsc xs 0))
    obtain ⟨z9, hz9⟩ : ∃ z9 : Int, z9 = (jI (jsc xs 0) &&& jI 15).toInt := ⟨_, rfl⟩
    rw [← hz9] at h15 ⊢
    have hL5 : (L : Int) = 5 := by omega
    rcases (show z9 = 0 ∨ z9 = 1 ∨ z9 = 2 ∨ z9 = 3 ∨ z9 = 4 ∨ z9 = 5 ∨ z9 = 6 ∨ z9 = 7 ∨ z9 = 8 ∨ z9 = 9 ∨ z9 = 10 ∨ z9 = 11 ∨ z9 = 12 ∨ z9 = 13 ∨ z9 = 14 ∨ z9 = 15 by omega) with h9 | h9 | h9 | h9 | h9 | h9 | h9 | h9 | h9 | h9 | h9 | h9 | h9 | h9 | h9 | h9 <;> rw [h9]
    · refine lv_tableIn (tgt := 112) hx hb dXL_law_39 (by decide) (by decide) (off := 73) (by decide) (by decide) ?_
      exact law_0 CX hL5 tail q ta ts rda pa ps sa ea ba bt bp bl bh bq br bd da dt dp dl dh dq dr dd q1 a0 a1 a2 a3 a4 a5 a6 a7 a8 a9 a10 a11 q3 y7 hpst hP hD hS hl
    · refine lv_tableIn (tgt := 212) hx hb dXL_law_39 (by decide) (by decide) (off := 173) (by decide) (by decide) ?_
      exact law_1 CX hL5 tail q ta ts rda pa ps sa ea ba bt bp bl bh bq br bd da dt dp dl dh dq dr dd q1 a0 a1 a2 a3 a4 a5 a6 a7 a8 a9 a10 a11 q3 y7 hpst hP hD hS hl
    · refine lv_tableIn (tgt := 225) hx hb dXL_law_39 (by decide) (by decide) (off := 186) (by decide) (by decide) ?_
      exact law_2 CX hL5 tail q ta ts rda pa ps sa ea ba bt bp bl bh bq br bd da dt dp dl dh dq dr dd q1 a0 a1 a2 a3 a4 a5 a6 a7 a8 a9 a10 a11 q3 y7 hpst hP hD hS hl
    · refine lv_tableIn (tgt := 305) hx hb dXL_law_39 (by decide) (by decide) (off := 266) (by decide) (by decide) ?_
      exact law_3 CX hL5 tail q ta ts rda pa ps sa ea ba bt bp bl bh bq br bd da dt dp dl dh dq dr dd q1 a0 a1 a2 a3 a4 a5 a6 a7 a8 a9 a10 a11 q3 y7 hpst hP hD hS hl
    · refine lv_tableIn (tgt := 373) hx hb dXL_law_39 (by decide) (by decide) (off := 334) (by decide) (by decide) ?_
      exact law_4 CX hL5 tail q ta ts rda pa ps sa ea ba bt bp bl bh bq br bd da dt dp dl dh dq dr dd q1 a0 a1 a2 a3 a4 a5 a6 a7 a8 a9 a10 a11 q3 y7 hpst hP hD hS hl
    · refine lv_tableIn (tgt := 464) hx hb dXL_law_39 (by decide) (by decide) (off := 425) (by decide) (by decide) ?_
      exact law_5 CX hL5 tail q ta ts rda pa ps sa ea ba bt bp bl bh bq br bd da dt dp dl dh dq dr dd q1 a0 a1 a2 a3 a4 a5 a6 a7 a8 a9 a10 a11 q3 y7 hpst hP hD hS hl
    · refine lv_tableIn (tgt := 512) hx hb dXL_law_39 (by decide) (by decide) (off := 473) (by decide) (by decide) ?_
      exact law_6 CX hL5 tail q ta ts rda pa ps sa ea ba bt bp bl bh bq br bd da dt dp dl dh dq dr dd q1 a0 a1 a2 a3 a4 a5 a6 a7 a8 a9 a10 a11 q3 y7 hpst hP hD hS hl
    · refine lv_tableIn (tgt := 579) hx hb dXL_law_39 (by decide) (by decide) (off := 540) (by decide) (by decide) ?_
      exact law_7 CX hL5 tail q ta ts rda pa ps sa ea ba bt bp bl bh bq br bd da dt dp dl dh dq dr dd q1 a0 a1 a2 a3 a4 a5 a6 a7 a8 a9 a10 a11 q3 y7 hpst hP hD hS hl
    · refine lv_tableIn (tgt := 635) hx hb dXL_law_39 (by decide) (by decide) (off := 596) (by decide) (by decide) ?_
      exact law_8 CX hL5 tail q ta ts rda pa ps sa ea ba bt bp bl bh bq br bd da dt dp dl dh dq dr dd q1 a0 a1 a2 a3 a4 a5 a6 a7 a8 a9 a10 a11 q3 y7 hpst hP hD hS hl
    · refine lv_tableIn (tgt := 710) hx hb dXL_law_39 (by decide) (by decide) (off := 671) (by decide) (by decide) ?_
      exact law_9 CX hL5 tail q ta ts rda pa ps sa ea ba bt bp bl bh bq br bd da dt dp dl dh dq dr dd q1 a0 a1 a2 a3 a4 a5 a6 a7 a8 a9 a10 a11 q3 y7 hpst hP hD hS hl
    · refine lv_tableIn (tgt := 766) hx hb dXL_law_39 (by decide) (by decide) (off := 727) (by decide) (by decide) ?_
      exact law_10 CX hL5 tail q ta ts rda pa ps sa ea ba bt bp bl bh bq br bd da dt dp dl dh dq dr dd q1 a0 a1 a2 a3 a4 a5 a6 a7 a8 a9 a10 a11 q3 y7 hpst hP hD hS hl
    · refine lv_tableIn (tgt := 834) hx hb dXL_law_39 (by decide) (by decide) (off := 795) (by decide) (by decide) ?_
      exact law_11 CX hL5 tail q ta ts rda pa ps sa ea ba bt bp bl bh bq br bd da dt dp dl dh dq dr dd q1 a0 a1 a2 a3 a4 a5 a6 a7 a8 a9 a10 a11 q3 y7 hpst hP hD hS hl
    · refine lv_tableIn (tgt := 914) hx hb dXL_law_39 (by decide) (by decide) (off := 875) (by decide) (by decide) ?_
      exact law_12 CX hL5 tail q ta ts rda pa ps sa ea ba bt bp bl bh bq br bd da dt dp dl dh dq dr dd q1 a0 a1 a2 a3 a4 a5 a6 a7 a8 a9 a10 a11 q3 y7 hpst hP hD hS hl
    · refine lv_tableIn (tgt := 970) hx hb dXL_law_39 (by decide) (by decide) (off := 931) (by decide) (by decide) ?_
      exact law_13 CX hL5 tail q ta ts rda pa ps sa ea ba bt bp bl bh bq br bd da dt dp dl dh dq dr dd q1 a0 a1 a2 a3 a4 a5 a6 a7 a8 a9 a10 a11 q3 y7 hpst hP hD hS hl
    · refine lv_tableIn (tgt := 1026) hx hb dXL_law_39 (by decide) (by decide) (off := 987) (by decide) (by decide) ?_
      exact law_14 CX hL5 tail q ta ts rda pa ps sa ea ba bt bp bl bh bq br bd da dt dp dl dh dq dr dd q1 a0 a1 a2 a3 a4 a5 a6 a7 a8 a9 a10 a11 q3 y7 hpst hP hD hS hl
    · refine lv_tableOut (tgt := 1037) hx hb dXL_law_39 (by decide) (by decide) ?_
      refine W.widen (k := 47) (n := 4878) (Nat.le_of_ble_eq_true rfl) (Nat.le_of_ble_eq_true rfl) ?_
      exact tail H locs hS ls (lv_sub hl [0, 4] rfl)
set_option maxHeartbeats 4000000 in
theorem lw_walk (l : Launch) (hst : l.stackTraces = false) (b : Addr) (xs : List Int32) : MetFree l x (headSpec (Jvm.Cond.code x code maxLocals ret :: tables_1) room_1) (lw_P b xs) (fun _ _ _ _ _ => True) lw_Q := by
  refine MetFree.of_bodyS (code := code) (maxLocals := maxLocals) (ret := ret) (by decide) ?_ ?_
  · intro args s m h hn
    obtain ⟨meth, c, h1, h2, h3, h4, h5, h6, -, -⟩ := Cond.code_spec hn (atoms_spec (ws := Jvm.Cond.code x code maxLocals ret :: tables_1) h _ List.mem_cons_self)
    exact ⟨meth, c, h1, h2, h3, h4, h5, h6⟩
  · intro p e s m args below meth c s₁ B hml0 hP _
    obtain ⟨rfl, hx, hbd, hgv⟩ := hP
    obtain ⟨scr, harrAt, hlist, hof, hsmall⟩ := hx
    obtain ⟨hcb, hkn, -, -⟩ := State.arrayAt?_spec harrAt
    have hown : s.vm.findClass R_law = some m.cls := findClass_of_methodNamed B.named
    have hts0 : ∀ c ∈ (Jvm.Cond.code x code maxLocals ret :: tables_1), c.before #[Value.ref b] s = true := atoms_spec (ws := Jvm.Cond.code x code maxLocals ret :: tables_1) B.pre
    have hts : ∀ w ∈ lw_tbl, w.before #[Value.ref b] s = true := k2_hts_sels lw_privs (fun w hw => hts0 w (List.mem_cons_of_mem _ hw)) lw_privs_ok
    have hml : c.maxLocals = 8 := B.maxLocals_eq (hts0 _ List.mem_cons_self)
    have X₀ : Stand p l e room_1 s m #[Value.ref b] below meth c s₁ [] 0 0 := Stand.of_body B
    have hh0 : s₁.heap = s.heap := by rw [B.state]; rfl
    have hsz : scr.slots.size = xs.length := by rw [← Array.length_toList, hlist, List.length_map]
    have hval : ∀ j : Nat, j < xs.length → scr.slots[j]? = some (.int (xs.getD j 0)) := fun j hj => by
      rw [← Array.getElem?_toList, hlist]
      simp [hj]
    have hbl : b < s.heap.size := (Array.getElem?_eq_some_iff.mp hcb).1
    have hX : va_X b xs.length (fun j => xs.getD j 0) s s.heap := ⟨scr, hcb, hof, hkn, hsz, hval⟩
    have K : W p l e room_1 s m #[Value.ref b] below meth c s₁.heap [] 0 0 (lw_Z below #[Value.ref b] s) (entryFrame m ([Value.ref b] : List Value).toArray 8) := by
      rw [hh0]
      exact whole_start l hst hbd ⟨B.exec, B.bytes, B.returns, hml, hown, hts, hX, hbl, B.notSynchronized, hgv⟩
    obtain ⟨t, a1, o, b1, b2, b3⟩ := K s₁ rfl X₀
    exact ⟨t, o, a1, b1, b2, b3⟩
theorem lw_pre_spec {args : Array Value} {s : State} (h : (Jvm.Cond.and given_1 narrow_1).before args s = true) (hr : rest_1_c.before args s = true) : ∃ (b : Addr) (xs : List Int32), lw_P b xs args s := by
  have hs := flat_of_before _ h
  have hq := flat_of_before _ hr
  have hc : (Cond.count 1).before args s = true := hs _ (by decide +kernel)
  have harr : (Cond.arrayOf (.arg 0) .int).before args s = true := hs _ (by decide +kernel)
  have hle : (Cond.le (.length (.arg 0)) (.int 5)).before args s = true := hs _ (by decide +kernel)
  have hlen : (Cond.isInt (.length (.arg 0))).before args s = true := hq _ (by decide +kernel)
  have hall : (Cond.all (.arg 0) (.isInt (.elem (.arg 0) (.index 0)))).before args s = true := hq _ (by decide +kernel)
  obtain ⟨b, xs, hb, hx⟩ := State.ints_of_pre rfl harr hlen hall
  have hsm : xs.length < 2 ^ 31 := hx.choose_spec.2.2.2
  have hev : (Term.length (.arg 0)).eval args s none [] s = some (.int xs.length.toInt32) := hx.length_eval hb
  have hv := Cond.le_ints hev (show (Term.int 5).eval args s none [] s = some (.int 5) from rfl)
  have hd : xs.length.toInt32 ≤ 5 := by
    simpa [Cond.before, Cond.holds, hv] using hle
  have hN : xs.length ≤ 5 := (Int32.ofNat_le_ofNat hsm (by decide)).mp (show Int32.ofNat xs.length ≤ Int32.ofNat 5 from hd)
  exact ⟨b, xs, Cond.one_arg hc (show args[0]? = some (.ref b) from hb), hx, hN, h⟩
theorem lw_comes (l : Launch) (hst : l.stackTraces = false) : Comes l x (Jvm.Cond.code x code maxLocals ret :: tables_1) room_1 (fun tb e args s => Calls_1 tb e args s ∧ rest_1 tb e args s ∧ Pre_1 tb e args s)
    (fun _ _ args s o t => lw_Q args s o t) := by
  intro p e ha hc hk s m args below hf hfit hheap happ hpre
  obtain ⟨b, xs, hP⟩ := lw_pre_spec hpre.2.2 hpre.2.1
  obtain ⟨k, o, h1, h2, h3, hQ⟩ := lw_walk l hst b xs p e ha hc hk s m args below hf ((Spec.applies_iff_loose hf).mp happ).1 hP trivial
  exact ⟨k, o, h1, h2, h3, hQ⟩
theorem lw_frame {s t : State} {o : Outcome} {args : Array Value} (h : Framed s o t [] 47 4878) :
    Framed s o t (fieldLocs frame_1_writes args s ++ arrayLocs frame_1_arrays args s ++ staticLocs frame_1_statics s) 47 4878 := h
theorem lw_limb (L : Cond) (hL : ∀ (args : Array Value) (s t : State), L.after args s (.returned (some (.int 1))) t = true) :
    ArmFor flags0 classFile x code maxLocals ret World_1 tables_1 room_1 Calls_1 rest_1 Pre_1
      (fun tb e a s o t => postC L tb e a s o t ∧ Framed s o t (fieldLocs frame_1_writes a s ++ arrayLocs frame_1_arrays a s ++ staticLocs frame_1_statics s) 47 4878) := by
  intro l hfl _ _ p e ha hc hk s m args below hf hfit hheap happ hpre
  obtain ⟨k, o, h1, h2, h3, rfl, hF⟩ := lw_comes l (by unfold Launch.stackTraces; rw [hfl]; decide +kernel) p e ha hc hk s m args below hf hfit hheap happ hpre
  exact ⟨k, _, h1, h2, h3, hL args s _, lw_frame hF⟩
theorem i_vc : Claimed_1_1 ∧ Claimed_1_2 := ⟨lw_limb limb_1_1 (fun args s t => by simp [limb_1_1, Cond.after, Cond.holds, Cond.value]), lw_limb limb_1_2 (fun args s t => Cond.after_iff.mpr (by
  first | (rw [show limb_1_2 = Cond.eq .result (.int 1) from rfl, Cond.eq_ints (x := 1) (y := 1) rfl rfl]; simp; done) | (simp [limb_1_2, Cond.value, Term.eval]; done)))⟩
