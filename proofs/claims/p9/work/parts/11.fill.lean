noncomputable def g_XA_fill8_L5 (fw : Int → Int) (zv : Int) : Nat → Int → (Int → Int) → (Int → Int)
  | 0, _, _ => fun _ => 0
  | n9 + 1, k, fa =>
    if k < 8 then
      g_XA_fill8_L5 fw zv n9 (k + 1) (jset fa k zv)
    else
      fa
noncomputable def f_XA_fill8_L5 : (Int → Int) → Int → Nat → Int → (Int → Int) → (Int → Int) := jopq g_XA_fill8_L5
theorem f_XA_fill8_L5_q : f_XA_fill8_L5 = g_XA_fill8_L5 := jopq_eq _
theorem f_XA_fill8_L5_s (fw : Int → Int) (zv : Int) (n9 : Nat) (k : Int) (fa : Int → Int) : f_XA_fill8_L5 fw zv (n9 + 1) k fa = (
    if k < 8 then
      f_XA_fill8_L5 fw zv n9 (k + 1) (jset fa k zv)
    else
      fa
  : (Int → Int)) := by rw [f_XA_fill8_L5_q]; rfl
theorem f_XA_fill8_L5_z (fw : Int → Int) (zv : Int) (k : Int) (fa : Int → Int) : f_XA_fill8_L5 fw zv 0 k fa = fun _ => 0 := by rw [f_XA_fill8_L5_q]; rfl
noncomputable def g_XA_fill8 (fw : Int → Int) (zv : Int) : (Int → Int) :=
  f_XA_fill8_L5 fw zv (Int.toNat (8 - 0) + 1) 0 fw
noncomputable def f_XA_fill8 : (Int → Int) → Int → (Int → Int) := jopq g_XA_fill8
theorem f_XA_fill8_q : f_XA_fill8 = g_XA_fill8 := jopq_eq _
theorem f_XA_fill8_s (fw : Int → Int) (zv : Int) : f_XA_fill8 fw zv = (
    f_XA_fill8_L5 fw zv (Int.toNat (8 - 0) + 1) 0 fw
  : (Int → Int)) := by rw [f_XA_fill8_q]; rfl
theorem f_XA_fill8_L (fw : Int → Int) (zv : Int) : ∀ (n : Nat) (k : Int) (fa : Int → Int), 8 - k < (n : Int) → 0 ≤ k → k ≤ 8 → f_XA_fill8_L5 fw zv n k fa = fun i => if k ≤ i ∧ i < 8 then zv else fa i := by
  intro n
  induction n with
  | zero => intro k fa h; omega
  | succ n ih =>
    intro k fa h h0 h1
    rw [f_XA_fill8_L5_s]
    split
    · rw [ih _ _ (by omega) (by omega) (by omega)]
      funext i
      unfold jset
      by_cases h : i = k
      · rw [if_neg (by omega), if_pos h, if_pos (by omega)]
      · by_cases h2 : k + 1 ≤ i ∧ i < 8
        · rw [if_pos h2, if_pos (by omega)]
        · rw [if_neg h2, if_neg h, if_neg (by omega)]
    · funext i
      rw [if_neg (by omega)]
theorem f_XA_fill8_eq (fw : Int → Int) (zv : Int) : f_XA_fill8 fw zv = fun i => if 0 ≤ i ∧ i < 8 then zv else fw i := by rw [f_XA_fill8_s]; exact f_XA_fill8_L fw zv _ _ _ (by omega) (by omega) (by omega)
theorem f_XA_fill8_p (P : Int → Prop) (fw : Int → Int) (zv : Int) (hv : P zv) (h : ∀ i, P (fw i)) : ∀ i, P (f_XA_fill8 fw zv i) := by
  intro i
  rw [f_XA_fill8_eq]
  dsimp only
  split
  · exact hv
  · exact h i
set_option maxHeartbeats 4000000 in
set_option maxRecDepth 100000 in
theorem c_XA_fill8 (l : Launch) (dC : Nat → ClassId) (dI : Nat → Nat → Nat) (cA : ClassId) (sz : Nat) (ra : Nat) (fw : Int → Int) (zv : Int) : Met l yXA_fill (Cond.code yXA_fill cXA_fill 4 none :: TBL) ({ frames := 0, cells := 0, slots := 0, locals := 0 } : Room) (va_Pc [.ref ra, .int (jI zv)] (jBw (dC, dI) [(cA, .int)] [(ra, .inl (cA, 8, .inl (jA fw)))] sz)) (va_Qv (fun (u : (Int → Int)) => u = f_XA_fill8 fw zv) (fun u t => jE (dC, dI) [(cA, .int)] [(ra, .inl (cA, 8, .inl (jA fw)))] sz [(ra, .inl (cA, 8, .inl (jA u)))] t) (va_A [(ra, .inl (cA, 8, .inl (jA fw)))] sz)) 0 0 (va_A [(ra, .inl (cA, 8, .inl (jA fw)))] sz) := by
  refine jMet (cc := cXA_fill) (maxL := 4) (ret := none) (by decide) rfl ?_
  intro p e s m args below meth c s₁ R Q hR hQ B hml hv
  obtain ⟨rfl, hsz, hP, hK, hD0, hN⟩ := hv
  have hx := B.exec
  have hb := B.bytes
  have hr := B.returns
  have hts := atoms_spec (ws := Cond.code yXA_fill cXA_fill 4 none :: TBL) B.pre
  have hown : s.vm.findClass RXA = some m.cls := findClass_of_methodNamed B.named
  have hlocks := B.notSynchronized
  subst hsz
  obtain ⟨A, hAe⟩ : ∃ A, A = va_A [(ra, .inl (cA, 8, .inl (jA fw)))] s.heap.size := ⟨_, rfl⟩
  have hD : va_D A [(ra, .inl (cA, 8, .inl (jA fw)))] := by rw [hAe]; exact hD0.self
  have hA : ∀ q : Nat, s.heap.size ≤ q → A q := fun q h => by rw [hAe]; exact Or.inr h
  have hS : va_S A s.heap s.heap [] := va_S.rf
  have hP : va_P (dC, dI) vwCl [(ra, .inl (cA, 8, .inl (jA fw)))] s.heap := hP
  have hl := lv_entry ([.ref ra, .int (jI zv)]) (n := 4) (Nat.le_of_ble_eq_true rfl)
  rw [lg_entry_eq]
  generalize (lg_sl ([.ref ra, .int (jI zv)]) ++ List.replicate (4 - (lg_sl ([.ref ra, .int (jI zv)])).length) Slot.unset).toArray = ls at hl ⊢
  have hl : lv_has ls 4 [(0, .ref ra), (1, .int (jI zv))] := hl
  refine ji_iconst hx hb dXA_fill_0 ?_
  refine lv_istore_n (lv' := [(2, .int (jI 0)), (0, .ref ra), (1, .int (jI zv))]) hx hb dXA_fill_1 rfl hl (by decide) rfl (fun ls hl => ?_)
  refine lv_aload_n hx hb dXA_fill_2 rfl (lv_at hl 1 rfl) ?_
  refine ji_alen (z := 8) hx hb hK hP 0 0 rfl rfl rfl dXA_fill_3 ?_
  refine lv_istore_n (lv' := [(3, .int (jI 8)), (2, .int (jI 0)), (0, .ref ra), (1, .int (jI zv))]) hx hb dXA_fill_4 rfl hl (by decide) rfl (fun ls hl => ?_)
  have loop5 : ∀ (n9 : Nat) (k : Int) (fa : Int → Int) , 8 - k < (n9 : Int) → f_XA_fill8_L5 fw zv n9 k fa = f_XA_fill8 fw zv → (0 ≤ k ∧ k ≤ 8) → ∀ (H : Heap) (locs : List Loc), va_P (dC, dI) vwCl [(ra, .inl (cA, 8, .inl (jA fa)))] H → va_D A [(ra, .inl (cA, 8, .inl (jA fa)))] → va_S A s.heap H locs → ∀ ls : Array Slot, lv_has ls 4 [(3, .int (jI 8)), (2, .int (jI k)), (0, .ref ra), (1, .int (jI zv))] → W p l e R s m ([.ref ra, .int (jI zv)] : List Value).toArray below meth c H locs 0 0 Q (F0 m 5 ls []) := by
    intro n9
    induction n9 with
    | zero =>
      intro k fa hm hF hk
      exact absurd hm (by omega)
    | succ n9 ih5 =>
      intro k fa hm hF hk H locs hP hD hS ls hl
      refine lv_iload_n hx hb dXA_fill_5 rfl (lv_at hl 1 rfl) ?_
      refine lv_iload_n hx hb dXA_fill_6 rfl (lv_at hl 0 rfl) ?_
      refine ji_icmp_ge (tgt := 20) hx hb dXA_fill_7 (by decide) (by omega) (by omega) (fun c7_ => ?_) (fun c7_ => ?_)
      · have hP9 := hP.sub (ws' := [(ra, .inl (cA, 8, .inl (jA fa)))]) [0] rfl
        have hD9 := hD.sub (ws' := [(ra, .inl (cA, 8, .inl (jA fa)))]) [0] (by decide) rfl
        subst hAe
        subst hQ
        exact W.vret hx hb hr (fun t ht hW => ⟨⟨fa, rfl, Eq.trans (by rw [f_XA_fill8_L5_s]; rw [if_neg (Int.not_lt.mpr c7_)]; try rfl) hF, ⟨by rw [ht]; exact hP9, va_K.moved hW.alike hK, hD9⟩⟩, hS.F ht⟩) hS.2.2 dXA_fill_20
      · refine lv_aload_n hx hb dXA_fill_10 rfl (lv_at hl 2 rfl) ?_
        refine lv_iload_n hx hb dXA_fill_11 rfl (lv_at hl 1 rfl) ?_
        refine lv_iload_n hx hb dXA_fill_12 rfl (lv_at hl 3 rfl) ?_
        refine ji_iast hx hb hK hP hD hS 0 0 rfl rfl ⟨by omega, by omega⟩ (by decide) dXA_fill_13 (fun H locs hP hD hS => ?_)
        have hP : va_P (dC, dI) vwCl [(ra, .inl (cA, 8, .inl (jA (jset fa k zv))))] H := hP
        have hD : va_D A [(ra, .inl (cA, 8, .inl (jA (jset fa k zv))))] := hD
        refine ji_iinc (k := 1) (lv' := [(2, .int (jI (k + 1))), (3, .int (jI 8)), (0, .ref ra), (1, .int (jI zv))]) hx hb dXA_fill_14 hl rfl (by decide) rfl (fun ls hl => ?_)
        refine lv_goto (tgt := 5) hx hb dXA_fill_17 (by decide) ?_
        exact ih5 (k + 1) (jset fa k zv) (by omega) (Eq.trans (by rw [f_XA_fill8_L5_s]; rw [if_pos c7_]; try rfl) hF) (by first | assumption | omega) _ _ hP hD hS ls (lv_sub hl [1, 0, 2, 3] rfl)
  exact loop5 (Int.toNat (8 - 0) + 1) 0 fw (by omega) (Eq.trans (by rw [f_XA_fill8_s]; try rfl) rfl) (by first | assumption | omega) _ _ hP hD hS ls (lv_sub hl [0, 1, 2, 3] rfl)
noncomputable def g_XA_fill31_L5 (fw : Int → Int) (zv : Int) : Nat → Int → (Int → Int) → (Int → Int)
  | 0, _, _ => fun _ => 0
  | n9 + 1, k, fa =>
    if k < 31 then
      g_XA_fill31_L5 fw zv n9 (k + 1) (jset fa k zv)
    else
      fa
noncomputable def f_XA_fill31_L5 : (Int → Int) → Int → Nat → Int → (Int → Int) → (Int → Int) := jopq g_XA_fill31_L5
theorem f_XA_fill31_L5_q : f_XA_fill31_L5 = g_XA_fill31_L5 := jopq_eq _
theorem f_XA_fill31_L5_s (fw : Int → Int) (zv : Int) (n9 : Nat) (k : Int) (fa : Int → Int) : f_XA_fill31_L5 fw zv (n9 + 1) k fa = (
    if k < 31 then
      f_XA_fill31_L5 fw zv n9 (k + 1) (jset fa k zv)
    else
      fa
  : (Int → Int)) := by rw [f_XA_fill31_L5_q]; rfl
theorem f_XA_fill31_L5_z (fw : Int → Int) (zv : Int) (k : Int) (fa : Int → Int) : f_XA_fill31_L5 fw zv 0 k fa = fun _ => 0 := by rw [f_XA_fill31_L5_q]; rfl
noncomputable def g_XA_fill31 (fw : Int → Int) (zv : Int) : (Int → Int) :=
  f_XA_fill31_L5 fw zv (Int.toNat (31 - 0) + 1) 0 fw
noncomputable def f_XA_fill31 : (Int → Int) → Int → (Int → Int) := jopq g_XA_fill31
theorem f_XA_fill31_q : f_XA_fill31 = g_XA_fill31 := jopq_eq _
theorem f_XA_fill31_s (fw : Int → Int) (zv : Int) : f_XA_fill31 fw zv = (
    f_XA_fill31_L5 fw zv (Int.toNat (31 - 0) + 1) 0 fw
  : (Int → Int)) := by rw [f_XA_fill31_q]; rfl
theorem f_XA_fill31_L (fw : Int → Int) (zv : Int) : ∀ (n : Nat) (k : Int) (fa : Int → Int), 31 - k < (n : Int) → 0 ≤ k → k ≤ 31 → f_XA_fill31_L5 fw zv n k fa = fun i => if k ≤ i ∧ i < 31 then zv else fa i := by
  intro n
  induction n with
  | zero => intro k fa h; omega
  | succ n ih =>
    intro k fa h h0 h1
    rw [f_XA_fill31_L5_s]
    split
    · rw [ih _ _ (by omega) (by omega) (by omega)]
      funext i
      unfold jset
      by_cases h : i = k
      · rw [if_neg (by omega), if_pos h, if_pos (by omega)]
      · by_cases h2 : k + 1 ≤ i ∧ i < 31
        · rw [if_pos h2, if_pos (by omega)]
        · rw [if_neg h2, if_neg h, if_neg (by omega)]
    · funext i
      rw [if_neg (by omega)]
theorem f_XA_fill31_eq (fw : Int → Int) (zv : Int) : f_XA_fill31 fw zv = fun i => if 0 ≤ i ∧ i < 31 then zv else fw i := by rw [f_XA_fill31_s]; exact f_XA_fill31_L fw zv _ _ _ (by omega) (by omega) (by omega)
theorem f_XA_fill31_p (P : Int → Prop) (fw : Int → Int) (zv : Int) (hv : P zv) (h : ∀ i, P (fw i)) : ∀ i, P (f_XA_fill31 fw zv i) := by
  intro i
  rw [f_XA_fill31_eq]
  dsimp only
  split
  · exact hv
  · exact h i
set_option maxHeartbeats 4000000 in
set_option maxRecDepth 100000 in
theorem c_XA_fill31 (l : Launch) (dC : Nat → ClassId) (dI : Nat → Nat → Nat) (cA : ClassId) (sz : Nat) (ra : Nat) (fw : Int → Int) (zv : Int) : Met l yXA_fill (Cond.code yXA_fill cXA_fill 4 none :: TBL) ({ frames := 0, cells := 0, slots := 0, locals := 0 } : Room) (va_Pc [.ref ra, .int (jI zv)] (jBw (dC, dI) [(cA, .int)] [(ra, .inl (cA, 31, .inl (jA fw)))] sz)) (va_Qv (fun (u : (Int → Int)) => u = f_XA_fill31 fw zv) (fun u t => jE (dC, dI) [(cA, .int)] [(ra, .inl (cA, 31, .inl (jA fw)))] sz [(ra, .inl (cA, 31, .inl (jA u)))] t) (va_A [(ra, .inl (cA, 31, .inl (jA fw)))] sz)) 0 0 (va_A [(ra, .inl (cA, 31, .inl (jA fw)))] sz) := by
  refine jMet (cc := cXA_fill) (maxL := 4) (ret := none) (by decide) rfl ?_
  intro p e s m args below meth c s₁ R Q hR hQ B hml hv
  obtain ⟨rfl, hsz, hP, hK, hD0, hN⟩ := hv
  have hx := B.exec
  have hb := B.bytes
  have hr := B.returns
  have hts := atoms_spec (ws := Cond.code yXA_fill cXA_fill 4 none :: TBL) B.pre
  have hown : s.vm.findClass RXA = some m.cls := findClass_of_methodNamed B.named
  have hlocks := B.notSynchronized
  subst hsz
  obtain ⟨A, hAe⟩ : ∃ A, A = va_A [(ra, .inl (cA, 31, .inl (jA fw)))] s.heap.size := ⟨_, rfl⟩
  have hD : va_D A [(ra, .inl (cA, 31, .inl (jA fw)))] := by rw [hAe]; exact hD0.self
  have hA : ∀ q : Nat, s.heap.size ≤ q → A q := fun q h => by rw [hAe]; exact Or.inr h
  have hS : va_S A s.heap s.heap [] := va_S.rf
  have hP : va_P (dC, dI) vwCl [(ra, .inl (cA, 31, .inl (jA fw)))] s.heap := hP
  have hl := lv_entry ([.ref ra, .int (jI zv)]) (n := 4) (Nat.le_of_ble_eq_true rfl)
  rw [lg_entry_eq]
  generalize (lg_sl ([.ref ra, .int (jI zv)]) ++ List.replicate (4 - (lg_sl ([.ref ra, .int (jI zv)])).length) Slot.unset).toArray = ls at hl ⊢
  have hl : lv_has ls 4 [(0, .ref ra), (1, .int (jI zv))] := hl
  refine ji_iconst hx hb dXA_fill_0 ?_
  refine lv_istore_n (lv' := [(2, .int (jI 0)), (0, .ref ra), (1, .int (jI zv))]) hx hb dXA_fill_1 rfl hl (by decide) rfl (fun ls hl => ?_)
  refine lv_aload_n hx hb dXA_fill_2 rfl (lv_at hl 1 rfl) ?_
  refine ji_alen (z := 31) hx hb hK hP 0 0 rfl rfl rfl dXA_fill_3 ?_
  refine lv_istore_n (lv' := [(3, .int (jI 31)), (2, .int (jI 0)), (0, .ref ra), (1, .int (jI zv))]) hx hb dXA_fill_4 rfl hl (by decide) rfl (fun ls hl => ?_)
  have loop5 : ∀ (n9 : Nat) (k : Int) (fa : Int → Int) , 31 - k < (n9 : Int) → f_XA_fill31_L5 fw zv n9 k fa = f_XA_fill31 fw zv → (0 ≤ k ∧ k ≤ 31) → ∀ (H : Heap) (locs : List Loc), va_P (dC, dI) vwCl [(ra, .inl (cA, 31, .inl (jA fa)))] H → va_D A [(ra, .inl (cA, 31, .inl (jA fa)))] → va_S A s.heap H locs → ∀ ls : Array Slot, lv_has ls 4 [(3, .int (jI 31)), (2, .int (jI k)), (0, .ref ra), (1, .int (jI zv))] → W p l e R s m ([.ref ra, .int (jI zv)] : List Value).toArray below meth c H locs 0 0 Q (F0 m 5 ls []) := by
    intro n9
    induction n9 with
    | zero =>
      intro k fa hm hF hk
      exact absurd hm (by omega)
    | succ n9 ih5 =>
      intro k fa hm hF hk H locs hP hD hS ls hl
      refine lv_iload_n hx hb dXA_fill_5 rfl (lv_at hl 1 rfl) ?_
      refine lv_iload_n hx hb dXA_fill_6 rfl (lv_at hl 0 rfl) ?_
      refine ji_icmp_ge (tgt := 20) hx hb dXA_fill_7 (by decide) (by omega) (by omega) (fun c7_ => ?_) (fun c7_ => ?_)
      · have hP9 := hP.sub (ws' := [(ra, .inl (cA, 31, .inl (jA fa)))]) [0] rfl
        have hD9 := hD.sub (ws' := [(ra, .inl (cA, 31, .inl (jA fa)))]) [0] (by decide) rfl
        subst hAe
        subst hQ
        exact W.vret hx hb hr (fun t ht hW => ⟨⟨fa, rfl, Eq.trans (by rw [f_XA_fill31_L5_s]; rw [if_neg (Int.not_lt.mpr c7_)]; try rfl) hF, ⟨by rw [ht]; exact hP9, va_K.moved hW.alike hK, hD9⟩⟩, hS.F ht⟩) hS.2.2 dXA_fill_20
      · refine lv_aload_n hx hb dXA_fill_10 rfl (lv_at hl 2 rfl) ?_
        refine lv_iload_n hx hb dXA_fill_11 rfl (lv_at hl 1 rfl) ?_
        refine lv_iload_n hx hb dXA_fill_12 rfl (lv_at hl 3 rfl) ?_
        refine ji_iast hx hb hK hP hD hS 0 0 rfl rfl ⟨by omega, by omega⟩ (by decide) dXA_fill_13 (fun H locs hP hD hS => ?_)
        have hP : va_P (dC, dI) vwCl [(ra, .inl (cA, 31, .inl (jA (jset fa k zv))))] H := hP
        have hD : va_D A [(ra, .inl (cA, 31, .inl (jA (jset fa k zv))))] := hD
        refine ji_iinc (k := 1) (lv' := [(2, .int (jI (k + 1))), (3, .int (jI 31)), (0, .ref ra), (1, .int (jI zv))]) hx hb dXA_fill_14 hl rfl (by decide) rfl (fun ls hl => ?_)
        refine lv_goto (tgt := 5) hx hb dXA_fill_17 (by decide) ?_
        exact ih5 (k + 1) (jset fa k zv) (by omega) (Eq.trans (by rw [f_XA_fill31_L5_s]; rw [if_pos c7_]; try rfl) hF) (by first | assumption | omega) _ _ hP hD hS ls (lv_sub hl [1, 0, 2, 3] rfl)
  exact loop5 (Int.toNat (31 - 0) + 1) 0 fw (by omega) (Eq.trans (by rw [f_XA_fill31_s]; try rfl) rfl) (by first | assumption | omega) _ _ hP hD hS ls (lv_sub hl [0, 1, 2, 3] rfl)
noncomputable def g_XA_fill32_L5 (fw : Int → Int) (zv : Int) : Nat → Int → (Int → Int) → (Int → Int)
  | 0, _, _ => fun _ => 0
  | n9 + 1, k, fa =>
    if k < 32 then
      g_XA_fill32_L5 fw zv n9 (k + 1) (jset fa k zv)
    else
      fa
noncomputable def f_XA_fill32_L5 : (Int → Int) → Int → Nat → Int → (Int → Int) → (Int → Int) := jopq g_XA_fill32_L5
theorem f_XA_fill32_L5_q : f_XA_fill32_L5 = g_XA_fill32_L5 := jopq_eq _
theorem f_XA_fill32_L5_s (fw : Int → Int) (zv : Int) (n9 : Nat) (k : Int) (fa : Int → Int) : f_XA_fill32_L5 fw zv (n9 + 1) k fa = (
    if k < 32 then
      f_XA_fill32_L5 fw zv n9 (k + 1) (jset fa k zv)
    else
      fa
  : (Int → Int)) := by rw [f_XA_fill32_L5_q]; rfl
theorem f_XA_fill32_L5_z (fw : Int → Int) (zv : Int) (k : Int) (fa : Int → Int) : f_XA_fill32_L5 fw zv 0 k fa = fun _ => 0 := by rw [f_XA_fill32_L5_q]; rfl
noncomputable def g_XA_fill32 (fw : Int → Int) (zv : Int) : (Int → Int) :=
  f_XA_fill32_L5 fw zv (Int.toNat (32 - 0) + 1) 0 fw
noncomputable def f_XA_fill32 : (Int → Int) → Int → (Int → Int) := jopq g_XA_fill32
theorem f_XA_fill32_q : f_XA_fill32 = g_XA_fill32 := jopq_eq _
theorem f_XA_fill32_s (fw : Int → Int) (zv : Int) : f_XA_fill32 fw zv = (
    f_XA_fill32_L5 fw zv (Int.toNat (32 - 0) + 1) 0 fw
  : (Int → Int)) := by rw [f_XA_fill32_q]; rfl
theorem f_XA_fill32_L (fw : Int → Int) (zv : Int) : ∀ (n : Nat) (k : Int) (fa : Int → Int), 32 - k < (n : Int) → 0 ≤ k → k ≤ 32 → f_XA_fill32_L5 fw zv n k fa = fun i => if k ≤ i ∧ i < 32 then zv else fa i := by
  intro n
  induction n with
  | zero => intro k fa h; omega
  | succ n ih =>
    intro k fa h h0 h1
    rw [f_XA_fill32_L5_s]
    split
    · rw [ih _ _ (by omega) (by omega) (by omega)]
      funext i
      unfold jset
      by_cases h : i = k
      · rw [if_neg (by omega), if_pos h, if_pos (by omega)]
      · by_cases h2 : k + 1 ≤ i ∧ i < 32
        · rw [if_pos h2, if_pos (by omega)]
        · rw [if_neg h2, if_neg h, if_neg (by omega)]
    · funext i
      rw [if_neg (by omega)]
theorem f_XA_fill32_eq (fw : Int → Int) (zv : Int) : f_XA_fill32 fw zv = fun i => if 0 ≤ i ∧ i < 32 then zv else fw i := by rw [f_XA_fill32_s]; exact f_XA_fill32_L fw zv _ _ _ (by omega) (by omega) (by omega)
theorem f_XA_fill32_p (P : Int → Prop) (fw : Int → Int) (zv : Int) (hv : P zv) (h : ∀ i, P (fw i)) : ∀ i, P (f_XA_fill32 fw zv i) := by
  intro i
  rw [f_XA_fill32_eq]
  dsimp only
  split
  · exact hv
  · exact h i
set_option maxHeartbeats 4000000 in
set_option maxRecDepth 100000 in
theorem c_XA_fill32 (l : Launch) (dC : Nat → ClassId) (dI : Nat → Nat → Nat) (cA : ClassId) (sz : Nat) (ra : Nat) (fw : Int → Int) (zv : Int) : Met l yXA_fill (Cond.code yXA_fill cXA_fill 4 none :: TBL) ({ frames := 0, cells := 0, slots := 0, locals := 0 } : Room) (va_Pc [.ref ra, .int (jI zv)] (jBw (dC, dI) [(cA, .int)] [(ra, .inl (cA, 32, .inl (jA fw)))] sz)) (va_Qv (fun (u : (Int → Int)) => u = f_XA_fill32 fw zv) (fun u t => jE (dC, dI) [(cA, .int)] [(ra, .inl (cA, 32, .inl (jA fw)))] sz [(ra, .inl (cA, 32, .inl (jA u)))] t) (va_A [(ra, .inl (cA, 32, .inl (jA fw)))] sz)) 0 0 (va_A [(ra, .inl (cA, 32, .inl (jA fw)))] sz) := by
  refine jMet (cc := cXA_fill) (maxL := 4) (ret := none) (by decide) rfl ?_
  intro p e s m args below meth c s₁ R Q hR hQ B hml hv
  obtain ⟨rfl, hsz, hP, hK, hD0, hN⟩ := hv
  have hx := B.exec
  have hb := B.bytes
  have hr := B.returns
  have hts := atoms_spec (ws := Cond.code yXA_fill cXA_fill 4 none :: TBL) B.pre
  have hown : s.vm.findClass RXA = some m.cls := findClass_of_methodNamed B.named
  have hlocks := B.notSynchronized
  subst hsz
  obtain ⟨A, hAe⟩ : ∃ A, A = va_A [(ra, .inl (cA, 32, .inl (jA fw)))] s.heap.size := ⟨_, rfl⟩
  have hD : va_D A [(ra, .inl (cA, 32, .inl (jA fw)))] := by rw [hAe]; exact hD0.self
  have hA : ∀ q : Nat, s.heap.size ≤ q → A q := fun q h => by rw [hAe]; exact Or.inr h
  have hS : va_S A s.heap s.heap [] := va_S.rf
  have hP : va_P (dC, dI) vwCl [(ra, .inl (cA, 32, .inl (jA fw)))] s.heap := hP
  have hl := lv_entry ([.ref ra, .int (jI zv)]) (n := 4) (Nat.le_of_ble_eq_true rfl)
  rw [lg_entry_eq]
  generalize (lg_sl ([.ref ra, .int (jI zv)]) ++ List.replicate (4 - (lg_sl ([.ref ra, .int (jI zv)])).length) Slot.unset).toArray = ls at hl ⊢
  have hl : lv_has ls 4 [(0, .ref ra), (1, .int (jI zv))] := hl
  refine ji_iconst hx hb dXA_fill_0 ?_
  refine lv_istore_n (lv' := [(2, .int (jI 0)), (0, .ref ra), (1, .int (jI zv))]) hx hb dXA_fill_1 rfl hl (by decide) rfl (fun ls hl => ?_)
  refine lv_aload_n hx hb dXA_fill_2 rfl (lv_at hl 1 rfl) ?_
  refine ji_alen (z := 32) hx hb hK hP 0 0 rfl rfl rfl dXA_fill_3 ?_
  refine lv_istore_n (lv' := [(3, .int (jI 32)), (2, .int (jI 0)), (0, .ref ra), (1, .int (jI zv))]) hx hb dXA_fill_4 rfl hl (by decide) rfl (fun ls hl => ?_)
  have loop5 : ∀ (n9 : Nat) (k : Int) (fa : Int → Int) , 32 - k < (n9 : Int) → f_XA_fill32_L5 fw zv n9 k fa = f_XA_fill32 fw zv → (0 ≤ k ∧ k ≤ 32) → ∀ (H : Heap) (locs : List Loc), va_P (dC, dI) vwCl [(ra, .inl (cA, 32, .inl (jA fa)))] H → va_D A [(ra, .inl (cA, 32, .inl (jA fa)))] → va_S A s.heap H locs → ∀ ls : Array Slot, lv_has ls 4 [(3, .int (jI 32)), (2, .int (jI k)), (0, .ref ra), (1, .int (jI zv))] → W p l e R s m ([.ref ra, .int (jI zv)] : List Value).toArray below meth c H locs 0 0 Q (F0 m 5 ls []) := by
    intro n9
    induction n9 with
    | zero =>
      intro k fa hm hF hk
      exact absurd hm (by omega)
    | succ n9 ih5 =>
      intro k fa hm hF hk H locs hP hD hS ls hl
      refine lv_iload_n hx hb dXA_fill_5 rfl (lv_at hl 1 rfl) ?_
      refine lv_iload_n hx hb dXA_fill_6 rfl (lv_at hl 0 rfl) ?_
      refine ji_icmp_ge (tgt := 20) hx hb dXA_fill_7 (by decide) (by omega) (by omega) (fun c7_ => ?_) (fun c7_ => ?_)
      · have hP9 := hP.sub (ws' := [(ra, .inl (cA, 32, .inl (jA fa)))]) [0] rfl
        have hD9 := hD.sub (ws' := [(ra, .inl (cA, 32, .inl (jA fa)))]) [0] (by decide) rfl
        subst hAe
        subst hQ
        exact W.vret hx hb hr (fun t ht hW => ⟨⟨fa, rfl, Eq.trans (by rw [f_XA_fill32_L5_s]; rw [if_neg (Int.not_lt.mpr c7_)]; try rfl) hF, ⟨by rw [ht]; exact hP9, va_K.moved hW.alike hK, hD9⟩⟩, hS.F ht⟩) hS.2.2 dXA_fill_20
      · refine lv_aload_n hx hb dXA_fill_10 rfl (lv_at hl 2 rfl) ?_
        refine lv_iload_n hx hb dXA_fill_11 rfl (lv_at hl 1 rfl) ?_
        refine lv_iload_n hx hb dXA_fill_12 rfl (lv_at hl 3 rfl) ?_
        refine ji_iast hx hb hK hP hD hS 0 0 rfl rfl ⟨by omega, by omega⟩ (by decide) dXA_fill_13 (fun H locs hP hD hS => ?_)
        have hP : va_P (dC, dI) vwCl [(ra, .inl (cA, 32, .inl (jA (jset fa k zv))))] H := hP
        have hD : va_D A [(ra, .inl (cA, 32, .inl (jA (jset fa k zv))))] := hD
        refine ji_iinc (k := 1) (lv' := [(2, .int (jI (k + 1))), (3, .int (jI 32)), (0, .ref ra), (1, .int (jI zv))]) hx hb dXA_fill_14 hl rfl (by decide) rfl (fun ls hl => ?_)
        refine lv_goto (tgt := 5) hx hb dXA_fill_17 (by decide) ?_
        exact ih5 (k + 1) (jset fa k zv) (by omega) (Eq.trans (by rw [f_XA_fill32_L5_s]; rw [if_pos c7_]; try rfl) hF) (by first | assumption | omega) _ _ hP hD hS ls (lv_sub hl [1, 0, 2, 3] rfl)
  exact loop5 (Int.toNat (32 - 0) + 1) 0 fw (by omega) (Eq.trans (by rw [f_XA_fill32_s]; try rfl) rfl) (by first | assumption | omega) _ _ hP hD hS ls (lv_sub hl [0, 1, 2, 3] rfl)
noncomputable def g_XA_fill124_L5 (fw : Int → Int) (zv : Int) : Nat → Int → (Int → Int) → (Int → Int)
  | 0, _, _ => fun _ => 0
  | n9 + 1, k, fa =>
    if k < 124 then
      g_XA_fill124_L5 fw zv n9 (k + 1) (jset fa k zv)
    else
      fa
noncomputable def f_XA_fill124_L5 : (Int → Int) → Int → Nat → Int → (Int → Int) → (Int → Int) := jopq g_XA_fill124_L5
theorem f_XA_fill124_L5_q : f_XA_fill124_L5 = g_XA_fill124_L5 := jopq_eq _
theorem f_XA_fill124_L5_s (fw : Int → Int) (zv : Int) (n9 : Nat) (k : Int) (fa : Int → Int) : f_XA_fill124_L5 fw zv (n9 + 1) k fa = (
    if k < 124 then
      f_XA_fill124_L5 fw zv n9 (k + 1) (jset fa k zv)
    else
      fa
  : (Int → Int)) := by rw [f_XA_fill124_L5_q]; rfl
theorem f_XA_fill124_L5_z (fw : Int → Int) (zv : Int) (k : Int) (fa : Int → Int) : f_XA_fill124_L5 fw zv 0 k fa = fun _ => 0 := by rw [f_XA_fill124_L5_q]; rfl
noncomputable def g_XA_fill124 (fw : Int → Int) (zv : Int) : (Int → Int) :=
  f_XA_fill124_L5 fw zv (Int.toNat (124 - 0) + 1) 0 fw
noncomputable def f_XA_fill124 : (Int → Int) → Int → (Int → Int) := jopq g_XA_fill124
theorem f_XA_fill124_q : f_XA_fill124 = g_XA_fill124 := jopq_eq _
theorem f_XA_fill124_s (fw : Int → Int) (zv : Int) : f_XA_fill124 fw zv = (
    f_XA_fill124_L5 fw zv (Int.toNat (124 - 0) + 1) 0 fw
  : (Int → Int)) := by rw [f_XA_fill124_q]; rfl
theorem f_XA_fill124_L (fw : Int → Int) (zv : Int) : ∀ (n : Nat) (k : Int) (fa : Int → Int), 124 - k < (n : Int) → 0 ≤ k → k ≤ 124 → f_XA_fill124_L5 fw zv n k fa = fun i => if k ≤ i ∧ i < 124 then zv else fa i := by
  intro n
  induction n with
  | zero => intro k fa h; omega
  | succ n ih =>
    intro k fa h h0 h1
    rw [f_XA_fill124_L5_s]
    split
    · rw [ih _ _ (by omega) (by omega) (by omega)]
      funext i
      unfold jset
      by_cases h : i = k
      · rw [if_neg (by omega), if_pos h, if_pos (by omega)]
      · by_cases h2 : k + 1 ≤ i ∧ i < 124
        · rw [if_pos h2, if_pos (by omega)]
        · rw [if_neg h2, if_neg h, if_neg (by omega)]
    · funext i
      rw [if_neg (by omega)]
theorem f_XA_fill124_eq (fw : Int → Int) (zv : Int) : f_XA_fill124 fw zv = fun i => if 0 ≤ i ∧ i < 124 then zv else fw i := by rw [f_XA_fill124_s]; exact f_XA_fill124_L fw zv _ _ _ (by omega) (by omega) (by omega)
theorem f_XA_fill124_p (P : Int → Prop) (fw : Int → Int) (zv : Int) (hv : P zv) (h : ∀ i, P (fw i)) : ∀ i, P (f_XA_fill124 fw zv i) := by
  intro i
  rw [f_XA_fill124_eq]
  dsimp only
  split
  · exact hv
  · exact h i
set_option maxHeartbeats 4000000 in
set_option maxRecDepth 100000 in
theorem c_XA_fill124 (l : Launch) (dC : Nat → ClassId) (dI : Nat → Nat → Nat) (cA : ClassId) (sz : Nat) (ra : Nat) (fw : Int → Int) (zv : Int) : Met l yXA_fill (Cond.code yXA_fill cXA_fill 4 none :: TBL) ({ frames := 0, cells := 0, slots := 0, locals := 0 } : Room) (va_Pc [.ref ra, .int (jI zv)] (jBw (dC, dI) [(cA, .int)] [(ra, .inl (cA, 124, .inl (jA fw)))] sz)) (va_Qv (fun (u : (Int → Int)) => u = f_XA_fill124 fw zv) (fun u t => jE (dC, dI) [(cA, .int)] [(ra, .inl (cA, 124, .inl (jA fw)))] sz [(ra, .inl (cA, 124, .inl (jA u)))] t) (va_A [(ra, .inl (cA, 124, .inl (jA fw)))] sz)) 0 0 (va_A [(ra, .inl (cA, 124, .inl (jA fw)))] sz) := by
  refine jMet (cc := cXA_fill) (maxL := 4) (ret := none) (by decide) rfl ?_
  intro p e s m args below meth c s₁ R Q hR hQ B hml hv
  obtain ⟨rfl, hsz, hP, hK, hD0, hN⟩ := hv
  have hx := B.exec
  have hb := B.bytes
  have hr := B.returns
  have hts := atoms_spec (ws := Cond.code yXA_fill cXA_fill 4 none :: TBL) B.pre
  have hown : s.vm.findClass RXA = some m.cls := findClass_of_methodNamed B.named
  have hlocks := B.notSynchronized
  subst hsz
  obtain ⟨A, hAe⟩ : ∃ A, A = va_A [(ra, .inl (cA, 124, .inl (jA fw)))] s.heap.size := ⟨_, rfl⟩
  have hD : va_D A [(ra, .inl (cA, 124, .inl (jA fw)))] := by rw [hAe]; exact hD0.self
  have hA : ∀ q : Nat, s.heap.size ≤ q → A q := fun q h => by rw [hAe]; exact Or.inr h
  have hS : va_S A s.heap s.heap [] := va_S.rf
  have hP : va_P (dC, dI) vwCl [(ra, .inl (cA, 124, .inl (jA fw)))] s.heap := hP
  have hl := lv_entry ([.ref ra, .int (jI zv)]) (n := 4) (Nat.le_of_ble_eq_true rfl)
  rw [lg_entry_eq]
  generalize (lg_sl ([.ref ra, .int (jI zv)]) ++ List.replicate (4 - (lg_sl ([.ref ra, .int (jI zv)])).length) Slot.unset).toArray = ls at hl ⊢
  have hl : lv_has ls 4 [(0, .ref ra), (1, .int (jI zv))] := hl
  refine ji_iconst hx hb dXA_fill_0 ?_
  refine lv_istore_n (lv' := [(2, .int (jI 0)), (0, .ref ra), (1, .int (jI zv))]) hx hb dXA_fill_1 rfl hl (by decide) rfl (fun ls hl => ?_)
  refine lv_aload_n hx hb dXA_fill_2 rfl (lv_at hl 1 rfl) ?_
  refine ji_alen (z := 124) hx hb hK hP 0 0 rfl rfl rfl dXA_fill_3 ?_
  refine lv_istore_n (lv' := [(3, .int (jI 124)), (2, .int (jI 0)), (0, .ref ra), (1, .int (jI zv))]) hx hb dXA_fill_4 rfl hl (by decide) rfl (fun ls hl => ?_)
  have loop5 : ∀ (n9 : Nat) (k : Int) (fa : Int → Int) , 124 - k < (n9 : Int) → f_XA_fill124_L5 fw zv n9 k fa = f_XA_fill124 fw zv → (0 ≤ k ∧ k ≤ 124) → ∀ (H : Heap) (locs : List Loc), va_P (dC, dI) vwCl [(ra, .inl (cA, 124, .inl (jA fa)))] H → va_D A [(ra, .inl (cA, 124, .inl (jA fa)))] → va_S A s.heap H locs → ∀ ls : Array Slot, lv_has ls 4 [(3, .int (jI 124)), (2, .int (jI k)), (0, .ref ra), (1, .int (jI zv))] → W p l e R s m ([.ref ra, .int (jI zv)] : List Value).toArray below meth c H locs 0 0 Q (F0 m 5 ls []) := by
    intro n9
    induction n9 with
    | zero =>
      intro k fa hm hF hk
      exact absurd hm (by omega)
    | succ n9 ih5 =>
      intro k fa hm hF hk H locs hP hD hS ls hl
      refine lv_iload_n hx hb dXA_fill_5 rfl (lv_at hl 1 rfl) ?_
      refine lv_iload_n hx hb dXA_fill_6 rfl (lv_at hl 0 rfl) ?_
      refine ji_icmp_ge (tgt := 20) hx hb dXA_fill_7 (by decide) (by omega) (by omega) (fun c7_ => ?_) (fun c7_ => ?_)
      · have hP9 := hP.sub (ws' := [(ra, .inl (cA, 124, .inl (jA fa)))]) [0] rfl
        have hD9 := hD.sub (ws' := [(ra, .inl (cA, 124, .inl (jA fa)))]) [0] (by decide) rfl
        subst hAe
        subst hQ
        exact W.vret hx hb hr (fun t ht hW => ⟨⟨fa, rfl, Eq.trans (by rw [f_XA_fill124_L5_s]; rw [if_neg (Int.not_lt.mpr c7_)]; try rfl) hF, ⟨by rw [ht]; exact hP9, va_K.moved hW.alike hK, hD9⟩⟩, hS.F ht⟩) hS.2.2 dXA_fill_20
      · refine lv_aload_n hx hb dXA_fill_10 rfl (lv_at hl 2 rfl) ?_
        refine lv_iload_n hx hb dXA_fill_11 rfl (lv_at hl 1 rfl) ?_
        refine lv_iload_n hx hb dXA_fill_12 rfl (lv_at hl 3 rfl) ?_
        refine ji_iast hx hb hK hP hD hS 0 0 rfl rfl ⟨by omega, by omega⟩ (by decide) dXA_fill_13 (fun H locs hP hD hS => ?_)
        have hP : va_P (dC, dI) vwCl [(ra, .inl (cA, 124, .inl (jA (jset fa k zv))))] H := hP
        have hD : va_D A [(ra, .inl (cA, 124, .inl (jA (jset fa k zv))))] := hD
        refine ji_iinc (k := 1) (lv' := [(2, .int (jI (k + 1))), (3, .int (jI 124)), (0, .ref ra), (1, .int (jI zv))]) hx hb dXA_fill_14 hl rfl (by decide) rfl (fun ls hl => ?_)
        refine lv_goto (tgt := 5) hx hb dXA_fill_17 (by decide) ?_
        exact ih5 (k + 1) (jset fa k zv) (by omega) (Eq.trans (by rw [f_XA_fill124_L5_s]; rw [if_pos c7_]; try rfl) hF) (by first | assumption | omega) _ _ hP hD hS ls (lv_sub hl [1, 0, 2, 3] rfl)
  exact loop5 (Int.toNat (124 - 0) + 1) 0 fw (by omega) (Eq.trans (by rw [f_XA_fill124_s]; try rfl) rfl) (by first | assumption | omega) _ _ hP hD hS ls (lv_sub hl [0, 1, 2, 3] rfl)
noncomputable def g_XA_fill248_L5 (fw : Int → Int) (zv : Int) : Nat → Int → (Int → Int) → (Int → Int)
  | 0, _, _ => fun _ => 0
  | n9 + 1, k, fa =>
    if k < 248 then
      g_XA_fill248_L5 fw zv n9 (k + 1) (jset fa k zv)
    else
      fa
noncomputable def f_XA_fill248_L5 : (Int → Int) → Int → Nat → Int → (Int → Int) → (Int → Int) := jopq g_XA_fill248_L5
theorem f_XA_fill248_L5_q : f_XA_fill248_L5 = g_XA_fill248_L5 := jopq_eq _
theorem f_XA_fill248_L5_s (fw : Int → Int) (zv : Int) (n9 : Nat) (k : Int) (fa : Int → Int) : f_XA_fill248_L5 fw zv (n9 + 1) k fa = (
    if k < 248 then
      f_XA_fill248_L5 fw zv n9 (k + 1) (jset fa k zv)
    else
      fa
  : (Int → Int)) := by rw [f_XA_fill248_L5_q]; rfl
theorem f_XA_fill248_L5_z (fw : Int → Int) (zv : Int) (k : Int) (fa : Int → Int) : f_XA_fill248_L5 fw zv 0 k fa = fun _ => 0 := by rw [f_XA_fill248_L5_q]; rfl
noncomputable def g_XA_fill248 (fw : Int → Int) (zv : Int) : (Int → Int) :=
  f_XA_fill248_L5 fw zv (Int.toNat (248 - 0) + 1) 0 fw
noncomputable def f_XA_fill248 : (Int → Int) → Int → (Int → Int) := jopq g_XA_fill248
theorem f_XA_fill248_q : f_XA_fill248 = g_XA_fill248 := jopq_eq _
theorem f_XA_fill248_s (fw : Int → Int) (zv : Int) : f_XA_fill248 fw zv = (
    f_XA_fill248_L5 fw zv (Int.toNat (248 - 0) + 1) 0 fw
  : (Int → Int)) := by rw [f_XA_fill248_q]; rfl
theorem f_XA_fill248_L (fw : Int → Int) (zv : Int) : ∀ (n : Nat) (k : Int) (fa : Int → Int), 248 - k < (n : Int) → 0 ≤ k → k ≤ 248 → f_XA_fill248_L5 fw zv n k fa = fun i => if k ≤ i ∧ i < 248 then zv else fa i := by
  intro n
  induction n with
  | zero => intro k fa h; omega
  | succ n ih =>
    intro k fa h h0 h1
    rw [f_XA_fill248_L5_s]
    split
    · rw [ih _ _ (by omega) (by omega) (by omega)]
      funext i
      unfold jset
      by_cases h : i = k
      · rw [if_neg (by omega), if_pos h, if_pos (by omega)]
      · by_cases h2 : k + 1 ≤ i ∧ i < 248
        · rw [if_pos h2, if_pos (by omega)]
        · rw [if_neg h2, if_neg h, if_neg (by omega)]
    · funext i
      rw [if_neg (by omega)]
theorem f_XA_fill248_eq (fw : Int → Int) (zv : Int) : f_XA_fill248 fw zv = fun i => if 0 ≤ i ∧ i < 248 then zv else fw i := by rw [f_XA_fill248_s]; exact f_XA_fill248_L fw zv _ _ _ (by omega) (by omega) (by omega)
theorem f_XA_fill248_p (P : Int → Prop) (fw : Int → Int) (zv : Int) (hv : P zv) (h : ∀ i, P (fw i)) : ∀ i, P (f_XA_fill248 fw zv i) := by
  intro i
  rw [f_XA_fill248_eq]
  dsimp only
  split
  · exact hv
  · exact h i
set_option maxHeartbeats 4000000 in
set_option maxRecDepth 100000 in
theorem c_XA_fill248 (l : Launch) (dC : Nat → ClassId) (dI : Nat → Nat → Nat) (cA : ClassId) (sz : Nat) (ra : Nat) (fw : Int → Int) (zv : Int) : Met l yXA_fill (Cond.code yXA_fill cXA_fill 4 none :: TBL) ({ frames := 0, cells := 0, slots := 0, locals := 0 } : Room) (va_Pc [.ref ra, .int (jI zv)] (jBw (dC, dI) [(cA, .int)] [(ra, .inl (cA, 248, .inl (jA fw)))] sz)) (va_Qv (fun (u : (Int → Int)) => u = f_XA_fill248 fw zv) (fun u t => jE (dC, dI) [(cA, .int)] [(ra, .inl (cA, 248, .inl (jA fw)))] sz [(ra, .inl (cA, 248, .inl (jA u)))] t) (va_A [(ra, .inl (cA, 248, .inl (jA fw)))] sz)) 0 0 (va_A [(ra, .inl (cA, 248, .inl (jA fw)))] sz) := by
  refine jMet (cc := cXA_fill) (maxL := 4) (ret := none) (by decide) rfl ?_
  intro p e s m args below meth c s₁ R Q hR hQ B hml hv
  obtain ⟨rfl, hsz, hP, hK, hD0, hN⟩ := hv
  have hx := B.exec
  have hb := B.bytes
  have hr := B.returns
  have hts := atoms_spec (ws := Cond.code yXA_fill cXA_fill 4 none :: TBL) B.pre
  have hown : s.vm.findClass RXA = some m.cls := findClass_of_methodNamed B.named
  have hlocks := B.notSynchronized
  subst hsz
  obtain ⟨A, hAe⟩ : ∃ A, A = va_A [(ra, .inl (cA, 248, .inl (jA fw)))] s.heap.size := ⟨_, rfl⟩
  have hD : va_D A [(ra, .inl (cA, 248, .inl (jA fw)))] := by rw [hAe]; exact hD0.self
  have hA : ∀ q : Nat, s.heap.size ≤ q → A q := fun q h => by rw [hAe]; exact Or.inr h
  have hS : va_S A s.heap s.heap [] := va_S.rf
  have hP : va_P (dC, dI) vwCl [(ra, .inl (cA, 248, .inl (jA fw)))] s.heap := hP
  have hl := lv_entry ([.ref ra, .int (jI zv)]) (n := 4) (Nat.le_of_ble_eq_true rfl)
  rw [lg_entry_eq]
  generalize (lg_sl ([.ref ra, .int (jI zv)]) ++ List.replicate (4 - (lg_sl ([.ref ra, .int (jI zv)])).length) Slot.unset).toArray = ls at hl ⊢
  have hl : lv_has ls 4 [(0, .ref ra), (1, .int (jI zv))] := hl
  refine ji_iconst hx hb dXA_fill_0 ?_
  refine lv_istore_n (lv' := [(2, .int (jI 0)), (0, .ref ra), (1, .int (jI zv))]) hx hb dXA_fill_1 rfl hl (by decide) rfl (fun ls hl => ?_)
  refine lv_aload_n hx hb dXA_fill_2 rfl (lv_at hl 1 rfl) ?_
  refine ji_alen (z := 248) hx hb hK hP 0 0 rfl rfl rfl dXA_fill_3 ?_
  refine lv_istore_n (lv' := [(3, .int (jI 248)), (2, .int (jI 0)), (0, .ref ra), (1, .int (jI zv))]) hx hb dXA_fill_4 rfl hl (by decide) rfl (fun ls hl => ?_)
  have loop5 : ∀ (n9 : Nat) (k : Int) (fa : Int → Int) , 248 - k < (n9 : Int) → f_XA_fill248_L5 fw zv n9 k fa = f_XA_fill248 fw zv → (0 ≤ k ∧ k ≤ 248) → ∀ (H : Heap) (locs : List Loc), va_P (dC, dI) vwCl [(ra, .inl (cA, 248, .inl (jA fa)))] H → va_D A [(ra, .inl (cA, 248, .inl (jA fa)))] → va_S A s.heap H locs → ∀ ls : Array Slot, lv_has ls 4 [(3, .int (jI 248)), (2, .int (jI k)), (0, .ref ra), (1, .int (jI zv))] → W p l e R s m ([.ref ra, .int (jI zv)] : List Value).toArray below meth c H locs 0 0 Q (F0 m 5 ls []) := by
    intro n9
    induction n9 with
    | zero =>
      intro k fa hm hF hk
      exact absurd hm (by omega)
    | succ n9 ih5 =>
      intro k fa hm hF hk H locs hP hD hS ls hl
      refine lv_iload_n hx hb dXA_fill_5 rfl (lv_at hl 1 rfl) ?_
      refine lv_iload_n hx hb dXA_fill_6 rfl (lv_at hl 0 rfl) ?_
      refine ji_icmp_ge (tgt := 20) hx hb dXA_fill_7 (by decide) (by omega) (by omega) (fun c7_ => ?_) (fun c7_ => ?_)
      · have hP9 := hP.sub (ws' := [(ra, .inl (cA, 248, .inl (jA fa)))]) [0] rfl
        have hD9 := hD.sub (ws' := [(ra, .inl (cA, 248, .inl (jA fa)))]) [0] (by decide) rfl
        subst hAe
        subst hQ
        exact W.vret hx hb hr (fun t ht hW => ⟨⟨fa, rfl, Eq.trans (by rw [f_XA_fill248_L5_s]; rw [if_neg (Int.not_lt.mpr c7_)]; try rfl) hF, ⟨by rw [ht]; exact hP9, va_K.moved hW.alike hK, hD9⟩⟩, hS.F ht⟩) hS.2.2 dXA_fill_20
      · refine lv_aload_n hx hb dXA_fill_10 rfl (lv_at hl 2 rfl) ?_
        refine lv_iload_n hx hb dXA_fill_11 rfl (lv_at hl 1 rfl) ?_
        refine lv_iload_n hx hb dXA_fill_12 rfl (lv_at hl 3 rfl) ?_
        refine ji_iast hx hb hK hP hD hS 0 0 rfl rfl ⟨by omega, by omega⟩ (by decide) dXA_fill_13 (fun H locs hP hD hS => ?_)
        have hP : va_P (dC, dI) vwCl [(ra, .inl (cA, 248, .inl (jA (jset fa k zv))))] H := hP
        have hD : va_D A [(ra, .inl (cA, 248, .inl (jA (jset fa k zv))))] := hD
        refine ji_iinc (k := 1) (lv' := [(2, .int (jI (k + 1))), (3, .int (jI 248)), (0, .ref ra), (1, .int (jI zv))]) hx hb dXA_fill_14 hl rfl (by decide) rfl (fun ls hl => ?_)
        refine lv_goto (tgt := 5) hx hb dXA_fill_17 (by decide) ?_
        exact ih5 (k + 1) (jset fa k zv) (by omega) (Eq.trans (by rw [f_XA_fill248_L5_s]; rw [if_pos c7_]; try rfl) hF) (by first | assumption | omega) _ _ hP hD hS ls (lv_sub hl [1, 0, 2, 3] rfl)
  exact loop5 (Int.toNat (248 - 0) + 1) 0 fw (by omega) (Eq.trans (by rw [f_XA_fill248_s]; try rfl) rfl) (by first | assumption | omega) _ _ hP hD hS ls (lv_sub hl [0, 1, 2, 3] rfl)
