/-! the chain of parents comes to its end -/
def jdp (F : Int → Int) : Nat → Int → Int
  | 0, _ => 0
  | n + 1, k => if k ≤ 0 then 0 else 1 + jdp F n (F k)
def jit (F : Int → Int) : Nat → Int → Int
  | 0, k => k
  | n + 1, k => jit F n (F k)
theorem jit_succ (F : Int → Int) : ∀ (n : Nat) (k : Int), jit F (n + 1) k = F (jit F n k) := by
  intro n
  induction n with
  | zero => intro k; rfl
  | succ n ih => intro k; exact ih (F k)
theorem jdp_nn (F : Int → Int) : ∀ (n : Nat) (k : Int), 0 ≤ jdp F n k := by
  intro n
  induction n with
  | zero => intro k; exact Int.le_refl 0
  | succ n ih =>
    intro k
    show 0 ≤ (if k ≤ 0 then 0 else 1 + jdp F n (F k))
    have := ih (F k)
    split <;> omega
theorem jdp_end (F : Int → Int) (n : Nat) (k : Int) (h : k ≤ 0) : jdp F n k = 0 := by
  cases n with
  | zero => rfl
  | succ n => exact if_pos h
theorem jdp_stable (F : Int → Int) : ∀ (n m : Nat) (k : Int), jit F n k ≤ 0 → n ≤ m → jdp F m k = jdp F n k := by
  intro n
  induction n with
  | zero => intro m k h _; rw [jdp_end F m k h, jdp_end F 0 k h]
  | succ n ih =>
    intro m k h hm
    cases m with
    | zero => omega
    | succ m =>
      show (if k ≤ 0 then 0 else 1 + jdp F m (F k)) = (if k ≤ 0 then 0 else 1 + jdp F n (F k))
      rw [ih m (F k) h (by omega)]
theorem jdp_step (F : Int → Int) (n : Nat) (k : Int) (h : jit F n k ≤ 0) (hn : n ≤ 40) (hk : 0 < k) : jdp F 41 (F k) < jdp F 41 k := by
  cases n with
  | zero => exact absurd h (by show ¬ k ≤ 0; omega)
  | succ n =>
    have h1 : jit F n (F k) ≤ 0 := h
    have e1 : jdp F 41 k = 1 + jdp F 40 (F k) := if_neg (by omega)
    rw [e1, jdp_stable F n 41 (F k) h1 (by omega), jdp_stable F n 40 (F k) h1 (by omega)]
    omega
/-- two of more values than places are the same -/
theorem jpig : ∀ (N : Nat) (f : Nat → Nat), (∀ i, i < N + 1 → f i < N) → ∃ i j, i < j ∧ j < N + 1 ∧ f i = f j := by
  intro N
  induction N with
  | zero => intro f h; exact absurd (h 0 (by omega)) (by omega)
  | succ N ih =>
    intro f h
    by_cases hx : ∃ i, i < N + 1 ∧ f i = f (N + 1)
    · obtain ⟨i, h1, h2⟩ := hx
      exact ⟨i, N + 1, h1, by omega, h2⟩
    · have hne : ∀ i, i < N + 1 → f i ≠ f (N + 1) := fun i h1 h2 => hx ⟨i, h1, h2⟩
      have hl := h (N + 1) (by omega)
      obtain ⟨i, j, h1, h2, h3⟩ := ih (fun i => if f i < f (N + 1) then f i else f i - 1) (fun i hi => by
        have a := h i (by omega)
        have b := hne i hi
        show (if f i < f (N + 1) then f i else f i - 1) < N
        split <;> omega)
      have a := hne i (by omega)
      have b := hne j h2
      have h3 : (if f i < f (N + 1) then f i else f i - 1) = (if f j < f (N + 1) then f j else f j - 1) := h3
      refine ⟨i, j, h1, by omega, ?_⟩
      (repeat' split at h3) <;> omega
/-- a walk that goes on for 31 steps in 1 .. 30 comes back to where it was -/
theorem jback (x : Nat → Int) (h : ∀ n, 1 ≤ n → n ≤ 31 → 1 ≤ x n ∧ x n ≤ 30) : ∃ i d, 1 ≤ i ∧ 1 ≤ d ∧ i + d ≤ 31 ∧ x (i + d) = x i := by
  obtain ⟨i, j, h1, h2, h3⟩ := jpig 30 (fun n => (x (n + 1) - 1).toNat) (fun i hi => by
    have := h (i + 1) (by omega) (by omega)
    show (x (i + 1) - 1).toNat < 30
    omega)
  have a := h (i + 1) (by omega) (by omega)
  have b := h (j + 1) (by omega) (by omega)
  have h3 : (x (i + 1) - 1).toNat = (x (j + 1) - 1).toNat := h3
  refine ⟨i + 1, j - i, by omega, by omega, by omega, ?_⟩
  rw [show i + 1 + (j - i) = j + 1 by omega]
  omega
noncomputable def g_XM_isRing_L4 (mth : Int) (mn : Int) (mp : Int) (mw : Int) (mu : Int) (md : Int) (mo : Int) (y1 : Int → Int) (y2 : Int → Int) (z1 : Int) : Nat → Int → Int → Int
  | 0, _, _ => 0
  | n9 + 1, k, i9 =>
    if i9 < 31 then
      if (f_XM_isTold mth mn mp mw mu md mo y1 k) = 0 then
        if 0 = z1 then
          1
        else
          g_XM_isRing_L4 mth mn mp mw mu md mo y1 y2 z1 n9 0 (i9 + 1)
      else
        if (y2 k) = z1 then
          1
        else
          g_XM_isRing_L4 mth mn mp mw mu md mo y1 y2 z1 n9 (y2 k) (i9 + 1)
    else
      0
noncomputable def f_XM_isRing_L4 : Int → Int → Int → Int → Int → Int → Int → (Int → Int) → (Int → Int) → Int → Nat → Int → Int → Int := jopq g_XM_isRing_L4
theorem f_XM_isRing_L4_q : f_XM_isRing_L4 = g_XM_isRing_L4 := jopq_eq _
theorem f_XM_isRing_L4_s (mth : Int) (mn : Int) (mp : Int) (mw : Int) (mu : Int) (md : Int) (mo : Int) (y1 : Int → Int) (y2 : Int → Int) (z1 : Int) (n9 : Nat) (k : Int) (i9 : Int) : f_XM_isRing_L4 mth mn mp mw mu md mo y1 y2 z1 (n9 + 1) k i9 = (
    if i9 < 31 then
      if (f_XM_isTold mth mn mp mw mu md mo y1 k) = 0 then
        if 0 = z1 then
          1
        else
          f_XM_isRing_L4 mth mn mp mw mu md mo y1 y2 z1 n9 0 (i9 + 1)
      else
        if (y2 k) = z1 then
          1
        else
          f_XM_isRing_L4 mth mn mp mw mu md mo y1 y2 z1 n9 (y2 k) (i9 + 1)
    else
      0
  : Int) := by rw [f_XM_isRing_L4_q]; rfl
theorem f_XM_isRing_L4_z (mth : Int) (mn : Int) (mp : Int) (mw : Int) (mu : Int) (md : Int) (mo : Int) (y1 : Int → Int) (y2 : Int → Int) (z1 : Int) (k : Int) (i9 : Int) : f_XM_isRing_L4 mth mn mp mw mu md mo y1 y2 z1 0 k i9 = 0 := by rw [f_XM_isRing_L4_q]; rfl
noncomputable def g_XM_isRing (mth : Int) (mn : Int) (mp : Int) (mw : Int) (mu : Int) (md : Int) (mo : Int) (y1 : Int → Int) (y2 : Int → Int) (z1 : Int) : Int :=
  f_XM_isRing_L4 mth mn mp mw mu md mo y1 y2 z1 (Int.toNat (31 - 0) + 1) z1 0
noncomputable def f_XM_isRing : Int → Int → Int → Int → Int → Int → Int → (Int → Int) → (Int → Int) → Int → Int := jopq g_XM_isRing
theorem f_XM_isRing_q : f_XM_isRing = g_XM_isRing := jopq_eq _
theorem f_XM_isRing_s (mth : Int) (mn : Int) (mp : Int) (mw : Int) (mu : Int) (md : Int) (mo : Int) (y1 : Int → Int) (y2 : Int → Int) (z1 : Int) : f_XM_isRing mth mn mp mw mu md mo y1 y2 z1 = (
    f_XM_isRing_L4 mth mn mp mw mu md mo y1 y2 z1 (Int.toNat (31 - 0) + 1) z1 0
  : Int) := by rw [f_XM_isRing_q]; rfl
theorem f_XM_isRing_Lb (mth mn mp mw mu md mo : Int) (y1 y2 : Int → Int) (z1 : Int) : ∀ (n : Nat) (k i9 : Int), 0 ≤ f_XM_isRing_L4 mth mn mp mw mu md mo y1 y2 z1 n k i9 ∧ f_XM_isRing_L4 mth mn mp mw mu md mo y1 y2 z1 n k i9 ≤ 1 := by
  intro n
  induction n with
  | zero => intro k i9; rw [f_XM_isRing_L4_z]; decide
  | succ n ih =>
    intro k i9
    rw [f_XM_isRing_L4_s]
    (repeat' split) <;> first | decide | exact ih _ _
theorem f_XM_isRing_b (mth : Int) (mn : Int) (mp : Int) (mw : Int) (mu : Int) (md : Int) (mo : Int) (y1 : Int → Int) (y2 : Int → Int) (z1 : Int) (hy1 : ∀ i, 0 ≤ y1 i ∧ y1 i ≤ 1) (hy2 : ∀ i, 0 ≤ y2 i ∧ y2 i ≤ 30) (hz1 : 1 ≤ z1 ∧ z1 ≤ 30) : 0 ≤ (f_XM_isRing mth mn mp mw mu md mo y1 y2 z1) ∧ (f_XM_isRing mth mn mp mw mu md mo y1 y2 z1) ≤ 1 := by rw [f_XM_isRing_s]; exact f_XM_isRing_Lb mth mn mp mw mu md mo y1 y2 z1 _ _ _
set_option maxHeartbeats 4000000 in
set_option maxRecDepth 100000 in
theorem c_XM_isRing (l : Launch) (dC : Nat → ClassId) (dI : Nat → Nat → Nat) (cA cZ : ClassId) (ma : Nat) (a0 : Nat) (a1 : Nat) (a2 : Nat) (a3 : Nat) (a4 : Nat) (a5 : Nat) (a6 : Nat) (a7 : Nat) (a8 : Nat) (a9 : Nat) (a10 : Nat) (a11 : Nat) (mth : Int) (mn : Int) (mp : Int) (mw : Int) (mu : Int) (md : Int) (mo : Int) (y1 : Int → Int) (y2 : Int → Int) (z1 : Int) (hy1 : ∀ i, 0 ≤ y1 i ∧ y1 i ≤ 1) (hy2 : ∀ i, 0 ≤ y2 i ∧ y2 i ≤ 30) (hz1 : 1 ≤ z1 ∧ z1 ≤ 30) : Met l yXM_isRing (Cond.code yXM_isRing cXM_isRing 4 (some .boolean) :: TBL) ({ frames := 2, cells := 0, slots := 0, locals := 43 } : Room) (va_Pc [.ref ma, .int (jI z1)] (jB (dC, dI) [(cA, .int), (cZ, .boolean)] [(ma, .inr (5, [.int (jI mth), .int (jI mn), .ref a0, .int (jI mp), .int (jI mw), .ref a1, .ref a2, .ref a3, .ref a4, .ref a5, .ref a6, .ref a7, .ref a8, .ref a9, .ref a10, .long (jL mu), .long (jL md), .int (jI mo), .ref a11])), (a1, .inl (cZ, 62, .inl (jA y1))), (a2, .inl (cA, 62, .inl (jA y2)))])) (vp_Si (fun r => r = jI (f_XM_isRing mth mn mp mw mu md mo y1 y2 z1))) 0 0 (fun _ => False) := by
  refine jMet (cc := cXM_isRing) (maxL := 4) (ret := some .boolean) (by decide) rfl ?_
  intro p e s m args below meth c s₁ R Q hR hQ B hml hv
  obtain ⟨rfl, hP, hK, hN⟩ := hv
  have hx := B.exec
  have hb := B.bytes
  have hr := B.returns
  have hts := atoms_spec (ws := Cond.code yXM_isRing cXM_isRing 4 (some .boolean) :: TBL) B.pre
  have hown : s.vm.findClass RXM = some m.cls := findClass_of_methodNamed B.named
  have hlocks := B.notSynchronized
  have hP : va_P (dC, dI) vwCl [(ma, .inr (5, [.int (jI mth), .int (jI mn), .ref a0, .int (jI mp), .int (jI mw), .ref a1, .ref a2, .ref a3, .ref a4, .ref a5, .ref a6, .ref a7, .ref a8, .ref a9, .ref a10, .long (jL mu), .long (jL md), .int (jI mo), .ref a11])), (a1, .inl (cZ, 62, .inl (jA y1))), (a2, .inl (cA, 62, .inl (jA y2)))] s.heap := hP
  have hl := lv_entry ([.ref ma, .int (jI z1)]) (n := 4) (Nat.le_of_ble_eq_true rfl)
  rw [lg_entry_eq]
  generalize (lg_sl ([.ref ma, .int (jI z1)]) ++ List.replicate (4 - (lg_sl ([.ref ma, .int (jI z1)])).length) Slot.unset).toArray = ls at hl ⊢
  have hl : lv_has ls 4 [(0, .ref ma), (1, .int (jI z1))] := hl
  refine lv_iload_n hx hb dXM_isRing_0 rfl (lv_at hl 1 rfl) ?_
  refine lv_istore_n (lv' := [(2, .int (jI z1)), (0, .ref ma), (1, .int (jI z1))]) hx hb dXM_isRing_1 rfl hl (by decide) rfl (fun ls hl => ?_)
  refine ji_iconst hx hb dXM_isRing_2 ?_
  refine lv_istore_n (lv' := [(3, .int (jI 0)), (2, .int (jI z1)), (0, .ref ma), (1, .int (jI z1))]) hx hb dXM_isRing_3 rfl hl (by decide) rfl (fun ls hl => ?_)
  have loop4 : ∀ (n9 : Nat) (k : Int) (i9 : Int) , 31 - i9 < (n9 : Int) → f_XM_isRing_L4 mth mn mp mw mu md mo y1 y2 z1 n9 k i9 = f_XM_isRing mth mn mp mw mu md mo y1 y2 z1 → (0 ≤ k ∧ k ≤ 30) → (0 ≤ i9 ∧ i9 ≤ 31) → ∀ ls : Array Slot, lv_has ls 4 [(3, .int (jI i9)), (2, .int (jI k)), (0, .ref ma), (1, .int (jI z1))] → W p l e R s m ([.ref ma, .int (jI z1)] : List Value).toArray below meth c s.heap [] 0 0 Q (F0 m 4 ls []) := by
    intro n9
    induction n9 with
    | zero =>
      intro k i9 hm hF hk hi9
      exact absurd hm (by omega)
    | succ n9 ih4 =>
      intro k i9 hm hF hk hi9 ls hl
      refine lv_iload_n hx hb dXM_isRing_4 rfl (lv_at hl 0 rfl) ?_
      refine ji_bipush hx hb dXM_isRing_5 (by decide) ?_
      refine ji_icmp_ge (tgt := 42) hx hb dXM_isRing_7 (by decide) (by omega) (by omega) (fun c7_ => ?_) (fun c7_ => ?_)
      · refine ji_iconst hx hb dXM_isRing_42 ?_
        subst hQ
        exact W.zret (v := jI 0) hx hb hr (by first | decide | exact jz (by omega)) (fun t ht hW => ⟨_, rfl, congrArg jI (Eq.trans (by rw [f_XM_isRing_L4_s]; rw [if_neg (Int.not_lt.mpr c7_)]; try rfl) hF), ht⟩) (fun _ h => nomatch h) dXM_isRing_43
      · refine lv_aload_n hx hb dXM_isRing_10 rfl (lv_at hl 2 rfl) ?_
        refine lv_iload_n hx hb dXM_isRing_11 rfl (lv_at hl 1 rfl) ?_
        refine jrVi (rest := []) ⟨hx, hb, hml, hown, hts⟩ (c_XM_isTold l dC dI cA cZ ma a0 a1 a2 a3 a4 a5 a6 a7 a8 a9 a10 a11 mth mn mp mw mu md mo y1 k (by first | assumption | omega) (by first | assumption | omega)) (cwV 1 hts (jG_V tw_768 tw_770 ts_29 tw_6 tw_771) rfl rfl rfl (by decide +kernel) (by rw [hR]; exact ⟨Nat.le_of_ble_eq_true rfl, Nat.le_of_ble_eq_true rfl⟩)) hK hP hN [0, 1] rfl 0 5 rfl rfl rfl rfl hl.1 rfl (Nat.le_of_ble_eq_true rfl) dXM_isRing_12 (by rw [hR]; exact ⟨Nat.le_of_ble_eq_true rfl, Nat.le_of_ble_eq_true rfl⟩) ?_
        have f := f_XM_isTold_b mth mn mp mw mu md mo y1 k (by first | assumption | omega) (by first | assumption | omega)
        refine ji_if_eq (tgt := 27) hx hb dXM_isRing_15 (by decide) (by omega) (fun c15_ => ?_) (fun c15_ => ?_)
        · refine ji_iconst hx hb dXM_isRing_27 ?_
          refine lv_istore_n (lv' := [(2, .int (jI 0)), (3, .int (jI i9)), (0, .ref ma), (1, .int (jI z1))]) hx hb dXM_isRing_28 rfl hl (by decide) rfl (fun ls hl => ?_)
          refine lv_iload_n hx hb dXM_isRing_29 rfl (lv_at hl 0 rfl) ?_
          refine lv_iload_n hx hb dXM_isRing_30 rfl (lv_at hl 3 rfl) ?_
          refine ji_icmp_ne (tgt := 36) hx hb dXM_isRing_31 (by decide) (by omega) (by omega) (fun c31_ => ?_) (fun c31_ => ?_)
          · refine ji_iinc (k := 1) (lv' := [(3, .int (jI (i9 + 1))), (2, .int (jI 0)), (0, .ref ma), (1, .int (jI z1))]) hx hb dXM_isRing_36 hl rfl (by decide) rfl (fun ls hl => ?_)
            refine lv_goto (tgt := 4) hx hb dXM_isRing_39 (by decide) ?_
            exact ih4 0 (i9 + 1) (by omega) (Eq.trans (by rw [f_XM_isRing_L4_s]; rw [if_pos c7_, if_pos c15_, if_neg c31_]; try rfl) hF) (by first | assumption | omega) (by first | assumption | omega) ls (lv_sub hl [0, 1, 2, 3] rfl)
          · refine ji_iconst hx hb dXM_isRing_34 ?_
            subst hQ
            exact W.zret (v := jI 1) hx hb hr (by first | decide | exact jz (by omega)) (fun t ht hW => ⟨_, rfl, congrArg jI (Eq.trans (by rw [f_XM_isRing_L4_s]; rw [if_pos c7_, if_pos c15_, if_pos c31_]; try rfl) hF), ht⟩) (fun _ h => nomatch h) dXM_isRing_35
        · refine lv_aload_n hx hb dXM_isRing_18 rfl (lv_at hl 2 rfl) ?_
          refine va_get (D := (dC, dI)) (ci := 5) (v := .ref a2) (C := RXM) (T := TXM) (N := 19) hx hb hts (fun w h => jmem (inXM w h)) hown hK hP 0 rfl rfl 6 (by decide) (hts _ (jmem tw_634)) (fun _ h9 => h9) rfl dXM_isRing_19 ?_
          refine lv_iload_n hx hb dXM_isRing_22 rfl (lv_at hl 1 rfl) ?_
          refine ji_iald hx hb hK hP 2 0 rfl rfl ⟨by omega, by omega⟩ (by decide) dXM_isRing_23 ?_
          have rb := hy2 k
          refine lv_goto (tgt := 28) hx hb dXM_isRing_24 (by decide) ?_
          refine lv_istore_n (lv' := [(2, .int (jI (y2 k))), (3, .int (jI i9)), (0, .ref ma), (1, .int (jI z1))]) hx hb dXM_isRing_28 rfl hl (by decide) rfl (fun ls hl => ?_)
          refine lv_iload_n hx hb dXM_isRing_29 rfl (lv_at hl 0 rfl) ?_
          refine lv_iload_n hx hb dXM_isRing_30 rfl (lv_at hl 3 rfl) ?_
          refine ji_icmp_ne (tgt := 36) hx hb dXM_isRing_31 (by decide) (by omega) (by omega) (fun c31_1 => ?_) (fun c31_1 => ?_)
          · refine ji_iinc (k := 1) (lv' := [(3, .int (jI (i9 + 1))), (2, .int (jI (y2 k))), (0, .ref ma), (1, .int (jI z1))]) hx hb dXM_isRing_36 hl rfl (by decide) rfl (fun ls hl => ?_)
            refine lv_goto (tgt := 4) hx hb dXM_isRing_39 (by decide) ?_
            exact ih4 (y2 k) (i9 + 1) (by omega) (Eq.trans (by rw [f_XM_isRing_L4_s]; rw [if_pos c7_, if_neg c15_, if_neg c31_1]; try rfl) hF) (by first | assumption | omega) (by first | assumption | omega) ls (lv_sub hl [0, 1, 2, 3] rfl)
          · refine ji_iconst hx hb dXM_isRing_34 ?_
            subst hQ
            exact W.zret (v := jI 1) hx hb hr (by first | decide | exact jz (by omega)) (fun t ht hW => ⟨_, rfl, congrArg jI (Eq.trans (by rw [f_XM_isRing_L4_s]; rw [if_pos c7_, if_neg c15_, if_pos c31_1]; try rfl) hF), ht⟩) (fun _ h => nomatch h) dXM_isRing_35
  exact loop4 (Int.toNat (31 - 0) + 1) z1 0 (by omega) (Eq.trans (by rw [f_XM_isRing_s]; try rfl) rfl) (by first | assumption | omega) (by first | assumption | omega) ls (lv_sub hl [0, 1, 2, 3] rfl)
noncomputable def jsg (mth mn mp mw mu md mo : Int) (y1 y2 : Int → Int) (k : Int) : Int := if (f_XM_isTold mth mn mp mw mu md mo y1 k) = 0 then 0 else y2 k
theorem f_XM_isRing_L1 (mth mn mp mw mu md mo : Int) (y1 y2 : Int → Int) (z1 : Int) : ∀ (d n : Nat) (k i9 : Int), 1 ≤ d → i9 + d ≤ 31 → 31 - i9 < (n : Int) → jit (jsg mth mn mp mw mu md mo y1 y2) d k = z1 → f_XM_isRing_L4 mth mn mp mw mu md mo y1 y2 z1 n k i9 = 1 := by
  intro d
  induction d with
  | zero => intro n k i9 h; omega
  | succ d ih =>
    intro n k i9 h1 h2 h3 h4
    cases n with
    | zero => omega
    | succ n =>
      have h4 : jit (jsg mth mn mp mw mu md mo y1 y2) d (jsg mth mn mp mw mu md mo y1 y2 k) = z1 := h4
      have key : ∀ v : Int, v = jsg mth mn mp mw mu md mo y1 y2 k → v ≠ z1 → f_XM_isRing_L4 mth mn mp mw mu md mo y1 y2 z1 n v (i9 + 1) = 1 := by
        intro v hv hne
        cases d with
        | zero => exact absurd (show jsg mth mn mp mw mu md mo y1 y2 k = z1 from h4) (by rw [← hv]; exact hne)
        | succ d => exact ih n v (i9 + 1) (by omega) (by omega) (by omega) (by rw [hv]; exact h4)
      rw [f_XM_isRing_L4_s, if_pos (by omega)]
      by_cases ht : (f_XM_isTold mth mn mp mw mu md mo y1 k) = 0
      · rw [if_pos ht]
        by_cases hz : (0 : Int) = z1
        · rw [if_pos hz]
        · rw [if_neg hz]; exact key 0 (by unfold jsg; rw [if_pos ht]) hz
      · rw [if_neg ht]
        by_cases hz : y2 k = z1
        · rw [if_pos hz]
        · rw [if_neg hz]; exact key (y2 k) (by unfold jsg; rw [if_neg ht]) hz
theorem f_XM_isRing_1 (mth mn mp mw mu md mo : Int) (y1 y2 : Int → Int) (z1 : Int) (d : Nat) (h1 : 1 ≤ d) (h2 : d ≤ 31) (h : jit (jsg mth mn mp mw mu md mo y1 y2) d z1 = z1) : f_XM_isRing mth mn mp mw mu md mo y1 y2 z1 = 1 := by
  rw [f_XM_isRing_s]
  exact f_XM_isRing_L1 mth mn mp mw mu md mo y1 y2 z1 d _ z1 0 h1 (by omega) (by decide) h
noncomputable def g_XM_from (mth : Int) (mn : Int) (mp : Int) (mw : Int) (mu : Int) (md : Int) (mo : Int) (y1 : Int → Int) (y2 : Int → Int) (z1 : Int) : Int :=
  if (f_XM_isRing mth mn mp mw mu md mo y1 y2 z1) = 0 then
    if (f_XM_isTold mth mn mp mw mu md mo y1 (y2 z1)) = 0 then
      0
    else
      y2 z1
  else
    0
noncomputable def f_XM_from : Int → Int → Int → Int → Int → Int → Int → (Int → Int) → (Int → Int) → Int → Int := jopq g_XM_from
theorem f_XM_from_q : f_XM_from = g_XM_from := jopq_eq _
theorem f_XM_from_s (mth : Int) (mn : Int) (mp : Int) (mw : Int) (mu : Int) (md : Int) (mo : Int) (y1 : Int → Int) (y2 : Int → Int) (z1 : Int) : f_XM_from mth mn mp mw mu md mo y1 y2 z1 = (
    if (f_XM_isRing mth mn mp mw mu md mo y1 y2 z1) = 0 then
      if (f_XM_isTold mth mn mp mw mu md mo y1 (y2 z1)) = 0 then
        0
      else
        y2 z1
    else
      0
  : Int) := by rw [f_XM_from_q]; rfl
theorem f_XM_from_b (mth : Int) (mn : Int) (mp : Int) (mw : Int) (mu : Int) (md : Int) (mo : Int) (y1 : Int → Int) (y2 : Int → Int) (z1 : Int) (hy1 : ∀ i, 0 ≤ y1 i ∧ y1 i ≤ 1) (hy2 : ∀ i, 0 ≤ y2 i ∧ y2 i ≤ 30) (hz1 : 1 ≤ z1 ∧ z1 ≤ 30) : (f_XM_from mth mn mp mw mu md mo y1 y2 z1) = 0 ∨ (1 ≤ (f_XM_from mth mn mp mw mu md mo y1 y2 z1) ∧ (f_XM_from mth mn mp mw mu md mo y1 y2 z1) ≤ 30 ∧ (f_XM_from mth mn mp mw mu md mo y1 y2 z1) = y2 z1 ∧ f_XM_isRing mth mn mp mw mu md mo y1 y2 z1 = 0 ∧ f_XM_isTold mth mn mp mw mu md mo y1 (y2 z1) ≠ 0) := by have h8 := hy2 z1; have h7 := f_XM_isTold_b mth mn mp mw mu md mo y1 (y2 z1) hy1 (by omega); have h6 := f_XM_isRing_b mth mn mp mw mu md mo y1 y2 z1 hy1 hy2 hz1; rw [f_XM_from_s]; (repeat' split) <;> omega
set_option maxHeartbeats 4000000 in
set_option maxRecDepth 100000 in
theorem c_XM_from (l : Launch) (dC : Nat → ClassId) (dI : Nat → Nat → Nat) (cA cZ : ClassId) (ma : Nat) (a0 : Nat) (a1 : Nat) (a2 : Nat) (a3 : Nat) (a4 : Nat) (a5 : Nat) (a6 : Nat) (a7 : Nat) (a8 : Nat) (a9 : Nat) (a10 : Nat) (a11 : Nat) (mth : Int) (mn : Int) (mp : Int) (mw : Int) (mu : Int) (md : Int) (mo : Int) (y1 : Int → Int) (y2 : Int → Int) (z1 : Int) (hy1 : ∀ i, 0 ≤ y1 i ∧ y1 i ≤ 1) (hy2 : ∀ i, 0 ≤ y2 i ∧ y2 i ≤ 30) (hz1 : 1 ≤ z1 ∧ z1 ≤ 30) : Met l yXM_from (Cond.code yXM_from cXM_from 2 (some .int) :: TBL) ({ frames := 3, cells := 0, slots := 0, locals := 66 } : Room) (va_Pc [.ref ma, .int (jI z1)] (jB (dC, dI) [(cA, .int), (cZ, .boolean)] [(ma, .inr (5, [.int (jI mth), .int (jI mn), .ref a0, .int (jI mp), .int (jI mw), .ref a1, .ref a2, .ref a3, .ref a4, .ref a5, .ref a6, .ref a7, .ref a8, .ref a9, .ref a10, .long (jL mu), .long (jL md), .int (jI mo), .ref a11])), (a1, .inl (cZ, 62, .inl (jA y1))), (a2, .inl (cA, 62, .inl (jA y2)))])) (vp_Si (fun r => r = jI (f_XM_from mth mn mp mw mu md mo y1 y2 z1))) 0 0 (fun _ => False) := by
  refine jMet (cc := cXM_from) (maxL := 2) (ret := some .int) (by decide) rfl ?_
  intro p e s m args below meth c s₁ R Q hR hQ B hml hv
  obtain ⟨rfl, hP, hK, hN⟩ := hv
  have hx := B.exec
  have hb := B.bytes
  have hr := B.returns
  have hts := atoms_spec (ws := Cond.code yXM_from cXM_from 2 (some .int) :: TBL) B.pre
  have hown : s.vm.findClass RXM = some m.cls := findClass_of_methodNamed B.named
  have hlocks := B.notSynchronized
  have hP : va_P (dC, dI) vwCl [(ma, .inr (5, [.int (jI mth), .int (jI mn), .ref a0, .int (jI mp), .int (jI mw), .ref a1, .ref a2, .ref a3, .ref a4, .ref a5, .ref a6, .ref a7, .ref a8, .ref a9, .ref a10, .long (jL mu), .long (jL md), .int (jI mo), .ref a11])), (a1, .inl (cZ, 62, .inl (jA y1))), (a2, .inl (cA, 62, .inl (jA y2)))] s.heap := hP
  have hl := lv_entry ([.ref ma, .int (jI z1)]) (n := 2) (Nat.le_of_ble_eq_true rfl)
  rw [lg_entry_eq]
  generalize (lg_sl ([.ref ma, .int (jI z1)]) ++ List.replicate (2 - (lg_sl ([.ref ma, .int (jI z1)])).length) Slot.unset).toArray = ls at hl ⊢
  have hl : lv_has ls 2 [(0, .ref ma), (1, .int (jI z1))] := hl
  refine lv_aload_n hx hb dXM_from_0 rfl (lv_at hl 0 rfl) ?_
  refine lv_iload_n hx hb dXM_from_1 rfl (lv_at hl 1 rfl) ?_
  refine jrVi (rest := []) ⟨hx, hb, hml, hown, hts⟩ (c_XM_isRing l dC dI cA cZ ma a0 a1 a2 a3 a4 a5 a6 a7 a8 a9 a10 a11 mth mn mp mw mu md mo y1 y2 z1 (by first | assumption | omega) (by first | assumption | omega) (by first | assumption | omega)) (cwV 1 hts (jG_V tw_783 tw_785 ts_32 tw_6 tw_786) rfl rfl rfl (by decide +kernel) (by rw [hR]; exact ⟨Nat.le_of_ble_eq_true rfl, Nat.le_of_ble_eq_true rfl⟩)) hK hP hN [0, 1, 2] rfl 0 5 rfl rfl rfl rfl hl.1 rfl (Nat.le_of_ble_eq_true rfl) dXM_from_2 (by rw [hR]; exact ⟨Nat.le_of_ble_eq_true rfl, Nat.le_of_ble_eq_true rfl⟩) ?_
  have f := f_XM_isRing_b mth mn mp mw mu md mo y1 y2 z1 (by first | assumption | omega) (by first | assumption | omega) (by first | assumption | omega)
  refine ji_if_ne (tgt := 21) hx hb dXM_from_5 (by decide) (by omega) (fun c5_ => ?_) (fun c5_ => ?_)
  · refine ji_iconst hx hb dXM_from_21 ?_
    refine lv_goto (tgt := 31) hx hb dXM_from_22 (by decide) ?_
    subst hQ
    exact W.iret (v := jI 0) hx hb hr (fun t ht hW => ⟨_, rfl, congrArg jI (Eq.trans (by rw [f_XM_from_s]; rw [if_neg c5_]; try rfl) rfl), ht⟩) (fun _ h => nomatch h) dXM_from_31
  · refine lv_aload_n hx hb dXM_from_8 rfl (lv_at hl 0 rfl) ?_
    refine lv_aload_n hx hb dXM_from_9 rfl (lv_at hl 0 rfl) ?_
    refine va_get (D := (dC, dI)) (ci := 5) (v := .ref a2) (C := RXM) (T := TXM) (N := 19) hx hb hts (fun w h => jmem (inXM w h)) hown hK hP 0 rfl rfl 6 (by decide) (hts _ (jmem tw_634)) (fun _ h9 => h9) rfl dXM_from_10 ?_
    refine lv_iload_n hx hb dXM_from_13 rfl (lv_at hl 1 rfl) ?_
    refine ji_iald hx hb hK hP 2 0 rfl rfl ⟨by omega, by omega⟩ (by decide) dXM_from_14 ?_
    have rb := hy2 z1
    refine jrVi (rest := []) ⟨hx, hb, hml, hown, hts⟩ (c_XM_isTold l dC dI cA cZ ma a0 a1 a2 a3 a4 a5 a6 a7 a8 a9 a10 a11 mth mn mp mw mu md mo y1 (y2 z1) (by first | assumption | omega) (by first | assumption | omega)) (cwV 1 hts (jG_V tw_768 tw_770 ts_29 tw_6 tw_771) rfl rfl rfl (by decide +kernel) (by rw [hR]; exact ⟨Nat.le_of_ble_eq_true rfl, Nat.le_of_ble_eq_true rfl⟩)) hK hP hN [0, 1] rfl 0 5 rfl rfl rfl rfl hl.1 rfl (Nat.le_of_ble_eq_true rfl) dXM_from_15 (by rw [hR]; exact ⟨Nat.le_of_ble_eq_true rfl, Nat.le_of_ble_eq_true rfl⟩) ?_
    have f1 := f_XM_isTold_b mth mn mp mw mu md mo y1 (y2 z1) (by first | assumption | omega) (by first | assumption | omega)
    refine ji_if_ne (tgt := 25) hx hb dXM_from_18 (by decide) (by omega) (fun c18_ => ?_) (fun c18_ => ?_)
    · refine lv_aload_n hx hb dXM_from_25 rfl (lv_at hl 0 rfl) ?_
      refine va_get (D := (dC, dI)) (ci := 5) (v := .ref a2) (C := RXM) (T := TXM) (N := 19) hx hb hts (fun w h => jmem (inXM w h)) hown hK hP 0 rfl rfl 6 (by decide) (hts _ (jmem tw_634)) (fun _ h9 => h9) rfl dXM_from_26 ?_
      refine lv_iload_n hx hb dXM_from_29 rfl (lv_at hl 1 rfl) ?_
      refine ji_iald hx hb hK hP 2 0 rfl rfl ⟨by omega, by omega⟩ (by decide) dXM_from_30 ?_
      have rb2 := hy2 z1
      subst hQ
      exact W.iret (v := jI (y2 z1)) hx hb hr (fun t ht hW => ⟨_, rfl, congrArg jI (Eq.trans (by rw [f_XM_from_s]; rw [if_pos c5_, if_neg c18_]; try rfl) rfl), ht⟩) (fun _ h => nomatch h) dXM_from_31
    · refine ji_iconst hx hb dXM_from_21 ?_
      refine lv_goto (tgt := 31) hx hb dXM_from_22 (by decide) ?_
      subst hQ
      exact W.iret (v := jI 0) hx hb hr (fun t ht hW => ⟨_, rfl, congrArg jI (Eq.trans (by rw [f_XM_from_s]; rw [if_pos c5_, if_pos c18_]; try rfl) rfl), ht⟩) (fun _ h => nomatch h) dXM_from_31
theorem from_reach (mth mn mp mw mu md mo : Int) (y1 y2 : Int → Int) (hy1 : ∀ i, 0 ≤ y1 i ∧ y1 i ≤ 1) (hy2 : ∀ i, 0 ≤ y2 i ∧ y2 i ≤ 30) (k : Int) (hk : 1 ≤ k ∧ k ≤ 30) : ∃ n, n ≤ 32 ∧ jit (fun x => f_XM_from mth mn mp mw mu md mo y1 y2 x) n k ≤ 0 := by
  by_cases hx : ∃ n, n ≤ 32 ∧ jit (fun x => f_XM_from mth mn mp mw mu md mo y1 y2 x) n k ≤ 0
  · exact hx
  · have hpos : ∀ n, n ≤ 32 → 0 < jit (fun x => f_XM_from mth mn mp mw mu md mo y1 y2 x) n k := fun n hn => by
      by_cases h : 0 < jit (fun x => f_XM_from mth mn mp mw mu md mo y1 y2 x) n k
      · exact h
      · exact absurd ⟨n, hn, by omega⟩ hx
    have hrng : ∀ n, n ≤ 32 → 1 ≤ jit (fun x => f_XM_from mth mn mp mw mu md mo y1 y2 x) n k ∧ jit (fun x => f_XM_from mth mn mp mw mu md mo y1 y2 x) n k ≤ 30 := by
      intro n
      induction n with
      | zero => intro _; exact hk
      | succ n ih =>
        intro hn
        have h1 := ih (by omega)
        have h2 := hpos (n + 1) hn
        rw [jit_succ] at h2 ⊢
        have h3 := f_XM_from_b mth mn mp mw mu md mo y1 y2 _ hy1 hy2 h1
        try dsimp only at h2 ⊢
        omega
    have hstep : ∀ n, n + 1 ≤ 32 → jit (fun x => f_XM_from mth mn mp mw mu md mo y1 y2 x) (n + 1) k = y2 (jit (fun x => f_XM_from mth mn mp mw mu md mo y1 y2 x) n k) ∧ f_XM_isRing mth mn mp mw mu md mo y1 y2 (jit (fun x => f_XM_from mth mn mp mw mu md mo y1 y2 x) n k) = 0 ∧ f_XM_isTold mth mn mp mw mu md mo y1 (jit (fun x => f_XM_from mth mn mp mw mu md mo y1 y2 x) (n + 1) k) ≠ 0 := by
      intro n hn
      have h1 := hrng n (by omega)
      have h2 := hpos (n + 1) hn
      have h3 := f_XM_from_b mth mn mp mw mu md mo y1 y2 _ hy1 hy2 h1
      rw [jit_succ] at h2 ⊢
      try dsimp only at h2 ⊢
      rcases h3 with h3 | ⟨h3, h4, h5, h6, h7⟩
      · omega
      · exact ⟨h5, h6, by rw [h5]; exact h7⟩
    obtain ⟨i, d, h1, h2, h3, h4⟩ := jback (fun n => jit (fun x => f_XM_from mth mn mp mw mu md mo y1 y2 x) n k) (fun n _ hn => hrng n (by omega))
    have hsg : ∀ d, i + d ≤ 31 → jit (jsg mth mn mp mw mu md mo y1 y2) d (jit (fun x => f_XM_from mth mn mp mw mu md mo y1 y2 x) i k) = jit (fun x => f_XM_from mth mn mp mw mu md mo y1 y2 x) (i + d) k := by
      intro d
      induction d with
      | zero => intro _; rfl
      | succ d ih =>
        intro hd
        rw [jit_succ, ih (by omega), ← Nat.add_assoc, (hstep (i + d) (by omega)).1]
        unfold jsg
        have ht : f_XM_isTold mth mn mp mw mu md mo y1 (jit (fun x => f_XM_from mth mn mp mw mu md mo y1 y2 x) (i + d) k) ≠ 0 := by
          have := (hstep (i + d - 1) (by omega)).2.2
          rw [show i + d - 1 + 1 = i + d by omega] at this
          exact this
        rw [if_neg ht]
    have h5 := f_XM_isRing_1 mth mn mp mw mu md mo y1 y2 (jit (fun x => f_XM_from mth mn mp mw mu md mo y1 y2 x) i k) d h2 (by omega) ((hsg d h3).trans h4)
    have h6 := (hstep i (by omega)).2.1
    omega
theorem from_dec (mth mn mp mw mu md mo : Int) (y1 y2 : Int → Int) (hy1 : ∀ i, 0 ≤ y1 i ∧ y1 i ≤ 1) (hy2 : ∀ i, 0 ≤ y2 i ∧ y2 i ≤ 30) (k : Int) (hk : 1 ≤ k ∧ k ≤ 30) : jdp (fun x => f_XM_from mth mn mp mw mu md mo y1 y2 x) 41 (f_XM_from mth mn mp mw mu md mo y1 y2 k) < jdp (fun x => f_XM_from mth mn mp mw mu md mo y1 y2 x) 41 k := by
  obtain ⟨n, h1, h2⟩ := from_reach mth mn mp mw mu md mo y1 y2 hy1 hy2 k hk
  exact jdp_step (fun x => f_XM_from mth mn mp mw mu md mo y1 y2 x) n k h2 (by omega) (by omega)
