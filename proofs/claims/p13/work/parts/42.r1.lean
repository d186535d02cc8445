section
theorem jti32 (v : Int32) : i32 v.toInt := ⟨by have := v.le_toInt; simpa using this, by have := v.toInt_lt; simpa using this⟩
noncomputable def g_XM_isDigit (mth : Int) (mn : Int) (mp : Int) (mw : Int) (mu : Int) (md : Int) (mo : Int) (y0 : Int → Int) : Int :=
  f_XM_in (f_XM_here mth mn mp mw mu md mo y0) 48 57
noncomputable def f_XM_isDigit : Int → Int → Int → Int → Int → Int → Int → (Int → Int) → Int := jopq g_XM_isDigit
theorem f_XM_isDigit_q : f_XM_isDigit = g_XM_isDigit := jopq_eq _
theorem f_XM_isDigit_s (mth : Int) (mn : Int) (mp : Int) (mw : Int) (mu : Int) (md : Int) (mo : Int) (y0 : Int → Int) : f_XM_isDigit mth mn mp mw mu md mo y0 = (
    f_XM_in (f_XM_here mth mn mp mw mu md mo y0) 48 57
  : Int) := by rw [f_XM_isDigit_q]; rfl
theorem f_XM_isDigit_b (mth : Int) (mn : Int) (mp : Int) (mw : Int) (mu : Int) (md : Int) (mo : Int) (y0 : Int → Int) (hy0 : ∀ i, 0 ≤ y0 i ∧ y0 i ≤ 255) (hmn : 0 ≤ mn ∧ mn ≤ 400) (hmp : 0 ≤ mp ∧ mp ≤ mn) : ((f_XM_isDigit mth mn mp mw mu md mo y0) = 1 ∧ mp < mn ∧ 48 ≤ y0 mp ∧ y0 mp ≤ 57) ∨ ((f_XM_isDigit mth mn mp mw mu md mo y0) = 0 ∧ (mp = mn ∨ y0 mp < 48 ∨ 57 < y0 mp)) := by have h8 := f_XM_here_b mth mn mp mw mu md mo y0 hy0 hmn hmp; have h7 := f_XM_here_v mth mn mp mw mu md mo y0 hy0 hmn hmp; rw [f_XM_isDigit_s]; have h6 := f_XM_in_b (f_XM_here mth mn mp mw mu md mo y0) 48 57 (by omega) (by decide) (by decide); omega
set_option maxHeartbeats 4000000 in
set_option maxRecDepth 100000 in
theorem c_XM_isDigit (l : Launch) (dC : Nat → ClassId) (dI : Nat → Nat → Nat) (cA cZ : ClassId) (ma : Nat) (a0 : Nat) (a1 : Nat) (a2 : Nat) (a3 : Nat) (a4 : Nat) (a5 : Nat) (a6 : Nat) (a7 : Nat) (a8 : Nat) (a9 : Nat) (a10 : Nat) (a11 : Nat) (mth : Int) (mn : Int) (mp : Int) (mw : Int) (mu : Int) (md : Int) (mo : Int) (y0 : Int → Int) (hy0 : ∀ i, 0 ≤ y0 i ∧ y0 i ≤ 255) (hmn : 0 ≤ mn ∧ mn ≤ 400) (hmp : 0 ≤ mp ∧ mp ≤ mn) : Met l yXM_isDigit (Cond.code yXM_isDigit cXM_isDigit 1 (some .boolean) :: TBL) ({ frames := 1, cells := 0, slots := 0, locals := 22 } : Room) (va_Pc [.ref ma] (jB (dC, dI) [(cA, .int), (cZ, .boolean)] [(ma, .inr (5, [.int (jI mth), .int (jI mn), .ref a0, .int (jI mp), .int (jI mw), .ref a1, .ref a2, .ref a3, .ref a4, .ref a5, .ref a6, .ref a7, .ref a8, .ref a9, .ref a10, .long (jL mu), .long (jL md), .int (jI mo), .ref a11])), (a0, .inl (cA, 400, .inl (jA y0)))])) (vp_Si (fun r => r = jI (f_XM_isDigit mth mn mp mw mu md mo y0))) 0 0 (fun _ => False) := by
  refine jMet (cc := cXM_isDigit) (maxL := 1) (ret := some .boolean) (by decide) rfl ?_
  intro p e s m args below meth c s₁ R Q hR hQ B hml hv
  obtain ⟨rfl, hP, hK, hN⟩ := hv
  have hx := B.exec
  have hb := B.bytes
  have hr := B.returns
  have hts := atoms_spec (ws := Cond.code yXM_isDigit cXM_isDigit 1 (some .boolean) :: TBL) B.pre
  have hown : s.vm.findClass RXM = some m.cls := findClass_of_methodNamed B.named
  have hlocks := B.notSynchronized
  have hP : va_P (dC, dI) vwCl [(ma, .inr (5, [.int (jI mth), .int (jI mn), .ref a0, .int (jI mp), .int (jI mw), .ref a1, .ref a2, .ref a3, .ref a4, .ref a5, .ref a6, .ref a7, .ref a8, .ref a9, .ref a10, .long (jL mu), .long (jL md), .int (jI mo), .ref a11])), (a0, .inl (cA, 400, .inl (jA y0)))] s.heap := hP
  have hl := lv_entry ([.ref ma]) (n := 1) (Nat.le_of_ble_eq_true rfl)
  rw [lg_entry_eq]
  generalize (lg_sl ([.ref ma]) ++ List.replicate (1 - (lg_sl ([.ref ma])).length) Slot.unset).toArray = ls at hl ⊢
  have hl : lv_has ls 1 [(0, .ref ma)] := hl
  refine lv_aload_n hx hb dXM_isDigit_0 rfl (lv_at hl 0 rfl) ?_
  refine jrVi (rest := []) ⟨hx, hb, hml, hown, hts⟩ (c_XM_here l dC dI cA cZ ma a0 a1 a2 a3 a4 a5 a6 a7 a8 a9 a10 a11 mth mn mp mw mu md mo y0 (by first | assumption | omega) (by first | assumption | omega) (by first | assumption | omega)) (cwV 0 hts (jG_V tw_714 tw_716 ts_17 tw_6 tw_717) rfl rfl rfl (by decide +kernel) (by rw [hR]; exact ⟨Nat.le_of_ble_eq_true rfl, Nat.le_of_ble_eq_true rfl⟩)) hK hP hN [0, 1] rfl 0 5 rfl rfl rfl rfl hl.1 rfl (Nat.le_of_ble_eq_true rfl) dXM_isDigit_1 (by rw [hR]; exact ⟨Nat.le_of_ble_eq_true rfl, Nat.le_of_ble_eq_true rfl⟩) ?_
  have f := f_XM_here_b mth mn mp mw mu md mo y0 (by first | assumption | omega) (by first | assumption | omega) (by first | assumption | omega)
  have f1 := f_XM_here_v mth mn mp mw mu md mo y0 (by first | assumption | omega) (by first | assumption | omega) (by first | assumption | omega)
  refine ji_bipush hx hb dXM_isDigit_4 (by decide) ?_
  refine ji_bipush hx hb dXM_isDigit_6 (by decide) ?_
  refine jrSi (rest := []) ⟨hx, hb, hml, hown, hts⟩ (c_XM_in l dC dI cA cZ (f_XM_here mth mn mp mw mu md mo y0) 48 57 (by first | assumption | omega) (by first | assumption | omega) (by first | assumption | omega)) (cwS 3 hts (jG_S tw_695 tw_696 tw_6 tw_697) rfl rfl rfl (by decide +kernel) (by rw [hR]; exact ⟨Nat.le_of_ble_eq_true rfl, Nat.le_of_ble_eq_true rfl⟩)) hK hP hN [] rfl rfl hl.1 rfl (Nat.le_of_ble_eq_true rfl) dXM_isDigit_8 (by rw [hR]; exact ⟨Nat.le_of_ble_eq_true rfl, Nat.le_of_ble_eq_true rfl⟩) ?_
  have f2 := f_XM_in_b (f_XM_here mth mn mp mw mu md mo y0) 48 57 (by first | assumption | omega) (by first | assumption | omega) (by first | assumption | omega)
  subst hQ
  exact W.zret (v := jI (f_XM_in (f_XM_here mth mn mp mw mu md mo y0) 48 57)) hx hb hr (by first | decide | exact jz (by omega)) (fun t ht hW => ⟨_, rfl, congrArg jI (Eq.trans (by rw [f_XM_isDigit_s]; try rfl) rfl), ht⟩) (fun _ h => nomatch h) dXM_isDigit_11
end
section
/-! the chain of parents comes to its end -/
def jdp (F : Int → Int) : Nat → Int → Int
  | 0, _ => 0
  | n + 1, k => if k ≤ 0 then 0 else 1 + jdp F n (F k)
def jit (F : Int → Int) : Nat → Int → Int
  | 0, k => k
  | n + 1, k => jit F n (F k)
theorem jit_succ (F : Int → Int) : ∀ (n : Nat) (k : Int), jit F (n + 1) k = F (jit F n k) := by
  intro n
  induction n with
  | zero => intro k; rfl
  | succ n ih => intro k; exact ih (F k)
theorem jdp_nn (F : Int → Int) : ∀ (n : Nat) (k : Int), 0 ≤ jdp F n k := by
  intro n
  induction n with
  | zero => intro k; exact Int.le_refl 0
  | succ n ih =>
    intro k
    show 0 ≤ (if k ≤ 0 then 0 else 1 + jdp F n (F k))
    have := ih (F k)
    split <;> omega
theorem jdp_end (F : Int → Int) (n : Nat) (k : Int) (h : k ≤ 0) : jdp F n k = 0 := by
  cases n with
  | zero => rfl
  | succ n => exact if_pos h
theorem jdp_stable (F : Int → Int) : ∀ (n m : Nat) (k : Int), jit F n k ≤ 0 → n ≤ m → jdp F m k = jdp F n k := by
  intro n
  induction n with
  | zero => intro m k h _; rw [jdp_end F m k h, jdp_end F 0 k h]
  | succ n ih =>
    intro m k h hm
    cases m with
    | zero => omega
    | succ m =>
      show (if k ≤ 0 then 0 else 1 + jdp F m (F k)) = (if k ≤ 0 then 0 else 1 + jdp F n (F k))
      rw [ih m (F k) h (by omega)]
theorem jdp_step (F : Int → Int) (n : Nat) (k : Int) (h : jit F n k ≤ 0) (hn : n ≤ 40) (hk : 0 < k) : jdp F 41 (F k) < jdp F 41 k := by
  cases n with
  | zero => exact absurd h (by show ¬ k ≤ 0; omega)
  | succ n =>
    have h1 : jit F n (F k) ≤ 0 := h
    have e1 : jdp F 41 k = 1 + jdp F 40 (F k) := if_neg (by omega)
    rw [e1, jdp_stable F n 41 (F k) h1 (by omega), jdp_stable F n 40 (F k) h1 (by omega)]
    omega
/-- two of more values than places are the same -/
theorem jpig : ∀ (N : Nat) (f : Nat → Nat), (∀ i, i < N + 1 → f i < N) → ∃ i j, i < j ∧ j < N + 1 ∧ f i = f j := by
  intro N
  induction N with
  | zero => intro f h; exact absurd (h 0 (by omega)) (by omega)
  | succ N ih =>
    intro f h
    by_cases hx : ∃ i, i < N + 1 ∧ f i = f (N + 1)
    · obtain ⟨i, h1, h2⟩ := hx
      exact ⟨i, N + 1, h1, by omega, h2⟩
    · have hne : ∀ i, i < N + 1 → f i ≠ f (N + 1) := fun i h1 h2 => hx ⟨i, h1, h2⟩
      have hl := h (N + 1) (by omega)
      obtain ⟨i, j, h1, h2, h3⟩ := ih (fun i => if f i < f (N + 1) then f i else f i - 1) (fun i hi => by
        have a := h i (by omega)
        have b := hne i hi
        show (if f i < f (N + 1) then f i else f i - 1) < N
        split <;> omega)
      have a := hne i (by omega)
      have b := hne j h2
      have h3 : (if f i < f (N + 1) then f i else f i - 1) = (if f j < f (N + 1) then f j else f j - 1) := h3
      refine ⟨i, j, h1, by omega, ?_⟩
      (repeat' split at h3) <;> omega
/-- a walk that goes on for 31 steps in 1 .. 30 comes back to where it was -/
theorem jback (x : Nat → Int) (h : ∀ n, 1 ≤ n → n ≤ 31 → 1 ≤ x n ∧ x n ≤ 30) : ∃ i d, 1 ≤ i ∧ 1 ≤ d ∧ i + d ≤ 31 ∧ x (i + d) = x i := by
  obtain ⟨i, j, h1, h2, h3⟩ := jpig 30 (fun n => (x (n + 1) - 1).toNat) (fun i hi => by
    have := h (i + 1) (by omega) (by omega)
    show (x (i + 1) - 1).toNat < 30
    omega)
  have a := h (i + 1) (by omega) (by omega)
  have b := h (j + 1) (by omega) (by omega)
  have h3 : (x (i + 1) - 1).toNat = (x (j + 1) - 1).toNat := h3
  refine ⟨i + 1, j - i, by omega, by omega, by omega, ?_⟩
  rw [show i + 1 + (j - i) = j + 1 by omega]
  omega
noncomputable def g_XM_isRing_L4 (mth : Int) (mn : Int) (mp : Int) (mw : Int) (mu : Int) (md : Int) (mo : Int) (y1 : Int → Int) (y2 : Int → Int) (z1 : Int) : Nat → Int → Int → Int
  | 0, _, _ => 0
  | n9 + 1, k, i9 =>
    if i9 < 31 then
      if (f_XM_isTold mth mn mp mw mu md mo y1 k) = 0 then
        if 0 = z1 then
          1
        else
          g_XM_isRing_L4 mth mn mp mw mu md mo y1 y2 z1 n9 0 (i9 + 1)
      else
        if (y2 k) = z1 then
          1
        else
          g_XM_isRing_L4 mth mn mp mw mu md mo y1 y2 z1 n9 (y2 k) (i9 + 1)
    else
      0
noncomputable def f_XM_isRing_L4 : Int → Int → Int → Int → Int → Int → Int → (Int → Int) → (Int → Int) → Int → Nat → Int → Int → Int := jopq g_XM_isRing_L4
theorem f_XM_isRing_L4_q : f_XM_isRing_L4 = g_XM_isRing_L4 := jopq_eq _
theorem f_XM_isRing_L4_s (mth : Int) (mn : Int) (mp : Int) (mw : Int) (mu : Int) (md : Int) (mo : Int) (y1 : Int → Int) (y2 : Int → Int) (z1 : Int) (n9 : Nat) (k : Int) (i9 : Int) : f_XM_isRing_L4 mth mn mp mw mu md mo y1 y2 z1 (n9 + 1) k i9 = (
    if i9 < 31 then
      if (f_XM_isTold mth mn mp mw mu md mo y1 k) = 0 then
        if 0 = z1 then
          1
        else
          f_XM_isRing_L4 mth mn mp mw mu md mo y1 y2 z1 n9 0 (i9 + 1)
      else
        if (y2 k) = z1 then
          1
        else
          f_XM_isRing_L4 mth mn mp mw mu md mo y1 y2 z1 n9 (y2 k) (i9 + 1)
    else
      0
  : Int) := by rw [f_XM_isRing_L4_q]; rfl
theorem f_XM_isRing_L4_z (mth : Int) (mn : Int) (mp : Int) (mw : Int) (mu : Int) (md : Int) (mo : Int) (y1 : Int → Int) (y2 : Int → Int) (z1 : Int) (k : Int) (i9 : Int) : f_XM_isRing_L4 mth mn mp mw mu md mo y1 y2 z1 0 k i9 = 0 := by rw [f_XM_isRing_L4_q]; rfl
noncomputable def g_XM_isRing (mth : Int) (mn : Int) (mp : Int) (mw : Int) (mu : Int) (md : Int) (mo : Int) (y1 : Int → Int) (y2 : Int → Int) (z1 : Int) : Int :=
  f_XM_isRing_L4 mth mn mp mw mu md mo y1 y2 z1 (Int.toNat (31 - 0) + 1) z1 0
noncomputable def f_XM_isRing : Int → Int → Int → Int → Int → Int → Int → (Int → Int) → (Int → Int) → Int → Int := jopq g_XM_isRing
theorem f_XM_isRing_q : f_XM_isRing = g_XM_isRing := jopq_eq _
theorem f_XM_isRing_s (mth : Int) (mn : Int) (mp : Int) (mw : Int) (mu : Int) (md : Int) (mo : Int) (y1 : Int → Int) (y2 : Int → Int) (z1 : Int) : f_XM_isRing mth mn mp mw mu md mo y1 y2 z1 = (
    f_XM_isRing_L4 mth mn mp mw mu md mo y1 y2 z1 (Int.toNat (31 - 0) + 1) z1 0
  : Int) := by rw [f_XM_isRing_q]; rfl
theorem f_XM_isRing_Lb (mth mn mp mw mu md mo : Int) (y1 y2 : Int → Int) (z1 : Int) : ∀ (n : Nat) (k i9 : Int), 0 ≤ f_XM_isRing_L4 mth mn mp mw mu md mo y1 y2 z1 n k i9 ∧ f_XM_isRing_L4 mth mn mp mw mu md mo y1 y2 z1 n k i9 ≤ 1 := by
  intro n
  induction n with
  | zero => intro k i9; rw [f_XM_isRing_L4_z]; decide
  | succ n ih =>
    intro k i9
    rw [f_XM_isRing_L4_s]
    (repeat' split) <;> first | decide | exact ih _ _
theorem f_XM_isRing_b (mth : Int) (mn : Int) (mp : Int) (mw : Int) (mu : Int) (md : Int) (mo : Int) (y1 : Int → Int) (y2 : Int → Int) (z1 : Int) (hy1 : ∀ i, 0 ≤ y1 i ∧ y1 i ≤ 1) (hy2 : ∀ i, 0 ≤ y2 i ∧ y2 i ≤ 30) (hz1 : 1 ≤ z1 ∧ z1 ≤ 30) : 0 ≤ (f_XM_isRing mth mn mp mw mu md mo y1 y2 z1) ∧ (f_XM_isRing mth mn mp mw mu md mo y1 y2 z1) ≤ 1 := by rw [f_XM_isRing_s]; exact f_XM_isRing_Lb mth mn mp mw mu md mo y1 y2 z1 _ _ _
set_option maxHeartbeats 4000000 in
set_option maxRecDepth 100000 in
theorem c_XM_isRing (l : Launch) (dC : Nat → ClassId) (dI : Nat → Nat → Nat) (cA cZ : ClassId) (ma : Nat) (a0 : Nat) (a1 : Nat) (a2 : Nat) (a3 : Nat) (a4 : Nat) (a5 : Nat) (a6 : Nat) (a7 : Nat) (a8 : Nat) (a9 : Nat) (a10 : Nat) (a11 : Nat) (mth : Int) (mn : Int) (mp : Int) (mw : Int) (mu : Int) (md : Int) (mo : Int) (y1 : Int → Int) (y2 : Int → Int) (z1 : Int) (hy1 : ∀ i, 0 ≤ y1 i ∧ y1 i ≤ 1) (hy2 : ∀ i, 0 ≤ y2 i ∧ y2 i ≤ 30) (hz1 : 1 ≤ z1 ∧ z1 ≤ 30) : Met l yXM_isRing (Cond.code yXM_isRing cXM_isRing 4 (some .boolean) :: TBL) ({ frames := 2, cells := 0, slots := 0, locals := 43 } : Room) (va_Pc [.ref ma, .int (jI z1)] (jB (dC, dI) [(cA, .int), (cZ, .boolean)] [(ma, .inr (5, [.int (jI mth), .int (jI mn), .ref a0, .int (jI mp), .int (jI mw), .ref a1, .ref a2, .ref a3, .ref a4, .ref a5, .ref a6, .ref a7, .ref a8, .ref a9, .ref a10, .long (jL mu), .long (jL md), .int (jI mo), .ref a11])), (a1, .inl (cZ, 62, .inl (jA y1))), (a2, .inl (cA, 62, .inl (jA y2)))])) (vp_Si (fun r => r = jI (f_XM_isRing mth mn mp mw mu md mo y1 y2 z1))) 0 0 (fun _ => False) := by
  refine jMet (cc := cXM_isRing) (maxL := 4) (ret := some .boolean) (by decide) rfl ?_
  intro p e s m args below meth c s₁ R Q hR hQ B hml hv
  obtain ⟨rfl, hP, hK, hN⟩ := hv
  have hx := B.exec
  have hb := B.bytes
  have hr := B.returns
  have hts := atoms_spec (ws := Cond.code yXM_isRing cXM_isRing 4 (some .boolean) :: TBL) B.pre
  have hown : s.vm.findClass RXM = some m.cls := findClass_of_methodNamed B.named
  have hlocks := B.notSynchronized
  have hP : va_P (dC, dI) vwCl [(ma, .inr (5, [.int (jI mth), .int (jI mn), .ref a0, .int (jI mp), .int (jI mw), .ref a1, .ref a2, .ref a3, .ref a4, .ref a5, .ref a6, .ref a7, .ref a8, .ref a9, .ref a10, .long (jL mu), .long (jL md), .int (jI mo), .ref a11])), (a1, .inl (cZ, 62, .inl (jA y1))), (a2, .inl (cA, 62, .inl (jA y2)))] s.heap := hP
  have hl := lv_entry ([.ref ma, .int (jI z1)]) (n := 4) (Nat.le_of_ble_eq_true rfl)
  rw [lg_entry_eq]
  generalize (lg_sl ([.ref ma, .int (jI z1)]) ++ List.replicate (4 - (lg_sl ([.ref ma, .int (jI z1)])).length) Slot.unset).toArray = ls at hl ⊢
  have hl : lv_has ls 4 [(0, .ref ma), (1, .int (jI z1))] := hl
  refine lv_iload_n hx hb dXM_isRing_0 rfl (lv_at hl 1 rfl) ?_
  refine lv_istore_n (lv' := [(2, .int (jI z1)), (0, .ref ma), (1, .int (jI z1))]) hx hb dXM_isRing_1 rfl hl (by decide) rfl (fun ls hl => ?_)
  refine ji_iconst hx hb dXM_isRing_2 ?_
  refine lv_istore_n (lv' := [(3, .int (jI 0)), (2, .int (jI z1)), (0, .ref ma), (1, .int (jI z1))]) hx hb dXM_isRing_3 rfl hl (by decide) rfl (fun ls hl => ?_)
  have loop4 : ∀ (n9 : Nat) (k : Int) (i9 : Int) , 31 - i9 < (n9 : Int) → f_XM_isRing_L4 mth mn mp mw mu md mo y1 y2 z1 n9 k i9 = f_XM_isRing mth mn mp mw mu md mo y1 y2 z1 → (0 ≤ k ∧ k ≤ 30) → (0 ≤ i9 ∧ i9 ≤ 31) → ∀ ls : Array Slot, lv_has ls 4 [(3, .int (jI i9)), (2, .int (jI k)), (0, .ref ma), (1, .int (jI z1))] → W p l e R s m ([.ref ma, .int (jI z1)] : List Value).toArray below meth c s.heap [] 0 0 Q (F0 m 4 ls []) := by
    intro n9
    induction n9 with
    | zero =>
      intro k i9 hm hF hk hi9
      exact absurd hm (by omega)
    | succ n9 ih4 =>
      intro k i9 hm hF hk hi9 ls hl
      refine lv_iload_n hx hb dXM_isRing_4 rfl (lv_at hl 0 rfl) ?_
      refine ji_bipush hx hb dXM_isRing_5 (by decide) ?_
      refine ji_icmp_ge (tgt := 42) hx hb dXM_isRing_7 (by decide) (by omega) (by omega) (fun c7_ => ?_) (fun c7_ => ?_)
      · refine ji_iconst hx hb dXM_isRing_42 ?_
        subst hQ
        exact W.zret (v := jI 0) hx hb hr (by first | decide | exact jz (by omega)) (fun t ht hW => ⟨_, rfl, congrArg jI (Eq.trans (by rw [f_XM_isRing_L4_s]; rw [if_neg (Int.not_lt.mpr c7_)]; try rfl) hF), ht⟩) (fun _ h => nomatch h) dXM_isRing_43
      · refine lv_aload_n hx hb dXM_isRing_10 rfl (lv_at hl 2 rfl) ?_
        refine lv_iload_n hx hb dXM_isRing_11 rfl (lv_at hl 1 rfl) ?_
        refine jrVi (rest := []) ⟨hx, hb, hml, hown, hts⟩ (c_XM_isTold l dC dI cA cZ ma a0 a1 a2 a3 a4 a5 a6 a7 a8 a9 a10 a11 mth mn mp mw mu md mo y1 k (by first | assumption | omega) (by first | assumption | omega)) (cwV 1 hts (jG_V tw_768 tw_770 ts_29 tw_6 tw_771) rfl rfl rfl (by decide +kernel) (by rw [hR]; exact ⟨Nat.le_of_ble_eq_true rfl, Nat.le_of_ble_eq_true rfl⟩)) hK hP hN [0, 1] rfl 0 5 rfl rfl rfl rfl hl.1 rfl (Nat.le_of_ble_eq_true rfl) dXM_isRing_12 (by rw [hR]; exact ⟨Nat.le_of_ble_eq_true rfl, Nat.le_of_ble_eq_true rfl⟩) ?_
        have f := f_XM_isTold_b mth mn mp mw mu md mo y1 k (by first | assumption | omega) (by first | assumption | omega)
        refine ji_if_eq (tgt := 27) hx hb dXM_isRing_15 (by decide) (by omega) (fun c15_ => ?_) (fun c15_ => ?_)
        · refine ji_iconst hx hb dXM_isRing_27 ?_
          refine lv_istore_n (lv' := [(2, .int (jI 0)), (3, .int (jI i9)), (0, .ref ma), (1, .int (jI z1))]) hx hb dXM_isRing_28 rfl hl (by decide) rfl (fun ls hl => ?_)
          refine lv_iload_n hx hb dXM_isRing_29 rfl (lv_at hl 0 rfl) ?_
          refine lv_iload_n hx hb dXM_isRing_30 rfl (lv_at hl 3 rfl) ?_
          refine ji_icmp_ne (tgt := 36) hx hb dXM_isRing_31 (by decide) (by omega) (by omega) (fun c31_ => ?_) (fun c31_ => ?_)
          · refine ji_iinc (k := 1) (lv' := [(3, .int (jI (i9 + 1))), (2, .int (jI 0)), (0, .ref ma), (1, .int (jI z1))]) hx hb dXM_isRing_36 hl rfl (by decide) rfl (fun ls hl => ?_)
            refine lv_goto (tgt := 4) hx hb dXM_isRing_39 (by decide) ?_
            exact ih4 0 (i9 + 1) (by omega) (Eq.trans (by rw [f_XM_isRing_L4_s]; rw [if_pos c7_, if_pos c15_, if_neg c31_]; try rfl) hF) (by first | assumption | omega) (by first | assumption | omega) ls (lv_sub hl [0, 1, 2, 3] rfl)
          · refine ji_iconst hx hb dXM_isRing_34 ?_
            subst hQ
            exact W.zret (v := jI 1) hx hb hr (by first | decide | exact jz (by omega)) (fun t ht hW => ⟨_, rfl, congrArg jI (Eq.trans (by rw [f_XM_isRing_L4_s]; rw [if_pos c7_, if_pos c15_, if_pos c31_]; try rfl) hF), ht⟩) (fun _ h => nomatch h) dXM_isRing_35
        · refine lv_aload_n hx hb dXM_isRing_18 rfl (lv_at hl 2 rfl) ?_
          refine va_get (D := (dC, dI)) (ci := 5) (v := .ref a2) (C := RXM) (T := TXM) (N := 19) hx hb hts (fun w h => jmem (inXM w h)) hown hK hP 0 rfl rfl 6 (by decide) (hts _ (jmem tw_634)) (fun _ h9 => h9) rfl dXM_isRing_19 ?_
          refine lv_iload_n hx hb dXM_isRing_22 rfl (lv_at hl 1 rfl) ?_
          refine ji_iald hx hb hK hP 2 0 rfl rfl ⟨by omega, by omega⟩ (by decide) dXM_isRing_23 ?_
          have rb := hy2 k
          refine lv_goto (tgt := 28) hx hb dXM_isRing_24 (by decide) ?_
          refine lv_istore_n (lv' := [(2, .int (jI (y2 k))), (3, .int (jI i9)), (0, .ref ma), (1, .int (jI z1))]) hx hb dXM_isRing_28 rfl hl (by decide) rfl (fun ls hl => ?_)
          refine lv_iload_n hx hb dXM_isRing_29 rfl (lv_at hl 0 rfl) ?_
          refine lv_iload_n hx hb dXM_isRing_30 rfl (lv_at hl 3 rfl) ?_
          refine ji_icmp_ne (tgt := 36) hx hb dXM_isRing_31 (by decide) (by omega) (by omega) (fun c31_1 => ?_) (fun c31_1 => ?_)
          · refine ji_iinc (k := 1) (lv' := [(3, .int (jI (i9 + 1))), (2, .int (jI (y2 k))), (0, .ref ma), (1, .int (jI z1))]) hx hb dXM_isRing_36 hl rfl (by decide) rfl (fun ls hl => ?_)
            refine lv_goto (tgt := 4) hx hb dXM_isRing_39 (by decide) ?_
            exact ih4 (y2 k) (i9 + 1) (by omega) (Eq.trans (by rw [f_XM_isRing_L4_s]; rw [if_pos c7_, if_neg c15_, if_neg c31_1]; try rfl) hF) (by first | assumption | omega) (by first | assumption | omega) ls (lv_sub hl [0, 1, 2, 3] rfl)
          · refine ji_iconst hx hb dXM_isRing_34 ?_
            subst hQ
            exact W.zret (v := jI 1) hx hb hr (by first | decide | exact jz (by omega)) (fun t ht hW => ⟨_, rfl, congrArg jI (Eq.trans (by rw [f_XM_isRing_L4_s]; rw [if_pos c7_, if_neg c15_, if_pos c31_1]; try rfl) hF), ht⟩) (fun _ h => nomatch h) dXM_isRing_35
  exact loop4 (Int.toNat (31 - 0) + 1) z1 0 (by omega) (Eq.trans (by rw [f_XM_isRing_s]; try rfl) rfl) (by first | assumption | omega) (by first | assumption | omega) ls (lv_sub hl [0, 1, 2, 3] rfl)
noncomputable def jsg (mth mn mp mw mu md mo : Int) (y1 y2 : Int → Int) (k : Int) : Int := if (f_XM_isTold mth mn mp mw mu md mo y1 k) = 0 then 0 else y2 k
theorem f_XM_isRing_L1 (mth mn mp mw mu md mo : Int) (y1 y2 : Int → Int) (z1 : Int) : ∀ (d n : Nat) (k i9 : Int), 1 ≤ d → i9 + d ≤ 31 → 31 - i9 < (n : Int) → jit (jsg mth mn mp mw mu md mo y1 y2) d k = z1 → f_XM_isRing_L4 mth mn mp mw mu md mo y1 y2 z1 n k i9 = 1 := by
  intro d
  induction d with
  | zero => intro n k i9 h; omega
  | succ d ih =>
    intro n k i9 h1 h2 h3 h4
    cases n with
    | zero => omega
    | succ n =>
      have h4 : jit (jsg mth mn mp mw mu md mo y1 y2) d (jsg mth mn mp mw mu md mo y1 y2 k) = z1 := h4
      have key : ∀ v : Int, v = jsg mth mn mp mw mu md mo y1 y2 k → v ≠ z1 → f_XM_isRing_L4 mth mn mp mw mu md mo y1 y2 z1 n v (i9 + 1) = 1 := by
        intro v hv hne
        cases d with
        | zero => exact absurd (show jsg mth mn mp mw mu md mo y1 y2 k = z1 from h4) (by rw [← hv]; exact hne)
        | succ d => exact ih n v (i9 + 1) (by omega) (by omega) (by omega) (by rw [hv]; exact h4)
      rw [f_XM_isRing_L4_s, if_pos (by omega)]
      by_cases ht : (f_XM_isTold mth mn mp mw mu md mo y1 k) = 0
      · rw [if_pos ht]
        by_cases hz : (0 : Int) = z1
        · rw [if_pos hz]
        · rw [if_neg hz]; exact key 0 (by unfold jsg; rw [if_pos ht]) hz
      · rw [if_neg ht]
        by_cases hz : y2 k = z1
        · rw [if_pos hz]
        · rw [if_neg hz]; exact key (y2 k) (by unfold jsg; rw [if_neg ht]) hz
theorem f_XM_isRing_1 (mth mn mp mw mu md mo : Int) (y1 y2 : Int → Int) (z1 : Int) (d : Nat) (h1 : 1 ≤ d) (h2 : d ≤ 31) (h : jit (jsg mth mn mp mw mu md mo y1 y2) d z1 = z1) : f_XM_isRing mth mn mp mw mu md mo y1 y2 z1 = 1 := by
  rw [f_XM_isRing_s]
  exact f_XM_isRing_L1 mth mn mp mw mu md mo y1 y2 z1 d _ z1 0 h1 (by omega) (by decide) h
noncomputable def g_XM_from (mth : Int) (mn : Int) (mp : Int) (mw : Int) (mu : Int) (md : Int) (mo : Int) (y1 : Int → Int) (y2 : Int → Int) (z1 : Int) : Int :=
  if (f_XM_isRing mth mn mp mw mu md mo y1 y2 z1) = 0 then
    if (f_XM_isTold mth mn mp mw mu md mo y1 (y2 z1)) = 0 then
      0
    else
      y2 z1
  else
    0
noncomputable def f_XM_from : Int → Int → Int → Int → Int → Int → Int → (Int → Int) → (Int → Int) → Int → Int := jopq g_XM_from
theorem f_XM_from_q : f_XM_from = g_XM_from := jopq_eq _
theorem f_XM_from_s (mth : Int) (mn : Int) (mp : Int) (mw : Int) (mu : Int) (md : Int) (mo : Int) (y1 : Int → Int) (y2 : Int → Int) (z1 : Int) : f_XM_from mth mn mp mw mu md mo y1 y2 z1 = (
    if (f_XM_isRing mth mn mp mw mu md mo y1 y2 z1) = 0 then
      if (f_XM_isTold mth mn mp mw mu md mo y1 (y2 z1)) = 0 then
        0
      else
        y2 z1
    else
      0
  : Int) := by rw [f_XM_from_q]; rfl
theorem f_XM_from_b (mth : Int) (mn : Int) (mp : Int) (mw : Int) (mu : Int) (md : Int) (mo : Int) (y1 : Int → Int) (y2 : Int → Int) (z1 : Int) (hy1 : ∀ i, 0 ≤ y1 i ∧ y1 i ≤ 1) (hy2 : ∀ i, 0 ≤ y2 i ∧ y2 i ≤ 30) (hz1 : 1 ≤ z1 ∧ z1 ≤ 30) : (f_XM_from mth mn mp mw mu md mo y1 y2 z1) = 0 ∨ (1 ≤ (f_XM_from mth mn mp mw mu md mo y1 y2 z1) ∧ (f_XM_from mth mn mp mw mu md mo y1 y2 z1) ≤ 30 ∧ (f_XM_from mth mn mp mw mu md mo y1 y2 z1) = y2 z1 ∧ f_XM_isRing mth mn mp mw mu md mo y1 y2 z1 = 0 ∧ f_XM_isTold mth mn mp mw mu md mo y1 (y2 z1) ≠ 0) := by have h8 := hy2 z1; have h7 := f_XM_isTold_b mth mn mp mw mu md mo y1 (y2 z1) hy1 (by omega); have h6 := f_XM_isRing_b mth mn mp mw mu md mo y1 y2 z1 hy1 hy2 hz1; rw [f_XM_from_s]; (repeat' split) <;> omega
set_option maxHeartbeats 4000000 in
set_option maxRecDepth 100000 in
theorem c_XM_from (l : Launch) (dC : Nat → ClassId) (dI : Nat → Nat → Nat) (cA cZ : ClassId) (ma : Nat) (a0 : Nat) (a1 : Nat) (a2 : Nat) (a3 : Nat) (a4 : Nat) (a5 : Nat) (a6 : Nat) (a7 : Nat) (a8 : Nat) (a9 : Nat) (a10 : Nat) (a11 : Nat) (mth : Int) (mn : Int) (mp : Int) (mw : Int) (mu : Int) (md : Int) (mo : Int) (y1 : Int → Int) (y2 : Int → Int) (z1 : Int) (hy1 : ∀ i, 0 ≤ y1 i ∧ y1 i ≤ 1) (hy2 : ∀ i, 0 ≤ y2 i ∧ y2 i ≤ 30) (hz1 : 1 ≤ z1 ∧ z1 ≤ 30) : Met l yXM_from (Cond.code yXM_from cXM_from 2 (some .int) :: TBL) ({ frames := 3, cells := 0, slots := 0, locals := 66 } : Room) (va_Pc [.ref ma, .int (jI z1)] (jB (dC, dI) [(cA, .int), (cZ, .boolean)] [(ma, .inr (5, [.int (jI mth), .int (jI mn), .ref a0, .int (jI mp), .int (jI mw), .ref a1, .ref a2, .ref a3, .ref a4, .ref a5, .ref a6, .ref a7, .ref a8, .ref a9, .ref a10, .long (jL mu), .long (jL md), .int (jI mo), .ref a11])), (a1, .inl (cZ, 62, .inl (jA y1))), (a2, .inl (cA, 62, .inl (jA y2)))])) (vp_Si (fun r => r = jI (f_XM_from mth mn mp mw mu md mo y1 y2 z1))) 0 0 (fun _ => False) := by
  refine jMet (cc := cXM_from) (maxL := 2) (ret := some .int) (by decide) rfl ?_
  intro p e s m args below meth c s₁ R Q hR hQ B hml hv
  obtain ⟨rfl, hP, hK, hN⟩ := hv
  have hx := B.exec
  have hb := B.bytes
  have hr := B.returns
  have hts := atoms_spec (ws := Cond.code yXM_from cXM_from 2 (some .int) :: TBL) B.pre
  have hown : s.vm.findClass RXM = some m.cls := findClass_of_methodNamed B.named
  have hlocks := B.notSynchronized
  have hP : va_P (dC, dI) vwCl [(ma, .inr (5, [.int (jI mth), .int (jI mn), .ref a0, .int (jI mp), .int (jI mw), .ref a1, .ref a2, .ref a3, .ref a4, .ref a5, .ref a6, .ref a7, .ref a8, .ref a9, .ref a10, .long (jL mu), .long (jL md), .int (jI mo), .ref a11])), (a1, .inl (cZ, 62, .inl (jA y1))), (a2, .inl (cA, 62, .inl (jA y2)))] s.heap := hP
  have hl := lv_entry ([.ref ma, .int (jI z1)]) (n := 2) (Nat.le_of_ble_eq_true rfl)
  rw [lg_entry_eq]
  generalize (lg_sl ([.ref ma, .int (jI z1)]) ++ List.replicate (2 - (lg_sl ([.ref ma, .int (jI z1)])).length) Slot.unset).toArray = ls at hl ⊢
  have hl : lv_has ls 2 [(0, .ref ma), (1, .int (jI z1))] := hl
  refine lv_aload_n hx hb dXM_from_0 rfl (lv_at hl 0 rfl) ?_
  refine lv_iload_n hx hb dXM_from_1 rfl (lv_at hl 1 rfl) ?_
  refine jrVi (rest := []) ⟨hx, hb, hml, hown, hts⟩ (c_XM_isRing l dC dI cA cZ ma a0 a1 a2 a3 a4 a5 a6 a7 a8 a9 a10 a11 mth mn mp mw mu md mo y1 y2 z1 (by first | assumption | omega) (by first | assumption | omega) (by first | assumption | omega)) (cwV 1 hts (jG_V tw_783 tw_785 ts_32 tw_6 tw_786) rfl rfl rfl (by decide +kernel) (by rw [hR]; exact ⟨Nat.le_of_ble_eq_true rfl, Nat.le_of_ble_eq_true rfl⟩)) hK hP hN [0, 1, 2] rfl 0 5 rfl rfl rfl rfl hl.1 rfl (Nat.le_of_ble_eq_true rfl) dXM_from_2 (by rw [hR]; exact ⟨Nat.le_of_ble_eq_true rfl, Nat.le_of_ble_eq_true rfl⟩) ?_
  have f := f_XM_isRing_b mth mn mp mw mu md mo y1 y2 z1 (by first | assumption | omega) (by first | assumption | omega) (by first | assumption | omega)
  refine ji_if_ne (tgt := 21) hx hb dXM_from_5 (by decide) (by omega) (fun c5_ => ?_) (fun c5_ => ?_)
  · refine ji_iconst hx hb dXM_from_21 ?_
    refine lv_goto (tgt := 31) hx hb dXM_from_22 (by decide) ?_
    subst hQ
    exact W.iret (v := jI 0) hx hb hr (fun t ht hW => ⟨_, rfl, congrArg jI (Eq.trans (by rw [f_XM_from_s]; rw [if_neg c5_]; try rfl) rfl), ht⟩) (fun _ h => nomatch h) dXM_from_31
  · refine lv_aload_n hx hb dXM_from_8 rfl (lv_at hl 0 rfl) ?_
    refine lv_aload_n hx hb dXM_from_9 rfl (lv_at hl 0 rfl) ?_
    refine va_get (D := (dC, dI)) (ci := 5) (v := .ref a2) (C := RXM) (T := TXM) (N := 19) hx hb hts (fun w h => jmem (inXM w h)) hown hK hP 0 rfl rfl 6 (by decide) (hts _ (jmem tw_634)) (fun _ h9 => h9) rfl dXM_from_10 ?_
    refine lv_iload_n hx hb dXM_from_13 rfl (lv_at hl 1 rfl) ?_
    refine ji_iald hx hb hK hP 2 0 rfl rfl ⟨by omega, by omega⟩ (by decide) dXM_from_14 ?_
    have rb := hy2 z1
    refine jrVi (rest := []) ⟨hx, hb, hml, hown, hts⟩ (c_XM_isTold l dC dI cA cZ ma a0 a1 a2 a3 a4 a5 a6 a7 a8 a9 a10 a11 mth mn mp mw mu md mo y1 (y2 z1) (by first | assumption | omega) (by first | assumption | omega)) (cwV 1 hts (jG_V tw_768 tw_770 ts_29 tw_6 tw_771) rfl rfl rfl (by decide +kernel) (by rw [hR]; exact ⟨Nat.le_of_ble_eq_true rfl, Nat.le_of_ble_eq_true rfl⟩)) hK hP hN [0, 1] rfl 0 5 rfl rfl rfl rfl hl.1 rfl (Nat.le_of_ble_eq_true rfl) dXM_from_15 (by rw [hR]; exact ⟨Nat.le_of_ble_eq_true rfl, Nat.le_of_ble_eq_true rfl⟩) ?_
    have f1 := f_XM_isTold_b mth mn mp mw mu md mo y1 (y2 z1) (by first | assumption | omega) (by first | assumption | omega)
    refine ji_if_ne (tgt := 25) hx hb dXM_from_18 (by decide) (by omega) (fun c18_ => ?_) (fun c18_ => ?_)
    · refine lv_aload_n hx hb dXM_from_25 rfl (lv_at hl 0 rfl) ?_
      refine va_get (D := (dC, dI)) (ci := 5) (v := .ref a2) (C := RXM) (T := TXM) (N := 19) hx hb hts (fun w h => jmem (inXM w h)) hown hK hP 0 rfl rfl 6 (by decide) (hts _ (jmem tw_634)) (fun _ h9 => h9) rfl dXM_from_26 ?_
      refine lv_iload_n hx hb dXM_from_29 rfl (lv_at hl 1 rfl) ?_
      refine ji_iald hx hb hK hP 2 0 rfl rfl ⟨by omega, by omega⟩ (by decide) dXM_from_30 ?_
      have rb2 := hy2 z1
      subst hQ
      exact W.iret (v := jI (y2 z1)) hx hb hr (fun t ht hW => ⟨_, rfl, congrArg jI (Eq.trans (by rw [f_XM_from_s]; rw [if_pos c5_, if_neg c18_]; try rfl) rfl), ht⟩) (fun _ h => nomatch h) dXM_from_31
    · refine ji_iconst hx hb dXM_from_21 ?_
      refine lv_goto (tgt := 31) hx hb dXM_from_22 (by decide) ?_
      subst hQ
      exact W.iret (v := jI 0) hx hb hr (fun t ht hW => ⟨_, rfl, congrArg jI (Eq.trans (by rw [f_XM_from_s]; rw [if_pos c5_, if_pos c18_]; try rfl) rfl), ht⟩) (fun _ h => nomatch h) dXM_from_31
theorem from_reach (mth mn mp mw mu md mo : Int) (y1 y2 : Int → Int) (hy1 : ∀ i, 0 ≤ y1 i ∧ y1 i ≤ 1) (hy2 : ∀ i, 0 ≤ y2 i ∧ y2 i ≤ 30) (k : Int) (hk : 1 ≤ k ∧ k ≤ 30) : ∃ n, n ≤ 32 ∧ jit (fun x => f_XM_from mth mn mp mw mu md mo y1 y2 x) n k ≤ 0 := by
  by_cases hx : ∃ n, n ≤ 32 ∧ jit (fun x => f_XM_from mth mn mp mw mu md mo y1 y2 x) n k ≤ 0
  · exact hx
  · have hpos : ∀ n, n ≤ 32 → 0 < jit (fun x => f_XM_from mth mn mp mw mu md mo y1 y2 x) n k := fun n hn => by
      by_cases h : 0 < jit (fun x => f_XM_from mth mn mp mw mu md mo y1 y2 x) n k
      · exact h
      · exact absurd ⟨n, hn, by omega⟩ hx
    have hrng : ∀ n, n ≤ 32 → 1 ≤ jit (fun x => f_XM_from mth mn mp mw mu md mo y1 y2 x) n k ∧ jit (fun x => f_XM_from mth mn mp mw mu md mo y1 y2 x) n k ≤ 30 := by
      intro n
      induction n with
      | zero => intro _; exact hk
      | succ n ih =>
        intro hn
        have h1 := ih (by omega)
        have h2 := hpos (n + 1) hn
        rw [jit_succ] at h2 ⊢
        have h3 := f_XM_from_b mth mn mp mw mu md mo y1 y2 _ hy1 hy2 h1
        try dsimp only at h2 ⊢
        omega
    have hstep : ∀ n, n + 1 ≤ 32 → jit (fun x => f_XM_from mth mn mp mw mu md mo y1 y2 x) (n + 1) k = y2 (jit (fun x => f_XM_from mth mn mp mw mu md mo y1 y2 x) n k) ∧ f_XM_isRing mth mn mp mw mu md mo y1 y2 (jit (fun x => f_XM_from mth mn mp mw mu md mo y1 y2 x) n k) = 0 ∧ f_XM_isTold mth mn mp mw mu md mo y1 (jit (fun x => f_XM_from mth mn mp mw mu md mo y1 y2 x) (n + 1) k) ≠ 0 := by
      intro n hn
      have h1 := hrng n (by omega)
      have h2 := hpos (n + 1) hn
      have h3 := f_XM_from_b mth mn mp mw mu md mo y1 y2 _ hy1 hy2 h1
      rw [jit_succ] at h2 ⊢
      try dsimp only at h2 ⊢
      rcases h3 with h3 | ⟨h3, h4, h5, h6, h7⟩
      · omega
      · exact ⟨h5, h6, by rw [h5]; exact h7⟩
    obtain ⟨i, d, h1, h2, h3, h4⟩ := jback (fun n => jit (fun x => f_XM_from mth mn mp mw mu md mo y1 y2 x) n k) (fun n _ hn => hrng n (by omega))
    have hsg : ∀ d, i + d ≤ 31 → jit (jsg mth mn mp mw mu md mo y1 y2) d (jit (fun x => f_XM_from mth mn mp mw mu md mo y1 y2 x) i k) = jit (fun x => f_XM_from mth mn mp mw mu md mo y1 y2 x) (i + d) k := by
      intro d
      induction d with
      | zero => intro _; rfl
      | succ d ih =>
        intro hd
        rw [jit_succ, ih (by omega), ← Nat.add_assoc, (hstep (i + d) (by omega)).1]
        unfold jsg
        have ht : f_XM_isTold mth mn mp mw mu md mo y1 (jit (fun x => f_XM_from mth mn mp mw mu md mo y1 y2 x) (i + d) k) ≠ 0 := by
          have := (hstep (i + d - 1) (by omega)).2.2
          rw [show i + d - 1 + 1 = i + d by omega] at this
          exact this
        rw [if_neg ht]
    have h5 := f_XM_isRing_1 mth mn mp mw mu md mo y1 y2 (jit (fun x => f_XM_from mth mn mp mw mu md mo y1 y2 x) i k) d h2 (by omega) ((hsg d h3).trans h4)
    have h6 := (hstep i (by omega)).2.1
    omega
theorem from_dec (mth mn mp mw mu md mo : Int) (y1 y2 : Int → Int) (hy1 : ∀ i, 0 ≤ y1 i ∧ y1 i ≤ 1) (hy2 : ∀ i, 0 ≤ y2 i ∧ y2 i ≤ 30) (k : Int) (hk : 1 ≤ k ∧ k ≤ 30) : jdp (fun x => f_XM_from mth mn mp mw mu md mo y1 y2 x) 41 (f_XM_from mth mn mp mw mu md mo y1 y2 k) < jdp (fun x => f_XM_from mth mn mp mw mu md mo y1 y2 x) 41 k := by
  obtain ⟨n, h1, h2⟩ := from_reach mth mn mp mw mu md mo y1 y2 hy1 hy2 k hk
  exact jdp_step (fun x => f_XM_from mth mn mp mw mu md mo y1 y2 x) n k h2 (by omega) (by omega)

end
section
set_option maxHeartbeats 4000000 in
set_option maxRecDepth 100000 in
theorem c_XM_lowOf (l : Launch) (dC : Nat → ClassId) (dI : Nat → Nat → Nat) (cA cZ : ClassId) (sz : Nat) (ma : Nat) (a0 : Nat) (a1 : Nat) (a2 : Nat) (a3 : Nat) (a4 : Nat) (a5 : Nat) (a6 : Nat) (a7 : Nat) (a8 : Nat) (a9 : Nat) (a10 : Nat) (a11 : Nat) (mth : Int) (mn : Int) (mp : Int) (mw : Int) (mu : Int) (md : Int) (mo : Int) (y1 : Int → Int) (y2 : Int → Int) (y3 : Int → Int) (y4 : Int → Int) (z1 : Int) (z2 : Int) (hy1 : ∀ i, 0 ≤ y1 i ∧ y1 i ≤ 1) (hy2 : ∀ i, 0 ≤ y2 i ∧ y2 i ≤ 30) (hy3 : ∀ i, 0 ≤ y3 i ∧ y3 i ≤ 1) (hy4 : ∀ i, 0 ≤ y4 i ∧ y4 i ≤ 100000) (hz1 : 1 ≤ z1 ∧ z1 ≤ 30) (hz2 : 0 ≤ z2 ∧ z2 ≤ 7) : Met l yXM_lowOf (Cond.code yXM_lowOf cXM_lowOf 4 (some .int) :: TBL) ({ frames := 4, cells := 0, slots := 0, locals := 87 } : Room) (va_Pc [.ref ma, .int (jI z1), .int (jI z2)] (jBw (dC, dI) [(cA, .int), (cZ, .boolean)] [(ma, .inr (5, [.int (jI mth), .int (jI mn), .ref a0, .int (jI mp), .int (jI mw), .ref a1, .ref a2, .ref a3, .ref a4, .ref a5, .ref a6, .ref a7, .ref a8, .ref a9, .ref a10, .long (jL mu), .long (jL md), .int (jI mo), .ref a11])), (a1, .inl (cZ, 62, .inl (jA y1))), (a2, .inl (cA, 62, .inl (jA y2))), (a3, .inl (cZ, 496, .inl (jA y3))), (a4, .inl (cA, 496, .inl (jA y4)))] sz)) (va_Qi (fun (r : Int32) (u : Int) => r = jI u ∧ (0 ≤ u ∧ u ≤ 100000)) (fun u t => jE (dC, dI) [(cA, .int), (cZ, .boolean)] [(ma, .inr (5, [.int (jI mth), .int (jI mn), .ref a0, .int (jI mp), .int (jI mw), .ref a1, .ref a2, .ref a3, .ref a4, .ref a5, .ref a6, .ref a7, .ref a8, .ref a9, .ref a10, .long (jL mu), .long (jL md), .int (jI mo), .ref a11])), (a1, .inl (cZ, 62, .inl (jA y1))), (a2, .inl (cA, 62, .inl (jA y2))), (a3, .inl (cZ, 496, .inl (jA y3))), (a4, .inl (cA, 496, .inl (jA y4)))] sz [(ma, .inr (5, [.int (jI mth), .int (jI mn), .ref a0, .int (jI mp), .int (jI mw), .ref a1, .ref a2, .ref a3, .ref a4, .ref a5, .ref a6, .ref a7, .ref a8, .ref a9, .ref a10, .long (jL mu), .long (jL md), .int (jI mo), .ref a11])), (a1, .inl (cZ, 62, .inl (jA y1))), (a2, .inl (cA, 62, .inl (jA y2))), (a3, .inl (cZ, 496, .inl (jA y3))), (a4, .inl (cA, 496, .inl (jA y4)))] t) (va_A [(ma, .inr (5, [.int (jI mth), .int (jI mn), .ref a0, .int (jI mp), .int (jI mw), .ref a1, .ref a2, .ref a3, .ref a4, .ref a5, .ref a6, .ref a7, .ref a8, .ref a9, .ref a10, .long (jL mu), .long (jL md), .int (jI mo), .ref a11])), (a1, .inl (cZ, 62, .inl (jA y1))), (a2, .inl (cA, 62, .inl (jA y2))), (a3, .inl (cZ, 496, .inl (jA y3))), (a4, .inl (cA, 496, .inl (jA y4)))] sz)) 0 0 (va_A [(ma, .inr (5, [.int (jI mth), .int (jI mn), .ref a0, .int (jI mp), .int (jI mw), .ref a1, .ref a2, .ref a3, .ref a4, .ref a5, .ref a6, .ref a7, .ref a8, .ref a9, .ref a10, .long (jL mu), .long (jL md), .int (jI mo), .ref a11])), (a1, .inl (cZ, 62, .inl (jA y1))), (a2, .inl (cA, 62, .inl (jA y2))), (a3, .inl (cZ, 496, .inl (jA y3))), (a4, .inl (cA, 496, .inl (jA y4)))] sz) := by
  refine jMet (cc := cXM_lowOf) (maxL := 4) (ret := some .int) (by decide) rfl ?_
  intro p e s m args below meth c s₁ R Q hR hQ B hml hv
  obtain ⟨rfl, hsz, hP, hK, hD0, hN⟩ := hv
  have hx := B.exec
  have hb := B.bytes
  have hr := B.returns
  have hts := atoms_spec (ws := Cond.code yXM_lowOf cXM_lowOf 4 (some .int) :: TBL) B.pre
  have hown : s.vm.findClass RXM = some m.cls := findClass_of_methodNamed B.named
  have hlocks := B.notSynchronized
  subst hsz
  obtain ⟨A, hAe⟩ : ∃ A, A = va_A [(ma, .inr (5, [.int (jI mth), .int (jI mn), .ref a0, .int (jI mp), .int (jI mw), .ref a1, .ref a2, .ref a3, .ref a4, .ref a5, .ref a6, .ref a7, .ref a8, .ref a9, .ref a10, .long (jL mu), .long (jL md), .int (jI mo), .ref a11])), (a1, .inl (cZ, 62, .inl (jA y1))), (a2, .inl (cA, 62, .inl (jA y2))), (a3, .inl (cZ, 496, .inl (jA y3))), (a4, .inl (cA, 496, .inl (jA y4)))] s.heap.size := ⟨_, rfl⟩
  have hD : va_D A [(ma, .inr (5, [.int (jI mth), .int (jI mn), .ref a0, .int (jI mp), .int (jI mw), .ref a1, .ref a2, .ref a3, .ref a4, .ref a5, .ref a6, .ref a7, .ref a8, .ref a9, .ref a10, .long (jL mu), .long (jL md), .int (jI mo), .ref a11])), (a1, .inl (cZ, 62, .inl (jA y1))), (a2, .inl (cA, 62, .inl (jA y2))), (a3, .inl (cZ, 496, .inl (jA y3))), (a4, .inl (cA, 496, .inl (jA y4)))] := by rw [hAe]; exact hD0.self
  have hA : ∀ q : Nat, s.heap.size ≤ q → A q := fun q h => by rw [hAe]; exact Or.inr h
  have hS : va_S A s.heap s.heap [] := va_S.rf
  have hP : va_P (dC, dI) vwCl [(ma, .inr (5, [.int (jI mth), .int (jI mn), .ref a0, .int (jI mp), .int (jI mw), .ref a1, .ref a2, .ref a3, .ref a4, .ref a5, .ref a6, .ref a7, .ref a8, .ref a9, .ref a10, .long (jL mu), .long (jL md), .int (jI mo), .ref a11])), (a1, .inl (cZ, 62, .inl (jA y1))), (a2, .inl (cA, 62, .inl (jA y2))), (a3, .inl (cZ, 496, .inl (jA y3))), (a4, .inl (cA, 496, .inl (jA y4)))] s.heap := hP
  have hl := lv_entry ([.ref ma, .int (jI z1), .int (jI z2)]) (n := 4) (Nat.le_of_ble_eq_true rfl)
  rw [lg_entry_eq]
  generalize (lg_sl ([.ref ma, .int (jI z1), .int (jI z2)]) ++ List.replicate (4 - (lg_sl ([.ref ma, .int (jI z1), .int (jI z2)])).length) Slot.unset).toArray = ls at hl ⊢
  have hl : lv_has ls 4 [(0, .ref ma), (1, .int (jI z1)), (2, .int (jI z2))] := hl
  refine lv_iload_n hx hb dXM_lowOf_0 rfl (lv_at hl 1 rfl) ?_
  refine lv_istore_n (lv' := [(3, .int (jI z1)), (0, .ref ma), (1, .int (jI z1)), (2, .int (jI z2))]) hx hb dXM_lowOf_1 rfl hl (by decide) rfl (fun ls hl => ?_)
  have loop2 : ∀ (n9 : Nat) (k : Int) , jdp (fun x => f_XM_from mth mn mp mw mu md mo y1 y2 x) 41 k < (n9 : Int) → (0 ≤ k ∧ k ≤ 30) → ∀ (H : Heap) (locs : List Loc), va_P (dC, dI) vwCl [(ma, .inr (5, [.int (jI mth), .int (jI mn), .ref a0, .int (jI mp), .int (jI mw), .ref a1, .ref a2, .ref a3, .ref a4, .ref a5, .ref a6, .ref a7, .ref a8, .ref a9, .ref a10, .long (jL mu), .long (jL md), .int (jI mo), .ref a11])), (a1, .inl (cZ, 62, .inl (jA y1))), (a2, .inl (cA, 62, .inl (jA y2))), (a3, .inl (cZ, 496, .inl (jA y3))), (a4, .inl (cA, 496, .inl (jA y4)))] H → va_D A [(ma, .inr (5, [.int (jI mth), .int (jI mn), .ref a0, .int (jI mp), .int (jI mw), .ref a1, .ref a2, .ref a3, .ref a4, .ref a5, .ref a6, .ref a7, .ref a8, .ref a9, .ref a10, .long (jL mu), .long (jL md), .int (jI mo), .ref a11])), (a1, .inl (cZ, 62, .inl (jA y1))), (a2, .inl (cA, 62, .inl (jA y2))), (a3, .inl (cZ, 496, .inl (jA y3))), (a4, .inl (cA, 496, .inl (jA y4)))] → va_S A s.heap H locs → ∀ ls : Array Slot, lv_has ls 4 [(3, .int (jI k)), (0, .ref ma), (1, .int (jI z1)), (2, .int (jI z2))] → W p l e R s m ([.ref ma, .int (jI z1), .int (jI z2)] : List Value).toArray below meth c H locs 0 0 Q (F0 m 2 ls []) := by
    intro n9
    induction n9 with
    | zero =>
      intro k hm hk
      exact absurd hm (by have h8 := jdp_nn (fun x => f_XM_from mth mn mp mw mu md mo y1 y2 x) 41 k; omega)
    | succ n9 ih2 =>
      intro k hm hk H locs hP hD hS ls hl
      refine lv_iload_n hx hb dXM_lowOf_2 rfl (lv_at hl 0 rfl) ?_
      refine ji_if_le (tgt := 41) hx hb dXM_lowOf_3 (by decide) (by first | omega | decide) (fun c3_ => ?_) (fun c3_ => ?_)
      · refine ji_iconst hx hb dXM_lowOf_41 ?_
        have hP9 := hP.sub (ws' := [(ma, .inr (5, [.int (jI mth), .int (jI mn), .ref a0, .int (jI mp), .int (jI mw), .ref a1, .ref a2, .ref a3, .ref a4, .ref a5, .ref a6, .ref a7, .ref a8, .ref a9, .ref a10, .long (jL mu), .long (jL md), .int (jI mo), .ref a11])), (a1, .inl (cZ, 62, .inl (jA y1))), (a2, .inl (cA, 62, .inl (jA y2))), (a3, .inl (cZ, 496, .inl (jA y3))), (a4, .inl (cA, 496, .inl (jA y4)))]) [0, 1, 2, 3, 4] rfl
        have hD9 := hD.sub (ws' := [(ma, .inr (5, [.int (jI mth), .int (jI mn), .ref a0, .int (jI mp), .int (jI mw), .ref a1, .ref a2, .ref a3, .ref a4, .ref a5, .ref a6, .ref a7, .ref a8, .ref a9, .ref a10, .long (jL mu), .long (jL md), .int (jI mo), .ref a11])), (a1, .inl (cZ, 62, .inl (jA y1))), (a2, .inl (cA, 62, .inl (jA y2))), (a3, .inl (cZ, 496, .inl (jA y3))), (a4, .inl (cA, 496, .inl (jA y4)))]) [0, 1, 2, 3, 4] (by decide) rfl
        subst hAe
        subst hQ
        exact W.iret (v := jI 0) hx hb hr (fun t ht hW => ⟨⟨_, 0, rfl, ⟨rfl, (show 0 ≤ (0 : Int) ∧ (0 : Int) ≤ 100000 from by first | assumption | omega | exact jset_b (by assumption) (by omega))⟩, ⟨by rw [ht]; exact hP9, va_K.moved hW.alike hK, hD9⟩⟩, hS.F ht⟩) hS.2.2 dXM_lowOf_42
      · refine lv_aload_n hx hb dXM_lowOf_6 rfl (lv_at hl 1 rfl) ?_
        refine va_get (D := (dC, dI)) (ci := 5) (v := .ref a3) (C := RXM) (T := TXM) (N := 19) hx hb hts (fun w h => jmem (inXM w h)) hown hK hP 0 rfl rfl 7 (by decide) (hts _ (jmem tw_635)) (fun _ h9 => h9) rfl dXM_lowOf_7 ?_
        refine ji_bipush hx hb dXM_lowOf_10 (by decide) ?_
        refine lv_iload_n hx hb dXM_lowOf_12 rfl (lv_at hl 0 rfl) ?_
        refine ji_imul hx hb dXM_lowOf_13 ?_
        refine lv_iload_n hx hb dXM_lowOf_14 rfl (lv_at hl 3 rfl) ?_
        refine ji_iadd hx hb dXM_lowOf_15 ?_
        refine ji_zald hx hb hK hP 3 1 rfl rfl ⟨by omega, by omega⟩ (by decide) dXM_lowOf_16 ?_
        have rb := hy3 ((8 * k) + z2)
        refine ji_if_eq (tgt := 32) hx hb dXM_lowOf_17 (by decide) (by first | omega | decide) (fun c17_ => ?_) (fun c17_ => ?_)
        · refine lv_aload_n hx hb dXM_lowOf_32 rfl (lv_at hl 1 rfl) ?_
          refine lv_iload_n hx hb dXM_lowOf_33 rfl (lv_at hl 0 rfl) ?_
          refine jrVi (rest := []) ⟨hx, hb, hml, hown, hts⟩ (c_XM_from l dC dI cA cZ ma a0 a1 a2 a3 a4 a5 a6 a7 a8 a9 a10 a11 mth mn mp mw mu md mo y1 y2 k (by first | assumption | omega) (by first | assumption | omega) (by first | assumption | omega)) (cwV 1 hts (jG_V tw_779 tw_781 ts_31 tw_6 tw_782) rfl rfl rfl (by decide +kernel) (by rw [hR]; exact ⟨Nat.le_of_ble_eq_true rfl, Nat.le_of_ble_eq_true rfl⟩)) hK hP hN [0, 1, 2] rfl 0 5 rfl rfl rfl rfl hl.1 rfl (Nat.le_of_ble_eq_true rfl) dXM_lowOf_34 (by rw [hR]; exact ⟨Nat.le_of_ble_eq_true rfl, Nat.le_of_ble_eq_true rfl⟩) ?_
          have f := f_XM_from_b mth mn mp mw mu md mo y1 y2 k (by first | assumption | omega) (by first | assumption | omega) (by first | assumption | omega)
          refine lv_istore_n (lv' := [(3, .int (jI (f_XM_from mth mn mp mw mu md mo y1 y2 k))), (0, .ref ma), (1, .int (jI z1)), (2, .int (jI z2))]) hx hb dXM_lowOf_37 rfl hl (by decide) rfl (fun ls hl => ?_)
          refine lv_goto (tgt := 2) hx hb dXM_lowOf_38 (by decide) ?_
          exact ih2 (f_XM_from mth mn mp mw mu md mo y1 y2 k) (by have h8 := from_dec mth mn mp mw mu md mo y1 y2 hy1 hy2 k (by omega); omega) (by first | assumption | omega | exact jset_b (by assumption) (by omega)) _ _ hP hD hS ls (lv_sub hl [0, 1, 2, 3] rfl)
        · refine lv_aload_n hx hb dXM_lowOf_20 rfl (lv_at hl 1 rfl) ?_
          refine va_get (D := (dC, dI)) (ci := 5) (v := .ref a4) (C := RXM) (T := TXM) (N := 19) hx hb hts (fun w h => jmem (inXM w h)) hown hK hP 0 rfl rfl 8 (by decide) (hts _ (jmem tw_636)) (fun _ h9 => h9) rfl dXM_lowOf_21 ?_
          refine ji_bipush hx hb dXM_lowOf_24 (by decide) ?_
          refine lv_iload_n hx hb dXM_lowOf_26 rfl (lv_at hl 0 rfl) ?_
          refine ji_imul hx hb dXM_lowOf_27 ?_
          refine lv_iload_n hx hb dXM_lowOf_28 rfl (lv_at hl 3 rfl) ?_
          refine ji_iadd hx hb dXM_lowOf_29 ?_
          refine ji_iald hx hb hK hP 4 0 rfl rfl ⟨by omega, by omega⟩ (by decide) dXM_lowOf_30 ?_
          have rb1 := hy4 ((8 * k) + z2)
          have hP9 := hP.sub (ws' := [(ma, .inr (5, [.int (jI mth), .int (jI mn), .ref a0, .int (jI mp), .int (jI mw), .ref a1, .ref a2, .ref a3, .ref a4, .ref a5, .ref a6, .ref a7, .ref a8, .ref a9, .ref a10, .long (jL mu), .long (jL md), .int (jI mo), .ref a11])), (a1, .inl (cZ, 62, .inl (jA y1))), (a2, .inl (cA, 62, .inl (jA y2))), (a3, .inl (cZ, 496, .inl (jA y3))), (a4, .inl (cA, 496, .inl (jA y4)))]) [0, 1, 2, 3, 4] rfl
          have hD9 := hD.sub (ws' := [(ma, .inr (5, [.int (jI mth), .int (jI mn), .ref a0, .int (jI mp), .int (jI mw), .ref a1, .ref a2, .ref a3, .ref a4, .ref a5, .ref a6, .ref a7, .ref a8, .ref a9, .ref a10, .long (jL mu), .long (jL md), .int (jI mo), .ref a11])), (a1, .inl (cZ, 62, .inl (jA y1))), (a2, .inl (cA, 62, .inl (jA y2))), (a3, .inl (cZ, 496, .inl (jA y3))), (a4, .inl (cA, 496, .inl (jA y4)))]) [0, 1, 2, 3, 4] (by decide) rfl
          subst hAe
          subst hQ
          exact W.iret (v := jI (y4 ((8 * k) + z2))) hx hb hr (fun t ht hW => ⟨⟨_, (y4 ((8 * k) + z2)), rfl, ⟨rfl, (show 0 ≤ (y4 ((8 * k) + z2)) ∧ (y4 ((8 * k) + z2)) ≤ 100000 from by first | assumption | omega | exact jset_b (by assumption) (by omega))⟩, ⟨by rw [ht]; exact hP9, va_K.moved hW.alike hK, hD9⟩⟩, hS.F ht⟩) hS.2.2 dXM_lowOf_31
  exact loop2 (Int.toNat (jdp (fun x => f_XM_from mth mn mp mw mu md mo y1 y2 x) 41 z1) + 1) z1 (by omega) (by first | assumption | omega | exact jset_b (by assumption) (by omega)) _ _ hP hD hS ls (lv_sub hl [0, 1, 2, 3] rfl)
set_option maxHeartbeats 4000000 in
set_option maxRecDepth 100000 in
theorem c_XM_highOf (l : Launch) (dC : Nat → ClassId) (dI : Nat → Nat → Nat) (cA cZ : ClassId) (sz : Nat) (ma : Nat) (a0 : Nat) (a1 : Nat) (a2 : Nat) (a3 : Nat) (a4 : Nat) (a5 : Nat) (a6 : Nat) (a7 : Nat) (a8 : Nat) (a9 : Nat) (a10 : Nat) (a11 : Nat) (mth : Int) (mn : Int) (mp : Int) (mw : Int) (mu : Int) (md : Int) (mo : Int) (y1 : Int → Int) (y2 : Int → Int) (y3 : Int → Int) (y5 : Int → Int) (z1 : Int) (z2 : Int) (hy1 : ∀ i, 0 ≤ y1 i ∧ y1 i ≤ 1) (hy2 : ∀ i, 0 ≤ y2 i ∧ y2 i ≤ 30) (hy3 : ∀ i, 0 ≤ y3 i ∧ y3 i ≤ 1) (hy5 : ∀ i, 0 ≤ y5 i ∧ y5 i ≤ 100000) (hz1 : 1 ≤ z1 ∧ z1 ≤ 30) (hz2 : 0 ≤ z2 ∧ z2 ≤ 7) : Met l yXM_highOf (Cond.code yXM_highOf cXM_highOf 4 (some .int) :: TBL) ({ frames := 4, cells := 0, slots := 0, locals := 87 } : Room) (va_Pc [.ref ma, .int (jI z1), .int (jI z2)] (jBw (dC, dI) [(cA, .int), (cZ, .boolean)] [(ma, .inr (5, [.int (jI mth), .int (jI mn), .ref a0, .int (jI mp), .int (jI mw), .ref a1, .ref a2, .ref a3, .ref a4, .ref a5, .ref a6, .ref a7, .ref a8, .ref a9, .ref a10, .long (jL mu), .long (jL md), .int (jI mo), .ref a11])), (a1, .inl (cZ, 62, .inl (jA y1))), (a2, .inl (cA, 62, .inl (jA y2))), (a3, .inl (cZ, 496, .inl (jA y3))), (a5, .inl (cA, 496, .inl (jA y5)))] sz)) (va_Qi (fun (r : Int32) (u : Int) => r = jI u ∧ (0 ≤ u ∧ u ≤ 100000)) (fun u t => jE (dC, dI) [(cA, .int), (cZ, .boolean)] [(ma, .inr (5, [.int (jI mth), .int (jI mn), .ref a0, .int (jI mp), .int (jI mw), .ref a1, .ref a2, .ref a3, .ref a4, .ref a5, .ref a6, .ref a7, .ref a8, .ref a9, .ref a10, .long (jL mu), .long (jL md), .int (jI mo), .ref a11])), (a1, .inl (cZ, 62, .inl (jA y1))), (a2, .inl (cA, 62, .inl (jA y2))), (a3, .inl (cZ, 496, .inl (jA y3))), (a5, .inl (cA, 496, .inl (jA y5)))] sz [(ma, .inr (5, [.int (jI mth), .int (jI mn), .ref a0, .int (jI mp), .int (jI mw), .ref a1, .ref a2, .ref a3, .ref a4, .ref a5, .ref a6, .ref a7, .ref a8, .ref a9, .ref a10, .long (jL mu), .long (jL md), .int (jI mo), .ref a11])), (a1, .inl (cZ, 62, .inl (jA y1))), (a2, .inl (cA, 62, .inl (jA y2))), (a3, .inl (cZ, 496, .inl (jA y3))), (a5, .inl (cA, 496, .inl (jA y5)))] t) (va_A [(ma, .inr (5, [.int (jI mth), .int (jI mn), .ref a0, .int (jI mp), .int (jI mw), .ref a1, .ref a2, .ref a3, .ref a4, .ref a5, .ref a6, .ref a7, .ref a8, .ref a9, .ref a10, .long (jL mu), .long (jL md), .int (jI mo), .ref a11])), (a1, .inl (cZ, 62, .inl (jA y1))), (a2, .inl (cA, 62, .inl (jA y2))), (a3, .inl (cZ, 496, .inl (jA y3))), (a5, .inl (cA, 496, .inl (jA y5)))] sz)) 0 0 (va_A [(ma, .inr (5, [.int (jI mth), .int (jI mn), .ref a0, .int (jI mp), .int (jI mw), .ref a1, .ref a2, .ref a3, .ref a4, .ref a5, .ref a6, .ref a7, .ref a8, .ref a9, .ref a10, .long (jL mu), .long (jL md), .int (jI mo), .ref a11])), (a1, .inl (cZ, 62, .inl (jA y1))), (a2, .inl (cA, 62, .inl (jA y2))), (a3, .inl (cZ, 496, .inl (jA y3))), (a5, .inl (cA, 496, .inl (jA y5)))] sz) := by
  refine jMet (cc := cXM_highOf) (maxL := 4) (ret := some .int) (by decide) rfl ?_
  intro p e s m args below meth c s₁ R Q hR hQ B hml hv
  obtain ⟨rfl, hsz, hP, hK, hD0, hN⟩ := hv
  have hx := B.exec
  have hb := B.bytes
  have hr := B.returns
  have hts := atoms_spec (ws := Cond.code yXM_highOf cXM_highOf 4 (some .int) :: TBL) B.pre
  have hown : s.vm.findClass RXM = some m.cls := findClass_of_methodNamed B.named
  have hlocks := B.notSynchronized
  subst hsz
  obtain ⟨A, hAe⟩ : ∃ A, A = va_A [(ma, .inr (5, [.int (jI mth), .int (jI mn), .ref a0, .int (jI mp), .int (jI mw), .ref a1, .ref a2, .ref a3, .ref a4, .ref a5, .ref a6, .ref a7, .ref a8, .ref a9, .ref a10, .long (jL mu), .long (jL md), .int (jI mo), .ref a11])), (a1, .inl (cZ, 62, .inl (jA y1))), (a2, .inl (cA, 62, .inl (jA y2))), (a3, .inl (cZ, 496, .inl (jA y3))), (a5, .inl (cA, 496, .inl (jA y5)))] s.heap.size := ⟨_, rfl⟩
  have hD : va_D A [(ma, .inr (5, [.int (jI mth), .int (jI mn), .ref a0, .int (jI mp), .int (jI mw), .ref a1, .ref a2, .ref a3, .ref a4, .ref a5, .ref a6, .ref a7, .ref a8, .ref a9, .ref a10, .long (jL mu), .long (jL md), .int (jI mo), .ref a11])), (a1, .inl (cZ, 62, .inl (jA y1))), (a2, .inl (cA, 62, .inl (jA y2))), (a3, .inl (cZ, 496, .inl (jA y3))), (a5, .inl (cA, 496, .inl (jA y5)))] := by rw [hAe]; exact hD0.self
  have hA : ∀ q : Nat, s.heap.size ≤ q → A q := fun q h => by rw [hAe]; exact Or.inr h
  have hS : va_S A s.heap s.heap [] := va_S.rf
  have hP : va_P (dC, dI) vwCl [(ma, .inr (5, [.int (jI mth), .int (jI mn), .ref a0, .int (jI mp), .int (jI mw), .ref a1, .ref a2, .ref a3, .ref a4, .ref a5, .ref a6, .ref a7, .ref a8, .ref a9, .ref a10, .long (jL mu), .long (jL md), .int (jI mo), .ref a11])), (a1, .inl (cZ, 62, .inl (jA y1))), (a2, .inl (cA, 62, .inl (jA y2))), (a3, .inl (cZ, 496, .inl (jA y3))), (a5, .inl (cA, 496, .inl (jA y5)))] s.heap := hP
  have hl := lv_entry ([.ref ma, .int (jI z1), .int (jI z2)]) (n := 4) (Nat.le_of_ble_eq_true rfl)
  rw [lg_entry_eq]
  generalize (lg_sl ([.ref ma, .int (jI z1), .int (jI z2)]) ++ List.replicate (4 - (lg_sl ([.ref ma, .int (jI z1), .int (jI z2)])).length) Slot.unset).toArray = ls at hl ⊢
  have hl : lv_has ls 4 [(0, .ref ma), (1, .int (jI z1)), (2, .int (jI z2))] := hl
  refine lv_iload_n hx hb dXM_highOf_0 rfl (lv_at hl 1 rfl) ?_
  refine lv_istore_n (lv' := [(3, .int (jI z1)), (0, .ref ma), (1, .int (jI z1)), (2, .int (jI z2))]) hx hb dXM_highOf_1 rfl hl (by decide) rfl (fun ls hl => ?_)
  have loop2 : ∀ (n9 : Nat) (k : Int) , jdp (fun x => f_XM_from mth mn mp mw mu md mo y1 y2 x) 41 k < (n9 : Int) → (0 ≤ k ∧ k ≤ 30) → ∀ (H : Heap) (locs : List Loc), va_P (dC, dI) vwCl [(ma, .inr (5, [.int (jI mth), .int (jI mn), .ref a0, .int (jI mp), .int (jI mw), .ref a1, .ref a2, .ref a3, .ref a4, .ref a5, .ref a6, .ref a7, .ref a8, .ref a9, .ref a10, .long (jL mu), .long (jL md), .int (jI mo), .ref a11])), (a1, .inl (cZ, 62, .inl (jA y1))), (a2, .inl (cA, 62, .inl (jA y2))), (a3, .inl (cZ, 496, .inl (jA y3))), (a5, .inl (cA, 496, .inl (jA y5)))] H → va_D A [(ma, .inr (5, [.int (jI mth), .int (jI mn), .ref a0, .int (jI mp), .int (jI mw), .ref a1, .ref a2, .ref a3, .ref a4, .ref a5, .ref a6, .ref a7, .ref a8, .ref a9, .ref a10, .long (jL mu), .long (jL md), .int (jI mo), .ref a11])), (a1, .inl (cZ, 62, .inl (jA y1))), (a2, .inl (cA, 62, .inl (jA y2))), (a3, .inl (cZ, 496, .inl (jA y3))), (a5, .inl (cA, 496, .inl (jA y5)))] → va_S A s.heap H locs → ∀ ls : Array Slot, lv_has ls 4 [(3, .int (jI k)), (0, .ref ma), (1, .int (jI z1)), (2, .int (jI z2))] → W p l e R s m ([.ref ma, .int (jI z1), .int (jI z2)] : List Value).toArray below meth c H locs 0 0 Q (F0 m 2 ls []) := by
    intro n9
    induction n9 with
    | zero =>
      intro k hm hk
      exact absurd hm (by have h8 := jdp_nn (fun x => f_XM_from mth mn mp mw mu md mo y1 y2 x) 41 k; omega)
    | succ n9 ih2 =>
      intro k hm hk H locs hP hD hS ls hl
      refine lv_iload_n hx hb dXM_highOf_2 rfl (lv_at hl 0 rfl) ?_
      refine ji_if_le (tgt := 41) hx hb dXM_highOf_3 (by decide) (by first | omega | decide) (fun c3_ => ?_) (fun c3_ => ?_)
      · refine lv_ldc hx hb hown (hts _ (jmem tw_754)) dXM_highOf_41 ?_
        refine ji_re (y := 100000) (by decide) ?_
        have hP9 := hP.sub (ws' := [(ma, .inr (5, [.int (jI mth), .int (jI mn), .ref a0, .int (jI mp), .int (jI mw), .ref a1, .ref a2, .ref a3, .ref a4, .ref a5, .ref a6, .ref a7, .ref a8, .ref a9, .ref a10, .long (jL mu), .long (jL md), .int (jI mo), .ref a11])), (a1, .inl (cZ, 62, .inl (jA y1))), (a2, .inl (cA, 62, .inl (jA y2))), (a3, .inl (cZ, 496, .inl (jA y3))), (a5, .inl (cA, 496, .inl (jA y5)))]) [0, 1, 2, 3, 4] rfl
        have hD9 := hD.sub (ws' := [(ma, .inr (5, [.int (jI mth), .int (jI mn), .ref a0, .int (jI mp), .int (jI mw), .ref a1, .ref a2, .ref a3, .ref a4, .ref a5, .ref a6, .ref a7, .ref a8, .ref a9, .ref a10, .long (jL mu), .long (jL md), .int (jI mo), .ref a11])), (a1, .inl (cZ, 62, .inl (jA y1))), (a2, .inl (cA, 62, .inl (jA y2))), (a3, .inl (cZ, 496, .inl (jA y3))), (a5, .inl (cA, 496, .inl (jA y5)))]) [0, 1, 2, 3, 4] (by decide) rfl
        subst hAe
        subst hQ
        exact W.iret (v := jI 100000) hx hb hr (fun t ht hW => ⟨⟨_, 100000, rfl, ⟨rfl, (show 0 ≤ (100000 : Int) ∧ (100000 : Int) ≤ 100000 from by first | assumption | omega | exact jset_b (by assumption) (by omega))⟩, ⟨by rw [ht]; exact hP9, va_K.moved hW.alike hK, hD9⟩⟩, hS.F ht⟩) hS.2.2 dXM_highOf_43
      · refine lv_aload_n hx hb dXM_highOf_6 rfl (lv_at hl 1 rfl) ?_
        refine va_get (D := (dC, dI)) (ci := 5) (v := .ref a3) (C := RXM) (T := TXM) (N := 19) hx hb hts (fun w h => jmem (inXM w h)) hown hK hP 0 rfl rfl 7 (by decide) (hts _ (jmem tw_635)) (fun _ h9 => h9) rfl dXM_highOf_7 ?_
        refine ji_bipush hx hb dXM_highOf_10 (by decide) ?_
        refine lv_iload_n hx hb dXM_highOf_12 rfl (lv_at hl 0 rfl) ?_
        refine ji_imul hx hb dXM_highOf_13 ?_
        refine lv_iload_n hx hb dXM_highOf_14 rfl (lv_at hl 3 rfl) ?_
        refine ji_iadd hx hb dXM_highOf_15 ?_
        refine ji_zald hx hb hK hP 3 1 rfl rfl ⟨by omega, by omega⟩ (by decide) dXM_highOf_16 ?_
        have rb := hy3 ((8 * k) + z2)
        refine ji_if_eq (tgt := 32) hx hb dXM_highOf_17 (by decide) (by first | omega | decide) (fun c17_ => ?_) (fun c17_ => ?_)
        · refine lv_aload_n hx hb dXM_highOf_32 rfl (lv_at hl 1 rfl) ?_
          refine lv_iload_n hx hb dXM_highOf_33 rfl (lv_at hl 0 rfl) ?_
          refine jrVi (rest := []) ⟨hx, hb, hml, hown, hts⟩ (c_XM_from l dC dI cA cZ ma a0 a1 a2 a3 a4 a5 a6 a7 a8 a9 a10 a11 mth mn mp mw mu md mo y1 y2 k (by first | assumption | omega) (by first | assumption | omega) (by first | assumption | omega)) (cwV 1 hts (jG_V tw_779 tw_781 ts_31 tw_6 tw_782) rfl rfl rfl (by decide +kernel) (by rw [hR]; exact ⟨Nat.le_of_ble_eq_true rfl, Nat.le_of_ble_eq_true rfl⟩)) hK hP hN [0, 1, 2] rfl 0 5 rfl rfl rfl rfl hl.1 rfl (Nat.le_of_ble_eq_true rfl) dXM_highOf_34 (by rw [hR]; exact ⟨Nat.le_of_ble_eq_true rfl, Nat.le_of_ble_eq_true rfl⟩) ?_
          have f := f_XM_from_b mth mn mp mw mu md mo y1 y2 k (by first | assumption | omega) (by first | assumption | omega) (by first | assumption | omega)
          refine lv_istore_n (lv' := [(3, .int (jI (f_XM_from mth mn mp mw mu md mo y1 y2 k))), (0, .ref ma), (1, .int (jI z1)), (2, .int (jI z2))]) hx hb dXM_highOf_37 rfl hl (by decide) rfl (fun ls hl => ?_)
          refine lv_goto (tgt := 2) hx hb dXM_highOf_38 (by decide) ?_
          exact ih2 (f_XM_from mth mn mp mw mu md mo y1 y2 k) (by have h8 := from_dec mth mn mp mw mu md mo y1 y2 hy1 hy2 k (by omega); omega) (by first | assumption | omega | exact jset_b (by assumption) (by omega)) _ _ hP hD hS ls (lv_sub hl [0, 1, 2, 3] rfl)
        · refine lv_aload_n hx hb dXM_highOf_20 rfl (lv_at hl 1 rfl) ?_
          refine va_get (D := (dC, dI)) (ci := 5) (v := .ref a5) (C := RXM) (T := TXM) (N := 19) hx hb hts (fun w h => jmem (inXM w h)) hown hK hP 0 rfl rfl 9 (by decide) (hts _ (jmem tw_637)) (fun _ h9 => h9) rfl dXM_highOf_21 ?_
          refine ji_bipush hx hb dXM_highOf_24 (by decide) ?_
          refine lv_iload_n hx hb dXM_highOf_26 rfl (lv_at hl 0 rfl) ?_
          refine ji_imul hx hb dXM_highOf_27 ?_
          refine lv_iload_n hx hb dXM_highOf_28 rfl (lv_at hl 3 rfl) ?_
          refine ji_iadd hx hb dXM_highOf_29 ?_
          refine ji_iald hx hb hK hP 4 0 rfl rfl ⟨by omega, by omega⟩ (by decide) dXM_highOf_30 ?_
          have rb1 := hy5 ((8 * k) + z2)
          have hP9 := hP.sub (ws' := [(ma, .inr (5, [.int (jI mth), .int (jI mn), .ref a0, .int (jI mp), .int (jI mw), .ref a1, .ref a2, .ref a3, .ref a4, .ref a5, .ref a6, .ref a7, .ref a8, .ref a9, .ref a10, .long (jL mu), .long (jL md), .int (jI mo), .ref a11])), (a1, .inl (cZ, 62, .inl (jA y1))), (a2, .inl (cA, 62, .inl (jA y2))), (a3, .inl (cZ, 496, .inl (jA y3))), (a5, .inl (cA, 496, .inl (jA y5)))]) [0, 1, 2, 3, 4] rfl
          have hD9 := hD.sub (ws' := [(ma, .inr (5, [.int (jI mth), .int (jI mn), .ref a0, .int (jI mp), .int (jI mw), .ref a1, .ref a2, .ref a3, .ref a4, .ref a5, .ref a6, .ref a7, .ref a8, .ref a9, .ref a10, .long (jL mu), .long (jL md), .int (jI mo), .ref a11])), (a1, .inl (cZ, 62, .inl (jA y1))), (a2, .inl (cA, 62, .inl (jA y2))), (a3, .inl (cZ, 496, .inl (jA y3))), (a5, .inl (cA, 496, .inl (jA y5)))]) [0, 1, 2, 3, 4] (by decide) rfl
          subst hAe
          subst hQ
          exact W.iret (v := jI (y5 ((8 * k) + z2))) hx hb hr (fun t ht hW => ⟨⟨_, (y5 ((8 * k) + z2)), rfl, ⟨rfl, (show 0 ≤ (y5 ((8 * k) + z2)) ∧ (y5 ((8 * k) + z2)) ≤ 100000 from by first | assumption | omega | exact jset_b (by assumption) (by omega))⟩, ⟨by rw [ht]; exact hP9, va_K.moved hW.alike hK, hD9⟩⟩, hS.F ht⟩) hS.2.2 dXM_highOf_31
  exact loop2 (Int.toNat (jdp (fun x => f_XM_from mth mn mp mw mu md mo y1 y2 x) 41 z1) + 1) z1 (by omega) (by first | assumption | omega | exact jset_b (by assumption) (by omega)) _ _ hP hD hS ls (lv_sub hl [0, 1, 2, 3] rfl)
set_option maxHeartbeats 4000000 in
set_option maxRecDepth 100000 in
theorem c_XM_limitOf (l : Launch) (dC : Nat → ClassId) (dI : Nat → Nat → Nat) (cA cZ : ClassId) (sz : Nat) (ma : Nat) (a0 : Nat) (a1 : Nat) (a2 : Nat) (a3 : Nat) (a4 : Nat) (a5 : Nat) (a6 : Nat) (a7 : Nat) (a8 : Nat) (a9 : Nat) (a10 : Nat) (a11 : Nat) (mth : Int) (mn : Int) (mp : Int) (mw : Int) (mu : Int) (md : Int) (mo : Int) (y1 : Int → Int) (y2 : Int → Int) (y7 : Int → Int) (z1 : Int) (z2 : Int) (hy1 : ∀ i, 0 ≤ y1 i ∧ y1 i ≤ 1) (hy2 : ∀ i, 0 ≤ y2 i ∧ y2 i ≤ 30) (hy7 : ∀ i, -1 ≤ y7 i ∧ y7 i ≤ 999999) (hz1 : 1 ≤ z1 ∧ z1 ≤ 30) (hz2 : 0 ≤ z2 ∧ z2 ≤ 3) : Met l yXM_limitOf (Cond.code yXM_limitOf cXM_limitOf 4 (some .int) :: TBL) ({ frames := 4, cells := 0, slots := 0, locals := 87 } : Room) (va_Pc [.ref ma, .int (jI z1), .int (jI z2)] (jBw (dC, dI) [(cA, .int), (cZ, .boolean)] [(ma, .inr (5, [.int (jI mth), .int (jI mn), .ref a0, .int (jI mp), .int (jI mw), .ref a1, .ref a2, .ref a3, .ref a4, .ref a5, .ref a6, .ref a7, .ref a8, .ref a9, .ref a10, .long (jL mu), .long (jL md), .int (jI mo), .ref a11])), (a1, .inl (cZ, 62, .inl (jA y1))), (a2, .inl (cA, 62, .inl (jA y2))), (a7, .inl (cA, 248, .inl (jA y7)))] sz)) (va_Qi (fun (r : Int32) (u : Int) => r = jI u ∧ (-1 ≤ u ∧ u ≤ 999999)) (fun u t => jE (dC, dI) [(cA, .int), (cZ, .boolean)] [(ma, .inr (5, [.int (jI mth), .int (jI mn), .ref a0, .int (jI mp), .int (jI mw), .ref a1, .ref a2, .ref a3, .ref a4, .ref a5, .ref a6, .ref a7, .ref a8, .ref a9, .ref a10, .long (jL mu), .long (jL md), .int (jI mo), .ref a11])), (a1, .inl (cZ, 62, .inl (jA y1))), (a2, .inl (cA, 62, .inl (jA y2))), (a7, .inl (cA, 248, .inl (jA y7)))] sz [(ma, .inr (5, [.int (jI mth), .int (jI mn), .ref a0, .int (jI mp), .int (jI mw), .ref a1, .ref a2, .ref a3, .ref a4, .ref a5, .ref a6, .ref a7, .ref a8, .ref a9, .ref a10, .long (jL mu), .long (jL md), .int (jI mo), .ref a11])), (a1, .inl (cZ, 62, .inl (jA y1))), (a2, .inl (cA, 62, .inl (jA y2))), (a7, .inl (cA, 248, .inl (jA y7)))] t) (va_A [(ma, .inr (5, [.int (jI mth), .int (jI mn), .ref a0, .int (jI mp), .int (jI mw), .ref a1, .ref a2, .ref a3, .ref a4, .ref a5, .ref a6, .ref a7, .ref a8, .ref a9, .ref a10, .long (jL mu), .long (jL md), .int (jI mo), .ref a11])), (a1, .inl (cZ, 62, .inl (jA y1))), (a2, .inl (cA, 62, .inl (jA y2))), (a7, .inl (cA, 248, .inl (jA y7)))] sz)) 0 0 (va_A [(ma, .inr (5, [.int (jI mth), .int (jI mn), .ref a0, .int (jI mp), .int (jI mw), .ref a1, .ref a2, .ref a3, .ref a4, .ref a5, .ref a6, .ref a7, .ref a8, .ref a9, .ref a10, .long (jL mu), .long (jL md), .int (jI mo), .ref a11])), (a1, .inl (cZ, 62, .inl (jA y1))), (a2, .inl (cA, 62, .inl (jA y2))), (a7, .inl (cA, 248, .inl (jA y7)))] sz) := by
  refine jMet (cc := cXM_limitOf) (maxL := 4) (ret := some .int) (by decide) rfl ?_
  intro p e s m args below meth c s₁ R Q hR hQ B hml hv
  obtain ⟨rfl, hsz, hP, hK, hD0, hN⟩ := hv
  have hx := B.exec
  have hb := B.bytes
  have hr := B.returns
  have hts := atoms_spec (ws := Cond.code yXM_limitOf cXM_limitOf 4 (some .int) :: TBL) B.pre
  have hown : s.vm.findClass RXM = some m.cls := findClass_of_methodNamed B.named
  have hlocks := B.notSynchronized
  subst hsz
  obtain ⟨A, hAe⟩ : ∃ A, A = va_A [(ma, .inr (5, [.int (jI mth), .int (jI mn), .ref a0, .int (jI mp), .int (jI mw), .ref a1, .ref a2, .ref a3, .ref a4, .ref a5, .ref a6, .ref a7, .ref a8, .ref a9, .ref a10, .long (jL mu), .long (jL md), .int (jI mo), .ref a11])), (a1, .inl (cZ, 62, .inl (jA y1))), (a2, .inl (cA, 62, .inl (jA y2))), (a7, .inl (cA, 248, .inl (jA y7)))] s.heap.size := ⟨_, rfl⟩
  have hD : va_D A [(ma, .inr (5, [.int (jI mth), .int (jI mn), .ref a0, .int (jI mp), .int (jI mw), .ref a1, .ref a2, .ref a3, .ref a4, .ref a5, .ref a6, .ref a7, .ref a8, .ref a9, .ref a10, .long (jL mu), .long (jL md), .int (jI mo), .ref a11])), (a1, .inl (cZ, 62, .inl (jA y1))), (a2, .inl (cA, 62, .inl (jA y2))), (a7, .inl (cA, 248, .inl (jA y7)))] := by rw [hAe]; exact hD0.self
  have hA : ∀ q : Nat, s.heap.size ≤ q → A q := fun q h => by rw [hAe]; exact Or.inr h
  have hS : va_S A s.heap s.heap [] := va_S.rf
  have hP : va_P (dC, dI) vwCl [(ma, .inr (5, [.int (jI mth), .int (jI mn), .ref a0, .int (jI mp), .int (jI mw), .ref a1, .ref a2, .ref a3, .ref a4, .ref a5, .ref a6, .ref a7, .ref a8, .ref a9, .ref a10, .long (jL mu), .long (jL md), .int (jI mo), .ref a11])), (a1, .inl (cZ, 62, .inl (jA y1))), (a2, .inl (cA, 62, .inl (jA y2))), (a7, .inl (cA, 248, .inl (jA y7)))] s.heap := hP
  have hl := lv_entry ([.ref ma, .int (jI z1), .int (jI z2)]) (n := 4) (Nat.le_of_ble_eq_true rfl)
  rw [lg_entry_eq]
  generalize (lg_sl ([.ref ma, .int (jI z1), .int (jI z2)]) ++ List.replicate (4 - (lg_sl ([.ref ma, .int (jI z1), .int (jI z2)])).length) Slot.unset).toArray = ls at hl ⊢
  have hl : lv_has ls 4 [(0, .ref ma), (1, .int (jI z1)), (2, .int (jI z2))] := hl
  refine lv_iload_n hx hb dXM_limitOf_0 rfl (lv_at hl 1 rfl) ?_
  refine lv_istore_n (lv' := [(3, .int (jI z1)), (0, .ref ma), (1, .int (jI z1)), (2, .int (jI z2))]) hx hb dXM_limitOf_1 rfl hl (by decide) rfl (fun ls hl => ?_)
  have loop2 : ∀ (n9 : Nat) (k : Int) , jdp (fun x => f_XM_from mth mn mp mw mu md mo y1 y2 x) 41 k < (n9 : Int) → (0 ≤ k ∧ k ≤ 30) → ∀ (H : Heap) (locs : List Loc), va_P (dC, dI) vwCl [(ma, .inr (5, [.int (jI mth), .int (jI mn), .ref a0, .int (jI mp), .int (jI mw), .ref a1, .ref a2, .ref a3, .ref a4, .ref a5, .ref a6, .ref a7, .ref a8, .ref a9, .ref a10, .long (jL mu), .long (jL md), .int (jI mo), .ref a11])), (a1, .inl (cZ, 62, .inl (jA y1))), (a2, .inl (cA, 62, .inl (jA y2))), (a7, .inl (cA, 248, .inl (jA y7)))] H → va_D A [(ma, .inr (5, [.int (jI mth), .int (jI mn), .ref a0, .int (jI mp), .int (jI mw), .ref a1, .ref a2, .ref a3, .ref a4, .ref a5, .ref a6, .ref a7, .ref a8, .ref a9, .ref a10, .long (jL mu), .long (jL md), .int (jI mo), .ref a11])), (a1, .inl (cZ, 62, .inl (jA y1))), (a2, .inl (cA, 62, .inl (jA y2))), (a7, .inl (cA, 248, .inl (jA y7)))] → va_S A s.heap H locs → ∀ ls : Array Slot, lv_has ls 4 [(3, .int (jI k)), (0, .ref ma), (1, .int (jI z1)), (2, .int (jI z2))] → W p l e R s m ([.ref ma, .int (jI z1), .int (jI z2)] : List Value).toArray below meth c H locs 0 0 Q (F0 m 2 ls []) := by
    intro n9
    induction n9 with
    | zero =>
      intro k hm hk
      exact absurd hm (by have h8 := jdp_nn (fun x => f_XM_from mth mn mp mw mu md mo y1 y2 x) 41 k; omega)
    | succ n9 ih2 =>
      intro k hm hk H locs hP hD hS ls hl
      refine lv_iload_n hx hb dXM_limitOf_2 rfl (lv_at hl 0 rfl) ?_
      refine ji_if_le (tgt := 39) hx hb dXM_limitOf_3 (by decide) (by first | omega | decide) (fun c3_ => ?_) (fun c3_ => ?_)
      · refine ji_iconst hx hb dXM_limitOf_39 ?_
        have hP9 := hP.sub (ws' := [(ma, .inr (5, [.int (jI mth), .int (jI mn), .ref a0, .int (jI mp), .int (jI mw), .ref a1, .ref a2, .ref a3, .ref a4, .ref a5, .ref a6, .ref a7, .ref a8, .ref a9, .ref a10, .long (jL mu), .long (jL md), .int (jI mo), .ref a11])), (a1, .inl (cZ, 62, .inl (jA y1))), (a2, .inl (cA, 62, .inl (jA y2))), (a7, .inl (cA, 248, .inl (jA y7)))]) [0, 1, 2, 3] rfl
        have hD9 := hD.sub (ws' := [(ma, .inr (5, [.int (jI mth), .int (jI mn), .ref a0, .int (jI mp), .int (jI mw), .ref a1, .ref a2, .ref a3, .ref a4, .ref a5, .ref a6, .ref a7, .ref a8, .ref a9, .ref a10, .long (jL mu), .long (jL md), .int (jI mo), .ref a11])), (a1, .inl (cZ, 62, .inl (jA y1))), (a2, .inl (cA, 62, .inl (jA y2))), (a7, .inl (cA, 248, .inl (jA y7)))]) [0, 1, 2, 3] (by decide) rfl
        subst hAe
        subst hQ
        exact W.iret (v := jI (-1)) hx hb hr (fun t ht hW => ⟨⟨_, (-1), rfl, ⟨rfl, (show -1 ≤ (-1 : Int) ∧ (-1 : Int) ≤ 999999 from by first | assumption | omega | exact jset_b (by assumption) (by omega))⟩, ⟨by rw [ht]; exact hP9, va_K.moved hW.alike hK, hD9⟩⟩, hS.F ht⟩) hS.2.2 dXM_limitOf_40
      · refine lv_aload_n hx hb dXM_limitOf_6 rfl (lv_at hl 1 rfl) ?_
        refine va_get (D := (dC, dI)) (ci := 5) (v := .ref a7) (C := RXM) (T := TXM) (N := 19) hx hb hts (fun w h => jmem (inXM w h)) hown hK hP 0 rfl rfl 11 (by decide) (hts _ (jmem tw_639)) (fun _ h9 => h9) rfl dXM_limitOf_7 ?_
        refine ji_iconst hx hb dXM_limitOf_10 ?_
        refine lv_iload_n hx hb dXM_limitOf_11 rfl (lv_at hl 0 rfl) ?_
        refine ji_imul hx hb dXM_limitOf_12 ?_
        refine lv_iload_n hx hb dXM_limitOf_13 rfl (lv_at hl 3 rfl) ?_
        refine ji_iadd hx hb dXM_limitOf_14 ?_
        refine ji_iald hx hb hK hP 3 0 rfl rfl ⟨by omega, by omega⟩ (by decide) dXM_limitOf_15 ?_
        have rb := hy7 ((4 * k) + z2)
        refine ji_if_lt (tgt := 30) hx hb dXM_limitOf_16 (by decide) (by first | omega | decide) (fun c16_ => ?_) (fun c16_ => ?_)
        · refine lv_aload_n hx hb dXM_limitOf_30 rfl (lv_at hl 1 rfl) ?_
          refine lv_iload_n hx hb dXM_limitOf_31 rfl (lv_at hl 0 rfl) ?_
          refine jrVi (rest := []) ⟨hx, hb, hml, hown, hts⟩ (c_XM_from l dC dI cA cZ ma a0 a1 a2 a3 a4 a5 a6 a7 a8 a9 a10 a11 mth mn mp mw mu md mo y1 y2 k (by first | assumption | omega) (by first | assumption | omega) (by first | assumption | omega)) (cwV 1 hts (jG_V tw_779 tw_781 ts_31 tw_6 tw_782) rfl rfl rfl (by decide +kernel) (by rw [hR]; exact ⟨Nat.le_of_ble_eq_true rfl, Nat.le_of_ble_eq_true rfl⟩)) hK hP hN [0, 1, 2] rfl 0 5 rfl rfl rfl rfl hl.1 rfl (Nat.le_of_ble_eq_true rfl) dXM_limitOf_32 (by rw [hR]; exact ⟨Nat.le_of_ble_eq_true rfl, Nat.le_of_ble_eq_true rfl⟩) ?_
          have f := f_XM_from_b mth mn mp mw mu md mo y1 y2 k (by first | assumption | omega) (by first | assumption | omega) (by first | assumption | omega)
          refine lv_istore_n (lv' := [(3, .int (jI (f_XM_from mth mn mp mw mu md mo y1 y2 k))), (0, .ref ma), (1, .int (jI z1)), (2, .int (jI z2))]) hx hb dXM_limitOf_35 rfl hl (by decide) rfl (fun ls hl => ?_)
          refine lv_goto (tgt := 2) hx hb dXM_limitOf_36 (by decide) ?_
          exact ih2 (f_XM_from mth mn mp mw mu md mo y1 y2 k) (by have h8 := from_dec mth mn mp mw mu md mo y1 y2 hy1 hy2 k (by omega); omega) (by first | assumption | omega | exact jset_b (by assumption) (by omega)) _ _ hP hD hS ls (lv_sub hl [0, 1, 2, 3] rfl)
        · refine lv_aload_n hx hb dXM_limitOf_19 rfl (lv_at hl 1 rfl) ?_
          refine va_get (D := (dC, dI)) (ci := 5) (v := .ref a7) (C := RXM) (T := TXM) (N := 19) hx hb hts (fun w h => jmem (inXM w h)) hown hK hP 0 rfl rfl 11 (by decide) (hts _ (jmem tw_639)) (fun _ h9 => h9) rfl dXM_limitOf_20 ?_
          refine ji_iconst hx hb dXM_limitOf_23 ?_
          refine lv_iload_n hx hb dXM_limitOf_24 rfl (lv_at hl 0 rfl) ?_
          refine ji_imul hx hb dXM_limitOf_25 ?_
          refine lv_iload_n hx hb dXM_limitOf_26 rfl (lv_at hl 3 rfl) ?_
          refine ji_iadd hx hb dXM_limitOf_27 ?_
          refine ji_iald hx hb hK hP 3 0 rfl rfl ⟨by omega, by omega⟩ (by decide) dXM_limitOf_28 ?_
          have rb1 := hy7 ((4 * k) + z2)
          have hP9 := hP.sub (ws' := [(ma, .inr (5, [.int (jI mth), .int (jI mn), .ref a0, .int (jI mp), .int (jI mw), .ref a1, .ref a2, .ref a3, .ref a4, .ref a5, .ref a6, .ref a7, .ref a8, .ref a9, .ref a10, .long (jL mu), .long (jL md), .int (jI mo), .ref a11])), (a1, .inl (cZ, 62, .inl (jA y1))), (a2, .inl (cA, 62, .inl (jA y2))), (a7, .inl (cA, 248, .inl (jA y7)))]) [0, 1, 2, 3] rfl
          have hD9 := hD.sub (ws' := [(ma, .inr (5, [.int (jI mth), .int (jI mn), .ref a0, .int (jI mp), .int (jI mw), .ref a1, .ref a2, .ref a3, .ref a4, .ref a5, .ref a6, .ref a7, .ref a8, .ref a9, .ref a10, .long (jL mu), .long (jL md), .int (jI mo), .ref a11])), (a1, .inl (cZ, 62, .inl (jA y1))), (a2, .inl (cA, 62, .inl (jA y2))), (a7, .inl (cA, 248, .inl (jA y7)))]) [0, 1, 2, 3] (by decide) rfl
          subst hAe
          subst hQ
          exact W.iret (v := jI (y7 ((4 * k) + z2))) hx hb hr (fun t ht hW => ⟨⟨_, (y7 ((4 * k) + z2)), rfl, ⟨rfl, (show -1 ≤ (y7 ((4 * k) + z2)) ∧ (y7 ((4 * k) + z2)) ≤ 999999 from by first | assumption | omega | exact jset_b (by assumption) (by omega))⟩, ⟨by rw [ht]; exact hP9, va_K.moved hW.alike hK, hD9⟩⟩, hS.F ht⟩) hS.2.2 dXM_limitOf_29
  exact loop2 (Int.toNat (jdp (fun x => f_XM_from mth mn mp mw mu md mo y1 y2 x) 41 z1) + 1) z1 (by omega) (by first | assumption | omega | exact jset_b (by assumption) (by omega)) _ _ hP hD hS ls (lv_sub hl [0, 1, 2, 3] rfl)

end
section
theorem mulb {a b : Int} (ha : 0 ≤ a) (hb : 0 ≤ b ∧ b ≤ 20) : 0 ≤ a * b ∧ a * b ≤ 20 * a ∧ (1 ≤ b → a ≤ a * b) := by
  have h1 := Int.mul_nonneg ha hb.1
  have h2 := Int.mul_le_mul_of_nonneg_left hb.2 ha
  refine ⟨h1, by omega, fun h => ?_⟩
  have h3 := Int.mul_le_mul_of_nonneg_left h ha
  omega
theorem mulc {a b : Int} (ha : 0 ≤ a ∧ a ≤ 100000) (hb : 0 ≤ b) : 0 ≤ a * b ∧ a * b ≤ 100000 * b := ⟨Int.mul_nonneg ha.1 hb, Int.mul_le_mul_of_nonneg_right ha.2 hb⟩
theorem muld {a b : Int} (ha : -1 ≤ a ∧ a ≤ 999999) (hb : 1 ≤ b ∧ b ≤ 25600000000) : -25600000000 ≤ a * b ∧ a * b ≤ 25599974400000000 := by
  have h1 := Int.mul_le_mul_of_nonneg_right ha.2 (show 0 ≤ b by omega)
  have h2 := Int.mul_le_mul_of_nonneg_right ha.1 (show 0 ≤ b by omega)
  omega
theorem gdb (x y : Int) (hx : 1 ≤ x) (hy : 0 < y) : 0 ≤ Int.tmod x y ∧ Int.tmod x y < y := by
  rw [Int.tmod_eq_emod_of_nonneg (by omega)]
  exact ⟨Int.emod_nonneg x (by omega), Int.emod_lt_of_pos x hy⟩
theorem gds {x y D : Int} (hx : 1 ≤ x) (h : ∀ d : Int, d ∣ x → d ∣ y → d ∣ D) : ∀ d : Int, d ∣ y → d ∣ Int.tmod x y → d ∣ D := fun d h1 h2 => h d (by
  rw [Int.tmod_eq_emod_of_nonneg (by omega)] at h2
  have e : x = x % y + y * (x / y) := (Int.emod_add_mul_ediv x y).symm
  rw [e]
  exact Int.dvd_add h2 (Int.dvd_trans h1 (Int.dvd_mul_right y (x / y)))) h1
theorem tdb (a b : Int) (ha : 0 ≤ a) (hb : 1 ≤ b) : 0 ≤ Int.tdiv a b ∧ Int.tdiv a b ≤ a := by
  rw [Int.tdiv_eq_ediv_of_nonneg ha]
  exact ⟨Int.ediv_nonneg ha (by omega), Int.ediv_le_self b ha⟩
theorem td1 (a b : Int) (ha : 1 ≤ a) (hb : 1 ≤ b) (h : b ∣ a) : 1 ≤ Int.tdiv a b := by
  obtain ⟨q, rfl⟩ := h
  rw [Int.tdiv_eq_ediv_of_nonneg (by omega), Int.mul_ediv_cancel_left q (by omega)]
  by_cases h9 : 1 ≤ q
  · exact h9
  · have := Int.mul_le_mul_of_nonneg_left (show q ≤ 0 by omega) (show 0 ≤ b by omega)
    omega
set_option maxHeartbeats 4000000 in
set_option maxRecDepth 100000 in
theorem c_XM_adds (l : Launch) (dC : Nat → ClassId) (dI : Nat → Nat → Nat) (cA cZ : ClassId) (sz : Nat) (ma : Nat) (a0 : Nat) (a1 : Nat) (a2 : Nat) (a3 : Nat) (a4 : Nat) (a5 : Nat) (a6 : Nat) (a7 : Nat) (a8 : Nat) (a9 : Nat) (a10 : Nat) (a11 : Nat) (mth : Int) (mn : Int) (mp : Int) (mw : Int) (mu : Int) (md : Int) (mo : Int) (zs : Int) (z2 : Int) (hzs : 0 ≤ zs ∧ zs ≤ 100000) (hz2 : 0 ≤ z2 ∧ z2 ≤ 20) (hmu : 0 ≤ mu ∧ mu ≤ 100000000000000) (hmd : 1 ≤ md ∧ md ≤ 1280000000) : Met l yXM_adds (Cond.code yXM_adds cXM_adds 10 none :: TBL) ({ frames := 0, cells := 0, slots := 0, locals := 0 } : Room) (va_Pc [.ref ma, .long (jL zs), .int (jI z2)] (jBw (dC, dI) [(cA, .int), (cZ, .boolean)] [(ma, .inr (5, [.int (jI mth), .int (jI mn), .ref a0, .int (jI mp), .int (jI mw), .ref a1, .ref a2, .ref a3, .ref a4, .ref a5, .ref a6, .ref a7, .ref a8, .ref a9, .ref a10, .long (jL mu), .long (jL md), .int (jI mo), .ref a11]))] sz)) (va_Qv (fun (u : Int × Int) => (0 ≤ u.1 ∧ u.1 ≤ 20 * mu + 100000 * md) ∧ (1 ≤ u.2 ∧ u.2 ≤ 20 * md)) (fun u t => jE (dC, dI) [(cA, .int), (cZ, .boolean)] [(ma, .inr (5, [.int (jI mth), .int (jI mn), .ref a0, .int (jI mp), .int (jI mw), .ref a1, .ref a2, .ref a3, .ref a4, .ref a5, .ref a6, .ref a7, .ref a8, .ref a9, .ref a10, .long (jL mu), .long (jL md), .int (jI mo), .ref a11]))] sz [(ma, .inr (5, [.int (jI mth), .int (jI mn), .ref a0, .int (jI mp), .int (jI mw), .ref a1, .ref a2, .ref a3, .ref a4, .ref a5, .ref a6, .ref a7, .ref a8, .ref a9, .ref a10, .long (jL u.1), .long (jL u.2), .int (jI mo), .ref a11]))] t) (va_A [(ma, .inr (5, [.int (jI mth), .int (jI mn), .ref a0, .int (jI mp), .int (jI mw), .ref a1, .ref a2, .ref a3, .ref a4, .ref a5, .ref a6, .ref a7, .ref a8, .ref a9, .ref a10, .long (jL mu), .long (jL md), .int (jI mo), .ref a11]))] sz)) 0 0 (va_A [(ma, .inr (5, [.int (jI mth), .int (jI mn), .ref a0, .int (jI mp), .int (jI mw), .ref a1, .ref a2, .ref a3, .ref a4, .ref a5, .ref a6, .ref a7, .ref a8, .ref a9, .ref a10, .long (jL mu), .long (jL md), .int (jI mo), .ref a11]))] sz) := by
  refine jMet (cc := cXM_adds) (maxL := 10) (ret := none) (by decide) rfl ?_
  intro p e s m args below meth c s₁ R Q hR hQ B hml hv
  obtain ⟨rfl, hsz, hP, hK, hD0, hN⟩ := hv
  have hx := B.exec
  have hb := B.bytes
  have hr := B.returns
  have hts := atoms_spec (ws := Cond.code yXM_adds cXM_adds 10 none :: TBL) B.pre
  have hown : s.vm.findClass RXM = some m.cls := findClass_of_methodNamed B.named
  have hlocks := B.notSynchronized
  subst hsz
  obtain ⟨A, hAe⟩ : ∃ A, A = va_A [(ma, .inr (5, [.int (jI mth), .int (jI mn), .ref a0, .int (jI mp), .int (jI mw), .ref a1, .ref a2, .ref a3, .ref a4, .ref a5, .ref a6, .ref a7, .ref a8, .ref a9, .ref a10, .long (jL mu), .long (jL md), .int (jI mo), .ref a11]))] s.heap.size := ⟨_, rfl⟩
  have hD : va_D A [(ma, .inr (5, [.int (jI mth), .int (jI mn), .ref a0, .int (jI mp), .int (jI mw), .ref a1, .ref a2, .ref a3, .ref a4, .ref a5, .ref a6, .ref a7, .ref a8, .ref a9, .ref a10, .long (jL mu), .long (jL md), .int (jI mo), .ref a11]))] := by rw [hAe]; exact hD0.self
  have hA : ∀ q : Nat, s.heap.size ≤ q → A q := fun q h => by rw [hAe]; exact Or.inr h
  have hS : va_S A s.heap s.heap [] := va_S.rf
  have hP : va_P (dC, dI) vwCl [(ma, .inr (5, [.int (jI mth), .int (jI mn), .ref a0, .int (jI mp), .int (jI mw), .ref a1, .ref a2, .ref a3, .ref a4, .ref a5, .ref a6, .ref a7, .ref a8, .ref a9, .ref a10, .long (jL mu), .long (jL md), .int (jI mo), .ref a11]))] s.heap := hP
  have hl := lv_entry ([.ref ma, .long (jL zs), .int (jI z2)]) (n := 10) (Nat.le_of_ble_eq_true rfl)
  rw [lg_entry_eq]
  generalize (lg_sl ([.ref ma, .long (jL zs), .int (jI z2)]) ++ List.replicate (10 - (lg_sl ([.ref ma, .long (jL zs), .int (jI z2)])).length) Slot.unset).toArray = ls at hl ⊢
  have hl : lv_has ls 10 [(0, .ref ma), (1, .long (jL zs)), (3, .int (jI z2))] := hl
  have q1 := mulb hmu.1 hz2
  have q2 := mulc hzs (show 0 ≤ md by omega)
  have q3 := mulb (show 0 ≤ md by omega) hz2
  refine lv_iload_n hx hb dXM_adds_0 rfl (lv_at hl 2 rfl) ?_
  refine ji_if_ne (tgt := 5) hx hb dXM_adds_1 (by decide) (by first | omega | decide) (fun c1_ => ?_) (fun c1_ => ?_)
  · refine lv_aload_n hx hb dXM_adds_5 rfl (lv_at hl 0 rfl) ?_
    refine lv_aload_n hx hb dXM_adds_6 rfl (lv_at hl 0 rfl) ?_
    refine va_get (D := (dC, dI)) (ci := 5) (v := .long (jL mu)) (C := RXM) (T := TXM) (N := 19) hx hb hts (fun w h => jmem (inXM w h)) hown hK hP 0 rfl rfl 15 (by decide) (hts _ (jmem tw_643)) (fun _ h9 => h9) rfl dXM_adds_7 ?_
    refine lv_iload_n hx hb dXM_adds_10 rfl (lv_at hl 2 rfl) ?_
    refine ji_i2l hx hb dXM_adds_11 (by omega) ?_
    refine ji_lmul hx hb dXM_adds_12 ?_
    refine lv_lload_n hx hb dXM_adds_13 rfl (lv_at hl 1 rfl) ?_
    refine lv_aload_n hx hb dXM_adds_14 rfl (lv_at hl 0 rfl) ?_
    refine va_get (D := (dC, dI)) (ci := 5) (v := .long (jL md)) (C := RXM) (T := TXM) (N := 19) hx hb hts (fun w h => jmem (inXM w h)) hown hK hP 0 rfl rfl 16 (by decide) (hts _ (jmem tw_644)) (fun _ h9 => h9) rfl dXM_adds_15 ?_
    refine ji_lmul hx hb dXM_adds_18 ?_
    refine ji_ladd hx hb dXM_adds_19 ?_
    refine va_put (D := (dC, dI)) (ci := 5) (v := .long (jL ((mu * z2) + (zs * md)))) (ty := (.long)) (C := RXM) (T := TXM) (N := 19) hx hb hts (fun w h => jmem (inXM w h)) tyXM tyXM_ok nXM hown hK hP hD hS 0 rfl rfl 15 (by decide) (hts _ (jmem tw_643)) (fun _ h9 => h9) rfl (by decide +kernel) rfl rfl (Nat.le_of_ble_eq_true rfl) dXM_adds_20 (fun H locs hP hD hS => ?_)
    have hP : va_P (dC, dI) vwCl [(ma, .inr (5, [.int (jI mth), .int (jI mn), .ref a0, .int (jI mp), .int (jI mw), .ref a1, .ref a2, .ref a3, .ref a4, .ref a5, .ref a6, .ref a7, .ref a8, .ref a9, .ref a10, .long (jL ((mu * z2) + (zs * md))), .long (jL md), .int (jI mo), .ref a11]))] H := hP
    have hD : va_D A [(ma, .inr (5, [.int (jI mth), .int (jI mn), .ref a0, .int (jI mp), .int (jI mw), .ref a1, .ref a2, .ref a3, .ref a4, .ref a5, .ref a6, .ref a7, .ref a8, .ref a9, .ref a10, .long (jL ((mu * z2) + (zs * md))), .long (jL md), .int (jI mo), .ref a11]))] := hD
    refine lv_aload_n hx hb dXM_adds_23 rfl (lv_at hl 0 rfl) ?_
    refine lv_aload_n hx hb dXM_adds_24 rfl (lv_at hl 0 rfl) ?_
    refine va_get (D := (dC, dI)) (ci := 5) (v := .long (jL md)) (C := RXM) (T := TXM) (N := 19) hx hb hts (fun w h => jmem (inXM w h)) hown hK hP 0 rfl rfl 16 (by decide) (hts _ (jmem tw_644)) (fun _ h9 => h9) rfl dXM_adds_25 ?_
    refine lv_iload_n hx hb dXM_adds_28 rfl (lv_at hl 2 rfl) ?_
    refine ji_i2l hx hb dXM_adds_29 (by omega) ?_
    refine ji_lmul hx hb dXM_adds_30 ?_
    refine va_put (D := (dC, dI)) (ci := 5) (v := .long (jL (md * z2))) (ty := (.long)) (C := RXM) (T := TXM) (N := 19) hx hb hts (fun w h => jmem (inXM w h)) tyXM tyXM_ok nXM hown hK hP hD hS 0 rfl rfl 16 (by decide) (hts _ (jmem tw_644)) (fun _ h9 => h9) rfl (by decide +kernel) rfl rfl (Nat.le_of_ble_eq_true rfl) dXM_adds_31 (fun H locs hP hD hS => ?_)
    have hP : va_P (dC, dI) vwCl [(ma, .inr (5, [.int (jI mth), .int (jI mn), .ref a0, .int (jI mp), .int (jI mw), .ref a1, .ref a2, .ref a3, .ref a4, .ref a5, .ref a6, .ref a7, .ref a8, .ref a9, .ref a10, .long (jL ((mu * z2) + (zs * md))), .long (jL (md * z2)), .int (jI mo), .ref a11]))] H := hP
    have hD : va_D A [(ma, .inr (5, [.int (jI mth), .int (jI mn), .ref a0, .int (jI mp), .int (jI mw), .ref a1, .ref a2, .ref a3, .ref a4, .ref a5, .ref a6, .ref a7, .ref a8, .ref a9, .ref a10, .long (jL ((mu * z2) + (zs * md))), .long (jL (md * z2)), .int (jI mo), .ref a11]))] := hD
    refine lv_aload_n hx hb dXM_adds_34 rfl (lv_at hl 0 rfl) ?_
    refine va_get (D := (dC, dI)) (ci := 5) (v := .long (jL (md * z2))) (C := RXM) (T := TXM) (N := 19) hx hb hts (fun w h => jmem (inXM w h)) hown hK hP 0 rfl rfl 16 (by decide) (hts _ (jmem tw_644)) (fun _ h9 => h9) rfl dXM_adds_35 ?_
    refine lv_lstore (lv' := [(4, .long (jL (md * z2))), (0, .ref ma), (1, .long (jL zs)), (3, .int (jI z2))]) hx hb dXM_adds_38 hl (by decide) rfl (fun ls hl => ?_)
    refine lv_aload_n hx hb dXM_adds_40 rfl (lv_at hl 1 rfl) ?_
    refine va_get (D := (dC, dI)) (ci := 5) (v := .long (jL ((mu * z2) + (zs * md)))) (C := RXM) (T := TXM) (N := 19) hx hb hts (fun w h => jmem (inXM w h)) hown hK hP 0 rfl rfl 15 (by decide) (hts _ (jmem tw_643)) (fun _ h9 => h9) rfl dXM_adds_41 ?_
    refine lv_lstore (lv' := [(6, .long (jL ((mu * z2) + (zs * md)))), (4, .long (jL (md * z2))), (0, .ref ma), (1, .long (jL zs)), (3, .int (jI z2))]) hx hb dXM_adds_44 hl (by decide) rfl (fun ls hl => ?_)
    have loop46 : ∀ (n9 : Nat) (x4 : Int) (x6 : Int) , x6 < (n9 : Int) → (1 ≤ x4 ∧ x4 ≤ 10000000000000000) → (0 ≤ x6 ∧ x6 ≤ 10000000000000000) → (∀ d : Int, d ∣ x4 → d ∣ x6 → d ∣ md * z2) → ∀ (H : Heap) (locs : List Loc), va_P (dC, dI) vwCl [(ma, .inr (5, [.int (jI mth), .int (jI mn), .ref a0, .int (jI mp), .int (jI mw), .ref a1, .ref a2, .ref a3, .ref a4, .ref a5, .ref a6, .ref a7, .ref a8, .ref a9, .ref a10, .long (jL ((mu * z2) + (zs * md))), .long (jL (md * z2)), .int (jI mo), .ref a11]))] H → va_D A [(ma, .inr (5, [.int (jI mth), .int (jI mn), .ref a0, .int (jI mp), .int (jI mw), .ref a1, .ref a2, .ref a3, .ref a4, .ref a5, .ref a6, .ref a7, .ref a8, .ref a9, .ref a10, .long (jL ((mu * z2) + (zs * md))), .long (jL (md * z2)), .int (jI mo), .ref a11]))] → va_S A s.heap H locs → ∀ ls : Array Slot, lv_has ls 10 [(6, .long (jL x6)), (4, .long (jL x4)), (0, .ref ma), (1, .long (jL zs)), (3, .int (jI z2))] → W p l e R s m ([.ref ma, .long (jL zs), .int (jI z2)] : List Value).toArray below meth c H locs 0 0 Q (F0 m 46 ls []) := by
      intro n9
      induction n9 with
      | zero =>
        intro x4 x6 hm hx4 hx6 hgd
        exact absurd hm (by omega)
      | succ n9 ih46 =>
        intro x4 x6 hm hx4 hx6 hgd H locs hP hD hS ls hl
        refine lv_lload hx hb dXM_adds_46 (lv_at hl 0 rfl) ?_
        refine ji_lconst (z := 0) hx hb dXM_adds_48 rfl ?_
        refine ji_lcmp hx hb dXM_adds_49 (by omega) (by omega) ?_
        refine ji_if_le (tgt := 71) hx hb dXM_adds_50 (by decide) (jcmp_i _ _) (fun c50_ => ?_) (fun c50_ => ?_)
        · have c50_ := jcmp_ngt.mp c50_
          refine lv_aload_n hx hb dXM_adds_71 rfl (lv_at hl 2 rfl) ?_
          refine lv_aload_n hx hb dXM_adds_72 rfl (lv_at hl 2 rfl) ?_
          refine va_get (D := (dC, dI)) (ci := 5) (v := .long (jL ((mu * z2) + (zs * md)))) (C := RXM) (T := TXM) (N := 19) hx hb hts (fun w h => jmem (inXM w h)) hown hK hP 0 rfl rfl 15 (by decide) (hts _ (jmem tw_643)) (fun _ h9 => h9) rfl dXM_adds_73 ?_
          refine lv_lload hx hb dXM_adds_76 (lv_at hl 1 rfl) ?_
          refine ji_ldiv hx hb dXM_adds_78 (by omega) (by omega) (by omega) (by omega) ?_
          have q5 := tdb (mu * z2 + zs * md) x4 (by omega) (by omega)
          refine va_put (D := (dC, dI)) (ci := 5) (v := .long (jL (Int.tdiv ((mu * z2) + (zs * md)) x4))) (ty := (.long)) (C := RXM) (T := TXM) (N := 19) hx hb hts (fun w h => jmem (inXM w h)) tyXM tyXM_ok nXM hown hK hP hD hS 0 rfl rfl 15 (by decide) (hts _ (jmem tw_643)) (fun _ h9 => h9) rfl (by decide +kernel) rfl rfl (Nat.le_of_ble_eq_true rfl) dXM_adds_79 (fun H locs hP hD hS => ?_)
          have hP : va_P (dC, dI) vwCl [(ma, .inr (5, [.int (jI mth), .int (jI mn), .ref a0, .int (jI mp), .int (jI mw), .ref a1, .ref a2, .ref a3, .ref a4, .ref a5, .ref a6, .ref a7, .ref a8, .ref a9, .ref a10, .long (jL (Int.tdiv ((mu * z2) + (zs * md)) x4)), .long (jL (md * z2)), .int (jI mo), .ref a11]))] H := hP
          have hD : va_D A [(ma, .inr (5, [.int (jI mth), .int (jI mn), .ref a0, .int (jI mp), .int (jI mw), .ref a1, .ref a2, .ref a3, .ref a4, .ref a5, .ref a6, .ref a7, .ref a8, .ref a9, .ref a10, .long (jL (Int.tdiv ((mu * z2) + (zs * md)) x4)), .long (jL (md * z2)), .int (jI mo), .ref a11]))] := hD
          refine lv_aload_n hx hb dXM_adds_82 rfl (lv_at hl 2 rfl) ?_
          refine lv_aload_n hx hb dXM_adds_83 rfl (lv_at hl 2 rfl) ?_
          refine va_get (D := (dC, dI)) (ci := 5) (v := .long (jL (md * z2))) (C := RXM) (T := TXM) (N := 19) hx hb hts (fun w h => jmem (inXM w h)) hown hK hP 0 rfl rfl 16 (by decide) (hts _ (jmem tw_644)) (fun _ h9 => h9) rfl dXM_adds_84 ?_
          refine lv_lload hx hb dXM_adds_87 (lv_at hl 1 rfl) ?_
          refine ji_ldiv hx hb dXM_adds_89 (by omega) (by omega) (by omega) (by omega) ?_
          have q6 := tdb (md * z2) x4 (by omega) (by omega)
          have q7 := td1 (md * z2) x4 (by omega) (by omega) (hgd x4 (Int.dvd_refl x4) (by rw [show x6 = 0 by omega]; exact Int.dvd_zero x4))
          refine va_put (D := (dC, dI)) (ci := 5) (v := .long (jL (Int.tdiv (md * z2) x4))) (ty := (.long)) (C := RXM) (T := TXM) (N := 19) hx hb hts (fun w h => jmem (inXM w h)) tyXM tyXM_ok nXM hown hK hP hD hS 0 rfl rfl 16 (by decide) (hts _ (jmem tw_644)) (fun _ h9 => h9) rfl (by decide +kernel) rfl rfl (Nat.le_of_ble_eq_true rfl) dXM_adds_90 (fun H locs hP hD hS => ?_)
          have hP : va_P (dC, dI) vwCl [(ma, .inr (5, [.int (jI mth), .int (jI mn), .ref a0, .int (jI mp), .int (jI mw), .ref a1, .ref a2, .ref a3, .ref a4, .ref a5, .ref a6, .ref a7, .ref a8, .ref a9, .ref a10, .long (jL (Int.tdiv ((mu * z2) + (zs * md)) x4)), .long (jL (Int.tdiv (md * z2) x4)), .int (jI mo), .ref a11]))] H := hP
          have hD : va_D A [(ma, .inr (5, [.int (jI mth), .int (jI mn), .ref a0, .int (jI mp), .int (jI mw), .ref a1, .ref a2, .ref a3, .ref a4, .ref a5, .ref a6, .ref a7, .ref a8, .ref a9, .ref a10, .long (jL (Int.tdiv ((mu * z2) + (zs * md)) x4)), .long (jL (Int.tdiv (md * z2) x4)), .int (jI mo), .ref a11]))] := hD
          have hP9 := hP.sub (ws' := [(ma, .inr (5, [.int (jI mth), .int (jI mn), .ref a0, .int (jI mp), .int (jI mw), .ref a1, .ref a2, .ref a3, .ref a4, .ref a5, .ref a6, .ref a7, .ref a8, .ref a9, .ref a10, .long (jL (Int.tdiv ((mu * z2) + (zs * md)) x4)), .long (jL (Int.tdiv (md * z2) x4)), .int (jI mo), .ref a11]))]) [0] rfl
          have hD9 := hD.sub (ws' := [(ma, .inr (5, [.int (jI mth), .int (jI mn), .ref a0, .int (jI mp), .int (jI mw), .ref a1, .ref a2, .ref a3, .ref a4, .ref a5, .ref a6, .ref a7, .ref a8, .ref a9, .ref a10, .long (jL (Int.tdiv ((mu * z2) + (zs * md)) x4)), .long (jL (Int.tdiv (md * z2) x4)), .int (jI mo), .ref a11]))]) [0] (by decide) rfl
          subst hAe
          subst hQ
          exact W.vret hx hb hr (fun t ht hW => ⟨⟨(Int.tdiv ((mu * z2) + (zs * md)) x4, Int.tdiv (md * z2) x4), rfl, ⟨(show 0 ≤ (Int.tdiv ((mu * z2) + (zs * md)) x4) ∧ (Int.tdiv ((mu * z2) + (zs * md)) x4) ≤ 20 * mu + 100000 * md from by first | assumption | omega | exact jset_b (by assumption) (by omega)), (show 1 ≤ (Int.tdiv (md * z2) x4) ∧ (Int.tdiv (md * z2) x4) ≤ 20 * md from by first | assumption | omega | exact jset_b (by assumption) (by omega))⟩, ⟨by rw [ht]; exact hP9, va_K.moved hW.alike hK, hD9⟩⟩, hS.F ht⟩) hS.2.2 dXM_adds_93
        · have c50_ := jcmp_gt.mp c50_
          refine lv_lload hx hb dXM_adds_53 (lv_at hl 1 rfl) ?_
          refine lv_lload hx hb dXM_adds_55 (lv_at hl 0 rfl) ?_
          refine ji_lrem hx hb dXM_adds_57 (by omega) (by omega) (by omega) (by omega) ?_
          have q4 := gdb x4 x6 (by omega) (by omega)
          refine lv_lstore (lv' := [(8, .long (jL (Int.tmod x4 x6))), (6, .long (jL x6)), (4, .long (jL x4)), (0, .ref ma), (1, .long (jL zs)), (3, .int (jI z2))]) hx hb dXM_adds_58 hl (by decide) rfl (fun ls hl => ?_)
          refine lv_lload hx hb dXM_adds_60 (lv_at hl 1 rfl) ?_
          refine lv_lstore (lv' := [(4, .long (jL x6)), (8, .long (jL (Int.tmod x4 x6))), (6, .long (jL x6)), (0, .ref ma), (1, .long (jL zs)), (3, .int (jI z2))]) hx hb dXM_adds_62 hl (by decide) rfl (fun ls hl => ?_)
          refine lv_lload hx hb dXM_adds_64 (lv_at hl 1 rfl) ?_
          refine lv_lstore (lv' := [(6, .long (jL (Int.tmod x4 x6))), (4, .long (jL x6)), (8, .long (jL (Int.tmod x4 x6))), (0, .ref ma), (1, .long (jL zs)), (3, .int (jI z2))]) hx hb dXM_adds_66 hl (by decide) rfl (fun ls hl => ?_)
          refine lv_goto (tgt := 46) hx hb dXM_adds_68 (by decide) ?_
          exact ih46 x6 (Int.tmod x4 x6) (by omega) (by first | assumption | omega | exact jset_b (by assumption) (by omega)) (by first | assumption | omega | exact jset_b (by assumption) (by omega)) (gds (by omega) hgd) _ _ hP hD hS ls (lv_sub hl [0, 1, 3, 4, 5] rfl)
    exact loop46 (Int.toNat (((mu * z2) + (zs * md))) + 1) (md * z2) ((mu * z2) + (zs * md)) (by omega) (by first | assumption | omega | exact jset_b (by assumption) (by omega)) (by first | assumption | omega | exact jset_b (by assumption) (by omega)) (fun d h _ => h) _ _ hP hD hS ls (lv_sub hl [0, 1, 2, 3, 4] rfl)
  · have hP9 := hP.sub (ws' := [(ma, .inr (5, [.int (jI mth), .int (jI mn), .ref a0, .int (jI mp), .int (jI mw), .ref a1, .ref a2, .ref a3, .ref a4, .ref a5, .ref a6, .ref a7, .ref a8, .ref a9, .ref a10, .long (jL mu), .long (jL md), .int (jI mo), .ref a11]))]) [0] rfl
    have hD9 := hD.sub (ws' := [(ma, .inr (5, [.int (jI mth), .int (jI mn), .ref a0, .int (jI mp), .int (jI mw), .ref a1, .ref a2, .ref a3, .ref a4, .ref a5, .ref a6, .ref a7, .ref a8, .ref a9, .ref a10, .long (jL mu), .long (jL md), .int (jI mo), .ref a11]))]) [0] (by decide) rfl
    subst hAe
    subst hQ
    exact W.vret hx hb hr (fun t ht hW => ⟨⟨(mu, md), rfl, ⟨(show 0 ≤ mu ∧ mu ≤ 20 * mu + 100000 * md from by first | assumption | omega | exact jset_b (by assumption) (by omega)), (show 1 ≤ md ∧ md ≤ 20 * md from by first | assumption | omega | exact jset_b (by assumption) (by omega))⟩, ⟨by rw [ht]; exact hP9, va_K.moved hW.alike hK, hD9⟩⟩, hS.F ht⟩) hS.2.2 dXM_adds_4
def kUD (e u d : Int) : Prop := (e = 0 → u ≤ 0 ∧ d ≤ 1) ∧ (e = 1 → u ≤ 100000 ∧ d ≤ 20) ∧ (e = 2 → u ≤ 4000000 ∧ d ≤ 400) ∧ (e = 3 → u ≤ 120000000 ∧ d ≤ 8000) ∧ (e = 4 → u ≤ 3200000000 ∧ d ≤ 160000) ∧ (e = 5 → u ≤ 80000000000 ∧ d ≤ 3200000) ∧ (e = 6 → u ≤ 1920000000000 ∧ d ≤ 64000000) ∧ (e = 7 → u ≤ 44800000000000 ∧ d ≤ 1280000000) ∧ (e = 8 → u ≤ 1024000000000000 ∧ d ≤ 25600000000)
theorem kUD_0 : kUD 0 0 1 := by
  unfold kUD
  omega
theorem kUD_c {e u d : Int} (he : 0 ≤ e ∧ e ≤ 8) (h : kUD e u d) : (e = 0 ∧ u ≤ 0 ∧ d ≤ 1) ∨ (e = 1 ∧ u ≤ 100000 ∧ d ≤ 20) ∨ (e = 2 ∧ u ≤ 4000000 ∧ d ≤ 400) ∨ (e = 3 ∧ u ≤ 120000000 ∧ d ≤ 8000) ∨ (e = 4 ∧ u ≤ 3200000000 ∧ d ≤ 160000) ∨ (e = 5 ∧ u ≤ 80000000000 ∧ d ≤ 3200000) ∨ (e = 6 ∧ u ≤ 1920000000000 ∧ d ≤ 64000000) ∨ (e = 7 ∧ u ≤ 44800000000000 ∧ d ≤ 1280000000) ∨ (e = 8 ∧ u ≤ 1024000000000000 ∧ d ≤ 25600000000) := by
  obtain ⟨h0, h1, h2, h3, h4, h5, h6, h7, h8⟩ := h
  rcases (show e = 0 ∨ e = 1 ∨ e = 2 ∨ e = 3 ∨ e = 4 ∨ e = 5 ∨ e = 6 ∨ e = 7 ∨ e = 8 by omega) with q | q | q | q | q | q | q | q | q
  · exact Or.inl ⟨q, h0 q⟩
  · exact Or.inr (Or.inl ⟨q, h1 q⟩)
  · exact Or.inr (Or.inr (Or.inl ⟨q, h2 q⟩))
  · exact Or.inr (Or.inr (Or.inr (Or.inl ⟨q, h3 q⟩)))
  · exact Or.inr (Or.inr (Or.inr (Or.inr (Or.inl ⟨q, h4 q⟩))))
  · exact Or.inr (Or.inr (Or.inr (Or.inr (Or.inr (Or.inl ⟨q, h5 q⟩)))))
  · exact Or.inr (Or.inr (Or.inr (Or.inr (Or.inr (Or.inr (Or.inl ⟨q, h6 q⟩))))))
  · exact Or.inr (Or.inr (Or.inr (Or.inr (Or.inr (Or.inr (Or.inr (Or.inl ⟨q, h7 q⟩)))))))
  · exact Or.inr (Or.inr (Or.inr (Or.inr (Or.inr (Or.inr (Or.inr (Or.inr (⟨q, h8 q⟩))))))))
theorem kUD_i (e u d : Int) (h : (e = 0 ∧ u ≤ 0 ∧ d ≤ 1) ∨ (e = 1 ∧ u ≤ 100000 ∧ d ≤ 20) ∨ (e = 2 ∧ u ≤ 4000000 ∧ d ≤ 400) ∨ (e = 3 ∧ u ≤ 120000000 ∧ d ≤ 8000) ∨ (e = 4 ∧ u ≤ 3200000000 ∧ d ≤ 160000) ∨ (e = 5 ∧ u ≤ 80000000000 ∧ d ≤ 3200000) ∨ (e = 6 ∧ u ≤ 1920000000000 ∧ d ≤ 64000000) ∨ (e = 7 ∧ u ≤ 44800000000000 ∧ d ≤ 1280000000) ∨ (e = 8 ∧ u ≤ 1024000000000000 ∧ d ≤ 25600000000)) : kUD e u d := by
  rcases h with ⟨q, h1, h2⟩ | ⟨q, h1, h2⟩ | ⟨q, h1, h2⟩ | ⟨q, h1, h2⟩ | ⟨q, h1, h2⟩ | ⟨q, h1, h2⟩ | ⟨q, h1, h2⟩ | ⟨q, h1, h2⟩ | ⟨q, h1, h2⟩ <;> (subst q; exact ⟨fun q => (by first | exact absurd q (by decide) | exact ⟨h1, h2⟩), fun q => (by first | exact absurd q (by decide) | exact ⟨h1, h2⟩), fun q => (by first | exact absurd q (by decide) | exact ⟨h1, h2⟩), fun q => (by first | exact absurd q (by decide) | exact ⟨h1, h2⟩), fun q => (by first | exact absurd q (by decide) | exact ⟨h1, h2⟩), fun q => (by first | exact absurd q (by decide) | exact ⟨h1, h2⟩), fun q => (by first | exact absurd q (by decide) | exact ⟨h1, h2⟩), fun q => (by first | exact absurd q (by decide) | exact ⟨h1, h2⟩), fun q => (by first | exact absurd q (by decide) | exact ⟨h1, h2⟩)⟩)
theorem kUD_u {e u d : Int} (he : 0 ≤ e ∧ e < 8) (hu : 0 ≤ u) (h : kUD e u d) : 0 ≤ u ∧ u ≤ 100000000000000 := by
  have h9 := kUD_c (by omega) h
  omega
theorem kUD_d {e u d : Int} (he : 0 ≤ e ∧ e < 8) (hd : 1 ≤ d) (h : kUD e u d) : 1 ≤ d ∧ d ≤ 1280000000 := by
  have h9 := kUD_c (by omega) h
  omega
theorem kUD_s {e u d a b : Int} (he : 0 ≤ e ∧ e < 8) (h : kUD e u d) (h1 : a ≤ 20 * u + 100000 * d) (h2 : b ≤ 20 * d) : kUD (e + 1) a b := by
  apply kUD_i
  rcases kUD_c (by omega) h with ⟨q, h3, h4⟩ | ⟨q, h3, h4⟩ | ⟨q, h3, h4⟩ | ⟨q, h3, h4⟩ | ⟨q, h3, h4⟩ | ⟨q, h3, h4⟩ | ⟨q, h3, h4⟩ | ⟨q, h3, h4⟩ | ⟨q, h3, h4⟩
  · exact Or.inr (Or.inl ⟨by omega, by omega, by omega⟩)
  · exact Or.inr (Or.inr (Or.inl ⟨by omega, by omega, by omega⟩))
  · exact Or.inr (Or.inr (Or.inr (Or.inl ⟨by omega, by omega, by omega⟩)))
  · exact Or.inr (Or.inr (Or.inr (Or.inr (Or.inl ⟨by omega, by omega, by omega⟩))))
  · exact Or.inr (Or.inr (Or.inr (Or.inr (Or.inr (Or.inl ⟨by omega, by omega, by omega⟩)))))
  · exact Or.inr (Or.inr (Or.inr (Or.inr (Or.inr (Or.inr (Or.inl ⟨by omega, by omega, by omega⟩))))))
  · exact Or.inr (Or.inr (Or.inr (Or.inr (Or.inr (Or.inr (Or.inr (Or.inl ⟨by omega, by omega, by omega⟩)))))))
  · exact Or.inr (Or.inr (Or.inr (Or.inr (Or.inr (Or.inr (Or.inr (Or.inr (⟨by omega, by omega, by omega⟩))))))))
  · omega
theorem kUD_8 {e u d : Int} (he : e = 8) (h : kUD e u d) : u ≤ 1024000000000000 ∧ d ≤ 25600000000 := h.2.2.2.2.2.2.2.2 he
set_option maxHeartbeats 4000000 in
set_option maxRecDepth 100000 in
theorem c_XM_reckon (l : Launch) (dC : Nat → ClassId) (dI : Nat → Nat → Nat) (cA cZ : ClassId) (sz : Nat) (ma : Nat) (a0 : Nat) (a1 : Nat) (a2 : Nat) (a3 : Nat) (a4 : Nat) (a5 : Nat) (a6 : Nat) (a7 : Nat) (a8 : Nat) (a9 : Nat) (a10 : Nat) (a11 : Nat) (mth : Int) (mn : Int) (mp : Int) (mw : Int) (mu : Int) (md : Int) (mo : Int) (y1 : Int → Int) (y2 : Int → Int) (y3 : Int → Int) (y4 : Int → Int) (y5 : Int → Int) (y9 : Int → Int) (y10 : Int → Int) (z1 : Int) (z2 : Int) (z3 : Int) (hy1 : ∀ i, 0 ≤ y1 i ∧ y1 i ≤ 1) (hy2 : ∀ i, 0 ≤ y2 i ∧ y2 i ≤ 30) (hy3 : ∀ i, 0 ≤ y3 i ∧ y3 i ≤ 1) (hy4 : ∀ i, 0 ≤ y4 i ∧ y4 i ≤ 100000) (hy5 : ∀ i, 0 ≤ y5 i ∧ y5 i ≤ 100000) (hy9 : ∀ i, 0 ≤ y9 i ∧ y9 i ≤ 20) (hy10 : ∀ i, 0 ≤ y10 i ∧ y10 i ≤ 100000) (hz2 : 0 ≤ z2 ∧ z2 ≤ 3) (hz3 : z3 = 2 ∨ (1 ≤ z1 ∧ z1 ≤ 30 ∧ 0 ≤ z3 ∧ z3 ≤ 1)) : Met l yXM_reckon (Cond.code yXM_reckon cXM_reckon 5 none :: TBL) ({ frames := 5, cells := 0, slots := 0, locals := 110 } : Room) (va_Pc [.ref ma, .int (jI z1), .int (jI z2), .int (jI z3)] (jBw (dC, dI) [(cA, .int), (cZ, .boolean)] [(ma, .inr (5, [.int (jI mth), .int (jI mn), .ref a0, .int (jI mp), .int (jI mw), .ref a1, .ref a2, .ref a3, .ref a4, .ref a5, .ref a6, .ref a7, .ref a8, .ref a9, .ref a10, .long (jL mu), .long (jL md), .int (jI mo), .ref a11])), (a1, .inl (cZ, 62, .inl (jA y1))), (a2, .inl (cA, 62, .inl (jA y2))), (a3, .inl (cZ, 496, .inl (jA y3))), (a4, .inl (cA, 496, .inl (jA y4))), (a5, .inl (cA, 496, .inl (jA y5))), (a9, .inl (cA, 64, .inl (jA y9))), (a10, .inl (cA, 8, .inl (jA y10)))] sz)) (va_Qv (fun (u : Int × Int) => (0 ≤ u.1 ∧ u.1 ≤ 1024000000000000) ∧ (1 ≤ u.2 ∧ u.2 ≤ 25600000000)) (fun u t => jE (dC, dI) [(cA, .int), (cZ, .boolean)] [(ma, .inr (5, [.int (jI mth), .int (jI mn), .ref a0, .int (jI mp), .int (jI mw), .ref a1, .ref a2, .ref a3, .ref a4, .ref a5, .ref a6, .ref a7, .ref a8, .ref a9, .ref a10, .long (jL mu), .long (jL md), .int (jI mo), .ref a11])), (a1, .inl (cZ, 62, .inl (jA y1))), (a2, .inl (cA, 62, .inl (jA y2))), (a3, .inl (cZ, 496, .inl (jA y3))), (a4, .inl (cA, 496, .inl (jA y4))), (a5, .inl (cA, 496, .inl (jA y5))), (a9, .inl (cA, 64, .inl (jA y9))), (a10, .inl (cA, 8, .inl (jA y10)))] sz [(ma, .inr (5, [.int (jI mth), .int (jI mn), .ref a0, .int (jI mp), .int (jI mw), .ref a1, .ref a2, .ref a3, .ref a4, .ref a5, .ref a6, .ref a7, .ref a8, .ref a9, .ref a10, .long (jL u.1), .long (jL u.2), .int (jI mo), .ref a11])), (a1, .inl (cZ, 62, .inl (jA y1))), (a2, .inl (cA, 62, .inl (jA y2))), (a3, .inl (cZ, 496, .inl (jA y3))), (a4, .inl (cA, 496, .inl (jA y4))), (a5, .inl (cA, 496, .inl (jA y5))), (a9, .inl (cA, 64, .inl (jA y9))), (a10, .inl (cA, 8, .inl (jA y10)))] t) (va_A [(ma, .inr (5, [.int (jI mth), .int (jI mn), .ref a0, .int (jI mp), .int (jI mw), .ref a1, .ref a2, .ref a3, .ref a4, .ref a5, .ref a6, .ref a7, .ref a8, .ref a9, .ref a10, .long (jL mu), .long (jL md), .int (jI mo), .ref a11])), (a1, .inl (cZ, 62, .inl (jA y1))), (a2, .inl (cA, 62, .inl (jA y2))), (a3, .inl (cZ, 496, .inl (jA y3))), (a4, .inl (cA, 496, .inl (jA y4))), (a5, .inl (cA, 496, .inl (jA y5))), (a9, .inl (cA, 64, .inl (jA y9))), (a10, .inl (cA, 8, .inl (jA y10)))] sz)) 0 0 (va_A [(ma, .inr (5, [.int (jI mth), .int (jI mn), .ref a0, .int (jI mp), .int (jI mw), .ref a1, .ref a2, .ref a3, .ref a4, .ref a5, .ref a6, .ref a7, .ref a8, .ref a9, .ref a10, .long (jL mu), .long (jL md), .int (jI mo), .ref a11])), (a1, .inl (cZ, 62, .inl (jA y1))), (a2, .inl (cA, 62, .inl (jA y2))), (a3, .inl (cZ, 496, .inl (jA y3))), (a4, .inl (cA, 496, .inl (jA y4))), (a5, .inl (cA, 496, .inl (jA y5))), (a9, .inl (cA, 64, .inl (jA y9))), (a10, .inl (cA, 8, .inl (jA y10)))] sz) := by
  refine jMet (cc := cXM_reckon) (maxL := 5) (ret := none) (by decide) rfl ?_
  intro p e s m args below meth c s₁ R Q hR hQ B hml hv
  obtain ⟨rfl, hsz, hP, hK, hD0, hN⟩ := hv
  have hx := B.exec
  have hb := B.bytes
  have hr := B.returns
  have hts := atoms_spec (ws := Cond.code yXM_reckon cXM_reckon 5 none :: TBL) B.pre
  have hown : s.vm.findClass RXM = some m.cls := findClass_of_methodNamed B.named
  have hlocks := B.notSynchronized
  subst hsz
  obtain ⟨A, hAe⟩ : ∃ A, A = va_A [(ma, .inr (5, [.int (jI mth), .int (jI mn), .ref a0, .int (jI mp), .int (jI mw), .ref a1, .ref a2, .ref a3, .ref a4, .ref a5, .ref a6, .ref a7, .ref a8, .ref a9, .ref a10, .long (jL mu), .long (jL md), .int (jI mo), .ref a11])), (a1, .inl (cZ, 62, .inl (jA y1))), (a2, .inl (cA, 62, .inl (jA y2))), (a3, .inl (cZ, 496, .inl (jA y3))), (a4, .inl (cA, 496, .inl (jA y4))), (a5, .inl (cA, 496, .inl (jA y5))), (a9, .inl (cA, 64, .inl (jA y9))), (a10, .inl (cA, 8, .inl (jA y10)))] s.heap.size := ⟨_, rfl⟩
  have hD : va_D A [(ma, .inr (5, [.int (jI mth), .int (jI mn), .ref a0, .int (jI mp), .int (jI mw), .ref a1, .ref a2, .ref a3, .ref a4, .ref a5, .ref a6, .ref a7, .ref a8, .ref a9, .ref a10, .long (jL mu), .long (jL md), .int (jI mo), .ref a11])), (a1, .inl (cZ, 62, .inl (jA y1))), (a2, .inl (cA, 62, .inl (jA y2))), (a3, .inl (cZ, 496, .inl (jA y3))), (a4, .inl (cA, 496, .inl (jA y4))), (a5, .inl (cA, 496, .inl (jA y5))), (a9, .inl (cA, 64, .inl (jA y9))), (a10, .inl (cA, 8, .inl (jA y10)))] := by rw [hAe]; exact hD0.self
  have hA : ∀ q : Nat, s.heap.size ≤ q → A q := fun q h => by rw [hAe]; exact Or.inr h
  have hS : va_S A s.heap s.heap [] := va_S.rf
  have hP : va_P (dC, dI) vwCl [(ma, .inr (5, [.int (jI mth), .int (jI mn), .ref a0, .int (jI mp), .int (jI mw), .ref a1, .ref a2, .ref a3, .ref a4, .ref a5, .ref a6, .ref a7, .ref a8, .ref a9, .ref a10, .long (jL mu), .long (jL md), .int (jI mo), .ref a11])), (a1, .inl (cZ, 62, .inl (jA y1))), (a2, .inl (cA, 62, .inl (jA y2))), (a3, .inl (cZ, 496, .inl (jA y3))), (a4, .inl (cA, 496, .inl (jA y4))), (a5, .inl (cA, 496, .inl (jA y5))), (a9, .inl (cA, 64, .inl (jA y9))), (a10, .inl (cA, 8, .inl (jA y10)))] s.heap := hP
  have hl := lv_entry ([.ref ma, .int (jI z1), .int (jI z2), .int (jI z3)]) (n := 5) (Nat.le_of_ble_eq_true rfl)
  rw [lg_entry_eq]
  generalize (lg_sl ([.ref ma, .int (jI z1), .int (jI z2), .int (jI z3)]) ++ List.replicate (5 - (lg_sl ([.ref ma, .int (jI z1), .int (jI z2), .int (jI z3)])).length) Slot.unset).toArray = ls at hl ⊢
  have hl : lv_has ls 5 [(0, .ref ma), (1, .int (jI z1)), (2, .int (jI z2)), (3, .int (jI z3))] := hl
  refine lv_aload_n hx hb dXM_reckon_0 rfl (lv_at hl 0 rfl) ?_
  refine ji_lconst (z := 0) hx hb dXM_reckon_1 rfl ?_
  refine va_put (D := (dC, dI)) (ci := 5) (v := .long (jL 0)) (ty := (.long)) (C := RXM) (T := TXM) (N := 19) hx hb hts (fun w h => jmem (inXM w h)) tyXM tyXM_ok nXM hown hK hP hD hS 0 rfl rfl 15 (by decide) (hts _ (jmem tw_643)) (fun _ h9 => h9) rfl (by decide +kernel) rfl rfl (Nat.le_of_ble_eq_true rfl) dXM_reckon_2 (fun H locs hP hD hS => ?_)
  have hP : va_P (dC, dI) vwCl [(ma, .inr (5, [.int (jI mth), .int (jI mn), .ref a0, .int (jI mp), .int (jI mw), .ref a1, .ref a2, .ref a3, .ref a4, .ref a5, .ref a6, .ref a7, .ref a8, .ref a9, .ref a10, .long (jL 0), .long (jL md), .int (jI mo), .ref a11])), (a1, .inl (cZ, 62, .inl (jA y1))), (a2, .inl (cA, 62, .inl (jA y2))), (a3, .inl (cZ, 496, .inl (jA y3))), (a4, .inl (cA, 496, .inl (jA y4))), (a5, .inl (cA, 496, .inl (jA y5))), (a9, .inl (cA, 64, .inl (jA y9))), (a10, .inl (cA, 8, .inl (jA y10)))] H := hP
  have hD : va_D A [(ma, .inr (5, [.int (jI mth), .int (jI mn), .ref a0, .int (jI mp), .int (jI mw), .ref a1, .ref a2, .ref a3, .ref a4, .ref a5, .ref a6, .ref a7, .ref a8, .ref a9, .ref a10, .long (jL 0), .long (jL md), .int (jI mo), .ref a11])), (a1, .inl (cZ, 62, .inl (jA y1))), (a2, .inl (cA, 62, .inl (jA y2))), (a3, .inl (cZ, 496, .inl (jA y3))), (a4, .inl (cA, 496, .inl (jA y4))), (a5, .inl (cA, 496, .inl (jA y5))), (a9, .inl (cA, 64, .inl (jA y9))), (a10, .inl (cA, 8, .inl (jA y10)))] := hD
  refine lv_aload_n hx hb dXM_reckon_5 rfl (lv_at hl 0 rfl) ?_
  refine ji_lconst (z := 1) hx hb dXM_reckon_6 rfl ?_
  refine va_put (D := (dC, dI)) (ci := 5) (v := .long (jL 1)) (ty := (.long)) (C := RXM) (T := TXM) (N := 19) hx hb hts (fun w h => jmem (inXM w h)) tyXM tyXM_ok nXM hown hK hP hD hS 0 rfl rfl 16 (by decide) (hts _ (jmem tw_644)) (fun _ h9 => h9) rfl (by decide +kernel) rfl rfl (Nat.le_of_ble_eq_true rfl) dXM_reckon_7 (fun H locs hP hD hS => ?_)
  have hP : va_P (dC, dI) vwCl [(ma, .inr (5, [.int (jI mth), .int (jI mn), .ref a0, .int (jI mp), .int (jI mw), .ref a1, .ref a2, .ref a3, .ref a4, .ref a5, .ref a6, .ref a7, .ref a8, .ref a9, .ref a10, .long (jL 0), .long (jL 1), .int (jI mo), .ref a11])), (a1, .inl (cZ, 62, .inl (jA y1))), (a2, .inl (cA, 62, .inl (jA y2))), (a3, .inl (cZ, 496, .inl (jA y3))), (a4, .inl (cA, 496, .inl (jA y4))), (a5, .inl (cA, 496, .inl (jA y5))), (a9, .inl (cA, 64, .inl (jA y9))), (a10, .inl (cA, 8, .inl (jA y10)))] H := hP
  have hD : va_D A [(ma, .inr (5, [.int (jI mth), .int (jI mn), .ref a0, .int (jI mp), .int (jI mw), .ref a1, .ref a2, .ref a3, .ref a4, .ref a5, .ref a6, .ref a7, .ref a8, .ref a9, .ref a10, .long (jL 0), .long (jL 1), .int (jI mo), .ref a11])), (a1, .inl (cZ, 62, .inl (jA y1))), (a2, .inl (cA, 62, .inl (jA y2))), (a3, .inl (cZ, 496, .inl (jA y3))), (a4, .inl (cA, 496, .inl (jA y4))), (a5, .inl (cA, 496, .inl (jA y5))), (a9, .inl (cA, 64, .inl (jA y9))), (a10, .inl (cA, 8, .inl (jA y10)))] := hD
  refine ji_iconst hx hb dXM_reckon_10 ?_
  refine lv_istore (lv' := [(4, .int (jI 0)), (0, .ref ma), (1, .int (jI z1)), (2, .int (jI z2)), (3, .int (jI z3))]) hx hb dXM_reckon_11 hl (by decide) rfl (fun ls hl => ?_)
  have loop13 : ∀ (n9 : Nat) (e9 : Int) (u9 : Int) (d9 : Int) , 8 - e9 < (n9 : Int) → (0 ≤ e9 ∧ e9 ≤ 8) → (0 ≤ u9 ∧ 1 ≤ d9) → (kUD e9 u9 d9) → ∀ (H : Heap) (locs : List Loc), va_P (dC, dI) vwCl [(ma, .inr (5, [.int (jI mth), .int (jI mn), .ref a0, .int (jI mp), .int (jI mw), .ref a1, .ref a2, .ref a3, .ref a4, .ref a5, .ref a6, .ref a7, .ref a8, .ref a9, .ref a10, .long (jL u9), .long (jL d9), .int (jI mo), .ref a11])), (a1, .inl (cZ, 62, .inl (jA y1))), (a2, .inl (cA, 62, .inl (jA y2))), (a3, .inl (cZ, 496, .inl (jA y3))), (a4, .inl (cA, 496, .inl (jA y4))), (a5, .inl (cA, 496, .inl (jA y5))), (a9, .inl (cA, 64, .inl (jA y9))), (a10, .inl (cA, 8, .inl (jA y10)))] H → va_D A [(ma, .inr (5, [.int (jI mth), .int (jI mn), .ref a0, .int (jI mp), .int (jI mw), .ref a1, .ref a2, .ref a3, .ref a4, .ref a5, .ref a6, .ref a7, .ref a8, .ref a9, .ref a10, .long (jL u9), .long (jL d9), .int (jI mo), .ref a11])), (a1, .inl (cZ, 62, .inl (jA y1))), (a2, .inl (cA, 62, .inl (jA y2))), (a3, .inl (cZ, 496, .inl (jA y3))), (a4, .inl (cA, 496, .inl (jA y4))), (a5, .inl (cA, 496, .inl (jA y5))), (a9, .inl (cA, 64, .inl (jA y9))), (a10, .inl (cA, 8, .inl (jA y10)))] → va_S A s.heap H locs → ∀ ls : Array Slot, lv_has ls 5 [(4, .int (jI e9)), (0, .ref ma), (1, .int (jI z1)), (2, .int (jI z2)), (3, .int (jI z3))] → W p l e R s m ([.ref ma, .int (jI z1), .int (jI z2), .int (jI z3)] : List Value).toArray below meth c H locs 0 0 Q (F0 m 13 ls []) := by
    intro n9
    induction n9 with
    | zero =>
      intro e9 u9 d9 hm he9 hu9 hud
      exact absurd hm (by omega)
    | succ n9 ih13 =>
      intro e9 u9 d9 hm he9 hu9 hud H locs hP hD hS ls hl
      refine lv_iload hx hb dXM_reckon_13 (lv_at hl 0 rfl) ?_
      refine ji_bipush hx hb dXM_reckon_15 (by decide) ?_
      refine ji_icmp_ge (tgt := 81) hx hb dXM_reckon_17 (by decide) (by first | omega | decide) (by first | omega | decide) (fun c17_ => ?_) (fun c17_ => ?_)
      · have hP9 := hP.sub (ws' := [(ma, .inr (5, [.int (jI mth), .int (jI mn), .ref a0, .int (jI mp), .int (jI mw), .ref a1, .ref a2, .ref a3, .ref a4, .ref a5, .ref a6, .ref a7, .ref a8, .ref a9, .ref a10, .long (jL u9), .long (jL d9), .int (jI mo), .ref a11])), (a1, .inl (cZ, 62, .inl (jA y1))), (a2, .inl (cA, 62, .inl (jA y2))), (a3, .inl (cZ, 496, .inl (jA y3))), (a4, .inl (cA, 496, .inl (jA y4))), (a5, .inl (cA, 496, .inl (jA y5))), (a9, .inl (cA, 64, .inl (jA y9))), (a10, .inl (cA, 8, .inl (jA y10)))]) [0, 1, 2, 3, 4, 5, 6, 7] rfl
        have hD9 := hD.sub (ws' := [(ma, .inr (5, [.int (jI mth), .int (jI mn), .ref a0, .int (jI mp), .int (jI mw), .ref a1, .ref a2, .ref a3, .ref a4, .ref a5, .ref a6, .ref a7, .ref a8, .ref a9, .ref a10, .long (jL u9), .long (jL d9), .int (jI mo), .ref a11])), (a1, .inl (cZ, 62, .inl (jA y1))), (a2, .inl (cA, 62, .inl (jA y2))), (a3, .inl (cZ, 496, .inl (jA y3))), (a4, .inl (cA, 496, .inl (jA y4))), (a5, .inl (cA, 496, .inl (jA y5))), (a9, .inl (cA, 64, .inl (jA y9))), (a10, .inl (cA, 8, .inl (jA y10)))]) [0, 1, 2, 3, 4, 5, 6, 7] (by decide) rfl
        subst hAe
        subst hQ
        exact W.vret hx hb hr (fun t ht hW => ⟨⟨(u9, d9), rfl, ⟨(show 0 ≤ u9 ∧ u9 ≤ 1024000000000000 from (by have h8 := kUD_8 (by omega) hud; omega)), (show 1 ≤ d9 ∧ d9 ≤ 25600000000 from (by have h8 := kUD_8 (by omega) hud; omega))⟩, ⟨by rw [ht]; exact hP9, va_K.moved hW.alike hK, hD9⟩⟩, hS.F ht⟩) hS.2.2 dXM_reckon_81
      · refine lv_aload_n hx hb dXM_reckon_20 rfl (lv_at hl 1 rfl) ?_
        have join60 : ∀ (js : Int) , (0 ≤ js ∧ js ≤ 100000) → ∀ (H : Heap) (locs : List Loc), va_P (dC, dI) vwCl [(ma, .inr (5, [.int (jI mth), .int (jI mn), .ref a0, .int (jI mp), .int (jI mw), .ref a1, .ref a2, .ref a3, .ref a4, .ref a5, .ref a6, .ref a7, .ref a8, .ref a9, .ref a10, .long (jL u9), .long (jL d9), .int (jI mo), .ref a11])), (a1, .inl (cZ, 62, .inl (jA y1))), (a2, .inl (cA, 62, .inl (jA y2))), (a3, .inl (cZ, 496, .inl (jA y3))), (a4, .inl (cA, 496, .inl (jA y4))), (a5, .inl (cA, 496, .inl (jA y5))), (a9, .inl (cA, 64, .inl (jA y9))), (a10, .inl (cA, 8, .inl (jA y10)))] H → va_D A [(ma, .inr (5, [.int (jI mth), .int (jI mn), .ref a0, .int (jI mp), .int (jI mw), .ref a1, .ref a2, .ref a3, .ref a4, .ref a5, .ref a6, .ref a7, .ref a8, .ref a9, .ref a10, .long (jL u9), .long (jL d9), .int (jI mo), .ref a11])), (a1, .inl (cZ, 62, .inl (jA y1))), (a2, .inl (cA, 62, .inl (jA y2))), (a3, .inl (cZ, 496, .inl (jA y3))), (a4, .inl (cA, 496, .inl (jA y4))), (a5, .inl (cA, 496, .inl (jA y5))), (a9, .inl (cA, 64, .inl (jA y9))), (a10, .inl (cA, 8, .inl (jA y10)))] → va_S A s.heap H locs → ∀ ls : Array Slot, lv_has ls 5 [(4, .int (jI e9)), (0, .ref ma), (1, .int (jI z1)), (2, .int (jI z2)), (3, .int (jI z3))] → W p l e R s m ([.ref ma, .int (jI z1), .int (jI z2), .int (jI z3)] : List Value).toArray below meth c H locs 0 0 Q (F0 m 60 ls [.long (jL js), .ref ma]) := by
          intro js hjs H locs hP hD hS ls hl
          refine lv_aload_n hx hb dXM_reckon_60 rfl (lv_at hl 1 rfl) ?_
          refine va_get (D := (dC, dI)) (ci := 5) (v := .ref a9) (C := RXM) (T := TXM) (N := 19) hx hb hts (fun w h => jmem (inXM w h)) hown hK hP 0 rfl rfl 13 (by decide) (hts _ (jmem tw_641)) (fun _ h9 => h9) rfl dXM_reckon_61 ?_
          refine ji_bipush hx hb dXM_reckon_64 (by decide) ?_
          refine lv_iload_n hx hb dXM_reckon_66 rfl (lv_at hl 3 rfl) ?_
          refine ji_imul hx hb dXM_reckon_67 ?_
          refine lv_iload hx hb dXM_reckon_68 (lv_at hl 0 rfl) ?_
          refine ji_iadd hx hb dXM_reckon_70 ?_
          refine ji_iald hx hb hK hP 6 0 rfl rfl ⟨by omega, by omega⟩ (by decide) dXM_reckon_71 ?_
          have rb := hy9 ((8 * z2) + e9)
          refine jwVv (rest := []) (wr := [(a1, .inl (cZ, 62, .inl (jA y1))), (a2, .inl (cA, 62, .inl (jA y2))), (a3, .inl (cZ, 496, .inl (jA y3))), (a4, .inl (cA, 496, .inl (jA y4))), (a5, .inl (cA, 496, .inl (jA y5))), (a9, .inl (cA, 64, .inl (jA y9))), (a10, .inl (cA, 8, .inl (jA y10)))]) ⟨hx, hb, hml, hown, hts⟩ (c_XM_adds l dC dI cA cZ _ ma a0 a1 a2 a3 a4 a5 a6 a7 a8 a9 a10 a11 mth mn mp mw u9 d9 mo js (y9 ((8 * z2) + e9)) (by first | assumption | omega | exact jset_b (by assumption) (by omega)) (by first | assumption | omega | exact jset_b (by assumption) (by omega)) (kUD_u (by omega) hu9.1 hud) (kUD_d (by omega) hu9.2 hud)) (cwV 2 hts (jG_V tw_810 tw_812 ts_36 tw_6 tw_813) rfl rfl rfl (by decide +kernel) (by rw [hR]; exact ⟨Nat.le_of_ble_eq_true rfl, Nat.le_of_ble_eq_true rfl⟩)) hK hP hD hS hA hN [0] [1, 2, 3, 4, 5, 6, 7] rfl rfl (by decide) (by decide) (by decide) 0 5 rfl rfl rfl rfl hl.1 rfl (Nat.le_of_ble_eq_true rfl) dXM_reckon_72 (by rw [hR]; exact ⟨Nat.le_of_ble_eq_true rfl, Nat.le_of_ble_eq_true rfl⟩) (fun u H locs hwb hP hD hS => ?_)
          obtain ⟨mu1', md1'⟩ := u
          try dsimp only at hwb
          obtain ⟨f, f1⟩ := hwb
          have f : 0 ≤ mu1' ∧ mu1' ≤ 20 * u9 + 100000 * d9 := f
          have f1 : 1 ≤ md1' ∧ md1' ≤ 20 * d9 := f1
          have hP : va_P (dC, dI) vwCl [(a1, .inl (cZ, 62, .inl (jA y1))), (a2, .inl (cA, 62, .inl (jA y2))), (a3, .inl (cZ, 496, .inl (jA y3))), (a4, .inl (cA, 496, .inl (jA y4))), (a5, .inl (cA, 496, .inl (jA y5))), (a9, .inl (cA, 64, .inl (jA y9))), (a10, .inl (cA, 8, .inl (jA y10))), (ma, .inr (5, [.int (jI mth), .int (jI mn), .ref a0, .int (jI mp), .int (jI mw), .ref a1, .ref a2, .ref a3, .ref a4, .ref a5, .ref a6, .ref a7, .ref a8, .ref a9, .ref a10, .long (jL mu1'), .long (jL md1'), .int (jI mo), .ref a11]))] H := hP
          have hD : va_D A [(a1, .inl (cZ, 62, .inl (jA y1))), (a2, .inl (cA, 62, .inl (jA y2))), (a3, .inl (cZ, 496, .inl (jA y3))), (a4, .inl (cA, 496, .inl (jA y4))), (a5, .inl (cA, 496, .inl (jA y5))), (a9, .inl (cA, 64, .inl (jA y9))), (a10, .inl (cA, 8, .inl (jA y10))), (ma, .inr (5, [.int (jI mth), .int (jI mn), .ref a0, .int (jI mp), .int (jI mw), .ref a1, .ref a2, .ref a3, .ref a4, .ref a5, .ref a6, .ref a7, .ref a8, .ref a9, .ref a10, .long (jL mu1'), .long (jL md1'), .int (jI mo), .ref a11]))] := hD
          refine ji_iinc (k := 0) (lv' := [(4, .int (jI (e9 + 1))), (0, .ref ma), (1, .int (jI z1)), (2, .int (jI z2)), (3, .int (jI z3))]) hx hb dXM_reckon_75 hl rfl (by decide) rfl (fun ls hl => ?_)
          refine lv_goto (tgt := 13) hx hb dXM_reckon_78 (by decide) ?_
          exact ih13 (e9 + 1) mu1' md1' (by omega) (by first | assumption | omega | exact jset_b (by assumption) (by omega)) (by first | assumption | omega | exact jset_b (by assumption) (by omega)) (kUD_s (by omega) hud (by omega) (by omega)) _ _ (hP.sub [7, 0, 1, 2, 3, 4, 5, 6] rfl) (hD.sub [7, 0, 1, 2, 3, 4, 5, 6] (by decide) rfl) hS ls (lv_sub hl [0, 1, 2, 3, 4] rfl)
        refine lv_iload_n hx hb dXM_reckon_21 rfl (lv_at hl 4 rfl) ?_
        refine ji_iconst hx hb dXM_reckon_22 ?_
        refine ji_icmp_ne (tgt := 37) hx hb dXM_reckon_23 (by decide) (by first | omega | decide) (by first | omega | decide) (fun c23_ => ?_) (fun c23_ => ?_)
        · refine lv_iload_n hx hb dXM_reckon_37 rfl (lv_at hl 4 rfl) ?_
          refine ji_if_ne (tgt := 52) hx hb dXM_reckon_38 (by decide) (by first | omega | decide) (fun c38_ => ?_) (fun c38_ => ?_)
          · refine lv_aload_n hx hb dXM_reckon_52 rfl (lv_at hl 1 rfl) ?_
            refine lv_iload_n hx hb dXM_reckon_53 rfl (lv_at hl 2 rfl) ?_
            refine lv_iload hx hb dXM_reckon_54 (lv_at hl 0 rfl) ?_
            refine jwVi (rest := [.ref ma]) (wr := [(a4, .inl (cA, 496, .inl (jA y4))), (a9, .inl (cA, 64, .inl (jA y9))), (a10, .inl (cA, 8, .inl (jA y10)))]) ⟨hx, hb, hml, hown, hts⟩ (c_XM_highOf l dC dI cA cZ _ ma a0 a1 a2 a3 a4 a5 a6 a7 a8 a9 a10 a11 mth mn mp mw u9 d9 mo y1 y2 y3 y5 z1 e9 (by first | assumption | omega | exact jset_b (by assumption) (by omega)) (by first | assumption | omega | exact jset_b (by assumption) (by omega)) (by first | assumption | omega | exact jset_b (by assumption) (by omega)) (by first | assumption | omega | exact jset_b (by assumption) (by omega)) (by first | assumption | omega | exact jset_b (by assumption) (by omega)) (by first | assumption | omega | exact jset_b (by assumption) (by omega))) (cwV 2 hts (jG_V tw_787 tw_789 ts_33 tw_6 tw_790) rfl rfl rfl (by decide +kernel) (by rw [hR]; exact ⟨Nat.le_of_ble_eq_true rfl, Nat.le_of_ble_eq_true rfl⟩)) hK hP hD hS hA hN [0, 1, 2, 3, 5] [4, 6, 7] rfl rfl (by decide) (by decide) (by decide) 0 5 rfl rfl rfl rfl hl.1 rfl (Nat.le_of_ble_eq_true rfl) dXM_reckon_56 (by rw [hR]; exact ⟨Nat.le_of_ble_eq_true rfl, Nat.le_of_ble_eq_true rfl⟩) (fun v u2 H locs hwb3 hP hD hS => ?_)
            try dsimp only at hwb3
            obtain ⟨er, f4⟩ := hwb3
            subst er
            have f4 : 0 ≤ u2 ∧ u2 ≤ 100000 := f4
            have hP : va_P (dC, dI) vwCl [(a4, .inl (cA, 496, .inl (jA y4))), (a9, .inl (cA, 64, .inl (jA y9))), (a10, .inl (cA, 8, .inl (jA y10))), (ma, .inr (5, [.int (jI mth), .int (jI mn), .ref a0, .int (jI mp), .int (jI mw), .ref a1, .ref a2, .ref a3, .ref a4, .ref a5, .ref a6, .ref a7, .ref a8, .ref a9, .ref a10, .long (jL u9), .long (jL d9), .int (jI mo), .ref a11])), (a1, .inl (cZ, 62, .inl (jA y1))), (a2, .inl (cA, 62, .inl (jA y2))), (a3, .inl (cZ, 496, .inl (jA y3))), (a5, .inl (cA, 496, .inl (jA y5)))] H := hP
            have hD : va_D A [(a4, .inl (cA, 496, .inl (jA y4))), (a9, .inl (cA, 64, .inl (jA y9))), (a10, .inl (cA, 8, .inl (jA y10))), (ma, .inr (5, [.int (jI mth), .int (jI mn), .ref a0, .int (jI mp), .int (jI mw), .ref a1, .ref a2, .ref a3, .ref a4, .ref a5, .ref a6, .ref a7, .ref a8, .ref a9, .ref a10, .long (jL u9), .long (jL d9), .int (jI mo), .ref a11])), (a1, .inl (cZ, 62, .inl (jA y1))), (a2, .inl (cA, 62, .inl (jA y2))), (a3, .inl (cZ, 496, .inl (jA y3))), (a5, .inl (cA, 496, .inl (jA y5)))] := hD
            refine ji_i2l hx hb dXM_reckon_59 (by omega) ?_
            exact join60 u2 (by first | assumption | omega | exact jset_b (by assumption) (by omega)) _ _ (hP.sub [3, 4, 5, 6, 0, 7, 1, 2] rfl) (hD.sub [3, 4, 5, 6, 0, 7, 1, 2] (by decide) rfl) hS ls (lv_sub hl [0, 1, 2, 3, 4] rfl)
          · refine lv_aload_n hx hb dXM_reckon_41 rfl (lv_at hl 1 rfl) ?_
            refine lv_iload_n hx hb dXM_reckon_42 rfl (lv_at hl 2 rfl) ?_
            refine lv_iload hx hb dXM_reckon_43 (lv_at hl 0 rfl) ?_
            refine jwVi (rest := [.ref ma]) (wr := [(a5, .inl (cA, 496, .inl (jA y5))), (a9, .inl (cA, 64, .inl (jA y9))), (a10, .inl (cA, 8, .inl (jA y10)))]) ⟨hx, hb, hml, hown, hts⟩ (c_XM_lowOf l dC dI cA cZ _ ma a0 a1 a2 a3 a4 a5 a6 a7 a8 a9 a10 a11 mth mn mp mw u9 d9 mo y1 y2 y3 y4 z1 e9 (by first | assumption | omega | exact jset_b (by assumption) (by omega)) (by first | assumption | omega | exact jset_b (by assumption) (by omega)) (by first | assumption | omega | exact jset_b (by assumption) (by omega)) (by first | assumption | omega | exact jset_b (by assumption) (by omega)) (by first | assumption | omega | exact jset_b (by assumption) (by omega)) (by first | assumption | omega | exact jset_b (by assumption) (by omega))) (cwV 2 hts (jG_V tw_775 tw_777 ts_30 tw_6 tw_778) rfl rfl rfl (by decide +kernel) (by rw [hR]; exact ⟨Nat.le_of_ble_eq_true rfl, Nat.le_of_ble_eq_true rfl⟩)) hK hP hD hS hA hN [0, 1, 2, 3, 4] [5, 6, 7] rfl rfl (by decide) (by decide) (by decide) 0 5 rfl rfl rfl rfl hl.1 rfl (Nat.le_of_ble_eq_true rfl) dXM_reckon_45 (by rw [hR]; exact ⟨Nat.le_of_ble_eq_true rfl, Nat.le_of_ble_eq_true rfl⟩) (fun v7 u6 H locs hwb8 hP hD hS => ?_)
            try dsimp only at hwb8
            obtain ⟨er, f9⟩ := hwb8
            subst er
            have f9 : 0 ≤ u6 ∧ u6 ≤ 100000 := f9
            have hP : va_P (dC, dI) vwCl [(a5, .inl (cA, 496, .inl (jA y5))), (a9, .inl (cA, 64, .inl (jA y9))), (a10, .inl (cA, 8, .inl (jA y10))), (ma, .inr (5, [.int (jI mth), .int (jI mn), .ref a0, .int (jI mp), .int (jI mw), .ref a1, .ref a2, .ref a3, .ref a4, .ref a5, .ref a6, .ref a7, .ref a8, .ref a9, .ref a10, .long (jL u9), .long (jL d9), .int (jI mo), .ref a11])), (a1, .inl (cZ, 62, .inl (jA y1))), (a2, .inl (cA, 62, .inl (jA y2))), (a3, .inl (cZ, 496, .inl (jA y3))), (a4, .inl (cA, 496, .inl (jA y4)))] H := hP
            have hD : va_D A [(a5, .inl (cA, 496, .inl (jA y5))), (a9, .inl (cA, 64, .inl (jA y9))), (a10, .inl (cA, 8, .inl (jA y10))), (ma, .inr (5, [.int (jI mth), .int (jI mn), .ref a0, .int (jI mp), .int (jI mw), .ref a1, .ref a2, .ref a3, .ref a4, .ref a5, .ref a6, .ref a7, .ref a8, .ref a9, .ref a10, .long (jL u9), .long (jL d9), .int (jI mo), .ref a11])), (a1, .inl (cZ, 62, .inl (jA y1))), (a2, .inl (cA, 62, .inl (jA y2))), (a3, .inl (cZ, 496, .inl (jA y3))), (a4, .inl (cA, 496, .inl (jA y4)))] := hD
            refine ji_i2l hx hb dXM_reckon_48 (by omega) ?_
            refine lv_goto (tgt := 60) hx hb dXM_reckon_49 (by decide) ?_
            exact join60 u6 (by first | assumption | omega | exact jset_b (by assumption) (by omega)) _ _ (hP.sub [3, 4, 5, 6, 7, 0, 1, 2] rfl) (hD.sub [3, 4, 5, 6, 7, 0, 1, 2] (by decide) rfl) hS ls (lv_sub hl [0, 1, 2, 3, 4] rfl)
        · refine lv_aload_n hx hb dXM_reckon_26 rfl (lv_at hl 1 rfl) ?_
          refine va_get (D := (dC, dI)) (ci := 5) (v := .ref a10) (C := RXM) (T := TXM) (N := 19) hx hb hts (fun w h => jmem (inXM w h)) hown hK hP 0 rfl rfl 14 (by decide) (hts _ (jmem tw_642)) (fun _ h9 => h9) rfl dXM_reckon_27 ?_
          refine lv_iload hx hb dXM_reckon_30 (lv_at hl 0 rfl) ?_
          refine ji_iald hx hb hK hP 7 0 rfl rfl ⟨by omega, by omega⟩ (by decide) dXM_reckon_32 ?_
          have rb10 := hy10 e9
          refine ji_i2l hx hb dXM_reckon_33 (by omega) ?_
          refine lv_goto (tgt := 60) hx hb dXM_reckon_34 (by decide) ?_
          exact join60 (y10 e9) (by first | assumption | omega | exact jset_b (by assumption) (by omega)) _ _ hP hD hS ls (lv_sub hl [0, 1, 2, 3, 4] rfl)
  exact loop13 (Int.toNat (8 - 0) + 1) 0 0 1 (by omega) (by first | assumption | omega | exact jset_b (by assumption) (by omega)) (by first | assumption | omega | exact jset_b (by assumption) (by omega)) (kUD_0) _ _ hP hD hS ls (lv_sub hl [0, 1, 2, 3, 4] rfl)
set_option maxHeartbeats 4000000 in
set_option maxRecDepth 100000 in
theorem c_XM_isAbove (l : Launch) (dC : Nat → ClassId) (dI : Nat → Nat → Nat) (cA cZ : ClassId) (sz : Nat) (ma : Nat) (a0 : Nat) (a1 : Nat) (a2 : Nat) (a3 : Nat) (a4 : Nat) (a5 : Nat) (a6 : Nat) (a7 : Nat) (a8 : Nat) (a9 : Nat) (a10 : Nat) (a11 : Nat) (mth : Int) (mn : Int) (mp : Int) (mw : Int) (mu : Int) (md : Int) (mo : Int) (y1 : Int → Int) (y2 : Int → Int) (y3 : Int → Int) (y4 : Int → Int) (y5 : Int → Int) (y7 : Int → Int) (y8 : Int → Int) (y9 : Int → Int) (y10 : Int → Int) (z1 : Int) (z2 : Int) (z3 : Int) (z4 : Int) (hy1 : ∀ i, 0 ≤ y1 i ∧ y1 i ≤ 1) (hy2 : ∀ i, 0 ≤ y2 i ∧ y2 i ≤ 30) (hy3 : ∀ i, 0 ≤ y3 i ∧ y3 i ≤ 1) (hy4 : ∀ i, 0 ≤ y4 i ∧ y4 i ≤ 100000) (hy5 : ∀ i, 0 ≤ y5 i ∧ y5 i ≤ 100000) (hy7 : ∀ i, -1 ≤ y7 i ∧ y7 i ≤ 999999) (hy8 : ∀ i, 0 ≤ y8 i ∧ y8 i ≤ 1) (hy9 : ∀ i, 0 ≤ y9 i ∧ y9 i ≤ 20) (hy10 : ∀ i, 0 ≤ y10 i ∧ y10 i ≤ 100000) (hz1 : 1 ≤ z1 ∧ z1 ≤ 30) (hz3 : 0 ≤ z3 ∧ z3 ≤ 3) (hz4 : z4 = 2 ∨ (1 ≤ z2 ∧ z2 ≤ 30 ∧ 0 ≤ z4 ∧ z4 ≤ 1)) : Met l yXM_isAbove (Cond.code yXM_isAbove cXM_isAbove 5 (some .boolean) :: TBL) ({ frames := 6, cells := 0, slots := 0, locals := 134 } : Room) (va_Pc [.ref ma, .int (jI z1), .int (jI z2), .int (jI z3), .int (jI z4)] (jBw (dC, dI) [(cA, .int), (cZ, .boolean)] [(ma, .inr (5, [.int (jI mth), .int (jI mn), .ref a0, .int (jI mp), .int (jI mw), .ref a1, .ref a2, .ref a3, .ref a4, .ref a5, .ref a6, .ref a7, .ref a8, .ref a9, .ref a10, .long (jL mu), .long (jL md), .int (jI mo), .ref a11])), (a1, .inl (cZ, 62, .inl (jA y1))), (a2, .inl (cA, 62, .inl (jA y2))), (a3, .inl (cZ, 496, .inl (jA y3))), (a4, .inl (cA, 496, .inl (jA y4))), (a5, .inl (cA, 496, .inl (jA y5))), (a7, .inl (cA, 248, .inl (jA y7))), (a8, .inl (cZ, 8, .inl (jA y8))), (a9, .inl (cA, 64, .inl (jA y9))), (a10, .inl (cA, 8, .inl (jA y10)))] sz)) (va_Qi (fun (r : Int32) (u : Int × Int × Int) => r = jI u.1 ∧ (0 ≤ u.1 ∧ u.1 ≤ 1)) (fun u t => jE (dC, dI) [(cA, .int), (cZ, .boolean)] [(ma, .inr (5, [.int (jI mth), .int (jI mn), .ref a0, .int (jI mp), .int (jI mw), .ref a1, .ref a2, .ref a3, .ref a4, .ref a5, .ref a6, .ref a7, .ref a8, .ref a9, .ref a10, .long (jL mu), .long (jL md), .int (jI mo), .ref a11])), (a1, .inl (cZ, 62, .inl (jA y1))), (a2, .inl (cA, 62, .inl (jA y2))), (a3, .inl (cZ, 496, .inl (jA y3))), (a4, .inl (cA, 496, .inl (jA y4))), (a5, .inl (cA, 496, .inl (jA y5))), (a7, .inl (cA, 248, .inl (jA y7))), (a8, .inl (cZ, 8, .inl (jA y8))), (a9, .inl (cA, 64, .inl (jA y9))), (a10, .inl (cA, 8, .inl (jA y10)))] sz [(ma, .inr (5, [.int (jI mth), .int (jI mn), .ref a0, .int (jI mp), .int (jI mw), .ref a1, .ref a2, .ref a3, .ref a4, .ref a5, .ref a6, .ref a7, .ref a8, .ref a9, .ref a10, .long (jL u.2.1), .long (jL u.2.2), .int (jI mo), .ref a11])), (a1, .inl (cZ, 62, .inl (jA y1))), (a2, .inl (cA, 62, .inl (jA y2))), (a3, .inl (cZ, 496, .inl (jA y3))), (a4, .inl (cA, 496, .inl (jA y4))), (a5, .inl (cA, 496, .inl (jA y5))), (a7, .inl (cA, 248, .inl (jA y7))), (a8, .inl (cZ, 8, .inl (jA y8))), (a9, .inl (cA, 64, .inl (jA y9))), (a10, .inl (cA, 8, .inl (jA y10)))] t) (va_A [(ma, .inr (5, [.int (jI mth), .int (jI mn), .ref a0, .int (jI mp), .int (jI mw), .ref a1, .ref a2, .ref a3, .ref a4, .ref a5, .ref a6, .ref a7, .ref a8, .ref a9, .ref a10, .long (jL mu), .long (jL md), .int (jI mo), .ref a11])), (a1, .inl (cZ, 62, .inl (jA y1))), (a2, .inl (cA, 62, .inl (jA y2))), (a3, .inl (cZ, 496, .inl (jA y3))), (a4, .inl (cA, 496, .inl (jA y4))), (a5, .inl (cA, 496, .inl (jA y5))), (a7, .inl (cA, 248, .inl (jA y7))), (a8, .inl (cZ, 8, .inl (jA y8))), (a9, .inl (cA, 64, .inl (jA y9))), (a10, .inl (cA, 8, .inl (jA y10)))] sz)) 0 0 (va_A [(ma, .inr (5, [.int (jI mth), .int (jI mn), .ref a0, .int (jI mp), .int (jI mw), .ref a1, .ref a2, .ref a3, .ref a4, .ref a5, .ref a6, .ref a7, .ref a8, .ref a9, .ref a10, .long (jL mu), .long (jL md), .int (jI mo), .ref a11])), (a1, .inl (cZ, 62, .inl (jA y1))), (a2, .inl (cA, 62, .inl (jA y2))), (a3, .inl (cZ, 496, .inl (jA y3))), (a4, .inl (cA, 496, .inl (jA y4))), (a5, .inl (cA, 496, .inl (jA y5))), (a7, .inl (cA, 248, .inl (jA y7))), (a8, .inl (cZ, 8, .inl (jA y8))), (a9, .inl (cA, 64, .inl (jA y9))), (a10, .inl (cA, 8, .inl (jA y10)))] sz) := by
  refine jMet (cc := cXM_isAbove) (maxL := 5) (ret := some .boolean) (by decide) rfl ?_
  intro p e s m args below meth c s₁ R Q hR hQ B hml hv
  obtain ⟨rfl, hsz, hP, hK, hD0, hN⟩ := hv
  have hx := B.exec
  have hb := B.bytes
  have hr := B.returns
  have hts := atoms_spec (ws := Cond.code yXM_isAbove cXM_isAbove 5 (some .boolean) :: TBL) B.pre
  have hown : s.vm.findClass RXM = some m.cls := findClass_of_methodNamed B.named
  have hlocks := B.notSynchronized
  subst hsz
  obtain ⟨A, hAe⟩ : ∃ A, A = va_A [(ma, .inr (5, [.int (jI mth), .int (jI mn), .ref a0, .int (jI mp), .int (jI mw), .ref a1, .ref a2, .ref a3, .ref a4, .ref a5, .ref a6, .ref a7, .ref a8, .ref a9, .ref a10, .long (jL mu), .long (jL md), .int (jI mo), .ref a11])), (a1, .inl (cZ, 62, .inl (jA y1))), (a2, .inl (cA, 62, .inl (jA y2))), (a3, .inl (cZ, 496, .inl (jA y3))), (a4, .inl (cA, 496, .inl (jA y4))), (a5, .inl (cA, 496, .inl (jA y5))), (a7, .inl (cA, 248, .inl (jA y7))), (a8, .inl (cZ, 8, .inl (jA y8))), (a9, .inl (cA, 64, .inl (jA y9))), (a10, .inl (cA, 8, .inl (jA y10)))] s.heap.size := ⟨_, rfl⟩
  have hD : va_D A [(ma, .inr (5, [.int (jI mth), .int (jI mn), .ref a0, .int (jI mp), .int (jI mw), .ref a1, .ref a2, .ref a3, .ref a4, .ref a5, .ref a6, .ref a7, .ref a8, .ref a9, .ref a10, .long (jL mu), .long (jL md), .int (jI mo), .ref a11])), (a1, .inl (cZ, 62, .inl (jA y1))), (a2, .inl (cA, 62, .inl (jA y2))), (a3, .inl (cZ, 496, .inl (jA y3))), (a4, .inl (cA, 496, .inl (jA y4))), (a5, .inl (cA, 496, .inl (jA y5))), (a7, .inl (cA, 248, .inl (jA y7))), (a8, .inl (cZ, 8, .inl (jA y8))), (a9, .inl (cA, 64, .inl (jA y9))), (a10, .inl (cA, 8, .inl (jA y10)))] := by rw [hAe]; exact hD0.self
  have hA : ∀ q : Nat, s.heap.size ≤ q → A q := fun q h => by rw [hAe]; exact Or.inr h
  have hS : va_S A s.heap s.heap [] := va_S.rf
  have hP : va_P (dC, dI) vwCl [(ma, .inr (5, [.int (jI mth), .int (jI mn), .ref a0, .int (jI mp), .int (jI mw), .ref a1, .ref a2, .ref a3, .ref a4, .ref a5, .ref a6, .ref a7, .ref a8, .ref a9, .ref a10, .long (jL mu), .long (jL md), .int (jI mo), .ref a11])), (a1, .inl (cZ, 62, .inl (jA y1))), (a2, .inl (cA, 62, .inl (jA y2))), (a3, .inl (cZ, 496, .inl (jA y3))), (a4, .inl (cA, 496, .inl (jA y4))), (a5, .inl (cA, 496, .inl (jA y5))), (a7, .inl (cA, 248, .inl (jA y7))), (a8, .inl (cZ, 8, .inl (jA y8))), (a9, .inl (cA, 64, .inl (jA y9))), (a10, .inl (cA, 8, .inl (jA y10)))] s.heap := hP
  have hl := lv_entry ([.ref ma, .int (jI z1), .int (jI z2), .int (jI z3), .int (jI z4)]) (n := 5) (Nat.le_of_ble_eq_true rfl)
  rw [lg_entry_eq]
  generalize (lg_sl ([.ref ma, .int (jI z1), .int (jI z2), .int (jI z3), .int (jI z4)]) ++ List.replicate (5 - (lg_sl ([.ref ma, .int (jI z1), .int (jI z2), .int (jI z3), .int (jI z4)])).length) Slot.unset).toArray = ls at hl ⊢
  have hl : lv_has ls 5 [(0, .ref ma), (1, .int (jI z1)), (2, .int (jI z2)), (3, .int (jI z3)), (4, .int (jI z4))] := hl
  refine lv_aload_n hx hb dXM_isAbove_0 rfl (lv_at hl 0 rfl) ?_
  refine va_get (D := (dC, dI)) (ci := 5) (v := .ref a8) (C := RXM) (T := TXM) (N := 19) hx hb hts (fun w h => jmem (inXM w h)) hown hK hP 0 rfl rfl 12 (by decide) (hts _ (jmem tw_640)) (fun _ h9 => h9) rfl dXM_isAbove_1 ?_
  refine lv_iload_n hx hb dXM_isAbove_4 rfl (lv_at hl 3 rfl) ?_
  refine ji_zald hx hb hK hP 7 1 rfl rfl ⟨by omega, by omega⟩ (by decide) dXM_isAbove_5 ?_
  have rb := hy8 z3
  refine ji_if_eq (tgt := 18) hx hb dXM_isAbove_6 (by decide) (by first | omega | decide) (fun c6_ => ?_) (fun c6_ => ?_)
  · refine ji_iconst hx hb dXM_isAbove_18 ?_
    have hP9 := hP.sub (ws' := [(ma, .inr (5, [.int (jI mth), .int (jI mn), .ref a0, .int (jI mp), .int (jI mw), .ref a1, .ref a2, .ref a3, .ref a4, .ref a5, .ref a6, .ref a7, .ref a8, .ref a9, .ref a10, .long (jL mu), .long (jL md), .int (jI mo), .ref a11])), (a1, .inl (cZ, 62, .inl (jA y1))), (a2, .inl (cA, 62, .inl (jA y2))), (a3, .inl (cZ, 496, .inl (jA y3))), (a4, .inl (cA, 496, .inl (jA y4))), (a5, .inl (cA, 496, .inl (jA y5))), (a7, .inl (cA, 248, .inl (jA y7))), (a8, .inl (cZ, 8, .inl (jA y8))), (a9, .inl (cA, 64, .inl (jA y9))), (a10, .inl (cA, 8, .inl (jA y10)))]) [0, 1, 2, 3, 4, 5, 6, 7, 8, 9] rfl
    have hD9 := hD.sub (ws' := [(ma, .inr (5, [.int (jI mth), .int (jI mn), .ref a0, .int (jI mp), .int (jI mw), .ref a1, .ref a2, .ref a3, .ref a4, .ref a5, .ref a6, .ref a7, .ref a8, .ref a9, .ref a10, .long (jL mu), .long (jL md), .int (jI mo), .ref a11])), (a1, .inl (cZ, 62, .inl (jA y1))), (a2, .inl (cA, 62, .inl (jA y2))), (a3, .inl (cZ, 496, .inl (jA y3))), (a4, .inl (cA, 496, .inl (jA y4))), (a5, .inl (cA, 496, .inl (jA y5))), (a7, .inl (cA, 248, .inl (jA y7))), (a8, .inl (cZ, 8, .inl (jA y8))), (a9, .inl (cA, 64, .inl (jA y9))), (a10, .inl (cA, 8, .inl (jA y10)))]) [0, 1, 2, 3, 4, 5, 6, 7, 8, 9] (by decide) rfl
    subst hAe
    subst hQ
    exact W.zret (v := jI 0) hx hb hr (by first | decide | exact jz (by omega)) (fun t ht hW => ⟨⟨_, (0, mu, md), rfl, ⟨rfl, (show 0 ≤ (0 : Int) ∧ (0 : Int) ≤ 1 from by first | assumption | omega | exact jset_b (by assumption) (by omega))⟩, ⟨by rw [ht]; exact hP9, va_K.moved hW.alike hK, hD9⟩⟩, hS.F ht⟩) hS.2.2 dXM_isAbove_19
  · refine lv_aload_n hx hb dXM_isAbove_9 rfl (lv_at hl 0 rfl) ?_
    refine lv_iload_n hx hb dXM_isAbove_10 rfl (lv_at hl 1 rfl) ?_
    refine lv_iload_n hx hb dXM_isAbove_11 rfl (lv_at hl 3 rfl) ?_
    refine jwVi (rest := []) (wr := [(a3, .inl (cZ, 496, .inl (jA y3))), (a4, .inl (cA, 496, .inl (jA y4))), (a5, .inl (cA, 496, .inl (jA y5))), (a8, .inl (cZ, 8, .inl (jA y8))), (a9, .inl (cA, 64, .inl (jA y9))), (a10, .inl (cA, 8, .inl (jA y10)))]) ⟨hx, hb, hml, hown, hts⟩ (c_XM_limitOf l dC dI cA cZ _ ma a0 a1 a2 a3 a4 a5 a6 a7 a8 a9 a10 a11 mth mn mp mw mu md mo y1 y2 y7 z1 z3 (by first | assumption | omega | exact jset_b (by assumption) (by omega)) (by first | assumption | omega | exact jset_b (by assumption) (by omega)) (by first | assumption | omega | exact jset_b (by assumption) (by omega)) (by first | assumption | omega | exact jset_b (by assumption) (by omega)) (by first | assumption | omega | exact jset_b (by assumption) (by omega))) (cwV 2 hts (jG_V tw_798 tw_800 ts_34 tw_6 tw_801) rfl rfl rfl (by decide +kernel) (by rw [hR]; exact ⟨Nat.le_of_ble_eq_true rfl, Nat.le_of_ble_eq_true rfl⟩)) hK hP hD hS hA hN [0, 1, 2, 6] [3, 4, 5, 7, 8, 9] rfl rfl (by decide) (by decide) (by decide) 0 5 rfl rfl rfl rfl hl.1 rfl (Nat.le_of_ble_eq_true rfl) dXM_isAbove_12 (by rw [hR]; exact ⟨Nat.le_of_ble_eq_true rfl, Nat.le_of_ble_eq_true rfl⟩) (fun v u H locs hwb hP hD hS => ?_)
    try dsimp only at hwb
    obtain ⟨er, f⟩ := hwb
    subst er
    have f : -1 ≤ u ∧ u ≤ 999999 := f
    have hP : va_P (dC, dI) vwCl [(a3, .inl (cZ, 496, .inl (jA y3))), (a4, .inl (cA, 496, .inl (jA y4))), (a5, .inl (cA, 496, .inl (jA y5))), (a8, .inl (cZ, 8, .inl (jA y8))), (a9, .inl (cA, 64, .inl (jA y9))), (a10, .inl (cA, 8, .inl (jA y10))), (ma, .inr (5, [.int (jI mth), .int (jI mn), .ref a0, .int (jI mp), .int (jI mw), .ref a1, .ref a2, .ref a3, .ref a4, .ref a5, .ref a6, .ref a7, .ref a8, .ref a9, .ref a10, .long (jL mu), .long (jL md), .int (jI mo), .ref a11])), (a1, .inl (cZ, 62, .inl (jA y1))), (a2, .inl (cA, 62, .inl (jA y2))), (a7, .inl (cA, 248, .inl (jA y7)))] H := hP
    have hD : va_D A [(a3, .inl (cZ, 496, .inl (jA y3))), (a4, .inl (cA, 496, .inl (jA y4))), (a5, .inl (cA, 496, .inl (jA y5))), (a8, .inl (cZ, 8, .inl (jA y8))), (a9, .inl (cA, 64, .inl (jA y9))), (a10, .inl (cA, 8, .inl (jA y10))), (ma, .inr (5, [.int (jI mth), .int (jI mn), .ref a0, .int (jI mp), .int (jI mw), .ref a1, .ref a2, .ref a3, .ref a4, .ref a5, .ref a6, .ref a7, .ref a8, .ref a9, .ref a10, .long (jL mu), .long (jL md), .int (jI mo), .ref a11])), (a1, .inl (cZ, 62, .inl (jA y1))), (a2, .inl (cA, 62, .inl (jA y2))), (a7, .inl (cA, 248, .inl (jA y7)))] := hD
    refine ji_if_ge (tgt := 20) hx hb dXM_isAbove_15 (by decide) (by first | omega | decide) (fun c15_ => ?_) (fun c15_ => ?_)
    · refine lv_aload_n hx hb dXM_isAbove_20 rfl (lv_at hl 0 rfl) ?_
      refine lv_iload_n hx hb dXM_isAbove_21 rfl (lv_at hl 2 rfl) ?_
      refine lv_iload_n hx hb dXM_isAbove_22 rfl (lv_at hl 3 rfl) ?_
      refine lv_iload hx hb dXM_isAbove_23 (lv_at hl 4 rfl) ?_
      refine jwVv (rest := []) (wr := [(a8, .inl (cZ, 8, .inl (jA y8))), (a7, .inl (cA, 248, .inl (jA y7)))]) ⟨hx, hb, hml, hown, hts⟩ (c_XM_reckon l dC dI cA cZ _ ma a0 a1 a2 a3 a4 a5 a6 a7 a8 a9 a10 a11 mth mn mp mw mu md mo y1 y2 y3 y4 y5 y9 y10 z2 z3 z4 (by first | assumption | omega | exact jset_b (by assumption) (by omega)) (by first | assumption | omega | exact jset_b (by assumption) (by omega)) (by first | assumption | omega | exact jset_b (by assumption) (by omega)) (by first | assumption | omega | exact jset_b (by assumption) (by omega)) (by first | assumption | omega | exact jset_b (by assumption) (by omega)) (by first | assumption | omega | exact jset_b (by assumption) (by omega)) (by first | assumption | omega | exact jset_b (by assumption) (by omega)) (by first | assumption | omega | exact jset_b (by assumption) (by omega)) (by first | assumption | omega | exact jset_b (by assumption) (by omega))) (cwV 3 hts (jG_V tw_806 tw_808 ts_35 tw_6 tw_809) rfl rfl rfl (by decide +kernel) (by rw [hR]; exact ⟨Nat.le_of_ble_eq_true rfl, Nat.le_of_ble_eq_true rfl⟩)) hK hP hD hS hA hN [6, 7, 8, 0, 1, 2, 4, 5] [3, 9] rfl rfl (by decide) (by decide) (by decide) 6 5 rfl rfl rfl rfl hl.1 rfl (Nat.le_of_ble_eq_true rfl) dXM_isAbove_25 (by rw [hR]; exact ⟨Nat.le_of_ble_eq_true rfl, Nat.le_of_ble_eq_true rfl⟩) (fun u1 H locs hwb2 hP hD hS => ?_)
      obtain ⟨mu1', md1'⟩ := u1
      try dsimp only at hwb2
      obtain ⟨f3, f4⟩ := hwb2
      have f3 : 0 ≤ mu1' ∧ mu1' ≤ 1024000000000000 := f3
      have f4 : 1 ≤ md1' ∧ md1' ≤ 25600000000 := f4
      have hP : va_P (dC, dI) vwCl [(a8, .inl (cZ, 8, .inl (jA y8))), (a7, .inl (cA, 248, .inl (jA y7))), (ma, .inr (5, [.int (jI mth), .int (jI mn), .ref a0, .int (jI mp), .int (jI mw), .ref a1, .ref a2, .ref a3, .ref a4, .ref a5, .ref a6, .ref a7, .ref a8, .ref a9, .ref a10, .long (jL mu1'), .long (jL md1'), .int (jI mo), .ref a11])), (a1, .inl (cZ, 62, .inl (jA y1))), (a2, .inl (cA, 62, .inl (jA y2))), (a3, .inl (cZ, 496, .inl (jA y3))), (a4, .inl (cA, 496, .inl (jA y4))), (a5, .inl (cA, 496, .inl (jA y5))), (a9, .inl (cA, 64, .inl (jA y9))), (a10, .inl (cA, 8, .inl (jA y10)))] H := hP
      have hD : va_D A [(a8, .inl (cZ, 8, .inl (jA y8))), (a7, .inl (cA, 248, .inl (jA y7))), (ma, .inr (5, [.int (jI mth), .int (jI mn), .ref a0, .int (jI mp), .int (jI mw), .ref a1, .ref a2, .ref a3, .ref a4, .ref a5, .ref a6, .ref a7, .ref a8, .ref a9, .ref a10, .long (jL mu1'), .long (jL md1'), .int (jI mo), .ref a11])), (a1, .inl (cZ, 62, .inl (jA y1))), (a2, .inl (cA, 62, .inl (jA y2))), (a3, .inl (cZ, 496, .inl (jA y3))), (a4, .inl (cA, 496, .inl (jA y4))), (a5, .inl (cA, 496, .inl (jA y5))), (a9, .inl (cA, 64, .inl (jA y9))), (a10, .inl (cA, 8, .inl (jA y10)))] := hD
      refine lv_aload_n hx hb dXM_isAbove_28 rfl (lv_at hl 0 rfl) ?_
      refine va_get (D := (dC, dI)) (ci := 5) (v := .long (jL mu1')) (C := RXM) (T := TXM) (N := 19) hx hb hts (fun w h => jmem (inXM w h)) hown hK hP 2 rfl rfl 15 (by decide) (hts _ (jmem tw_643)) (fun _ h9 => h9) rfl dXM_isAbove_29 ?_
      refine lv_aload_n hx hb dXM_isAbove_32 rfl (lv_at hl 0 rfl) ?_
      refine lv_iload_n hx hb dXM_isAbove_33 rfl (lv_at hl 1 rfl) ?_
      refine lv_iload_n hx hb dXM_isAbove_34 rfl (lv_at hl 3 rfl) ?_
      refine jwVi (rest := [.long (jL mu1')]) (wr := [(a8, .inl (cZ, 8, .inl (jA y8))), (a3, .inl (cZ, 496, .inl (jA y3))), (a4, .inl (cA, 496, .inl (jA y4))), (a5, .inl (cA, 496, .inl (jA y5))), (a9, .inl (cA, 64, .inl (jA y9))), (a10, .inl (cA, 8, .inl (jA y10)))]) ⟨hx, hb, hml, hown, hts⟩ (c_XM_limitOf l dC dI cA cZ _ ma a0 a1 a2 a3 a4 a5 a6 a7 a8 a9 a10 a11 mth mn mp mw mu1' md1' mo y1 y2 y7 z1 z3 (by first | assumption | omega | exact jset_b (by assumption) (by omega)) (by first | assumption | omega | exact jset_b (by assumption) (by omega)) (by first | assumption | omega | exact jset_b (by assumption) (by omega)) (by first | assumption | omega | exact jset_b (by assumption) (by omega)) (by first | assumption | omega | exact jset_b (by assumption) (by omega))) (cwV 2 hts (jG_V tw_798 tw_800 ts_34 tw_6 tw_801) rfl rfl rfl (by decide +kernel) (by rw [hR]; exact ⟨Nat.le_of_ble_eq_true rfl, Nat.le_of_ble_eq_true rfl⟩)) hK hP hD hS hA hN [2, 3, 4, 1] [0, 5, 6, 7, 8, 9] rfl rfl (by decide) (by decide) (by decide) 2 5 rfl rfl rfl rfl hl.1 rfl (Nat.le_of_ble_eq_true rfl) dXM_isAbove_35 (by rw [hR]; exact ⟨Nat.le_of_ble_eq_true rfl, Nat.le_of_ble_eq_true rfl⟩) (fun v7 u6 H locs hwb8 hP hD hS => ?_)
      try dsimp only at hwb8
      obtain ⟨er, f9⟩ := hwb8
      subst er
      have f9 : -1 ≤ u6 ∧ u6 ≤ 999999 := f9
      have hP : va_P (dC, dI) vwCl [(a8, .inl (cZ, 8, .inl (jA y8))), (a3, .inl (cZ, 496, .inl (jA y3))), (a4, .inl (cA, 496, .inl (jA y4))), (a5, .inl (cA, 496, .inl (jA y5))), (a9, .inl (cA, 64, .inl (jA y9))), (a10, .inl (cA, 8, .inl (jA y10))), (ma, .inr (5, [.int (jI mth), .int (jI mn), .ref a0, .int (jI mp), .int (jI mw), .ref a1, .ref a2, .ref a3, .ref a4, .ref a5, .ref a6, .ref a7, .ref a8, .ref a9, .ref a10, .long (jL mu1'), .long (jL md1'), .int (jI mo), .ref a11])), (a1, .inl (cZ, 62, .inl (jA y1))), (a2, .inl (cA, 62, .inl (jA y2))), (a7, .inl (cA, 248, .inl (jA y7)))] H := hP
      have hD : va_D A [(a8, .inl (cZ, 8, .inl (jA y8))), (a3, .inl (cZ, 496, .inl (jA y3))), (a4, .inl (cA, 496, .inl (jA y4))), (a5, .inl (cA, 496, .inl (jA y5))), (a9, .inl (cA, 64, .inl (jA y9))), (a10, .inl (cA, 8, .inl (jA y10))), (ma, .inr (5, [.int (jI mth), .int (jI mn), .ref a0, .int (jI mp), .int (jI mw), .ref a1, .ref a2, .ref a3, .ref a4, .ref a5, .ref a6, .ref a7, .ref a8, .ref a9, .ref a10, .long (jL mu1'), .long (jL md1'), .int (jI mo), .ref a11])), (a1, .inl (cZ, 62, .inl (jA y1))), (a2, .inl (cA, 62, .inl (jA y2))), (a7, .inl (cA, 248, .inl (jA y7)))] := hD
      have q8 := muld (show -1 ≤ u6 ∧ u6 ≤ 999999 by omega) (show 1 ≤ md1' ∧ md1' ≤ 25600000000 by omega)
      refine ji_i2l hx hb dXM_isAbove_38 (by omega) ?_
      refine lv_aload_n hx hb dXM_isAbove_39 rfl (lv_at hl 0 rfl) ?_
      refine va_get (D := (dC, dI)) (ci := 5) (v := .long (jL md1')) (C := RXM) (T := TXM) (N := 19) hx hb hts (fun w h => jmem (inXM w h)) hown hK hP 6 rfl rfl 16 (by decide) (hts _ (jmem tw_644)) (fun _ h9 => h9) rfl dXM_isAbove_40 ?_
      refine ji_lmul hx hb dXM_isAbove_43 ?_
      refine ji_lcmp hx hb dXM_isAbove_44 (by omega) (by omega) ?_
      refine ji_if_le (tgt := 52) hx hb dXM_isAbove_45 (by decide) (jcmp_i _ _) (fun c45_ => ?_) (fun c45_ => ?_)
      · have c45_ := jcmp_ngt.mp c45_
        refine ji_iconst hx hb dXM_isAbove_52 ?_
        have hP9 := hP.sub (ws' := [(ma, .inr (5, [.int (jI mth), .int (jI mn), .ref a0, .int (jI mp), .int (jI mw), .ref a1, .ref a2, .ref a3, .ref a4, .ref a5, .ref a6, .ref a7, .ref a8, .ref a9, .ref a10, .long (jL mu1'), .long (jL md1'), .int (jI mo), .ref a11])), (a1, .inl (cZ, 62, .inl (jA y1))), (a2, .inl (cA, 62, .inl (jA y2))), (a3, .inl (cZ, 496, .inl (jA y3))), (a4, .inl (cA, 496, .inl (jA y4))), (a5, .inl (cA, 496, .inl (jA y5))), (a7, .inl (cA, 248, .inl (jA y7))), (a8, .inl (cZ, 8, .inl (jA y8))), (a9, .inl (cA, 64, .inl (jA y9))), (a10, .inl (cA, 8, .inl (jA y10)))]) [6, 7, 8, 1, 2, 3, 9, 0, 4, 5] rfl
        have hD9 := hD.sub (ws' := [(ma, .inr (5, [.int (jI mth), .int (jI mn), .ref a0, .int (jI mp), .int (jI mw), .ref a1, .ref a2, .ref a3, .ref a4, .ref a5, .ref a6, .ref a7, .ref a8, .ref a9, .ref a10, .long (jL mu1'), .long (jL md1'), .int (jI mo), .ref a11])), (a1, .inl (cZ, 62, .inl (jA y1))), (a2, .inl (cA, 62, .inl (jA y2))), (a3, .inl (cZ, 496, .inl (jA y3))), (a4, .inl (cA, 496, .inl (jA y4))), (a5, .inl (cA, 496, .inl (jA y5))), (a7, .inl (cA, 248, .inl (jA y7))), (a8, .inl (cZ, 8, .inl (jA y8))), (a9, .inl (cA, 64, .inl (jA y9))), (a10, .inl (cA, 8, .inl (jA y10)))]) [6, 7, 8, 1, 2, 3, 9, 0, 4, 5] (by decide) rfl
        subst hAe
        subst hQ
        exact W.zret (v := jI 0) hx hb hr (by first | decide | exact jz (by omega)) (fun t ht hW => ⟨⟨_, (0, mu1', md1'), rfl, ⟨rfl, (show 0 ≤ (0 : Int) ∧ (0 : Int) ≤ 1 from by first | assumption | omega | exact jset_b (by assumption) (by omega))⟩, ⟨by rw [ht]; exact hP9, va_K.moved hW.alike hK, hD9⟩⟩, hS.F ht⟩) hS.2.2 dXM_isAbove_53
      · have c45_ := jcmp_gt.mp c45_
        refine ji_iconst hx hb dXM_isAbove_48 ?_
        refine lv_goto (tgt := 53) hx hb dXM_isAbove_49 (by decide) ?_
        have hP9 := hP.sub (ws' := [(ma, .inr (5, [.int (jI mth), .int (jI mn), .ref a0, .int (jI mp), .int (jI mw), .ref a1, .ref a2, .ref a3, .ref a4, .ref a5, .ref a6, .ref a7, .ref a8, .ref a9, .ref a10, .long (jL mu1'), .long (jL md1'), .int (jI mo), .ref a11])), (a1, .inl (cZ, 62, .inl (jA y1))), (a2, .inl (cA, 62, .inl (jA y2))), (a3, .inl (cZ, 496, .inl (jA y3))), (a4, .inl (cA, 496, .inl (jA y4))), (a5, .inl (cA, 496, .inl (jA y5))), (a7, .inl (cA, 248, .inl (jA y7))), (a8, .inl (cZ, 8, .inl (jA y8))), (a9, .inl (cA, 64, .inl (jA y9))), (a10, .inl (cA, 8, .inl (jA y10)))]) [6, 7, 8, 1, 2, 3, 9, 0, 4, 5] rfl
        have hD9 := hD.sub (ws' := [(ma, .inr (5, [.int (jI mth), .int (jI mn), .ref a0, .int (jI mp), .int (jI mw), .ref a1, .ref a2, .ref a3, .ref a4, .ref a5, .ref a6, .ref a7, .ref a8, .ref a9, .ref a10, .long (jL mu1'), .long (jL md1'), .int (jI mo), .ref a11])), (a1, .inl (cZ, 62, .inl (jA y1))), (a2, .inl (cA, 62, .inl (jA y2))), (a3, .inl (cZ, 496, .inl (jA y3))), (a4, .inl (cA, 496, .inl (jA y4))), (a5, .inl (cA, 496, .inl (jA y5))), (a7, .inl (cA, 248, .inl (jA y7))), (a8, .inl (cZ, 8, .inl (jA y8))), (a9, .inl (cA, 64, .inl (jA y9))), (a10, .inl (cA, 8, .inl (jA y10)))]) [6, 7, 8, 1, 2, 3, 9, 0, 4, 5] (by decide) rfl
        subst hAe
        subst hQ
        exact W.zret (v := jI 1) hx hb hr (by first | decide | exact jz (by omega)) (fun t ht hW => ⟨⟨_, (1, mu1', md1'), rfl, ⟨rfl, (show 0 ≤ (1 : Int) ∧ (1 : Int) ≤ 1 from by first | assumption | omega | exact jset_b (by assumption) (by omega))⟩, ⟨by rw [ht]; exact hP9, va_K.moved hW.alike hK, hD9⟩⟩, hS.F ht⟩) hS.2.2 dXM_isAbove_53
    · refine ji_iconst hx hb dXM_isAbove_18 ?_
      have hP9 := hP.sub (ws' := [(ma, .inr (5, [.int (jI mth), .int (jI mn), .ref a0, .int (jI mp), .int (jI mw), .ref a1, .ref a2, .ref a3, .ref a4, .ref a5, .ref a6, .ref a7, .ref a8, .ref a9, .ref a10, .long (jL mu), .long (jL md), .int (jI mo), .ref a11])), (a1, .inl (cZ, 62, .inl (jA y1))), (a2, .inl (cA, 62, .inl (jA y2))), (a3, .inl (cZ, 496, .inl (jA y3))), (a4, .inl (cA, 496, .inl (jA y4))), (a5, .inl (cA, 496, .inl (jA y5))), (a7, .inl (cA, 248, .inl (jA y7))), (a8, .inl (cZ, 8, .inl (jA y8))), (a9, .inl (cA, 64, .inl (jA y9))), (a10, .inl (cA, 8, .inl (jA y10)))]) [6, 7, 8, 0, 1, 2, 9, 3, 4, 5] rfl
      have hD9 := hD.sub (ws' := [(ma, .inr (5, [.int (jI mth), .int (jI mn), .ref a0, .int (jI mp), .int (jI mw), .ref a1, .ref a2, .ref a3, .ref a4, .ref a5, .ref a6, .ref a7, .ref a8, .ref a9, .ref a10, .long (jL mu), .long (jL md), .int (jI mo), .ref a11])), (a1, .inl (cZ, 62, .inl (jA y1))), (a2, .inl (cA, 62, .inl (jA y2))), (a3, .inl (cZ, 496, .inl (jA y3))), (a4, .inl (cA, 496, .inl (jA y4))), (a5, .inl (cA, 496, .inl (jA y5))), (a7, .inl (cA, 248, .inl (jA y7))), (a8, .inl (cZ, 8, .inl (jA y8))), (a9, .inl (cA, 64, .inl (jA y9))), (a10, .inl (cA, 8, .inl (jA y10)))]) [6, 7, 8, 0, 1, 2, 9, 3, 4, 5] (by decide) rfl
      subst hAe
      subst hQ
      exact W.zret (v := jI 0) hx hb hr (by first | decide | exact jz (by omega)) (fun t ht hW => ⟨⟨_, (0, mu, md), rfl, ⟨rfl, (show 0 ≤ (0 : Int) ∧ (0 : Int) ≤ 1 from by first | assumption | omega | exact jset_b (by assumption) (by omega))⟩, ⟨by rw [ht]; exact hP9, va_K.moved hW.alike hK, hD9⟩⟩, hS.F ht⟩) hS.2.2 dXM_isAbove_19

end
section
set_option maxHeartbeats 4000000 in
set_option maxRecDepth 100000 in
theorem c_XM_equivalent (l : Launch) (dC : Nat → ClassId) (dI : Nat → Nat → Nat) (cA cZ : ClassId) (sz : Nat) (ma : Nat) (a0 : Nat) (a1 : Nat) (a2 : Nat) (a3 : Nat) (a4 : Nat) (a5 : Nat) (a6 : Nat) (a7 : Nat) (a8 : Nat) (a9 : Nat) (a10 : Nat) (a11 : Nat) (mth : Int) (mn : Int) (mp : Int) (mw : Int) (mu : Int) (md : Int) (mo : Int) (y1 : Int → Int) (y2 : Int → Int) (y3 : Int → Int) (y4 : Int → Int) (y5 : Int → Int) (y8 : Int → Int) (y9 : Int → Int) (y10 : Int → Int) (z1 : Int) (z2 : Int) (z3 : Int) (z4 : Int) (hy1 : ∀ i, 0 ≤ y1 i ∧ y1 i ≤ 1) (hy2 : ∀ i, 0 ≤ y2 i ∧ y2 i ≤ 30) (hy3 : ∀ i, 0 ≤ y3 i ∧ y3 i ≤ 1) (hy4 : ∀ i, 0 ≤ y4 i ∧ y4 i ≤ 100000) (hy5 : ∀ i, 0 ≤ y5 i ∧ y5 i ≤ 100000) (hy8 : ∀ i, 0 ≤ y8 i ∧ y8 i ≤ 1) (hy9 : ∀ i, 0 ≤ y9 i ∧ y9 i ≤ 20) (hy10 : ∀ i, 0 ≤ y10 i ∧ y10 i ≤ 100000) (hiz1 : i32 z1) (hiz2 : i32 z2) (hiz3 : i32 z3) (hiz4 : i32 z4) : Met l yXM_equivalent (Cond.code yXM_equivalent cXM_equivalent 6 (some .long) :: TBL) ({ frames := 6, cells := 0, slots := 0, locals := 134 } : Room) (va_Pc [.ref ma, .int (jI z1), .int (jI z2), .int (jI z3), .int (jI z4)] (jBw (dC, dI) [(cA, .int), (cZ, .boolean)] [(ma, .inr (5, [.int (jI mth), .int (jI mn), .ref a0, .int (jI mp), .int (jI mw), .ref a1, .ref a2, .ref a3, .ref a4, .ref a5, .ref a6, .ref a7, .ref a8, .ref a9, .ref a10, .long (jL mu), .long (jL md), .int (jI mo), .ref a11])), (a1, .inl (cZ, 62, .inl (jA y1))), (a2, .inl (cA, 62, .inl (jA y2))), (a3, .inl (cZ, 496, .inl (jA y3))), (a4, .inl (cA, 496, .inl (jA y4))), (a5, .inl (cA, 496, .inl (jA y5))), (a8, .inl (cZ, 8, .inl (jA y8))), (a9, .inl (cA, 64, .inl (jA y9))), (a10, .inl (cA, 8, .inl (jA y10)))] sz)) (va_Ql (fun (r : Int64) (u : Int × Int × Int × Int) => r = jL u.1 ∧ (0 ≤ u.2.1 ∧ u.2.1 ≤ 2)) (fun u t => jE (dC, dI) [(cA, .int), (cZ, .boolean)] [(ma, .inr (5, [.int (jI mth), .int (jI mn), .ref a0, .int (jI mp), .int (jI mw), .ref a1, .ref a2, .ref a3, .ref a4, .ref a5, .ref a6, .ref a7, .ref a8, .ref a9, .ref a10, .long (jL mu), .long (jL md), .int (jI mo), .ref a11])), (a1, .inl (cZ, 62, .inl (jA y1))), (a2, .inl (cA, 62, .inl (jA y2))), (a3, .inl (cZ, 496, .inl (jA y3))), (a4, .inl (cA, 496, .inl (jA y4))), (a5, .inl (cA, 496, .inl (jA y5))), (a8, .inl (cZ, 8, .inl (jA y8))), (a9, .inl (cA, 64, .inl (jA y9))), (a10, .inl (cA, 8, .inl (jA y10)))] sz [(ma, .inr (5, [.int (jI u.2.1), .int (jI mn), .ref a0, .int (jI mp), .int (jI mw), .ref a1, .ref a2, .ref a3, .ref a4, .ref a5, .ref a6, .ref a7, .ref a8, .ref a9, .ref a10, .long (jL u.2.2.1), .long (jL u.2.2.2), .int (jI mo), .ref a11])), (a1, .inl (cZ, 62, .inl (jA y1))), (a2, .inl (cA, 62, .inl (jA y2))), (a3, .inl (cZ, 496, .inl (jA y3))), (a4, .inl (cA, 496, .inl (jA y4))), (a5, .inl (cA, 496, .inl (jA y5))), (a8, .inl (cZ, 8, .inl (jA y8))), (a9, .inl (cA, 64, .inl (jA y9))), (a10, .inl (cA, 8, .inl (jA y10)))] t) (va_A [(ma, .inr (5, [.int (jI mth), .int (jI mn), .ref a0, .int (jI mp), .int (jI mw), .ref a1, .ref a2, .ref a3, .ref a4, .ref a5, .ref a6, .ref a7, .ref a8, .ref a9, .ref a10, .long (jL mu), .long (jL md), .int (jI mo), .ref a11])), (a1, .inl (cZ, 62, .inl (jA y1))), (a2, .inl (cA, 62, .inl (jA y2))), (a3, .inl (cZ, 496, .inl (jA y3))), (a4, .inl (cA, 496, .inl (jA y4))), (a5, .inl (cA, 496, .inl (jA y5))), (a8, .inl (cZ, 8, .inl (jA y8))), (a9, .inl (cA, 64, .inl (jA y9))), (a10, .inl (cA, 8, .inl (jA y10)))] sz)) 0 0 (va_A [(ma, .inr (5, [.int (jI mth), .int (jI mn), .ref a0, .int (jI mp), .int (jI mw), .ref a1, .ref a2, .ref a3, .ref a4, .ref a5, .ref a6, .ref a7, .ref a8, .ref a9, .ref a10, .long (jL mu), .long (jL md), .int (jI mo), .ref a11])), (a1, .inl (cZ, 62, .inl (jA y1))), (a2, .inl (cA, 62, .inl (jA y2))), (a3, .inl (cZ, 496, .inl (jA y3))), (a4, .inl (cA, 496, .inl (jA y4))), (a5, .inl (cA, 496, .inl (jA y5))), (a8, .inl (cZ, 8, .inl (jA y8))), (a9, .inl (cA, 64, .inl (jA y9))), (a10, .inl (cA, 8, .inl (jA y10)))] sz) := by
  refine jMet (cc := cXM_equivalent) (maxL := 6) (ret := some .long) (by decide) rfl ?_
  intro p e s m args below meth c s₁ R Q hR hQ B hml hv
  obtain ⟨rfl, hsz, hP, hK, hD0, hN⟩ := hv
  have hx := B.exec
  have hb := B.bytes
  have hr := B.returns
  have hts := atoms_spec (ws := Cond.code yXM_equivalent cXM_equivalent 6 (some .long) :: TBL) B.pre
  have hown : s.vm.findClass RXM = some m.cls := findClass_of_methodNamed B.named
  have hlocks := B.notSynchronized
  subst hsz
  obtain ⟨A, hAe⟩ : ∃ A, A = va_A [(ma, .inr (5, [.int (jI mth), .int (jI mn), .ref a0, .int (jI mp), .int (jI mw), .ref a1, .ref a2, .ref a3, .ref a4, .ref a5, .ref a6, .ref a7, .ref a8, .ref a9, .ref a10, .long (jL mu), .long (jL md), .int (jI mo), .ref a11])), (a1, .inl (cZ, 62, .inl (jA y1))), (a2, .inl (cA, 62, .inl (jA y2))), (a3, .inl (cZ, 496, .inl (jA y3))), (a4, .inl (cA, 496, .inl (jA y4))), (a5, .inl (cA, 496, .inl (jA y5))), (a8, .inl (cZ, 8, .inl (jA y8))), (a9, .inl (cA, 64, .inl (jA y9))), (a10, .inl (cA, 8, .inl (jA y10)))] s.heap.size := ⟨_, rfl⟩
  have hD : va_D A [(ma, .inr (5, [.int (jI mth), .int (jI mn), .ref a0, .int (jI mp), .int (jI mw), .ref a1, .ref a2, .ref a3, .ref a4, .ref a5, .ref a6, .ref a7, .ref a8, .ref a9, .ref a10, .long (jL mu), .long (jL md), .int (jI mo), .ref a11])), (a1, .inl (cZ, 62, .inl (jA y1))), (a2, .inl (cA, 62, .inl (jA y2))), (a3, .inl (cZ, 496, .inl (jA y3))), (a4, .inl (cA, 496, .inl (jA y4))), (a5, .inl (cA, 496, .inl (jA y5))), (a8, .inl (cZ, 8, .inl (jA y8))), (a9, .inl (cA, 64, .inl (jA y9))), (a10, .inl (cA, 8, .inl (jA y10)))] := by rw [hAe]; exact hD0.self
  have hA : ∀ q : Nat, s.heap.size ≤ q → A q := fun q h => by rw [hAe]; exact Or.inr h
  have hS : va_S A s.heap s.heap [] := va_S.rf
  have hP : va_P (dC, dI) vwCl [(ma, .inr (5, [.int (jI mth), .int (jI mn), .ref a0, .int (jI mp), .int (jI mw), .ref a1, .ref a2, .ref a3, .ref a4, .ref a5, .ref a6, .ref a7, .ref a8, .ref a9, .ref a10, .long (jL mu), .long (jL md), .int (jI mo), .ref a11])), (a1, .inl (cZ, 62, .inl (jA y1))), (a2, .inl (cA, 62, .inl (jA y2))), (a3, .inl (cZ, 496, .inl (jA y3))), (a4, .inl (cA, 496, .inl (jA y4))), (a5, .inl (cA, 496, .inl (jA y5))), (a8, .inl (cZ, 8, .inl (jA y8))), (a9, .inl (cA, 64, .inl (jA y9))), (a10, .inl (cA, 8, .inl (jA y10)))] s.heap := hP
  have hl := lv_entry ([.ref ma, .int (jI z1), .int (jI z2), .int (jI z3), .int (jI z4)]) (n := 6) (Nat.le_of_ble_eq_true rfl)
  rw [lg_entry_eq]
  generalize (lg_sl ([.ref ma, .int (jI z1), .int (jI z2), .int (jI z3), .int (jI z4)]) ++ List.replicate (6 - (lg_sl ([.ref ma, .int (jI z1), .int (jI z2), .int (jI z3), .int (jI z4)])).length) Slot.unset).toArray = ls at hl ⊢
  have hl : lv_has ls 6 [(0, .ref ma), (1, .int (jI z1)), (2, .int (jI z2)), (3, .int (jI z3)), (4, .int (jI z4))] := hl
  have join39 : ∀ (jc : Int) , ((jc = 0) ∨ (jc = 1 ∧ 1 ≤ z1 ∧ z1 ≤ 30 ∧ 0 ≤ z2 ∧ z2 ≤ 3 ∧ 0 ≤ z3 ∧ z3 ≤ 1 ∧ 0 ≤ z4 ∧ z4 ≤ 1)) → ∀ (H : Heap) (locs : List Loc), va_P (dC, dI) vwCl [(ma, .inr (5, [.int (jI mth), .int (jI mn), .ref a0, .int (jI mp), .int (jI mw), .ref a1, .ref a2, .ref a3, .ref a4, .ref a5, .ref a6, .ref a7, .ref a8, .ref a9, .ref a10, .long (jL mu), .long (jL md), .int (jI mo), .ref a11])), (a1, .inl (cZ, 62, .inl (jA y1))), (a2, .inl (cA, 62, .inl (jA y2))), (a3, .inl (cZ, 496, .inl (jA y3))), (a4, .inl (cA, 496, .inl (jA y4))), (a5, .inl (cA, 496, .inl (jA y5))), (a8, .inl (cZ, 8, .inl (jA y8))), (a9, .inl (cA, 64, .inl (jA y9))), (a10, .inl (cA, 8, .inl (jA y10)))] H → va_D A [(ma, .inr (5, [.int (jI mth), .int (jI mn), .ref a0, .int (jI mp), .int (jI mw), .ref a1, .ref a2, .ref a3, .ref a4, .ref a5, .ref a6, .ref a7, .ref a8, .ref a9, .ref a10, .long (jL mu), .long (jL md), .int (jI mo), .ref a11])), (a1, .inl (cZ, 62, .inl (jA y1))), (a2, .inl (cA, 62, .inl (jA y2))), (a3, .inl (cZ, 496, .inl (jA y3))), (a4, .inl (cA, 496, .inl (jA y4))), (a5, .inl (cA, 496, .inl (jA y5))), (a8, .inl (cZ, 8, .inl (jA y8))), (a9, .inl (cA, 64, .inl (jA y9))), (a10, .inl (cA, 8, .inl (jA y10)))] → va_S A s.heap H locs → ∀ ls : Array Slot, lv_has ls 6 [(0, .ref ma), (1, .int (jI z1)), (2, .int (jI z2)), (3, .int (jI z3)), (4, .int (jI z4))] → W p l e R s m ([.ref ma, .int (jI z1), .int (jI z2), .int (jI z3), .int (jI z4)] : List Value).toArray below meth c H locs 0 0 Q (F0 m 39 ls [.int (jI jc)]) := by
    intro jc hjc H locs hP hD hS ls hl
    refine lv_istore (lv' := [(5, .int (jI jc)), (0, .ref ma), (1, .int (jI z1)), (2, .int (jI z2)), (3, .int (jI z3)), (4, .int (jI z4))]) hx hb dXM_equivalent_39 hl (by decide) rfl (fun ls hl => ?_)
    refine lv_aload_n hx hb dXM_equivalent_41 rfl (lv_at hl 1 rfl) ?_
    refine lv_iload hx hb dXM_equivalent_42 (lv_at hl 0 rfl) ?_
    have join63 : ∀ (jd : Int) , ((jd = 0) ∨ (jd = 1 ∧ jc = 1)) → ∀ (H : Heap) (locs : List Loc), va_P (dC, dI) vwCl [(ma, .inr (5, [.int (jI mth), .int (jI mn), .ref a0, .int (jI mp), .int (jI mw), .ref a1, .ref a2, .ref a3, .ref a4, .ref a5, .ref a6, .ref a7, .ref a8, .ref a9, .ref a10, .long (jL mu), .long (jL md), .int (jI mo), .ref a11])), (a1, .inl (cZ, 62, .inl (jA y1))), (a2, .inl (cA, 62, .inl (jA y2))), (a3, .inl (cZ, 496, .inl (jA y3))), (a4, .inl (cA, 496, .inl (jA y4))), (a5, .inl (cA, 496, .inl (jA y5))), (a8, .inl (cZ, 8, .inl (jA y8))), (a9, .inl (cA, 64, .inl (jA y9))), (a10, .inl (cA, 8, .inl (jA y10)))] H → va_D A [(ma, .inr (5, [.int (jI mth), .int (jI mn), .ref a0, .int (jI mp), .int (jI mw), .ref a1, .ref a2, .ref a3, .ref a4, .ref a5, .ref a6, .ref a7, .ref a8, .ref a9, .ref a10, .long (jL mu), .long (jL md), .int (jI mo), .ref a11])), (a1, .inl (cZ, 62, .inl (jA y1))), (a2, .inl (cA, 62, .inl (jA y2))), (a3, .inl (cZ, 496, .inl (jA y3))), (a4, .inl (cA, 496, .inl (jA y4))), (a5, .inl (cA, 496, .inl (jA y5))), (a8, .inl (cZ, 8, .inl (jA y8))), (a9, .inl (cA, 64, .inl (jA y9))), (a10, .inl (cA, 8, .inl (jA y10)))] → va_S A s.heap H locs → ∀ ls : Array Slot, lv_has ls 6 [(5, .int (jI jc)), (0, .ref ma), (1, .int (jI z1)), (2, .int (jI z2)), (3, .int (jI z3)), (4, .int (jI z4))] → W p l e R s m ([.ref ma, .int (jI z1), .int (jI z2), .int (jI z3), .int (jI z4)] : List Value).toArray below meth c H locs 0 0 Q (F0 m 63 ls [.int (jI jd), .int (jI jc), .ref ma]) := by
      intro jd hjd H locs hP hD hS ls hl
      refine jwVi (rest := []) (wr := [(a1, .inl (cZ, 62, .inl (jA y1))), (a2, .inl (cA, 62, .inl (jA y2))), (a3, .inl (cZ, 496, .inl (jA y3))), (a4, .inl (cA, 496, .inl (jA y4))), (a5, .inl (cA, 496, .inl (jA y5))), (a8, .inl (cZ, 8, .inl (jA y8))), (a9, .inl (cA, 64, .inl (jA y9))), (a10, .inl (cA, 8, .inl (jA y10)))]) ⟨hx, hb, hml, hown, hts⟩ (c_XM_goes l dC dI cA cZ _ ma a0 a1 a2 a3 a4 a5 a6 a7 a8 a9 a10 a11 mth mn mp mw mu md mo jc jd (by first | assumption | omega | exact jset_b (by assumption) (by omega)) (by first | assumption | omega | exact jset_b (by assumption) (by omega))) (cwV 2 hts (jG_V tw_698 tw_700 ts_14 tw_6 tw_701) rfl rfl rfl (by decide +kernel) (by rw [hR]; exact ⟨Nat.le_of_ble_eq_true rfl, Nat.le_of_ble_eq_true rfl⟩)) hK hP hD hS hA hN [0] [1, 2, 3, 4, 5, 6, 7, 8] rfl rfl (by decide) (by decide) (by decide) 0 5 rfl rfl rfl rfl hl.1 rfl (Nat.le_of_ble_eq_true rfl) dXM_equivalent_63 (by rw [hR]; exact ⟨Nat.le_of_ble_eq_true rfl, Nat.le_of_ble_eq_true rfl⟩) (fun v u H locs hwb hP hD hS => ?_)
      obtain ⟨r, mth1'⟩ := u
      try dsimp only at hwb
      obtain ⟨er, f⟩ := hwb
      subst er
      have f : (r = 0 ∧ mth1' = 1 ∧ jc = 0) ∨ (r = 0 ∧ mth1' = 2 ∧ jc = 1 ∧ jd = 0) ∨ (r = 1 ∧ mth1' = 0 ∧ jc = 1 ∧ jd = 1) := f
      have hP : va_P (dC, dI) vwCl [(a1, .inl (cZ, 62, .inl (jA y1))), (a2, .inl (cA, 62, .inl (jA y2))), (a3, .inl (cZ, 496, .inl (jA y3))), (a4, .inl (cA, 496, .inl (jA y4))), (a5, .inl (cA, 496, .inl (jA y5))), (a8, .inl (cZ, 8, .inl (jA y8))), (a9, .inl (cA, 64, .inl (jA y9))), (a10, .inl (cA, 8, .inl (jA y10))), (ma, .inr (5, [.int (jI mth1'), .int (jI mn), .ref a0, .int (jI mp), .int (jI mw), .ref a1, .ref a2, .ref a3, .ref a4, .ref a5, .ref a6, .ref a7, .ref a8, .ref a9, .ref a10, .long (jL mu), .long (jL md), .int (jI mo), .ref a11]))] H := hP
      have hD : va_D A [(a1, .inl (cZ, 62, .inl (jA y1))), (a2, .inl (cA, 62, .inl (jA y2))), (a3, .inl (cZ, 496, .inl (jA y3))), (a4, .inl (cA, 496, .inl (jA y4))), (a5, .inl (cA, 496, .inl (jA y5))), (a8, .inl (cZ, 8, .inl (jA y8))), (a9, .inl (cA, 64, .inl (jA y9))), (a10, .inl (cA, 8, .inl (jA y10))), (ma, .inr (5, [.int (jI mth1'), .int (jI mn), .ref a0, .int (jI mp), .int (jI mw), .ref a1, .ref a2, .ref a3, .ref a4, .ref a5, .ref a6, .ref a7, .ref a8, .ref a9, .ref a10, .long (jL mu), .long (jL md), .int (jI mo), .ref a11]))] := hD
      refine ji_if_ne (tgt := 71) hx hb dXM_equivalent_66 (by decide) (by first | omega | decide) (fun c66_ => ?_) (fun c66_ => ?_)
      · refine lv_aload_n hx hb dXM_equivalent_71 rfl (lv_at hl 1 rfl) ?_
        refine lv_iload_n hx hb dXM_equivalent_72 rfl (lv_at hl 2 rfl) ?_
        refine lv_iload_n hx hb dXM_equivalent_73 rfl (lv_at hl 3 rfl) ?_
        refine lv_iload_n hx hb dXM_equivalent_74 rfl (lv_at hl 4 rfl) ?_
        refine jwVv (rest := []) (wr := [(a8, .inl (cZ, 8, .inl (jA y8)))]) ⟨hx, hb, hml, hown, hts⟩ (c_XM_reckon l dC dI cA cZ _ ma a0 a1 a2 a3 a4 a5 a6 a7 a8 a9 a10 a11 mth1' mn mp mw mu md mo y1 y2 y3 y4 y5 y9 y10 z1 z2 z3 (by first | assumption | omega | exact jset_b (by assumption) (by omega)) (by first | assumption | omega | exact jset_b (by assumption) (by omega)) (by first | assumption | omega | exact jset_b (by assumption) (by omega)) (by first | assumption | omega | exact jset_b (by assumption) (by omega)) (by first | assumption | omega | exact jset_b (by assumption) (by omega)) (by first | assumption | omega | exact jset_b (by assumption) (by omega)) (by first | assumption | omega | exact jset_b (by assumption) (by omega)) (by first | assumption | omega | exact jset_b (by assumption) (by omega)) (by first | assumption | omega | exact jset_b (by assumption) (by omega))) (cwV 3 hts (jG_V tw_806 tw_808 ts_35 tw_6 tw_809) rfl rfl rfl (by decide +kernel) (by rw [hR]; exact ⟨Nat.le_of_ble_eq_true rfl, Nat.le_of_ble_eq_true rfl⟩)) hK hP hD hS hA hN [8, 0, 1, 2, 3, 4, 6, 7] [5] rfl rfl (by decide) (by decide) (by decide) 8 5 rfl rfl rfl rfl hl.1 rfl (Nat.le_of_ble_eq_true rfl) dXM_equivalent_75 (by rw [hR]; exact ⟨Nat.le_of_ble_eq_true rfl, Nat.le_of_ble_eq_true rfl⟩) (fun u1 H locs hwb2 hP hD hS => ?_)
        obtain ⟨mu1', md1'⟩ := u1
        try dsimp only at hwb2
        obtain ⟨f3, f4⟩ := hwb2
        have f3 : 0 ≤ mu1' ∧ mu1' ≤ 1024000000000000 := f3
        have f4 : 1 ≤ md1' ∧ md1' ≤ 25600000000 := f4
        have hP : va_P (dC, dI) vwCl [(a8, .inl (cZ, 8, .inl (jA y8))), (ma, .inr (5, [.int (jI mth1'), .int (jI mn), .ref a0, .int (jI mp), .int (jI mw), .ref a1, .ref a2, .ref a3, .ref a4, .ref a5, .ref a6, .ref a7, .ref a8, .ref a9, .ref a10, .long (jL mu1'), .long (jL md1'), .int (jI mo), .ref a11])), (a1, .inl (cZ, 62, .inl (jA y1))), (a2, .inl (cA, 62, .inl (jA y2))), (a3, .inl (cZ, 496, .inl (jA y3))), (a4, .inl (cA, 496, .inl (jA y4))), (a5, .inl (cA, 496, .inl (jA y5))), (a9, .inl (cA, 64, .inl (jA y9))), (a10, .inl (cA, 8, .inl (jA y10)))] H := hP
        have hD : va_D A [(a8, .inl (cZ, 8, .inl (jA y8))), (ma, .inr (5, [.int (jI mth1'), .int (jI mn), .ref a0, .int (jI mp), .int (jI mw), .ref a1, .ref a2, .ref a3, .ref a4, .ref a5, .ref a6, .ref a7, .ref a8, .ref a9, .ref a10, .long (jL mu1'), .long (jL md1'), .int (jI mo), .ref a11])), (a1, .inl (cZ, 62, .inl (jA y1))), (a2, .inl (cA, 62, .inl (jA y2))), (a3, .inl (cZ, 496, .inl (jA y3))), (a4, .inl (cA, 496, .inl (jA y4))), (a5, .inl (cA, 496, .inl (jA y5))), (a9, .inl (cA, 64, .inl (jA y9))), (a10, .inl (cA, 8, .inl (jA y10)))] := hD
        refine lv_iload hx hb dXM_equivalent_78 (lv_at hl 5 rfl) ?_
        refine ji_if_ne (tgt := 90) hx hb dXM_equivalent_80 (by decide) (by first | omega | decide) (fun c80_ => ?_) (fun c80_ => ?_)
        · refine lv_aload_n hx hb dXM_equivalent_90 rfl (lv_at hl 1 rfl) ?_
          refine va_get (D := (dC, dI)) (ci := 5) (v := .long (jL md1')) (C := RXM) (T := TXM) (N := 19) hx hb hts (fun w h => jmem (inXM w h)) hown hK hP 1 rfl rfl 16 (by decide) (hts _ (jmem tw_644)) (fun _ h9 => h9) rfl dXM_equivalent_91 ?_
          have hP9 := hP.sub (ws' := [(ma, .inr (5, [.int (jI mth1'), .int (jI mn), .ref a0, .int (jI mp), .int (jI mw), .ref a1, .ref a2, .ref a3, .ref a4, .ref a5, .ref a6, .ref a7, .ref a8, .ref a9, .ref a10, .long (jL mu1'), .long (jL md1'), .int (jI mo), .ref a11])), (a1, .inl (cZ, 62, .inl (jA y1))), (a2, .inl (cA, 62, .inl (jA y2))), (a3, .inl (cZ, 496, .inl (jA y3))), (a4, .inl (cA, 496, .inl (jA y4))), (a5, .inl (cA, 496, .inl (jA y5))), (a8, .inl (cZ, 8, .inl (jA y8))), (a9, .inl (cA, 64, .inl (jA y9))), (a10, .inl (cA, 8, .inl (jA y10)))]) [1, 2, 3, 4, 5, 6, 0, 7, 8] rfl
          have hD9 := hD.sub (ws' := [(ma, .inr (5, [.int (jI mth1'), .int (jI mn), .ref a0, .int (jI mp), .int (jI mw), .ref a1, .ref a2, .ref a3, .ref a4, .ref a5, .ref a6, .ref a7, .ref a8, .ref a9, .ref a10, .long (jL mu1'), .long (jL md1'), .int (jI mo), .ref a11])), (a1, .inl (cZ, 62, .inl (jA y1))), (a2, .inl (cA, 62, .inl (jA y2))), (a3, .inl (cZ, 496, .inl (jA y3))), (a4, .inl (cA, 496, .inl (jA y4))), (a5, .inl (cA, 496, .inl (jA y5))), (a8, .inl (cZ, 8, .inl (jA y8))), (a9, .inl (cA, 64, .inl (jA y9))), (a10, .inl (cA, 8, .inl (jA y10)))]) [1, 2, 3, 4, 5, 6, 0, 7, 8] (by decide) rfl
          subst hAe
          subst hQ
          exact W.lret (v := jL md1') hx hb hr (fun t ht hW => ⟨⟨_, (md1', mth1', mu1', md1'), rfl, ⟨rfl, (show 0 ≤ mth1' ∧ mth1' ≤ 2 from by first | assumption | omega | exact jset_b (by assumption) (by omega))⟩, ⟨by rw [ht]; exact hP9, va_K.moved hW.alike hK, hD9⟩⟩, hS.F ht⟩) hS.2.2 dXM_equivalent_94
        · refine lv_aload_n hx hb dXM_equivalent_83 rfl (lv_at hl 1 rfl) ?_
          refine va_get (D := (dC, dI)) (ci := 5) (v := .long (jL mu1')) (C := RXM) (T := TXM) (N := 19) hx hb hts (fun w h => jmem (inXM w h)) hown hK hP 1 rfl rfl 15 (by decide) (hts _ (jmem tw_643)) (fun _ h9 => h9) rfl dXM_equivalent_84 ?_
          refine lv_goto (tgt := 94) hx hb dXM_equivalent_87 (by decide) ?_
          have hP9 := hP.sub (ws' := [(ma, .inr (5, [.int (jI mth1'), .int (jI mn), .ref a0, .int (jI mp), .int (jI mw), .ref a1, .ref a2, .ref a3, .ref a4, .ref a5, .ref a6, .ref a7, .ref a8, .ref a9, .ref a10, .long (jL mu1'), .long (jL md1'), .int (jI mo), .ref a11])), (a1, .inl (cZ, 62, .inl (jA y1))), (a2, .inl (cA, 62, .inl (jA y2))), (a3, .inl (cZ, 496, .inl (jA y3))), (a4, .inl (cA, 496, .inl (jA y4))), (a5, .inl (cA, 496, .inl (jA y5))), (a8, .inl (cZ, 8, .inl (jA y8))), (a9, .inl (cA, 64, .inl (jA y9))), (a10, .inl (cA, 8, .inl (jA y10)))]) [1, 2, 3, 4, 5, 6, 0, 7, 8] rfl
          have hD9 := hD.sub (ws' := [(ma, .inr (5, [.int (jI mth1'), .int (jI mn), .ref a0, .int (jI mp), .int (jI mw), .ref a1, .ref a2, .ref a3, .ref a4, .ref a5, .ref a6, .ref a7, .ref a8, .ref a9, .ref a10, .long (jL mu1'), .long (jL md1'), .int (jI mo), .ref a11])), (a1, .inl (cZ, 62, .inl (jA y1))), (a2, .inl (cA, 62, .inl (jA y2))), (a3, .inl (cZ, 496, .inl (jA y3))), (a4, .inl (cA, 496, .inl (jA y4))), (a5, .inl (cA, 496, .inl (jA y5))), (a8, .inl (cZ, 8, .inl (jA y8))), (a9, .inl (cA, 64, .inl (jA y9))), (a10, .inl (cA, 8, .inl (jA y10)))]) [1, 2, 3, 4, 5, 6, 0, 7, 8] (by decide) rfl
          subst hAe
          subst hQ
          exact W.lret (v := jL mu1') hx hb hr (fun t ht hW => ⟨⟨_, (mu1', mth1', mu1', md1'), rfl, ⟨rfl, (show 0 ≤ mth1' ∧ mth1' ≤ 2 from by first | assumption | omega | exact jset_b (by assumption) (by omega))⟩, ⟨by rw [ht]; exact hP9, va_K.moved hW.alike hK, hD9⟩⟩, hS.F ht⟩) hS.2.2 dXM_equivalent_94
      · refine ji_lconst (z := 0) hx hb dXM_equivalent_69 rfl ?_
        have hP9 := hP.sub (ws' := [(ma, .inr (5, [.int (jI mth1'), .int (jI mn), .ref a0, .int (jI mp), .int (jI mw), .ref a1, .ref a2, .ref a3, .ref a4, .ref a5, .ref a6, .ref a7, .ref a8, .ref a9, .ref a10, .long (jL mu), .long (jL md), .int (jI mo), .ref a11])), (a1, .inl (cZ, 62, .inl (jA y1))), (a2, .inl (cA, 62, .inl (jA y2))), (a3, .inl (cZ, 496, .inl (jA y3))), (a4, .inl (cA, 496, .inl (jA y4))), (a5, .inl (cA, 496, .inl (jA y5))), (a8, .inl (cZ, 8, .inl (jA y8))), (a9, .inl (cA, 64, .inl (jA y9))), (a10, .inl (cA, 8, .inl (jA y10)))]) [8, 0, 1, 2, 3, 4, 5, 6, 7] rfl
        have hD9 := hD.sub (ws' := [(ma, .inr (5, [.int (jI mth1'), .int (jI mn), .ref a0, .int (jI mp), .int (jI mw), .ref a1, .ref a2, .ref a3, .ref a4, .ref a5, .ref a6, .ref a7, .ref a8, .ref a9, .ref a10, .long (jL mu), .long (jL md), .int (jI mo), .ref a11])), (a1, .inl (cZ, 62, .inl (jA y1))), (a2, .inl (cA, 62, .inl (jA y2))), (a3, .inl (cZ, 496, .inl (jA y3))), (a4, .inl (cA, 496, .inl (jA y4))), (a5, .inl (cA, 496, .inl (jA y5))), (a8, .inl (cZ, 8, .inl (jA y8))), (a9, .inl (cA, 64, .inl (jA y9))), (a10, .inl (cA, 8, .inl (jA y10)))]) [8, 0, 1, 2, 3, 4, 5, 6, 7] (by decide) rfl
        subst hAe
        subst hQ
        exact W.lret (v := jL 0) hx hb hr (fun t ht hW => ⟨⟨_, (0, mth1', mu, md), rfl, ⟨rfl, (show 0 ≤ mth1' ∧ mth1' ≤ 2 from by first | assumption | omega | exact jset_b (by assumption) (by omega))⟩, ⟨by rw [ht]; exact hP9, va_K.moved hW.alike hK, hD9⟩⟩, hS.F ht⟩) hS.2.2 dXM_equivalent_70
    refine lv_iload hx hb dXM_equivalent_44 (lv_at hl 0 rfl) ?_
    refine ji_if_eq (tgt := 62) hx hb dXM_equivalent_46 (by decide) (by first | omega | decide) (fun c46_ => ?_) (fun c46_ => ?_)
    · refine ji_iconst hx hb dXM_equivalent_62 ?_
      exact join63 0 (by first | assumption | omega | exact jset_b (by assumption) (by omega)) _ _ hP hD hS ls (lv_sub hl [0, 1, 2, 3, 4, 5] rfl)
    · refine lv_aload_n hx hb dXM_equivalent_49 rfl (lv_at hl 1 rfl) ?_
      refine va_get (D := (dC, dI)) (ci := 5) (v := .ref a8) (C := RXM) (T := TXM) (N := 19) hx hb hts (fun w h => jmem (inXM w h)) hown hK hP 0 rfl rfl 12 (by decide) (hts _ (jmem tw_640)) (fun _ h9 => h9) rfl dXM_equivalent_50 ?_
      refine lv_iload_n hx hb dXM_equivalent_53 rfl (lv_at hl 3 rfl) ?_
      refine ji_zald hx hb hK hP 6 1 rfl rfl ⟨by omega, by omega⟩ (by decide) dXM_equivalent_54 ?_
      have rb := hy8 z2
      refine ji_if_eq (tgt := 62) hx hb dXM_equivalent_55 (by decide) (by first | omega | decide) (fun c55_ => ?_) (fun c55_ => ?_)
      · refine ji_iconst hx hb dXM_equivalent_62 ?_
        exact join63 0 (by first | assumption | omega | exact jset_b (by assumption) (by omega)) _ _ hP hD hS ls (lv_sub hl [0, 1, 2, 3, 4, 5] rfl)
      · refine ji_iconst hx hb dXM_equivalent_58 ?_
        refine lv_goto (tgt := 63) hx hb dXM_equivalent_59 (by decide) ?_
        exact join63 1 (by first | assumption | omega | exact jset_b (by assumption) (by omega)) _ _ hP hD hS ls (lv_sub hl [0, 1, 2, 3, 4, 5] rfl)
  refine lv_aload_n hx hb dXM_equivalent_0 rfl (lv_at hl 0 rfl) ?_
  refine lv_iload_n hx hb dXM_equivalent_1 rfl (lv_at hl 1 rfl) ?_
  refine jrVi (rest := []) ⟨hx, hb, hml, hown, hts⟩ (c_XM_isTold l dC dI cA cZ ma a0 a1 a2 a3 a4 a5 a6 a7 a8 a9 a10 a11 mth mn mp mw mu md mo y1 z1 (by first | assumption | omega) (by first | assumption | omega)) (cwV 1 hts (jG_V tw_768 tw_770 ts_29 tw_6 tw_771) rfl rfl rfl (by decide +kernel) (by rw [hR]; exact ⟨Nat.le_of_ble_eq_true rfl, Nat.le_of_ble_eq_true rfl⟩)) hK hP hN [0, 1] rfl 0 5 rfl rfl rfl rfl hl.1 rfl (Nat.le_of_ble_eq_true rfl) dXM_equivalent_2 (by rw [hR]; exact ⟨Nat.le_of_ble_eq_true rfl, Nat.le_of_ble_eq_true rfl⟩) ?_
  have f5 := f_XM_isTold_b mth mn mp mw mu md mo y1 z1 (by first | assumption | omega) (by first | assumption | omega)
  refine ji_if_eq (tgt := 38) hx hb dXM_equivalent_5 (by decide) (by first | omega | decide) (fun c5_ => ?_) (fun c5_ => ?_)
  · refine ji_iconst hx hb dXM_equivalent_38 ?_
    exact join39 0 (by first | assumption | omega | exact jset_b (by assumption) (by omega)) _ _ hP hD hS ls (lv_sub hl [0, 1, 2, 3, 4] rfl)
  · refine lv_iload_n hx hb dXM_equivalent_8 rfl (lv_at hl 2 rfl) ?_
    refine jrSi (rest := []) ⟨hx, hb, hml, hown, hts⟩ (c_XM_isKind l dC dI cA cZ z2 (by first | assumption | omega)) (cwS 1 hts (jG_S tw_795 tw_796 tw_6 tw_797) rfl rfl rfl (by decide +kernel) (by rw [hR]; exact ⟨Nat.le_of_ble_eq_true rfl, Nat.le_of_ble_eq_true rfl⟩)) hK hP hN [] rfl rfl hl.1 rfl (Nat.le_of_ble_eq_true rfl) dXM_equivalent_9 (by rw [hR]; exact ⟨Nat.le_of_ble_eq_true rfl, Nat.le_of_ble_eq_true rfl⟩) ?_
    have f6 := f_XM_isKind_b z2 (by first | assumption | omega)
    refine ji_if_eq (tgt := 38) hx hb dXM_equivalent_12 (by decide) (by first | omega | decide) (fun c12_ => ?_) (fun c12_ => ?_)
    · refine ji_iconst hx hb dXM_equivalent_38 ?_
      exact join39 0 (by first | assumption | omega | exact jset_b (by assumption) (by omega)) _ _ hP hD hS ls (lv_sub hl [0, 1, 2, 3, 4] rfl)
    · refine lv_iload_n hx hb dXM_equivalent_15 rfl (lv_at hl 3 rfl) ?_
      refine ji_iconst hx hb dXM_equivalent_16 ?_
      refine ji_iconst hx hb dXM_equivalent_17 ?_
      refine jrSi (rest := []) ⟨hx, hb, hml, hown, hts⟩ (c_XM_in l dC dI cA cZ z3 0 1 (by first | assumption | omega) (by first | assumption | omega) (by first | assumption | omega)) (cwS 3 hts (jG_S tw_695 tw_696 tw_6 tw_697) rfl rfl rfl (by decide +kernel) (by rw [hR]; exact ⟨Nat.le_of_ble_eq_true rfl, Nat.le_of_ble_eq_true rfl⟩)) hK hP hN [] rfl rfl hl.1 rfl (Nat.le_of_ble_eq_true rfl) dXM_equivalent_18 (by rw [hR]; exact ⟨Nat.le_of_ble_eq_true rfl, Nat.le_of_ble_eq_true rfl⟩) ?_
      have f7 := f_XM_in_b z3 0 1 (by first | assumption | omega) (by first | assumption | omega) (by first | assumption | omega)
      refine ji_if_eq (tgt := 38) hx hb dXM_equivalent_21 (by decide) (by first | omega | decide) (fun c21_ => ?_) (fun c21_ => ?_)
      · refine ji_iconst hx hb dXM_equivalent_38 ?_
        exact join39 0 (by first | assumption | omega | exact jset_b (by assumption) (by omega)) _ _ hP hD hS ls (lv_sub hl [0, 1, 2, 3, 4] rfl)
      · refine lv_iload hx hb dXM_equivalent_24 (lv_at hl 4 rfl) ?_
        refine ji_iconst hx hb dXM_equivalent_26 ?_
        refine ji_iconst hx hb dXM_equivalent_27 ?_
        refine jrSi (rest := []) ⟨hx, hb, hml, hown, hts⟩ (c_XM_in l dC dI cA cZ z4 0 1 (by first | assumption | omega) (by first | assumption | omega) (by first | assumption | omega)) (cwS 3 hts (jG_S tw_695 tw_696 tw_6 tw_697) rfl rfl rfl (by decide +kernel) (by rw [hR]; exact ⟨Nat.le_of_ble_eq_true rfl, Nat.le_of_ble_eq_true rfl⟩)) hK hP hN [] rfl rfl hl.1 rfl (Nat.le_of_ble_eq_true rfl) dXM_equivalent_28 (by rw [hR]; exact ⟨Nat.le_of_ble_eq_true rfl, Nat.le_of_ble_eq_true rfl⟩) ?_
        have f8 := f_XM_in_b z4 0 1 (by first | assumption | omega) (by first | assumption | omega) (by first | assumption | omega)
        refine ji_if_eq (tgt := 38) hx hb dXM_equivalent_31 (by decide) (by first | omega | decide) (fun c31_ => ?_) (fun c31_ => ?_)
        · refine ji_iconst hx hb dXM_equivalent_38 ?_
          exact join39 0 (by first | assumption | omega | exact jset_b (by assumption) (by omega)) _ _ hP hD hS ls (lv_sub hl [0, 1, 2, 3, 4] rfl)
        · refine ji_iconst hx hb dXM_equivalent_34 ?_
          refine lv_goto (tgt := 39) hx hb dXM_equivalent_35 (by decide) ?_
          exact join39 1 (by first | assumption | omega | exact jset_b (by assumption) (by omega)) _ _ hP hD hS ls (lv_sub hl [0, 1, 2, 3, 4] rfl)
set_option maxHeartbeats 4000000 in
set_option maxRecDepth 100000 in
theorem c_XM_value (l : Launch) (dC : Nat → ClassId) (dI : Nat → Nat → Nat) (cA cZ : ClassId) (sz : Nat) (ma : Nat) (a0 : Nat) (a1 : Nat) (a2 : Nat) (a3 : Nat) (a4 : Nat) (a5 : Nat) (a6 : Nat) (a7 : Nat) (a8 : Nat) (a9 : Nat) (a10 : Nat) (a11 : Nat) (mth : Int) (mn : Int) (mp : Int) (mw : Int) (mu : Int) (md : Int) (mo : Int) (y1 : Int → Int) (y2 : Int → Int) (y3 : Int → Int) (y4 : Int → Int) (y5 : Int → Int) (y8 : Int → Int) (y9 : Int → Int) (y10 : Int → Int) (z1 : Int) (z2 : Int) (hy1 : ∀ i, 0 ≤ y1 i ∧ y1 i ≤ 1) (hy2 : ∀ i, 0 ≤ y2 i ∧ y2 i ≤ 30) (hy3 : ∀ i, 0 ≤ y3 i ∧ y3 i ≤ 1) (hy4 : ∀ i, 0 ≤ y4 i ∧ y4 i ≤ 100000) (hy5 : ∀ i, 0 ≤ y5 i ∧ y5 i ≤ 100000) (hy8 : ∀ i, 0 ≤ y8 i ∧ y8 i ≤ 1) (hy9 : ∀ i, 0 ≤ y9 i ∧ y9 i ≤ 20) (hy10 : ∀ i, 0 ≤ y10 i ∧ y10 i ≤ 100000) (hiz1 : i32 z1) (hiz2 : i32 z2) : Met l yXM_value (Cond.code yXM_value cXM_value 4 (some .long) :: TBL) ({ frames := 6, cells := 0, slots := 0, locals := 134 } : Room) (va_Pc [.ref ma, .int (jI z1), .int (jI z2)] (jBw (dC, dI) [(cA, .int), (cZ, .boolean)] [(ma, .inr (5, [.int (jI mth), .int (jI mn), .ref a0, .int (jI mp), .int (jI mw), .ref a1, .ref a2, .ref a3, .ref a4, .ref a5, .ref a6, .ref a7, .ref a8, .ref a9, .ref a10, .long (jL mu), .long (jL md), .int (jI mo), .ref a11])), (a1, .inl (cZ, 62, .inl (jA y1))), (a2, .inl (cA, 62, .inl (jA y2))), (a3, .inl (cZ, 496, .inl (jA y3))), (a4, .inl (cA, 496, .inl (jA y4))), (a5, .inl (cA, 496, .inl (jA y5))), (a8, .inl (cZ, 8, .inl (jA y8))), (a9, .inl (cA, 64, .inl (jA y9))), (a10, .inl (cA, 8, .inl (jA y10)))] sz)) (va_Ql (fun (r : Int64) (u : Int × Int × Int × Int) => r = jL u.1 ∧ (0 ≤ u.2.1 ∧ u.2.1 ≤ 2)) (fun u t => jE (dC, dI) [(cA, .int), (cZ, .boolean)] [(ma, .inr (5, [.int (jI mth), .int (jI mn), .ref a0, .int (jI mp), .int (jI mw), .ref a1, .ref a2, .ref a3, .ref a4, .ref a5, .ref a6, .ref a7, .ref a8, .ref a9, .ref a10, .long (jL mu), .long (jL md), .int (jI mo), .ref a11])), (a1, .inl (cZ, 62, .inl (jA y1))), (a2, .inl (cA, 62, .inl (jA y2))), (a3, .inl (cZ, 496, .inl (jA y3))), (a4, .inl (cA, 496, .inl (jA y4))), (a5, .inl (cA, 496, .inl (jA y5))), (a8, .inl (cZ, 8, .inl (jA y8))), (a9, .inl (cA, 64, .inl (jA y9))), (a10, .inl (cA, 8, .inl (jA y10)))] sz [(ma, .inr (5, [.int (jI u.2.1), .int (jI mn), .ref a0, .int (jI mp), .int (jI mw), .ref a1, .ref a2, .ref a3, .ref a4, .ref a5, .ref a6, .ref a7, .ref a8, .ref a9, .ref a10, .long (jL u.2.2.1), .long (jL u.2.2.2), .int (jI mo), .ref a11])), (a1, .inl (cZ, 62, .inl (jA y1))), (a2, .inl (cA, 62, .inl (jA y2))), (a3, .inl (cZ, 496, .inl (jA y3))), (a4, .inl (cA, 496, .inl (jA y4))), (a5, .inl (cA, 496, .inl (jA y5))), (a8, .inl (cZ, 8, .inl (jA y8))), (a9, .inl (cA, 64, .inl (jA y9))), (a10, .inl (cA, 8, .inl (jA y10)))] t) (va_A [(ma, .inr (5, [.int (jI mth), .int (jI mn), .ref a0, .int (jI mp), .int (jI mw), .ref a1, .ref a2, .ref a3, .ref a4, .ref a5, .ref a6, .ref a7, .ref a8, .ref a9, .ref a10, .long (jL mu), .long (jL md), .int (jI mo), .ref a11])), (a1, .inl (cZ, 62, .inl (jA y1))), (a2, .inl (cA, 62, .inl (jA y2))), (a3, .inl (cZ, 496, .inl (jA y3))), (a4, .inl (cA, 496, .inl (jA y4))), (a5, .inl (cA, 496, .inl (jA y5))), (a8, .inl (cZ, 8, .inl (jA y8))), (a9, .inl (cA, 64, .inl (jA y9))), (a10, .inl (cA, 8, .inl (jA y10)))] sz)) 0 0 (va_A [(ma, .inr (5, [.int (jI mth), .int (jI mn), .ref a0, .int (jI mp), .int (jI mw), .ref a1, .ref a2, .ref a3, .ref a4, .ref a5, .ref a6, .ref a7, .ref a8, .ref a9, .ref a10, .long (jL mu), .long (jL md), .int (jI mo), .ref a11])), (a1, .inl (cZ, 62, .inl (jA y1))), (a2, .inl (cA, 62, .inl (jA y2))), (a3, .inl (cZ, 496, .inl (jA y3))), (a4, .inl (cA, 496, .inl (jA y4))), (a5, .inl (cA, 496, .inl (jA y5))), (a8, .inl (cZ, 8, .inl (jA y8))), (a9, .inl (cA, 64, .inl (jA y9))), (a10, .inl (cA, 8, .inl (jA y10)))] sz) := by
  refine jMet (cc := cXM_value) (maxL := 4) (ret := some .long) (by decide) rfl ?_
  intro p e s m args below meth c s₁ R Q hR hQ B hml hv
  obtain ⟨rfl, hsz, hP, hK, hD0, hN⟩ := hv
  have hx := B.exec
  have hb := B.bytes
  have hr := B.returns
  have hts := atoms_spec (ws := Cond.code yXM_value cXM_value 4 (some .long) :: TBL) B.pre
  have hown : s.vm.findClass RXM = some m.cls := findClass_of_methodNamed B.named
  have hlocks := B.notSynchronized
  subst hsz
  obtain ⟨A, hAe⟩ : ∃ A, A = va_A [(ma, .inr (5, [.int (jI mth), .int (jI mn), .ref a0, .int (jI mp), .int (jI mw), .ref a1, .ref a2, .ref a3, .ref a4, .ref a5, .ref a6, .ref a7, .ref a8, .ref a9, .ref a10, .long (jL mu), .long (jL md), .int (jI mo), .ref a11])), (a1, .inl (cZ, 62, .inl (jA y1))), (a2, .inl (cA, 62, .inl (jA y2))), (a3, .inl (cZ, 496, .inl (jA y3))), (a4, .inl (cA, 496, .inl (jA y4))), (a5, .inl (cA, 496, .inl (jA y5))), (a8, .inl (cZ, 8, .inl (jA y8))), (a9, .inl (cA, 64, .inl (jA y9))), (a10, .inl (cA, 8, .inl (jA y10)))] s.heap.size := ⟨_, rfl⟩
  have hD : va_D A [(ma, .inr (5, [.int (jI mth), .int (jI mn), .ref a0, .int (jI mp), .int (jI mw), .ref a1, .ref a2, .ref a3, .ref a4, .ref a5, .ref a6, .ref a7, .ref a8, .ref a9, .ref a10, .long (jL mu), .long (jL md), .int (jI mo), .ref a11])), (a1, .inl (cZ, 62, .inl (jA y1))), (a2, .inl (cA, 62, .inl (jA y2))), (a3, .inl (cZ, 496, .inl (jA y3))), (a4, .inl (cA, 496, .inl (jA y4))), (a5, .inl (cA, 496, .inl (jA y5))), (a8, .inl (cZ, 8, .inl (jA y8))), (a9, .inl (cA, 64, .inl (jA y9))), (a10, .inl (cA, 8, .inl (jA y10)))] := by rw [hAe]; exact hD0.self
  have hA : ∀ q : Nat, s.heap.size ≤ q → A q := fun q h => by rw [hAe]; exact Or.inr h
  have hS : va_S A s.heap s.heap [] := va_S.rf
  have hP : va_P (dC, dI) vwCl [(ma, .inr (5, [.int (jI mth), .int (jI mn), .ref a0, .int (jI mp), .int (jI mw), .ref a1, .ref a2, .ref a3, .ref a4, .ref a5, .ref a6, .ref a7, .ref a8, .ref a9, .ref a10, .long (jL mu), .long (jL md), .int (jI mo), .ref a11])), (a1, .inl (cZ, 62, .inl (jA y1))), (a2, .inl (cA, 62, .inl (jA y2))), (a3, .inl (cZ, 496, .inl (jA y3))), (a4, .inl (cA, 496, .inl (jA y4))), (a5, .inl (cA, 496, .inl (jA y5))), (a8, .inl (cZ, 8, .inl (jA y8))), (a9, .inl (cA, 64, .inl (jA y9))), (a10, .inl (cA, 8, .inl (jA y10)))] s.heap := hP
  have hl := lv_entry ([.ref ma, .int (jI z1), .int (jI z2)]) (n := 4) (Nat.le_of_ble_eq_true rfl)
  rw [lg_entry_eq]
  generalize (lg_sl ([.ref ma, .int (jI z1), .int (jI z2)]) ++ List.replicate (4 - (lg_sl ([.ref ma, .int (jI z1), .int (jI z2)])).length) Slot.unset).toArray = ls at hl ⊢
  have hl : lv_has ls 4 [(0, .ref ma), (1, .int (jI z1)), (2, .int (jI z2))] := hl
  have join21 : ∀ (jc : Int) , ((jc = 0) ∨ (jc = 1 ∧ 0 ≤ z1 ∧ z1 ≤ 3 ∧ 0 ≤ z2 ∧ z2 ≤ 1)) → ∀ (H : Heap) (locs : List Loc), va_P (dC, dI) vwCl [(ma, .inr (5, [.int (jI mth), .int (jI mn), .ref a0, .int (jI mp), .int (jI mw), .ref a1, .ref a2, .ref a3, .ref a4, .ref a5, .ref a6, .ref a7, .ref a8, .ref a9, .ref a10, .long (jL mu), .long (jL md), .int (jI mo), .ref a11])), (a1, .inl (cZ, 62, .inl (jA y1))), (a2, .inl (cA, 62, .inl (jA y2))), (a3, .inl (cZ, 496, .inl (jA y3))), (a4, .inl (cA, 496, .inl (jA y4))), (a5, .inl (cA, 496, .inl (jA y5))), (a8, .inl (cZ, 8, .inl (jA y8))), (a9, .inl (cA, 64, .inl (jA y9))), (a10, .inl (cA, 8, .inl (jA y10)))] H → va_D A [(ma, .inr (5, [.int (jI mth), .int (jI mn), .ref a0, .int (jI mp), .int (jI mw), .ref a1, .ref a2, .ref a3, .ref a4, .ref a5, .ref a6, .ref a7, .ref a8, .ref a9, .ref a10, .long (jL mu), .long (jL md), .int (jI mo), .ref a11])), (a1, .inl (cZ, 62, .inl (jA y1))), (a2, .inl (cA, 62, .inl (jA y2))), (a3, .inl (cZ, 496, .inl (jA y3))), (a4, .inl (cA, 496, .inl (jA y4))), (a5, .inl (cA, 496, .inl (jA y5))), (a8, .inl (cZ, 8, .inl (jA y8))), (a9, .inl (cA, 64, .inl (jA y9))), (a10, .inl (cA, 8, .inl (jA y10)))] → va_S A s.heap H locs → ∀ ls : Array Slot, lv_has ls 4 [(0, .ref ma), (1, .int (jI z1)), (2, .int (jI z2))] → W p l e R s m ([.ref ma, .int (jI z1), .int (jI z2)] : List Value).toArray below meth c H locs 0 0 Q (F0 m 21 ls [.int (jI jc)]) := by
    intro jc hjc H locs hP hD hS ls hl
    refine lv_istore_n (lv' := [(3, .int (jI jc)), (0, .ref ma), (1, .int (jI z1)), (2, .int (jI z2))]) hx hb dXM_value_21 rfl hl (by decide) rfl (fun ls hl => ?_)
    refine lv_aload_n hx hb dXM_value_22 rfl (lv_at hl 1 rfl) ?_
    refine lv_iload_n hx hb dXM_value_23 rfl (lv_at hl 0 rfl) ?_
    have join42 : ∀ (jd : Int) , ((jd = 0) ∨ (jd = 1 ∧ jc = 1)) → ∀ (H : Heap) (locs : List Loc), va_P (dC, dI) vwCl [(ma, .inr (5, [.int (jI mth), .int (jI mn), .ref a0, .int (jI mp), .int (jI mw), .ref a1, .ref a2, .ref a3, .ref a4, .ref a5, .ref a6, .ref a7, .ref a8, .ref a9, .ref a10, .long (jL mu), .long (jL md), .int (jI mo), .ref a11])), (a1, .inl (cZ, 62, .inl (jA y1))), (a2, .inl (cA, 62, .inl (jA y2))), (a3, .inl (cZ, 496, .inl (jA y3))), (a4, .inl (cA, 496, .inl (jA y4))), (a5, .inl (cA, 496, .inl (jA y5))), (a8, .inl (cZ, 8, .inl (jA y8))), (a9, .inl (cA, 64, .inl (jA y9))), (a10, .inl (cA, 8, .inl (jA y10)))] H → va_D A [(ma, .inr (5, [.int (jI mth), .int (jI mn), .ref a0, .int (jI mp), .int (jI mw), .ref a1, .ref a2, .ref a3, .ref a4, .ref a5, .ref a6, .ref a7, .ref a8, .ref a9, .ref a10, .long (jL mu), .long (jL md), .int (jI mo), .ref a11])), (a1, .inl (cZ, 62, .inl (jA y1))), (a2, .inl (cA, 62, .inl (jA y2))), (a3, .inl (cZ, 496, .inl (jA y3))), (a4, .inl (cA, 496, .inl (jA y4))), (a5, .inl (cA, 496, .inl (jA y5))), (a8, .inl (cZ, 8, .inl (jA y8))), (a9, .inl (cA, 64, .inl (jA y9))), (a10, .inl (cA, 8, .inl (jA y10)))] → va_S A s.heap H locs → ∀ ls : Array Slot, lv_has ls 4 [(3, .int (jI jc)), (0, .ref ma), (1, .int (jI z1)), (2, .int (jI z2))] → W p l e R s m ([.ref ma, .int (jI z1), .int (jI z2)] : List Value).toArray below meth c H locs 0 0 Q (F0 m 42 ls [.int (jI jd), .int (jI jc), .ref ma]) := by
      intro jd hjd H locs hP hD hS ls hl
      refine jwVi (rest := []) (wr := [(a1, .inl (cZ, 62, .inl (jA y1))), (a2, .inl (cA, 62, .inl (jA y2))), (a3, .inl (cZ, 496, .inl (jA y3))), (a4, .inl (cA, 496, .inl (jA y4))), (a5, .inl (cA, 496, .inl (jA y5))), (a8, .inl (cZ, 8, .inl (jA y8))), (a9, .inl (cA, 64, .inl (jA y9))), (a10, .inl (cA, 8, .inl (jA y10)))]) ⟨hx, hb, hml, hown, hts⟩ (c_XM_goes l dC dI cA cZ _ ma a0 a1 a2 a3 a4 a5 a6 a7 a8 a9 a10 a11 mth mn mp mw mu md mo jc jd (by first | assumption | omega | exact jset_b (by assumption) (by omega)) (by first | assumption | omega | exact jset_b (by assumption) (by omega))) (cwV 2 hts (jG_V tw_698 tw_700 ts_14 tw_6 tw_701) rfl rfl rfl (by decide +kernel) (by rw [hR]; exact ⟨Nat.le_of_ble_eq_true rfl, Nat.le_of_ble_eq_true rfl⟩)) hK hP hD hS hA hN [0] [1, 2, 3, 4, 5, 6, 7, 8] rfl rfl (by decide) (by decide) (by decide) 0 5 rfl rfl rfl rfl hl.1 rfl (Nat.le_of_ble_eq_true rfl) dXM_value_42 (by rw [hR]; exact ⟨Nat.le_of_ble_eq_true rfl, Nat.le_of_ble_eq_true rfl⟩) (fun v u H locs hwb hP hD hS => ?_)
      obtain ⟨r, mth1'⟩ := u
      try dsimp only at hwb
      obtain ⟨er, f⟩ := hwb
      subst er
      have f : (r = 0 ∧ mth1' = 1 ∧ jc = 0) ∨ (r = 0 ∧ mth1' = 2 ∧ jc = 1 ∧ jd = 0) ∨ (r = 1 ∧ mth1' = 0 ∧ jc = 1 ∧ jd = 1) := f
      have hP : va_P (dC, dI) vwCl [(a1, .inl (cZ, 62, .inl (jA y1))), (a2, .inl (cA, 62, .inl (jA y2))), (a3, .inl (cZ, 496, .inl (jA y3))), (a4, .inl (cA, 496, .inl (jA y4))), (a5, .inl (cA, 496, .inl (jA y5))), (a8, .inl (cZ, 8, .inl (jA y8))), (a9, .inl (cA, 64, .inl (jA y9))), (a10, .inl (cA, 8, .inl (jA y10))), (ma, .inr (5, [.int (jI mth1'), .int (jI mn), .ref a0, .int (jI mp), .int (jI mw), .ref a1, .ref a2, .ref a3, .ref a4, .ref a5, .ref a6, .ref a7, .ref a8, .ref a9, .ref a10, .long (jL mu), .long (jL md), .int (jI mo), .ref a11]))] H := hP
      have hD : va_D A [(a1, .inl (cZ, 62, .inl (jA y1))), (a2, .inl (cA, 62, .inl (jA y2))), (a3, .inl (cZ, 496, .inl (jA y3))), (a4, .inl (cA, 496, .inl (jA y4))), (a5, .inl (cA, 496, .inl (jA y5))), (a8, .inl (cZ, 8, .inl (jA y8))), (a9, .inl (cA, 64, .inl (jA y9))), (a10, .inl (cA, 8, .inl (jA y10))), (ma, .inr (5, [.int (jI mth1'), .int (jI mn), .ref a0, .int (jI mp), .int (jI mw), .ref a1, .ref a2, .ref a3, .ref a4, .ref a5, .ref a6, .ref a7, .ref a8, .ref a9, .ref a10, .long (jL mu), .long (jL md), .int (jI mo), .ref a11]))] := hD
      refine ji_if_ne (tgt := 50) hx hb dXM_value_45 (by decide) (by first | omega | decide) (fun c45_ => ?_) (fun c45_ => ?_)
      · refine lv_aload_n hx hb dXM_value_50 rfl (lv_at hl 1 rfl) ?_
        refine ji_iconst hx hb dXM_value_51 ?_
        refine lv_iload_n hx hb dXM_value_52 rfl (lv_at hl 2 rfl) ?_
        refine ji_iconst hx hb dXM_value_53 ?_
        refine jwVv (rest := []) (wr := [(a8, .inl (cZ, 8, .inl (jA y8)))]) ⟨hx, hb, hml, hown, hts⟩ (c_XM_reckon l dC dI cA cZ _ ma a0 a1 a2 a3 a4 a5 a6 a7 a8 a9 a10 a11 mth1' mn mp mw mu md mo y1 y2 y3 y4 y5 y9 y10 0 z1 2 (by first | assumption | omega | exact jset_b (by assumption) (by omega)) (by first | assumption | omega | exact jset_b (by assumption) (by omega)) (by first | assumption | omega | exact jset_b (by assumption) (by omega)) (by first | assumption | omega | exact jset_b (by assumption) (by omega)) (by first | assumption | omega | exact jset_b (by assumption) (by omega)) (by first | assumption | omega | exact jset_b (by assumption) (by omega)) (by first | assumption | omega | exact jset_b (by assumption) (by omega)) (by first | assumption | omega | exact jset_b (by assumption) (by omega)) (by first | assumption | omega | exact jset_b (by assumption) (by omega))) (cwV 3 hts (jG_V tw_806 tw_808 ts_35 tw_6 tw_809) rfl rfl rfl (by decide +kernel) (by rw [hR]; exact ⟨Nat.le_of_ble_eq_true rfl, Nat.le_of_ble_eq_true rfl⟩)) hK hP hD hS hA hN [8, 0, 1, 2, 3, 4, 6, 7] [5] rfl rfl (by decide) (by decide) (by decide) 8 5 rfl rfl rfl rfl hl.1 rfl (Nat.le_of_ble_eq_true rfl) dXM_value_54 (by rw [hR]; exact ⟨Nat.le_of_ble_eq_true rfl, Nat.le_of_ble_eq_true rfl⟩) (fun u1 H locs hwb2 hP hD hS => ?_)
        obtain ⟨mu1', md1'⟩ := u1
        try dsimp only at hwb2
        obtain ⟨f3, f4⟩ := hwb2
        have f3 : 0 ≤ mu1' ∧ mu1' ≤ 1024000000000000 := f3
        have f4 : 1 ≤ md1' ∧ md1' ≤ 25600000000 := f4
        have hP : va_P (dC, dI) vwCl [(a8, .inl (cZ, 8, .inl (jA y8))), (ma, .inr (5, [.int (jI mth1'), .int (jI mn), .ref a0, .int (jI mp), .int (jI mw), .ref a1, .ref a2, .ref a3, .ref a4, .ref a5, .ref a6, .ref a7, .ref a8, .ref a9, .ref a10, .long (jL mu1'), .long (jL md1'), .int (jI mo), .ref a11])), (a1, .inl (cZ, 62, .inl (jA y1))), (a2, .inl (cA, 62, .inl (jA y2))), (a3, .inl (cZ, 496, .inl (jA y3))), (a4, .inl (cA, 496, .inl (jA y4))), (a5, .inl (cA, 496, .inl (jA y5))), (a9, .inl (cA, 64, .inl (jA y9))), (a10, .inl (cA, 8, .inl (jA y10)))] H := hP
        have hD : va_D A [(a8, .inl (cZ, 8, .inl (jA y8))), (ma, .inr (5, [.int (jI mth1'), .int (jI mn), .ref a0, .int (jI mp), .int (jI mw), .ref a1, .ref a2, .ref a3, .ref a4, .ref a5, .ref a6, .ref a7, .ref a8, .ref a9, .ref a10, .long (jL mu1'), .long (jL md1'), .int (jI mo), .ref a11])), (a1, .inl (cZ, 62, .inl (jA y1))), (a2, .inl (cA, 62, .inl (jA y2))), (a3, .inl (cZ, 496, .inl (jA y3))), (a4, .inl (cA, 496, .inl (jA y4))), (a5, .inl (cA, 496, .inl (jA y5))), (a9, .inl (cA, 64, .inl (jA y9))), (a10, .inl (cA, 8, .inl (jA y10)))] := hD
        refine lv_iload_n hx hb dXM_value_57 rfl (lv_at hl 3 rfl) ?_
        refine ji_if_ne (tgt := 68) hx hb dXM_value_58 (by decide) (by first | omega | decide) (fun c58_ => ?_) (fun c58_ => ?_)
        · refine lv_aload_n hx hb dXM_value_68 rfl (lv_at hl 1 rfl) ?_
          refine va_get (D := (dC, dI)) (ci := 5) (v := .long (jL md1')) (C := RXM) (T := TXM) (N := 19) hx hb hts (fun w h => jmem (inXM w h)) hown hK hP 1 rfl rfl 16 (by decide) (hts _ (jmem tw_644)) (fun _ h9 => h9) rfl dXM_value_69 ?_
          have hP9 := hP.sub (ws' := [(ma, .inr (5, [.int (jI mth1'), .int (jI mn), .ref a0, .int (jI mp), .int (jI mw), .ref a1, .ref a2, .ref a3, .ref a4, .ref a5, .ref a6, .ref a7, .ref a8, .ref a9, .ref a10, .long (jL mu1'), .long (jL md1'), .int (jI mo), .ref a11])), (a1, .inl (cZ, 62, .inl (jA y1))), (a2, .inl (cA, 62, .inl (jA y2))), (a3, .inl (cZ, 496, .inl (jA y3))), (a4, .inl (cA, 496, .inl (jA y4))), (a5, .inl (cA, 496, .inl (jA y5))), (a8, .inl (cZ, 8, .inl (jA y8))), (a9, .inl (cA, 64, .inl (jA y9))), (a10, .inl (cA, 8, .inl (jA y10)))]) [1, 2, 3, 4, 5, 6, 0, 7, 8] rfl
          have hD9 := hD.sub (ws' := [(ma, .inr (5, [.int (jI mth1'), .int (jI mn), .ref a0, .int (jI mp), .int (jI mw), .ref a1, .ref a2, .ref a3, .ref a4, .ref a5, .ref a6, .ref a7, .ref a8, .ref a9, .ref a10, .long (jL mu1'), .long (jL md1'), .int (jI mo), .ref a11])), (a1, .inl (cZ, 62, .inl (jA y1))), (a2, .inl (cA, 62, .inl (jA y2))), (a3, .inl (cZ, 496, .inl (jA y3))), (a4, .inl (cA, 496, .inl (jA y4))), (a5, .inl (cA, 496, .inl (jA y5))), (a8, .inl (cZ, 8, .inl (jA y8))), (a9, .inl (cA, 64, .inl (jA y9))), (a10, .inl (cA, 8, .inl (jA y10)))]) [1, 2, 3, 4, 5, 6, 0, 7, 8] (by decide) rfl
          subst hAe
          subst hQ
          exact W.lret (v := jL md1') hx hb hr (fun t ht hW => ⟨⟨_, (md1', mth1', mu1', md1'), rfl, ⟨rfl, (show 0 ≤ mth1' ∧ mth1' ≤ 2 from by first | assumption | omega | exact jset_b (by assumption) (by omega))⟩, ⟨by rw [ht]; exact hP9, va_K.moved hW.alike hK, hD9⟩⟩, hS.F ht⟩) hS.2.2 dXM_value_72
        · refine lv_aload_n hx hb dXM_value_61 rfl (lv_at hl 1 rfl) ?_
          refine va_get (D := (dC, dI)) (ci := 5) (v := .long (jL mu1')) (C := RXM) (T := TXM) (N := 19) hx hb hts (fun w h => jmem (inXM w h)) hown hK hP 1 rfl rfl 15 (by decide) (hts _ (jmem tw_643)) (fun _ h9 => h9) rfl dXM_value_62 ?_
          refine lv_goto (tgt := 72) hx hb dXM_value_65 (by decide) ?_
          have hP9 := hP.sub (ws' := [(ma, .inr (5, [.int (jI mth1'), .int (jI mn), .ref a0, .int (jI mp), .int (jI mw), .ref a1, .ref a2, .ref a3, .ref a4, .ref a5, .ref a6, .ref a7, .ref a8, .ref a9, .ref a10, .long (jL mu1'), .long (jL md1'), .int (jI mo), .ref a11])), (a1, .inl (cZ, 62, .inl (jA y1))), (a2, .inl (cA, 62, .inl (jA y2))), (a3, .inl (cZ, 496, .inl (jA y3))), (a4, .inl (cA, 496, .inl (jA y4))), (a5, .inl (cA, 496, .inl (jA y5))), (a8, .inl (cZ, 8, .inl (jA y8))), (a9, .inl (cA, 64, .inl (jA y9))), (a10, .inl (cA, 8, .inl (jA y10)))]) [1, 2, 3, 4, 5, 6, 0, 7, 8] rfl
          have hD9 := hD.sub (ws' := [(ma, .inr (5, [.int (jI mth1'), .int (jI mn), .ref a0, .int (jI mp), .int (jI mw), .ref a1, .ref a2, .ref a3, .ref a4, .ref a5, .ref a6, .ref a7, .ref a8, .ref a9, .ref a10, .long (jL mu1'), .long (jL md1'), .int (jI mo), .ref a11])), (a1, .inl (cZ, 62, .inl (jA y1))), (a2, .inl (cA, 62, .inl (jA y2))), (a3, .inl (cZ, 496, .inl (jA y3))), (a4, .inl (cA, 496, .inl (jA y4))), (a5, .inl (cA, 496, .inl (jA y5))), (a8, .inl (cZ, 8, .inl (jA y8))), (a9, .inl (cA, 64, .inl (jA y9))), (a10, .inl (cA, 8, .inl (jA y10)))]) [1, 2, 3, 4, 5, 6, 0, 7, 8] (by decide) rfl
          subst hAe
          subst hQ
          exact W.lret (v := jL mu1') hx hb hr (fun t ht hW => ⟨⟨_, (mu1', mth1', mu1', md1'), rfl, ⟨rfl, (show 0 ≤ mth1' ∧ mth1' ≤ 2 from by first | assumption | omega | exact jset_b (by assumption) (by omega))⟩, ⟨by rw [ht]; exact hP9, va_K.moved hW.alike hK, hD9⟩⟩, hS.F ht⟩) hS.2.2 dXM_value_72
      · refine ji_lconst (z := 0) hx hb dXM_value_48 rfl ?_
        have hP9 := hP.sub (ws' := [(ma, .inr (5, [.int (jI mth1'), .int (jI mn), .ref a0, .int (jI mp), .int (jI mw), .ref a1, .ref a2, .ref a3, .ref a4, .ref a5, .ref a6, .ref a7, .ref a8, .ref a9, .ref a10, .long (jL mu), .long (jL md), .int (jI mo), .ref a11])), (a1, .inl (cZ, 62, .inl (jA y1))), (a2, .inl (cA, 62, .inl (jA y2))), (a3, .inl (cZ, 496, .inl (jA y3))), (a4, .inl (cA, 496, .inl (jA y4))), (a5, .inl (cA, 496, .inl (jA y5))), (a8, .inl (cZ, 8, .inl (jA y8))), (a9, .inl (cA, 64, .inl (jA y9))), (a10, .inl (cA, 8, .inl (jA y10)))]) [8, 0, 1, 2, 3, 4, 5, 6, 7] rfl
        have hD9 := hD.sub (ws' := [(ma, .inr (5, [.int (jI mth1'), .int (jI mn), .ref a0, .int (jI mp), .int (jI mw), .ref a1, .ref a2, .ref a3, .ref a4, .ref a5, .ref a6, .ref a7, .ref a8, .ref a9, .ref a10, .long (jL mu), .long (jL md), .int (jI mo), .ref a11])), (a1, .inl (cZ, 62, .inl (jA y1))), (a2, .inl (cA, 62, .inl (jA y2))), (a3, .inl (cZ, 496, .inl (jA y3))), (a4, .inl (cA, 496, .inl (jA y4))), (a5, .inl (cA, 496, .inl (jA y5))), (a8, .inl (cZ, 8, .inl (jA y8))), (a9, .inl (cA, 64, .inl (jA y9))), (a10, .inl (cA, 8, .inl (jA y10)))]) [8, 0, 1, 2, 3, 4, 5, 6, 7] (by decide) rfl
        subst hAe
        subst hQ
        exact W.lret (v := jL 0) hx hb hr (fun t ht hW => ⟨⟨_, (0, mth1', mu, md), rfl, ⟨rfl, (show 0 ≤ mth1' ∧ mth1' ≤ 2 from by first | assumption | omega | exact jset_b (by assumption) (by omega))⟩, ⟨by rw [ht]; exact hP9, va_K.moved hW.alike hK, hD9⟩⟩, hS.F ht⟩) hS.2.2 dXM_value_49
    refine lv_iload_n hx hb dXM_value_24 rfl (lv_at hl 0 rfl) ?_
    refine ji_if_eq (tgt := 41) hx hb dXM_value_25 (by decide) (by first | omega | decide) (fun c25_ => ?_) (fun c25_ => ?_)
    · refine ji_iconst hx hb dXM_value_41 ?_
      exact join42 0 (by first | assumption | omega | exact jset_b (by assumption) (by omega)) _ _ hP hD hS ls (lv_sub hl [0, 1, 2, 3] rfl)
    · refine lv_aload_n hx hb dXM_value_28 rfl (lv_at hl 1 rfl) ?_
      refine va_get (D := (dC, dI)) (ci := 5) (v := .ref a8) (C := RXM) (T := TXM) (N := 19) hx hb hts (fun w h => jmem (inXM w h)) hown hK hP 0 rfl rfl 12 (by decide) (hts _ (jmem tw_640)) (fun _ h9 => h9) rfl dXM_value_29 ?_
      refine lv_iload_n hx hb dXM_value_32 rfl (lv_at hl 2 rfl) ?_
      refine ji_zald hx hb hK hP 6 1 rfl rfl ⟨by omega, by omega⟩ (by decide) dXM_value_33 ?_
      have rb := hy8 z1
      refine ji_if_eq (tgt := 41) hx hb dXM_value_34 (by decide) (by first | omega | decide) (fun c34_ => ?_) (fun c34_ => ?_)
      · refine ji_iconst hx hb dXM_value_41 ?_
        exact join42 0 (by first | assumption | omega | exact jset_b (by assumption) (by omega)) _ _ hP hD hS ls (lv_sub hl [0, 1, 2, 3] rfl)
      · refine ji_iconst hx hb dXM_value_37 ?_
        refine lv_goto (tgt := 42) hx hb dXM_value_38 (by decide) ?_
        exact join42 1 (by first | assumption | omega | exact jset_b (by assumption) (by omega)) _ _ hP hD hS ls (lv_sub hl [0, 1, 2, 3] rfl)
  refine lv_iload_n hx hb dXM_value_0 rfl (lv_at hl 1 rfl) ?_
  refine jrSi (rest := []) ⟨hx, hb, hml, hown, hts⟩ (c_XM_isKind l dC dI cA cZ z1 (by first | assumption | omega)) (cwS 1 hts (jG_S tw_795 tw_796 tw_6 tw_797) rfl rfl rfl (by decide +kernel) (by rw [hR]; exact ⟨Nat.le_of_ble_eq_true rfl, Nat.le_of_ble_eq_true rfl⟩)) hK hP hN [] rfl rfl hl.1 rfl (Nat.le_of_ble_eq_true rfl) dXM_value_1 (by rw [hR]; exact ⟨Nat.le_of_ble_eq_true rfl, Nat.le_of_ble_eq_true rfl⟩) ?_
  have f5 := f_XM_isKind_b z1 (by first | assumption | omega)
  refine ji_if_eq (tgt := 20) hx hb dXM_value_4 (by decide) (by first | omega | decide) (fun c4_ => ?_) (fun c4_ => ?_)
  · refine ji_iconst hx hb dXM_value_20 ?_
    exact join21 0 (by first | assumption | omega | exact jset_b (by assumption) (by omega)) _ _ hP hD hS ls (lv_sub hl [0, 1, 2] rfl)
  · refine lv_iload_n hx hb dXM_value_7 rfl (lv_at hl 2 rfl) ?_
    refine ji_iconst hx hb dXM_value_8 ?_
    refine ji_iconst hx hb dXM_value_9 ?_
    refine jrSi (rest := []) ⟨hx, hb, hml, hown, hts⟩ (c_XM_in l dC dI cA cZ z2 0 1 (by first | assumption | omega) (by first | assumption | omega) (by first | assumption | omega)) (cwS 3 hts (jG_S tw_695 tw_696 tw_6 tw_697) rfl rfl rfl (by decide +kernel) (by rw [hR]; exact ⟨Nat.le_of_ble_eq_true rfl, Nat.le_of_ble_eq_true rfl⟩)) hK hP hN [] rfl rfl hl.1 rfl (Nat.le_of_ble_eq_true rfl) dXM_value_10 (by rw [hR]; exact ⟨Nat.le_of_ble_eq_true rfl, Nat.le_of_ble_eq_true rfl⟩) ?_
    have f6 := f_XM_in_b z2 0 1 (by first | assumption | omega) (by first | assumption | omega) (by first | assumption | omega)
    refine ji_if_eq (tgt := 20) hx hb dXM_value_13 (by decide) (by first | omega | decide) (fun c13_ => ?_) (fun c13_ => ?_)
    · refine ji_iconst hx hb dXM_value_20 ?_
      exact join21 0 (by first | assumption | omega | exact jset_b (by assumption) (by omega)) _ _ hP hD hS ls (lv_sub hl [0, 1, 2] rfl)
    · refine ji_iconst hx hb dXM_value_16 ?_
      refine lv_goto (tgt := 21) hx hb dXM_value_17 (by decide) ?_
      exact join21 1 (by first | assumption | omega | exact jset_b (by assumption) (by omega)) _ _ hP hD hS ls (lv_sub hl [0, 1, 2] rfl)
set_option maxHeartbeats 4000000 in
set_option maxRecDepth 100000 in
theorem c_XM_fits (l : Launch) (dC : Nat → ClassId) (dI : Nat → Nat → Nat) (cA cZ : ClassId) (sz : Nat) (ma : Nat) (a0 : Nat) (a1 : Nat) (a2 : Nat) (a3 : Nat) (a4 : Nat) (a5 : Nat) (a6 : Nat) (a7 : Nat) (a8 : Nat) (a9 : Nat) (a10 : Nat) (a11 : Nat) (mth : Int) (mn : Int) (mp : Int) (mw : Int) (mu : Int) (md : Int) (mo : Int) (y1 : Int → Int) (y2 : Int → Int) (y3 : Int → Int) (y4 : Int → Int) (y5 : Int → Int) (y7 : Int → Int) (y8 : Int → Int) (y9 : Int → Int) (y10 : Int → Int) (z1 : Int) (hy1 : ∀ i, 0 ≤ y1 i ∧ y1 i ≤ 1) (hy2 : ∀ i, 0 ≤ y2 i ∧ y2 i ≤ 30) (hy3 : ∀ i, 0 ≤ y3 i ∧ y3 i ≤ 1) (hy4 : ∀ i, 0 ≤ y4 i ∧ y4 i ≤ 100000) (hy5 : ∀ i, 0 ≤ y5 i ∧ y5 i ≤ 100000) (hy7 : ∀ i, -1 ≤ y7 i ∧ y7 i ≤ 999999) (hy8 : ∀ i, 0 ≤ y8 i ∧ y8 i ≤ 1) (hy9 : ∀ i, 0 ≤ y9 i ∧ y9 i ≤ 20) (hy10 : ∀ i, 0 ≤ y10 i ∧ y10 i ≤ 100000) (hiz1 : i32 z1) : Met l yXM_fits (Cond.code yXM_fits cXM_fits 3 (some .int) :: TBL) ({ frames := 7, cells := 0, slots := 0, locals := 158 } : Room) (va_Pc [.ref ma, .int (jI z1)] (jBw (dC, dI) [(cA, .int), (cZ, .boolean)] [(ma, .inr (5, [.int (jI mth), .int (jI mn), .ref a0, .int (jI mp), .int (jI mw), .ref a1, .ref a2, .ref a3, .ref a4, .ref a5, .ref a6, .ref a7, .ref a8, .ref a9, .ref a10, .long (jL mu), .long (jL md), .int (jI mo), .ref a11])), (a1, .inl (cZ, 62, .inl (jA y1))), (a2, .inl (cA, 62, .inl (jA y2))), (a3, .inl (cZ, 496, .inl (jA y3))), (a4, .inl (cA, 496, .inl (jA y4))), (a5, .inl (cA, 496, .inl (jA y5))), (a7, .inl (cA, 248, .inl (jA y7))), (a8, .inl (cZ, 8, .inl (jA y8))), (a9, .inl (cA, 64, .inl (jA y9))), (a10, .inl (cA, 8, .inl (jA y10)))] sz)) (va_Qi (fun (r : Int32) (u : Int × Int × Int × Int) => r = jI u.1 ∧ (0 ≤ u.2.1 ∧ u.2.1 ≤ 2)) (fun u t => jE (dC, dI) [(cA, .int), (cZ, .boolean)] [(ma, .inr (5, [.int (jI mth), .int (jI mn), .ref a0, .int (jI mp), .int (jI mw), .ref a1, .ref a2, .ref a3, .ref a4, .ref a5, .ref a6, .ref a7, .ref a8, .ref a9, .ref a10, .long (jL mu), .long (jL md), .int (jI mo), .ref a11])), (a1, .inl (cZ, 62, .inl (jA y1))), (a2, .inl (cA, 62, .inl (jA y2))), (a3, .inl (cZ, 496, .inl (jA y3))), (a4, .inl (cA, 496, .inl (jA y4))), (a5, .inl (cA, 496, .inl (jA y5))), (a7, .inl (cA, 248, .inl (jA y7))), (a8, .inl (cZ, 8, .inl (jA y8))), (a9, .inl (cA, 64, .inl (jA y9))), (a10, .inl (cA, 8, .inl (jA y10)))] sz [(ma, .inr (5, [.int (jI u.2.1), .int (jI mn), .ref a0, .int (jI mp), .int (jI mw), .ref a1, .ref a2, .ref a3, .ref a4, .ref a5, .ref a6, .ref a7, .ref a8, .ref a9, .ref a10, .long (jL u.2.2.1), .long (jL u.2.2.2), .int (jI mo), .ref a11])), (a1, .inl (cZ, 62, .inl (jA y1))), (a2, .inl (cA, 62, .inl (jA y2))), (a3, .inl (cZ, 496, .inl (jA y3))), (a4, .inl (cA, 496, .inl (jA y4))), (a5, .inl (cA, 496, .inl (jA y5))), (a7, .inl (cA, 248, .inl (jA y7))), (a8, .inl (cZ, 8, .inl (jA y8))), (a9, .inl (cA, 64, .inl (jA y9))), (a10, .inl (cA, 8, .inl (jA y10)))] t) (va_A [(ma, .inr (5, [.int (jI mth), .int (jI mn), .ref a0, .int (jI mp), .int (jI mw), .ref a1, .ref a2, .ref a3, .ref a4, .ref a5, .ref a6, .ref a7, .ref a8, .ref a9, .ref a10, .long (jL mu), .long (jL md), .int (jI mo), .ref a11])), (a1, .inl (cZ, 62, .inl (jA y1))), (a2, .inl (cA, 62, .inl (jA y2))), (a3, .inl (cZ, 496, .inl (jA y3))), (a4, .inl (cA, 496, .inl (jA y4))), (a5, .inl (cA, 496, .inl (jA y5))), (a7, .inl (cA, 248, .inl (jA y7))), (a8, .inl (cZ, 8, .inl (jA y8))), (a9, .inl (cA, 64, .inl (jA y9))), (a10, .inl (cA, 8, .inl (jA y10)))] sz)) 0 0 (va_A [(ma, .inr (5, [.int (jI mth), .int (jI mn), .ref a0, .int (jI mp), .int (jI mw), .ref a1, .ref a2, .ref a3, .ref a4, .ref a5, .ref a6, .ref a7, .ref a8, .ref a9, .ref a10, .long (jL mu), .long (jL md), .int (jI mo), .ref a11])), (a1, .inl (cZ, 62, .inl (jA y1))), (a2, .inl (cA, 62, .inl (jA y2))), (a3, .inl (cZ, 496, .inl (jA y3))), (a4, .inl (cA, 496, .inl (jA y4))), (a5, .inl (cA, 496, .inl (jA y5))), (a7, .inl (cA, 248, .inl (jA y7))), (a8, .inl (cZ, 8, .inl (jA y8))), (a9, .inl (cA, 64, .inl (jA y9))), (a10, .inl (cA, 8, .inl (jA y10)))] sz) := by
  refine jMet (cc := cXM_fits) (maxL := 3) (ret := some .int) (by decide) rfl ?_
  intro p e s m args below meth c s₁ R Q hR hQ B hml hv
  obtain ⟨rfl, hsz, hP, hK, hD0, hN⟩ := hv
  have hx := B.exec
  have hb := B.bytes
  have hr := B.returns
  have hts := atoms_spec (ws := Cond.code yXM_fits cXM_fits 3 (some .int) :: TBL) B.pre
  have hown : s.vm.findClass RXM = some m.cls := findClass_of_methodNamed B.named
  have hlocks := B.notSynchronized
  subst hsz
  obtain ⟨A, hAe⟩ : ∃ A, A = va_A [(ma, .inr (5, [.int (jI mth), .int (jI mn), .ref a0, .int (jI mp), .int (jI mw), .ref a1, .ref a2, .ref a3, .ref a4, .ref a5, .ref a6, .ref a7, .ref a8, .ref a9, .ref a10, .long (jL mu), .long (jL md), .int (jI mo), .ref a11])), (a1, .inl (cZ, 62, .inl (jA y1))), (a2, .inl (cA, 62, .inl (jA y2))), (a3, .inl (cZ, 496, .inl (jA y3))), (a4, .inl (cA, 496, .inl (jA y4))), (a5, .inl (cA, 496, .inl (jA y5))), (a7, .inl (cA, 248, .inl (jA y7))), (a8, .inl (cZ, 8, .inl (jA y8))), (a9, .inl (cA, 64, .inl (jA y9))), (a10, .inl (cA, 8, .inl (jA y10)))] s.heap.size := ⟨_, rfl⟩
  have hD : va_D A [(ma, .inr (5, [.int (jI mth), .int (jI mn), .ref a0, .int (jI mp), .int (jI mw), .ref a1, .ref a2, .ref a3, .ref a4, .ref a5, .ref a6, .ref a7, .ref a8, .ref a9, .ref a10, .long (jL mu), .long (jL md), .int (jI mo), .ref a11])), (a1, .inl (cZ, 62, .inl (jA y1))), (a2, .inl (cA, 62, .inl (jA y2))), (a3, .inl (cZ, 496, .inl (jA y3))), (a4, .inl (cA, 496, .inl (jA y4))), (a5, .inl (cA, 496, .inl (jA y5))), (a7, .inl (cA, 248, .inl (jA y7))), (a8, .inl (cZ, 8, .inl (jA y8))), (a9, .inl (cA, 64, .inl (jA y9))), (a10, .inl (cA, 8, .inl (jA y10)))] := by rw [hAe]; exact hD0.self
  have hA : ∀ q : Nat, s.heap.size ≤ q → A q := fun q h => by rw [hAe]; exact Or.inr h
  have hS : va_S A s.heap s.heap [] := va_S.rf
  have hP : va_P (dC, dI) vwCl [(ma, .inr (5, [.int (jI mth), .int (jI mn), .ref a0, .int (jI mp), .int (jI mw), .ref a1, .ref a2, .ref a3, .ref a4, .ref a5, .ref a6, .ref a7, .ref a8, .ref a9, .ref a10, .long (jL mu), .long (jL md), .int (jI mo), .ref a11])), (a1, .inl (cZ, 62, .inl (jA y1))), (a2, .inl (cA, 62, .inl (jA y2))), (a3, .inl (cZ, 496, .inl (jA y3))), (a4, .inl (cA, 496, .inl (jA y4))), (a5, .inl (cA, 496, .inl (jA y5))), (a7, .inl (cA, 248, .inl (jA y7))), (a8, .inl (cZ, 8, .inl (jA y8))), (a9, .inl (cA, 64, .inl (jA y9))), (a10, .inl (cA, 8, .inl (jA y10)))] s.heap := hP
  have hl := lv_entry ([.ref ma, .int (jI z1)]) (n := 3) (Nat.le_of_ble_eq_true rfl)
  rw [lg_entry_eq]
  generalize (lg_sl ([.ref ma, .int (jI z1)]) ++ List.replicate (3 - (lg_sl ([.ref ma, .int (jI z1)])).length) Slot.unset).toArray = ls at hl ⊢
  have hl : lv_has ls 3 [(0, .ref ma), (1, .int (jI z1))] := hl
  refine lv_aload_n hx hb dXM_fits_0 rfl (lv_at hl 0 rfl) ?_
  refine lv_aload_n hx hb dXM_fits_1 rfl (lv_at hl 0 rfl) ?_
  refine lv_iload_n hx hb dXM_fits_2 rfl (lv_at hl 1 rfl) ?_
  refine jrVi (rest := [.ref ma]) ⟨hx, hb, hml, hown, hts⟩ (c_XM_isTold l dC dI cA cZ ma a0 a1 a2 a3 a4 a5 a6 a7 a8 a9 a10 a11 mth mn mp mw mu md mo y1 z1 (by first | assumption | omega) (by first | assumption | omega)) (cwV 1 hts (jG_V tw_768 tw_770 ts_29 tw_6 tw_771) rfl rfl rfl (by decide +kernel) (by rw [hR]; exact ⟨Nat.le_of_ble_eq_true rfl, Nat.le_of_ble_eq_true rfl⟩)) hK hP hN [0, 1] rfl 0 5 rfl rfl rfl rfl hl.1 rfl (Nat.le_of_ble_eq_true rfl) dXM_fits_3 (by rw [hR]; exact ⟨Nat.le_of_ble_eq_true rfl, Nat.le_of_ble_eq_true rfl⟩) ?_
  have f := f_XM_isTold_b mth mn mp mw mu md mo y1 z1 (by first | assumption | omega) (by first | assumption | omega)
  refine ji_iconst hx hb dXM_fits_6 ?_
  refine jwVi (rest := []) (wr := [(a1, .inl (cZ, 62, .inl (jA y1))), (a2, .inl (cA, 62, .inl (jA y2))), (a3, .inl (cZ, 496, .inl (jA y3))), (a4, .inl (cA, 496, .inl (jA y4))), (a5, .inl (cA, 496, .inl (jA y5))), (a7, .inl (cA, 248, .inl (jA y7))), (a8, .inl (cZ, 8, .inl (jA y8))), (a9, .inl (cA, 64, .inl (jA y9))), (a10, .inl (cA, 8, .inl (jA y10)))]) ⟨hx, hb, hml, hown, hts⟩ (c_XM_goes l dC dI cA cZ _ ma a0 a1 a2 a3 a4 a5 a6 a7 a8 a9 a10 a11 mth mn mp mw mu md mo (f_XM_isTold mth mn mp mw mu md mo y1 z1) 1 (by first | assumption | omega | exact jset_b (by assumption) (by omega)) (by first | assumption | omega | exact jset_b (by assumption) (by omega))) (cwV 2 hts (jG_V tw_698 tw_700 ts_14 tw_6 tw_701) rfl rfl rfl (by decide +kernel) (by rw [hR]; exact ⟨Nat.le_of_ble_eq_true rfl, Nat.le_of_ble_eq_true rfl⟩)) hK hP hD hS hA hN [0] [1, 2, 3, 4, 5, 6, 7, 8, 9] rfl rfl (by decide) (by decide) (by decide) 0 5 rfl rfl rfl rfl hl.1 rfl (Nat.le_of_ble_eq_true rfl) dXM_fits_7 (by rw [hR]; exact ⟨Nat.le_of_ble_eq_true rfl, Nat.le_of_ble_eq_true rfl⟩) (fun v u H locs hwb hP hD hS => ?_)
  obtain ⟨r, mth1'⟩ := u
  try dsimp only at hwb
  obtain ⟨er, f1⟩ := hwb
  subst er
  have f1 : (r = 0 ∧ mth1' = 1 ∧ (f_XM_isTold mth mn mp mw mu md mo y1 z1) = 0) ∨ (r = 0 ∧ mth1' = 2 ∧ (f_XM_isTold mth mn mp mw mu md mo y1 z1) = 1 ∧ (1 : Int) = 0) ∨ (r = 1 ∧ mth1' = 0 ∧ (f_XM_isTold mth mn mp mw mu md mo y1 z1) = 1 ∧ (1 : Int) = 1) := f1
  have hP : va_P (dC, dI) vwCl [(a1, .inl (cZ, 62, .inl (jA y1))), (a2, .inl (cA, 62, .inl (jA y2))), (a3, .inl (cZ, 496, .inl (jA y3))), (a4, .inl (cA, 496, .inl (jA y4))), (a5, .inl (cA, 496, .inl (jA y5))), (a7, .inl (cA, 248, .inl (jA y7))), (a8, .inl (cZ, 8, .inl (jA y8))), (a9, .inl (cA, 64, .inl (jA y9))), (a10, .inl (cA, 8, .inl (jA y10))), (ma, .inr (5, [.int (jI mth1'), .int (jI mn), .ref a0, .int (jI mp), .int (jI mw), .ref a1, .ref a2, .ref a3, .ref a4, .ref a5, .ref a6, .ref a7, .ref a8, .ref a9, .ref a10, .long (jL mu), .long (jL md), .int (jI mo), .ref a11]))] H := hP
  have hD : va_D A [(a1, .inl (cZ, 62, .inl (jA y1))), (a2, .inl (cA, 62, .inl (jA y2))), (a3, .inl (cZ, 496, .inl (jA y3))), (a4, .inl (cA, 496, .inl (jA y4))), (a5, .inl (cA, 496, .inl (jA y5))), (a7, .inl (cA, 248, .inl (jA y7))), (a8, .inl (cZ, 8, .inl (jA y8))), (a9, .inl (cA, 64, .inl (jA y9))), (a10, .inl (cA, 8, .inl (jA y10))), (ma, .inr (5, [.int (jI mth1'), .int (jI mn), .ref a0, .int (jI mp), .int (jI mw), .ref a1, .ref a2, .ref a3, .ref a4, .ref a5, .ref a6, .ref a7, .ref a8, .ref a9, .ref a10, .long (jL mu), .long (jL md), .int (jI mo), .ref a11]))] := hD
  refine ji_if_ne (tgt := 15) hx hb dXM_fits_10 (by decide) (by first | omega | decide) (fun c10_ => ?_) (fun c10_ => ?_)
  · refine ji_iconst hx hb dXM_fits_15 ?_
    refine lv_istore_n (lv' := [(2, .int (jI 0)), (0, .ref ma), (1, .int (jI z1))]) hx hb dXM_fits_16 rfl hl (by decide) rfl (fun ls hl => ?_)
    have loop17 : ∀ (n9 : Nat) (k : Int) , 8 - k < (n9 : Int) → (0 ≤ k ∧ k ≤ 8) → ∀ (H : Heap) (locs : List Loc), va_P (dC, dI) vwCl [(a1, .inl (cZ, 62, .inl (jA y1))), (a2, .inl (cA, 62, .inl (jA y2))), (a3, .inl (cZ, 496, .inl (jA y3))), (a4, .inl (cA, 496, .inl (jA y4))), (a5, .inl (cA, 496, .inl (jA y5))), (a7, .inl (cA, 248, .inl (jA y7))), (a8, .inl (cZ, 8, .inl (jA y8))), (a9, .inl (cA, 64, .inl (jA y9))), (a10, .inl (cA, 8, .inl (jA y10))), (ma, .inr (5, [.int (jI mth1'), .int (jI mn), .ref a0, .int (jI mp), .int (jI mw), .ref a1, .ref a2, .ref a3, .ref a4, .ref a5, .ref a6, .ref a7, .ref a8, .ref a9, .ref a10, .long (jL mu), .long (jL md), .int (jI mo), .ref a11]))] H → va_D A [(a1, .inl (cZ, 62, .inl (jA y1))), (a2, .inl (cA, 62, .inl (jA y2))), (a3, .inl (cZ, 496, .inl (jA y3))), (a4, .inl (cA, 496, .inl (jA y4))), (a5, .inl (cA, 496, .inl (jA y5))), (a7, .inl (cA, 248, .inl (jA y7))), (a8, .inl (cZ, 8, .inl (jA y8))), (a9, .inl (cA, 64, .inl (jA y9))), (a10, .inl (cA, 8, .inl (jA y10))), (ma, .inr (5, [.int (jI mth1'), .int (jI mn), .ref a0, .int (jI mp), .int (jI mw), .ref a1, .ref a2, .ref a3, .ref a4, .ref a5, .ref a6, .ref a7, .ref a8, .ref a9, .ref a10, .long (jL mu), .long (jL md), .int (jI mo), .ref a11]))] → va_S A s.heap H locs → ∀ ls : Array Slot, lv_has ls 3 [(2, .int (jI k)), (0, .ref ma), (1, .int (jI z1))] → W p l e R s m ([.ref ma, .int (jI z1)] : List Value).toArray below meth c H locs 0 0 Q (F0 m 17 ls []) := by
      intro n9
      induction n9 with
      | zero =>
        intro k hm hk
        exact absurd hm (by omega)
      | succ n9 ih17 =>
        intro k hm hk H locs hP hD hS ls hl
        refine lv_iload_n hx hb dXM_fits_17 rfl (lv_at hl 0 rfl) ?_
        refine ji_bipush hx hb dXM_fits_18 (by decide) ?_
        refine ji_icmp_ge (tgt := 55) hx hb dXM_fits_20 (by decide) (by first | omega | decide) (by first | omega | decide) (fun c20_ => ?_) (fun c20_ => ?_)
        · refine ji_iconst hx hb dXM_fits_55 ?_
          refine lv_istore_n (lv' := [(2, .int (jI 0)), (0, .ref ma), (1, .int (jI z1))]) hx hb dXM_fits_56 rfl hl (by decide) rfl (fun ls hl => ?_)
          have loop57 : ∀ (n9 : Nat) (k2 : Int) (u9 : Int) (d9 : Int) , 4 - k2 < (n9 : Int) → (0 ≤ k2 ∧ k2 ≤ 4) → ∀ (H : Heap) (locs : List Loc), va_P (dC, dI) vwCl [(a1, .inl (cZ, 62, .inl (jA y1))), (a2, .inl (cA, 62, .inl (jA y2))), (a3, .inl (cZ, 496, .inl (jA y3))), (a4, .inl (cA, 496, .inl (jA y4))), (a5, .inl (cA, 496, .inl (jA y5))), (a7, .inl (cA, 248, .inl (jA y7))), (a8, .inl (cZ, 8, .inl (jA y8))), (a9, .inl (cA, 64, .inl (jA y9))), (a10, .inl (cA, 8, .inl (jA y10))), (ma, .inr (5, [.int (jI mth1'), .int (jI mn), .ref a0, .int (jI mp), .int (jI mw), .ref a1, .ref a2, .ref a3, .ref a4, .ref a5, .ref a6, .ref a7, .ref a8, .ref a9, .ref a10, .long (jL u9), .long (jL d9), .int (jI mo), .ref a11]))] H → va_D A [(a1, .inl (cZ, 62, .inl (jA y1))), (a2, .inl (cA, 62, .inl (jA y2))), (a3, .inl (cZ, 496, .inl (jA y3))), (a4, .inl (cA, 496, .inl (jA y4))), (a5, .inl (cA, 496, .inl (jA y5))), (a7, .inl (cA, 248, .inl (jA y7))), (a8, .inl (cZ, 8, .inl (jA y8))), (a9, .inl (cA, 64, .inl (jA y9))), (a10, .inl (cA, 8, .inl (jA y10))), (ma, .inr (5, [.int (jI mth1'), .int (jI mn), .ref a0, .int (jI mp), .int (jI mw), .ref a1, .ref a2, .ref a3, .ref a4, .ref a5, .ref a6, .ref a7, .ref a8, .ref a9, .ref a10, .long (jL u9), .long (jL d9), .int (jI mo), .ref a11]))] → va_S A s.heap H locs → ∀ ls : Array Slot, lv_has ls 3 [(2, .int (jI k2)), (0, .ref ma), (1, .int (jI z1))] → W p l e R s m ([.ref ma, .int (jI z1)] : List Value).toArray below meth c H locs 0 0 Q (F0 m 57 ls []) := by
            intro n9
            induction n9 with
            | zero =>
              intro k2 u9 d9 hm hk2
              exact absurd hm (by omega)
            | succ n9 ih57 =>
              intro k2 u9 d9 hm hk2 H locs hP hD hS ls hl
              refine lv_iload_n hx hb dXM_fits_57 rfl (lv_at hl 0 rfl) ?_
              refine ji_iconst hx hb dXM_fits_58 ?_
              refine ji_icmp_ge (tgt := 84) hx hb dXM_fits_59 (by decide) (by first | omega | decide) (by first | omega | decide) (fun c59_ => ?_) (fun c59_ => ?_)
              · refine ji_iconst hx hb dXM_fits_84 ?_
                have hP9 := hP.sub (ws' := [(ma, .inr (5, [.int (jI mth1'), .int (jI mn), .ref a0, .int (jI mp), .int (jI mw), .ref a1, .ref a2, .ref a3, .ref a4, .ref a5, .ref a6, .ref a7, .ref a8, .ref a9, .ref a10, .long (jL u9), .long (jL d9), .int (jI mo), .ref a11])), (a1, .inl (cZ, 62, .inl (jA y1))), (a2, .inl (cA, 62, .inl (jA y2))), (a3, .inl (cZ, 496, .inl (jA y3))), (a4, .inl (cA, 496, .inl (jA y4))), (a5, .inl (cA, 496, .inl (jA y5))), (a7, .inl (cA, 248, .inl (jA y7))), (a8, .inl (cZ, 8, .inl (jA y8))), (a9, .inl (cA, 64, .inl (jA y9))), (a10, .inl (cA, 8, .inl (jA y10)))]) [9, 0, 1, 2, 3, 4, 5, 6, 7, 8] rfl
                have hD9 := hD.sub (ws' := [(ma, .inr (5, [.int (jI mth1'), .int (jI mn), .ref a0, .int (jI mp), .int (jI mw), .ref a1, .ref a2, .ref a3, .ref a4, .ref a5, .ref a6, .ref a7, .ref a8, .ref a9, .ref a10, .long (jL u9), .long (jL d9), .int (jI mo), .ref a11])), (a1, .inl (cZ, 62, .inl (jA y1))), (a2, .inl (cA, 62, .inl (jA y2))), (a3, .inl (cZ, 496, .inl (jA y3))), (a4, .inl (cA, 496, .inl (jA y4))), (a5, .inl (cA, 496, .inl (jA y5))), (a7, .inl (cA, 248, .inl (jA y7))), (a8, .inl (cZ, 8, .inl (jA y8))), (a9, .inl (cA, 64, .inl (jA y9))), (a10, .inl (cA, 8, .inl (jA y10)))]) [9, 0, 1, 2, 3, 4, 5, 6, 7, 8] (by decide) rfl
                subst hAe
                subst hQ
                exact W.iret (v := jI (-1)) hx hb hr (fun t ht hW => ⟨⟨_, (-1, mth1', u9, d9), rfl, ⟨rfl, (show 0 ≤ mth1' ∧ mth1' ≤ 2 from by first | assumption | omega | exact jset_b (by assumption) (by omega))⟩, ⟨by rw [ht]; exact hP9, va_K.moved hW.alike hK, hD9⟩⟩, hS.F ht⟩) hS.2.2 dXM_fits_85
              · refine lv_aload_n hx hb dXM_fits_62 rfl (lv_at hl 1 rfl) ?_
                refine lv_iload_n hx hb dXM_fits_63 rfl (lv_at hl 2 rfl) ?_
                refine ji_iconst hx hb dXM_fits_64 ?_
                refine lv_iload_n hx hb dXM_fits_65 rfl (lv_at hl 0 rfl) ?_
                refine ji_iconst hx hb dXM_fits_66 ?_
                refine jwVi (rest := []) (wr := []) ⟨hx, hb, hml, hown, hts⟩ (c_XM_isAbove l dC dI cA cZ _ ma a0 a1 a2 a3 a4 a5 a6 a7 a8 a9 a10 a11 mth1' mn mp mw u9 d9 mo y1 y2 y3 y4 y5 y7 y8 y9 y10 z1 0 k2 2 (by first | assumption | omega | exact jset_b (by assumption) (by omega)) (by first | assumption | omega | exact jset_b (by assumption) (by omega)) (by first | assumption | omega | exact jset_b (by assumption) (by omega)) (by first | assumption | omega | exact jset_b (by assumption) (by omega)) (by first | assumption | omega | exact jset_b (by assumption) (by omega)) (by first | assumption | omega | exact jset_b (by assumption) (by omega)) (by first | assumption | omega | exact jset_b (by assumption) (by omega)) (by first | assumption | omega | exact jset_b (by assumption) (by omega)) (by first | assumption | omega | exact jset_b (by assumption) (by omega)) (by first | assumption | omega | exact jset_b (by assumption) (by omega)) (by first | assumption | omega | exact jset_b (by assumption) (by omega)) (by first | assumption | omega | exact jset_b (by assumption) (by omega))) (cwV 4 hts (jG_V tw_826 tw_828 ts_37 tw_6 tw_829) rfl rfl rfl (by decide +kernel) (by rw [hR]; exact ⟨Nat.le_of_ble_eq_true rfl, Nat.le_of_ble_eq_true rfl⟩)) hK hP hD hS hA hN [9, 0, 1, 2, 3, 4, 5, 6, 7, 8] [] rfl rfl (by decide) (by decide) (by decide) 9 5 rfl rfl rfl rfl hl.1 rfl (Nat.le_of_ble_eq_true rfl) dXM_fits_67 (by rw [hR]; exact ⟨Nat.le_of_ble_eq_true rfl, Nat.le_of_ble_eq_true rfl⟩) (fun v4 u3 H locs hwb5 hP hD hS => ?_)
                obtain ⟨r2, mu1', md1'⟩ := u3
                try dsimp only at hwb5
                obtain ⟨er, f6⟩ := hwb5
                subst er
                have f6 : 0 ≤ r2 ∧ r2 ≤ 1 := f6
                have hP : va_P (dC, dI) vwCl [(ma, .inr (5, [.int (jI mth1'), .int (jI mn), .ref a0, .int (jI mp), .int (jI mw), .ref a1, .ref a2, .ref a3, .ref a4, .ref a5, .ref a6, .ref a7, .ref a8, .ref a9, .ref a10, .long (jL mu1'), .long (jL md1'), .int (jI mo), .ref a11])), (a1, .inl (cZ, 62, .inl (jA y1))), (a2, .inl (cA, 62, .inl (jA y2))), (a3, .inl (cZ, 496, .inl (jA y3))), (a4, .inl (cA, 496, .inl (jA y4))), (a5, .inl (cA, 496, .inl (jA y5))), (a7, .inl (cA, 248, .inl (jA y7))), (a8, .inl (cZ, 8, .inl (jA y8))), (a9, .inl (cA, 64, .inl (jA y9))), (a10, .inl (cA, 8, .inl (jA y10)))] H := hP
                have hD : va_D A [(ma, .inr (5, [.int (jI mth1'), .int (jI mn), .ref a0, .int (jI mp), .int (jI mw), .ref a1, .ref a2, .ref a3, .ref a4, .ref a5, .ref a6, .ref a7, .ref a8, .ref a9, .ref a10, .long (jL mu1'), .long (jL md1'), .int (jI mo), .ref a11])), (a1, .inl (cZ, 62, .inl (jA y1))), (a2, .inl (cA, 62, .inl (jA y2))), (a3, .inl (cZ, 496, .inl (jA y3))), (a4, .inl (cA, 496, .inl (jA y4))), (a5, .inl (cA, 496, .inl (jA y5))), (a7, .inl (cA, 248, .inl (jA y7))), (a8, .inl (cZ, 8, .inl (jA y8))), (a9, .inl (cA, 64, .inl (jA y9))), (a10, .inl (cA, 8, .inl (jA y10)))] := hD
                refine ji_if_eq (tgt := 78) hx hb dXM_fits_70 (by decide) (by first | omega | decide) (fun c70_ => ?_) (fun c70_ => ?_)
                · refine ji_iinc (k := 0) (lv' := [(2, .int (jI (k2 + 1))), (0, .ref ma), (1, .int (jI z1))]) hx hb dXM_fits_78 hl rfl (by decide) rfl (fun ls hl => ?_)
                  refine lv_goto (tgt := 57) hx hb dXM_fits_81 (by decide) ?_
                  exact ih57 (k2 + 1) mu1' md1' (by omega) (by first | assumption | omega | exact jset_b (by assumption) (by omega)) _ _ (hP.sub [1, 2, 3, 4, 5, 6, 7, 8, 9, 0] rfl) (hD.sub [1, 2, 3, 4, 5, 6, 7, 8, 9, 0] (by decide) rfl) hS ls (lv_sub hl [0, 1, 2] rfl)
                · refine ji_bipush hx hb dXM_fits_73 (by decide) ?_
                  refine lv_iload_n hx hb dXM_fits_75 rfl (lv_at hl 0 rfl) ?_
                  refine ji_iadd hx hb dXM_fits_76 ?_
                  have hP9 := hP.sub (ws' := [(ma, .inr (5, [.int (jI mth1'), .int (jI mn), .ref a0, .int (jI mp), .int (jI mw), .ref a1, .ref a2, .ref a3, .ref a4, .ref a5, .ref a6, .ref a7, .ref a8, .ref a9, .ref a10, .long (jL mu1'), .long (jL md1'), .int (jI mo), .ref a11])), (a1, .inl (cZ, 62, .inl (jA y1))), (a2, .inl (cA, 62, .inl (jA y2))), (a3, .inl (cZ, 496, .inl (jA y3))), (a4, .inl (cA, 496, .inl (jA y4))), (a5, .inl (cA, 496, .inl (jA y5))), (a7, .inl (cA, 248, .inl (jA y7))), (a8, .inl (cZ, 8, .inl (jA y8))), (a9, .inl (cA, 64, .inl (jA y9))), (a10, .inl (cA, 8, .inl (jA y10)))]) [0, 1, 2, 3, 4, 5, 6, 7, 8, 9] rfl
                  have hD9 := hD.sub (ws' := [(ma, .inr (5, [.int (jI mth1'), .int (jI mn), .ref a0, .int (jI mp), .int (jI mw), .ref a1, .ref a2, .ref a3, .ref a4, .ref a5, .ref a6, .ref a7, .ref a8, .ref a9, .ref a10, .long (jL mu1'), .long (jL md1'), .int (jI mo), .ref a11])), (a1, .inl (cZ, 62, .inl (jA y1))), (a2, .inl (cA, 62, .inl (jA y2))), (a3, .inl (cZ, 496, .inl (jA y3))), (a4, .inl (cA, 496, .inl (jA y4))), (a5, .inl (cA, 496, .inl (jA y5))), (a7, .inl (cA, 248, .inl (jA y7))), (a8, .inl (cZ, 8, .inl (jA y8))), (a9, .inl (cA, 64, .inl (jA y9))), (a10, .inl (cA, 8, .inl (jA y10)))]) [0, 1, 2, 3, 4, 5, 6, 7, 8, 9] (by decide) rfl
                  subst hAe
                  subst hQ
                  exact W.iret (v := jI (8 + k2)) hx hb hr (fun t ht hW => ⟨⟨_, (8 + k2, mth1', mu1', md1'), rfl, ⟨rfl, (show 0 ≤ mth1' ∧ mth1' ≤ 2 from by first | assumption | omega | exact jset_b (by assumption) (by omega))⟩, ⟨by rw [ht]; exact hP9, va_K.moved hW.alike hK, hD9⟩⟩, hS.F ht⟩) hS.2.2 dXM_fits_77
          exact loop57 (Int.toNat (4 - 0) + 1) 0 mu md (by omega) (by first | assumption | omega | exact jset_b (by assumption) (by omega)) _ _ hP hD hS ls (lv_sub hl [0, 1, 2] rfl)
        · refine lv_aload_n hx hb dXM_fits_23 rfl (lv_at hl 1 rfl) ?_
          refine va_get (D := (dC, dI)) (ci := 5) (v := .ref a10) (C := RXM) (T := TXM) (N := 19) hx hb hts (fun w h => jmem (inXM w h)) hown hK hP 9 rfl rfl 14 (by decide) (hts _ (jmem tw_642)) (fun _ h9 => h9) rfl dXM_fits_24 ?_
          refine lv_iload_n hx hb dXM_fits_27 rfl (lv_at hl 0 rfl) ?_
          refine ji_iald hx hb hK hP 8 0 rfl rfl ⟨by omega, by omega⟩ (by decide) dXM_fits_28 ?_
          have rb := hy10 k
          refine lv_aload_n hx hb dXM_fits_29 rfl (lv_at hl 1 rfl) ?_
          refine lv_iload_n hx hb dXM_fits_30 rfl (lv_at hl 2 rfl) ?_
          refine lv_iload_n hx hb dXM_fits_31 rfl (lv_at hl 0 rfl) ?_
          refine jwVi (rest := [.int (jI (y10 k))]) (wr := [(a5, .inl (cA, 496, .inl (jA y5))), (a7, .inl (cA, 248, .inl (jA y7))), (a8, .inl (cZ, 8, .inl (jA y8))), (a9, .inl (cA, 64, .inl (jA y9))), (a10, .inl (cA, 8, .inl (jA y10)))]) ⟨hx, hb, hml, hown, hts⟩ (c_XM_lowOf l dC dI cA cZ _ ma a0 a1 a2 a3 a4 a5 a6 a7 a8 a9 a10 a11 mth1' mn mp mw mu md mo y1 y2 y3 y4 z1 k (by first | assumption | omega | exact jset_b (by assumption) (by omega)) (by first | assumption | omega | exact jset_b (by assumption) (by omega)) (by first | assumption | omega | exact jset_b (by assumption) (by omega)) (by first | assumption | omega | exact jset_b (by assumption) (by omega)) (by first | assumption | omega | exact jset_b (by assumption) (by omega)) (by first | assumption | omega | exact jset_b (by assumption) (by omega))) (cwV 2 hts (jG_V tw_775 tw_777 ts_30 tw_6 tw_778) rfl rfl rfl (by decide +kernel) (by rw [hR]; exact ⟨Nat.le_of_ble_eq_true rfl, Nat.le_of_ble_eq_true rfl⟩)) hK hP hD hS hA hN [9, 0, 1, 2, 3] [4, 5, 6, 7, 8] rfl rfl (by decide) (by decide) (by decide) 9 5 rfl rfl rfl rfl hl.1 rfl (Nat.le_of_ble_eq_true rfl) dXM_fits_32 (by rw [hR]; exact ⟨Nat.le_of_ble_eq_true rfl, Nat.le_of_ble_eq_true rfl⟩) (fun v9 u8 H locs hwb10 hP hD hS => ?_)
          try dsimp only at hwb10
          obtain ⟨er, f11⟩ := hwb10
          subst er
          have f11 : 0 ≤ u8 ∧ u8 ≤ 100000 := f11
          have hP : va_P (dC, dI) vwCl [(a5, .inl (cA, 496, .inl (jA y5))), (a7, .inl (cA, 248, .inl (jA y7))), (a8, .inl (cZ, 8, .inl (jA y8))), (a9, .inl (cA, 64, .inl (jA y9))), (a10, .inl (cA, 8, .inl (jA y10))), (ma, .inr (5, [.int (jI mth1'), .int (jI mn), .ref a0, .int (jI mp), .int (jI mw), .ref a1, .ref a2, .ref a3, .ref a4, .ref a5, .ref a6, .ref a7, .ref a8, .ref a9, .ref a10, .long (jL mu), .long (jL md), .int (jI mo), .ref a11])), (a1, .inl (cZ, 62, .inl (jA y1))), (a2, .inl (cA, 62, .inl (jA y2))), (a3, .inl (cZ, 496, .inl (jA y3))), (a4, .inl (cA, 496, .inl (jA y4)))] H := hP
          have hD : va_D A [(a5, .inl (cA, 496, .inl (jA y5))), (a7, .inl (cA, 248, .inl (jA y7))), (a8, .inl (cZ, 8, .inl (jA y8))), (a9, .inl (cA, 64, .inl (jA y9))), (a10, .inl (cA, 8, .inl (jA y10))), (ma, .inr (5, [.int (jI mth1'), .int (jI mn), .ref a0, .int (jI mp), .int (jI mw), .ref a1, .ref a2, .ref a3, .ref a4, .ref a5, .ref a6, .ref a7, .ref a8, .ref a9, .ref a10, .long (jL mu), .long (jL md), .int (jI mo), .ref a11])), (a1, .inl (cZ, 62, .inl (jA y1))), (a2, .inl (cA, 62, .inl (jA y2))), (a3, .inl (cZ, 496, .inl (jA y3))), (a4, .inl (cA, 496, .inl (jA y4)))] := hD
          refine lv_aload_n hx hb dXM_fits_35 rfl (lv_at hl 1 rfl) ?_
          refine lv_iload_n hx hb dXM_fits_36 rfl (lv_at hl 2 rfl) ?_
          refine lv_iload_n hx hb dXM_fits_37 rfl (lv_at hl 0 rfl) ?_
          refine jwVi (rest := [.int (jI u8), .int (jI (y10 k))]) (wr := [(a7, .inl (cA, 248, .inl (jA y7))), (a8, .inl (cZ, 8, .inl (jA y8))), (a9, .inl (cA, 64, .inl (jA y9))), (a10, .inl (cA, 8, .inl (jA y10))), (a4, .inl (cA, 496, .inl (jA y4)))]) ⟨hx, hb, hml, hown, hts⟩ (c_XM_highOf l dC dI cA cZ _ ma a0 a1 a2 a3 a4 a5 a6 a7 a8 a9 a10 a11 mth1' mn mp mw mu md mo y1 y2 y3 y5 z1 k (by first | assumption | omega | exact jset_b (by assumption) (by omega)) (by first | assumption | omega | exact jset_b (by assumption) (by omega)) (by first | assumption | omega | exact jset_b (by assumption) (by omega)) (by first | assumption | omega | exact jset_b (by assumption) (by omega)) (by first | assumption | omega | exact jset_b (by assumption) (by omega)) (by first | assumption | omega | exact jset_b (by assumption) (by omega))) (cwV 2 hts (jG_V tw_787 tw_789 ts_33 tw_6 tw_790) rfl rfl rfl (by decide +kernel) (by rw [hR]; exact ⟨Nat.le_of_ble_eq_true rfl, Nat.le_of_ble_eq_true rfl⟩)) hK hP hD hS hA hN [5, 6, 7, 8, 0] [1, 2, 3, 4, 9] rfl rfl (by decide) (by decide) (by decide) 5 5 rfl rfl rfl rfl hl.1 rfl (Nat.le_of_ble_eq_true rfl) dXM_fits_38 (by rw [hR]; exact ⟨Nat.le_of_ble_eq_true rfl, Nat.le_of_ble_eq_true rfl⟩) (fun v14 u13 H locs hwb15 hP hD hS => ?_)
          try dsimp only at hwb15
          obtain ⟨er, f16⟩ := hwb15
          subst er
          have f16 : 0 ≤ u13 ∧ u13 ≤ 100000 := f16
          have hP : va_P (dC, dI) vwCl [(a7, .inl (cA, 248, .inl (jA y7))), (a8, .inl (cZ, 8, .inl (jA y8))), (a9, .inl (cA, 64, .inl (jA y9))), (a10, .inl (cA, 8, .inl (jA y10))), (a4, .inl (cA, 496, .inl (jA y4))), (ma, .inr (5, [.int (jI mth1'), .int (jI mn), .ref a0, .int (jI mp), .int (jI mw), .ref a1, .ref a2, .ref a3, .ref a4, .ref a5, .ref a6, .ref a7, .ref a8, .ref a9, .ref a10, .long (jL mu), .long (jL md), .int (jI mo), .ref a11])), (a1, .inl (cZ, 62, .inl (jA y1))), (a2, .inl (cA, 62, .inl (jA y2))), (a3, .inl (cZ, 496, .inl (jA y3))), (a5, .inl (cA, 496, .inl (jA y5)))] H := hP
          have hD : va_D A [(a7, .inl (cA, 248, .inl (jA y7))), (a8, .inl (cZ, 8, .inl (jA y8))), (a9, .inl (cA, 64, .inl (jA y9))), (a10, .inl (cA, 8, .inl (jA y10))), (a4, .inl (cA, 496, .inl (jA y4))), (ma, .inr (5, [.int (jI mth1'), .int (jI mn), .ref a0, .int (jI mp), .int (jI mw), .ref a1, .ref a2, .ref a3, .ref a4, .ref a5, .ref a6, .ref a7, .ref a8, .ref a9, .ref a10, .long (jL mu), .long (jL md), .int (jI mo), .ref a11])), (a1, .inl (cZ, 62, .inl (jA y1))), (a2, .inl (cA, 62, .inl (jA y2))), (a3, .inl (cZ, 496, .inl (jA y3))), (a5, .inl (cA, 496, .inl (jA y5)))] := hD
          refine jrSi (rest := []) ⟨hx, hb, hml, hown, hts⟩ (c_XM_in l dC dI cA cZ (y10 k) u8 u13 (by first | assumption | omega) (by first | assumption | omega) (by first | assumption | omega)) (cwS 3 hts (jG_S tw_695 tw_696 tw_6 tw_697) rfl rfl rfl (by decide +kernel) (by rw [hR]; exact ⟨Nat.le_of_ble_eq_true rfl, Nat.le_of_ble_eq_true rfl⟩)) hK hP hN [] rfl rfl hl.1 rfl (Nat.le_of_ble_eq_true rfl) dXM_fits_41 (by rw [hR]; exact ⟨Nat.le_of_ble_eq_true rfl, Nat.le_of_ble_eq_true rfl⟩) ?_
          have f17 := f_XM_in_b (y10 k) u8 u13 (by first | assumption | omega) (by first | assumption | omega) (by first | assumption | omega)
          refine ji_if_ne (tgt := 49) hx hb dXM_fits_44 (by decide) (by first | omega | decide) (fun c44_ => ?_) (fun c44_ => ?_)
          · refine ji_iinc (k := 0) (lv' := [(2, .int (jI (k + 1))), (0, .ref ma), (1, .int (jI z1))]) hx hb dXM_fits_49 hl rfl (by decide) rfl (fun ls hl => ?_)
            refine lv_goto (tgt := 17) hx hb dXM_fits_52 (by decide) ?_
            exact ih17 (k + 1) (by omega) (by first | assumption | omega | exact jset_b (by assumption) (by omega)) _ _ (hP.sub [6, 7, 8, 4, 9, 0, 1, 2, 3, 5] rfl) (hD.sub [6, 7, 8, 4, 9, 0, 1, 2, 3, 5] (by decide) rfl) hS ls (lv_sub hl [0, 1, 2] rfl)
          · refine lv_iload_n hx hb dXM_fits_47 rfl (lv_at hl 0 rfl) ?_
            have hP9 := hP.sub (ws' := [(ma, .inr (5, [.int (jI mth1'), .int (jI mn), .ref a0, .int (jI mp), .int (jI mw), .ref a1, .ref a2, .ref a3, .ref a4, .ref a5, .ref a6, .ref a7, .ref a8, .ref a9, .ref a10, .long (jL mu), .long (jL md), .int (jI mo), .ref a11])), (a1, .inl (cZ, 62, .inl (jA y1))), (a2, .inl (cA, 62, .inl (jA y2))), (a3, .inl (cZ, 496, .inl (jA y3))), (a4, .inl (cA, 496, .inl (jA y4))), (a5, .inl (cA, 496, .inl (jA y5))), (a7, .inl (cA, 248, .inl (jA y7))), (a8, .inl (cZ, 8, .inl (jA y8))), (a9, .inl (cA, 64, .inl (jA y9))), (a10, .inl (cA, 8, .inl (jA y10)))]) [5, 6, 7, 8, 4, 9, 0, 1, 2, 3] rfl
            have hD9 := hD.sub (ws' := [(ma, .inr (5, [.int (jI mth1'), .int (jI mn), .ref a0, .int (jI mp), .int (jI mw), .ref a1, .ref a2, .ref a3, .ref a4, .ref a5, .ref a6, .ref a7, .ref a8, .ref a9, .ref a10, .long (jL mu), .long (jL md), .int (jI mo), .ref a11])), (a1, .inl (cZ, 62, .inl (jA y1))), (a2, .inl (cA, 62, .inl (jA y2))), (a3, .inl (cZ, 496, .inl (jA y3))), (a4, .inl (cA, 496, .inl (jA y4))), (a5, .inl (cA, 496, .inl (jA y5))), (a7, .inl (cA, 248, .inl (jA y7))), (a8, .inl (cZ, 8, .inl (jA y8))), (a9, .inl (cA, 64, .inl (jA y9))), (a10, .inl (cA, 8, .inl (jA y10)))]) [5, 6, 7, 8, 4, 9, 0, 1, 2, 3] (by decide) rfl
            subst hAe
            subst hQ
            exact W.iret (v := jI k) hx hb hr (fun t ht hW => ⟨⟨_, (k, mth1', mu, md), rfl, ⟨rfl, (show 0 ≤ mth1' ∧ mth1' ≤ 2 from by first | assumption | omega | exact jset_b (by assumption) (by omega))⟩, ⟨by rw [ht]; exact hP9, va_K.moved hW.alike hK, hD9⟩⟩, hS.F ht⟩) hS.2.2 dXM_fits_48
    exact loop17 (Int.toNat (8 - 0) + 1) 0 (by omega) (by first | assumption | omega | exact jset_b (by assumption) (by omega)) _ _ hP hD hS ls (lv_sub hl [0, 1, 2] rfl)
  · refine ji_iconst hx hb dXM_fits_13 ?_
    have hP9 := hP.sub (ws' := [(ma, .inr (5, [.int (jI mth1'), .int (jI mn), .ref a0, .int (jI mp), .int (jI mw), .ref a1, .ref a2, .ref a3, .ref a4, .ref a5, .ref a6, .ref a7, .ref a8, .ref a9, .ref a10, .long (jL mu), .long (jL md), .int (jI mo), .ref a11])), (a1, .inl (cZ, 62, .inl (jA y1))), (a2, .inl (cA, 62, .inl (jA y2))), (a3, .inl (cZ, 496, .inl (jA y3))), (a4, .inl (cA, 496, .inl (jA y4))), (a5, .inl (cA, 496, .inl (jA y5))), (a7, .inl (cA, 248, .inl (jA y7))), (a8, .inl (cZ, 8, .inl (jA y8))), (a9, .inl (cA, 64, .inl (jA y9))), (a10, .inl (cA, 8, .inl (jA y10)))]) [9, 0, 1, 2, 3, 4, 5, 6, 7, 8] rfl
    have hD9 := hD.sub (ws' := [(ma, .inr (5, [.int (jI mth1'), .int (jI mn), .ref a0, .int (jI mp), .int (jI mw), .ref a1, .ref a2, .ref a3, .ref a4, .ref a5, .ref a6, .ref a7, .ref a8, .ref a9, .ref a10, .long (jL mu), .long (jL md), .int (jI mo), .ref a11])), (a1, .inl (cZ, 62, .inl (jA y1))), (a2, .inl (cA, 62, .inl (jA y2))), (a3, .inl (cZ, 496, .inl (jA y3))), (a4, .inl (cA, 496, .inl (jA y4))), (a5, .inl (cA, 496, .inl (jA y5))), (a7, .inl (cA, 248, .inl (jA y7))), (a8, .inl (cZ, 8, .inl (jA y8))), (a9, .inl (cA, 64, .inl (jA y9))), (a10, .inl (cA, 8, .inl (jA y10)))]) [9, 0, 1, 2, 3, 4, 5, 6, 7, 8] (by decide) rfl
    subst hAe
    subst hQ
    exact W.iret (v := jI 0) hx hb hr (fun t ht hW => ⟨⟨_, (0, mth1', mu, md), rfl, ⟨rfl, (show 0 ≤ mth1' ∧ mth1' ≤ 2 from by first | assumption | omega | exact jset_b (by assumption) (by omega))⟩, ⟨by rw [ht]; exact hP9, va_K.moved hW.alike hK, hD9⟩⟩, hS.F ht⟩) hS.2.2 dXM_fits_14
set_option maxHeartbeats 4000000 in
set_option maxRecDepth 100000 in
theorem c_XM_holds (l : Launch) (dC : Nat → ClassId) (dI : Nat → Nat → Nat) (cA cZ : ClassId) (sz : Nat) (ma : Nat) (a0 : Nat) (a1 : Nat) (a2 : Nat) (a3 : Nat) (a4 : Nat) (a5 : Nat) (a6 : Nat) (a7 : Nat) (a8 : Nat) (a9 : Nat) (a10 : Nat) (a11 : Nat) (mth : Int) (mn : Int) (mp : Int) (mw : Int) (mu : Int) (md : Int) (mo : Int) (y1 : Int → Int) (y2 : Int → Int) (y3 : Int → Int) (y4 : Int → Int) (y5 : Int → Int) (y7 : Int → Int) (y8 : Int → Int) (y9 : Int → Int) (y10 : Int → Int) (z1 : Int) (z2 : Int) (hy1 : ∀ i, 0 ≤ y1 i ∧ y1 i ≤ 1) (hy2 : ∀ i, 0 ≤ y2 i ∧ y2 i ≤ 30) (hy3 : ∀ i, 0 ≤ y3 i ∧ y3 i ≤ 1) (hy4 : ∀ i, 0 ≤ y4 i ∧ y4 i ≤ 100000) (hy5 : ∀ i, 0 ≤ y5 i ∧ y5 i ≤ 100000) (hy7 : ∀ i, -1 ≤ y7 i ∧ y7 i ≤ 999999) (hy8 : ∀ i, 0 ≤ y8 i ∧ y8 i ≤ 1) (hy9 : ∀ i, 0 ≤ y9 i ∧ y9 i ≤ 20) (hy10 : ∀ i, 0 ≤ y10 i ∧ y10 i ≤ 100000) (hiz1 : i32 z1) (hiz2 : i32 z2) : Met l yXM_holds (Cond.code yXM_holds cXM_holds 4 (some .boolean) :: TBL) ({ frames := 7, cells := 0, slots := 0, locals := 158 } : Room) (va_Pc [.ref ma, .int (jI z1), .int (jI z2)] (jBw (dC, dI) [(cA, .int), (cZ, .boolean)] [(ma, .inr (5, [.int (jI mth), .int (jI mn), .ref a0, .int (jI mp), .int (jI mw), .ref a1, .ref a2, .ref a3, .ref a4, .ref a5, .ref a6, .ref a7, .ref a8, .ref a9, .ref a10, .long (jL mu), .long (jL md), .int (jI mo), .ref a11])), (a1, .inl (cZ, 62, .inl (jA y1))), (a2, .inl (cA, 62, .inl (jA y2))), (a3, .inl (cZ, 496, .inl (jA y3))), (a4, .inl (cA, 496, .inl (jA y4))), (a5, .inl (cA, 496, .inl (jA y5))), (a7, .inl (cA, 248, .inl (jA y7))), (a8, .inl (cZ, 8, .inl (jA y8))), (a9, .inl (cA, 64, .inl (jA y9))), (a10, .inl (cA, 8, .inl (jA y10)))] sz)) (va_Qi (fun (r : Int32) (u : Int × Int × Int × Int) => r = jI u.1 ∧ (0 ≤ u.2.1 ∧ u.2.1 ≤ 2) ∧ (0 ≤ u.1 ∧ u.1 ≤ 1)) (fun u t => jE (dC, dI) [(cA, .int), (cZ, .boolean)] [(ma, .inr (5, [.int (jI mth), .int (jI mn), .ref a0, .int (jI mp), .int (jI mw), .ref a1, .ref a2, .ref a3, .ref a4, .ref a5, .ref a6, .ref a7, .ref a8, .ref a9, .ref a10, .long (jL mu), .long (jL md), .int (jI mo), .ref a11])), (a1, .inl (cZ, 62, .inl (jA y1))), (a2, .inl (cA, 62, .inl (jA y2))), (a3, .inl (cZ, 496, .inl (jA y3))), (a4, .inl (cA, 496, .inl (jA y4))), (a5, .inl (cA, 496, .inl (jA y5))), (a7, .inl (cA, 248, .inl (jA y7))), (a8, .inl (cZ, 8, .inl (jA y8))), (a9, .inl (cA, 64, .inl (jA y9))), (a10, .inl (cA, 8, .inl (jA y10)))] sz [(ma, .inr (5, [.int (jI u.2.1), .int (jI mn), .ref a0, .int (jI mp), .int (jI mw), .ref a1, .ref a2, .ref a3, .ref a4, .ref a5, .ref a6, .ref a7, .ref a8, .ref a9, .ref a10, .long (jL u.2.2.1), .long (jL u.2.2.2), .int (jI mo), .ref a11])), (a1, .inl (cZ, 62, .inl (jA y1))), (a2, .inl (cA, 62, .inl (jA y2))), (a3, .inl (cZ, 496, .inl (jA y3))), (a4, .inl (cA, 496, .inl (jA y4))), (a5, .inl (cA, 496, .inl (jA y5))), (a7, .inl (cA, 248, .inl (jA y7))), (a8, .inl (cZ, 8, .inl (jA y8))), (a9, .inl (cA, 64, .inl (jA y9))), (a10, .inl (cA, 8, .inl (jA y10)))] t) (va_A [(ma, .inr (5, [.int (jI mth), .int (jI mn), .ref a0, .int (jI mp), .int (jI mw), .ref a1, .ref a2, .ref a3, .ref a4, .ref a5, .ref a6, .ref a7, .ref a8, .ref a9, .ref a10, .long (jL mu), .long (jL md), .int (jI mo), .ref a11])), (a1, .inl (cZ, 62, .inl (jA y1))), (a2, .inl (cA, 62, .inl (jA y2))), (a3, .inl (cZ, 496, .inl (jA y3))), (a4, .inl (cA, 496, .inl (jA y4))), (a5, .inl (cA, 496, .inl (jA y5))), (a7, .inl (cA, 248, .inl (jA y7))), (a8, .inl (cZ, 8, .inl (jA y8))), (a9, .inl (cA, 64, .inl (jA y9))), (a10, .inl (cA, 8, .inl (jA y10)))] sz)) 0 0 (va_A [(ma, .inr (5, [.int (jI mth), .int (jI mn), .ref a0, .int (jI mp), .int (jI mw), .ref a1, .ref a2, .ref a3, .ref a4, .ref a5, .ref a6, .ref a7, .ref a8, .ref a9, .ref a10, .long (jL mu), .long (jL md), .int (jI mo), .ref a11])), (a1, .inl (cZ, 62, .inl (jA y1))), (a2, .inl (cA, 62, .inl (jA y2))), (a3, .inl (cZ, 496, .inl (jA y3))), (a4, .inl (cA, 496, .inl (jA y4))), (a5, .inl (cA, 496, .inl (jA y5))), (a7, .inl (cA, 248, .inl (jA y7))), (a8, .inl (cZ, 8, .inl (jA y8))), (a9, .inl (cA, 64, .inl (jA y9))), (a10, .inl (cA, 8, .inl (jA y10)))] sz) := by
  refine jMet (cc := cXM_holds) (maxL := 4) (ret := some .boolean) (by decide) rfl ?_
  intro p e s m args below meth c s₁ R Q hR hQ B hml hv
  obtain ⟨rfl, hsz, hP, hK, hD0, hN⟩ := hv
  have hx := B.exec
  have hb := B.bytes
  have hr := B.returns
  have hts := atoms_spec (ws := Cond.code yXM_holds cXM_holds 4 (some .boolean) :: TBL) B.pre
  have hown : s.vm.findClass RXM = some m.cls := findClass_of_methodNamed B.named
  have hlocks := B.notSynchronized
  subst hsz
  obtain ⟨A, hAe⟩ : ∃ A, A = va_A [(ma, .inr (5, [.int (jI mth), .int (jI mn), .ref a0, .int (jI mp), .int (jI mw), .ref a1, .ref a2, .ref a3, .ref a4, .ref a5, .ref a6, .ref a7, .ref a8, .ref a9, .ref a10, .long (jL mu), .long (jL md), .int (jI mo), .ref a11])), (a1, .inl (cZ, 62, .inl (jA y1))), (a2, .inl (cA, 62, .inl (jA y2))), (a3, .inl (cZ, 496, .inl (jA y3))), (a4, .inl (cA, 496, .inl (jA y4))), (a5, .inl (cA, 496, .inl (jA y5))), (a7, .inl (cA, 248, .inl (jA y7))), (a8, .inl (cZ, 8, .inl (jA y8))), (a9, .inl (cA, 64, .inl (jA y9))), (a10, .inl (cA, 8, .inl (jA y10)))] s.heap.size := ⟨_, rfl⟩
  have hD : va_D A [(ma, .inr (5, [.int (jI mth), .int (jI mn), .ref a0, .int (jI mp), .int (jI mw), .ref a1, .ref a2, .ref a3, .ref a4, .ref a5, .ref a6, .ref a7, .ref a8, .ref a9, .ref a10, .long (jL mu), .long (jL md), .int (jI mo), .ref a11])), (a1, .inl (cZ, 62, .inl (jA y1))), (a2, .inl (cA, 62, .inl (jA y2))), (a3, .inl (cZ, 496, .inl (jA y3))), (a4, .inl (cA, 496, .inl (jA y4))), (a5, .inl (cA, 496, .inl (jA y5))), (a7, .inl (cA, 248, .inl (jA y7))), (a8, .inl (cZ, 8, .inl (jA y8))), (a9, .inl (cA, 64, .inl (jA y9))), (a10, .inl (cA, 8, .inl (jA y10)))] := by rw [hAe]; exact hD0.self
  have hA : ∀ q : Nat, s.heap.size ≤ q → A q := fun q h => by rw [hAe]; exact Or.inr h
  have hS : va_S A s.heap s.heap [] := va_S.rf
  have hP : va_P (dC, dI) vwCl [(ma, .inr (5, [.int (jI mth), .int (jI mn), .ref a0, .int (jI mp), .int (jI mw), .ref a1, .ref a2, .ref a3, .ref a4, .ref a5, .ref a6, .ref a7, .ref a8, .ref a9, .ref a10, .long (jL mu), .long (jL md), .int (jI mo), .ref a11])), (a1, .inl (cZ, 62, .inl (jA y1))), (a2, .inl (cA, 62, .inl (jA y2))), (a3, .inl (cZ, 496, .inl (jA y3))), (a4, .inl (cA, 496, .inl (jA y4))), (a5, .inl (cA, 496, .inl (jA y5))), (a7, .inl (cA, 248, .inl (jA y7))), (a8, .inl (cZ, 8, .inl (jA y8))), (a9, .inl (cA, 64, .inl (jA y9))), (a10, .inl (cA, 8, .inl (jA y10)))] s.heap := hP
  have hl := lv_entry ([.ref ma, .int (jI z1), .int (jI z2)]) (n := 4) (Nat.le_of_ble_eq_true rfl)
  rw [lg_entry_eq]
  generalize (lg_sl ([.ref ma, .int (jI z1), .int (jI z2)]) ++ List.replicate (4 - (lg_sl ([.ref ma, .int (jI z1), .int (jI z2)])).length) Slot.unset).toArray = ls at hl ⊢
  have hl : lv_has ls 4 [(0, .ref ma), (1, .int (jI z1)), (2, .int (jI z2))] := hl
  refine lv_aload_n hx hb dXM_holds_0 rfl (lv_at hl 0 rfl) ?_
  have join22 : ∀ (jc : Int) , ((jc = 0) ∨ (jc = 1 ∧ 1 ≤ z1 ∧ z1 ≤ 30 ∧ 1 ≤ z2 ∧ z2 ≤ 30)) → ∀ (H : Heap) (locs : List Loc), va_P (dC, dI) vwCl [(ma, .inr (5, [.int (jI mth), .int (jI mn), .ref a0, .int (jI mp), .int (jI mw), .ref a1, .ref a2, .ref a3, .ref a4, .ref a5, .ref a6, .ref a7, .ref a8, .ref a9, .ref a10, .long (jL mu), .long (jL md), .int (jI mo), .ref a11])), (a1, .inl (cZ, 62, .inl (jA y1))), (a2, .inl (cA, 62, .inl (jA y2))), (a3, .inl (cZ, 496, .inl (jA y3))), (a4, .inl (cA, 496, .inl (jA y4))), (a5, .inl (cA, 496, .inl (jA y5))), (a7, .inl (cA, 248, .inl (jA y7))), (a8, .inl (cZ, 8, .inl (jA y8))), (a9, .inl (cA, 64, .inl (jA y9))), (a10, .inl (cA, 8, .inl (jA y10)))] H → va_D A [(ma, .inr (5, [.int (jI mth), .int (jI mn), .ref a0, .int (jI mp), .int (jI mw), .ref a1, .ref a2, .ref a3, .ref a4, .ref a5, .ref a6, .ref a7, .ref a8, .ref a9, .ref a10, .long (jL mu), .long (jL md), .int (jI mo), .ref a11])), (a1, .inl (cZ, 62, .inl (jA y1))), (a2, .inl (cA, 62, .inl (jA y2))), (a3, .inl (cZ, 496, .inl (jA y3))), (a4, .inl (cA, 496, .inl (jA y4))), (a5, .inl (cA, 496, .inl (jA y5))), (a7, .inl (cA, 248, .inl (jA y7))), (a8, .inl (cZ, 8, .inl (jA y8))), (a9, .inl (cA, 64, .inl (jA y9))), (a10, .inl (cA, 8, .inl (jA y10)))] → va_S A s.heap H locs → ∀ ls : Array Slot, lv_has ls 4 [(0, .ref ma), (1, .int (jI z1)), (2, .int (jI z2))] → W p l e R s m ([.ref ma, .int (jI z1), .int (jI z2)] : List Value).toArray below meth c H locs 0 0 Q (F0 m 22 ls [.int (jI jc), .ref ma]) := by
    intro jc hjc H locs hP hD hS ls hl
    refine ji_iconst hx hb dXM_holds_22 ?_
    refine jwVi (rest := []) (wr := [(a1, .inl (cZ, 62, .inl (jA y1))), (a2, .inl (cA, 62, .inl (jA y2))), (a3, .inl (cZ, 496, .inl (jA y3))), (a4, .inl (cA, 496, .inl (jA y4))), (a5, .inl (cA, 496, .inl (jA y5))), (a7, .inl (cA, 248, .inl (jA y7))), (a8, .inl (cZ, 8, .inl (jA y8))), (a9, .inl (cA, 64, .inl (jA y9))), (a10, .inl (cA, 8, .inl (jA y10)))]) ⟨hx, hb, hml, hown, hts⟩ (c_XM_goes l dC dI cA cZ _ ma a0 a1 a2 a3 a4 a5 a6 a7 a8 a9 a10 a11 mth mn mp mw mu md mo jc 1 (by first | assumption | omega | exact jset_b (by assumption) (by omega)) (by first | assumption | omega | exact jset_b (by assumption) (by omega))) (cwV 2 hts (jG_V tw_698 tw_700 ts_14 tw_6 tw_701) rfl rfl rfl (by decide +kernel) (by rw [hR]; exact ⟨Nat.le_of_ble_eq_true rfl, Nat.le_of_ble_eq_true rfl⟩)) hK hP hD hS hA hN [0] [1, 2, 3, 4, 5, 6, 7, 8, 9] rfl rfl (by decide) (by decide) (by decide) 0 5 rfl rfl rfl rfl hl.1 rfl (Nat.le_of_ble_eq_true rfl) dXM_holds_23 (by rw [hR]; exact ⟨Nat.le_of_ble_eq_true rfl, Nat.le_of_ble_eq_true rfl⟩) (fun v u H locs hwb hP hD hS => ?_)
    obtain ⟨r, mth1'⟩ := u
    try dsimp only at hwb
    obtain ⟨er, f⟩ := hwb
    subst er
    have f : (r = 0 ∧ mth1' = 1 ∧ jc = 0) ∨ (r = 0 ∧ mth1' = 2 ∧ jc = 1 ∧ (1 : Int) = 0) ∨ (r = 1 ∧ mth1' = 0 ∧ jc = 1 ∧ (1 : Int) = 1) := f
    have hP : va_P (dC, dI) vwCl [(a1, .inl (cZ, 62, .inl (jA y1))), (a2, .inl (cA, 62, .inl (jA y2))), (a3, .inl (cZ, 496, .inl (jA y3))), (a4, .inl (cA, 496, .inl (jA y4))), (a5, .inl (cA, 496, .inl (jA y5))), (a7, .inl (cA, 248, .inl (jA y7))), (a8, .inl (cZ, 8, .inl (jA y8))), (a9, .inl (cA, 64, .inl (jA y9))), (a10, .inl (cA, 8, .inl (jA y10))), (ma, .inr (5, [.int (jI mth1'), .int (jI mn), .ref a0, .int (jI mp), .int (jI mw), .ref a1, .ref a2, .ref a3, .ref a4, .ref a5, .ref a6, .ref a7, .ref a8, .ref a9, .ref a10, .long (jL mu), .long (jL md), .int (jI mo), .ref a11]))] H := hP
    have hD : va_D A [(a1, .inl (cZ, 62, .inl (jA y1))), (a2, .inl (cA, 62, .inl (jA y2))), (a3, .inl (cZ, 496, .inl (jA y3))), (a4, .inl (cA, 496, .inl (jA y4))), (a5, .inl (cA, 496, .inl (jA y5))), (a7, .inl (cA, 248, .inl (jA y7))), (a8, .inl (cZ, 8, .inl (jA y8))), (a9, .inl (cA, 64, .inl (jA y9))), (a10, .inl (cA, 8, .inl (jA y10))), (ma, .inr (5, [.int (jI mth1'), .int (jI mn), .ref a0, .int (jI mp), .int (jI mw), .ref a1, .ref a2, .ref a3, .ref a4, .ref a5, .ref a6, .ref a7, .ref a8, .ref a9, .ref a10, .long (jL mu), .long (jL md), .int (jI mo), .ref a11]))] := hD
    refine ji_if_ne (tgt := 31) hx hb dXM_holds_26 (by decide) (by first | omega | decide) (fun c26_ => ?_) (fun c26_ => ?_)
    · refine ji_iconst hx hb dXM_holds_31 ?_
      refine lv_istore_n (lv' := [(3, .int (jI 0)), (0, .ref ma), (1, .int (jI z1)), (2, .int (jI z2))]) hx hb dXM_holds_32 rfl hl (by decide) rfl (fun ls hl => ?_)
      have loop33 : ∀ (n9 : Nat) (k : Int) , 8 - k < (n9 : Int) → (0 ≤ k ∧ k ≤ 8) → ∀ (H : Heap) (locs : List Loc), va_P (dC, dI) vwCl [(a1, .inl (cZ, 62, .inl (jA y1))), (a2, .inl (cA, 62, .inl (jA y2))), (a3, .inl (cZ, 496, .inl (jA y3))), (a4, .inl (cA, 496, .inl (jA y4))), (a5, .inl (cA, 496, .inl (jA y5))), (a7, .inl (cA, 248, .inl (jA y7))), (a8, .inl (cZ, 8, .inl (jA y8))), (a9, .inl (cA, 64, .inl (jA y9))), (a10, .inl (cA, 8, .inl (jA y10))), (ma, .inr (5, [.int (jI mth1'), .int (jI mn), .ref a0, .int (jI mp), .int (jI mw), .ref a1, .ref a2, .ref a3, .ref a4, .ref a5, .ref a6, .ref a7, .ref a8, .ref a9, .ref a10, .long (jL mu), .long (jL md), .int (jI mo), .ref a11]))] H → va_D A [(a1, .inl (cZ, 62, .inl (jA y1))), (a2, .inl (cA, 62, .inl (jA y2))), (a3, .inl (cZ, 496, .inl (jA y3))), (a4, .inl (cA, 496, .inl (jA y4))), (a5, .inl (cA, 496, .inl (jA y5))), (a7, .inl (cA, 248, .inl (jA y7))), (a8, .inl (cZ, 8, .inl (jA y8))), (a9, .inl (cA, 64, .inl (jA y9))), (a10, .inl (cA, 8, .inl (jA y10))), (ma, .inr (5, [.int (jI mth1'), .int (jI mn), .ref a0, .int (jI mp), .int (jI mw), .ref a1, .ref a2, .ref a3, .ref a4, .ref a5, .ref a6, .ref a7, .ref a8, .ref a9, .ref a10, .long (jL mu), .long (jL md), .int (jI mo), .ref a11]))] → va_S A s.heap H locs → ∀ ls : Array Slot, lv_has ls 4 [(3, .int (jI k)), (0, .ref ma), (1, .int (jI z1)), (2, .int (jI z2))] → W p l e R s m ([.ref ma, .int (jI z1), .int (jI z2)] : List Value).toArray below meth c H locs 0 0 Q (F0 m 33 ls []) := by
        intro n9
        induction n9 with
        | zero =>
          intro k hm hk
          exact absurd hm (by omega)
        | succ n9 ih33 =>
          intro k hm hk H locs hP hD hS ls hl
          refine lv_iload_n hx hb dXM_holds_33 rfl (lv_at hl 0 rfl) ?_
          refine ji_bipush hx hb dXM_holds_34 (by decide) ?_
          refine ji_icmp_ge (tgt := 77) hx hb dXM_holds_36 (by decide) (by first | omega | decide) (by first | omega | decide) (fun c36_ => ?_) (fun c36_ => ?_)
          · refine ji_iconst hx hb dXM_holds_77 ?_
            refine lv_istore_n (lv' := [(3, .int (jI 0)), (0, .ref ma), (1, .int (jI z1)), (2, .int (jI z2))]) hx hb dXM_holds_78 rfl hl (by decide) rfl (fun ls hl => ?_)
            have loop79 : ∀ (n9 : Nat) (k2 : Int) (u9 : Int) (d9 : Int) , 4 - k2 < (n9 : Int) → (0 ≤ k2 ∧ k2 ≤ 4) → ∀ (H : Heap) (locs : List Loc), va_P (dC, dI) vwCl [(a1, .inl (cZ, 62, .inl (jA y1))), (a2, .inl (cA, 62, .inl (jA y2))), (a3, .inl (cZ, 496, .inl (jA y3))), (a4, .inl (cA, 496, .inl (jA y4))), (a5, .inl (cA, 496, .inl (jA y5))), (a7, .inl (cA, 248, .inl (jA y7))), (a8, .inl (cZ, 8, .inl (jA y8))), (a9, .inl (cA, 64, .inl (jA y9))), (a10, .inl (cA, 8, .inl (jA y10))), (ma, .inr (5, [.int (jI mth1'), .int (jI mn), .ref a0, .int (jI mp), .int (jI mw), .ref a1, .ref a2, .ref a3, .ref a4, .ref a5, .ref a6, .ref a7, .ref a8, .ref a9, .ref a10, .long (jL u9), .long (jL d9), .int (jI mo), .ref a11]))] H → va_D A [(a1, .inl (cZ, 62, .inl (jA y1))), (a2, .inl (cA, 62, .inl (jA y2))), (a3, .inl (cZ, 496, .inl (jA y3))), (a4, .inl (cA, 496, .inl (jA y4))), (a5, .inl (cA, 496, .inl (jA y5))), (a7, .inl (cA, 248, .inl (jA y7))), (a8, .inl (cZ, 8, .inl (jA y8))), (a9, .inl (cA, 64, .inl (jA y9))), (a10, .inl (cA, 8, .inl (jA y10))), (ma, .inr (5, [.int (jI mth1'), .int (jI mn), .ref a0, .int (jI mp), .int (jI mw), .ref a1, .ref a2, .ref a3, .ref a4, .ref a5, .ref a6, .ref a7, .ref a8, .ref a9, .ref a10, .long (jL u9), .long (jL d9), .int (jI mo), .ref a11]))] → va_S A s.heap H locs → ∀ ls : Array Slot, lv_has ls 4 [(3, .int (jI k2)), (0, .ref ma), (1, .int (jI z1)), (2, .int (jI z2))] → W p l e R s m ([.ref ma, .int (jI z1), .int (jI z2)] : List Value).toArray below meth c H locs 0 0 Q (F0 m 79 ls []) := by
              intro n9
              induction n9 with
              | zero =>
                intro k2 u9 d9 hm hk2
                exact absurd hm (by omega)
              | succ n9 ih79 =>
                intro k2 u9 d9 hm hk2 H locs hP hD hS ls hl
                refine lv_iload_n hx hb dXM_holds_79 rfl (lv_at hl 0 rfl) ?_
                refine ji_iconst hx hb dXM_holds_80 ?_
                refine ji_icmp_ge (tgt := 103) hx hb dXM_holds_81 (by decide) (by first | omega | decide) (by first | omega | decide) (fun c81_ => ?_) (fun c81_ => ?_)
                · refine ji_iconst hx hb dXM_holds_103 ?_
                  have hP9 := hP.sub (ws' := [(ma, .inr (5, [.int (jI mth1'), .int (jI mn), .ref a0, .int (jI mp), .int (jI mw), .ref a1, .ref a2, .ref a3, .ref a4, .ref a5, .ref a6, .ref a7, .ref a8, .ref a9, .ref a10, .long (jL u9), .long (jL d9), .int (jI mo), .ref a11])), (a1, .inl (cZ, 62, .inl (jA y1))), (a2, .inl (cA, 62, .inl (jA y2))), (a3, .inl (cZ, 496, .inl (jA y3))), (a4, .inl (cA, 496, .inl (jA y4))), (a5, .inl (cA, 496, .inl (jA y5))), (a7, .inl (cA, 248, .inl (jA y7))), (a8, .inl (cZ, 8, .inl (jA y8))), (a9, .inl (cA, 64, .inl (jA y9))), (a10, .inl (cA, 8, .inl (jA y10)))]) [9, 0, 1, 2, 3, 4, 5, 6, 7, 8] rfl
                  have hD9 := hD.sub (ws' := [(ma, .inr (5, [.int (jI mth1'), .int (jI mn), .ref a0, .int (jI mp), .int (jI mw), .ref a1, .ref a2, .ref a3, .ref a4, .ref a5, .ref a6, .ref a7, .ref a8, .ref a9, .ref a10, .long (jL u9), .long (jL d9), .int (jI mo), .ref a11])), (a1, .inl (cZ, 62, .inl (jA y1))), (a2, .inl (cA, 62, .inl (jA y2))), (a3, .inl (cZ, 496, .inl (jA y3))), (a4, .inl (cA, 496, .inl (jA y4))), (a5, .inl (cA, 496, .inl (jA y5))), (a7, .inl (cA, 248, .inl (jA y7))), (a8, .inl (cZ, 8, .inl (jA y8))), (a9, .inl (cA, 64, .inl (jA y9))), (a10, .inl (cA, 8, .inl (jA y10)))]) [9, 0, 1, 2, 3, 4, 5, 6, 7, 8] (by decide) rfl
                  subst hAe
                  subst hQ
                  exact W.zret (v := jI 1) hx hb hr (by first | decide | exact jz (by omega)) (fun t ht hW => ⟨⟨_, (1, mth1', u9, d9), rfl, ⟨rfl, (show 0 ≤ mth1' ∧ mth1' ≤ 2 from by first | assumption | omega | exact jset_b (by assumption) (by omega)), (show 0 ≤ (1 : Int) ∧ (1 : Int) ≤ 1 from by first | assumption | omega | exact jset_b (by assumption) (by omega))⟩, ⟨by rw [ht]; exact hP9, va_K.moved hW.alike hK, hD9⟩⟩, hS.F ht⟩) hS.2.2 dXM_holds_104
                · refine lv_aload_n hx hb dXM_holds_84 rfl (lv_at hl 1 rfl) ?_
                  refine lv_iload_n hx hb dXM_holds_85 rfl (lv_at hl 2 rfl) ?_
                  refine lv_iload_n hx hb dXM_holds_86 rfl (lv_at hl 3 rfl) ?_
                  refine lv_iload_n hx hb dXM_holds_87 rfl (lv_at hl 0 rfl) ?_
                  refine ji_iconst hx hb dXM_holds_88 ?_
                  refine jwVi (rest := []) (wr := []) ⟨hx, hb, hml, hown, hts⟩ (c_XM_isAbove l dC dI cA cZ _ ma a0 a1 a2 a3 a4 a5 a6 a7 a8 a9 a10 a11 mth1' mn mp mw u9 d9 mo y1 y2 y3 y4 y5 y7 y8 y9 y10 z1 z2 k2 1 (by first | assumption | omega | exact jset_b (by assumption) (by omega)) (by first | assumption | omega | exact jset_b (by assumption) (by omega)) (by first | assumption | omega | exact jset_b (by assumption) (by omega)) (by first | assumption | omega | exact jset_b (by assumption) (by omega)) (by first | assumption | omega | exact jset_b (by assumption) (by omega)) (by first | assumption | omega | exact jset_b (by assumption) (by omega)) (by first | assumption | omega | exact jset_b (by assumption) (by omega)) (by first | assumption | omega | exact jset_b (by assumption) (by omega)) (by first | assumption | omega | exact jset_b (by assumption) (by omega)) (by first | assumption | omega | exact jset_b (by assumption) (by omega)) (by first | assumption | omega | exact jset_b (by assumption) (by omega)) (by first | assumption | omega | exact jset_b (by assumption) (by omega))) (cwV 4 hts (jG_V tw_826 tw_828 ts_37 tw_6 tw_829) rfl rfl rfl (by decide +kernel) (by rw [hR]; exact ⟨Nat.le_of_ble_eq_true rfl, Nat.le_of_ble_eq_true rfl⟩)) hK hP hD hS hA hN [9, 0, 1, 2, 3, 4, 5, 6, 7, 8] [] rfl rfl (by decide) (by decide) (by decide) 9 5 rfl rfl rfl rfl hl.1 rfl (Nat.le_of_ble_eq_true rfl) dXM_holds_89 (by rw [hR]; exact ⟨Nat.le_of_ble_eq_true rfl, Nat.le_of_ble_eq_true rfl⟩) (fun v3 u2 H locs hwb4 hP hD hS => ?_)
                  obtain ⟨r1, mu1', md1'⟩ := u2
                  try dsimp only at hwb4
                  obtain ⟨er, f5⟩ := hwb4
                  subst er
                  have f5 : 0 ≤ r1 ∧ r1 ≤ 1 := f5
                  have hP : va_P (dC, dI) vwCl [(ma, .inr (5, [.int (jI mth1'), .int (jI mn), .ref a0, .int (jI mp), .int (jI mw), .ref a1, .ref a2, .ref a3, .ref a4, .ref a5, .ref a6, .ref a7, .ref a8, .ref a9, .ref a10, .long (jL mu1'), .long (jL md1'), .int (jI mo), .ref a11])), (a1, .inl (cZ, 62, .inl (jA y1))), (a2, .inl (cA, 62, .inl (jA y2))), (a3, .inl (cZ, 496, .inl (jA y3))), (a4, .inl (cA, 496, .inl (jA y4))), (a5, .inl (cA, 496, .inl (jA y5))), (a7, .inl (cA, 248, .inl (jA y7))), (a8, .inl (cZ, 8, .inl (jA y8))), (a9, .inl (cA, 64, .inl (jA y9))), (a10, .inl (cA, 8, .inl (jA y10)))] H := hP
                  have hD : va_D A [(ma, .inr (5, [.int (jI mth1'), .int (jI mn), .ref a0, .int (jI mp), .int (jI mw), .ref a1, .ref a2, .ref a3, .ref a4, .ref a5, .ref a6, .ref a7, .ref a8, .ref a9, .ref a10, .long (jL mu1'), .long (jL md1'), .int (jI mo), .ref a11])), (a1, .inl (cZ, 62, .inl (jA y1))), (a2, .inl (cA, 62, .inl (jA y2))), (a3, .inl (cZ, 496, .inl (jA y3))), (a4, .inl (cA, 496, .inl (jA y4))), (a5, .inl (cA, 496, .inl (jA y5))), (a7, .inl (cA, 248, .inl (jA y7))), (a8, .inl (cZ, 8, .inl (jA y8))), (a9, .inl (cA, 64, .inl (jA y9))), (a10, .inl (cA, 8, .inl (jA y10)))] := hD
                  refine ji_if_eq (tgt := 97) hx hb dXM_holds_92 (by decide) (by first | omega | decide) (fun c92_ => ?_) (fun c92_ => ?_)
                  · refine ji_iinc (k := 0) (lv' := [(3, .int (jI (k2 + 1))), (0, .ref ma), (1, .int (jI z1)), (2, .int (jI z2))]) hx hb dXM_holds_97 hl rfl (by decide) rfl (fun ls hl => ?_)
                    refine lv_goto (tgt := 79) hx hb dXM_holds_100 (by decide) ?_
                    exact ih79 (k2 + 1) mu1' md1' (by omega) (by first | assumption | omega | exact jset_b (by assumption) (by omega)) _ _ (hP.sub [1, 2, 3, 4, 5, 6, 7, 8, 9, 0] rfl) (hD.sub [1, 2, 3, 4, 5, 6, 7, 8, 9, 0] (by decide) rfl) hS ls (lv_sub hl [0, 1, 2, 3] rfl)
                  · refine ji_iconst hx hb dXM_holds_95 ?_
                    have hP9 := hP.sub (ws' := [(ma, .inr (5, [.int (jI mth1'), .int (jI mn), .ref a0, .int (jI mp), .int (jI mw), .ref a1, .ref a2, .ref a3, .ref a4, .ref a5, .ref a6, .ref a7, .ref a8, .ref a9, .ref a10, .long (jL mu1'), .long (jL md1'), .int (jI mo), .ref a11])), (a1, .inl (cZ, 62, .inl (jA y1))), (a2, .inl (cA, 62, .inl (jA y2))), (a3, .inl (cZ, 496, .inl (jA y3))), (a4, .inl (cA, 496, .inl (jA y4))), (a5, .inl (cA, 496, .inl (jA y5))), (a7, .inl (cA, 248, .inl (jA y7))), (a8, .inl (cZ, 8, .inl (jA y8))), (a9, .inl (cA, 64, .inl (jA y9))), (a10, .inl (cA, 8, .inl (jA y10)))]) [0, 1, 2, 3, 4, 5, 6, 7, 8, 9] rfl
                    have hD9 := hD.sub (ws' := [(ma, .inr (5, [.int (jI mth1'), .int (jI mn), .ref a0, .int (jI mp), .int (jI mw), .ref a1, .ref a2, .ref a3, .ref a4, .ref a5, .ref a6, .ref a7, .ref a8, .ref a9, .ref a10, .long (jL mu1'), .long (jL md1'), .int (jI mo), .ref a11])), (a1, .inl (cZ, 62, .inl (jA y1))), (a2, .inl (cA, 62, .inl (jA y2))), (a3, .inl (cZ, 496, .inl (jA y3))), (a4, .inl (cA, 496, .inl (jA y4))), (a5, .inl (cA, 496, .inl (jA y5))), (a7, .inl (cA, 248, .inl (jA y7))), (a8, .inl (cZ, 8, .inl (jA y8))), (a9, .inl (cA, 64, .inl (jA y9))), (a10, .inl (cA, 8, .inl (jA y10)))]) [0, 1, 2, 3, 4, 5, 6, 7, 8, 9] (by decide) rfl
                    subst hAe
                    subst hQ
                    exact W.zret (v := jI 0) hx hb hr (by first | decide | exact jz (by omega)) (fun t ht hW => ⟨⟨_, (0, mth1', mu1', md1'), rfl, ⟨rfl, (show 0 ≤ mth1' ∧ mth1' ≤ 2 from by first | assumption | omega | exact jset_b (by assumption) (by omega)), (show 0 ≤ (0 : Int) ∧ (0 : Int) ≤ 1 from by first | assumption | omega | exact jset_b (by assumption) (by omega))⟩, ⟨by rw [ht]; exact hP9, va_K.moved hW.alike hK, hD9⟩⟩, hS.F ht⟩) hS.2.2 dXM_holds_96
            exact loop79 (Int.toNat (4 - 0) + 1) 0 mu md (by omega) (by first | assumption | omega | exact jset_b (by assumption) (by omega)) _ _ hP hD hS ls (lv_sub hl [0, 1, 2, 3] rfl)
          · refine lv_aload_n hx hb dXM_holds_39 rfl (lv_at hl 1 rfl) ?_
            refine lv_iload_n hx hb dXM_holds_40 rfl (lv_at hl 3 rfl) ?_
            refine lv_iload_n hx hb dXM_holds_41 rfl (lv_at hl 0 rfl) ?_
            refine jwVi (rest := []) (wr := [(a5, .inl (cA, 496, .inl (jA y5))), (a7, .inl (cA, 248, .inl (jA y7))), (a8, .inl (cZ, 8, .inl (jA y8))), (a9, .inl (cA, 64, .inl (jA y9))), (a10, .inl (cA, 8, .inl (jA y10)))]) ⟨hx, hb, hml, hown, hts⟩ (c_XM_lowOf l dC dI cA cZ _ ma a0 a1 a2 a3 a4 a5 a6 a7 a8 a9 a10 a11 mth1' mn mp mw mu md mo y1 y2 y3 y4 z2 k (by first | assumption | omega | exact jset_b (by assumption) (by omega)) (by first | assumption | omega | exact jset_b (by assumption) (by omega)) (by first | assumption | omega | exact jset_b (by assumption) (by omega)) (by first | assumption | omega | exact jset_b (by assumption) (by omega)) (by first | assumption | omega | exact jset_b (by assumption) (by omega)) (by first | assumption | omega | exact jset_b (by assumption) (by omega))) (cwV 2 hts (jG_V tw_775 tw_777 ts_30 tw_6 tw_778) rfl rfl rfl (by decide +kernel) (by rw [hR]; exact ⟨Nat.le_of_ble_eq_true rfl, Nat.le_of_ble_eq_true rfl⟩)) hK hP hD hS hA hN [9, 0, 1, 2, 3] [4, 5, 6, 7, 8] rfl rfl (by decide) (by decide) (by decide) 9 5 rfl rfl rfl rfl hl.1 rfl (Nat.le_of_ble_eq_true rfl) dXM_holds_42 (by rw [hR]; exact ⟨Nat.le_of_ble_eq_true rfl, Nat.le_of_ble_eq_true rfl⟩) (fun v8 u7 H locs hwb9 hP hD hS => ?_)
            try dsimp only at hwb9
            obtain ⟨er, f10⟩ := hwb9
            subst er
            have f10 : 0 ≤ u7 ∧ u7 ≤ 100000 := f10
            have hP : va_P (dC, dI) vwCl [(a5, .inl (cA, 496, .inl (jA y5))), (a7, .inl (cA, 248, .inl (jA y7))), (a8, .inl (cZ, 8, .inl (jA y8))), (a9, .inl (cA, 64, .inl (jA y9))), (a10, .inl (cA, 8, .inl (jA y10))), (ma, .inr (5, [.int (jI mth1'), .int (jI mn), .ref a0, .int (jI mp), .int (jI mw), .ref a1, .ref a2, .ref a3, .ref a4, .ref a5, .ref a6, .ref a7, .ref a8, .ref a9, .ref a10, .long (jL mu), .long (jL md), .int (jI mo), .ref a11])), (a1, .inl (cZ, 62, .inl (jA y1))), (a2, .inl (cA, 62, .inl (jA y2))), (a3, .inl (cZ, 496, .inl (jA y3))), (a4, .inl (cA, 496, .inl (jA y4)))] H := hP
            have hD : va_D A [(a5, .inl (cA, 496, .inl (jA y5))), (a7, .inl (cA, 248, .inl (jA y7))), (a8, .inl (cZ, 8, .inl (jA y8))), (a9, .inl (cA, 64, .inl (jA y9))), (a10, .inl (cA, 8, .inl (jA y10))), (ma, .inr (5, [.int (jI mth1'), .int (jI mn), .ref a0, .int (jI mp), .int (jI mw), .ref a1, .ref a2, .ref a3, .ref a4, .ref a5, .ref a6, .ref a7, .ref a8, .ref a9, .ref a10, .long (jL mu), .long (jL md), .int (jI mo), .ref a11])), (a1, .inl (cZ, 62, .inl (jA y1))), (a2, .inl (cA, 62, .inl (jA y2))), (a3, .inl (cZ, 496, .inl (jA y3))), (a4, .inl (cA, 496, .inl (jA y4)))] := hD
            refine lv_aload_n hx hb dXM_holds_45 rfl (lv_at hl 1 rfl) ?_
            refine lv_iload_n hx hb dXM_holds_46 rfl (lv_at hl 2 rfl) ?_
            refine lv_iload_n hx hb dXM_holds_47 rfl (lv_at hl 0 rfl) ?_
            refine jwVi (rest := [.int (jI u7)]) (wr := [(a5, .inl (cA, 496, .inl (jA y5))), (a7, .inl (cA, 248, .inl (jA y7))), (a8, .inl (cZ, 8, .inl (jA y8))), (a9, .inl (cA, 64, .inl (jA y9))), (a10, .inl (cA, 8, .inl (jA y10)))]) ⟨hx, hb, hml, hown, hts⟩ (c_XM_lowOf l dC dI cA cZ _ ma a0 a1 a2 a3 a4 a5 a6 a7 a8 a9 a10 a11 mth1' mn mp mw mu md mo y1 y2 y3 y4 z1 k (by first | assumption | omega | exact jset_b (by assumption) (by omega)) (by first | assumption | omega | exact jset_b (by assumption) (by omega)) (by first | assumption | omega | exact jset_b (by assumption) (by omega)) (by first | assumption | omega | exact jset_b (by assumption) (by omega)) (by first | assumption | omega | exact jset_b (by assumption) (by omega)) (by first | assumption | omega | exact jset_b (by assumption) (by omega))) (cwV 2 hts (jG_V tw_775 tw_777 ts_30 tw_6 tw_778) rfl rfl rfl (by decide +kernel) (by rw [hR]; exact ⟨Nat.le_of_ble_eq_true rfl, Nat.le_of_ble_eq_true rfl⟩)) hK hP hD hS hA hN [5, 6, 7, 8, 9] [0, 1, 2, 3, 4] rfl rfl (by decide) (by decide) (by decide) 5 5 rfl rfl rfl rfl hl.1 rfl (Nat.le_of_ble_eq_true rfl) dXM_holds_48 (by rw [hR]; exact ⟨Nat.le_of_ble_eq_true rfl, Nat.le_of_ble_eq_true rfl⟩) (fun v13 u12 H locs hwb14 hP hD hS => ?_)
            try dsimp only at hwb14
            obtain ⟨er, f15⟩ := hwb14
            subst er
            have f15 : 0 ≤ u12 ∧ u12 ≤ 100000 := f15
            have hP : va_P (dC, dI) vwCl [(a5, .inl (cA, 496, .inl (jA y5))), (a7, .inl (cA, 248, .inl (jA y7))), (a8, .inl (cZ, 8, .inl (jA y8))), (a9, .inl (cA, 64, .inl (jA y9))), (a10, .inl (cA, 8, .inl (jA y10))), (ma, .inr (5, [.int (jI mth1'), .int (jI mn), .ref a0, .int (jI mp), .int (jI mw), .ref a1, .ref a2, .ref a3, .ref a4, .ref a5, .ref a6, .ref a7, .ref a8, .ref a9, .ref a10, .long (jL mu), .long (jL md), .int (jI mo), .ref a11])), (a1, .inl (cZ, 62, .inl (jA y1))), (a2, .inl (cA, 62, .inl (jA y2))), (a3, .inl (cZ, 496, .inl (jA y3))), (a4, .inl (cA, 496, .inl (jA y4)))] H := hP
            have hD : va_D A [(a5, .inl (cA, 496, .inl (jA y5))), (a7, .inl (cA, 248, .inl (jA y7))), (a8, .inl (cZ, 8, .inl (jA y8))), (a9, .inl (cA, 64, .inl (jA y9))), (a10, .inl (cA, 8, .inl (jA y10))), (ma, .inr (5, [.int (jI mth1'), .int (jI mn), .ref a0, .int (jI mp), .int (jI mw), .ref a1, .ref a2, .ref a3, .ref a4, .ref a5, .ref a6, .ref a7, .ref a8, .ref a9, .ref a10, .long (jL mu), .long (jL md), .int (jI mo), .ref a11])), (a1, .inl (cZ, 62, .inl (jA y1))), (a2, .inl (cA, 62, .inl (jA y2))), (a3, .inl (cZ, 496, .inl (jA y3))), (a4, .inl (cA, 496, .inl (jA y4)))] := hD
            refine ji_icmp_lt (tgt := 69) hx hb dXM_holds_51 (by decide) (by first | omega | decide) (by first | omega | decide) (fun c51_ => ?_) (fun c51_ => ?_)
            · refine ji_iconst hx hb dXM_holds_69 ?_
              have hP9 := hP.sub (ws' := [(ma, .inr (5, [.int (jI mth1'), .int (jI mn), .ref a0, .int (jI mp), .int (jI mw), .ref a1, .ref a2, .ref a3, .ref a4, .ref a5, .ref a6, .ref a7, .ref a8, .ref a9, .ref a10, .long (jL mu), .long (jL md), .int (jI mo), .ref a11])), (a1, .inl (cZ, 62, .inl (jA y1))), (a2, .inl (cA, 62, .inl (jA y2))), (a3, .inl (cZ, 496, .inl (jA y3))), (a4, .inl (cA, 496, .inl (jA y4))), (a5, .inl (cA, 496, .inl (jA y5))), (a7, .inl (cA, 248, .inl (jA y7))), (a8, .inl (cZ, 8, .inl (jA y8))), (a9, .inl (cA, 64, .inl (jA y9))), (a10, .inl (cA, 8, .inl (jA y10)))]) [5, 6, 7, 8, 9, 0, 1, 2, 3, 4] rfl
              have hD9 := hD.sub (ws' := [(ma, .inr (5, [.int (jI mth1'), .int (jI mn), .ref a0, .int (jI mp), .int (jI mw), .ref a1, .ref a2, .ref a3, .ref a4, .ref a5, .ref a6, .ref a7, .ref a8, .ref a9, .ref a10, .long (jL mu), .long (jL md), .int (jI mo), .ref a11])), (a1, .inl (cZ, 62, .inl (jA y1))), (a2, .inl (cA, 62, .inl (jA y2))), (a3, .inl (cZ, 496, .inl (jA y3))), (a4, .inl (cA, 496, .inl (jA y4))), (a5, .inl (cA, 496, .inl (jA y5))), (a7, .inl (cA, 248, .inl (jA y7))), (a8, .inl (cZ, 8, .inl (jA y8))), (a9, .inl (cA, 64, .inl (jA y9))), (a10, .inl (cA, 8, .inl (jA y10)))]) [5, 6, 7, 8, 9, 0, 1, 2, 3, 4] (by decide) rfl
              subst hAe
              subst hQ
              exact W.zret (v := jI 0) hx hb hr (by first | decide | exact jz (by omega)) (fun t ht hW => ⟨⟨_, (0, mth1', mu, md), rfl, ⟨rfl, (show 0 ≤ mth1' ∧ mth1' ≤ 2 from by first | assumption | omega | exact jset_b (by assumption) (by omega)), (show 0 ≤ (0 : Int) ∧ (0 : Int) ≤ 1 from by first | assumption | omega | exact jset_b (by assumption) (by omega))⟩, ⟨by rw [ht]; exact hP9, va_K.moved hW.alike hK, hD9⟩⟩, hS.F ht⟩) hS.2.2 dXM_holds_70
            · refine lv_aload_n hx hb dXM_holds_54 rfl (lv_at hl 1 rfl) ?_
              refine lv_iload_n hx hb dXM_holds_55 rfl (lv_at hl 3 rfl) ?_
              refine lv_iload_n hx hb dXM_holds_56 rfl (lv_at hl 0 rfl) ?_
              refine jwVi (rest := []) (wr := [(a7, .inl (cA, 248, .inl (jA y7))), (a8, .inl (cZ, 8, .inl (jA y8))), (a9, .inl (cA, 64, .inl (jA y9))), (a10, .inl (cA, 8, .inl (jA y10))), (a4, .inl (cA, 496, .inl (jA y4)))]) ⟨hx, hb, hml, hown, hts⟩ (c_XM_highOf l dC dI cA cZ _ ma a0 a1 a2 a3 a4 a5 a6 a7 a8 a9 a10 a11 mth1' mn mp mw mu md mo y1 y2 y3 y5 z2 k (by first | assumption | omega | exact jset_b (by assumption) (by omega)) (by first | assumption | omega | exact jset_b (by assumption) (by omega)) (by first | assumption | omega | exact jset_b (by assumption) (by omega)) (by first | assumption | omega | exact jset_b (by assumption) (by omega)) (by first | assumption | omega | exact jset_b (by assumption) (by omega)) (by first | assumption | omega | exact jset_b (by assumption) (by omega))) (cwV 2 hts (jG_V tw_787 tw_789 ts_33 tw_6 tw_790) rfl rfl rfl (by decide +kernel) (by rw [hR]; exact ⟨Nat.le_of_ble_eq_true rfl, Nat.le_of_ble_eq_true rfl⟩)) hK hP hD hS hA hN [5, 6, 7, 8, 0] [1, 2, 3, 4, 9] rfl rfl (by decide) (by decide) (by decide) 5 5 rfl rfl rfl rfl hl.1 rfl (Nat.le_of_ble_eq_true rfl) dXM_holds_57 (by rw [hR]; exact ⟨Nat.le_of_ble_eq_true rfl, Nat.le_of_ble_eq_true rfl⟩) (fun v18 u17 H locs hwb19 hP hD hS => ?_)
              try dsimp only at hwb19
              obtain ⟨er, f20⟩ := hwb19
              subst er
              have f20 : 0 ≤ u17 ∧ u17 ≤ 100000 := f20
              have hP : va_P (dC, dI) vwCl [(a7, .inl (cA, 248, .inl (jA y7))), (a8, .inl (cZ, 8, .inl (jA y8))), (a9, .inl (cA, 64, .inl (jA y9))), (a10, .inl (cA, 8, .inl (jA y10))), (a4, .inl (cA, 496, .inl (jA y4))), (ma, .inr (5, [.int (jI mth1'), .int (jI mn), .ref a0, .int (jI mp), .int (jI mw), .ref a1, .ref a2, .ref a3, .ref a4, .ref a5, .ref a6, .ref a7, .ref a8, .ref a9, .ref a10, .long (jL mu), .long (jL md), .int (jI mo), .ref a11])), (a1, .inl (cZ, 62, .inl (jA y1))), (a2, .inl (cA, 62, .inl (jA y2))), (a3, .inl (cZ, 496, .inl (jA y3))), (a5, .inl (cA, 496, .inl (jA y5)))] H := hP
              have hD : va_D A [(a7, .inl (cA, 248, .inl (jA y7))), (a8, .inl (cZ, 8, .inl (jA y8))), (a9, .inl (cA, 64, .inl (jA y9))), (a10, .inl (cA, 8, .inl (jA y10))), (a4, .inl (cA, 496, .inl (jA y4))), (ma, .inr (5, [.int (jI mth1'), .int (jI mn), .ref a0, .int (jI mp), .int (jI mw), .ref a1, .ref a2, .ref a3, .ref a4, .ref a5, .ref a6, .ref a7, .ref a8, .ref a9, .ref a10, .long (jL mu), .long (jL md), .int (jI mo), .ref a11])), (a1, .inl (cZ, 62, .inl (jA y1))), (a2, .inl (cA, 62, .inl (jA y2))), (a3, .inl (cZ, 496, .inl (jA y3))), (a5, .inl (cA, 496, .inl (jA y5)))] := hD
              refine lv_aload_n hx hb dXM_holds_60 rfl (lv_at hl 1 rfl) ?_
              refine lv_iload_n hx hb dXM_holds_61 rfl (lv_at hl 2 rfl) ?_
              refine lv_iload_n hx hb dXM_holds_62 rfl (lv_at hl 0 rfl) ?_
              refine jwVi (rest := [.int (jI u17)]) (wr := [(a7, .inl (cA, 248, .inl (jA y7))), (a8, .inl (cZ, 8, .inl (jA y8))), (a9, .inl (cA, 64, .inl (jA y9))), (a10, .inl (cA, 8, .inl (jA y10))), (a4, .inl (cA, 496, .inl (jA y4)))]) ⟨hx, hb, hml, hown, hts⟩ (c_XM_highOf l dC dI cA cZ _ ma a0 a1 a2 a3 a4 a5 a6 a7 a8 a9 a10 a11 mth1' mn mp mw mu md mo y1 y2 y3 y5 z1 k (by first | assumption | omega | exact jset_b (by assumption) (by omega)) (by first | assumption | omega | exact jset_b (by assumption) (by omega)) (by first | assumption | omega | exact jset_b (by assumption) (by omega)) (by first | assumption | omega | exact jset_b (by assumption) (by omega)) (by first | assumption | omega | exact jset_b (by assumption) (by omega)) (by first | assumption | omega | exact jset_b (by assumption) (by omega))) (cwV 2 hts (jG_V tw_787 tw_789 ts_33 tw_6 tw_790) rfl rfl rfl (by decide +kernel) (by rw [hR]; exact ⟨Nat.le_of_ble_eq_true rfl, Nat.le_of_ble_eq_true rfl⟩)) hK hP hD hS hA hN [5, 6, 7, 8, 9] [0, 1, 2, 3, 4] rfl rfl (by decide) (by decide) (by decide) 5 5 rfl rfl rfl rfl hl.1 rfl (Nat.le_of_ble_eq_true rfl) dXM_holds_63 (by rw [hR]; exact ⟨Nat.le_of_ble_eq_true rfl, Nat.le_of_ble_eq_true rfl⟩) (fun v23 u22 H locs hwb24 hP hD hS => ?_)
              try dsimp only at hwb24
              obtain ⟨er, f25⟩ := hwb24
              subst er
              have f25 : 0 ≤ u22 ∧ u22 ≤ 100000 := f25
              have hP : va_P (dC, dI) vwCl [(a7, .inl (cA, 248, .inl (jA y7))), (a8, .inl (cZ, 8, .inl (jA y8))), (a9, .inl (cA, 64, .inl (jA y9))), (a10, .inl (cA, 8, .inl (jA y10))), (a4, .inl (cA, 496, .inl (jA y4))), (ma, .inr (5, [.int (jI mth1'), .int (jI mn), .ref a0, .int (jI mp), .int (jI mw), .ref a1, .ref a2, .ref a3, .ref a4, .ref a5, .ref a6, .ref a7, .ref a8, .ref a9, .ref a10, .long (jL mu), .long (jL md), .int (jI mo), .ref a11])), (a1, .inl (cZ, 62, .inl (jA y1))), (a2, .inl (cA, 62, .inl (jA y2))), (a3, .inl (cZ, 496, .inl (jA y3))), (a5, .inl (cA, 496, .inl (jA y5)))] H := hP
              have hD : va_D A [(a7, .inl (cA, 248, .inl (jA y7))), (a8, .inl (cZ, 8, .inl (jA y8))), (a9, .inl (cA, 64, .inl (jA y9))), (a10, .inl (cA, 8, .inl (jA y10))), (a4, .inl (cA, 496, .inl (jA y4))), (ma, .inr (5, [.int (jI mth1'), .int (jI mn), .ref a0, .int (jI mp), .int (jI mw), .ref a1, .ref a2, .ref a3, .ref a4, .ref a5, .ref a6, .ref a7, .ref a8, .ref a9, .ref a10, .long (jL mu), .long (jL md), .int (jI mo), .ref a11])), (a1, .inl (cZ, 62, .inl (jA y1))), (a2, .inl (cA, 62, .inl (jA y2))), (a3, .inl (cZ, 496, .inl (jA y3))), (a5, .inl (cA, 496, .inl (jA y5)))] := hD
              refine ji_icmp_le (tgt := 71) hx hb dXM_holds_66 (by decide) (by first | omega | decide) (by first | omega | decide) (fun c66_ => ?_) (fun c66_ => ?_)
              · refine ji_iinc (k := 0) (lv' := [(3, .int (jI (k + 1))), (0, .ref ma), (1, .int (jI z1)), (2, .int (jI z2))]) hx hb dXM_holds_71 hl rfl (by decide) rfl (fun ls hl => ?_)
                refine lv_goto (tgt := 33) hx hb dXM_holds_74 (by decide) ?_
                exact ih33 (k + 1) (by omega) (by first | assumption | omega | exact jset_b (by assumption) (by omega)) _ _ (hP.sub [6, 7, 8, 4, 9, 0, 1, 2, 3, 5] rfl) (hD.sub [6, 7, 8, 4, 9, 0, 1, 2, 3, 5] (by decide) rfl) hS ls (lv_sub hl [0, 1, 2, 3] rfl)
              · refine ji_iconst hx hb dXM_holds_69 ?_
                have hP9 := hP.sub (ws' := [(ma, .inr (5, [.int (jI mth1'), .int (jI mn), .ref a0, .int (jI mp), .int (jI mw), .ref a1, .ref a2, .ref a3, .ref a4, .ref a5, .ref a6, .ref a7, .ref a8, .ref a9, .ref a10, .long (jL mu), .long (jL md), .int (jI mo), .ref a11])), (a1, .inl (cZ, 62, .inl (jA y1))), (a2, .inl (cA, 62, .inl (jA y2))), (a3, .inl (cZ, 496, .inl (jA y3))), (a4, .inl (cA, 496, .inl (jA y4))), (a5, .inl (cA, 496, .inl (jA y5))), (a7, .inl (cA, 248, .inl (jA y7))), (a8, .inl (cZ, 8, .inl (jA y8))), (a9, .inl (cA, 64, .inl (jA y9))), (a10, .inl (cA, 8, .inl (jA y10)))]) [5, 6, 7, 8, 4, 9, 0, 1, 2, 3] rfl
                have hD9 := hD.sub (ws' := [(ma, .inr (5, [.int (jI mth1'), .int (jI mn), .ref a0, .int (jI mp), .int (jI mw), .ref a1, .ref a2, .ref a3, .ref a4, .ref a5, .ref a6, .ref a7, .ref a8, .ref a9, .ref a10, .long (jL mu), .long (jL md), .int (jI mo), .ref a11])), (a1, .inl (cZ, 62, .inl (jA y1))), (a2, .inl (cA, 62, .inl (jA y2))), (a3, .inl (cZ, 496, .inl (jA y3))), (a4, .inl (cA, 496, .inl (jA y4))), (a5, .inl (cA, 496, .inl (jA y5))), (a7, .inl (cA, 248, .inl (jA y7))), (a8, .inl (cZ, 8, .inl (jA y8))), (a9, .inl (cA, 64, .inl (jA y9))), (a10, .inl (cA, 8, .inl (jA y10)))]) [5, 6, 7, 8, 4, 9, 0, 1, 2, 3] (by decide) rfl
                subst hAe
                subst hQ
                exact W.zret (v := jI 0) hx hb hr (by first | decide | exact jz (by omega)) (fun t ht hW => ⟨⟨_, (0, mth1', mu, md), rfl, ⟨rfl, (show 0 ≤ mth1' ∧ mth1' ≤ 2 from by first | assumption | omega | exact jset_b (by assumption) (by omega)), (show 0 ≤ (0 : Int) ∧ (0 : Int) ≤ 1 from by first | assumption | omega | exact jset_b (by assumption) (by omega))⟩, ⟨by rw [ht]; exact hP9, va_K.moved hW.alike hK, hD9⟩⟩, hS.F ht⟩) hS.2.2 dXM_holds_70
      exact loop33 (Int.toNat (8 - 0) + 1) 0 (by omega) (by first | assumption | omega | exact jset_b (by assumption) (by omega)) _ _ hP hD hS ls (lv_sub hl [0, 1, 2, 3] rfl)
    · refine ji_iconst hx hb dXM_holds_29 ?_
      have hP9 := hP.sub (ws' := [(ma, .inr (5, [.int (jI mth1'), .int (jI mn), .ref a0, .int (jI mp), .int (jI mw), .ref a1, .ref a2, .ref a3, .ref a4, .ref a5, .ref a6, .ref a7, .ref a8, .ref a9, .ref a10, .long (jL mu), .long (jL md), .int (jI mo), .ref a11])), (a1, .inl (cZ, 62, .inl (jA y1))), (a2, .inl (cA, 62, .inl (jA y2))), (a3, .inl (cZ, 496, .inl (jA y3))), (a4, .inl (cA, 496, .inl (jA y4))), (a5, .inl (cA, 496, .inl (jA y5))), (a7, .inl (cA, 248, .inl (jA y7))), (a8, .inl (cZ, 8, .inl (jA y8))), (a9, .inl (cA, 64, .inl (jA y9))), (a10, .inl (cA, 8, .inl (jA y10)))]) [9, 0, 1, 2, 3, 4, 5, 6, 7, 8] rfl
      have hD9 := hD.sub (ws' := [(ma, .inr (5, [.int (jI mth1'), .int (jI mn), .ref a0, .int (jI mp), .int (jI mw), .ref a1, .ref a2, .ref a3, .ref a4, .ref a5, .ref a6, .ref a7, .ref a8, .ref a9, .ref a10, .long (jL mu), .long (jL md), .int (jI mo), .ref a11])), (a1, .inl (cZ, 62, .inl (jA y1))), (a2, .inl (cA, 62, .inl (jA y2))), (a3, .inl (cZ, 496, .inl (jA y3))), (a4, .inl (cA, 496, .inl (jA y4))), (a5, .inl (cA, 496, .inl (jA y5))), (a7, .inl (cA, 248, .inl (jA y7))), (a8, .inl (cZ, 8, .inl (jA y8))), (a9, .inl (cA, 64, .inl (jA y9))), (a10, .inl (cA, 8, .inl (jA y10)))]) [9, 0, 1, 2, 3, 4, 5, 6, 7, 8] (by decide) rfl
      subst hAe
      subst hQ
      exact W.zret (v := jI 0) hx hb hr (by first | decide | exact jz (by omega)) (fun t ht hW => ⟨⟨_, (0, mth1', mu, md), rfl, ⟨rfl, (show 0 ≤ mth1' ∧ mth1' ≤ 2 from by first | assumption | omega | exact jset_b (by assumption) (by omega)), (show 0 ≤ (0 : Int) ∧ (0 : Int) ≤ 1 from by first | assumption | omega | exact jset_b (by assumption) (by omega))⟩, ⟨by rw [ht]; exact hP9, va_K.moved hW.alike hK, hD9⟩⟩, hS.F ht⟩) hS.2.2 dXM_holds_30
  refine lv_aload_n hx hb dXM_holds_1 rfl (lv_at hl 0 rfl) ?_
  refine lv_iload_n hx hb dXM_holds_2 rfl (lv_at hl 1 rfl) ?_
  refine jrVi (rest := [.ref ma]) ⟨hx, hb, hml, hown, hts⟩ (c_XM_isTold l dC dI cA cZ ma a0 a1 a2 a3 a4 a5 a6 a7 a8 a9 a10 a11 mth mn mp mw mu md mo y1 z1 (by first | assumption | omega) (by first | assumption | omega)) (cwV 1 hts (jG_V tw_768 tw_770 ts_29 tw_6 tw_771) rfl rfl rfl (by decide +kernel) (by rw [hR]; exact ⟨Nat.le_of_ble_eq_true rfl, Nat.le_of_ble_eq_true rfl⟩)) hK hP hN [0, 1] rfl 0 5 rfl rfl rfl rfl hl.1 rfl (Nat.le_of_ble_eq_true rfl) dXM_holds_3 (by rw [hR]; exact ⟨Nat.le_of_ble_eq_true rfl, Nat.le_of_ble_eq_true rfl⟩) ?_
  have f26 := f_XM_isTold_b mth mn mp mw mu md mo y1 z1 (by first | assumption | omega) (by first | assumption | omega)
  refine ji_if_eq (tgt := 21) hx hb dXM_holds_6 (by decide) (by first | omega | decide) (fun c6_ => ?_) (fun c6_ => ?_)
  · refine ji_iconst hx hb dXM_holds_21 ?_
    exact join22 0 (by first | assumption | omega | exact jset_b (by assumption) (by omega)) _ _ hP hD hS ls (lv_sub hl [0, 1, 2] rfl)
  · refine lv_aload_n hx hb dXM_holds_9 rfl (lv_at hl 0 rfl) ?_
    refine lv_iload_n hx hb dXM_holds_10 rfl (lv_at hl 2 rfl) ?_
    refine jrVi (rest := [.ref ma]) ⟨hx, hb, hml, hown, hts⟩ (c_XM_isTold l dC dI cA cZ ma a0 a1 a2 a3 a4 a5 a6 a7 a8 a9 a10 a11 mth mn mp mw mu md mo y1 z2 (by first | assumption | omega) (by first | assumption | omega)) (cwV 1 hts (jG_V tw_768 tw_770 ts_29 tw_6 tw_771) rfl rfl rfl (by decide +kernel) (by rw [hR]; exact ⟨Nat.le_of_ble_eq_true rfl, Nat.le_of_ble_eq_true rfl⟩)) hK hP hN [0, 1] rfl 0 5 rfl rfl rfl rfl hl.1 rfl (Nat.le_of_ble_eq_true rfl) dXM_holds_11 (by rw [hR]; exact ⟨Nat.le_of_ble_eq_true rfl, Nat.le_of_ble_eq_true rfl⟩) ?_
    have f27 := f_XM_isTold_b mth mn mp mw mu md mo y1 z2 (by first | assumption | omega) (by first | assumption | omega)
    refine ji_if_eq (tgt := 21) hx hb dXM_holds_14 (by decide) (by first | omega | decide) (fun c14_ => ?_) (fun c14_ => ?_)
    · refine ji_iconst hx hb dXM_holds_21 ?_
      exact join22 0 (by first | assumption | omega | exact jset_b (by assumption) (by omega)) _ _ hP hD hS ls (lv_sub hl [0, 1, 2] rfl)
    · refine ji_iconst hx hb dXM_holds_17 ?_
      refine lv_goto (tgt := 22) hx hb dXM_holds_18 (by decide) ?_
      exact join22 1 (by first | assumption | omega | exact jset_b (by assumption) (by omega)) _ _ hP hD hS ls (lv_sub hl [0, 1, 2] rfl)
end
section
theorem tdg (a b : Int) (ha : 0 ≤ a) (hb : 1 ≤ b) : (9 < Int.tdiv a b → 10 * b ≤ a) ∧ 0 ≤ Int.tdiv a b ∧ Int.tdiv a b ≤ a := by
  have h1 := tdb a b ha hb
  refine ⟨fun h => ?_, h1⟩
  rw [Int.tdiv_eq_ediv_of_nonneg ha] at h
  have h2 := Int.mul_ediv_self_le (x := a) (k := b) (by omega)
  have h3 := Int.mul_le_mul_of_nonneg_left (show 10 ≤ a / b by omega) (show 0 ≤ b by omega)
  omega
theorem td10 (u : Int) (h : u = 1 ∨ u = 10 ∨ u = 100 ∨ u = 1000 ∨ u = 10000 ∨ u = 100000) : (u = 1 ∧ Int.tdiv u 10 = 0) ∨ (u = 10 ∧ Int.tdiv u 10 = 1) ∨ (u = 100 ∧ Int.tdiv u 10 = 10) ∨ (u = 1000 ∧ Int.tdiv u 10 = 100) ∨ (u = 10000 ∧ Int.tdiv u 10 = 1000) ∨ (u = 100000 ∧ Int.tdiv u 10 = 10000) := by
  rcases h with rfl | rfl | rfl | rfl | rfl | rfl <;> decide
set_option maxHeartbeats 4000000 in
set_option maxRecDepth 100000 in
theorem c_XM_put (l : Launch) (dC : Nat → ClassId) (dI : Nat → Nat → Nat) (cA cZ : ClassId) (sz : Nat) (ma : Nat) (a0 : Nat) (a1 : Nat) (a2 : Nat) (a3 : Nat) (a4 : Nat) (a5 : Nat) (a6 : Nat) (a7 : Nat) (a8 : Nat) (a9 : Nat) (a10 : Nat) (a11 : Nat) (mth : Int) (mn : Int) (mp : Int) (mw : Int) (mu : Int) (md : Int) (mo : Int) (y11 : Int → Int) (z1 : Int) (hmo : 0 ≤ mo ∧ mo ≤ 299) : Met l yXM_put (Cond.code yXM_put cXM_put 2 none :: TBL) ({ frames := 0, cells := 0, slots := 0, locals := 0 } : Room) (va_Pc [.ref ma, .int (jI z1)] (jBw (dC, dI) [(cA, .int), (cZ, .boolean)] [(ma, .inr (5, [.int (jI mth), .int (jI mn), .ref a0, .int (jI mp), .int (jI mw), .ref a1, .ref a2, .ref a3, .ref a4, .ref a5, .ref a6, .ref a7, .ref a8, .ref a9, .ref a10, .long (jL mu), .long (jL md), .int (jI mo), .ref a11])), (a11, .inl (cA, 300, .inl (jA y11)))] sz)) (va_Qv (fun (u : Int × (Int → Int)) => (u.1 = mo + 1)) (fun u t => jE (dC, dI) [(cA, .int), (cZ, .boolean)] [(ma, .inr (5, [.int (jI mth), .int (jI mn), .ref a0, .int (jI mp), .int (jI mw), .ref a1, .ref a2, .ref a3, .ref a4, .ref a5, .ref a6, .ref a7, .ref a8, .ref a9, .ref a10, .long (jL mu), .long (jL md), .int (jI mo), .ref a11])), (a11, .inl (cA, 300, .inl (jA y11)))] sz [(ma, .inr (5, [.int (jI mth), .int (jI mn), .ref a0, .int (jI mp), .int (jI mw), .ref a1, .ref a2, .ref a3, .ref a4, .ref a5, .ref a6, .ref a7, .ref a8, .ref a9, .ref a10, .long (jL mu), .long (jL md), .int (jI u.1), .ref a11])), (a11, .inl (cA, 300, .inl (jA u.2)))] t) (va_A [(ma, .inr (5, [.int (jI mth), .int (jI mn), .ref a0, .int (jI mp), .int (jI mw), .ref a1, .ref a2, .ref a3, .ref a4, .ref a5, .ref a6, .ref a7, .ref a8, .ref a9, .ref a10, .long (jL mu), .long (jL md), .int (jI mo), .ref a11])), (a11, .inl (cA, 300, .inl (jA y11)))] sz)) 0 0 (va_A [(ma, .inr (5, [.int (jI mth), .int (jI mn), .ref a0, .int (jI mp), .int (jI mw), .ref a1, .ref a2, .ref a3, .ref a4, .ref a5, .ref a6, .ref a7, .ref a8, .ref a9, .ref a10, .long (jL mu), .long (jL md), .int (jI mo), .ref a11])), (a11, .inl (cA, 300, .inl (jA y11)))] sz) := by
  refine jMet (cc := cXM_put) (maxL := 2) (ret := none) (by decide) rfl ?_
  intro p e s m args below meth c s₁ R Q hR hQ B hml hv
  obtain ⟨rfl, hsz, hP, hK, hD0, hN⟩ := hv
  have hx := B.exec
  have hb := B.bytes
  have hr := B.returns
  have hts := atoms_spec (ws := Cond.code yXM_put cXM_put 2 none :: TBL) B.pre
  have hown : s.vm.findClass RXM = some m.cls := findClass_of_methodNamed B.named
  have hlocks := B.notSynchronized
  subst hsz
  obtain ⟨A, hAe⟩ : ∃ A, A = va_A [(ma, .inr (5, [.int (jI mth), .int (jI mn), .ref a0, .int (jI mp), .int (jI mw), .ref a1, .ref a2, .ref a3, .ref a4, .ref a5, .ref a6, .ref a7, .ref a8, .ref a9, .ref a10, .long (jL mu), .long (jL md), .int (jI mo), .ref a11])), (a11, .inl (cA, 300, .inl (jA y11)))] s.heap.size := ⟨_, rfl⟩
  have hD : va_D A [(ma, .inr (5, [.int (jI mth), .int (jI mn), .ref a0, .int (jI mp), .int (jI mw), .ref a1, .ref a2, .ref a3, .ref a4, .ref a5, .ref a6, .ref a7, .ref a8, .ref a9, .ref a10, .long (jL mu), .long (jL md), .int (jI mo), .ref a11])), (a11, .inl (cA, 300, .inl (jA y11)))] := by rw [hAe]; exact hD0.self
  have hA : ∀ q : Nat, s.heap.size ≤ q → A q := fun q h => by rw [hAe]; exact Or.inr h
  have hS : va_S A s.heap s.heap [] := va_S.rf
  have hP : va_P (dC, dI) vwCl [(ma, .inr (5, [.int (jI mth), .int (jI mn), .ref a0, .int (jI mp), .int (jI mw), .ref a1, .ref a2, .ref a3, .ref a4, .ref a5, .ref a6, .ref a7, .ref a8, .ref a9, .ref a10, .long (jL mu), .long (jL md), .int (jI mo), .ref a11])), (a11, .inl (cA, 300, .inl (jA y11)))] s.heap := hP
  have hl := lv_entry ([.ref ma, .int (jI z1)]) (n := 2) (Nat.le_of_ble_eq_true rfl)
  rw [lg_entry_eq]
  generalize (lg_sl ([.ref ma, .int (jI z1)]) ++ List.replicate (2 - (lg_sl ([.ref ma, .int (jI z1)])).length) Slot.unset).toArray = ls at hl ⊢
  have hl : lv_has ls 2 [(0, .ref ma), (1, .int (jI z1))] := hl
  refine lv_aload_n hx hb dXM_put_0 rfl (lv_at hl 0 rfl) ?_
  refine va_get (D := (dC, dI)) (ci := 5) (v := .ref a11) (C := RXM) (T := TXM) (N := 19) hx hb hts (fun w h => jmem (inXM w h)) hown hK hP 0 rfl rfl 18 (by decide) (hts _ (jmem tw_646)) (fun _ h9 => h9) rfl dXM_put_1 ?_
  refine lv_aload_n hx hb dXM_put_4 rfl (lv_at hl 0 rfl) ?_
  refine va_get (D := (dC, dI)) (ci := 5) (v := .int (jI mo)) (C := RXM) (T := TXM) (N := 19) hx hb hts (fun w h => jmem (inXM w h)) hown hK hP 0 rfl rfl 17 (by decide) (hts _ (jmem tw_645)) (fun _ h9 => h9) rfl dXM_put_5 ?_
  refine lv_iload_n hx hb dXM_put_8 rfl (lv_at hl 1 rfl) ?_
  refine ji_iast hx hb hK hP hD hS 1 0 rfl rfl ⟨by omega, by omega⟩ (by decide) dXM_put_9 (fun H locs hP hD hS => ?_)
  have hP : va_P (dC, dI) vwCl [(ma, .inr (5, [.int (jI mth), .int (jI mn), .ref a0, .int (jI mp), .int (jI mw), .ref a1, .ref a2, .ref a3, .ref a4, .ref a5, .ref a6, .ref a7, .ref a8, .ref a9, .ref a10, .long (jL mu), .long (jL md), .int (jI mo), .ref a11])), (a11, .inl (cA, 300, .inl (jA (jset y11 mo z1))))] H := hP
  have hD : va_D A [(ma, .inr (5, [.int (jI mth), .int (jI mn), .ref a0, .int (jI mp), .int (jI mw), .ref a1, .ref a2, .ref a3, .ref a4, .ref a5, .ref a6, .ref a7, .ref a8, .ref a9, .ref a10, .long (jL mu), .long (jL md), .int (jI mo), .ref a11])), (a11, .inl (cA, 300, .inl (jA (jset y11 mo z1))))] := hD
  refine lv_aload_n hx hb dXM_put_10 rfl (lv_at hl 0 rfl) ?_
  refine lv_dup hx hb dXM_put_11 rfl ?_
  refine va_get (D := (dC, dI)) (ci := 5) (v := .int (jI mo)) (C := RXM) (T := TXM) (N := 19) hx hb hts (fun w h => jmem (inXM w h)) hown hK hP 0 rfl rfl 17 (by decide) (hts _ (jmem tw_645)) (fun _ h9 => h9) rfl dXM_put_12 ?_
  refine ji_iconst hx hb dXM_put_15 ?_
  refine ji_iadd hx hb dXM_put_16 ?_
  refine va_put (D := (dC, dI)) (ci := 5) (v := .int (jI (mo + 1))) (ty := (.int)) (C := RXM) (T := TXM) (N := 19) hx hb hts (fun w h => jmem (inXM w h)) tyXM tyXM_ok nXM hown hK hP hD hS 0 rfl rfl 17 (by decide) (hts _ (jmem tw_645)) (fun _ h9 => h9) rfl (by decide +kernel) rfl rfl (Nat.le_of_ble_eq_true rfl) dXM_put_17 (fun H locs hP hD hS => ?_)
  have hP : va_P (dC, dI) vwCl [(ma, .inr (5, [.int (jI mth), .int (jI mn), .ref a0, .int (jI mp), .int (jI mw), .ref a1, .ref a2, .ref a3, .ref a4, .ref a5, .ref a6, .ref a7, .ref a8, .ref a9, .ref a10, .long (jL mu), .long (jL md), .int (jI (mo + 1)), .ref a11])), (a11, .inl (cA, 300, .inl (jA (jset y11 mo z1))))] H := hP
  have hD : va_D A [(ma, .inr (5, [.int (jI mth), .int (jI mn), .ref a0, .int (jI mp), .int (jI mw), .ref a1, .ref a2, .ref a3, .ref a4, .ref a5, .ref a6, .ref a7, .ref a8, .ref a9, .ref a10, .long (jL mu), .long (jL md), .int (jI (mo + 1)), .ref a11])), (a11, .inl (cA, 300, .inl (jA (jset y11 mo z1))))] := hD
  have hP9 := hP.sub (ws' := [(ma, .inr (5, [.int (jI mth), .int (jI mn), .ref a0, .int (jI mp), .int (jI mw), .ref a1, .ref a2, .ref a3, .ref a4, .ref a5, .ref a6, .ref a7, .ref a8, .ref a9, .ref a10, .long (jL mu), .long (jL md), .int (jI (mo + 1)), .ref a11])), (a11, .inl (cA, 300, .inl (jA (jset y11 mo z1))))]) [0, 1] rfl
  have hD9 := hD.sub (ws' := [(ma, .inr (5, [.int (jI mth), .int (jI mn), .ref a0, .int (jI mp), .int (jI mw), .ref a1, .ref a2, .ref a3, .ref a4, .ref a5, .ref a6, .ref a7, .ref a8, .ref a9, .ref a10, .long (jL mu), .long (jL md), .int (jI (mo + 1)), .ref a11])), (a11, .inl (cA, 300, .inl (jA (jset y11 mo z1))))]) [0, 1] (by decide) rfl
  subst hAe
  subst hQ
  exact W.vret hx hb hr (fun t ht hW => ⟨⟨(mo + 1, jset y11 mo z1), rfl, (show (mo + 1) = mo + 1 from by first | assumption | omega | exact jset_b (by assumption) (by omega)), ⟨by rw [ht]; exact hP9, va_K.moved hW.alike hK, hD9⟩⟩, hS.F ht⟩) hS.2.2 dXM_put_20
set_option maxHeartbeats 4000000 in
set_option maxRecDepth 100000 in
theorem c_XM_tell (l : Launch) (dC : Nat → ClassId) (dI : Nat → Nat → Nat) (cA cZ : ClassId) (sz : Nat) (ma : Nat) (a0 : Nat) (a1 : Nat) (a2 : Nat) (a3 : Nat) (a4 : Nat) (a5 : Nat) (a6 : Nat) (a7 : Nat) (a8 : Nat) (a9 : Nat) (a10 : Nat) (a11 : Nat) (mth : Int) (mn : Int) (mp : Int) (mw : Int) (mu : Int) (md : Int) (mo : Int) (y11 : Int → Int) (z1 : Int) (z2 : Int) (hmo : 0 ≤ mo ∧ mo ≤ 290) (hz2 : 0 ≤ z2 ∧ z2 ≤ 999999) : Met l yXM_tell (Cond.code yXM_tell cXM_tell 4 none :: TBL) ({ frames := 1, cells := 0, slots := 0, locals := 21 } : Room) (va_Pc [.ref ma, .int (jI z1), .int (jI z2)] (jBw (dC, dI) [(cA, .int), (cZ, .boolean)] [(ma, .inr (5, [.int (jI mth), .int (jI mn), .ref a0, .int (jI mp), .int (jI mw), .ref a1, .ref a2, .ref a3, .ref a4, .ref a5, .ref a6, .ref a7, .ref a8, .ref a9, .ref a10, .long (jL mu), .long (jL md), .int (jI mo), .ref a11])), (a11, .inl (cA, 300, .inl (jA y11)))] sz)) (va_Qv (fun (u : Int × (Int → Int)) => (mo ≤ u.1 ∧ u.1 ≤ mo + 7)) (fun u t => jE (dC, dI) [(cA, .int), (cZ, .boolean)] [(ma, .inr (5, [.int (jI mth), .int (jI mn), .ref a0, .int (jI mp), .int (jI mw), .ref a1, .ref a2, .ref a3, .ref a4, .ref a5, .ref a6, .ref a7, .ref a8, .ref a9, .ref a10, .long (jL mu), .long (jL md), .int (jI mo), .ref a11])), (a11, .inl (cA, 300, .inl (jA y11)))] sz [(ma, .inr (5, [.int (jI mth), .int (jI mn), .ref a0, .int (jI mp), .int (jI mw), .ref a1, .ref a2, .ref a3, .ref a4, .ref a5, .ref a6, .ref a7, .ref a8, .ref a9, .ref a10, .long (jL mu), .long (jL md), .int (jI u.1), .ref a11])), (a11, .inl (cA, 300, .inl (jA u.2)))] t) (va_A [(ma, .inr (5, [.int (jI mth), .int (jI mn), .ref a0, .int (jI mp), .int (jI mw), .ref a1, .ref a2, .ref a3, .ref a4, .ref a5, .ref a6, .ref a7, .ref a8, .ref a9, .ref a10, .long (jL mu), .long (jL md), .int (jI mo), .ref a11])), (a11, .inl (cA, 300, .inl (jA y11)))] sz)) 0 0 (va_A [(ma, .inr (5, [.int (jI mth), .int (jI mn), .ref a0, .int (jI mp), .int (jI mw), .ref a1, .ref a2, .ref a3, .ref a4, .ref a5, .ref a6, .ref a7, .ref a8, .ref a9, .ref a10, .long (jL mu), .long (jL md), .int (jI mo), .ref a11])), (a11, .inl (cA, 300, .inl (jA y11)))] sz) := by
  refine jMet (cc := cXM_tell) (maxL := 4) (ret := none) (by decide) rfl ?_
  intro p e s m args below meth c s₁ R Q hR hQ B hml hv
  obtain ⟨rfl, hsz, hP, hK, hD0, hN⟩ := hv
  have hx := B.exec
  have hb := B.bytes
  have hr := B.returns
  have hts := atoms_spec (ws := Cond.code yXM_tell cXM_tell 4 none :: TBL) B.pre
  have hown : s.vm.findClass RXM = some m.cls := findClass_of_methodNamed B.named
  have hlocks := B.notSynchronized
  subst hsz
  obtain ⟨A, hAe⟩ : ∃ A, A = va_A [(ma, .inr (5, [.int (jI mth), .int (jI mn), .ref a0, .int (jI mp), .int (jI mw), .ref a1, .ref a2, .ref a3, .ref a4, .ref a5, .ref a6, .ref a7, .ref a8, .ref a9, .ref a10, .long (jL mu), .long (jL md), .int (jI mo), .ref a11])), (a11, .inl (cA, 300, .inl (jA y11)))] s.heap.size := ⟨_, rfl⟩
  have hD : va_D A [(ma, .inr (5, [.int (jI mth), .int (jI mn), .ref a0, .int (jI mp), .int (jI mw), .ref a1, .ref a2, .ref a3, .ref a4, .ref a5, .ref a6, .ref a7, .ref a8, .ref a9, .ref a10, .long (jL mu), .long (jL md), .int (jI mo), .ref a11])), (a11, .inl (cA, 300, .inl (jA y11)))] := by rw [hAe]; exact hD0.self
  have hA : ∀ q : Nat, s.heap.size ≤ q → A q := fun q h => by rw [hAe]; exact Or.inr h
  have hS : va_S A s.heap s.heap [] := va_S.rf
  have hP : va_P (dC, dI) vwCl [(ma, .inr (5, [.int (jI mth), .int (jI mn), .ref a0, .int (jI mp), .int (jI mw), .ref a1, .ref a2, .ref a3, .ref a4, .ref a5, .ref a6, .ref a7, .ref a8, .ref a9, .ref a10, .long (jL mu), .long (jL md), .int (jI mo), .ref a11])), (a11, .inl (cA, 300, .inl (jA y11)))] s.heap := hP
  have hl := lv_entry ([.ref ma, .int (jI z1), .int (jI z2)]) (n := 4) (Nat.le_of_ble_eq_true rfl)
  rw [lg_entry_eq]
  generalize (lg_sl ([.ref ma, .int (jI z1), .int (jI z2)]) ++ List.replicate (4 - (lg_sl ([.ref ma, .int (jI z1), .int (jI z2)])).length) Slot.unset).toArray = ls at hl ⊢
  have hl : lv_has ls 4 [(0, .ref ma), (1, .int (jI z1)), (2, .int (jI z2))] := hl
  refine lv_aload_n hx hb dXM_tell_0 rfl (lv_at hl 0 rfl) ?_
  refine lv_iload_n hx hb dXM_tell_1 rfl (lv_at hl 1 rfl) ?_
  refine jwVv (rest := []) (wr := []) ⟨hx, hb, hml, hown, hts⟩ (c_XM_put l dC dI cA cZ _ ma a0 a1 a2 a3 a4 a5 a6 a7 a8 a9 a10 a11 mth mn mp mw mu md mo y11 z1 (by first | assumption | omega | exact jset_b (by assumption) (by omega))) (cwV 1 hts (jG_V tw_854 tw_856 ts_39 tw_6 tw_857) rfl rfl rfl (by decide +kernel) (by rw [hR]; exact ⟨Nat.le_of_ble_eq_true rfl, Nat.le_of_ble_eq_true rfl⟩)) hK hP hD hS hA hN [0, 1] [] rfl rfl (by decide) (by decide) (by decide) 0 5 rfl rfl rfl rfl hl.1 rfl (Nat.le_of_ble_eq_true rfl) dXM_tell_2 (by rw [hR]; exact ⟨Nat.le_of_ble_eq_true rfl, Nat.le_of_ble_eq_true rfl⟩) (fun u H locs hwb hP hD hS => ?_)
  obtain ⟨mo1', y11n'⟩ := u
  try dsimp only at hwb
  have f := hwb
  have f : mo1' = mo + 1 := f
  have hP : va_P (dC, dI) vwCl [(ma, .inr (5, [.int (jI mth), .int (jI mn), .ref a0, .int (jI mp), .int (jI mw), .ref a1, .ref a2, .ref a3, .ref a4, .ref a5, .ref a6, .ref a7, .ref a8, .ref a9, .ref a10, .long (jL mu), .long (jL md), .int (jI mo1'), .ref a11])), (a11, .inl (cA, 300, .inl (jA y11n')))] H := hP
  have hD : va_D A [(ma, .inr (5, [.int (jI mth), .int (jI mn), .ref a0, .int (jI mp), .int (jI mw), .ref a1, .ref a2, .ref a3, .ref a4, .ref a5, .ref a6, .ref a7, .ref a8, .ref a9, .ref a10, .long (jL mu), .long (jL md), .int (jI mo1'), .ref a11])), (a11, .inl (cA, 300, .inl (jA y11n')))] := hD
  refine ji_iconst hx hb dXM_tell_5 ?_
  refine lv_istore_n (lv' := [(3, .int (jI 1)), (0, .ref ma), (1, .int (jI z1)), (2, .int (jI z2))]) hx hb dXM_tell_6 rfl hl (by decide) rfl (fun ls hl => ?_)
  have loop7 : ∀ (n9 : Nat) (u9 : Int) , 100001 - u9 < (n9 : Int) → (u9 = 1 ∨ u9 = 10 ∨ u9 = 100 ∨ u9 = 1000 ∨ u9 = 10000 ∨ u9 = 100000) → ∀ (H : Heap) (locs : List Loc), va_P (dC, dI) vwCl [(ma, .inr (5, [.int (jI mth), .int (jI mn), .ref a0, .int (jI mp), .int (jI mw), .ref a1, .ref a2, .ref a3, .ref a4, .ref a5, .ref a6, .ref a7, .ref a8, .ref a9, .ref a10, .long (jL mu), .long (jL md), .int (jI mo1'), .ref a11])), (a11, .inl (cA, 300, .inl (jA y11n')))] H → va_D A [(ma, .inr (5, [.int (jI mth), .int (jI mn), .ref a0, .int (jI mp), .int (jI mw), .ref a1, .ref a2, .ref a3, .ref a4, .ref a5, .ref a6, .ref a7, .ref a8, .ref a9, .ref a10, .long (jL mu), .long (jL md), .int (jI mo1'), .ref a11])), (a11, .inl (cA, 300, .inl (jA y11n')))] → va_S A s.heap H locs → ∀ ls : Array Slot, lv_has ls 4 [(3, .int (jI u9)), (0, .ref ma), (1, .int (jI z1)), (2, .int (jI z2))] → W p l e R s m ([.ref ma, .int (jI z1), .int (jI z2)] : List Value).toArray below meth c H locs 0 0 Q (F0 m 7 ls []) := by
    intro n9
    induction n9 with
    | zero =>
      intro u9 hm hu9
      exact absurd hm (by omega)
    | succ n9 ih7 =>
      intro u9 hm hu9 H locs hP hD hS ls hl
      refine lv_iload_n hx hb dXM_tell_7 rfl (lv_at hl 3 rfl) ?_
      refine lv_iload_n hx hb dXM_tell_8 rfl (lv_at hl 0 rfl) ?_
      refine ji_idiv hx hb dXM_tell_9 (by omega) (by omega) (by omega) (by omega) ?_
      have q1 := tdg z2 u9 (by omega) (by omega)
      refine ji_bipush hx hb dXM_tell_10 (by decide) ?_
      refine ji_icmp_le (tgt := 23) hx hb dXM_tell_12 (by decide) (by first | omega | decide) (by first | omega | decide) (fun c12_ => ?_) (fun c12_ => ?_)
      · have loop23 : ∀ (n9 : Nat) (v9 : Int) (m9 : Int) (w11 : Int → Int) , v9 < (n9 : Int) → ((v9 = 100000 ∧ m9 ≤ mo + 1) ∨ (v9 = 10000 ∧ m9 ≤ mo + 2) ∨ (v9 = 1000 ∧ m9 ≤ mo + 3) ∨ (v9 = 100 ∧ m9 ≤ mo + 4) ∨ (v9 = 10 ∧ m9 ≤ mo + 5) ∨ (v9 = 1 ∧ m9 ≤ mo + 6) ∨ (v9 = 0 ∧ m9 ≤ mo + 7)) → (mo ≤ m9) → ∀ (H : Heap) (locs : List Loc), va_P (dC, dI) vwCl [(ma, .inr (5, [.int (jI mth), .int (jI mn), .ref a0, .int (jI mp), .int (jI mw), .ref a1, .ref a2, .ref a3, .ref a4, .ref a5, .ref a6, .ref a7, .ref a8, .ref a9, .ref a10, .long (jL mu), .long (jL md), .int (jI m9), .ref a11])), (a11, .inl (cA, 300, .inl (jA w11)))] H → va_D A [(ma, .inr (5, [.int (jI mth), .int (jI mn), .ref a0, .int (jI mp), .int (jI mw), .ref a1, .ref a2, .ref a3, .ref a4, .ref a5, .ref a6, .ref a7, .ref a8, .ref a9, .ref a10, .long (jL mu), .long (jL md), .int (jI m9), .ref a11])), (a11, .inl (cA, 300, .inl (jA w11)))] → va_S A s.heap H locs → ∀ ls : Array Slot, lv_has ls 4 [(3, .int (jI v9)), (0, .ref ma), (1, .int (jI z1)), (2, .int (jI z2))] → W p l e R s m ([.ref ma, .int (jI z1), .int (jI z2)] : List Value).toArray below meth c H locs 0 0 Q (F0 m 23 ls []) := by
          intro n9
          induction n9 with
          | zero =>
            intro v9 m9 w11 hm hv9 hm9
            exact absurd hm (by omega)
          | succ n9 ih23 =>
            intro v9 m9 w11 hm hv9 hm9 H locs hP hD hS ls hl
            refine lv_iload_n hx hb dXM_tell_23 rfl (lv_at hl 0 rfl) ?_
            refine ji_if_le (tgt := 48) hx hb dXM_tell_24 (by decide) (by first | omega | decide) (fun c24_ => ?_) (fun c24_ => ?_)
            · have hP9 := hP.sub (ws' := [(ma, .inr (5, [.int (jI mth), .int (jI mn), .ref a0, .int (jI mp), .int (jI mw), .ref a1, .ref a2, .ref a3, .ref a4, .ref a5, .ref a6, .ref a7, .ref a8, .ref a9, .ref a10, .long (jL mu), .long (jL md), .int (jI m9), .ref a11])), (a11, .inl (cA, 300, .inl (jA w11)))]) [0, 1] rfl
              have hD9 := hD.sub (ws' := [(ma, .inr (5, [.int (jI mth), .int (jI mn), .ref a0, .int (jI mp), .int (jI mw), .ref a1, .ref a2, .ref a3, .ref a4, .ref a5, .ref a6, .ref a7, .ref a8, .ref a9, .ref a10, .long (jL mu), .long (jL md), .int (jI m9), .ref a11])), (a11, .inl (cA, 300, .inl (jA w11)))]) [0, 1] (by decide) rfl
              subst hAe
              subst hQ
              exact W.vret hx hb hr (fun t ht hW => ⟨⟨(m9, w11), rfl, (show mo ≤ m9 ∧ m9 ≤ mo + 7 from by first | assumption | omega | exact jset_b (by assumption) (by omega)), ⟨by rw [ht]; exact hP9, va_K.moved hW.alike hK, hD9⟩⟩, hS.F ht⟩) hS.2.2 dXM_tell_48
            · refine lv_aload_n hx hb dXM_tell_27 rfl (lv_at hl 1 rfl) ?_
              refine ji_bipush hx hb dXM_tell_28 (by decide) ?_
              refine lv_iload_n hx hb dXM_tell_30 rfl (lv_at hl 3 rfl) ?_
              refine lv_iload_n hx hb dXM_tell_31 rfl (lv_at hl 0 rfl) ?_
              refine ji_idiv hx hb dXM_tell_32 (by omega) (by omega) (by omega) (by omega) ?_
              have q2 := tdg z2 v9 (by omega) (by omega)
              refine ji_bipush hx hb dXM_tell_33 (by decide) ?_
              refine ji_irem hx hb dXM_tell_35 (by omega) (by omega) (by omega) (by omega) ?_
              refine ji_iadd hx hb dXM_tell_36 ?_
              refine jwVv (rest := []) (wr := []) ⟨hx, hb, hml, hown, hts⟩ (c_XM_put l dC dI cA cZ _ ma a0 a1 a2 a3 a4 a5 a6 a7 a8 a9 a10 a11 mth mn mp mw mu md m9 w11 (48 + (Int.tmod (Int.tdiv z2 v9) 10)) (by first | assumption | omega | exact jset_b (by assumption) (by omega))) (cwV 1 hts (jG_V tw_854 tw_856 ts_39 tw_6 tw_857) rfl rfl rfl (by decide +kernel) (by rw [hR]; exact ⟨Nat.le_of_ble_eq_true rfl, Nat.le_of_ble_eq_true rfl⟩)) hK hP hD hS hA hN [0, 1] [] rfl rfl (by decide) (by decide) (by decide) 0 5 rfl rfl rfl rfl hl.1 rfl (Nat.le_of_ble_eq_true rfl) dXM_tell_37 (by rw [hR]; exact ⟨Nat.le_of_ble_eq_true rfl, Nat.le_of_ble_eq_true rfl⟩) (fun u3 H locs hwb4 hP hD hS => ?_)
              obtain ⟨mo1'1, y11n'2⟩ := u3
              try dsimp only at hwb4
              have f5 := hwb4
              have f5 : mo1'1 = m9 + 1 := f5
              have hP : va_P (dC, dI) vwCl [(ma, .inr (5, [.int (jI mth), .int (jI mn), .ref a0, .int (jI mp), .int (jI mw), .ref a1, .ref a2, .ref a3, .ref a4, .ref a5, .ref a6, .ref a7, .ref a8, .ref a9, .ref a10, .long (jL mu), .long (jL md), .int (jI mo1'1), .ref a11])), (a11, .inl (cA, 300, .inl (jA y11n'2)))] H := hP
              have hD : va_D A [(ma, .inr (5, [.int (jI mth), .int (jI mn), .ref a0, .int (jI mp), .int (jI mw), .ref a1, .ref a2, .ref a3, .ref a4, .ref a5, .ref a6, .ref a7, .ref a8, .ref a9, .ref a10, .long (jL mu), .long (jL md), .int (jI mo1'1), .ref a11])), (a11, .inl (cA, 300, .inl (jA y11n'2)))] := hD
              refine lv_iload_n hx hb dXM_tell_40 rfl (lv_at hl 0 rfl) ?_
              refine ji_bipush hx hb dXM_tell_41 (by decide) ?_
              refine ji_idiv hx hb dXM_tell_43 (by omega) (by omega) (by omega) (by omega) ?_
              have q3 := td10 v9 (by omega)
              refine lv_istore_n (lv' := [(3, .int (jI (Int.tdiv v9 10))), (0, .ref ma), (1, .int (jI z1)), (2, .int (jI z2))]) hx hb dXM_tell_44 rfl hl (by decide) rfl (fun ls hl => ?_)
              refine lv_goto (tgt := 23) hx hb dXM_tell_45 (by decide) ?_
              exact ih23 (Int.tdiv v9 10) mo1'1 y11n'2 (by omega) (by first | assumption | omega | exact jset_b (by assumption) (by omega)) (by first | assumption | omega | exact jset_b (by assumption) (by omega)) _ _ hP hD hS ls (lv_sub hl [0, 1, 2, 3] rfl)
        exact loop23 (Int.toNat (u9) + 1) u9 mo1' y11n' (by omega) (by first | assumption | omega | exact jset_b (by assumption) (by omega)) (by first | assumption | omega | exact jset_b (by assumption) (by omega)) _ _ hP hD hS ls (lv_sub hl [0, 1, 2, 3] rfl)
      · refine ji_bipush hx hb dXM_tell_15 (by decide) ?_
        refine lv_iload_n hx hb dXM_tell_17 rfl (lv_at hl 0 rfl) ?_
        refine ji_imul hx hb dXM_tell_18 ?_
        refine lv_istore_n (lv' := [(3, .int (jI (10 * u9))), (0, .ref ma), (1, .int (jI z1)), (2, .int (jI z2))]) hx hb dXM_tell_19 rfl hl (by decide) rfl (fun ls hl => ?_)
        refine lv_goto (tgt := 7) hx hb dXM_tell_20 (by decide) ?_
        exact ih7 (10 * u9) (by omega) (by first | assumption | omega | exact jset_b (by assumption) (by omega)) _ _ hP hD hS ls (lv_sub hl [0, 1, 2, 3] rfl)
  exact loop7 (Int.toNat (100001 - 1) + 1) 1 (by omega) (by first | assumption | omega | exact jset_b (by assumption) (by omega)) _ _ hP hD hS ls (lv_sub hl [0, 1, 2, 3] rfl)
set_option maxHeartbeats 4000000 in
set_option maxRecDepth 100000 in
theorem c_XM_write (l : Launch) (dC : Nat → ClassId) (dI : Nat → Nat → Nat) (cA cZ : ClassId) (sz : Nat) (ma : Nat) (a0 : Nat) (a1 : Nat) (a2 : Nat) (a3 : Nat) (a4 : Nat) (a5 : Nat) (a6 : Nat) (a7 : Nat) (a8 : Nat) (a9 : Nat) (a10 : Nat) (a11 : Nat) (mth : Int) (mn : Int) (mp : Int) (mw : Int) (mu : Int) (md : Int) (mo : Int) (y1 : Int → Int) (y2 : Int → Int) (y3 : Int → Int) (y4 : Int → Int) (y5 : Int → Int) (y6 : Int → Int) (y7 : Int → Int) (y11 : Int → Int) (z1 : Int) (hy1 : ∀ i, 0 ≤ y1 i ∧ y1 i ≤ 1) (hy2 : ∀ i, 0 ≤ y2 i ∧ y2 i ≤ 30) (hy3 : ∀ i, 0 ≤ y3 i ∧ y3 i ≤ 1) (hy4 : ∀ i, 0 ≤ y4 i ∧ y4 i ≤ 100000) (hy5 : ∀ i, 0 ≤ y5 i ∧ y5 i ≤ 100000) (hy6 : ∀ i, -2147483648 ≤ y6 i ∧ y6 i ≤ 2147483647) (hy7 : ∀ i, -1 ≤ y7 i ∧ y7 i ≤ 999999) (hmo : 0 ≤ mo ∧ mo ≤ 300) (hiz1 : i32 z1) : Met l yXM_write (Cond.code yXM_write cXM_write 3 (some .int) :: TBL) ({ frames := 2, cells := 0, slots := 0, locals := 44 } : Room) (va_Pc [.ref ma, .int (jI z1)] (jBw (dC, dI) [(cA, .int), (cZ, .boolean)] [(ma, .inr (5, [.int (jI mth), .int (jI mn), .ref a0, .int (jI mp), .int (jI mw), .ref a1, .ref a2, .ref a3, .ref a4, .ref a5, .ref a6, .ref a7, .ref a8, .ref a9, .ref a10, .long (jL mu), .long (jL md), .int (jI mo), .ref a11])), (a1, .inl (cZ, 62, .inl (jA y1))), (a2, .inl (cA, 62, .inl (jA y2))), (a3, .inl (cZ, 496, .inl (jA y3))), (a4, .inl (cA, 496, .inl (jA y4))), (a5, .inl (cA, 496, .inl (jA y5))), (a6, .inl (cA, 62, .inl (jA y6))), (a7, .inl (cA, 248, .inl (jA y7))), (a11, .inl (cA, 300, .inl (jA y11)))] sz)) (va_Qi (fun (r : Int32) (u : Int × Int × Int × (Int → Int)) => r = jI u.1 ∧ (0 ≤ u.2.1 ∧ u.2.1 ≤ 2) ∧ (0 ≤ u.2.2.1 ∧ u.2.2.1 ≤ 300)) (fun u t => jE (dC, dI) [(cA, .int), (cZ, .boolean)] [(ma, .inr (5, [.int (jI mth), .int (jI mn), .ref a0, .int (jI mp), .int (jI mw), .ref a1, .ref a2, .ref a3, .ref a4, .ref a5, .ref a6, .ref a7, .ref a8, .ref a9, .ref a10, .long (jL mu), .long (jL md), .int (jI mo), .ref a11])), (a1, .inl (cZ, 62, .inl (jA y1))), (a2, .inl (cA, 62, .inl (jA y2))), (a3, .inl (cZ, 496, .inl (jA y3))), (a4, .inl (cA, 496, .inl (jA y4))), (a5, .inl (cA, 496, .inl (jA y5))), (a6, .inl (cA, 62, .inl (jA y6))), (a7, .inl (cA, 248, .inl (jA y7))), (a11, .inl (cA, 300, .inl (jA y11)))] sz [(ma, .inr (5, [.int (jI u.2.1), .int (jI mn), .ref a0, .int (jI mp), .int (jI mw), .ref a1, .ref a2, .ref a3, .ref a4, .ref a5, .ref a6, .ref a7, .ref a8, .ref a9, .ref a10, .long (jL mu), .long (jL md), .int (jI u.2.2.1), .ref a11])), (a1, .inl (cZ, 62, .inl (jA y1))), (a2, .inl (cA, 62, .inl (jA y2))), (a3, .inl (cZ, 496, .inl (jA y3))), (a4, .inl (cA, 496, .inl (jA y4))), (a5, .inl (cA, 496, .inl (jA y5))), (a6, .inl (cA, 62, .inl (jA y6))), (a7, .inl (cA, 248, .inl (jA y7))), (a11, .inl (cA, 300, .inl (jA u.2.2.2)))] t) (va_A [(ma, .inr (5, [.int (jI mth), .int (jI mn), .ref a0, .int (jI mp), .int (jI mw), .ref a1, .ref a2, .ref a3, .ref a4, .ref a5, .ref a6, .ref a7, .ref a8, .ref a9, .ref a10, .long (jL mu), .long (jL md), .int (jI mo), .ref a11])), (a1, .inl (cZ, 62, .inl (jA y1))), (a2, .inl (cA, 62, .inl (jA y2))), (a3, .inl (cZ, 496, .inl (jA y3))), (a4, .inl (cA, 496, .inl (jA y4))), (a5, .inl (cA, 496, .inl (jA y5))), (a6, .inl (cA, 62, .inl (jA y6))), (a7, .inl (cA, 248, .inl (jA y7))), (a11, .inl (cA, 300, .inl (jA y11)))] sz)) 0 0 (va_A [(ma, .inr (5, [.int (jI mth), .int (jI mn), .ref a0, .int (jI mp), .int (jI mw), .ref a1, .ref a2, .ref a3, .ref a4, .ref a5, .ref a6, .ref a7, .ref a8, .ref a9, .ref a10, .long (jL mu), .long (jL md), .int (jI mo), .ref a11])), (a1, .inl (cZ, 62, .inl (jA y1))), (a2, .inl (cA, 62, .inl (jA y2))), (a3, .inl (cZ, 496, .inl (jA y3))), (a4, .inl (cA, 496, .inl (jA y4))), (a5, .inl (cA, 496, .inl (jA y5))), (a6, .inl (cA, 62, .inl (jA y6))), (a7, .inl (cA, 248, .inl (jA y7))), (a11, .inl (cA, 300, .inl (jA y11)))] sz) := by
  refine jMet (cc := cXM_write) (maxL := 3) (ret := some .int) (by decide) rfl ?_
  intro p e s m args below meth c s₁ R Q hR hQ B hml hv
  obtain ⟨rfl, hsz, hP, hK, hD0, hN⟩ := hv
  have hx := B.exec
  have hb := B.bytes
  have hr := B.returns
  have hts := atoms_spec (ws := Cond.code yXM_write cXM_write 3 (some .int) :: TBL) B.pre
  have hown : s.vm.findClass RXM = some m.cls := findClass_of_methodNamed B.named
  have hlocks := B.notSynchronized
  subst hsz
  obtain ⟨A, hAe⟩ : ∃ A, A = va_A [(ma, .inr (5, [.int (jI mth), .int (jI mn), .ref a0, .int (jI mp), .int (jI mw), .ref a1, .ref a2, .ref a3, .ref a4, .ref a5, .ref a6, .ref a7, .ref a8, .ref a9, .ref a10, .long (jL mu), .long (jL md), .int (jI mo), .ref a11])), (a1, .inl (cZ, 62, .inl (jA y1))), (a2, .inl (cA, 62, .inl (jA y2))), (a3, .inl (cZ, 496, .inl (jA y3))), (a4, .inl (cA, 496, .inl (jA y4))), (a5, .inl (cA, 496, .inl (jA y5))), (a6, .inl (cA, 62, .inl (jA y6))), (a7, .inl (cA, 248, .inl (jA y7))), (a11, .inl (cA, 300, .inl (jA y11)))] s.heap.size := ⟨_, rfl⟩
  have hD : va_D A [(ma, .inr (5, [.int (jI mth), .int (jI mn), .ref a0, .int (jI mp), .int (jI mw), .ref a1, .ref a2, .ref a3, .ref a4, .ref a5, .ref a6, .ref a7, .ref a8, .ref a9, .ref a10, .long (jL mu), .long (jL md), .int (jI mo), .ref a11])), (a1, .inl (cZ, 62, .inl (jA y1))), (a2, .inl (cA, 62, .inl (jA y2))), (a3, .inl (cZ, 496, .inl (jA y3))), (a4, .inl (cA, 496, .inl (jA y4))), (a5, .inl (cA, 496, .inl (jA y5))), (a6, .inl (cA, 62, .inl (jA y6))), (a7, .inl (cA, 248, .inl (jA y7))), (a11, .inl (cA, 300, .inl (jA y11)))] := by rw [hAe]; exact hD0.self
  have hA : ∀ q : Nat, s.heap.size ≤ q → A q := fun q h => by rw [hAe]; exact Or.inr h
  have hS : va_S A s.heap s.heap [] := va_S.rf
  have hP : va_P (dC, dI) vwCl [(ma, .inr (5, [.int (jI mth), .int (jI mn), .ref a0, .int (jI mp), .int (jI mw), .ref a1, .ref a2, .ref a3, .ref a4, .ref a5, .ref a6, .ref a7, .ref a8, .ref a9, .ref a10, .long (jL mu), .long (jL md), .int (jI mo), .ref a11])), (a1, .inl (cZ, 62, .inl (jA y1))), (a2, .inl (cA, 62, .inl (jA y2))), (a3, .inl (cZ, 496, .inl (jA y3))), (a4, .inl (cA, 496, .inl (jA y4))), (a5, .inl (cA, 496, .inl (jA y5))), (a6, .inl (cA, 62, .inl (jA y6))), (a7, .inl (cA, 248, .inl (jA y7))), (a11, .inl (cA, 300, .inl (jA y11)))] s.heap := hP
  have hl := lv_entry ([.ref ma, .int (jI z1)]) (n := 3) (Nat.le_of_ble_eq_true rfl)
  rw [lg_entry_eq]
  generalize (lg_sl ([.ref ma, .int (jI z1)]) ++ List.replicate (3 - (lg_sl ([.ref ma, .int (jI z1)])).length) Slot.unset).toArray = ls at hl ⊢
  have hl : lv_has ls 3 [(0, .ref ma), (1, .int (jI z1))] := hl
  refine lv_aload_n hx hb dXM_write_0 rfl (lv_at hl 0 rfl) ?_
  refine lv_aload_n hx hb dXM_write_1 rfl (lv_at hl 0 rfl) ?_
  refine lv_iload_n hx hb dXM_write_2 rfl (lv_at hl 1 rfl) ?_
  refine jrVi (rest := [.ref ma]) ⟨hx, hb, hml, hown, hts⟩ (c_XM_isTold l dC dI cA cZ ma a0 a1 a2 a3 a4 a5 a6 a7 a8 a9 a10 a11 mth mn mp mw mu md mo y1 z1 (by first | assumption | omega) (by first | assumption | omega)) (cwV 1 hts (jG_V tw_768 tw_770 ts_29 tw_6 tw_771) rfl rfl rfl (by decide +kernel) (by rw [hR]; exact ⟨Nat.le_of_ble_eq_true rfl, Nat.le_of_ble_eq_true rfl⟩)) hK hP hN [0, 1] rfl 0 5 rfl rfl rfl rfl hl.1 rfl (Nat.le_of_ble_eq_true rfl) dXM_write_3 (by rw [hR]; exact ⟨Nat.le_of_ble_eq_true rfl, Nat.le_of_ble_eq_true rfl⟩) ?_
  have f := f_XM_isTold_b mth mn mp mw mu md mo y1 z1 (by first | assumption | omega) (by first | assumption | omega)
  refine ji_iconst hx hb dXM_write_6 ?_
  refine jwVi (rest := []) (wr := [(a1, .inl (cZ, 62, .inl (jA y1))), (a2, .inl (cA, 62, .inl (jA y2))), (a3, .inl (cZ, 496, .inl (jA y3))), (a4, .inl (cA, 496, .inl (jA y4))), (a5, .inl (cA, 496, .inl (jA y5))), (a6, .inl (cA, 62, .inl (jA y6))), (a7, .inl (cA, 248, .inl (jA y7))), (a11, .inl (cA, 300, .inl (jA y11)))]) ⟨hx, hb, hml, hown, hts⟩ (c_XM_goes l dC dI cA cZ _ ma a0 a1 a2 a3 a4 a5 a6 a7 a8 a9 a10 a11 mth mn mp mw mu md mo (f_XM_isTold mth mn mp mw mu md mo y1 z1) 1 (by first | assumption | omega | exact jset_b (by assumption) (by omega)) (by first | assumption | omega | exact jset_b (by assumption) (by omega))) (cwV 2 hts (jG_V tw_698 tw_700 ts_14 tw_6 tw_701) rfl rfl rfl (by decide +kernel) (by rw [hR]; exact ⟨Nat.le_of_ble_eq_true rfl, Nat.le_of_ble_eq_true rfl⟩)) hK hP hD hS hA hN [0] [1, 2, 3, 4, 5, 6, 7, 8] rfl rfl (by decide) (by decide) (by decide) 0 5 rfl rfl rfl rfl hl.1 rfl (Nat.le_of_ble_eq_true rfl) dXM_write_7 (by rw [hR]; exact ⟨Nat.le_of_ble_eq_true rfl, Nat.le_of_ble_eq_true rfl⟩) (fun v u H locs hwb hP hD hS => ?_)
  obtain ⟨r, mth1'⟩ := u
  try dsimp only at hwb
  obtain ⟨er, f1⟩ := hwb
  subst er
  have f1 : (r = 0 ∧ mth1' = 1 ∧ (f_XM_isTold mth mn mp mw mu md mo y1 z1) = 0) ∨ (r = 0 ∧ mth1' = 2 ∧ (f_XM_isTold mth mn mp mw mu md mo y1 z1) = 1 ∧ (1 : Int) = 0) ∨ (r = 1 ∧ mth1' = 0 ∧ (f_XM_isTold mth mn mp mw mu md mo y1 z1) = 1 ∧ (1 : Int) = 1) := f1
  have hP : va_P (dC, dI) vwCl [(a1, .inl (cZ, 62, .inl (jA y1))), (a2, .inl (cA, 62, .inl (jA y2))), (a3, .inl (cZ, 496, .inl (jA y3))), (a4, .inl (cA, 496, .inl (jA y4))), (a5, .inl (cA, 496, .inl (jA y5))), (a6, .inl (cA, 62, .inl (jA y6))), (a7, .inl (cA, 248, .inl (jA y7))), (a11, .inl (cA, 300, .inl (jA y11))), (ma, .inr (5, [.int (jI mth1'), .int (jI mn), .ref a0, .int (jI mp), .int (jI mw), .ref a1, .ref a2, .ref a3, .ref a4, .ref a5, .ref a6, .ref a7, .ref a8, .ref a9, .ref a10, .long (jL mu), .long (jL md), .int (jI mo), .ref a11]))] H := hP
  have hD : va_D A [(a1, .inl (cZ, 62, .inl (jA y1))), (a2, .inl (cA, 62, .inl (jA y2))), (a3, .inl (cZ, 496, .inl (jA y3))), (a4, .inl (cA, 496, .inl (jA y4))), (a5, .inl (cA, 496, .inl (jA y5))), (a6, .inl (cA, 62, .inl (jA y6))), (a7, .inl (cA, 248, .inl (jA y7))), (a11, .inl (cA, 300, .inl (jA y11))), (ma, .inr (5, [.int (jI mth1'), .int (jI mn), .ref a0, .int (jI mp), .int (jI mw), .ref a1, .ref a2, .ref a3, .ref a4, .ref a5, .ref a6, .ref a7, .ref a8, .ref a9, .ref a10, .long (jL mu), .long (jL md), .int (jI mo), .ref a11]))] := hD
  refine ji_if_ne (tgt := 15) hx hb dXM_write_10 (by decide) (by first | omega | decide) (fun c10_ => ?_) (fun c10_ => ?_)
  · refine lv_aload_n hx hb dXM_write_15 rfl (lv_at hl 0 rfl) ?_
    refine ji_iconst hx hb dXM_write_16 ?_
    refine va_put (D := (dC, dI)) (ci := 5) (v := .int (jI 0)) (ty := (.int)) (C := RXM) (T := TXM) (N := 19) hx hb hts (fun w h => jmem (inXM w h)) tyXM tyXM_ok nXM hown hK hP hD hS 8 rfl rfl 17 (by decide) (hts _ (jmem tw_645)) (fun _ h9 => h9) rfl (by decide +kernel) rfl rfl (Nat.le_of_ble_eq_true rfl) dXM_write_17 (fun H locs hP hD hS => ?_)
    have hP : va_P (dC, dI) vwCl [(a1, .inl (cZ, 62, .inl (jA y1))), (a2, .inl (cA, 62, .inl (jA y2))), (a3, .inl (cZ, 496, .inl (jA y3))), (a4, .inl (cA, 496, .inl (jA y4))), (a5, .inl (cA, 496, .inl (jA y5))), (a6, .inl (cA, 62, .inl (jA y6))), (a7, .inl (cA, 248, .inl (jA y7))), (a11, .inl (cA, 300, .inl (jA y11))), (ma, .inr (5, [.int (jI mth1'), .int (jI mn), .ref a0, .int (jI mp), .int (jI mw), .ref a1, .ref a2, .ref a3, .ref a4, .ref a5, .ref a6, .ref a7, .ref a8, .ref a9, .ref a10, .long (jL mu), .long (jL md), .int (jI 0), .ref a11]))] H := hP
    have hD : va_D A [(a1, .inl (cZ, 62, .inl (jA y1))), (a2, .inl (cA, 62, .inl (jA y2))), (a3, .inl (cZ, 496, .inl (jA y3))), (a4, .inl (cA, 496, .inl (jA y4))), (a5, .inl (cA, 496, .inl (jA y5))), (a6, .inl (cA, 62, .inl (jA y6))), (a7, .inl (cA, 248, .inl (jA y7))), (a11, .inl (cA, 300, .inl (jA y11))), (ma, .inr (5, [.int (jI mth1'), .int (jI mn), .ref a0, .int (jI mp), .int (jI mw), .ref a1, .ref a2, .ref a3, .ref a4, .ref a5, .ref a6, .ref a7, .ref a8, .ref a9, .ref a10, .long (jL mu), .long (jL md), .int (jI 0), .ref a11]))] := hD
    refine lv_aload_n hx hb dXM_write_20 rfl (lv_at hl 0 rfl) ?_
    refine ji_bipush hx hb dXM_write_21 (by decide) ?_
    refine lv_iload_n hx hb dXM_write_23 rfl (lv_at hl 1 rfl) ?_
    refine jwVv (rest := []) (wr := [(a1, .inl (cZ, 62, .inl (jA y1))), (a2, .inl (cA, 62, .inl (jA y2))), (a3, .inl (cZ, 496, .inl (jA y3))), (a4, .inl (cA, 496, .inl (jA y4))), (a5, .inl (cA, 496, .inl (jA y5))), (a6, .inl (cA, 62, .inl (jA y6))), (a7, .inl (cA, 248, .inl (jA y7)))]) ⟨hx, hb, hml, hown, hts⟩ (c_XM_tell l dC dI cA cZ _ ma a0 a1 a2 a3 a4 a5 a6 a7 a8 a9 a10 a11 mth1' mn mp mw mu md 0 y11 103 z1 (by first | assumption | omega | exact jset_b (by assumption) (by omega)) (by first | assumption | omega | exact jset_b (by assumption) (by omega))) (cwV 2 hts (jG_V tw_850 tw_852 ts_38 tw_6 tw_853) rfl rfl rfl (by decide +kernel) (by rw [hR]; exact ⟨Nat.le_of_ble_eq_true rfl, Nat.le_of_ble_eq_true rfl⟩)) hK hP hD hS hA hN [8, 7] [0, 1, 2, 3, 4, 5, 6] rfl rfl (by decide) (by decide) (by decide) 8 5 rfl rfl rfl rfl hl.1 rfl (Nat.le_of_ble_eq_true rfl) dXM_write_24 (by rw [hR]; exact ⟨Nat.le_of_ble_eq_true rfl, Nat.le_of_ble_eq_true rfl⟩) (fun u2 H locs hwb3 hP hD hS => ?_)
    obtain ⟨mo1', y11n'⟩ := u2
    try dsimp only at hwb3
    have f4 := hwb3
    have f4 : (0 : Int) ≤ mo1' ∧ mo1' ≤ (0 : Int) + 7 := f4
    have hP : va_P (dC, dI) vwCl [(a1, .inl (cZ, 62, .inl (jA y1))), (a2, .inl (cA, 62, .inl (jA y2))), (a3, .inl (cZ, 496, .inl (jA y3))), (a4, .inl (cA, 496, .inl (jA y4))), (a5, .inl (cA, 496, .inl (jA y5))), (a6, .inl (cA, 62, .inl (jA y6))), (a7, .inl (cA, 248, .inl (jA y7))), (ma, .inr (5, [.int (jI mth1'), .int (jI mn), .ref a0, .int (jI mp), .int (jI mw), .ref a1, .ref a2, .ref a3, .ref a4, .ref a5, .ref a6, .ref a7, .ref a8, .ref a9, .ref a10, .long (jL mu), .long (jL md), .int (jI mo1'), .ref a11])), (a11, .inl (cA, 300, .inl (jA y11n')))] H := hP
    have hD : va_D A [(a1, .inl (cZ, 62, .inl (jA y1))), (a2, .inl (cA, 62, .inl (jA y2))), (a3, .inl (cZ, 496, .inl (jA y3))), (a4, .inl (cA, 496, .inl (jA y4))), (a5, .inl (cA, 496, .inl (jA y5))), (a6, .inl (cA, 62, .inl (jA y6))), (a7, .inl (cA, 248, .inl (jA y7))), (ma, .inr (5, [.int (jI mth1'), .int (jI mn), .ref a0, .int (jI mp), .int (jI mw), .ref a1, .ref a2, .ref a3, .ref a4, .ref a5, .ref a6, .ref a7, .ref a8, .ref a9, .ref a10, .long (jL mu), .long (jL md), .int (jI mo1'), .ref a11])), (a11, .inl (cA, 300, .inl (jA y11n')))] := hD
    have join48 : ∀ (m1 : Int) (v1 : Int → Int) , (0 ≤ m1 ∧ m1 ≤ 14) → ∀ (H : Heap) (locs : List Loc), va_P (dC, dI) vwCl [(a1, .inl (cZ, 62, .inl (jA y1))), (a2, .inl (cA, 62, .inl (jA y2))), (a3, .inl (cZ, 496, .inl (jA y3))), (a4, .inl (cA, 496, .inl (jA y4))), (a5, .inl (cA, 496, .inl (jA y5))), (a6, .inl (cA, 62, .inl (jA y6))), (a7, .inl (cA, 248, .inl (jA y7))), (ma, .inr (5, [.int (jI mth1'), .int (jI mn), .ref a0, .int (jI mp), .int (jI mw), .ref a1, .ref a2, .ref a3, .ref a4, .ref a5, .ref a6, .ref a7, .ref a8, .ref a9, .ref a10, .long (jL mu), .long (jL md), .int (jI m1), .ref a11])), (a11, .inl (cA, 300, .inl (jA v1)))] H → va_D A [(a1, .inl (cZ, 62, .inl (jA y1))), (a2, .inl (cA, 62, .inl (jA y2))), (a3, .inl (cZ, 496, .inl (jA y3))), (a4, .inl (cA, 496, .inl (jA y4))), (a5, .inl (cA, 496, .inl (jA y5))), (a6, .inl (cA, 62, .inl (jA y6))), (a7, .inl (cA, 248, .inl (jA y7))), (ma, .inr (5, [.int (jI mth1'), .int (jI mn), .ref a0, .int (jI mp), .int (jI mw), .ref a1, .ref a2, .ref a3, .ref a4, .ref a5, .ref a6, .ref a7, .ref a8, .ref a9, .ref a10, .long (jL mu), .long (jL md), .int (jI m1), .ref a11])), (a11, .inl (cA, 300, .inl (jA v1)))] → va_S A s.heap H locs → ∀ ls : Array Slot, lv_has ls 3 [(0, .ref ma), (1, .int (jI z1))] → W p l e R s m ([.ref ma, .int (jI z1)] : List Value).toArray below meth c H locs 0 0 Q (F0 m 48 ls []) := by
      intro m1 v1 hm1 H locs hP hD hS ls hl
      refine ji_iconst hx hb dXM_write_48 ?_
      refine lv_istore_n (lv' := [(2, .int (jI 0)), (0, .ref ma), (1, .int (jI z1))]) hx hb dXM_write_49 rfl hl (by decide) rfl (fun ls hl => ?_)
      have loop50 : ∀ (n9 : Nat) (k : Int) (m2 : Int) (v2 : Int → Int) , 8 - k < (n9 : Int) → (0 ≤ k ∧ k ≤ 8) → (0 ≤ m2 ∧ m2 ≤ 14 + 14 * k) → ∀ (H : Heap) (locs : List Loc), va_P (dC, dI) vwCl [(a1, .inl (cZ, 62, .inl (jA y1))), (a2, .inl (cA, 62, .inl (jA y2))), (a3, .inl (cZ, 496, .inl (jA y3))), (a4, .inl (cA, 496, .inl (jA y4))), (a5, .inl (cA, 496, .inl (jA y5))), (a6, .inl (cA, 62, .inl (jA y6))), (a7, .inl (cA, 248, .inl (jA y7))), (ma, .inr (5, [.int (jI mth1'), .int (jI mn), .ref a0, .int (jI mp), .int (jI mw), .ref a1, .ref a2, .ref a3, .ref a4, .ref a5, .ref a6, .ref a7, .ref a8, .ref a9, .ref a10, .long (jL mu), .long (jL md), .int (jI m2), .ref a11])), (a11, .inl (cA, 300, .inl (jA v2)))] H → va_D A [(a1, .inl (cZ, 62, .inl (jA y1))), (a2, .inl (cA, 62, .inl (jA y2))), (a3, .inl (cZ, 496, .inl (jA y3))), (a4, .inl (cA, 496, .inl (jA y4))), (a5, .inl (cA, 496, .inl (jA y5))), (a6, .inl (cA, 62, .inl (jA y6))), (a7, .inl (cA, 248, .inl (jA y7))), (ma, .inr (5, [.int (jI mth1'), .int (jI mn), .ref a0, .int (jI mp), .int (jI mw), .ref a1, .ref a2, .ref a3, .ref a4, .ref a5, .ref a6, .ref a7, .ref a8, .ref a9, .ref a10, .long (jL mu), .long (jL md), .int (jI m2), .ref a11])), (a11, .inl (cA, 300, .inl (jA v2)))] → va_S A s.heap H locs → ∀ ls : Array Slot, lv_has ls 3 [(2, .int (jI k)), (0, .ref ma), (1, .int (jI z1))] → W p l e R s m ([.ref ma, .int (jI z1)] : List Value).toArray below meth c H locs 0 0 Q (F0 m 50 ls []) := by
        intro n9
        induction n9 with
        | zero =>
          intro k m2 v2 hm hk hm2
          exact absurd hm (by omega)
        | succ n9 ih50 =>
          intro k m2 v2 hm hk hm2 H locs hP hD hS ls hl
          refine lv_iload_n hx hb dXM_write_50 rfl (lv_at hl 0 rfl) ?_
          refine ji_bipush hx hb dXM_write_51 (by decide) ?_
          refine ji_icmp_ge (tgt := 115) hx hb dXM_write_53 (by decide) (by first | omega | decide) (by first | omega | decide) (fun c53_ => ?_) (fun c53_ => ?_)
          · have join130 : ∀ (m4 : Int) (v4 : Int → Int) , (0 ≤ m4 ∧ m4 ≤ 127) → ∀ (H : Heap) (locs : List Loc), va_P (dC, dI) vwCl [(a1, .inl (cZ, 62, .inl (jA y1))), (a2, .inl (cA, 62, .inl (jA y2))), (a3, .inl (cZ, 496, .inl (jA y3))), (a4, .inl (cA, 496, .inl (jA y4))), (a5, .inl (cA, 496, .inl (jA y5))), (a6, .inl (cA, 62, .inl (jA y6))), (a7, .inl (cA, 248, .inl (jA y7))), (ma, .inr (5, [.int (jI mth1'), .int (jI mn), .ref a0, .int (jI mp), .int (jI mw), .ref a1, .ref a2, .ref a3, .ref a4, .ref a5, .ref a6, .ref a7, .ref a8, .ref a9, .ref a10, .long (jL mu), .long (jL md), .int (jI m4), .ref a11])), (a11, .inl (cA, 300, .inl (jA v4)))] H → va_D A [(a1, .inl (cZ, 62, .inl (jA y1))), (a2, .inl (cA, 62, .inl (jA y2))), (a3, .inl (cZ, 496, .inl (jA y3))), (a4, .inl (cA, 496, .inl (jA y4))), (a5, .inl (cA, 496, .inl (jA y5))), (a6, .inl (cA, 62, .inl (jA y6))), (a7, .inl (cA, 248, .inl (jA y7))), (ma, .inr (5, [.int (jI mth1'), .int (jI mn), .ref a0, .int (jI mp), .int (jI mw), .ref a1, .ref a2, .ref a3, .ref a4, .ref a5, .ref a6, .ref a7, .ref a8, .ref a9, .ref a10, .long (jL mu), .long (jL md), .int (jI m4), .ref a11])), (a11, .inl (cA, 300, .inl (jA v4)))] → va_S A s.heap H locs → ∀ ls : Array Slot, lv_has ls 3 [(2, .int (jI k)), (0, .ref ma), (1, .int (jI z1))] → W p l e R s m ([.ref ma, .int (jI z1)] : List Value).toArray below meth c H locs 0 0 Q (F0 m 130 ls []) := by
              intro m4 v4 hm4 H locs hP hD hS ls hl
              refine ji_iconst hx hb dXM_write_130 ?_
              refine lv_istore_n (lv' := [(2, .int (jI 0)), (0, .ref ma), (1, .int (jI z1))]) hx hb dXM_write_131 rfl hl (by decide) rfl (fun ls hl => ?_)
              have loop132 : ∀ (n9 : Nat) (k2 : Int) (m5 : Int) (v5 : Int → Int) , 8 - k2 < (n9 : Int) → (0 ≤ k2 ∧ k2 ≤ 8) → (0 ≤ m5 ∧ m5 ≤ 127 + k2) → ∀ (H : Heap) (locs : List Loc), va_P (dC, dI) vwCl [(a1, .inl (cZ, 62, .inl (jA y1))), (a2, .inl (cA, 62, .inl (jA y2))), (a3, .inl (cZ, 496, .inl (jA y3))), (a4, .inl (cA, 496, .inl (jA y4))), (a5, .inl (cA, 496, .inl (jA y5))), (a6, .inl (cA, 62, .inl (jA y6))), (a7, .inl (cA, 248, .inl (jA y7))), (ma, .inr (5, [.int (jI mth1'), .int (jI mn), .ref a0, .int (jI mp), .int (jI mw), .ref a1, .ref a2, .ref a3, .ref a4, .ref a5, .ref a6, .ref a7, .ref a8, .ref a9, .ref a10, .long (jL mu), .long (jL md), .int (jI m5), .ref a11])), (a11, .inl (cA, 300, .inl (jA v5)))] H → va_D A [(a1, .inl (cZ, 62, .inl (jA y1))), (a2, .inl (cA, 62, .inl (jA y2))), (a3, .inl (cZ, 496, .inl (jA y3))), (a4, .inl (cA, 496, .inl (jA y4))), (a5, .inl (cA, 496, .inl (jA y5))), (a6, .inl (cA, 62, .inl (jA y6))), (a7, .inl (cA, 248, .inl (jA y7))), (ma, .inr (5, [.int (jI mth1'), .int (jI mn), .ref a0, .int (jI mp), .int (jI mw), .ref a1, .ref a2, .ref a3, .ref a4, .ref a5, .ref a6, .ref a7, .ref a8, .ref a9, .ref a10, .long (jL mu), .long (jL md), .int (jI m5), .ref a11])), (a11, .inl (cA, 300, .inl (jA v5)))] → va_S A s.heap H locs → ∀ ls : Array Slot, lv_has ls 3 [(2, .int (jI k2)), (0, .ref ma), (1, .int (jI z1))] → W p l e R s m ([.ref ma, .int (jI z1)] : List Value).toArray below meth c H locs 0 0 Q (F0 m 132 ls []) := by
                intro n9
                induction n9 with
                | zero =>
                  intro k2 m5 v5 hm hk2 hm5
                  exact absurd hm (by omega)
                | succ n9 ih132 =>
                  intro k2 m5 v5 hm hk2 hm5 H locs hP hD hS ls hl
                  refine lv_iload_n hx hb dXM_write_132 rfl (lv_at hl 0 rfl) ?_
                  refine ji_bipush hx hb dXM_write_133 (by decide) ?_
                  refine ji_icmp_ge (tgt := 166) hx hb dXM_write_135 (by decide) (by first | omega | decide) (by first | omega | decide) (fun c135_ => ?_) (fun c135_ => ?_)
                  · refine ji_iconst hx hb dXM_write_166 ?_
                    refine lv_istore_n (lv' := [(2, .int (jI 0)), (0, .ref ma), (1, .int (jI z1))]) hx hb dXM_write_167 rfl hl (by decide) rfl (fun ls hl => ?_)
                    have loop168 : ∀ (n9 : Nat) (k3 : Int) (m7 : Int) (v7 : Int → Int) , 4 - k3 < (n9 : Int) → (0 ≤ k3 ∧ k3 ≤ 4) → (0 ≤ m7 ∧ m7 ≤ 135 + 14 * k3) → ∀ (H : Heap) (locs : List Loc), va_P (dC, dI) vwCl [(a1, .inl (cZ, 62, .inl (jA y1))), (a2, .inl (cA, 62, .inl (jA y2))), (a3, .inl (cZ, 496, .inl (jA y3))), (a4, .inl (cA, 496, .inl (jA y4))), (a5, .inl (cA, 496, .inl (jA y5))), (a6, .inl (cA, 62, .inl (jA y6))), (a7, .inl (cA, 248, .inl (jA y7))), (ma, .inr (5, [.int (jI mth1'), .int (jI mn), .ref a0, .int (jI mp), .int (jI mw), .ref a1, .ref a2, .ref a3, .ref a4, .ref a5, .ref a6, .ref a7, .ref a8, .ref a9, .ref a10, .long (jL mu), .long (jL md), .int (jI m7), .ref a11])), (a11, .inl (cA, 300, .inl (jA v7)))] H → va_D A [(a1, .inl (cZ, 62, .inl (jA y1))), (a2, .inl (cA, 62, .inl (jA y2))), (a3, .inl (cZ, 496, .inl (jA y3))), (a4, .inl (cA, 496, .inl (jA y4))), (a5, .inl (cA, 496, .inl (jA y5))), (a6, .inl (cA, 62, .inl (jA y6))), (a7, .inl (cA, 248, .inl (jA y7))), (ma, .inr (5, [.int (jI mth1'), .int (jI mn), .ref a0, .int (jI mp), .int (jI mw), .ref a1, .ref a2, .ref a3, .ref a4, .ref a5, .ref a6, .ref a7, .ref a8, .ref a9, .ref a10, .long (jL mu), .long (jL md), .int (jI m7), .ref a11])), (a11, .inl (cA, 300, .inl (jA v7)))] → va_S A s.heap H locs → ∀ ls : Array Slot, lv_has ls 3 [(2, .int (jI k3)), (0, .ref ma), (1, .int (jI z1))] → W p l e R s m ([.ref ma, .int (jI z1)] : List Value).toArray below meth c H locs 0 0 Q (F0 m 168 ls []) := by
                      intro n9
                      induction n9 with
                      | zero =>
                        intro k3 m7 v7 hm hk3 hm7
                        exact absurd hm (by omega)
                      | succ n9 ih168 =>
                        intro k3 m7 v7 hm hk3 hm7 H locs hP hD hS ls hl
                        refine lv_iload_n hx hb dXM_write_168 rfl (lv_at hl 0 rfl) ?_
                        refine ji_iconst hx hb dXM_write_169 ?_
                        refine ji_icmp_ge (tgt := 218) hx hb dXM_write_170 (by decide) (by first | omega | decide) (by first | omega | decide) (fun c170_ => ?_) (fun c170_ => ?_)
                        · refine lv_aload_n hx hb dXM_write_218 rfl (lv_at hl 1 rfl) ?_
                          refine ji_bipush hx hb dXM_write_219 (by decide) ?_
                          refine jwVv (rest := []) (wr := [(a1, .inl (cZ, 62, .inl (jA y1))), (a2, .inl (cA, 62, .inl (jA y2))), (a3, .inl (cZ, 496, .inl (jA y3))), (a4, .inl (cA, 496, .inl (jA y4))), (a5, .inl (cA, 496, .inl (jA y5))), (a6, .inl (cA, 62, .inl (jA y6))), (a7, .inl (cA, 248, .inl (jA y7)))]) ⟨hx, hb, hml, hown, hts⟩ (c_XM_put l dC dI cA cZ _ ma a0 a1 a2 a3 a4 a5 a6 a7 a8 a9 a10 a11 mth1' mn mp mw mu md m7 v7 59 (by first | assumption | omega | exact jset_b (by assumption) (by omega))) (cwV 1 hts (jG_V tw_854 tw_856 ts_39 tw_6 tw_857) rfl rfl rfl (by decide +kernel) (by rw [hR]; exact ⟨Nat.le_of_ble_eq_true rfl, Nat.le_of_ble_eq_true rfl⟩)) hK hP hD hS hA hN [7, 8] [0, 1, 2, 3, 4, 5, 6] rfl rfl (by decide) (by decide) (by decide) 7 5 rfl rfl rfl rfl hl.1 rfl (Nat.le_of_ble_eq_true rfl) dXM_write_221 (by rw [hR]; exact ⟨Nat.le_of_ble_eq_true rfl, Nat.le_of_ble_eq_true rfl⟩) (fun u7 H locs hwb8 hP hD hS => ?_)
                          obtain ⟨mo1'5, y11n'6⟩ := u7
                          try dsimp only at hwb8
                          have f9 := hwb8
                          have f9 : mo1'5 = m7 + 1 := f9
                          have hP : va_P (dC, dI) vwCl [(a1, .inl (cZ, 62, .inl (jA y1))), (a2, .inl (cA, 62, .inl (jA y2))), (a3, .inl (cZ, 496, .inl (jA y3))), (a4, .inl (cA, 496, .inl (jA y4))), (a5, .inl (cA, 496, .inl (jA y5))), (a6, .inl (cA, 62, .inl (jA y6))), (a7, .inl (cA, 248, .inl (jA y7))), (ma, .inr (5, [.int (jI mth1'), .int (jI mn), .ref a0, .int (jI mp), .int (jI mw), .ref a1, .ref a2, .ref a3, .ref a4, .ref a5, .ref a6, .ref a7, .ref a8, .ref a9, .ref a10, .long (jL mu), .long (jL md), .int (jI mo1'5), .ref a11])), (a11, .inl (cA, 300, .inl (jA y11n'6)))] H := hP
                          have hD : va_D A [(a1, .inl (cZ, 62, .inl (jA y1))), (a2, .inl (cA, 62, .inl (jA y2))), (a3, .inl (cZ, 496, .inl (jA y3))), (a4, .inl (cA, 496, .inl (jA y4))), (a5, .inl (cA, 496, .inl (jA y5))), (a6, .inl (cA, 62, .inl (jA y6))), (a7, .inl (cA, 248, .inl (jA y7))), (ma, .inr (5, [.int (jI mth1'), .int (jI mn), .ref a0, .int (jI mp), .int (jI mw), .ref a1, .ref a2, .ref a3, .ref a4, .ref a5, .ref a6, .ref a7, .ref a8, .ref a9, .ref a10, .long (jL mu), .long (jL md), .int (jI mo1'5), .ref a11])), (a11, .inl (cA, 300, .inl (jA y11n'6)))] := hD
                          refine lv_aload_n hx hb dXM_write_224 rfl (lv_at hl 1 rfl) ?_
                          refine va_get (D := (dC, dI)) (ci := 5) (v := .int (jI mo1'5)) (C := RXM) (T := TXM) (N := 19) hx hb hts (fun w h => jmem (inXM w h)) hown hK hP 7 rfl rfl 17 (by decide) (hts _ (jmem tw_645)) (fun _ h9 => h9) rfl dXM_write_225 ?_
                          have hP9 := hP.sub (ws' := [(ma, .inr (5, [.int (jI mth1'), .int (jI mn), .ref a0, .int (jI mp), .int (jI mw), .ref a1, .ref a2, .ref a3, .ref a4, .ref a5, .ref a6, .ref a7, .ref a8, .ref a9, .ref a10, .long (jL mu), .long (jL md), .int (jI mo1'5), .ref a11])), (a1, .inl (cZ, 62, .inl (jA y1))), (a2, .inl (cA, 62, .inl (jA y2))), (a3, .inl (cZ, 496, .inl (jA y3))), (a4, .inl (cA, 496, .inl (jA y4))), (a5, .inl (cA, 496, .inl (jA y5))), (a6, .inl (cA, 62, .inl (jA y6))), (a7, .inl (cA, 248, .inl (jA y7))), (a11, .inl (cA, 300, .inl (jA y11n'6)))]) [7, 0, 1, 2, 3, 4, 5, 6, 8] rfl
                          have hD9 := hD.sub (ws' := [(ma, .inr (5, [.int (jI mth1'), .int (jI mn), .ref a0, .int (jI mp), .int (jI mw), .ref a1, .ref a2, .ref a3, .ref a4, .ref a5, .ref a6, .ref a7, .ref a8, .ref a9, .ref a10, .long (jL mu), .long (jL md), .int (jI mo1'5), .ref a11])), (a1, .inl (cZ, 62, .inl (jA y1))), (a2, .inl (cA, 62, .inl (jA y2))), (a3, .inl (cZ, 496, .inl (jA y3))), (a4, .inl (cA, 496, .inl (jA y4))), (a5, .inl (cA, 496, .inl (jA y5))), (a6, .inl (cA, 62, .inl (jA y6))), (a7, .inl (cA, 248, .inl (jA y7))), (a11, .inl (cA, 300, .inl (jA y11n'6)))]) [7, 0, 1, 2, 3, 4, 5, 6, 8] (by decide) rfl
                          subst hAe
                          subst hQ
                          exact W.iret (v := jI mo1'5) hx hb hr (fun t ht hW => ⟨⟨_, (mo1'5, mth1', mo1'5, y11n'6), rfl, ⟨rfl, (show 0 ≤ mth1' ∧ mth1' ≤ 2 from by first | assumption | omega | exact jset_b (by assumption) (by omega)), (show 0 ≤ mo1'5 ∧ mo1'5 ≤ 300 from by first | assumption | omega | exact jset_b (by assumption) (by omega))⟩, ⟨by rw [ht]; exact hP9, va_K.moved hW.alike hK, hD9⟩⟩, hS.F ht⟩) hS.2.2 dXM_write_228
                        · have join212 : ∀ (m8 : Int) (v8 : Int → Int) , (0 ≤ m8 ∧ m8 ≤ 149 + 14 * k3) → ∀ (H : Heap) (locs : List Loc), va_P (dC, dI) vwCl [(a1, .inl (cZ, 62, .inl (jA y1))), (a2, .inl (cA, 62, .inl (jA y2))), (a3, .inl (cZ, 496, .inl (jA y3))), (a4, .inl (cA, 496, .inl (jA y4))), (a5, .inl (cA, 496, .inl (jA y5))), (a6, .inl (cA, 62, .inl (jA y6))), (a7, .inl (cA, 248, .inl (jA y7))), (ma, .inr (5, [.int (jI mth1'), .int (jI mn), .ref a0, .int (jI mp), .int (jI mw), .ref a1, .ref a2, .ref a3, .ref a4, .ref a5, .ref a6, .ref a7, .ref a8, .ref a9, .ref a10, .long (jL mu), .long (jL md), .int (jI m8), .ref a11])), (a11, .inl (cA, 300, .inl (jA v8)))] H → va_D A [(a1, .inl (cZ, 62, .inl (jA y1))), (a2, .inl (cA, 62, .inl (jA y2))), (a3, .inl (cZ, 496, .inl (jA y3))), (a4, .inl (cA, 496, .inl (jA y4))), (a5, .inl (cA, 496, .inl (jA y5))), (a6, .inl (cA, 62, .inl (jA y6))), (a7, .inl (cA, 248, .inl (jA y7))), (ma, .inr (5, [.int (jI mth1'), .int (jI mn), .ref a0, .int (jI mp), .int (jI mw), .ref a1, .ref a2, .ref a3, .ref a4, .ref a5, .ref a6, .ref a7, .ref a8, .ref a9, .ref a10, .long (jL mu), .long (jL md), .int (jI m8), .ref a11])), (a11, .inl (cA, 300, .inl (jA v8)))] → va_S A s.heap H locs → ∀ ls : Array Slot, lv_has ls 3 [(2, .int (jI k3)), (0, .ref ma), (1, .int (jI z1))] → W p l e R s m ([.ref ma, .int (jI z1)] : List Value).toArray below meth c H locs 0 0 Q (F0 m 212 ls []) := by
                            intro m8 v8 hm8 H locs hP hD hS ls hl
                            refine ji_iinc (k := 0) (lv' := [(2, .int (jI (k3 + 1))), (0, .ref ma), (1, .int (jI z1))]) hx hb dXM_write_212 hl rfl (by decide) rfl (fun ls hl => ?_)
                            refine lv_goto (tgt := 168) hx hb dXM_write_215 (by decide) ?_
                            exact ih168 (k3 + 1) m8 v8 (by omega) (by first | assumption | omega | exact jset_b (by assumption) (by omega)) (by first | assumption | omega | exact jset_b (by assumption) (by omega)) _ _ hP hD hS ls (lv_sub hl [0, 1, 2] rfl)
                          refine lv_aload_n hx hb dXM_write_173 rfl (lv_at hl 1 rfl) ?_
                          refine va_get (D := (dC, dI)) (ci := 5) (v := .ref a7) (C := RXM) (T := TXM) (N := 19) hx hb hts (fun w h => jmem (inXM w h)) hown hK hP 7 rfl rfl 11 (by decide) (hts _ (jmem tw_639)) (fun _ h9 => h9) rfl dXM_write_174 ?_
                          refine ji_iconst hx hb dXM_write_177 ?_
                          refine lv_iload_n hx hb dXM_write_178 rfl (lv_at hl 2 rfl) ?_
                          refine ji_imul hx hb dXM_write_179 ?_
                          refine lv_iload_n hx hb dXM_write_180 rfl (lv_at hl 0 rfl) ?_
                          refine ji_iadd hx hb dXM_write_181 ?_
                          refine ji_iald hx hb hK hP 6 0 rfl rfl ⟨by omega, by omega⟩ (by decide) dXM_write_182 ?_
                          have rb := hy7 ((4 * z1) + k3)
                          refine ji_if_ge (tgt := 189) hx hb dXM_write_183 (by decide) (by first | omega | decide) (fun c183_ => ?_) (fun c183_ => ?_)
                          · refine lv_aload_n hx hb dXM_write_189 rfl (lv_at hl 1 rfl) ?_
                            refine ji_bipush hx hb dXM_write_190 (by decide) ?_
                            refine lv_iload_n hx hb dXM_write_192 rfl (lv_at hl 0 rfl) ?_
                            refine jwVv (rest := []) (wr := [(a1, .inl (cZ, 62, .inl (jA y1))), (a2, .inl (cA, 62, .inl (jA y2))), (a3, .inl (cZ, 496, .inl (jA y3))), (a4, .inl (cA, 496, .inl (jA y4))), (a5, .inl (cA, 496, .inl (jA y5))), (a6, .inl (cA, 62, .inl (jA y6))), (a7, .inl (cA, 248, .inl (jA y7)))]) ⟨hx, hb, hml, hown, hts⟩ (c_XM_tell l dC dI cA cZ _ ma a0 a1 a2 a3 a4 a5 a6 a7 a8 a9 a10 a11 mth1' mn mp mw mu md m7 v7 113 k3 (by first | assumption | omega | exact jset_b (by assumption) (by omega)) (by first | assumption | omega | exact jset_b (by assumption) (by omega))) (cwV 2 hts (jG_V tw_850 tw_852 ts_38 tw_6 tw_853) rfl rfl rfl (by decide +kernel) (by rw [hR]; exact ⟨Nat.le_of_ble_eq_true rfl, Nat.le_of_ble_eq_true rfl⟩)) hK hP hD hS hA hN [7, 8] [0, 1, 2, 3, 4, 5, 6] rfl rfl (by decide) (by decide) (by decide) 7 5 rfl rfl rfl rfl hl.1 rfl (Nat.le_of_ble_eq_true rfl) dXM_write_193 (by rw [hR]; exact ⟨Nat.le_of_ble_eq_true rfl, Nat.le_of_ble_eq_true rfl⟩) (fun u12 H locs hwb13 hP hD hS => ?_)
                            obtain ⟨mo1'10, y11n'11⟩ := u12
                            try dsimp only at hwb13
                            have f14 := hwb13
                            have f14 : m7 ≤ mo1'10 ∧ mo1'10 ≤ m7 + 7 := f14
                            have hP : va_P (dC, dI) vwCl [(a1, .inl (cZ, 62, .inl (jA y1))), (a2, .inl (cA, 62, .inl (jA y2))), (a3, .inl (cZ, 496, .inl (jA y3))), (a4, .inl (cA, 496, .inl (jA y4))), (a5, .inl (cA, 496, .inl (jA y5))), (a6, .inl (cA, 62, .inl (jA y6))), (a7, .inl (cA, 248, .inl (jA y7))), (ma, .inr (5, [.int (jI mth1'), .int (jI mn), .ref a0, .int (jI mp), .int (jI mw), .ref a1, .ref a2, .ref a3, .ref a4, .ref a5, .ref a6, .ref a7, .ref a8, .ref a9, .ref a10, .long (jL mu), .long (jL md), .int (jI mo1'10), .ref a11])), (a11, .inl (cA, 300, .inl (jA y11n'11)))] H := hP
                            have hD : va_D A [(a1, .inl (cZ, 62, .inl (jA y1))), (a2, .inl (cA, 62, .inl (jA y2))), (a3, .inl (cZ, 496, .inl (jA y3))), (a4, .inl (cA, 496, .inl (jA y4))), (a5, .inl (cA, 496, .inl (jA y5))), (a6, .inl (cA, 62, .inl (jA y6))), (a7, .inl (cA, 248, .inl (jA y7))), (ma, .inr (5, [.int (jI mth1'), .int (jI mn), .ref a0, .int (jI mp), .int (jI mw), .ref a1, .ref a2, .ref a3, .ref a4, .ref a5, .ref a6, .ref a7, .ref a8, .ref a9, .ref a10, .long (jL mu), .long (jL md), .int (jI mo1'10), .ref a11])), (a11, .inl (cA, 300, .inl (jA y11n'11)))] := hD
                            refine lv_aload_n hx hb dXM_write_196 rfl (lv_at hl 1 rfl) ?_
                            refine ji_bipush hx hb dXM_write_197 (by decide) ?_
                            refine lv_aload_n hx hb dXM_write_199 rfl (lv_at hl 1 rfl) ?_
                            refine va_get (D := (dC, dI)) (ci := 5) (v := .ref a7) (C := RXM) (T := TXM) (N := 19) hx hb hts (fun w h => jmem (inXM w h)) hown hK hP 7 rfl rfl 11 (by decide) (hts _ (jmem tw_639)) (fun _ h9 => h9) rfl dXM_write_200 ?_
                            refine ji_iconst hx hb dXM_write_203 ?_
                            refine lv_iload_n hx hb dXM_write_204 rfl (lv_at hl 2 rfl) ?_
                            refine ji_imul hx hb dXM_write_205 ?_
                            refine lv_iload_n hx hb dXM_write_206 rfl (lv_at hl 0 rfl) ?_
                            refine ji_iadd hx hb dXM_write_207 ?_
                            refine ji_iald hx hb hK hP 6 0 rfl rfl ⟨by omega, by omega⟩ (by decide) dXM_write_208 ?_
                            have rb15 := hy7 ((4 * z1) + k3)
                            refine jwVv (rest := []) (wr := [(a1, .inl (cZ, 62, .inl (jA y1))), (a2, .inl (cA, 62, .inl (jA y2))), (a3, .inl (cZ, 496, .inl (jA y3))), (a4, .inl (cA, 496, .inl (jA y4))), (a5, .inl (cA, 496, .inl (jA y5))), (a6, .inl (cA, 62, .inl (jA y6))), (a7, .inl (cA, 248, .inl (jA y7)))]) ⟨hx, hb, hml, hown, hts⟩ (c_XM_tell l dC dI cA cZ _ ma a0 a1 a2 a3 a4 a5 a6 a7 a8 a9 a10 a11 mth1' mn mp mw mu md mo1'10 y11n'11 60 (y7 ((4 * z1) + k3)) (by first | assumption | omega | exact jset_b (by assumption) (by omega)) (by first | assumption | omega | exact jset_b (by assumption) (by omega))) (cwV 2 hts (jG_V tw_850 tw_852 ts_38 tw_6 tw_853) rfl rfl rfl (by decide +kernel) (by rw [hR]; exact ⟨Nat.le_of_ble_eq_true rfl, Nat.le_of_ble_eq_true rfl⟩)) hK hP hD hS hA hN [7, 8] [0, 1, 2, 3, 4, 5, 6] rfl rfl (by decide) (by decide) (by decide) 7 5 rfl rfl rfl rfl hl.1 rfl (Nat.le_of_ble_eq_true rfl) dXM_write_209 (by rw [hR]; exact ⟨Nat.le_of_ble_eq_true rfl, Nat.le_of_ble_eq_true rfl⟩) (fun u18 H locs hwb19 hP hD hS => ?_)
                            obtain ⟨mo1'16, y11n'17⟩ := u18
                            try dsimp only at hwb19
                            have f20 := hwb19
                            have f20 : mo1'10 ≤ mo1'16 ∧ mo1'16 ≤ mo1'10 + 7 := f20
                            have hP : va_P (dC, dI) vwCl [(a1, .inl (cZ, 62, .inl (jA y1))), (a2, .inl (cA, 62, .inl (jA y2))), (a3, .inl (cZ, 496, .inl (jA y3))), (a4, .inl (cA, 496, .inl (jA y4))), (a5, .inl (cA, 496, .inl (jA y5))), (a6, .inl (cA, 62, .inl (jA y6))), (a7, .inl (cA, 248, .inl (jA y7))), (ma, .inr (5, [.int (jI mth1'), .int (jI mn), .ref a0, .int (jI mp), .int (jI mw), .ref a1, .ref a2, .ref a3, .ref a4, .ref a5, .ref a6, .ref a7, .ref a8, .ref a9, .ref a10, .long (jL mu), .long (jL md), .int (jI mo1'16), .ref a11])), (a11, .inl (cA, 300, .inl (jA y11n'17)))] H := hP
                            have hD : va_D A [(a1, .inl (cZ, 62, .inl (jA y1))), (a2, .inl (cA, 62, .inl (jA y2))), (a3, .inl (cZ, 496, .inl (jA y3))), (a4, .inl (cA, 496, .inl (jA y4))), (a5, .inl (cA, 496, .inl (jA y5))), (a6, .inl (cA, 62, .inl (jA y6))), (a7, .inl (cA, 248, .inl (jA y7))), (ma, .inr (5, [.int (jI mth1'), .int (jI mn), .ref a0, .int (jI mp), .int (jI mw), .ref a1, .ref a2, .ref a3, .ref a4, .ref a5, .ref a6, .ref a7, .ref a8, .ref a9, .ref a10, .long (jL mu), .long (jL md), .int (jI mo1'16), .ref a11])), (a11, .inl (cA, 300, .inl (jA y11n'17)))] := hD
                            exact join212 mo1'16 y11n'17 (by first | assumption | omega | exact jset_b (by assumption) (by omega)) _ _ hP hD hS ls (lv_sub hl [0, 1, 2] rfl)
                          · refine lv_goto (tgt := 212) hx hb dXM_write_186 (by decide) ?_
                            exact join212 m7 v7 (by first | assumption | omega | exact jset_b (by assumption) (by omega)) _ _ hP hD hS ls (lv_sub hl [0, 1, 2] rfl)
                    exact loop168 (Int.toNat (4 - 0) + 1) 0 m5 v5 (by omega) (by first | assumption | omega | exact jset_b (by assumption) (by omega)) (by first | assumption | omega | exact jset_b (by assumption) (by omega)) _ _ hP hD hS ls (lv_sub hl [0, 1, 2] rfl)
                  · have join160 : ∀ (m6 : Int) (v6 : Int → Int) , (0 ≤ m6 ∧ m6 ≤ 128 + k2) → ∀ (H : Heap) (locs : List Loc), va_P (dC, dI) vwCl [(a1, .inl (cZ, 62, .inl (jA y1))), (a2, .inl (cA, 62, .inl (jA y2))), (a3, .inl (cZ, 496, .inl (jA y3))), (a4, .inl (cA, 496, .inl (jA y4))), (a5, .inl (cA, 496, .inl (jA y5))), (a6, .inl (cA, 62, .inl (jA y6))), (a7, .inl (cA, 248, .inl (jA y7))), (ma, .inr (5, [.int (jI mth1'), .int (jI mn), .ref a0, .int (jI mp), .int (jI mw), .ref a1, .ref a2, .ref a3, .ref a4, .ref a5, .ref a6, .ref a7, .ref a8, .ref a9, .ref a10, .long (jL mu), .long (jL md), .int (jI m6), .ref a11])), (a11, .inl (cA, 300, .inl (jA v6)))] H → va_D A [(a1, .inl (cZ, 62, .inl (jA y1))), (a2, .inl (cA, 62, .inl (jA y2))), (a3, .inl (cZ, 496, .inl (jA y3))), (a4, .inl (cA, 496, .inl (jA y4))), (a5, .inl (cA, 496, .inl (jA y5))), (a6, .inl (cA, 62, .inl (jA y6))), (a7, .inl (cA, 248, .inl (jA y7))), (ma, .inr (5, [.int (jI mth1'), .int (jI mn), .ref a0, .int (jI mp), .int (jI mw), .ref a1, .ref a2, .ref a3, .ref a4, .ref a5, .ref a6, .ref a7, .ref a8, .ref a9, .ref a10, .long (jL mu), .long (jL md), .int (jI m6), .ref a11])), (a11, .inl (cA, 300, .inl (jA v6)))] → va_S A s.heap H locs → ∀ ls : Array Slot, lv_has ls 3 [(2, .int (jI k2)), (0, .ref ma), (1, .int (jI z1))] → W p l e R s m ([.ref ma, .int (jI z1)] : List Value).toArray below meth c H locs 0 0 Q (F0 m 160 ls []) := by
                      intro m6 v6 hm6 H locs hP hD hS ls hl
                      refine ji_iinc (k := 0) (lv' := [(2, .int (jI (k2 + 1))), (0, .ref ma), (1, .int (jI z1))]) hx hb dXM_write_160 hl rfl (by decide) rfl (fun ls hl => ?_)
                      refine lv_goto (tgt := 132) hx hb dXM_write_163 (by decide) ?_
                      exact ih132 (k2 + 1) m6 v6 (by omega) (by first | assumption | omega | exact jset_b (by assumption) (by omega)) (by first | assumption | omega | exact jset_b (by assumption) (by omega)) _ _ hP hD hS ls (lv_sub hl [0, 1, 2] rfl)
                    refine lv_aload_n hx hb dXM_write_138 rfl (lv_at hl 1 rfl) ?_
                    refine va_get (D := (dC, dI)) (ci := 5) (v := .ref a6) (C := RXM) (T := TXM) (N := 19) hx hb hts (fun w h => jmem (inXM w h)) hown hK hP 7 rfl rfl 10 (by decide) (hts _ (jmem tw_638)) (fun _ h9 => h9) rfl dXM_write_139 ?_
                    refine lv_iload_n hx hb dXM_write_142 rfl (lv_at hl 2 rfl) ?_
                    refine ji_iald hx hb hK hP 5 0 rfl rfl ⟨by omega, by omega⟩ (by decide) dXM_write_143 ?_
                    have rb21 := hy6 z1
                    refine lv_iload_n hx hb dXM_write_144 rfl (lv_at hl 0 rfl) ?_
                    refine lv_ishr hx hb dXM_write_145 ?_
                    refine ji_rev ?_
                    refine ji_iconst hx hb dXM_write_146 ?_
                    refine lv_iand hx hb dXM_write_147 ?_
                    refine ji_rev ?_
                    refine ji_top (fun zr ezr => ?_)
                    have rb22 : i32 zr := by rw [ezr]; exact jti32 _
                    refine ji_iconst hx hb dXM_write_148 ?_
                    refine ji_icmp_ne (tgt := 160) hx hb dXM_write_149 (by decide) (by first | omega | decide) (by first | omega | decide) (fun c149_ => ?_) (fun c149_ => ?_)
                    · exact join160 m5 v5 (by first | assumption | omega | exact jset_b (by assumption) (by omega)) _ _ hP hD hS ls (lv_sub hl [0, 1, 2] rfl)
                    · refine lv_aload_n hx hb dXM_write_152 rfl (lv_at hl 1 rfl) ?_
                      refine ji_bipush hx hb dXM_write_153 (by decide) ?_
                      refine lv_iload_n hx hb dXM_write_155 rfl (lv_at hl 0 rfl) ?_
                      refine ji_iadd hx hb dXM_write_156 ?_
                      refine jwVv (rest := []) (wr := [(a1, .inl (cZ, 62, .inl (jA y1))), (a2, .inl (cA, 62, .inl (jA y2))), (a3, .inl (cZ, 496, .inl (jA y3))), (a4, .inl (cA, 496, .inl (jA y4))), (a5, .inl (cA, 496, .inl (jA y5))), (a6, .inl (cA, 62, .inl (jA y6))), (a7, .inl (cA, 248, .inl (jA y7)))]) ⟨hx, hb, hml, hown, hts⟩ (c_XM_put l dC dI cA cZ _ ma a0 a1 a2 a3 a4 a5 a6 a7 a8 a9 a10 a11 mth1' mn mp mw mu md m5 v5 (48 + k2) (by first | assumption | omega | exact jset_b (by assumption) (by omega))) (cwV 1 hts (jG_V tw_854 tw_856 ts_39 tw_6 tw_857) rfl rfl rfl (by decide +kernel) (by rw [hR]; exact ⟨Nat.le_of_ble_eq_true rfl, Nat.le_of_ble_eq_true rfl⟩)) hK hP hD hS hA hN [7, 8] [0, 1, 2, 3, 4, 5, 6] rfl rfl (by decide) (by decide) (by decide) 7 5 rfl rfl rfl rfl hl.1 rfl (Nat.le_of_ble_eq_true rfl) dXM_write_157 (by rw [hR]; exact ⟨Nat.le_of_ble_eq_true rfl, Nat.le_of_ble_eq_true rfl⟩) (fun u25 H locs hwb26 hP hD hS => ?_)
                      obtain ⟨mo1'23, y11n'24⟩ := u25
                      try dsimp only at hwb26
                      have f27 := hwb26
                      have f27 : mo1'23 = m5 + 1 := f27
                      have hP : va_P (dC, dI) vwCl [(a1, .inl (cZ, 62, .inl (jA y1))), (a2, .inl (cA, 62, .inl (jA y2))), (a3, .inl (cZ, 496, .inl (jA y3))), (a4, .inl (cA, 496, .inl (jA y4))), (a5, .inl (cA, 496, .inl (jA y5))), (a6, .inl (cA, 62, .inl (jA y6))), (a7, .inl (cA, 248, .inl (jA y7))), (ma, .inr (5, [.int (jI mth1'), .int (jI mn), .ref a0, .int (jI mp), .int (jI mw), .ref a1, .ref a2, .ref a3, .ref a4, .ref a5, .ref a6, .ref a7, .ref a8, .ref a9, .ref a10, .long (jL mu), .long (jL md), .int (jI mo1'23), .ref a11])), (a11, .inl (cA, 300, .inl (jA y11n'24)))] H := hP
                      have hD : va_D A [(a1, .inl (cZ, 62, .inl (jA y1))), (a2, .inl (cA, 62, .inl (jA y2))), (a3, .inl (cZ, 496, .inl (jA y3))), (a4, .inl (cA, 496, .inl (jA y4))), (a5, .inl (cA, 496, .inl (jA y5))), (a6, .inl (cA, 62, .inl (jA y6))), (a7, .inl (cA, 248, .inl (jA y7))), (ma, .inr (5, [.int (jI mth1'), .int (jI mn), .ref a0, .int (jI mp), .int (jI mw), .ref a1, .ref a2, .ref a3, .ref a4, .ref a5, .ref a6, .ref a7, .ref a8, .ref a9, .ref a10, .long (jL mu), .long (jL md), .int (jI mo1'23), .ref a11])), (a11, .inl (cA, 300, .inl (jA y11n'24)))] := hD
                      exact join160 mo1'23 y11n'24 (by first | assumption | omega | exact jset_b (by assumption) (by omega)) _ _ hP hD hS ls (lv_sub hl [0, 1, 2] rfl)
              exact loop132 (Int.toNat (8 - 0) + 1) 0 m4 v4 (by omega) (by first | assumption | omega | exact jset_b (by assumption) (by omega)) (by first | assumption | omega | exact jset_b (by assumption) (by omega)) _ _ hP hD hS ls (lv_sub hl [0, 1, 2] rfl)
            refine lv_aload_n hx hb dXM_write_115 rfl (lv_at hl 1 rfl) ?_
            refine va_get (D := (dC, dI)) (ci := 5) (v := .ref a6) (C := RXM) (T := TXM) (N := 19) hx hb hts (fun w h => jmem (inXM w h)) hown hK hP 7 rfl rfl 10 (by decide) (hts _ (jmem tw_638)) (fun _ h9 => h9) rfl dXM_write_116 ?_
            refine lv_iload_n hx hb dXM_write_119 rfl (lv_at hl 2 rfl) ?_
            refine ji_iald hx hb hK hP 5 0 rfl rfl ⟨by omega, by omega⟩ (by decide) dXM_write_120 ?_
            have rb28 := hy6 z1
            refine ji_if_le (tgt := 130) hx hb dXM_write_121 (by decide) (by first | omega | decide) (fun c121_ => ?_) (fun c121_ => ?_)
            · exact join130 m2 v2 (by first | assumption | omega | exact jset_b (by assumption) (by omega)) _ _ hP hD hS ls (lv_sub hl [0, 1, 2] rfl)
            · refine lv_aload_n hx hb dXM_write_124 rfl (lv_at hl 1 rfl) ?_
              refine ji_bipush hx hb dXM_write_125 (by decide) ?_
              refine jwVv (rest := []) (wr := [(a1, .inl (cZ, 62, .inl (jA y1))), (a2, .inl (cA, 62, .inl (jA y2))), (a3, .inl (cZ, 496, .inl (jA y3))), (a4, .inl (cA, 496, .inl (jA y4))), (a5, .inl (cA, 496, .inl (jA y5))), (a6, .inl (cA, 62, .inl (jA y6))), (a7, .inl (cA, 248, .inl (jA y7)))]) ⟨hx, hb, hml, hown, hts⟩ (c_XM_put l dC dI cA cZ _ ma a0 a1 a2 a3 a4 a5 a6 a7 a8 a9 a10 a11 mth1' mn mp mw mu md m2 v2 114 (by first | assumption | omega | exact jset_b (by assumption) (by omega))) (cwV 1 hts (jG_V tw_854 tw_856 ts_39 tw_6 tw_857) rfl rfl rfl (by decide +kernel) (by rw [hR]; exact ⟨Nat.le_of_ble_eq_true rfl, Nat.le_of_ble_eq_true rfl⟩)) hK hP hD hS hA hN [7, 8] [0, 1, 2, 3, 4, 5, 6] rfl rfl (by decide) (by decide) (by decide) 7 5 rfl rfl rfl rfl hl.1 rfl (Nat.le_of_ble_eq_true rfl) dXM_write_127 (by rw [hR]; exact ⟨Nat.le_of_ble_eq_true rfl, Nat.le_of_ble_eq_true rfl⟩) (fun u31 H locs hwb32 hP hD hS => ?_)
              obtain ⟨mo1'29, y11n'30⟩ := u31
              try dsimp only at hwb32
              have f33 := hwb32
              have f33 : mo1'29 = m2 + 1 := f33
              have hP : va_P (dC, dI) vwCl [(a1, .inl (cZ, 62, .inl (jA y1))), (a2, .inl (cA, 62, .inl (jA y2))), (a3, .inl (cZ, 496, .inl (jA y3))), (a4, .inl (cA, 496, .inl (jA y4))), (a5, .inl (cA, 496, .inl (jA y5))), (a6, .inl (cA, 62, .inl (jA y6))), (a7, .inl (cA, 248, .inl (jA y7))), (ma, .inr (5, [.int (jI mth1'), .int (jI mn), .ref a0, .int (jI mp), .int (jI mw), .ref a1, .ref a2, .ref a3, .ref a4, .ref a5, .ref a6, .ref a7, .ref a8, .ref a9, .ref a10, .long (jL mu), .long (jL md), .int (jI mo1'29), .ref a11])), (a11, .inl (cA, 300, .inl (jA y11n'30)))] H := hP
              have hD : va_D A [(a1, .inl (cZ, 62, .inl (jA y1))), (a2, .inl (cA, 62, .inl (jA y2))), (a3, .inl (cZ, 496, .inl (jA y3))), (a4, .inl (cA, 496, .inl (jA y4))), (a5, .inl (cA, 496, .inl (jA y5))), (a6, .inl (cA, 62, .inl (jA y6))), (a7, .inl (cA, 248, .inl (jA y7))), (ma, .inr (5, [.int (jI mth1'), .int (jI mn), .ref a0, .int (jI mp), .int (jI mw), .ref a1, .ref a2, .ref a3, .ref a4, .ref a5, .ref a6, .ref a7, .ref a8, .ref a9, .ref a10, .long (jL mu), .long (jL md), .int (jI mo1'29), .ref a11])), (a11, .inl (cA, 300, .inl (jA y11n'30)))] := hD
              exact join130 mo1'29 y11n'30 (by first | assumption | omega | exact jset_b (by assumption) (by omega)) _ _ hP hD hS ls (lv_sub hl [0, 1, 2] rfl)
          · have join109 : ∀ (m3 : Int) (v3 : Int → Int) , (0 ≤ m3 ∧ m3 ≤ 28 + 14 * k) → ∀ (H : Heap) (locs : List Loc), va_P (dC, dI) vwCl [(a1, .inl (cZ, 62, .inl (jA y1))), (a2, .inl (cA, 62, .inl (jA y2))), (a3, .inl (cZ, 496, .inl (jA y3))), (a4, .inl (cA, 496, .inl (jA y4))), (a5, .inl (cA, 496, .inl (jA y5))), (a6, .inl (cA, 62, .inl (jA y6))), (a7, .inl (cA, 248, .inl (jA y7))), (ma, .inr (5, [.int (jI mth1'), .int (jI mn), .ref a0, .int (jI mp), .int (jI mw), .ref a1, .ref a2, .ref a3, .ref a4, .ref a5, .ref a6, .ref a7, .ref a8, .ref a9, .ref a10, .long (jL mu), .long (jL md), .int (jI m3), .ref a11])), (a11, .inl (cA, 300, .inl (jA v3)))] H → va_D A [(a1, .inl (cZ, 62, .inl (jA y1))), (a2, .inl (cA, 62, .inl (jA y2))), (a3, .inl (cZ, 496, .inl (jA y3))), (a4, .inl (cA, 496, .inl (jA y4))), (a5, .inl (cA, 496, .inl (jA y5))), (a6, .inl (cA, 62, .inl (jA y6))), (a7, .inl (cA, 248, .inl (jA y7))), (ma, .inr (5, [.int (jI mth1'), .int (jI mn), .ref a0, .int (jI mp), .int (jI mw), .ref a1, .ref a2, .ref a3, .ref a4, .ref a5, .ref a6, .ref a7, .ref a8, .ref a9, .ref a10, .long (jL mu), .long (jL md), .int (jI m3), .ref a11])), (a11, .inl (cA, 300, .inl (jA v3)))] → va_S A s.heap H locs → ∀ ls : Array Slot, lv_has ls 3 [(2, .int (jI k)), (0, .ref ma), (1, .int (jI z1))] → W p l e R s m ([.ref ma, .int (jI z1)] : List Value).toArray below meth c H locs 0 0 Q (F0 m 109 ls []) := by
              intro m3 v3 hm3 H locs hP hD hS ls hl
              refine ji_iinc (k := 0) (lv' := [(2, .int (jI (k + 1))), (0, .ref ma), (1, .int (jI z1))]) hx hb dXM_write_109 hl rfl (by decide) rfl (fun ls hl => ?_)
              refine lv_goto (tgt := 50) hx hb dXM_write_112 (by decide) ?_
              exact ih50 (k + 1) m3 v3 (by omega) (by first | assumption | omega | exact jset_b (by assumption) (by omega)) (by first | assumption | omega | exact jset_b (by assumption) (by omega)) _ _ hP hD hS ls (lv_sub hl [0, 1, 2] rfl)
            refine lv_aload_n hx hb dXM_write_56 rfl (lv_at hl 1 rfl) ?_
            refine va_get (D := (dC, dI)) (ci := 5) (v := .ref a3) (C := RXM) (T := TXM) (N := 19) hx hb hts (fun w h => jmem (inXM w h)) hown hK hP 7 rfl rfl 7 (by decide) (hts _ (jmem tw_635)) (fun _ h9 => h9) rfl dXM_write_57 ?_
            refine ji_bipush hx hb dXM_write_60 (by decide) ?_
            refine lv_iload_n hx hb dXM_write_62 rfl (lv_at hl 2 rfl) ?_
            refine ji_imul hx hb dXM_write_63 ?_
            refine lv_iload_n hx hb dXM_write_64 rfl (lv_at hl 0 rfl) ?_
            refine ji_iadd hx hb dXM_write_65 ?_
            refine ji_zald hx hb hK hP 2 1 rfl rfl ⟨by omega, by omega⟩ (by decide) dXM_write_66 ?_
            have rb34 := hy3 ((8 * z1) + k)
            refine ji_if_ne (tgt := 73) hx hb dXM_write_67 (by decide) (by first | omega | decide) (fun c67_ => ?_) (fun c67_ => ?_)
            · refine lv_aload_n hx hb dXM_write_73 rfl (lv_at hl 1 rfl) ?_
              refine ji_bipush hx hb dXM_write_74 (by decide) ?_
              refine lv_iload_n hx hb dXM_write_76 rfl (lv_at hl 0 rfl) ?_
              refine ji_iadd hx hb dXM_write_77 ?_
              refine lv_aload_n hx hb dXM_write_78 rfl (lv_at hl 1 rfl) ?_
              refine va_get (D := (dC, dI)) (ci := 5) (v := .ref a4) (C := RXM) (T := TXM) (N := 19) hx hb hts (fun w h => jmem (inXM w h)) hown hK hP 7 rfl rfl 8 (by decide) (hts _ (jmem tw_636)) (fun _ h9 => h9) rfl dXM_write_79 ?_
              refine ji_bipush hx hb dXM_write_82 (by decide) ?_
              refine lv_iload_n hx hb dXM_write_84 rfl (lv_at hl 2 rfl) ?_
              refine ji_imul hx hb dXM_write_85 ?_
              refine lv_iload_n hx hb dXM_write_86 rfl (lv_at hl 0 rfl) ?_
              refine ji_iadd hx hb dXM_write_87 ?_
              refine ji_iald hx hb hK hP 3 0 rfl rfl ⟨by omega, by omega⟩ (by decide) dXM_write_88 ?_
              have rb35 := hy4 ((8 * z1) + k)
              refine jwVv (rest := []) (wr := [(a1, .inl (cZ, 62, .inl (jA y1))), (a2, .inl (cA, 62, .inl (jA y2))), (a3, .inl (cZ, 496, .inl (jA y3))), (a4, .inl (cA, 496, .inl (jA y4))), (a5, .inl (cA, 496, .inl (jA y5))), (a6, .inl (cA, 62, .inl (jA y6))), (a7, .inl (cA, 248, .inl (jA y7)))]) ⟨hx, hb, hml, hown, hts⟩ (c_XM_tell l dC dI cA cZ _ ma a0 a1 a2 a3 a4 a5 a6 a7 a8 a9 a10 a11 mth1' mn mp mw mu md m2 v2 (65 + k) (y4 ((8 * z1) + k)) (by first | assumption | omega | exact jset_b (by assumption) (by omega)) (by first | assumption | omega | exact jset_b (by assumption) (by omega))) (cwV 2 hts (jG_V tw_850 tw_852 ts_38 tw_6 tw_853) rfl rfl rfl (by decide +kernel) (by rw [hR]; exact ⟨Nat.le_of_ble_eq_true rfl, Nat.le_of_ble_eq_true rfl⟩)) hK hP hD hS hA hN [7, 8] [0, 1, 2, 3, 4, 5, 6] rfl rfl (by decide) (by decide) (by decide) 7 5 rfl rfl rfl rfl hl.1 rfl (Nat.le_of_ble_eq_true rfl) dXM_write_89 (by rw [hR]; exact ⟨Nat.le_of_ble_eq_true rfl, Nat.le_of_ble_eq_true rfl⟩) (fun u38 H locs hwb39 hP hD hS => ?_)
              obtain ⟨mo1'36, y11n'37⟩ := u38
              try dsimp only at hwb39
              have f40 := hwb39
              have f40 : m2 ≤ mo1'36 ∧ mo1'36 ≤ m2 + 7 := f40
              have hP : va_P (dC, dI) vwCl [(a1, .inl (cZ, 62, .inl (jA y1))), (a2, .inl (cA, 62, .inl (jA y2))), (a3, .inl (cZ, 496, .inl (jA y3))), (a4, .inl (cA, 496, .inl (jA y4))), (a5, .inl (cA, 496, .inl (jA y5))), (a6, .inl (cA, 62, .inl (jA y6))), (a7, .inl (cA, 248, .inl (jA y7))), (ma, .inr (5, [.int (jI mth1'), .int (jI mn), .ref a0, .int (jI mp), .int (jI mw), .ref a1, .ref a2, .ref a3, .ref a4, .ref a5, .ref a6, .ref a7, .ref a8, .ref a9, .ref a10, .long (jL mu), .long (jL md), .int (jI mo1'36), .ref a11])), (a11, .inl (cA, 300, .inl (jA y11n'37)))] H := hP
              have hD : va_D A [(a1, .inl (cZ, 62, .inl (jA y1))), (a2, .inl (cA, 62, .inl (jA y2))), (a3, .inl (cZ, 496, .inl (jA y3))), (a4, .inl (cA, 496, .inl (jA y4))), (a5, .inl (cA, 496, .inl (jA y5))), (a6, .inl (cA, 62, .inl (jA y6))), (a7, .inl (cA, 248, .inl (jA y7))), (ma, .inr (5, [.int (jI mth1'), .int (jI mn), .ref a0, .int (jI mp), .int (jI mw), .ref a1, .ref a2, .ref a3, .ref a4, .ref a5, .ref a6, .ref a7, .ref a8, .ref a9, .ref a10, .long (jL mu), .long (jL md), .int (jI mo1'36), .ref a11])), (a11, .inl (cA, 300, .inl (jA y11n'37)))] := hD
              refine lv_aload_n hx hb dXM_write_92 rfl (lv_at hl 1 rfl) ?_
              refine ji_bipush hx hb dXM_write_93 (by decide) ?_
              refine lv_aload_n hx hb dXM_write_95 rfl (lv_at hl 1 rfl) ?_
              refine va_get (D := (dC, dI)) (ci := 5) (v := .ref a5) (C := RXM) (T := TXM) (N := 19) hx hb hts (fun w h => jmem (inXM w h)) hown hK hP 7 rfl rfl 9 (by decide) (hts _ (jmem tw_637)) (fun _ h9 => h9) rfl dXM_write_96 ?_
              refine ji_bipush hx hb dXM_write_99 (by decide) ?_
              refine lv_iload_n hx hb dXM_write_101 rfl (lv_at hl 2 rfl) ?_
              refine ji_imul hx hb dXM_write_102 ?_
              refine lv_iload_n hx hb dXM_write_103 rfl (lv_at hl 0 rfl) ?_
              refine ji_iadd hx hb dXM_write_104 ?_
              refine ji_iald hx hb hK hP 4 0 rfl rfl ⟨by omega, by omega⟩ (by decide) dXM_write_105 ?_
              have rb41 := hy5 ((8 * z1) + k)
              refine jwVv (rest := []) (wr := [(a1, .inl (cZ, 62, .inl (jA y1))), (a2, .inl (cA, 62, .inl (jA y2))), (a3, .inl (cZ, 496, .inl (jA y3))), (a4, .inl (cA, 496, .inl (jA y4))), (a5, .inl (cA, 496, .inl (jA y5))), (a6, .inl (cA, 62, .inl (jA y6))), (a7, .inl (cA, 248, .inl (jA y7)))]) ⟨hx, hb, hml, hown, hts⟩ (c_XM_tell l dC dI cA cZ _ ma a0 a1 a2 a3 a4 a5 a6 a7 a8 a9 a10 a11 mth1' mn mp mw mu md mo1'36 y11n'37 45 (y5 ((8 * z1) + k)) (by first | assumption | omega | exact jset_b (by assumption) (by omega)) (by first | assumption | omega | exact jset_b (by assumption) (by omega))) (cwV 2 hts (jG_V tw_850 tw_852 ts_38 tw_6 tw_853) rfl rfl rfl (by decide +kernel) (by rw [hR]; exact ⟨Nat.le_of_ble_eq_true rfl, Nat.le_of_ble_eq_true rfl⟩)) hK hP hD hS hA hN [7, 8] [0, 1, 2, 3, 4, 5, 6] rfl rfl (by decide) (by decide) (by decide) 7 5 rfl rfl rfl rfl hl.1 rfl (Nat.le_of_ble_eq_true rfl) dXM_write_106 (by rw [hR]; exact ⟨Nat.le_of_ble_eq_true rfl, Nat.le_of_ble_eq_true rfl⟩) (fun u44 H locs hwb45 hP hD hS => ?_)
              obtain ⟨mo1'42, y11n'43⟩ := u44
              try dsimp only at hwb45
              have f46 := hwb45
              have f46 : mo1'36 ≤ mo1'42 ∧ mo1'42 ≤ mo1'36 + 7 := f46
              have hP : va_P (dC, dI) vwCl [(a1, .inl (cZ, 62, .inl (jA y1))), (a2, .inl (cA, 62, .inl (jA y2))), (a3, .inl (cZ, 496, .inl (jA y3))), (a4, .inl (cA, 496, .inl (jA y4))), (a5, .inl (cA, 496, .inl (jA y5))), (a6, .inl (cA, 62, .inl (jA y6))), (a7, .inl (cA, 248, .inl (jA y7))), (ma, .inr (5, [.int (jI mth1'), .int (jI mn), .ref a0, .int (jI mp), .int (jI mw), .ref a1, .ref a2, .ref a3, .ref a4, .ref a5, .ref a6, .ref a7, .ref a8, .ref a9, .ref a10, .long (jL mu), .long (jL md), .int (jI mo1'42), .ref a11])), (a11, .inl (cA, 300, .inl (jA y11n'43)))] H := hP
              have hD : va_D A [(a1, .inl (cZ, 62, .inl (jA y1))), (a2, .inl (cA, 62, .inl (jA y2))), (a3, .inl (cZ, 496, .inl (jA y3))), (a4, .inl (cA, 496, .inl (jA y4))), (a5, .inl (cA, 496, .inl (jA y5))), (a6, .inl (cA, 62, .inl (jA y6))), (a7, .inl (cA, 248, .inl (jA y7))), (ma, .inr (5, [.int (jI mth1'), .int (jI mn), .ref a0, .int (jI mp), .int (jI mw), .ref a1, .ref a2, .ref a3, .ref a4, .ref a5, .ref a6, .ref a7, .ref a8, .ref a9, .ref a10, .long (jL mu), .long (jL md), .int (jI mo1'42), .ref a11])), (a11, .inl (cA, 300, .inl (jA y11n'43)))] := hD
              exact join109 mo1'42 y11n'43 (by first | assumption | omega | exact jset_b (by assumption) (by omega)) _ _ hP hD hS ls (lv_sub hl [0, 1, 2] rfl)
            · refine lv_goto (tgt := 109) hx hb dXM_write_70 (by decide) ?_
              exact join109 m2 v2 (by first | assumption | omega | exact jset_b (by assumption) (by omega)) _ _ hP hD hS ls (lv_sub hl [0, 1, 2] rfl)
      exact loop50 (Int.toNat (8 - 0) + 1) 0 m1 v1 (by omega) (by first | assumption | omega | exact jset_b (by assumption) (by omega)) (by first | assumption | omega | exact jset_b (by assumption) (by omega)) _ _ hP hD hS ls (lv_sub hl [0, 1, 2] rfl)
    refine lv_aload_n hx hb dXM_write_27 rfl (lv_at hl 0 rfl) ?_
    refine va_get (D := (dC, dI)) (ci := 5) (v := .ref a2) (C := RXM) (T := TXM) (N := 19) hx hb hts (fun w h => jmem (inXM w h)) hown hK hP 7 rfl rfl 6 (by decide) (hts _ (jmem tw_634)) (fun _ h9 => h9) rfl dXM_write_28 ?_
    refine lv_iload_n hx hb dXM_write_31 rfl (lv_at hl 1 rfl) ?_
    refine ji_iald hx hb hK hP 1 0 rfl rfl ⟨by omega, by omega⟩ (by decide) dXM_write_32 ?_
    have rb47 := hy2 z1
    refine ji_if_le (tgt := 48) hx hb dXM_write_33 (by decide) (by first | omega | decide) (fun c33_ => ?_) (fun c33_ => ?_)
    · exact join48 mo1' y11n' (by first | assumption | omega | exact jset_b (by assumption) (by omega)) _ _ hP hD hS ls (lv_sub hl [0, 1] rfl)
    · refine lv_aload_n hx hb dXM_write_36 rfl (lv_at hl 0 rfl) ?_
      refine ji_bipush hx hb dXM_write_37 (by decide) ?_
      refine lv_aload_n hx hb dXM_write_39 rfl (lv_at hl 0 rfl) ?_
      refine va_get (D := (dC, dI)) (ci := 5) (v := .ref a2) (C := RXM) (T := TXM) (N := 19) hx hb hts (fun w h => jmem (inXM w h)) hown hK hP 7 rfl rfl 6 (by decide) (hts _ (jmem tw_634)) (fun _ h9 => h9) rfl dXM_write_40 ?_
      refine lv_iload_n hx hb dXM_write_43 rfl (lv_at hl 1 rfl) ?_
      refine ji_iald hx hb hK hP 1 0 rfl rfl ⟨by omega, by omega⟩ (by decide) dXM_write_44 ?_
      have rb48 := hy2 z1
      refine jwVv (rest := []) (wr := [(a1, .inl (cZ, 62, .inl (jA y1))), (a2, .inl (cA, 62, .inl (jA y2))), (a3, .inl (cZ, 496, .inl (jA y3))), (a4, .inl (cA, 496, .inl (jA y4))), (a5, .inl (cA, 496, .inl (jA y5))), (a6, .inl (cA, 62, .inl (jA y6))), (a7, .inl (cA, 248, .inl (jA y7)))]) ⟨hx, hb, hml, hown, hts⟩ (c_XM_tell l dC dI cA cZ _ ma a0 a1 a2 a3 a4 a5 a6 a7 a8 a9 a10 a11 mth1' mn mp mw mu md mo1' y11n' 60 (y2 z1) (by first | assumption | omega | exact jset_b (by assumption) (by omega)) (by first | assumption | omega | exact jset_b (by assumption) (by omega))) (cwV 2 hts (jG_V tw_850 tw_852 ts_38 tw_6 tw_853) rfl rfl rfl (by decide +kernel) (by rw [hR]; exact ⟨Nat.le_of_ble_eq_true rfl, Nat.le_of_ble_eq_true rfl⟩)) hK hP hD hS hA hN [7, 8] [0, 1, 2, 3, 4, 5, 6] rfl rfl (by decide) (by decide) (by decide) 7 5 rfl rfl rfl rfl hl.1 rfl (Nat.le_of_ble_eq_true rfl) dXM_write_45 (by rw [hR]; exact ⟨Nat.le_of_ble_eq_true rfl, Nat.le_of_ble_eq_true rfl⟩) (fun u51 H locs hwb52 hP hD hS => ?_)
      obtain ⟨mo1'49, y11n'50⟩ := u51
      try dsimp only at hwb52
      have f53 := hwb52
      have f53 : mo1' ≤ mo1'49 ∧ mo1'49 ≤ mo1' + 7 := f53
      have hP : va_P (dC, dI) vwCl [(a1, .inl (cZ, 62, .inl (jA y1))), (a2, .inl (cA, 62, .inl (jA y2))), (a3, .inl (cZ, 496, .inl (jA y3))), (a4, .inl (cA, 496, .inl (jA y4))), (a5, .inl (cA, 496, .inl (jA y5))), (a6, .inl (cA, 62, .inl (jA y6))), (a7, .inl (cA, 248, .inl (jA y7))), (ma, .inr (5, [.int (jI mth1'), .int (jI mn), .ref a0, .int (jI mp), .int (jI mw), .ref a1, .ref a2, .ref a3, .ref a4, .ref a5, .ref a6, .ref a7, .ref a8, .ref a9, .ref a10, .long (jL mu), .long (jL md), .int (jI mo1'49), .ref a11])), (a11, .inl (cA, 300, .inl (jA y11n'50)))] H := hP
      have hD : va_D A [(a1, .inl (cZ, 62, .inl (jA y1))), (a2, .inl (cA, 62, .inl (jA y2))), (a3, .inl (cZ, 496, .inl (jA y3))), (a4, .inl (cA, 496, .inl (jA y4))), (a5, .inl (cA, 496, .inl (jA y5))), (a6, .inl (cA, 62, .inl (jA y6))), (a7, .inl (cA, 248, .inl (jA y7))), (ma, .inr (5, [.int (jI mth1'), .int (jI mn), .ref a0, .int (jI mp), .int (jI mw), .ref a1, .ref a2, .ref a3, .ref a4, .ref a5, .ref a6, .ref a7, .ref a8, .ref a9, .ref a10, .long (jL mu), .long (jL md), .int (jI mo1'49), .ref a11])), (a11, .inl (cA, 300, .inl (jA y11n'50)))] := hD
      exact join48 mo1'49 y11n'50 (by first | assumption | omega | exact jset_b (by assumption) (by omega)) _ _ hP hD hS ls (lv_sub hl [0, 1] rfl)
  · refine ji_iconst hx hb dXM_write_13 ?_
    have hP9 := hP.sub (ws' := [(ma, .inr (5, [.int (jI mth1'), .int (jI mn), .ref a0, .int (jI mp), .int (jI mw), .ref a1, .ref a2, .ref a3, .ref a4, .ref a5, .ref a6, .ref a7, .ref a8, .ref a9, .ref a10, .long (jL mu), .long (jL md), .int (jI mo), .ref a11])), (a1, .inl (cZ, 62, .inl (jA y1))), (a2, .inl (cA, 62, .inl (jA y2))), (a3, .inl (cZ, 496, .inl (jA y3))), (a4, .inl (cA, 496, .inl (jA y4))), (a5, .inl (cA, 496, .inl (jA y5))), (a6, .inl (cA, 62, .inl (jA y6))), (a7, .inl (cA, 248, .inl (jA y7))), (a11, .inl (cA, 300, .inl (jA y11)))]) [8, 0, 1, 2, 3, 4, 5, 6, 7] rfl
    have hD9 := hD.sub (ws' := [(ma, .inr (5, [.int (jI mth1'), .int (jI mn), .ref a0, .int (jI mp), .int (jI mw), .ref a1, .ref a2, .ref a3, .ref a4, .ref a5, .ref a6, .ref a7, .ref a8, .ref a9, .ref a10, .long (jL mu), .long (jL md), .int (jI mo), .ref a11])), (a1, .inl (cZ, 62, .inl (jA y1))), (a2, .inl (cA, 62, .inl (jA y2))), (a3, .inl (cZ, 496, .inl (jA y3))), (a4, .inl (cA, 496, .inl (jA y4))), (a5, .inl (cA, 496, .inl (jA y5))), (a6, .inl (cA, 62, .inl (jA y6))), (a7, .inl (cA, 248, .inl (jA y7))), (a11, .inl (cA, 300, .inl (jA y11)))]) [8, 0, 1, 2, 3, 4, 5, 6, 7] (by decide) rfl
    subst hAe
    subst hQ
    exact W.iret (v := jI 0) hx hb hr (fun t ht hW => ⟨⟨_, (0, mth1', mo, y11), rfl, ⟨rfl, (show 0 ≤ mth1' ∧ mth1' ≤ 2 from by first | assumption | omega | exact jset_b (by assumption) (by omega)), (show 0 ≤ mo ∧ mo ≤ 300 from by first | assumption | omega | exact jset_b (by assumption) (by omega))⟩, ⟨by rw [ht]; exact hP9, va_K.moved hW.alike hK, hD9⟩⟩, hS.F ht⟩) hS.2.2 dXM_write_14

end
