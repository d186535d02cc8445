theorem jmul_b {a b A B : Int} (h0 : 0 ≤ a) (h1 : a ≤ A) (h2 : 0 ≤ b) (h3 : b ≤ B) : 0 ≤ a * b ∧ a * b ≤ A * B := ⟨Int.mul_nonneg h0 h2, Int.mul_le_mul h1 h3 h2 (Int.le_trans h0 h1)⟩
theorem jtdiv_b {d : Int} (h : 0 < d) : 0 ≤ (232792560 : Int).tdiv d ∧ (232792560 : Int).tdiv d ≤ 232792560 := by
  rw [Int.tdiv_eq_ediv_of_nonneg (by decide)]
  exact ⟨Int.ediv_nonneg (by decide) (by omega), Int.ediv_le_self _ (by decide)⟩
theorem jterm_b {a d : Int} (h0 : -1 ≤ a) (h1 : a ≤ 100000) (h : 0 < d) : -232792560 ≤ a * (232792560 : Int).tdiv d ∧ a * (232792560 : Int).tdiv d ≤ 23279256000000 := by
  have hd := jtdiv_b h
  by_cases ha : 0 ≤ a
  · have := jmul_b ha h1 hd.1 hd.2
    omega
  · have e : a = -1 := by omega
    subst e
    omega
noncomputable def g_XB_scaledSum_L5 (bg : Int) (bf : Int) (fd : Int → Int) (zk : Int) (fw : Int → Int) : Nat → Int → Int → Int
  | 0, _, _ => 0
  | n9 + 1, v, k =>
    if k < 8 then
      if k < 8 then
        if 0 < (f_XB_divisorOf bg bf fd zk k) then
          g_XB_scaledSum_L5 bg bf fd zk fw n9 (v + ((fw k) * (Int.tdiv 232792560 (f_XB_divisorOf bg bf fd zk k)))) (k + 1)
        else
          g_XB_scaledSum_L5 bg bf fd zk fw n9 v (k + 1)
      else
        v
    else
      v
noncomputable def f_XB_scaledSum_L5 : Int → Int → (Int → Int) → Int → (Int → Int) → Nat → Int → Int → Int := jopq g_XB_scaledSum_L5
theorem f_XB_scaledSum_L5_q : f_XB_scaledSum_L5 = g_XB_scaledSum_L5 := jopq_eq _
theorem f_XB_scaledSum_L5_s (bg : Int) (bf : Int) (fd : Int → Int) (zk : Int) (fw : Int → Int) (n9 : Nat) (v : Int) (k : Int) : f_XB_scaledSum_L5 bg bf fd zk fw (n9 + 1) v k = (
    if k < 8 then
      if k < 8 then
        if 0 < (f_XB_divisorOf bg bf fd zk k) then
          f_XB_scaledSum_L5 bg bf fd zk fw n9 (v + ((fw k) * (Int.tdiv 232792560 (f_XB_divisorOf bg bf fd zk k)))) (k + 1)
        else
          f_XB_scaledSum_L5 bg bf fd zk fw n9 v (k + 1)
      else
        v
    else
      v
  : Int) := by rw [f_XB_scaledSum_L5_q]; rfl
theorem f_XB_scaledSum_L5_z (bg : Int) (bf : Int) (fd : Int → Int) (zk : Int) (fw : Int → Int) (v : Int) (k : Int) : f_XB_scaledSum_L5 bg bf fd zk fw 0 v k = 0 := by rw [f_XB_scaledSum_L5_q]; rfl
noncomputable def g_XB_scaledSum (bg : Int) (bf : Int) (fd : Int → Int) (zk : Int) (fw : Int → Int) : Int :=
  f_XB_scaledSum_L5 bg bf fd zk fw (Int.toNat (8 - 0) + 1) 0 0
noncomputable def f_XB_scaledSum : Int → Int → (Int → Int) → Int → (Int → Int) → Int := jopq g_XB_scaledSum
theorem f_XB_scaledSum_q : f_XB_scaledSum = g_XB_scaledSum := jopq_eq _
theorem f_XB_scaledSum_s (bg : Int) (bf : Int) (fd : Int → Int) (zk : Int) (fw : Int → Int) : f_XB_scaledSum bg bf fd zk fw = (
    f_XB_scaledSum_L5 bg bf fd zk fw (Int.toNat (8 - 0) + 1) 0 0
  : Int) := by rw [f_XB_scaledSum_q]; rfl
theorem f_XB_scaledSum_L (bg bf : Int) (fd : Int → Int) (zk : Int) (fw : Int → Int) (hbd : ∀ i, 0 ≤ fd i ∧ fd i ≤ 20) (hw0 : ∀ i, -1 ≤ fw i ∧ fw i ≤ 100000) : ∀ (n : Nat) (v k : Int), 0 ≤ k → k ≤ 8 → (-232792560) * k ≤ v ∧ v ≤ 23279256000000 * k → -1862340480 ≤ f_XB_scaledSum_L5 bg bf fd zk fw n v k ∧ f_XB_scaledSum_L5 bg bf fd zk fw n v k ≤ 186234048000000 := by
  intro n
  induction n with
  | zero => intro v k _ _ _; simp only [f_XB_scaledSum_L5_z] <;> omega
  | succ n ih =>
    intro v k h0 h1 h2
    rw [f_XB_scaledSum_L5_s]
    (repeat' split) <;> first | omega | exact ih _ _ (by omega) (by omega) (by omega) | (rename_i h; have := jterm_b (hw0 k).1 (hw0 k).2 h; exact ih _ _ (by omega) (by omega) (by omega))
theorem f_XB_scaledSum_b (bg : Int) (bf : Int) (fd : Int → Int) (zk : Int) (fw : Int → Int) (hbd : ∀ i, 0 ≤ fd i ∧ fd i ≤ 20) (hzk : 0 ≤ zk ∧ zk < 4) (hw0 : ∀ i, -1 ≤ fw i ∧ fw i ≤ 100000) : -1862340480 ≤ (f_XB_scaledSum bg bf fd zk fw) ∧ (f_XB_scaledSum bg bf fd zk fw) ≤ 186234048000000 := by rw [f_XB_scaledSum_s]; exact f_XB_scaledSum_L _ _ _ _ _ hbd hw0 _ _ _ (by omega) (by omega) (by omega)
set_option maxHeartbeats 4000000 in
set_option maxRecDepth 100000 in
theorem c_XB_scaledSum (l : Launch) (dC : Nat → ClassId) (dI : Nat → Nat → Nat) (cA : ClassId) (ba : Nat) (bt : Nat) (bp : Nat) (bl : Nat) (bh : Nat) (bq : Nat) (br : Nat) (bd : Nat) (bg : Int) (bf : Int) (fd : Int → Int) (zk : Int) (ra : Nat) (fw : Int → Int) (hbd : ∀ i, 0 ≤ fd i ∧ fd i ≤ 20) (hzk : 0 ≤ zk ∧ zk < 4) (hw0 : ∀ i, -1 ≤ fw i ∧ fw i ≤ 100000) : Met l yXB_scaledSum (Cond.code yXB_scaledSum cXB_scaledSum 7 (some .long) :: TBL) ({ frames := 1, cells := 0, slots := 0, locals := 22 } : Room) (va_Pc [.ref ba, .int (jI zk), .ref ra] (jB (dC, dI) [(cA, .int)] [(ba, .inr (0, [.ref bt, .ref bp, .ref bl, .ref bh, .ref bq, .ref br, .ref bd, .int (jI bg), .int (jI bf)])), (bd, .inl (cA, 32, .inl (jA fd))), (ra, .inl (cA, 8, .inl (jA fw)))])) (vp_Sl (fun r => r = jL (f_XB_scaledSum bg bf fd zk fw))) 0 0 (fun _ => False) := by
  refine jMet (cc := cXB_scaledSum) (maxL := 7) (ret := some .long) (by decide) rfl ?_
  intro p e s m args below meth c s₁ R Q hR hQ B hml hv
  obtain ⟨rfl, hP, hK, hN⟩ := hv
  have hx := B.exec
  have hb := B.bytes
  have hr := B.returns
  have hts := atoms_spec (ws := Cond.code yXB_scaledSum cXB_scaledSum 7 (some .long) :: TBL) B.pre
  have hown : s.vm.findClass RXB = some m.cls := findClass_of_methodNamed B.named
  have hlocks := B.notSynchronized
  have hP : va_P (dC, dI) vwCl [(ba, .inr (0, [.ref bt, .ref bp, .ref bl, .ref bh, .ref bq, .ref br, .ref bd, .int (jI bg), .int (jI bf)])), (bd, .inl (cA, 32, .inl (jA fd))), (ra, .inl (cA, 8, .inl (jA fw)))] s.heap := hP
  have hl := lv_entry ([.ref ba, .int (jI zk), .ref ra]) (n := 7) (Nat.le_of_ble_eq_true rfl)
  rw [lg_entry_eq]
  generalize (lg_sl ([.ref ba, .int (jI zk), .ref ra]) ++ List.replicate (7 - (lg_sl ([.ref ba, .int (jI zk), .ref ra])).length) Slot.unset).toArray = ls at hl ⊢
  have hl : lv_has ls 7 [(0, .ref ba), (1, .int (jI zk)), (2, .ref ra)] := hl
  refine ji_lconst (z := 0) hx hb dXB_scaledSum_0 rfl ?_
  refine lv_lstore_n (lv' := [(3, .long (jL 0)), (0, .ref ba), (1, .int (jI zk)), (2, .ref ra)]) hx hb dXB_scaledSum_1 rfl hl (by decide) rfl (fun ls hl => ?_)
  refine ji_iconst hx hb dXB_scaledSum_2 ?_
  refine lv_istore (lv' := [(5, .int (jI 0)), (3, .long (jL 0)), (0, .ref ba), (1, .int (jI zk)), (2, .ref ra)]) hx hb dXB_scaledSum_3 hl (by decide) rfl (fun ls hl => ?_)
  have loop5 : ∀ (n9 : Nat) (v : Int) (k : Int) , 8 - k < (n9 : Int) → f_XB_scaledSum_L5 bg bf fd zk fw n9 v k = f_XB_scaledSum bg bf fd zk fw → (0 ≤ k ∧ k ≤ 8) → ((-232792560) * k ≤ v ∧ v ≤ 23279256000000 * k) → ∀ ls : Array Slot, lv_has ls 7 [(5, .int (jI k)), (3, .long (jL v)), (0, .ref ba), (1, .int (jI zk)), (2, .ref ra)] → W p l e R s m ([.ref ba, .int (jI zk), .ref ra] : List Value).toArray below meth c s.heap [] 0 0 Q (F0 m 5 ls []) := by
    intro n9
    induction n9 with
    | zero =>
      intro v k hm hF hk hv
      exact absurd hm (by omega)
    | succ n9 ih5 =>
      intro v k hm hF hk hv ls hl
      refine lv_iload hx hb dXB_scaledSum_5 (lv_at hl 0 rfl) ?_
      refine ji_bipush hx hb dXB_scaledSum_7 (by decide) ?_
      refine ji_icmp_ge (tgt := 55) hx hb dXB_scaledSum_9 (by decide) (by omega) (by omega) (fun c9_ => ?_) (fun c9_ => ?_)
      · refine lv_lload_n hx hb dXB_scaledSum_55 rfl (lv_at hl 1 rfl) ?_
        subst hQ
        exact W.lret (v := jL v) hx hb hr (fun t ht hW => ⟨_, rfl, congrArg jL (Eq.trans (by rw [f_XB_scaledSum_L5_s]; rw [if_neg (Int.not_lt.mpr c9_)]; try rfl) hF), ht⟩) (fun _ h => nomatch h) dXB_scaledSum_56
      · refine lv_iload hx hb dXB_scaledSum_12 (lv_at hl 0 rfl) ?_
        refine lv_aload_n hx hb dXB_scaledSum_14 rfl (lv_at hl 4 rfl) ?_
        refine ji_alen (z := 8) hx hb hK hP 2 0 rfl rfl rfl dXB_scaledSum_15 ?_
        refine ji_icmp_ge (tgt := 55) hx hb dXB_scaledSum_16 (by decide) (by omega) (by omega) (fun c16_ => ?_) (fun c16_ => ?_)
        · refine lv_lload_n hx hb dXB_scaledSum_55 rfl (lv_at hl 1 rfl) ?_
          subst hQ
          exact W.lret (v := jL v) hx hb hr (fun t ht hW => ⟨_, rfl, congrArg jL (Eq.trans (by rw [f_XB_scaledSum_L5_s]; rw [if_pos c9_, if_neg (Int.not_lt.mpr c16_)]; try rfl) hF), ht⟩) (fun _ h => nomatch h) dXB_scaledSum_56
        · refine lv_aload_n hx hb dXB_scaledSum_19 rfl (lv_at hl 2 rfl) ?_
          refine lv_iload_n hx hb dXB_scaledSum_20 rfl (lv_at hl 3 rfl) ?_
          refine lv_iload hx hb dXB_scaledSum_21 (lv_at hl 0 rfl) ?_
          refine jrVi (rest := []) ⟨hx, hb, hml, hown, hts⟩ (c_XB_divisorOf l dC dI cA ba bt bp bl bh bq br bd bg bf fd zk k (by first | assumption | omega) (by first | assumption | omega) (by first | assumption | omega)) (cwV 2 hts (jG_V tw_493 tw_191 tw_192 tw_5 tw_193) rfl rfl rfl (by decide +kernel) (by rw [hR]; exact ⟨Nat.le_of_ble_eq_true rfl, Nat.le_of_ble_eq_true rfl⟩)) hK hP hN [0, 1] rfl 0 0 rfl rfl rfl rfl hl.1 rfl (Nat.le_of_ble_eq_true rfl) dXB_scaledSum_23 (by rw [hR]; exact ⟨Nat.le_of_ble_eq_true rfl, Nat.le_of_ble_eq_true rfl⟩) ?_
          have f := f_XB_divisorOf_b bg bf fd zk k (by first | assumption | omega) (by first | assumption | omega) (by first | assumption | omega)
          refine lv_istore (lv' := [(6, .int (jI (f_XB_divisorOf bg bf fd zk k))), (5, .int (jI k)), (3, .long (jL v)), (0, .ref ba), (1, .int (jI zk)), (2, .ref ra)]) hx hb dXB_scaledSum_26 hl (by decide) rfl (fun ls hl => ?_)
          refine lv_iload hx hb dXB_scaledSum_28 (lv_at hl 0 rfl) ?_
          refine ji_if_le (tgt := 49) hx hb dXB_scaledSum_30 (by decide) (by omega) (fun c30_ => ?_) (fun c30_ => ?_)
          · refine ji_iinc (k := 1) (lv' := [(5, .int (jI (k + 1))), (6, .int (jI (f_XB_divisorOf bg bf fd zk k))), (3, .long (jL v)), (0, .ref ba), (1, .int (jI zk)), (2, .ref ra)]) hx hb dXB_scaledSum_49 hl rfl (by decide) rfl (fun ls hl => ?_)
            refine lv_goto (tgt := 5) hx hb dXB_scaledSum_52 (by decide) ?_
            exact ih5 v (k + 1) (by omega) (Eq.trans (by rw [f_XB_scaledSum_L5_s]; rw [if_pos c9_, if_pos c16_, if_neg (Int.not_lt.mpr c30_)]; try rfl) hF) (by first | assumption | omega) (by first | omega | (have := hw0 k; have := jterm_b (hw0 k).1 (hw0 k).2 (show (0 : Int) < f_XB_divisorOf bg bf fd zk k by omega); omega)) ls (lv_sub hl [0, 2, 3, 4, 5] rfl)
          · refine lv_lload_n hx hb dXB_scaledSum_33 rfl (lv_at hl 2 rfl) ?_
            refine lv_aload_n hx hb dXB_scaledSum_34 rfl (lv_at hl 5 rfl) ?_
            refine lv_iload hx hb dXB_scaledSum_35 (lv_at hl 1 rfl) ?_
            refine ji_iald hx hb hK hP 2 0 rfl rfl ⟨by omega, by omega⟩ (by decide) dXB_scaledSum_37 ?_
            have rb := hw0 k
            refine ji_i2l hx hb dXB_scaledSum_38 (by omega) ?_
            refine lv_ldc2 hx hb hown (hts _ (jmem tw_494)) dXB_scaledSum_39 ?_
            refine ji_rel (y := 232792560) (by decide) ?_
            refine lv_iload hx hb dXB_scaledSum_42 (lv_at hl 0 rfl) ?_
            refine ji_i2l hx hb dXB_scaledSum_44 (by omega) ?_
            refine ji_ldiv hx hb dXB_scaledSum_45 (by omega) (by omega) (by omega) (by omega) ?_
            refine ji_lmul hx hb dXB_scaledSum_46 ?_
            refine ji_ladd hx hb dXB_scaledSum_47 ?_
            refine lv_lstore_n (lv' := [(3, .long (jL (v + ((fw k) * (Int.tdiv 232792560 (f_XB_divisorOf bg bf fd zk k)))))), (6, .int (jI (f_XB_divisorOf bg bf fd zk k))), (5, .int (jI k)), (0, .ref ba), (1, .int (jI zk)), (2, .ref ra)]) hx hb dXB_scaledSum_48 rfl hl (by decide) rfl (fun ls hl => ?_)
            refine ji_iinc (k := 2) (lv' := [(5, .int (jI (k + 1))), (3, .long (jL (v + ((fw k) * (Int.tdiv 232792560 (f_XB_divisorOf bg bf fd zk k)))))), (6, .int (jI (f_XB_divisorOf bg bf fd zk k))), (0, .ref ba), (1, .int (jI zk)), (2, .ref ra)]) hx hb dXB_scaledSum_49 hl rfl (by decide) rfl (fun ls hl => ?_)
            refine lv_goto (tgt := 5) hx hb dXB_scaledSum_52 (by decide) ?_
            exact ih5 (v + ((fw k) * (Int.tdiv 232792560 (f_XB_divisorOf bg bf fd zk k)))) (k + 1) (by omega) (Eq.trans (by rw [f_XB_scaledSum_L5_s]; rw [if_pos c9_, if_pos c16_, if_pos c30_]; try rfl) hF) (by first | assumption | omega) (by first | omega | (have := hw0 k; have := jterm_b (hw0 k).1 (hw0 k).2 (show (0 : Int) < f_XB_divisorOf bg bf fd zk k by omega); omega)) ls (lv_sub hl [0, 1, 3, 4, 5] rfl)
  exact loop5 (Int.toNat (8 - 0) + 1) 0 0 (by omega) (Eq.trans (by rw [f_XB_scaledSum_s]; try rfl) rfl) (by first | assumption | omega) (by first | assumption | omega) ls (lv_sub hl [0, 1, 2, 3, 4] rfl)
noncomputable def g_XB_copyEnds_L3 (bg : Int) (bf : Int) (fp : Int → Int) (fl : Int → Int) (fh : Int → Int) (zg : Int) (zn : Int) (fw : Int → Int) : Nat → Int → (Int → Int) → (Int → Int)
  | 0, _, _ => fun _ => 0
  | n9 + 1, k, fa =>
    if k < 8 then
      if k < 8 then
        g_XB_copyEnds_L3 bg bf fp fl fh zg zn fw n9 (k + 1) (jset fa k (f_XB_endOf bg bf fp fl fh zg k zn))
      else
        fa
    else
      fa
noncomputable def f_XB_copyEnds_L3 : Int → Int → (Int → Int) → (Int → Int) → (Int → Int) → Int → Int → (Int → Int) → Nat → Int → (Int → Int) → (Int → Int) := jopq g_XB_copyEnds_L3
theorem f_XB_copyEnds_L3_q : f_XB_copyEnds_L3 = g_XB_copyEnds_L3 := jopq_eq _
theorem f_XB_copyEnds_L3_s (bg : Int) (bf : Int) (fp : Int → Int) (fl : Int → Int) (fh : Int → Int) (zg : Int) (zn : Int) (fw : Int → Int) (n9 : Nat) (k : Int) (fa : Int → Int) : f_XB_copyEnds_L3 bg bf fp fl fh zg zn fw (n9 + 1) k fa = (
    if k < 8 then
      if k < 8 then
        f_XB_copyEnds_L3 bg bf fp fl fh zg zn fw n9 (k + 1) (jset fa k (f_XB_endOf bg bf fp fl fh zg k zn))
      else
        fa
    else
      fa
  : (Int → Int)) := by rw [f_XB_copyEnds_L3_q]; rfl
theorem f_XB_copyEnds_L3_z (bg : Int) (bf : Int) (fp : Int → Int) (fl : Int → Int) (fh : Int → Int) (zg : Int) (zn : Int) (fw : Int → Int) (k : Int) (fa : Int → Int) : f_XB_copyEnds_L3 bg bf fp fl fh zg zn fw 0 k fa = fun _ => 0 := by rw [f_XB_copyEnds_L3_q]; rfl
noncomputable def g_XB_copyEnds (bg : Int) (bf : Int) (fp : Int → Int) (fl : Int → Int) (fh : Int → Int) (zg : Int) (zn : Int) (fw : Int → Int) : (Int → Int) :=
  f_XB_copyEnds_L3 bg bf fp fl fh zg zn fw (Int.toNat (8 - 0) + 1) 0 fw
noncomputable def f_XB_copyEnds : Int → Int → (Int → Int) → (Int → Int) → (Int → Int) → Int → Int → (Int → Int) → (Int → Int) := jopq g_XB_copyEnds
theorem f_XB_copyEnds_q : f_XB_copyEnds = g_XB_copyEnds := jopq_eq _
theorem f_XB_copyEnds_s (bg : Int) (bf : Int) (fp : Int → Int) (fl : Int → Int) (fh : Int → Int) (zg : Int) (zn : Int) (fw : Int → Int) : f_XB_copyEnds bg bf fp fl fh zg zn fw = (
    f_XB_copyEnds_L3 bg bf fp fl fh zg zn fw (Int.toNat (8 - 0) + 1) 0 fw
  : (Int → Int)) := by rw [f_XB_copyEnds_q]; rfl
theorem f_XB_copyEnds_L (bg bf : Int) (fp fl fh : Int → Int) (zg zn : Int) (fw : Int → Int) (hbp : ∀ i, 0 ≤ fp i ∧ fp i ≤ 30) (hbl : ∀ i, 0 ≤ fl i ∧ fl i ≤ 100000) (hbh : ∀ i, -1 ≤ fh i ∧ fh i ≤ 100000) (hzg : 0 ≤ zg ∧ zg ≤ 30) (hzn : 0 ≤ zn ∧ zn < 2) : ∀ (n : Nat) (k : Int) (fa : Int → Int), 0 ≤ k → (∀ i, -1 ≤ fa i ∧ fa i ≤ 100000) → ∀ i, -1 ≤ f_XB_copyEnds_L3 bg bf fp fl fh zg zn fw n k fa i ∧ f_XB_copyEnds_L3 bg bf fp fl fh zg zn fw n k fa i ≤ 100000 := by
  intro n
  induction n with
  | zero => intro k fa _ _ i; simp only [f_XB_copyEnds_L3_z] <;> omega
  | succ n ih =>
    intro k fa h0 h
    rw [f_XB_copyEnds_L3_s]
    split
    · refine ih _ _ (by omega) (fun i => ?_)
      unfold jset
      split
      · exact f_XB_endOf_b bg bf fp fl fh zg k zn hbp hbl hbh hzg (by omega) hzn
      · exact h i
    · exact h
theorem f_XB_copyEnds_b (bg : Int) (bf : Int) (fp : Int → Int) (fl : Int → Int) (fh : Int → Int) (zg : Int) (zn : Int) (fw : Int → Int) (hbp : ∀ i, 0 ≤ fp i ∧ fp i ≤ 30) (hbl : ∀ i, 0 ≤ fl i ∧ fl i ≤ 100000) (hbh : ∀ i, -1 ≤ fh i ∧ fh i ≤ 100000) (hzg : 0 ≤ zg ∧ zg ≤ 30) (hzn : 0 ≤ zn ∧ zn < 2) (hw0 : ∀ i, -1 ≤ fw i ∧ fw i ≤ 100000) : ∀ i, -1 ≤ (f_XB_copyEnds bg bf fp fl fh zg zn fw) i ∧ (f_XB_copyEnds bg bf fp fl fh zg zn fw) i ≤ 100000 := by rw [f_XB_copyEnds_s]; exact f_XB_copyEnds_L _ _ _ _ _ _ _ _ hbp hbl hbh hzg hzn _ _ _ (by omega) hw0
set_option maxHeartbeats 4000000 in
set_option maxRecDepth 100000 in
theorem c_XB_copyEnds (l : Launch) (dC : Nat → ClassId) (dI : Nat → Nat → Nat) (cA : ClassId) (sz : Nat) (ba : Nat) (bt : Nat) (bp : Nat) (bl : Nat) (bh : Nat) (bq : Nat) (br : Nat) (bd : Nat) (bg : Int) (bf : Int) (fp : Int → Int) (fl : Int → Int) (fh : Int → Int) (zg : Int) (zn : Int) (ra : Nat) (fw : Int → Int) (hbp : ∀ i, 0 ≤ fp i ∧ fp i ≤ 30) (hbl : ∀ i, 0 ≤ fl i ∧ fl i ≤ 100000) (hbh : ∀ i, -1 ≤ fh i ∧ fh i ≤ 100000) (hzg : 0 ≤ zg ∧ zg ≤ 30) (hzn : 0 ≤ zn ∧ zn < 2) (hw0 : ∀ i, -1 ≤ fw i ∧ fw i ≤ 100000) : Met l yXB_copyEnds (Cond.code yXB_copyEnds cXB_copyEnds 5 none :: TBL) ({ frames := 2, cells := 0, slots := 0, locals := 47 } : Room) (va_Pc [.ref ba, .int (jI zg), .int (jI zn), .ref ra] (jBw (dC, dI) [(cA, .int)] [(ba, .inr (0, [.ref bt, .ref bp, .ref bl, .ref bh, .ref bq, .ref br, .ref bd, .int (jI bg), .int (jI bf)])), (bp, .inl (cA, 31, .inl (jA fp))), (bl, .inl (cA, 248, .inl (jA fl))), (bh, .inl (cA, 248, .inl (jA fh))), (ra, .inl (cA, 8, .inl (jA fw)))] sz)) (va_Qv (fun (u : (Int → Int)) => u = f_XB_copyEnds bg bf fp fl fh zg zn fw) (fun u t => jE (dC, dI) [(cA, .int)] [(ba, .inr (0, [.ref bt, .ref bp, .ref bl, .ref bh, .ref bq, .ref br, .ref bd, .int (jI bg), .int (jI bf)])), (bp, .inl (cA, 31, .inl (jA fp))), (bl, .inl (cA, 248, .inl (jA fl))), (bh, .inl (cA, 248, .inl (jA fh))), (ra, .inl (cA, 8, .inl (jA fw)))] sz [(ba, .inr (0, [.ref bt, .ref bp, .ref bl, .ref bh, .ref bq, .ref br, .ref bd, .int (jI bg), .int (jI bf)])), (bp, .inl (cA, 31, .inl (jA fp))), (bl, .inl (cA, 248, .inl (jA fl))), (bh, .inl (cA, 248, .inl (jA fh))), (ra, .inl (cA, 8, .inl (jA u)))] t) (va_A [(ba, .inr (0, [.ref bt, .ref bp, .ref bl, .ref bh, .ref bq, .ref br, .ref bd, .int (jI bg), .int (jI bf)])), (bp, .inl (cA, 31, .inl (jA fp))), (bl, .inl (cA, 248, .inl (jA fl))), (bh, .inl (cA, 248, .inl (jA fh))), (ra, .inl (cA, 8, .inl (jA fw)))] sz)) 0 0 (va_A [(ba, .inr (0, [.ref bt, .ref bp, .ref bl, .ref bh, .ref bq, .ref br, .ref bd, .int (jI bg), .int (jI bf)])), (bp, .inl (cA, 31, .inl (jA fp))), (bl, .inl (cA, 248, .inl (jA fl))), (bh, .inl (cA, 248, .inl (jA fh))), (ra, .inl (cA, 8, .inl (jA fw)))] sz) := by
  refine jMet (cc := cXB_copyEnds) (maxL := 5) (ret := none) (by decide) rfl ?_
  intro p e s m args below meth c s₁ R Q hR hQ B hml hv
  obtain ⟨rfl, hsz, hP, hK, hD0, hN⟩ := hv
  have hx := B.exec
  have hb := B.bytes
  have hr := B.returns
  have hts := atoms_spec (ws := Cond.code yXB_copyEnds cXB_copyEnds 5 none :: TBL) B.pre
  have hown : s.vm.findClass RXB = some m.cls := findClass_of_methodNamed B.named
  have hlocks := B.notSynchronized
  subst hsz
  obtain ⟨A, hAe⟩ : ∃ A, A = va_A [(ba, .inr (0, [.ref bt, .ref bp, .ref bl, .ref bh, .ref bq, .ref br, .ref bd, .int (jI bg), .int (jI bf)])), (bp, .inl (cA, 31, .inl (jA fp))), (bl, .inl (cA, 248, .inl (jA fl))), (bh, .inl (cA, 248, .inl (jA fh))), (ra, .inl (cA, 8, .inl (jA fw)))] s.heap.size := ⟨_, rfl⟩
  have hD : va_D A [(ba, .inr (0, [.ref bt, .ref bp, .ref bl, .ref bh, .ref bq, .ref br, .ref bd, .int (jI bg), .int (jI bf)])), (bp, .inl (cA, 31, .inl (jA fp))), (bl, .inl (cA, 248, .inl (jA fl))), (bh, .inl (cA, 248, .inl (jA fh))), (ra, .inl (cA, 8, .inl (jA fw)))] := by rw [hAe]; exact hD0.self
  have hA : ∀ q : Nat, s.heap.size ≤ q → A q := fun q h => by rw [hAe]; exact Or.inr h
  have hS : va_S A s.heap s.heap [] := va_S.rf
  have hP : va_P (dC, dI) vwCl [(ba, .inr (0, [.ref bt, .ref bp, .ref bl, .ref bh, .ref bq, .ref br, .ref bd, .int (jI bg), .int (jI bf)])), (bp, .inl (cA, 31, .inl (jA fp))), (bl, .inl (cA, 248, .inl (jA fl))), (bh, .inl (cA, 248, .inl (jA fh))), (ra, .inl (cA, 8, .inl (jA fw)))] s.heap := hP
  have hl := lv_entry ([.ref ba, .int (jI zg), .int (jI zn), .ref ra]) (n := 5) (Nat.le_of_ble_eq_true rfl)
  rw [lg_entry_eq]
  generalize (lg_sl ([.ref ba, .int (jI zg), .int (jI zn), .ref ra]) ++ List.replicate (5 - (lg_sl ([.ref ba, .int (jI zg), .int (jI zn), .ref ra])).length) Slot.unset).toArray = ls at hl ⊢
  have hl : lv_has ls 5 [(0, .ref ba), (1, .int (jI zg)), (2, .int (jI zn)), (3, .ref ra)] := hl
  refine ji_iconst hx hb dXB_copyEnds_0 ?_
  refine lv_istore (lv' := [(4, .int (jI 0)), (0, .ref ba), (1, .int (jI zg)), (2, .int (jI zn)), (3, .ref ra)]) hx hb dXB_copyEnds_1 hl (by decide) rfl (fun ls hl => ?_)
  have loop3 : ∀ (n9 : Nat) (k : Int) (fa : Int → Int) , 8 - k < (n9 : Int) → f_XB_copyEnds_L3 bg bf fp fl fh zg zn fw n9 k fa = f_XB_copyEnds bg bf fp fl fh zg zn fw → (0 ≤ k ∧ k ≤ 8) → ∀ (H : Heap) (locs : List Loc), va_P (dC, dI) vwCl [(ba, .inr (0, [.ref bt, .ref bp, .ref bl, .ref bh, .ref bq, .ref br, .ref bd, .int (jI bg), .int (jI bf)])), (bp, .inl (cA, 31, .inl (jA fp))), (bl, .inl (cA, 248, .inl (jA fl))), (bh, .inl (cA, 248, .inl (jA fh))), (ra, .inl (cA, 8, .inl (jA fa)))] H → va_D A [(ba, .inr (0, [.ref bt, .ref bp, .ref bl, .ref bh, .ref bq, .ref br, .ref bd, .int (jI bg), .int (jI bf)])), (bp, .inl (cA, 31, .inl (jA fp))), (bl, .inl (cA, 248, .inl (jA fl))), (bh, .inl (cA, 248, .inl (jA fh))), (ra, .inl (cA, 8, .inl (jA fa)))] → va_S A s.heap H locs → ∀ ls : Array Slot, lv_has ls 5 [(4, .int (jI k)), (0, .ref ba), (1, .int (jI zg)), (2, .int (jI zn)), (3, .ref ra)] → W p l e R s m ([.ref ba, .int (jI zg), .int (jI zn), .ref ra] : List Value).toArray below meth c H locs 0 0 Q (F0 m 3 ls []) := by
    intro n9
    induction n9 with
    | zero =>
      intro k fa hm hF hk
      exact absurd hm (by omega)
    | succ n9 ih3 =>
      intro k fa hm hF hk H locs hP hD hS ls hl
      refine lv_iload hx hb dXB_copyEnds_3 (lv_at hl 0 rfl) ?_
      refine ji_bipush hx hb dXB_copyEnds_5 (by decide) ?_
      refine ji_icmp_ge (tgt := 35) hx hb dXB_copyEnds_7 (by decide) (by omega) (by omega) (fun c7_ => ?_) (fun c7_ => ?_)
      · have hP9 := hP.sub (ws' := [(ba, .inr (0, [.ref bt, .ref bp, .ref bl, .ref bh, .ref bq, .ref br, .ref bd, .int (jI bg), .int (jI bf)])), (bp, .inl (cA, 31, .inl (jA fp))), (bl, .inl (cA, 248, .inl (jA fl))), (bh, .inl (cA, 248, .inl (jA fh))), (ra, .inl (cA, 8, .inl (jA fa)))]) [0, 1, 2, 3, 4] rfl
        have hD9 := hD.sub (ws' := [(ba, .inr (0, [.ref bt, .ref bp, .ref bl, .ref bh, .ref bq, .ref br, .ref bd, .int (jI bg), .int (jI bf)])), (bp, .inl (cA, 31, .inl (jA fp))), (bl, .inl (cA, 248, .inl (jA fl))), (bh, .inl (cA, 248, .inl (jA fh))), (ra, .inl (cA, 8, .inl (jA fa)))]) [0, 1, 2, 3, 4] (by decide) rfl
        subst hAe
        subst hQ
        exact W.vret hx hb hr (fun t ht hW => ⟨⟨fa, rfl, Eq.trans (by rw [f_XB_copyEnds_L3_s]; rw [if_neg (Int.not_lt.mpr c7_)]; try rfl) hF, ⟨by rw [ht]; exact hP9, va_K.moved hW.alike hK, hD9⟩⟩, hS.F ht⟩) hS.2.2 dXB_copyEnds_35
      · refine lv_iload hx hb dXB_copyEnds_10 (lv_at hl 0 rfl) ?_
        refine lv_aload_n hx hb dXB_copyEnds_12 rfl (lv_at hl 4 rfl) ?_
        refine ji_alen (z := 8) hx hb hK hP 4 0 rfl rfl rfl dXB_copyEnds_13 ?_
        refine ji_icmp_ge (tgt := 35) hx hb dXB_copyEnds_14 (by decide) (by omega) (by omega) (fun c14_ => ?_) (fun c14_ => ?_)
        · have hP9 := hP.sub (ws' := [(ba, .inr (0, [.ref bt, .ref bp, .ref bl, .ref bh, .ref bq, .ref br, .ref bd, .int (jI bg), .int (jI bf)])), (bp, .inl (cA, 31, .inl (jA fp))), (bl, .inl (cA, 248, .inl (jA fl))), (bh, .inl (cA, 248, .inl (jA fh))), (ra, .inl (cA, 8, .inl (jA fa)))]) [0, 1, 2, 3, 4] rfl
          have hD9 := hD.sub (ws' := [(ba, .inr (0, [.ref bt, .ref bp, .ref bl, .ref bh, .ref bq, .ref br, .ref bd, .int (jI bg), .int (jI bf)])), (bp, .inl (cA, 31, .inl (jA fp))), (bl, .inl (cA, 248, .inl (jA fl))), (bh, .inl (cA, 248, .inl (jA fh))), (ra, .inl (cA, 8, .inl (jA fa)))]) [0, 1, 2, 3, 4] (by decide) rfl
          subst hAe
          subst hQ
          exact W.vret hx hb hr (fun t ht hW => ⟨⟨fa, rfl, Eq.trans (by rw [f_XB_copyEnds_L3_s]; rw [if_pos c7_, if_neg (Int.not_lt.mpr c14_)]; try rfl) hF, ⟨by rw [ht]; exact hP9, va_K.moved hW.alike hK, hD9⟩⟩, hS.F ht⟩) hS.2.2 dXB_copyEnds_35
        · refine lv_aload_n hx hb dXB_copyEnds_17 rfl (lv_at hl 4 rfl) ?_
          refine lv_iload hx hb dXB_copyEnds_18 (lv_at hl 0 rfl) ?_
          refine lv_aload_n hx hb dXB_copyEnds_20 rfl (lv_at hl 1 rfl) ?_
          refine lv_iload_n hx hb dXB_copyEnds_21 rfl (lv_at hl 2 rfl) ?_
          refine lv_iload hx hb dXB_copyEnds_22 (lv_at hl 0 rfl) ?_
          refine lv_iload_n hx hb dXB_copyEnds_24 rfl (lv_at hl 3 rfl) ?_
          refine jrVi (rest := [.int (jI k), .ref ra]) ⟨hx, hb, hml, hown, hts⟩ (c_XB_endOf l dC dI cA ba bt bp bl bh bq br bd bg bf fp fl fh zg k zn (by first | assumption | omega) (by first | assumption | omega) (by first | assumption | omega) (by first | assumption | omega) (by first | assumption | omega) (by first | assumption | omega)) (cwV 3 hts (jG_V tw_488 tw_438 tw_439 tw_5 tw_440) rfl rfl rfl (by decide +kernel) (by rw [hR]; exact ⟨Nat.le_of_ble_eq_true rfl, Nat.le_of_ble_eq_true rfl⟩)) hK hP hN [0, 1, 2, 3] rfl 0 0 rfl rfl rfl rfl hl.1 rfl (Nat.le_of_ble_eq_true rfl) dXB_copyEnds_25 (by rw [hR]; exact ⟨Nat.le_of_ble_eq_true rfl, Nat.le_of_ble_eq_true rfl⟩) ?_
          have f := f_XB_endOf_b bg bf fp fl fh zg k zn (by first | assumption | omega) (by first | assumption | omega) (by first | assumption | omega) (by first | assumption | omega) (by first | assumption | omega) (by first | assumption | omega)
          refine ji_iast hx hb hK hP hD hS 4 0 rfl rfl ⟨by omega, by omega⟩ (by decide) dXB_copyEnds_28 (fun H locs hP hD hS => ?_)
          have hP : va_P (dC, dI) vwCl [(ba, .inr (0, [.ref bt, .ref bp, .ref bl, .ref bh, .ref bq, .ref br, .ref bd, .int (jI bg), .int (jI bf)])), (bp, .inl (cA, 31, .inl (jA fp))), (bl, .inl (cA, 248, .inl (jA fl))), (bh, .inl (cA, 248, .inl (jA fh))), (ra, .inl (cA, 8, .inl (jA (jset fa k (f_XB_endOf bg bf fp fl fh zg k zn)))))] H := hP
          have hD : va_D A [(ba, .inr (0, [.ref bt, .ref bp, .ref bl, .ref bh, .ref bq, .ref br, .ref bd, .int (jI bg), .int (jI bf)])), (bp, .inl (cA, 31, .inl (jA fp))), (bl, .inl (cA, 248, .inl (jA fl))), (bh, .inl (cA, 248, .inl (jA fh))), (ra, .inl (cA, 8, .inl (jA (jset fa k (f_XB_endOf bg bf fp fl fh zg k zn)))))] := hD
          refine ji_iinc (k := 0) (lv' := [(4, .int (jI (k + 1))), (0, .ref ba), (1, .int (jI zg)), (2, .int (jI zn)), (3, .ref ra)]) hx hb dXB_copyEnds_29 hl rfl (by decide) rfl (fun ls hl => ?_)
          refine lv_goto (tgt := 3) hx hb dXB_copyEnds_32 (by decide) ?_
          exact ih3 (k + 1) (jset fa k (f_XB_endOf bg bf fp fl fh zg k zn)) (by omega) (Eq.trans (by rw [f_XB_copyEnds_L3_s]; rw [if_pos c7_, if_pos c14_]; try rfl) hF) (by first | assumption | omega) _ _ hP hD hS ls (lv_sub hl [0, 1, 2, 3, 4] rfl)
  exact loop3 (Int.toNat (8 - 0) + 1) 0 fw (by omega) (Eq.trans (by rw [f_XB_copyEnds_s]; try rfl) rfl) (by first | assumption | omega) _ _ hP hD hS ls (lv_sub hl [0, 1, 2, 3, 4] rfl)
noncomputable def g_XB_firstKindAbove_L2 (bg : Int) (bf : Int) (fp : Int → Int) (fq : Int → Int) (fd : Int → Int) (zg : Int) (fw : Int → Int) : Nat → Int → Int
  | 0, _ => 0
  | n9 + 1, k =>
    if k < 4 then
      if (f_XB_hasFormula bg bf k) = 0 then
        g_XB_firstKindAbove_L2 bg bf fp fq fd zg fw n9 (k + 1)
      else
        if (f_XB_limitOf bg bf fp fq zg k) = (-1) then
          g_XB_firstKindAbove_L2 bg bf fp fq fd zg fw n9 (k + 1)
        else
          if ((f_XB_limitOf bg bf fp fq zg k) * 232792560) < (f_XB_scaledSum bg bf fd k fw) then
            k
          else
            g_XB_firstKindAbove_L2 bg bf fp fq fd zg fw n9 (k + 1)
    else
      -1
noncomputable def f_XB_firstKindAbove_L2 : Int → Int → (Int → Int) → (Int → Int) → (Int → Int) → Int → (Int → Int) → Nat → Int → Int := jopq g_XB_firstKindAbove_L2
theorem f_XB_firstKindAbove_L2_q : f_XB_firstKindAbove_L2 = g_XB_firstKindAbove_L2 := jopq_eq _
theorem f_XB_firstKindAbove_L2_s (bg : Int) (bf : Int) (fp : Int → Int) (fq : Int → Int) (fd : Int → Int) (zg : Int) (fw : Int → Int) (n9 : Nat) (k : Int) : f_XB_firstKindAbove_L2 bg bf fp fq fd zg fw (n9 + 1) k = (
    if k < 4 then
      if (f_XB_hasFormula bg bf k) = 0 then
        f_XB_firstKindAbove_L2 bg bf fp fq fd zg fw n9 (k + 1)
      else
        if (f_XB_limitOf bg bf fp fq zg k) = (-1) then
          f_XB_firstKindAbove_L2 bg bf fp fq fd zg fw n9 (k + 1)
        else
          if ((f_XB_limitOf bg bf fp fq zg k) * 232792560) < (f_XB_scaledSum bg bf fd k fw) then
            k
          else
            f_XB_firstKindAbove_L2 bg bf fp fq fd zg fw n9 (k + 1)
    else
      -1
  : Int) := by rw [f_XB_firstKindAbove_L2_q]; rfl
theorem f_XB_firstKindAbove_L2_z (bg : Int) (bf : Int) (fp : Int → Int) (fq : Int → Int) (fd : Int → Int) (zg : Int) (fw : Int → Int) (k : Int) : f_XB_firstKindAbove_L2 bg bf fp fq fd zg fw 0 k = 0 := by rw [f_XB_firstKindAbove_L2_q]; rfl
noncomputable def g_XB_firstKindAbove (bg : Int) (bf : Int) (fp : Int → Int) (fq : Int → Int) (fd : Int → Int) (zg : Int) (fw : Int → Int) : Int :=
  f_XB_firstKindAbove_L2 bg bf fp fq fd zg fw (Int.toNat (4 - 0) + 1) 0
noncomputable def f_XB_firstKindAbove : Int → Int → (Int → Int) → (Int → Int) → (Int → Int) → Int → (Int → Int) → Int := jopq g_XB_firstKindAbove
theorem f_XB_firstKindAbove_q : f_XB_firstKindAbove = g_XB_firstKindAbove := jopq_eq _
theorem f_XB_firstKindAbove_s (bg : Int) (bf : Int) (fp : Int → Int) (fq : Int → Int) (fd : Int → Int) (zg : Int) (fw : Int → Int) : f_XB_firstKindAbove bg bf fp fq fd zg fw = (
    f_XB_firstKindAbove_L2 bg bf fp fq fd zg fw (Int.toNat (4 - 0) + 1) 0
  : Int) := by rw [f_XB_firstKindAbove_q]; rfl
theorem f_XB_firstKindAbove_L (bg bf : Int) (fp fq fd : Int → Int) (zg : Int) (fw : Int → Int) : ∀ (n : Nat) (k : Int), 0 ≤ k → -1 ≤ f_XB_firstKindAbove_L2 bg bf fp fq fd zg fw n k ∧ f_XB_firstKindAbove_L2 bg bf fp fq fd zg fw n k < 4 := by
  intro n
  induction n with
  | zero => intro k _; simp only [f_XB_firstKindAbove_L2_z] <;> omega
  | succ n ih =>
    intro k h
    rw [f_XB_firstKindAbove_L2_s]
    (repeat' split) <;> first | omega | exact ih _ (by omega)
theorem f_XB_firstKindAbove_b (bg : Int) (bf : Int) (fp : Int → Int) (fq : Int → Int) (fd : Int → Int) (zg : Int) (fw : Int → Int) (hbp : ∀ i, 0 ≤ fp i ∧ fp i ≤ 30) (hbq : ∀ i, -1 ≤ fq i ∧ fq i ≤ 999999) (hbd : ∀ i, 0 ≤ fd i ∧ fd i ≤ 20) (hbf : 0 ≤ bf ∧ bf < 2147483648) (hzg : 0 ≤ zg ∧ zg ≤ 30) (hw0 : ∀ i, -1 ≤ fw i ∧ fw i ≤ 100000) : -1 ≤ (f_XB_firstKindAbove bg bf fp fq fd zg fw) ∧ (f_XB_firstKindAbove bg bf fp fq fd zg fw) < 4 := by rw [f_XB_firstKindAbove_s]; exact f_XB_firstKindAbove_L _ _ _ _ _ _ _ _ _ (by omega)
set_option maxHeartbeats 4000000 in
set_option maxRecDepth 100000 in
theorem c_XB_firstKindAbove (l : Launch) (dC : Nat → ClassId) (dI : Nat → Nat → Nat) (cA : ClassId) (ba : Nat) (bt : Nat) (bp : Nat) (bl : Nat) (bh : Nat) (bq : Nat) (br : Nat) (bd : Nat) (bg : Int) (bf : Int) (fp : Int → Int) (fq : Int → Int) (fd : Int → Int) (zg : Int) (ra : Nat) (fw : Int → Int) (hbp : ∀ i, 0 ≤ fp i ∧ fp i ≤ 30) (hbq : ∀ i, -1 ≤ fq i ∧ fq i ≤ 999999) (hbd : ∀ i, 0 ≤ fd i ∧ fd i ≤ 20) (hbf : 0 ≤ bf ∧ bf < 2147483648) (hzg : 0 ≤ zg ∧ zg ≤ 30) (hw0 : ∀ i, -1 ≤ fw i ∧ fw i ≤ 100000) : Met l yXB_firstKindAbove (Cond.code yXB_firstKindAbove cXB_firstKindAbove 5 (some .int) :: TBL) ({ frames := 2, cells := 0, slots := 0, locals := 48 } : Room) (va_Pc [.ref ba, .int (jI zg), .ref ra] (jB (dC, dI) [(cA, .int)] [(ba, .inr (0, [.ref bt, .ref bp, .ref bl, .ref bh, .ref bq, .ref br, .ref bd, .int (jI bg), .int (jI bf)])), (bp, .inl (cA, 31, .inl (jA fp))), (bq, .inl (cA, 124, .inl (jA fq))), (bd, .inl (cA, 32, .inl (jA fd))), (ra, .inl (cA, 8, .inl (jA fw)))])) (vp_Si (fun r => r = jI (f_XB_firstKindAbove bg bf fp fq fd zg fw))) 0 0 (fun _ => False) := by
  refine jMet (cc := cXB_firstKindAbove) (maxL := 5) (ret := some .int) (by decide) rfl ?_
  intro p e s m args below meth c s₁ R Q hR hQ B hml hv
  obtain ⟨rfl, hP, hK, hN⟩ := hv
  have hx := B.exec
  have hb := B.bytes
  have hr := B.returns
  have hts := atoms_spec (ws := Cond.code yXB_firstKindAbove cXB_firstKindAbove 5 (some .int) :: TBL) B.pre
  have hown : s.vm.findClass RXB = some m.cls := findClass_of_methodNamed B.named
  have hlocks := B.notSynchronized
  have hP : va_P (dC, dI) vwCl [(ba, .inr (0, [.ref bt, .ref bp, .ref bl, .ref bh, .ref bq, .ref br, .ref bd, .int (jI bg), .int (jI bf)])), (bp, .inl (cA, 31, .inl (jA fp))), (bq, .inl (cA, 124, .inl (jA fq))), (bd, .inl (cA, 32, .inl (jA fd))), (ra, .inl (cA, 8, .inl (jA fw)))] s.heap := hP
  have hl := lv_entry ([.ref ba, .int (jI zg), .ref ra]) (n := 5) (Nat.le_of_ble_eq_true rfl)
  rw [lg_entry_eq]
  generalize (lg_sl ([.ref ba, .int (jI zg), .ref ra]) ++ List.replicate (5 - (lg_sl ([.ref ba, .int (jI zg), .ref ra])).length) Slot.unset).toArray = ls at hl ⊢
  have hl : lv_has ls 5 [(0, .ref ba), (1, .int (jI zg)), (2, .ref ra)] := hl
  refine ji_iconst hx hb dXB_firstKindAbove_0 ?_
  refine lv_istore_n (lv' := [(3, .int (jI 0)), (0, .ref ba), (1, .int (jI zg)), (2, .ref ra)]) hx hb dXB_firstKindAbove_1 rfl hl (by decide) rfl (fun ls hl => ?_)
  have loop2 : ∀ (n9 : Nat) (k : Int) , 4 - k < (n9 : Int) → f_XB_firstKindAbove_L2 bg bf fp fq fd zg fw n9 k = f_XB_firstKindAbove bg bf fp fq fd zg fw → (0 ≤ k ∧ k ≤ 4) → ∀ ls : Array Slot, lv_has ls 5 [(3, .int (jI k)), (0, .ref ba), (1, .int (jI zg)), (2, .ref ra)] → W p l e R s m ([.ref ba, .int (jI zg), .ref ra] : List Value).toArray below meth c s.heap [] 0 0 Q (F0 m 2 ls []) := by
    intro n9
    induction n9 with
    | zero =>
      intro k hm hF hk
      exact absurd hm (by omega)
    | succ n9 ih2 =>
      intro k hm hF hk ls hl
      refine lv_iload_n hx hb dXB_firstKindAbove_2 rfl (lv_at hl 0 rfl) ?_
      refine ji_iconst hx hb dXB_firstKindAbove_3 ?_
      refine ji_icmp_ge (tgt := 54) hx hb dXB_firstKindAbove_4 (by decide) (by omega) (by omega) (fun c4_ => ?_) (fun c4_ => ?_)
      · refine ji_iconst hx hb dXB_firstKindAbove_54 ?_
        subst hQ
        exact W.iret (v := jI (-1)) hx hb hr (fun t ht hW => ⟨_, rfl, congrArg jI (Eq.trans (by rw [f_XB_firstKindAbove_L2_s]; rw [if_neg (Int.not_lt.mpr c4_)]; try rfl) hF), ht⟩) (fun _ h => nomatch h) dXB_firstKindAbove_55
      · refine lv_aload_n hx hb dXB_firstKindAbove_7 rfl (lv_at hl 1 rfl) ?_
        refine lv_iload_n hx hb dXB_firstKindAbove_8 rfl (lv_at hl 2 rfl) ?_
        refine lv_iload_n hx hb dXB_firstKindAbove_9 rfl (lv_at hl 0 rfl) ?_
        refine jrVi (rest := []) ⟨hx, hb, hml, hown, hts⟩ (c_XB_limitOf l dC dI cA ba bt bp bl bh bq br bd bg bf fp fq zg k (by first | assumption | omega) (by first | assumption | omega) (by first | assumption | omega) (by first | assumption | omega)) (cwV 2 hts (jG_V tw_529 tw_451 tw_452 tw_5 tw_453) rfl rfl rfl (by decide +kernel) (by rw [hR]; exact ⟨Nat.le_of_ble_eq_true rfl, Nat.le_of_ble_eq_true rfl⟩)) hK hP hN [0, 1, 2] rfl 0 0 rfl rfl rfl rfl hl.1 rfl (Nat.le_of_ble_eq_true rfl) dXB_firstKindAbove_10 (by rw [hR]; exact ⟨Nat.le_of_ble_eq_true rfl, Nat.le_of_ble_eq_true rfl⟩) ?_
        have f := f_XB_limitOf_b bg bf fp fq zg k (by first | assumption | omega) (by first | assumption | omega) (by first | assumption | omega) (by first | assumption | omega)
        refine lv_istore (lv' := [(4, .int (jI (f_XB_limitOf bg bf fp fq zg k))), (3, .int (jI k)), (0, .ref ba), (1, .int (jI zg)), (2, .ref ra)]) hx hb dXB_firstKindAbove_13 hl (by decide) rfl (fun ls hl => ?_)
        refine lv_aload_n hx hb dXB_firstKindAbove_15 rfl (lv_at hl 2 rfl) ?_
        refine lv_iload_n hx hb dXB_firstKindAbove_16 rfl (lv_at hl 1 rfl) ?_
        refine jrVi (rest := []) ⟨hx, hb, hml, hown, hts⟩ (c_XB_hasFormula l dC dI cA ba bt bp bl bh bq br bd bg bf k (by first | assumption | omega) (by first | assumption | omega)) (cwV 1 hts (jG_V tw_530 tw_168 tw_169 tw_5 tw_170) rfl rfl rfl (by decide +kernel) (by rw [hR]; exact ⟨Nat.le_of_ble_eq_true rfl, Nat.le_of_ble_eq_true rfl⟩)) hK hP hN [0] rfl 0 0 rfl rfl rfl rfl hl.1 rfl (Nat.le_of_ble_eq_true rfl) dXB_firstKindAbove_17 (by rw [hR]; exact ⟨Nat.le_of_ble_eq_true rfl, Nat.le_of_ble_eq_true rfl⟩) ?_
        have f1 := f_XB_hasFormula_b bg bf k (by first | assumption | omega) (by first | assumption | omega)
        refine ji_if_eq (tgt := 48) hx hb dXB_firstKindAbove_20 (by decide) (by omega) (fun c20_ => ?_) (fun c20_ => ?_)
        · refine ji_iinc (k := 1) (lv' := [(3, .int (jI (k + 1))), (4, .int (jI (f_XB_limitOf bg bf fp fq zg k))), (0, .ref ba), (1, .int (jI zg)), (2, .ref ra)]) hx hb dXB_firstKindAbove_48 hl rfl (by decide) rfl (fun ls hl => ?_)
          refine lv_goto (tgt := 2) hx hb dXB_firstKindAbove_51 (by decide) ?_
          exact ih2 (k + 1) (by omega) (Eq.trans (by rw [f_XB_firstKindAbove_L2_s]; rw [if_pos c4_, if_pos c20_]; try rfl) hF) (by first | assumption | omega) ls (lv_sub hl [0, 2, 3, 4] rfl)
        · refine lv_iload hx hb dXB_firstKindAbove_23 (lv_at hl 0 rfl) ?_
          refine ji_iconst hx hb dXB_firstKindAbove_25 ?_
          refine ji_icmp_eq (tgt := 48) hx hb dXB_firstKindAbove_26 (by decide) (by omega) (by omega) (fun c26_ => ?_) (fun c26_ => ?_)
          · refine ji_iinc (k := 1) (lv' := [(3, .int (jI (k + 1))), (4, .int (jI (f_XB_limitOf bg bf fp fq zg k))), (0, .ref ba), (1, .int (jI zg)), (2, .ref ra)]) hx hb dXB_firstKindAbove_48 hl rfl (by decide) rfl (fun ls hl => ?_)
            refine lv_goto (tgt := 2) hx hb dXB_firstKindAbove_51 (by decide) ?_
            exact ih2 (k + 1) (by omega) (Eq.trans (by rw [f_XB_firstKindAbove_L2_s]; rw [if_pos c4_, if_neg c20_, if_pos c26_]; try rfl) hF) (by first | assumption | omega) ls (lv_sub hl [0, 2, 3, 4] rfl)
          · refine lv_aload_n hx hb dXB_firstKindAbove_29 rfl (lv_at hl 2 rfl) ?_
            refine lv_iload_n hx hb dXB_firstKindAbove_30 rfl (lv_at hl 1 rfl) ?_
            refine lv_aload_n hx hb dXB_firstKindAbove_31 rfl (lv_at hl 4 rfl) ?_
            refine jrVl (rest := []) ⟨hx, hb, hml, hown, hts⟩ (c_XB_scaledSum l dC dI cA ba bt bp bl bh bq br bd bg bf fd k ra fw (by first | assumption | omega) (by first | assumption | omega) (by first | assumption | omega)) (cwV 2 hts (jG_V tw_531 tw_490 tw_491 tw_5 tw_492) rfl rfl rfl (by decide +kernel) (by rw [hR]; exact ⟨Nat.le_of_ble_eq_true rfl, Nat.le_of_ble_eq_true rfl⟩)) hK hP hN [0, 3, 4] rfl 0 0 rfl rfl rfl rfl hl.1 rfl (Nat.le_of_ble_eq_true rfl) dXB_firstKindAbove_32 (by rw [hR]; exact ⟨Nat.le_of_ble_eq_true rfl, Nat.le_of_ble_eq_true rfl⟩) ?_
            have f2 := f_XB_scaledSum_b bg bf fd k fw (by first | assumption | omega) (by first | assumption | omega) (by first | assumption | omega)
            refine lv_iload hx hb dXB_firstKindAbove_35 (lv_at hl 0 rfl) ?_
            refine ji_i2l hx hb dXB_firstKindAbove_37 (by omega) ?_
            refine lv_ldc2 hx hb hown (hts _ (jmem tw_494)) dXB_firstKindAbove_38 ?_
            refine ji_rel (y := 232792560) (by decide) ?_
            refine ji_lmul hx hb dXB_firstKindAbove_41 ?_
            refine ji_lcmp hx hb dXB_firstKindAbove_42 (by omega) (by omega) ?_
            refine ji_if_le (tgt := 48) hx hb dXB_firstKindAbove_43 (by decide) (jcmp_i _ _) (fun c43_ => ?_) (fun c43_ => ?_)
            · have c43_ := jcmp_ngt.mp c43_
              refine ji_iinc (k := 1) (lv' := [(3, .int (jI (k + 1))), (4, .int (jI (f_XB_limitOf bg bf fp fq zg k))), (0, .ref ba), (1, .int (jI zg)), (2, .ref ra)]) hx hb dXB_firstKindAbove_48 hl rfl (by decide) rfl (fun ls hl => ?_)
              refine lv_goto (tgt := 2) hx hb dXB_firstKindAbove_51 (by decide) ?_
              exact ih2 (k + 1) (by omega) (Eq.trans (by rw [f_XB_firstKindAbove_L2_s]; rw [if_pos c4_, if_neg c20_, if_neg c26_, if_neg (Int.not_lt.mpr c43_)]; try rfl) hF) (by first | assumption | omega) ls (lv_sub hl [0, 2, 3, 4] rfl)
            · have c43_ := jcmp_gt.mp c43_
              refine lv_iload_n hx hb dXB_firstKindAbove_46 rfl (lv_at hl 1 rfl) ?_
              subst hQ
              exact W.iret (v := jI k) hx hb hr (fun t ht hW => ⟨_, rfl, congrArg jI (Eq.trans (by rw [f_XB_firstKindAbove_L2_s]; rw [if_pos c4_, if_neg c20_, if_neg c26_, if_pos c43_]; try rfl) hF), ht⟩) (fun _ h => nomatch h) dXB_firstKindAbove_47
  exact loop2 (Int.toNat (4 - 0) + 1) 0 (by omega) (Eq.trans (by rw [f_XB_firstKindAbove_s]; try rfl) rfl) (by first | assumption | omega) ls (lv_sub hl [0, 1, 2, 3] rfl)
