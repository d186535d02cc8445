noncomputable def g_XB_printSpans_L2 (bg : Int) (bf : Int) (fl : Int → Int) (fh : Int → Int) (zg : Int) (pn : Int) (pf : Int → Int) : Nat → Int → Int → (Int → Int) → Int × (Int → Int)
  | 0, _, _, _ => (0, fun _ => 0)
  | n9 + 1, k, q, fa =>
    if k < 8 then
      if (f_XB_tellsSpan bg bf fh zg k) = 0 then
        g_XB_printSpans_L2 bg bf fl fh zg pn pf n9 (k + 1) q fa
      else
        match f_XP_put q fa (65 + k) with
        | (pn1', pf1') =>
          match f_XP_putNumber pn1' pf1' (fl ((zg * 8) + k)) with
          | (pn1'3, pf1'4) =>
            match f_XP_put pn1'3 pf1'4 45 with
            | (pn1'8, pf1'9) =>
              match f_XP_putNumber pn1'8 pf1'9 (fh ((zg * 8) + k)) with
              | (pn1'14, pf1'15) =>
                g_XB_printSpans_L2 bg bf fl fh zg pn pf n9 (k + 1) pn1'14 pf1'15
    else
      (q, fa)
noncomputable def f_XB_printSpans_L2 : Int → Int → (Int → Int) → (Int → Int) → Int → Int → (Int → Int) → Nat → Int → Int → (Int → Int) → Int × (Int → Int) := jopq g_XB_printSpans_L2
theorem f_XB_printSpans_L2_q : f_XB_printSpans_L2 = g_XB_printSpans_L2 := jopq_eq _
theorem f_XB_printSpans_L2_s (bg : Int) (bf : Int) (fl : Int → Int) (fh : Int → Int) (zg : Int) (pn : Int) (pf : Int → Int) (n9 : Nat) (k : Int) (q : Int) (fa : Int → Int) : f_XB_printSpans_L2 bg bf fl fh zg pn pf (n9 + 1) k q fa = (
    if k < 8 then
      if (f_XB_tellsSpan bg bf fh zg k) = 0 then
        f_XB_printSpans_L2 bg bf fl fh zg pn pf n9 (k + 1) q fa
      else
        match f_XP_put q fa (65 + k) with
        | (pn1', pf1') =>
          match f_XP_putNumber pn1' pf1' (fl ((zg * 8) + k)) with
          | (pn1'3, pf1'4) =>
            match f_XP_put pn1'3 pf1'4 45 with
            | (pn1'8, pf1'9) =>
              match f_XP_putNumber pn1'8 pf1'9 (fh ((zg * 8) + k)) with
              | (pn1'14, pf1'15) =>
                f_XB_printSpans_L2 bg bf fl fh zg pn pf n9 (k + 1) pn1'14 pf1'15
    else
      (q, fa)
  : Int × (Int → Int)) := by rw [f_XB_printSpans_L2_q]; rfl
theorem f_XB_printSpans_L2_z (bg : Int) (bf : Int) (fl : Int → Int) (fh : Int → Int) (zg : Int) (pn : Int) (pf : Int → Int) (k : Int) (q : Int) (fa : Int → Int) : f_XB_printSpans_L2 bg bf fl fh zg pn pf 0 k q fa = (0, fun _ => 0) := by rw [f_XB_printSpans_L2_q]; rfl
noncomputable def g_XB_printSpans (bg : Int) (bf : Int) (fl : Int → Int) (fh : Int → Int) (zg : Int) (pn : Int) (pf : Int → Int) : Int × (Int → Int) :=
  f_XB_printSpans_L2 bg bf fl fh zg pn pf (Int.toNat (8 - 0) + 1) 0 pn pf
noncomputable def f_XB_printSpans : Int → Int → (Int → Int) → (Int → Int) → Int → Int → (Int → Int) → Int × (Int → Int) := jopq g_XB_printSpans
theorem f_XB_printSpans_q : f_XB_printSpans = g_XB_printSpans := jopq_eq _
theorem f_XB_printSpans_s (bg : Int) (bf : Int) (fl : Int → Int) (fh : Int → Int) (zg : Int) (pn : Int) (pf : Int → Int) : f_XB_printSpans bg bf fl fh zg pn pf = (
    f_XB_printSpans_L2 bg bf fl fh zg pn pf (Int.toNat (8 - 0) + 1) 0 pn pf
  : Int × (Int → Int)) := by rw [f_XB_printSpans_q]; rfl
theorem f_XB_printSpans_L (bg bf : Int) (fl fh : Int → Int) (zg pn : Int) (pf : Int → Int) (hbl : ∀ i, 0 ≤ fl i ∧ fl i ≤ 100000) (hbh : ∀ i, -1 ≤ fh i ∧ fh i ≤ 100000) (hzg : 0 ≤ zg ∧ zg ≤ 30) : ∀ (n : Nat) (k q : Int) (fa : Int → Int), 0 ≤ k → 0 ≤ q ∧ q ≤ 160 → 0 ≤ (f_XB_printSpans_L2 bg bf fl fh zg pn pf n k q fa).1 ∧ (f_XB_printSpans_L2 bg bf fl fh zg pn pf n k q fa).1 ≤ 160 := by
  intro n
  induction n with
  | zero => intro k q fa _ _; simp only [f_XB_printSpans_L2_z] <;> omega
  | succ n ih =>
    intro k q fa h0 h
    rw [f_XB_printSpans_L2_s]
    simp only []
    split
    · split
      · exact ih _ _ _ (by omega) h
      · have hl := hbl (zg * 8 + k)
        have hc := f_XB_tellsSpan_c bg bf fh zg k hbh hzg (by omega)
        have hb := f_XB_tellsSpan_b bg bf fh zg k hbh hzg (by omega)
        have hh := hbh (zg * 8 + k)
        exact ih _ _ _ (by omega) (f_XP_putNumber_b _ _ _ (f_XP_put_b _ _ _ (f_XP_putNumber_b _ _ _ (f_XP_put_b _ _ _ h) (by omega))) (by omega))
    · exact h
theorem f_XB_printSpans_b (bg : Int) (bf : Int) (fl : Int → Int) (fh : Int → Int) (zg : Int) (pn : Int) (pf : Int → Int) (hbl : ∀ i, 0 ≤ fl i ∧ fl i ≤ 100000) (hbh : ∀ i, -1 ≤ fh i ∧ fh i ≤ 100000) (hzg : 0 ≤ zg ∧ zg ≤ 30) (hpn : 0 ≤ pn ∧ pn ≤ 160) : 0 ≤ (f_XB_printSpans bg bf fl fh zg pn pf).1 ∧ (f_XB_printSpans bg bf fl fh zg pn pf).1 ≤ 160 := by rw [f_XB_printSpans_s]; exact f_XB_printSpans_L _ _ _ _ _ _ _ hbl hbh hzg _ _ _ _ (by omega) hpn
set_option maxHeartbeats 4000000 in
set_option maxRecDepth 100000 in
theorem c_XB_printSpans (l : Launch) (dC : Nat → ClassId) (dI : Nat → Nat → Nat) (cA : ClassId) (sz : Nat) (ba : Nat) (bt : Nat) (bp : Nat) (bl : Nat) (bh : Nat) (bq : Nat) (br : Nat) (bd : Nat) (bg : Int) (bf : Int) (fl : Int → Int) (fh : Int → Int) (zg : Int) (pa : Nat) (ps : Nat) (pn : Int) (pf : Int → Int) (hbl : ∀ i, 0 ≤ fl i ∧ fl i ≤ 100000) (hbh : ∀ i, -1 ≤ fh i ∧ fh i ≤ 100000) (hzg : 0 ≤ zg ∧ zg ≤ 30) (hpn : 0 ≤ pn ∧ pn ≤ 160) : Met l yXB_printSpans (Cond.code yXB_printSpans cXB_printSpans 4 none :: TBL) ({ frames := 2, cells := 0, slots := 0, locals := 43 } : Room) (va_Pc [.ref ba, .int (jI zg), .ref pa] (jBw (dC, dI) [(cA, .int)] [(ba, .inr (0, [.ref bt, .ref bp, .ref bl, .ref bh, .ref bq, .ref br, .ref bd, .int (jI bg), .int (jI bf)])), (bl, .inl (cA, 248, .inl (jA fl))), (bh, .inl (cA, 248, .inl (jA fh))), (pa, .inr (1, [.ref ps, .int (jI pn)])), (ps, .inl (cA, 160, .inl (jA pf)))] sz)) (va_Qv (fun (u : Int × (Int → Int)) => u = f_XB_printSpans bg bf fl fh zg pn pf) (fun u t => jE (dC, dI) [(cA, .int)] [(ba, .inr (0, [.ref bt, .ref bp, .ref bl, .ref bh, .ref bq, .ref br, .ref bd, .int (jI bg), .int (jI bf)])), (bl, .inl (cA, 248, .inl (jA fl))), (bh, .inl (cA, 248, .inl (jA fh))), (pa, .inr (1, [.ref ps, .int (jI pn)])), (ps, .inl (cA, 160, .inl (jA pf)))] sz [(ba, .inr (0, [.ref bt, .ref bp, .ref bl, .ref bh, .ref bq, .ref br, .ref bd, .int (jI bg), .int (jI bf)])), (bl, .inl (cA, 248, .inl (jA fl))), (bh, .inl (cA, 248, .inl (jA fh))), (pa, .inr (1, [.ref ps, .int (jI u.1)])), (ps, .inl (cA, 160, .inl (jA u.2)))] t) (va_A [(ba, .inr (0, [.ref bt, .ref bp, .ref bl, .ref bh, .ref bq, .ref br, .ref bd, .int (jI bg), .int (jI bf)])), (bl, .inl (cA, 248, .inl (jA fl))), (bh, .inl (cA, 248, .inl (jA fh))), (pa, .inr (1, [.ref ps, .int (jI pn)])), (ps, .inl (cA, 160, .inl (jA pf)))] sz)) 0 0 (va_A [(ba, .inr (0, [.ref bt, .ref bp, .ref bl, .ref bh, .ref bq, .ref br, .ref bd, .int (jI bg), .int (jI bf)])), (bl, .inl (cA, 248, .inl (jA fl))), (bh, .inl (cA, 248, .inl (jA fh))), (pa, .inr (1, [.ref ps, .int (jI pn)])), (ps, .inl (cA, 160, .inl (jA pf)))] sz) := by
  refine jMet (cc := cXB_printSpans) (maxL := 4) (ret := none) (by decide) rfl ?_
  intro p e s m args below meth c s₁ R Q hR hQ B hml hv
  obtain ⟨rfl, hsz, hP, hK, hD0, hN⟩ := hv
  have hx := B.exec
  have hb := B.bytes
  have hr := B.returns
  have hts := atoms_spec (ws := Cond.code yXB_printSpans cXB_printSpans 4 none :: TBL) B.pre
  have hown : s.vm.findClass RXB = some m.cls := findClass_of_methodNamed B.named
  have hlocks := B.notSynchronized
  subst hsz
  obtain ⟨A, hAe⟩ : ∃ A, A = va_A [(ba, .inr (0, [.ref bt, .ref bp, .ref bl, .ref bh, .ref bq, .ref br, .ref bd, .int (jI bg), .int (jI bf)])), (bl, .inl (cA, 248, .inl (jA fl))), (bh, .inl (cA, 248, .inl (jA fh))), (pa, .inr (1, [.ref ps, .int (jI pn)])), (ps, .inl (cA, 160, .inl (jA pf)))] s.heap.size := ⟨_, rfl⟩
  have hD : va_D A [(ba, .inr (0, [.ref bt, .ref bp, .ref bl, .ref bh, .ref bq, .ref br, .ref bd, .int (jI bg), .int (jI bf)])), (bl, .inl (cA, 248, .inl (jA fl))), (bh, .inl (cA, 248, .inl (jA fh))), (pa, .inr (1, [.ref ps, .int (jI pn)])), (ps, .inl (cA, 160, .inl (jA pf)))] := by rw [hAe]; exact hD0.self
  have hA : ∀ q : Nat, s.heap.size ≤ q → A q := fun q h => by rw [hAe]; exact Or.inr h
  have hS : va_S A s.heap s.heap [] := va_S.rf
  have hP : va_P (dC, dI) vwCl [(ba, .inr (0, [.ref bt, .ref bp, .ref bl, .ref bh, .ref bq, .ref br, .ref bd, .int (jI bg), .int (jI bf)])), (bl, .inl (cA, 248, .inl (jA fl))), (bh, .inl (cA, 248, .inl (jA fh))), (pa, .inr (1, [.ref ps, .int (jI pn)])), (ps, .inl (cA, 160, .inl (jA pf)))] s.heap := hP
  have hl := lv_entry ([.ref ba, .int (jI zg), .ref pa]) (n := 4) (Nat.le_of_ble_eq_true rfl)
  rw [lg_entry_eq]
  generalize (lg_sl ([.ref ba, .int (jI zg), .ref pa]) ++ List.replicate (4 - (lg_sl ([.ref ba, .int (jI zg), .ref pa])).length) Slot.unset).toArray = ls at hl ⊢
  have hl : lv_has ls 4 [(0, .ref ba), (1, .int (jI zg)), (2, .ref pa)] := hl
  refine ji_iconst hx hb dXB_printSpans_0 ?_
  refine lv_istore_n (lv' := [(3, .int (jI 0)), (0, .ref ba), (1, .int (jI zg)), (2, .ref pa)]) hx hb dXB_printSpans_1 rfl hl (by decide) rfl (fun ls hl => ?_)
  have loop2 : ∀ (n9 : Nat) (k : Int) (q : Int) (fa : Int → Int) , 8 - k < (n9 : Int) → f_XB_printSpans_L2 bg bf fl fh zg pn pf n9 k q fa = f_XB_printSpans bg bf fl fh zg pn pf → (0 ≤ k ∧ k ≤ 8) → (0 ≤ q ∧ q ≤ 160) → ∀ (H : Heap) (locs : List Loc), va_P (dC, dI) vwCl [(ba, .inr (0, [.ref bt, .ref bp, .ref bl, .ref bh, .ref bq, .ref br, .ref bd, .int (jI bg), .int (jI bf)])), (bl, .inl (cA, 248, .inl (jA fl))), (bh, .inl (cA, 248, .inl (jA fh))), (pa, .inr (1, [.ref ps, .int (jI q)])), (ps, .inl (cA, 160, .inl (jA fa)))] H → va_D A [(ba, .inr (0, [.ref bt, .ref bp, .ref bl, .ref bh, .ref bq, .ref br, .ref bd, .int (jI bg), .int (jI bf)])), (bl, .inl (cA, 248, .inl (jA fl))), (bh, .inl (cA, 248, .inl (jA fh))), (pa, .inr (1, [.ref ps, .int (jI q)])), (ps, .inl (cA, 160, .inl (jA fa)))] → va_S A s.heap H locs → ∀ ls : Array Slot, lv_has ls 4 [(3, .int (jI k)), (0, .ref ba), (1, .int (jI zg)), (2, .ref pa)] → W p l e R s m ([.ref ba, .int (jI zg), .ref pa] : List Value).toArray below meth c H locs 0 0 Q (F0 m 2 ls []) := by
    intro n9
    induction n9 with
    | zero =>
      intro k q fa hm hF hk hq
      exact absurd hm (by omega)
    | succ n9 ih2 =>
      intro k q fa hm hF hk hq H locs hP hD hS ls hl
      refine lv_iload_n hx hb dXB_printSpans_2 rfl (lv_at hl 0 rfl) ?_
      refine ji_bipush hx hb dXB_printSpans_3 (by decide) ?_
      refine ji_icmp_ge (tgt := 67) hx hb dXB_printSpans_5 (by decide) (by omega) (by omega) (fun c5_ => ?_) (fun c5_ => ?_)
      · have hP9 := hP.sub (ws' := [(ba, .inr (0, [.ref bt, .ref bp, .ref bl, .ref bh, .ref bq, .ref br, .ref bd, .int (jI bg), .int (jI bf)])), (bl, .inl (cA, 248, .inl (jA fl))), (bh, .inl (cA, 248, .inl (jA fh))), (pa, .inr (1, [.ref ps, .int (jI q)])), (ps, .inl (cA, 160, .inl (jA fa)))]) [0, 1, 2, 3, 4] rfl
        have hD9 := hD.sub (ws' := [(ba, .inr (0, [.ref bt, .ref bp, .ref bl, .ref bh, .ref bq, .ref br, .ref bd, .int (jI bg), .int (jI bf)])), (bl, .inl (cA, 248, .inl (jA fl))), (bh, .inl (cA, 248, .inl (jA fh))), (pa, .inr (1, [.ref ps, .int (jI q)])), (ps, .inl (cA, 160, .inl (jA fa)))]) [0, 1, 2, 3, 4] (by decide) rfl
        subst hAe
        subst hQ
        exact W.vret hx hb hr (fun t ht hW => ⟨⟨(q, fa), rfl, Eq.trans (by rw [f_XB_printSpans_L2_s]; rw [if_neg (Int.not_lt.mpr c5_)]; try rfl) hF, ⟨by rw [ht]; exact hP9, va_K.moved hW.alike hK, hD9⟩⟩, hS.F ht⟩) hS.2.2 dXB_printSpans_67
      · refine lv_aload_n hx hb dXB_printSpans_8 rfl (lv_at hl 1 rfl) ?_
        refine lv_iload_n hx hb dXB_printSpans_9 rfl (lv_at hl 2 rfl) ?_
        refine lv_iload_n hx hb dXB_printSpans_10 rfl (lv_at hl 0 rfl) ?_
        refine jrVi (rest := []) ⟨hx, hb, hml, hown, hts⟩ (c_XB_tellsSpan l dC dI cA ba bt bp bl bh bq br bd bg bf fh zg k (by first | assumption | omega) (by first | assumption | omega) (by first | assumption | omega)) (cwV 2 hts (jG_V tw_441 tw_239 tw_240 tw_5 tw_241) rfl rfl rfl (by decide +kernel) (by rw [hR]; exact ⟨Nat.le_of_ble_eq_true rfl, Nat.le_of_ble_eq_true rfl⟩)) hK hP hN [0, 2] rfl 0 0 rfl rfl rfl rfl hl.1 rfl (Nat.le_of_ble_eq_true rfl) dXB_printSpans_11 (by rw [hR]; exact ⟨Nat.le_of_ble_eq_true rfl, Nat.le_of_ble_eq_true rfl⟩) ?_
        have f := f_XB_tellsSpan_b bg bf fh zg k (by first | assumption | omega) (by first | assumption | omega) (by first | assumption | omega)
        have f1 := f_XB_tellsSpan_c bg bf fh zg k (by first | assumption | omega) (by first | assumption | omega) (by first | assumption | omega)
        refine ji_if_eq (tgt := 61) hx hb dXB_printSpans_14 (by decide) (by omega) (fun c14_ => ?_) (fun c14_ => ?_)
        · refine ji_iinc (k := 0) (lv' := [(3, .int (jI (k + 1))), (0, .ref ba), (1, .int (jI zg)), (2, .ref pa)]) hx hb dXB_printSpans_61 hl rfl (by decide) rfl (fun ls hl => ?_)
          refine lv_goto (tgt := 2) hx hb dXB_printSpans_64 (by decide) ?_
          exact ih2 (k + 1) q fa (by omega) (Eq.trans (by rw [f_XB_printSpans_L2_s]; rw [if_pos c5_, if_pos c14_]; try rfl) hF) (by first | assumption | omega) (by first | assumption | omega) _ _ hP hD hS ls (lv_sub hl [0, 1, 2, 3] rfl)
        · refine lv_aload_n hx hb dXB_printSpans_17 rfl (lv_at hl 3 rfl) ?_
          refine ji_bipush hx hb dXB_printSpans_18 (by decide) ?_
          refine lv_iload_n hx hb dXB_printSpans_20 rfl (lv_at hl 0 rfl) ?_
          refine ji_iadd hx hb dXB_printSpans_21 ?_
          refine jwVv (rest := []) (wr := [(ba, .inr (0, [.ref bt, .ref bp, .ref bl, .ref bh, .ref bq, .ref br, .ref bd, .int (jI bg), .int (jI bf)])), (bl, .inl (cA, 248, .inl (jA fl))), (bh, .inl (cA, 248, .inl (jA fh)))]) ⟨hx, hb, hml, hown, hts⟩ (c_XP_put l dC dI cA _ pa ps q fa (65 + k) (by first | assumption | omega)) (cwV 1 hts (jG_V tw_585 tw_586 tw_587 tw_4 tw_588) rfl rfl rfl (by decide +kernel) (by rw [hR]; exact ⟨Nat.le_of_ble_eq_true rfl, Nat.le_of_ble_eq_true rfl⟩)) hK hP hD hS hA hN [3, 4] [0, 1, 2] rfl rfl (by decide) (by decide) (by decide) 3 1 rfl rfl rfl rfl hl.1 rfl (Nat.le_of_ble_eq_true rfl) dXB_printSpans_22 (by rw [hR]; exact ⟨Nat.le_of_ble_eq_true rfl, Nat.le_of_ble_eq_true rfl⟩) (fun u H locs hwb hP hD hS => ?_)
          obtain ⟨pn1', pf1'⟩ := u
          try dsimp only at hwb
          have hP : va_P (dC, dI) vwCl [(ba, .inr (0, [.ref bt, .ref bp, .ref bl, .ref bh, .ref bq, .ref br, .ref bd, .int (jI bg), .int (jI bf)])), (bl, .inl (cA, 248, .inl (jA fl))), (bh, .inl (cA, 248, .inl (jA fh))), (pa, .inr (1, [.ref ps, .int (jI pn1')])), (ps, .inl (cA, 160, .inl (jA pf1')))] H := hP
          have hD : va_D A [(ba, .inr (0, [.ref bt, .ref bp, .ref bl, .ref bh, .ref bq, .ref br, .ref bd, .int (jI bg), .int (jI bf)])), (bl, .inl (cA, 248, .inl (jA fl))), (bh, .inl (cA, 248, .inl (jA fh))), (pa, .inr (1, [.ref ps, .int (jI pn1')])), (ps, .inl (cA, 160, .inl (jA pf1')))] := hD
          have f2 := f_XP_put_b q fa (65 + k) (by first | assumption | omega)
          rw [← hwb] at f2; try dsimp only at f2
          refine lv_aload_n hx hb dXB_printSpans_25 rfl (lv_at hl 3 rfl) ?_
          refine lv_aload_n hx hb dXB_printSpans_26 rfl (lv_at hl 1 rfl) ?_
          refine va_get (D := (dC, dI)) (ci := 0) (v := .ref bl) (C := RXB) (T := TXB) (N := 9) hx hb hts (fun w h => jmem (inXB w h)) hown hK hP 0 rfl rfl 2 (by decide) (hts _ (jmem tw_75)) (fun _ h9 => h9) rfl dXB_printSpans_27 ?_
          refine lv_iload_n hx hb dXB_printSpans_30 rfl (lv_at hl 2 rfl) ?_
          refine ji_bipush hx hb dXB_printSpans_31 (by decide) ?_
          refine ji_imul hx hb dXB_printSpans_33 ?_
          refine lv_iload_n hx hb dXB_printSpans_34 rfl (lv_at hl 0 rfl) ?_
          refine ji_iadd hx hb dXB_printSpans_35 ?_
          refine ji_iald hx hb hK hP 1 0 rfl rfl ⟨by omega, by omega⟩ (by decide) dXB_printSpans_36 ?_
          have rb := hbl ((zg * 8) + k)
          refine jwVv (rest := []) (wr := [(ba, .inr (0, [.ref bt, .ref bp, .ref bl, .ref bh, .ref bq, .ref br, .ref bd, .int (jI bg), .int (jI bf)])), (bl, .inl (cA, 248, .inl (jA fl))), (bh, .inl (cA, 248, .inl (jA fh)))]) ⟨hx, hb, hml, hown, hts⟩ (c_XP_putNumber l dC dI cA _ pa ps pn1' pf1' (fl ((zg * 8) + k)) (by first | assumption | omega) (by first | assumption | omega)) (cwV 1 hts (jG_V tw_589 tw_590 tw_591 tw_4 tw_592) rfl rfl rfl (by decide +kernel) (by rw [hR]; exact ⟨Nat.le_of_ble_eq_true rfl, Nat.le_of_ble_eq_true rfl⟩)) hK hP hD hS hA hN [3, 4] [0, 1, 2] rfl rfl (by decide) (by decide) (by decide) 3 1 rfl rfl rfl rfl hl.1 rfl (Nat.le_of_ble_eq_true rfl) dXB_printSpans_37 (by rw [hR]; exact ⟨Nat.le_of_ble_eq_true rfl, Nat.le_of_ble_eq_true rfl⟩) (fun u5 H locs hwb6 hP hD hS => ?_)
          obtain ⟨pn1'3, pf1'4⟩ := u5
          try dsimp only at hwb6
          have hP : va_P (dC, dI) vwCl [(ba, .inr (0, [.ref bt, .ref bp, .ref bl, .ref bh, .ref bq, .ref br, .ref bd, .int (jI bg), .int (jI bf)])), (bl, .inl (cA, 248, .inl (jA fl))), (bh, .inl (cA, 248, .inl (jA fh))), (pa, .inr (1, [.ref ps, .int (jI pn1'3)])), (ps, .inl (cA, 160, .inl (jA pf1'4)))] H := hP
          have hD : va_D A [(ba, .inr (0, [.ref bt, .ref bp, .ref bl, .ref bh, .ref bq, .ref br, .ref bd, .int (jI bg), .int (jI bf)])), (bl, .inl (cA, 248, .inl (jA fl))), (bh, .inl (cA, 248, .inl (jA fh))), (pa, .inr (1, [.ref ps, .int (jI pn1'3)])), (ps, .inl (cA, 160, .inl (jA pf1'4)))] := hD
          have f7 := f_XP_putNumber_b pn1' pf1' (fl ((zg * 8) + k)) (by first | assumption | omega) (by first | assumption | omega)
          rw [← hwb6] at f7; try dsimp only at f7
          refine lv_aload_n hx hb dXB_printSpans_40 rfl (lv_at hl 3 rfl) ?_
          refine ji_bipush hx hb dXB_printSpans_41 (by decide) ?_
          refine jwVv (rest := []) (wr := [(ba, .inr (0, [.ref bt, .ref bp, .ref bl, .ref bh, .ref bq, .ref br, .ref bd, .int (jI bg), .int (jI bf)])), (bl, .inl (cA, 248, .inl (jA fl))), (bh, .inl (cA, 248, .inl (jA fh)))]) ⟨hx, hb, hml, hown, hts⟩ (c_XP_put l dC dI cA _ pa ps pn1'3 pf1'4 45 (by first | assumption | omega)) (cwV 1 hts (jG_V tw_585 tw_586 tw_587 tw_4 tw_588) rfl rfl rfl (by decide +kernel) (by rw [hR]; exact ⟨Nat.le_of_ble_eq_true rfl, Nat.le_of_ble_eq_true rfl⟩)) hK hP hD hS hA hN [3, 4] [0, 1, 2] rfl rfl (by decide) (by decide) (by decide) 3 1 rfl rfl rfl rfl hl.1 rfl (Nat.le_of_ble_eq_true rfl) dXB_printSpans_43 (by rw [hR]; exact ⟨Nat.le_of_ble_eq_true rfl, Nat.le_of_ble_eq_true rfl⟩) (fun u10 H locs hwb11 hP hD hS => ?_)
          obtain ⟨pn1'8, pf1'9⟩ := u10
          try dsimp only at hwb11
          have hP : va_P (dC, dI) vwCl [(ba, .inr (0, [.ref bt, .ref bp, .ref bl, .ref bh, .ref bq, .ref br, .ref bd, .int (jI bg), .int (jI bf)])), (bl, .inl (cA, 248, .inl (jA fl))), (bh, .inl (cA, 248, .inl (jA fh))), (pa, .inr (1, [.ref ps, .int (jI pn1'8)])), (ps, .inl (cA, 160, .inl (jA pf1'9)))] H := hP
          have hD : va_D A [(ba, .inr (0, [.ref bt, .ref bp, .ref bl, .ref bh, .ref bq, .ref br, .ref bd, .int (jI bg), .int (jI bf)])), (bl, .inl (cA, 248, .inl (jA fl))), (bh, .inl (cA, 248, .inl (jA fh))), (pa, .inr (1, [.ref ps, .int (jI pn1'8)])), (ps, .inl (cA, 160, .inl (jA pf1'9)))] := hD
          have f12 := f_XP_put_b pn1'3 pf1'4 45 (by first | assumption | omega)
          rw [← hwb11] at f12; try dsimp only at f12
          refine lv_aload_n hx hb dXB_printSpans_46 rfl (lv_at hl 3 rfl) ?_
          refine lv_aload_n hx hb dXB_printSpans_47 rfl (lv_at hl 1 rfl) ?_
          refine va_get (D := (dC, dI)) (ci := 0) (v := .ref bh) (C := RXB) (T := TXB) (N := 9) hx hb hts (fun w h => jmem (inXB w h)) hown hK hP 0 rfl rfl 3 (by decide) (hts _ (jmem tw_76)) (fun _ h9 => h9) rfl dXB_printSpans_48 ?_
          refine lv_iload_n hx hb dXB_printSpans_51 rfl (lv_at hl 2 rfl) ?_
          refine ji_bipush hx hb dXB_printSpans_52 (by decide) ?_
          refine ji_imul hx hb dXB_printSpans_54 ?_
          refine lv_iload_n hx hb dXB_printSpans_55 rfl (lv_at hl 0 rfl) ?_
          refine ji_iadd hx hb dXB_printSpans_56 ?_
          refine ji_iald hx hb hK hP 2 0 rfl rfl ⟨by omega, by omega⟩ (by decide) dXB_printSpans_57 ?_
          have rb13 := hbh ((zg * 8) + k)
          refine jwVv (rest := []) (wr := [(ba, .inr (0, [.ref bt, .ref bp, .ref bl, .ref bh, .ref bq, .ref br, .ref bd, .int (jI bg), .int (jI bf)])), (bl, .inl (cA, 248, .inl (jA fl))), (bh, .inl (cA, 248, .inl (jA fh)))]) ⟨hx, hb, hml, hown, hts⟩ (c_XP_putNumber l dC dI cA _ pa ps pn1'8 pf1'9 (fh ((zg * 8) + k)) (by first | assumption | omega) (by first | assumption | omega)) (cwV 1 hts (jG_V tw_589 tw_590 tw_591 tw_4 tw_592) rfl rfl rfl (by decide +kernel) (by rw [hR]; exact ⟨Nat.le_of_ble_eq_true rfl, Nat.le_of_ble_eq_true rfl⟩)) hK hP hD hS hA hN [3, 4] [0, 1, 2] rfl rfl (by decide) (by decide) (by decide) 3 1 rfl rfl rfl rfl hl.1 rfl (Nat.le_of_ble_eq_true rfl) dXB_printSpans_58 (by rw [hR]; exact ⟨Nat.le_of_ble_eq_true rfl, Nat.le_of_ble_eq_true rfl⟩) (fun u16 H locs hwb17 hP hD hS => ?_)
          obtain ⟨pn1'14, pf1'15⟩ := u16
          try dsimp only at hwb17
          have hP : va_P (dC, dI) vwCl [(ba, .inr (0, [.ref bt, .ref bp, .ref bl, .ref bh, .ref bq, .ref br, .ref bd, .int (jI bg), .int (jI bf)])), (bl, .inl (cA, 248, .inl (jA fl))), (bh, .inl (cA, 248, .inl (jA fh))), (pa, .inr (1, [.ref ps, .int (jI pn1'14)])), (ps, .inl (cA, 160, .inl (jA pf1'15)))] H := hP
          have hD : va_D A [(ba, .inr (0, [.ref bt, .ref bp, .ref bl, .ref bh, .ref bq, .ref br, .ref bd, .int (jI bg), .int (jI bf)])), (bl, .inl (cA, 248, .inl (jA fl))), (bh, .inl (cA, 248, .inl (jA fh))), (pa, .inr (1, [.ref ps, .int (jI pn1'14)])), (ps, .inl (cA, 160, .inl (jA pf1'15)))] := hD
          have f18 := f_XP_putNumber_b pn1'8 pf1'9 (fh ((zg * 8) + k)) (by first | assumption | omega) (by first | assumption | omega)
          rw [← hwb17] at f18; try dsimp only at f18
          refine ji_iinc (k := 0) (lv' := [(3, .int (jI (k + 1))), (0, .ref ba), (1, .int (jI zg)), (2, .ref pa)]) hx hb dXB_printSpans_61 hl rfl (by decide) rfl (fun ls hl => ?_)
          refine lv_goto (tgt := 2) hx hb dXB_printSpans_64 (by decide) ?_
          exact ih2 (k + 1) pn1'14 pf1'15 (by omega) (Eq.trans (by rw [f_XB_printSpans_L2_s]; rw [if_pos c5_, if_neg c14_]; rw [← hwb]; try dsimp only; rw [← hwb6]; try dsimp only; rw [← hwb11]; try dsimp only; rw [← hwb17]; try dsimp only; try rfl) hF) (by first | assumption | omega) (by first | assumption | omega) _ _ hP hD hS ls (lv_sub hl [0, 1, 2, 3] rfl)
  exact loop2 (Int.toNat (8 - 0) + 1) 0 pn pf (by omega) (Eq.trans (by rw [f_XB_printSpans_s]; try rfl) rfl) (by first | assumption | omega) (by first | assumption | omega) _ _ hP hD hS ls (lv_sub hl [0, 1, 2, 3] rfl)
noncomputable def g_XB_printRoutes_L18 (bg : Int) (bf : Int) (fr : Int → Int) (zg : Int) (pn : Int) (pf : Int → Int) : Nat → Int → Int → (Int → Int) → Int × (Int → Int)
  | 0, _, _, _ => (0, fun _ => 0)
  | n9 + 1, k, q, fa =>
    if k < 8 then
      if (f_XG_hasBit (fr zg) k) = 0 then
        g_XB_printRoutes_L18 bg bf fr zg pn pf n9 (k + 1) q fa
      else
        match f_XP_put q fa (48 + k) with
        | (pn1'3, pf1'4) =>
          g_XB_printRoutes_L18 bg bf fr zg pn pf n9 (k + 1) pn1'3 pf1'4
    else
      (q, fa)
noncomputable def f_XB_printRoutes_L18 : Int → Int → (Int → Int) → Int → Int → (Int → Int) → Nat → Int → Int → (Int → Int) → Int × (Int → Int) := jopq g_XB_printRoutes_L18
theorem f_XB_printRoutes_L18_q : f_XB_printRoutes_L18 = g_XB_printRoutes_L18 := jopq_eq _
theorem f_XB_printRoutes_L18_s (bg : Int) (bf : Int) (fr : Int → Int) (zg : Int) (pn : Int) (pf : Int → Int) (n9 : Nat) (k : Int) (q : Int) (fa : Int → Int) : f_XB_printRoutes_L18 bg bf fr zg pn pf (n9 + 1) k q fa = (
    if k < 8 then
      if (f_XG_hasBit (fr zg) k) = 0 then
        f_XB_printRoutes_L18 bg bf fr zg pn pf n9 (k + 1) q fa
      else
        match f_XP_put q fa (48 + k) with
        | (pn1'3, pf1'4) =>
          f_XB_printRoutes_L18 bg bf fr zg pn pf n9 (k + 1) pn1'3 pf1'4
    else
      (q, fa)
  : Int × (Int → Int)) := by rw [f_XB_printRoutes_L18_q]; rfl
theorem f_XB_printRoutes_L18_z (bg : Int) (bf : Int) (fr : Int → Int) (zg : Int) (pn : Int) (pf : Int → Int) (k : Int) (q : Int) (fa : Int → Int) : f_XB_printRoutes_L18 bg bf fr zg pn pf 0 k q fa = (0, fun _ => 0) := by rw [f_XB_printRoutes_L18_q]; rfl
noncomputable def g_XB_printRoutes (bg : Int) (bf : Int) (fr : Int → Int) (zg : Int) (pn : Int) (pf : Int → Int) : Int × (Int → Int) :=
  if (fr zg) = 0 then
    (pn, pf)
  else
    match f_XP_put pn pf 114 with
    | (pn1', pf1') =>
      f_XB_printRoutes_L18 bg bf fr zg pn pf (Int.toNat (8 - 0) + 1) 0 pn1' pf1'
noncomputable def f_XB_printRoutes : Int → Int → (Int → Int) → Int → Int → (Int → Int) → Int × (Int → Int) := jopq g_XB_printRoutes
theorem f_XB_printRoutes_q : f_XB_printRoutes = g_XB_printRoutes := jopq_eq _
theorem f_XB_printRoutes_s (bg : Int) (bf : Int) (fr : Int → Int) (zg : Int) (pn : Int) (pf : Int → Int) : f_XB_printRoutes bg bf fr zg pn pf = (
    if (fr zg) = 0 then
      (pn, pf)
    else
      match f_XP_put pn pf 114 with
      | (pn1', pf1') =>
        f_XB_printRoutes_L18 bg bf fr zg pn pf (Int.toNat (8 - 0) + 1) 0 pn1' pf1'
  : Int × (Int → Int)) := by rw [f_XB_printRoutes_q]; rfl
theorem f_XB_printRoutes_L (bg bf : Int) (fr : Int → Int) (zg pn : Int) (pf : Int → Int) : ∀ (n : Nat) (k q : Int) (fa : Int → Int), 0 ≤ q ∧ q ≤ 160 → 0 ≤ (f_XB_printRoutes_L18 bg bf fr zg pn pf n k q fa).1 ∧ (f_XB_printRoutes_L18 bg bf fr zg pn pf n k q fa).1 ≤ 160 := by
  intro n
  induction n with
  | zero => intro k q fa _; simp only [f_XB_printRoutes_L18_z] <;> omega
  | succ n ih =>
    intro k q fa h
    rw [f_XB_printRoutes_L18_s]
    simp only []
    split
    · split
      · exact ih _ _ _ h
      · exact ih _ _ _ (f_XP_put_b _ _ _ h)
    · exact h
theorem f_XB_printRoutes_b (bg : Int) (bf : Int) (fr : Int → Int) (zg : Int) (pn : Int) (pf : Int → Int) (hbr : ∀ i, 0 ≤ fr i ∧ fr i < 2147483648) (hzg : 0 ≤ zg ∧ zg ≤ 30) (hpn : 0 ≤ pn ∧ pn ≤ 160) : 0 ≤ (f_XB_printRoutes bg bf fr zg pn pf).1 ∧ (f_XB_printRoutes bg bf fr zg pn pf).1 ≤ 160 := by
  rw [f_XB_printRoutes_s]
  simp only []
  split
  · exact hpn
  · exact f_XB_printRoutes_L _ _ _ _ _ _ _ _ _ _ (f_XP_put_b _ _ _ hpn)
set_option maxHeartbeats 4000000 in
set_option maxRecDepth 100000 in
theorem c_XB_printRoutes (l : Launch) (dC : Nat → ClassId) (dI : Nat → Nat → Nat) (cA : ClassId) (sz : Nat) (ba : Nat) (bt : Nat) (bp : Nat) (bl : Nat) (bh : Nat) (bq : Nat) (br : Nat) (bd : Nat) (bg : Int) (bf : Int) (fr : Int → Int) (zg : Int) (pa : Nat) (ps : Nat) (pn : Int) (pf : Int → Int) (hbr : ∀ i, 0 ≤ fr i ∧ fr i < 2147483648) (hzg : 0 ≤ zg ∧ zg ≤ 30) (hpn : 0 ≤ pn ∧ pn ≤ 160) : Met l yXB_printRoutes (Cond.code yXB_printRoutes cXB_printRoutes 4 none :: TBL) ({ frames := 1, cells := 0, slots := 0, locals := 21 } : Room) (va_Pc [.ref ba, .int (jI zg), .ref pa] (jBw (dC, dI) [(cA, .int)] [(ba, .inr (0, [.ref bt, .ref bp, .ref bl, .ref bh, .ref bq, .ref br, .ref bd, .int (jI bg), .int (jI bf)])), (br, .inl (cA, 31, .inl (jA fr))), (pa, .inr (1, [.ref ps, .int (jI pn)])), (ps, .inl (cA, 160, .inl (jA pf)))] sz)) (va_Qv (fun (u : Int × (Int → Int)) => u = f_XB_printRoutes bg bf fr zg pn pf) (fun u t => jE (dC, dI) [(cA, .int)] [(ba, .inr (0, [.ref bt, .ref bp, .ref bl, .ref bh, .ref bq, .ref br, .ref bd, .int (jI bg), .int (jI bf)])), (br, .inl (cA, 31, .inl (jA fr))), (pa, .inr (1, [.ref ps, .int (jI pn)])), (ps, .inl (cA, 160, .inl (jA pf)))] sz [(ba, .inr (0, [.ref bt, .ref bp, .ref bl, .ref bh, .ref bq, .ref br, .ref bd, .int (jI bg), .int (jI bf)])), (br, .inl (cA, 31, .inl (jA fr))), (pa, .inr (1, [.ref ps, .int (jI u.1)])), (ps, .inl (cA, 160, .inl (jA u.2)))] t) (va_A [(ba, .inr (0, [.ref bt, .ref bp, .ref bl, .ref bh, .ref bq, .ref br, .ref bd, .int (jI bg), .int (jI bf)])), (br, .inl (cA, 31, .inl (jA fr))), (pa, .inr (1, [.ref ps, .int (jI pn)])), (ps, .inl (cA, 160, .inl (jA pf)))] sz)) 0 0 (va_A [(ba, .inr (0, [.ref bt, .ref bp, .ref bl, .ref bh, .ref bq, .ref br, .ref bd, .int (jI bg), .int (jI bf)])), (br, .inl (cA, 31, .inl (jA fr))), (pa, .inr (1, [.ref ps, .int (jI pn)])), (ps, .inl (cA, 160, .inl (jA pf)))] sz) := by
  refine jMet (cc := cXB_printRoutes) (maxL := 4) (ret := none) (by decide) rfl ?_
  intro p e s m args below meth c s₁ R Q hR hQ B hml hv
  obtain ⟨rfl, hsz, hP, hK, hD0, hN⟩ := hv
  have hx := B.exec
  have hb := B.bytes
  have hr := B.returns
  have hts := atoms_spec (ws := Cond.code yXB_printRoutes cXB_printRoutes 4 none :: TBL) B.pre
  have hown : s.vm.findClass RXB = some m.cls := findClass_of_methodNamed B.named
  have hlocks := B.notSynchronized
  subst hsz
  obtain ⟨A, hAe⟩ : ∃ A, A = va_A [(ba, .inr (0, [.ref bt, .ref bp, .ref bl, .ref bh, .ref bq, .ref br, .ref bd, .int (jI bg), .int (jI bf)])), (br, .inl (cA, 31, .inl (jA fr))), (pa, .inr (1, [.ref ps, .int (jI pn)])), (ps, .inl (cA, 160, .inl (jA pf)))] s.heap.size := ⟨_, rfl⟩
  have hD : va_D A [(ba, .inr (0, [.ref bt, .ref bp, .ref bl, .ref bh, .ref bq, .ref br, .ref bd, .int (jI bg), .int (jI bf)])), (br, .inl (cA, 31, .inl (jA fr))), (pa, .inr (1, [.ref ps, .int (jI pn)])), (ps, .inl (cA, 160, .inl (jA pf)))] := by rw [hAe]; exact hD0.self
  have hA : ∀ q : Nat, s.heap.size ≤ q → A q := fun q h => by rw [hAe]; exact Or.inr h
  have hS : va_S A s.heap s.heap [] := va_S.rf
  have hP : va_P (dC, dI) vwCl [(ba, .inr (0, [.ref bt, .ref bp, .ref bl, .ref bh, .ref bq, .ref br, .ref bd, .int (jI bg), .int (jI bf)])), (br, .inl (cA, 31, .inl (jA fr))), (pa, .inr (1, [.ref ps, .int (jI pn)])), (ps, .inl (cA, 160, .inl (jA pf)))] s.heap := hP
  have hl := lv_entry ([.ref ba, .int (jI zg), .ref pa]) (n := 4) (Nat.le_of_ble_eq_true rfl)
  rw [lg_entry_eq]
  generalize (lg_sl ([.ref ba, .int (jI zg), .ref pa]) ++ List.replicate (4 - (lg_sl ([.ref ba, .int (jI zg), .ref pa])).length) Slot.unset).toArray = ls at hl ⊢
  have hl : lv_has ls 4 [(0, .ref ba), (1, .int (jI zg)), (2, .ref pa)] := hl
  refine lv_aload_n hx hb dXB_printRoutes_0 rfl (lv_at hl 0 rfl) ?_
  refine va_get (D := (dC, dI)) (ci := 0) (v := .ref br) (C := RXB) (T := TXB) (N := 9) hx hb hts (fun w h => jmem (inXB w h)) hown hK hP 0 rfl rfl 5 (by decide) (hts _ (jmem tw_78)) (fun _ h9 => h9) rfl dXB_printRoutes_1 ?_
  refine lv_iload_n hx hb dXB_printRoutes_4 rfl (lv_at hl 1 rfl) ?_
  refine ji_iald hx hb hK hP 1 0 rfl rfl ⟨by omega, by omega⟩ (by decide) dXB_printRoutes_5 ?_
  have rb := hbr zg
  refine ji_if_ne (tgt := 10) hx hb dXB_printRoutes_6 (by decide) (by omega) (fun c6_ => ?_) (fun c6_ => ?_)
  · refine lv_aload_n hx hb dXB_printRoutes_10 rfl (lv_at hl 2 rfl) ?_
    refine ji_bipush hx hb dXB_printRoutes_11 (by decide) ?_
    refine jwVv (rest := []) (wr := [(ba, .inr (0, [.ref bt, .ref bp, .ref bl, .ref bh, .ref bq, .ref br, .ref bd, .int (jI bg), .int (jI bf)])), (br, .inl (cA, 31, .inl (jA fr)))]) ⟨hx, hb, hml, hown, hts⟩ (c_XP_put l dC dI cA _ pa ps pn pf 114 (by first | assumption | omega)) (cwV 1 hts (jG_V tw_585 tw_586 tw_587 tw_4 tw_588) rfl rfl rfl (by decide +kernel) (by rw [hR]; exact ⟨Nat.le_of_ble_eq_true rfl, Nat.le_of_ble_eq_true rfl⟩)) hK hP hD hS hA hN [2, 3] [0, 1] rfl rfl (by decide) (by decide) (by decide) 2 1 rfl rfl rfl rfl hl.1 rfl (Nat.le_of_ble_eq_true rfl) dXB_printRoutes_13 (by rw [hR]; exact ⟨Nat.le_of_ble_eq_true rfl, Nat.le_of_ble_eq_true rfl⟩) (fun u H locs hwb hP hD hS => ?_)
    obtain ⟨pn1', pf1'⟩ := u
    try dsimp only at hwb
    have hP : va_P (dC, dI) vwCl [(ba, .inr (0, [.ref bt, .ref bp, .ref bl, .ref bh, .ref bq, .ref br, .ref bd, .int (jI bg), .int (jI bf)])), (br, .inl (cA, 31, .inl (jA fr))), (pa, .inr (1, [.ref ps, .int (jI pn1')])), (ps, .inl (cA, 160, .inl (jA pf1')))] H := hP
    have hD : va_D A [(ba, .inr (0, [.ref bt, .ref bp, .ref bl, .ref bh, .ref bq, .ref br, .ref bd, .int (jI bg), .int (jI bf)])), (br, .inl (cA, 31, .inl (jA fr))), (pa, .inr (1, [.ref ps, .int (jI pn1')])), (ps, .inl (cA, 160, .inl (jA pf1')))] := hD
    have f := f_XP_put_b pn pf 114 (by first | assumption | omega)
    rw [← hwb] at f; try dsimp only at f
    refine ji_iconst hx hb dXB_printRoutes_16 ?_
    refine lv_istore_n (lv' := [(3, .int (jI 0)), (0, .ref ba), (1, .int (jI zg)), (2, .ref pa)]) hx hb dXB_printRoutes_17 rfl hl (by decide) rfl (fun ls hl => ?_)
    have loop18 : ∀ (n9 : Nat) (k : Int) (q : Int) (fa : Int → Int) , 8 - k < (n9 : Int) → f_XB_printRoutes_L18 bg bf fr zg pn pf n9 k q fa = f_XB_printRoutes bg bf fr zg pn pf → (0 ≤ k ∧ k ≤ 8) → (0 ≤ q ∧ q ≤ 160) → ∀ (H : Heap) (locs : List Loc), va_P (dC, dI) vwCl [(ba, .inr (0, [.ref bt, .ref bp, .ref bl, .ref bh, .ref bq, .ref br, .ref bd, .int (jI bg), .int (jI bf)])), (br, .inl (cA, 31, .inl (jA fr))), (pa, .inr (1, [.ref ps, .int (jI q)])), (ps, .inl (cA, 160, .inl (jA fa)))] H → va_D A [(ba, .inr (0, [.ref bt, .ref bp, .ref bl, .ref bh, .ref bq, .ref br, .ref bd, .int (jI bg), .int (jI bf)])), (br, .inl (cA, 31, .inl (jA fr))), (pa, .inr (1, [.ref ps, .int (jI q)])), (ps, .inl (cA, 160, .inl (jA fa)))] → va_S A s.heap H locs → ∀ ls : Array Slot, lv_has ls 4 [(3, .int (jI k)), (0, .ref ba), (1, .int (jI zg)), (2, .ref pa)] → W p l e R s m ([.ref ba, .int (jI zg), .ref pa] : List Value).toArray below meth c H locs 0 0 Q (F0 m 18 ls []) := by
      intro n9
      induction n9 with
      | zero =>
        intro k q fa hm hF hk hq
        exact absurd hm (by omega)
      | succ n9 ih18 =>
        intro k q fa hm hF hk hq H locs hP hD hS ls hl
        refine lv_iload_n hx hb dXB_printRoutes_18 rfl (lv_at hl 0 rfl) ?_
        refine ji_bipush hx hb dXB_printRoutes_19 (by decide) ?_
        refine ji_icmp_ge (tgt := 51) hx hb dXB_printRoutes_21 (by decide) (by omega) (by omega) (fun c21_ => ?_) (fun c21_ => ?_)
        · have hP9 := hP.sub (ws' := [(ba, .inr (0, [.ref bt, .ref bp, .ref bl, .ref bh, .ref bq, .ref br, .ref bd, .int (jI bg), .int (jI bf)])), (br, .inl (cA, 31, .inl (jA fr))), (pa, .inr (1, [.ref ps, .int (jI q)])), (ps, .inl (cA, 160, .inl (jA fa)))]) [0, 1, 2, 3] rfl
          have hD9 := hD.sub (ws' := [(ba, .inr (0, [.ref bt, .ref bp, .ref bl, .ref bh, .ref bq, .ref br, .ref bd, .int (jI bg), .int (jI bf)])), (br, .inl (cA, 31, .inl (jA fr))), (pa, .inr (1, [.ref ps, .int (jI q)])), (ps, .inl (cA, 160, .inl (jA fa)))]) [0, 1, 2, 3] (by decide) rfl
          subst hAe
          subst hQ
          exact W.vret hx hb hr (fun t ht hW => ⟨⟨(q, fa), rfl, Eq.trans (by rw [f_XB_printRoutes_L18_s]; rw [if_neg (Int.not_lt.mpr c21_)]; try rfl) hF, ⟨by rw [ht]; exact hP9, va_K.moved hW.alike hK, hD9⟩⟩, hS.F ht⟩) hS.2.2 dXB_printRoutes_51
        · refine lv_aload_n hx hb dXB_printRoutes_24 rfl (lv_at hl 1 rfl) ?_
          refine va_get (D := (dC, dI)) (ci := 0) (v := .ref br) (C := RXB) (T := TXB) (N := 9) hx hb hts (fun w h => jmem (inXB w h)) hown hK hP 0 rfl rfl 5 (by decide) (hts _ (jmem tw_78)) (fun _ h9 => h9) rfl dXB_printRoutes_25 ?_
          refine lv_iload_n hx hb dXB_printRoutes_28 rfl (lv_at hl 2 rfl) ?_
          refine ji_iald hx hb hK hP 1 0 rfl rfl ⟨by omega, by omega⟩ (by decide) dXB_printRoutes_29 ?_
          have rb1 := hbr zg
          refine lv_iload_n hx hb dXB_printRoutes_30 rfl (lv_at hl 0 rfl) ?_
          refine jrNi (rest := []) ⟨hx, hb, hml, hown, hts⟩ (c_XG_hasBit l dC dI cA (fr zg) k (by first | assumption | omega) (by first | assumption | omega)) ⟨va_cnB 2 hts (jG (jG_c tw_173)) rfl rfl rfl (jN.n171 hN) (hts _ (jmem tw_1)) (by decide +kernel) (by rw [hR]; exact ⟨Nat.le_of_ble_eq_true rfl, Nat.le_of_ble_eq_true rfl⟩), hts _ (jmem tw_172), trivial⟩ hK hP hN [] rfl rfl hl.1 rfl (Nat.le_of_ble_eq_true rfl) dXB_printRoutes_31 (by rw [hR]; exact ⟨Nat.le_of_ble_eq_true rfl, Nat.le_of_ble_eq_true rfl⟩) ?_
          have f2 := f_XG_hasBit_01 (fr zg) k (by first | assumption | omega) (by first | assumption | omega)
          refine ji_if_eq (tgt := 45) hx hb dXB_printRoutes_34 (by decide) (by omega) (fun c34_ => ?_) (fun c34_ => ?_)
          · refine ji_iinc (k := 0) (lv' := [(3, .int (jI (k + 1))), (0, .ref ba), (1, .int (jI zg)), (2, .ref pa)]) hx hb dXB_printRoutes_45 hl rfl (by decide) rfl (fun ls hl => ?_)
            refine lv_goto (tgt := 18) hx hb dXB_printRoutes_48 (by decide) ?_
            exact ih18 (k + 1) q fa (by omega) (Eq.trans (by rw [f_XB_printRoutes_L18_s]; rw [if_pos c21_, if_pos c34_]; try rfl) hF) (by first | assumption | omega) (by first | assumption | omega) _ _ hP hD hS ls (lv_sub hl [0, 1, 2, 3] rfl)
          · refine lv_aload_n hx hb dXB_printRoutes_37 rfl (lv_at hl 3 rfl) ?_
            refine ji_bipush hx hb dXB_printRoutes_38 (by decide) ?_
            refine lv_iload_n hx hb dXB_printRoutes_40 rfl (lv_at hl 0 rfl) ?_
            refine ji_iadd hx hb dXB_printRoutes_41 ?_
            refine jwVv (rest := []) (wr := [(ba, .inr (0, [.ref bt, .ref bp, .ref bl, .ref bh, .ref bq, .ref br, .ref bd, .int (jI bg), .int (jI bf)])), (br, .inl (cA, 31, .inl (jA fr)))]) ⟨hx, hb, hml, hown, hts⟩ (c_XP_put l dC dI cA _ pa ps q fa (48 + k) (by first | assumption | omega)) (cwV 1 hts (jG_V tw_585 tw_586 tw_587 tw_4 tw_588) rfl rfl rfl (by decide +kernel) (by rw [hR]; exact ⟨Nat.le_of_ble_eq_true rfl, Nat.le_of_ble_eq_true rfl⟩)) hK hP hD hS hA hN [2, 3] [0, 1] rfl rfl (by decide) (by decide) (by decide) 2 1 rfl rfl rfl rfl hl.1 rfl (Nat.le_of_ble_eq_true rfl) dXB_printRoutes_42 (by rw [hR]; exact ⟨Nat.le_of_ble_eq_true rfl, Nat.le_of_ble_eq_true rfl⟩) (fun u5 H locs hwb6 hP hD hS => ?_)
            obtain ⟨pn1'3, pf1'4⟩ := u5
            try dsimp only at hwb6
            have hP : va_P (dC, dI) vwCl [(ba, .inr (0, [.ref bt, .ref bp, .ref bl, .ref bh, .ref bq, .ref br, .ref bd, .int (jI bg), .int (jI bf)])), (br, .inl (cA, 31, .inl (jA fr))), (pa, .inr (1, [.ref ps, .int (jI pn1'3)])), (ps, .inl (cA, 160, .inl (jA pf1'4)))] H := hP
            have hD : va_D A [(ba, .inr (0, [.ref bt, .ref bp, .ref bl, .ref bh, .ref bq, .ref br, .ref bd, .int (jI bg), .int (jI bf)])), (br, .inl (cA, 31, .inl (jA fr))), (pa, .inr (1, [.ref ps, .int (jI pn1'3)])), (ps, .inl (cA, 160, .inl (jA pf1'4)))] := hD
            have f7 := f_XP_put_b q fa (48 + k) (by first | assumption | omega)
            rw [← hwb6] at f7; try dsimp only at f7
            refine ji_iinc (k := 0) (lv' := [(3, .int (jI (k + 1))), (0, .ref ba), (1, .int (jI zg)), (2, .ref pa)]) hx hb dXB_printRoutes_45 hl rfl (by decide) rfl (fun ls hl => ?_)
            refine lv_goto (tgt := 18) hx hb dXB_printRoutes_48 (by decide) ?_
            exact ih18 (k + 1) pn1'3 pf1'4 (by omega) (Eq.trans (by rw [f_XB_printRoutes_L18_s]; rw [if_pos c21_, if_neg c34_]; rw [← hwb6]; try dsimp only; try rfl) hF) (by first | assumption | omega) (by first | assumption | omega) _ _ hP hD hS ls (lv_sub hl [0, 1, 2, 3] rfl)
    exact loop18 (Int.toNat (8 - 0) + 1) 0 pn1' pf1' (by omega) (Eq.trans (by rw [f_XB_printRoutes_s]; rw [if_neg c6_]; rw [← hwb]; try dsimp only; try rfl) rfl) (by first | assumption | omega) (by first | assumption | omega) _ _ hP hD hS ls (lv_sub hl [0, 1, 2, 3] rfl)
  · have hP9 := hP.sub (ws' := [(ba, .inr (0, [.ref bt, .ref bp, .ref bl, .ref bh, .ref bq, .ref br, .ref bd, .int (jI bg), .int (jI bf)])), (br, .inl (cA, 31, .inl (jA fr))), (pa, .inr (1, [.ref ps, .int (jI pn)])), (ps, .inl (cA, 160, .inl (jA pf)))]) [0, 1, 2, 3] rfl
    have hD9 := hD.sub (ws' := [(ba, .inr (0, [.ref bt, .ref bp, .ref bl, .ref bh, .ref bq, .ref br, .ref bd, .int (jI bg), .int (jI bf)])), (br, .inl (cA, 31, .inl (jA fr))), (pa, .inr (1, [.ref ps, .int (jI pn)])), (ps, .inl (cA, 160, .inl (jA pf)))]) [0, 1, 2, 3] (by decide) rfl
    subst hAe
    subst hQ
    exact W.vret hx hb hr (fun t ht hW => ⟨⟨(pn, pf), rfl, Eq.trans (by rw [f_XB_printRoutes_s]; rw [if_pos c6_]; try rfl) rfl, ⟨by rw [ht]; exact hP9, va_K.moved hW.alike hK, hD9⟩⟩, hS.F ht⟩) hS.2.2 dXB_printRoutes_9
noncomputable def g_XB_printLimits_L2 (bg : Int) (bf : Int) (fq : Int → Int) (zg : Int) (pn : Int) (pf : Int → Int) : Nat → Int → Int → (Int → Int) → Int × (Int → Int)
  | 0, _, _, _ => (0, fun _ => 0)
  | n9 + 1, k, q, fa =>
    if k < 4 then
      if (f_XB_tellsLimit bg bf fq zg k) = 0 then
        g_XB_printLimits_L2 bg bf fq zg pn pf n9 (k + 1) q fa
      else
        match f_XP_put q fa 113 with
        | (pn1', pf1') =>
          match f_XP_put pn1' pf1' (48 + k) with
          | (pn1'3, pf1'4) =>
            match f_XP_put pn1'3 pf1'4 60 with
            | (pn1'8, pf1'9) =>
              match f_XP_putNumber pn1'8 pf1'9 (fq ((zg * 4) + k)) with
              | (pn1'13, pf1'14) =>
                g_XB_printLimits_L2 bg bf fq zg pn pf n9 (k + 1) pn1'13 pf1'14
    else
      (q, fa)
noncomputable def f_XB_printLimits_L2 : Int → Int → (Int → Int) → Int → Int → (Int → Int) → Nat → Int → Int → (Int → Int) → Int × (Int → Int) := jopq g_XB_printLimits_L2
theorem f_XB_printLimits_L2_q : f_XB_printLimits_L2 = g_XB_printLimits_L2 := jopq_eq _
theorem f_XB_printLimits_L2_s (bg : Int) (bf : Int) (fq : Int → Int) (zg : Int) (pn : Int) (pf : Int → Int) (n9 : Nat) (k : Int) (q : Int) (fa : Int → Int) : f_XB_printLimits_L2 bg bf fq zg pn pf (n9 + 1) k q fa = (
    if k < 4 then
      if (f_XB_tellsLimit bg bf fq zg k) = 0 then
        f_XB_printLimits_L2 bg bf fq zg pn pf n9 (k + 1) q fa
      else
        match f_XP_put q fa 113 with
        | (pn1', pf1') =>
          match f_XP_put pn1' pf1' (48 + k) with
          | (pn1'3, pf1'4) =>
            match f_XP_put pn1'3 pf1'4 60 with
            | (pn1'8, pf1'9) =>
              match f_XP_putNumber pn1'8 pf1'9 (fq ((zg * 4) + k)) with
              | (pn1'13, pf1'14) =>
                f_XB_printLimits_L2 bg bf fq zg pn pf n9 (k + 1) pn1'13 pf1'14
    else
      (q, fa)
  : Int × (Int → Int)) := by rw [f_XB_printLimits_L2_q]; rfl
theorem f_XB_printLimits_L2_z (bg : Int) (bf : Int) (fq : Int → Int) (zg : Int) (pn : Int) (pf : Int → Int) (k : Int) (q : Int) (fa : Int → Int) : f_XB_printLimits_L2 bg bf fq zg pn pf 0 k q fa = (0, fun _ => 0) := by rw [f_XB_printLimits_L2_q]; rfl
noncomputable def g_XB_printLimits (bg : Int) (bf : Int) (fq : Int → Int) (zg : Int) (pn : Int) (pf : Int → Int) : Int × (Int → Int) :=
  f_XB_printLimits_L2 bg bf fq zg pn pf (Int.toNat (4 - 0) + 1) 0 pn pf
noncomputable def f_XB_printLimits : Int → Int → (Int → Int) → Int → Int → (Int → Int) → Int × (Int → Int) := jopq g_XB_printLimits
theorem f_XB_printLimits_q : f_XB_printLimits = g_XB_printLimits := jopq_eq _
theorem f_XB_printLimits_s (bg : Int) (bf : Int) (fq : Int → Int) (zg : Int) (pn : Int) (pf : Int → Int) : f_XB_printLimits bg bf fq zg pn pf = (
    f_XB_printLimits_L2 bg bf fq zg pn pf (Int.toNat (4 - 0) + 1) 0 pn pf
  : Int × (Int → Int)) := by rw [f_XB_printLimits_q]; rfl
theorem f_XB_printLimits_L (bg bf : Int) (fq : Int → Int) (zg pn : Int) (pf : Int → Int) (hbq : ∀ i, -1 ≤ fq i ∧ fq i ≤ 999999) (hzg : 0 ≤ zg ∧ zg ≤ 30) : ∀ (n : Nat) (k q : Int) (fa : Int → Int), 0 ≤ k → 0 ≤ q ∧ q ≤ 160 → 0 ≤ (f_XB_printLimits_L2 bg bf fq zg pn pf n k q fa).1 ∧ (f_XB_printLimits_L2 bg bf fq zg pn pf n k q fa).1 ≤ 160 := by
  intro n
  induction n with
  | zero => intro k q fa _ _; simp only [f_XB_printLimits_L2_z] <;> omega
  | succ n ih =>
    intro k q fa h0 h
    rw [f_XB_printLimits_L2_s]
    simp only []
    split
    · split
      · exact ih _ _ _ (by omega) h
      · have hc := f_XB_tellsLimit_c bg bf fq zg k hbq hzg (by omega)
        have hb := f_XB_tellsLimit_b bg bf fq zg k hbq hzg (by omega)
        have hh := hbq (zg * 4 + k)
        exact ih _ _ _ (by omega) (f_XP_putNumber_b _ _ _ (f_XP_put_b _ _ _ (f_XP_put_b _ _ _ (f_XP_put_b _ _ _ h))) (by omega))
    · exact h
theorem f_XB_printLimits_b (bg : Int) (bf : Int) (fq : Int → Int) (zg : Int) (pn : Int) (pf : Int → Int) (hbq : ∀ i, -1 ≤ fq i ∧ fq i ≤ 999999) (hzg : 0 ≤ zg ∧ zg ≤ 30) (hpn : 0 ≤ pn ∧ pn ≤ 160) : 0 ≤ (f_XB_printLimits bg bf fq zg pn pf).1 ∧ (f_XB_printLimits bg bf fq zg pn pf).1 ≤ 160 := by rw [f_XB_printLimits_s]; exact f_XB_printLimits_L _ _ _ _ _ _ hbq hzg _ _ _ _ (by omega) hpn
set_option maxHeartbeats 4000000 in
set_option maxRecDepth 100000 in
theorem c_XB_printLimits (l : Launch) (dC : Nat → ClassId) (dI : Nat → Nat → Nat) (cA : ClassId) (sz : Nat) (ba : Nat) (bt : Nat) (bp : Nat) (bl : Nat) (bh : Nat) (bq : Nat) (br : Nat) (bd : Nat) (bg : Int) (bf : Int) (fq : Int → Int) (zg : Int) (pa : Nat) (ps : Nat) (pn : Int) (pf : Int → Int) (hbq : ∀ i, -1 ≤ fq i ∧ fq i ≤ 999999) (hzg : 0 ≤ zg ∧ zg ≤ 30) (hpn : 0 ≤ pn ∧ pn ≤ 160) : Met l yXB_printLimits (Cond.code yXB_printLimits cXB_printLimits 4 none :: TBL) ({ frames := 2, cells := 0, slots := 0, locals := 43 } : Room) (va_Pc [.ref ba, .int (jI zg), .ref pa] (jBw (dC, dI) [(cA, .int)] [(ba, .inr (0, [.ref bt, .ref bp, .ref bl, .ref bh, .ref bq, .ref br, .ref bd, .int (jI bg), .int (jI bf)])), (bq, .inl (cA, 124, .inl (jA fq))), (pa, .inr (1, [.ref ps, .int (jI pn)])), (ps, .inl (cA, 160, .inl (jA pf)))] sz)) (va_Qv (fun (u : Int × (Int → Int)) => u = f_XB_printLimits bg bf fq zg pn pf) (fun u t => jE (dC, dI) [(cA, .int)] [(ba, .inr (0, [.ref bt, .ref bp, .ref bl, .ref bh, .ref bq, .ref br, .ref bd, .int (jI bg), .int (jI bf)])), (bq, .inl (cA, 124, .inl (jA fq))), (pa, .inr (1, [.ref ps, .int (jI pn)])), (ps, .inl (cA, 160, .inl (jA pf)))] sz [(ba, .inr (0, [.ref bt, .ref bp, .ref bl, .ref bh, .ref bq, .ref br, .ref bd, .int (jI bg), .int (jI bf)])), (bq, .inl (cA, 124, .inl (jA fq))), (pa, .inr (1, [.ref ps, .int (jI u.1)])), (ps, .inl (cA, 160, .inl (jA u.2)))] t) (va_A [(ba, .inr (0, [.ref bt, .ref bp, .ref bl, .ref bh, .ref bq, .ref br, .ref bd, .int (jI bg), .int (jI bf)])), (bq, .inl (cA, 124, .inl (jA fq))), (pa, .inr (1, [.ref ps, .int (jI pn)])), (ps, .inl (cA, 160, .inl (jA pf)))] sz)) 0 0 (va_A [(ba, .inr (0, [.ref bt, .ref bp, .ref bl, .ref bh, .ref bq, .ref br, .ref bd, .int (jI bg), .int (jI bf)])), (bq, .inl (cA, 124, .inl (jA fq))), (pa, .inr (1, [.ref ps, .int (jI pn)])), (ps, .inl (cA, 160, .inl (jA pf)))] sz) := by
  refine jMet (cc := cXB_printLimits) (maxL := 4) (ret := none) (by decide) rfl ?_
  intro p e s m args below meth c s₁ R Q hR hQ B hml hv
  obtain ⟨rfl, hsz, hP, hK, hD0, hN⟩ := hv
  have hx := B.exec
  have hb := B.bytes
  have hr := B.returns
  have hts := atoms_spec (ws := Cond.code yXB_printLimits cXB_printLimits 4 none :: TBL) B.pre
  have hown : s.vm.findClass RXB = some m.cls := findClass_of_methodNamed B.named
  have hlocks := B.notSynchronized
  subst hsz
  obtain ⟨A, hAe⟩ : ∃ A, A = va_A [(ba, .inr (0, [.ref bt, .ref bp, .ref bl, .ref bh, .ref bq, .ref br, .ref bd, .int (jI bg), .int (jI bf)])), (bq, .inl (cA, 124, .inl (jA fq))), (pa, .inr (1, [.ref ps, .int (jI pn)])), (ps, .inl (cA, 160, .inl (jA pf)))] s.heap.size := ⟨_, rfl⟩
  have hD : va_D A [(ba, .inr (0, [.ref bt, .ref bp, .ref bl, .ref bh, .ref bq, .ref br, .ref bd, .int (jI bg), .int (jI bf)])), (bq, .inl (cA, 124, .inl (jA fq))), (pa, .inr (1, [.ref ps, .int (jI pn)])), (ps, .inl (cA, 160, .inl (jA pf)))] := by rw [hAe]; exact hD0.self
  have hA : ∀ q : Nat, s.heap.size ≤ q → A q := fun q h => by rw [hAe]; exact Or.inr h
  have hS : va_S A s.heap s.heap [] := va_S.rf
  have hP : va_P (dC, dI) vwCl [(ba, .inr (0, [.ref bt, .ref bp, .ref bl, .ref bh, .ref bq, .ref br, .ref bd, .int (jI bg), .int (jI bf)])), (bq, .inl (cA, 124, .inl (jA fq))), (pa, .inr (1, [.ref ps, .int (jI pn)])), (ps, .inl (cA, 160, .inl (jA pf)))] s.heap := hP
  have hl := lv_entry ([.ref ba, .int (jI zg), .ref pa]) (n := 4) (Nat.le_of_ble_eq_true rfl)
  rw [lg_entry_eq]
  generalize (lg_sl ([.ref ba, .int (jI zg), .ref pa]) ++ List.replicate (4 - (lg_sl ([.ref ba, .int (jI zg), .ref pa])).length) Slot.unset).toArray = ls at hl ⊢
  have hl : lv_has ls 4 [(0, .ref ba), (1, .int (jI zg)), (2, .ref pa)] := hl
  refine ji_iconst hx hb dXB_printLimits_0 ?_
  refine lv_istore_n (lv' := [(3, .int (jI 0)), (0, .ref ba), (1, .int (jI zg)), (2, .ref pa)]) hx hb dXB_printLimits_1 rfl hl (by decide) rfl (fun ls hl => ?_)
  have loop2 : ∀ (n9 : Nat) (k : Int) (q : Int) (fa : Int → Int) , 4 - k < (n9 : Int) → f_XB_printLimits_L2 bg bf fq zg pn pf n9 k q fa = f_XB_printLimits bg bf fq zg pn pf → (0 ≤ k ∧ k ≤ 4) → (0 ≤ q ∧ q ≤ 160) → ∀ (H : Heap) (locs : List Loc), va_P (dC, dI) vwCl [(ba, .inr (0, [.ref bt, .ref bp, .ref bl, .ref bh, .ref bq, .ref br, .ref bd, .int (jI bg), .int (jI bf)])), (bq, .inl (cA, 124, .inl (jA fq))), (pa, .inr (1, [.ref ps, .int (jI q)])), (ps, .inl (cA, 160, .inl (jA fa)))] H → va_D A [(ba, .inr (0, [.ref bt, .ref bp, .ref bl, .ref bh, .ref bq, .ref br, .ref bd, .int (jI bg), .int (jI bf)])), (bq, .inl (cA, 124, .inl (jA fq))), (pa, .inr (1, [.ref ps, .int (jI q)])), (ps, .inl (cA, 160, .inl (jA fa)))] → va_S A s.heap H locs → ∀ ls : Array Slot, lv_has ls 4 [(3, .int (jI k)), (0, .ref ba), (1, .int (jI zg)), (2, .ref pa)] → W p l e R s m ([.ref ba, .int (jI zg), .ref pa] : List Value).toArray below meth c H locs 0 0 Q (F0 m 2 ls []) := by
    intro n9
    induction n9 with
    | zero =>
      intro k q fa hm hF hk hq
      exact absurd hm (by omega)
    | succ n9 ih2 =>
      intro k q fa hm hF hk hq H locs hP hD hS ls hl
      refine lv_iload_n hx hb dXB_printLimits_2 rfl (lv_at hl 0 rfl) ?_
      refine ji_iconst hx hb dXB_printLimits_3 ?_
      refine ji_icmp_ge (tgt := 56) hx hb dXB_printLimits_4 (by decide) (by omega) (by omega) (fun c4_ => ?_) (fun c4_ => ?_)
      · have hP9 := hP.sub (ws' := [(ba, .inr (0, [.ref bt, .ref bp, .ref bl, .ref bh, .ref bq, .ref br, .ref bd, .int (jI bg), .int (jI bf)])), (bq, .inl (cA, 124, .inl (jA fq))), (pa, .inr (1, [.ref ps, .int (jI q)])), (ps, .inl (cA, 160, .inl (jA fa)))]) [0, 1, 2, 3] rfl
        have hD9 := hD.sub (ws' := [(ba, .inr (0, [.ref bt, .ref bp, .ref bl, .ref bh, .ref bq, .ref br, .ref bd, .int (jI bg), .int (jI bf)])), (bq, .inl (cA, 124, .inl (jA fq))), (pa, .inr (1, [.ref ps, .int (jI q)])), (ps, .inl (cA, 160, .inl (jA fa)))]) [0, 1, 2, 3] (by decide) rfl
        subst hAe
        subst hQ
        exact W.vret hx hb hr (fun t ht hW => ⟨⟨(q, fa), rfl, Eq.trans (by rw [f_XB_printLimits_L2_s]; rw [if_neg (Int.not_lt.mpr c4_)]; try rfl) hF, ⟨by rw [ht]; exact hP9, va_K.moved hW.alike hK, hD9⟩⟩, hS.F ht⟩) hS.2.2 dXB_printLimits_56
      · refine lv_aload_n hx hb dXB_printLimits_7 rfl (lv_at hl 1 rfl) ?_
        refine lv_iload_n hx hb dXB_printLimits_8 rfl (lv_at hl 2 rfl) ?_
        refine lv_iload_n hx hb dXB_printLimits_9 rfl (lv_at hl 0 rfl) ?_
        refine jrVi (rest := []) ⟨hx, hb, hml, hown, hts⟩ (c_XB_tellsLimit l dC dI cA ba bt bp bl bh bq br bd bg bf fq zg k (by first | assumption | omega) (by first | assumption | omega) (by first | assumption | omega)) (cwV 2 hts (jG_V tw_454 tw_261 tw_262 tw_5 tw_263) rfl rfl rfl (by decide +kernel) (by rw [hR]; exact ⟨Nat.le_of_ble_eq_true rfl, Nat.le_of_ble_eq_true rfl⟩)) hK hP hN [0, 1] rfl 0 0 rfl rfl rfl rfl hl.1 rfl (Nat.le_of_ble_eq_true rfl) dXB_printLimits_10 (by rw [hR]; exact ⟨Nat.le_of_ble_eq_true rfl, Nat.le_of_ble_eq_true rfl⟩) ?_
        have f := f_XB_tellsLimit_b bg bf fq zg k (by first | assumption | omega) (by first | assumption | omega) (by first | assumption | omega)
        have f1 := f_XB_tellsLimit_c bg bf fq zg k (by first | assumption | omega) (by first | assumption | omega) (by first | assumption | omega)
        refine ji_if_eq (tgt := 50) hx hb dXB_printLimits_13 (by decide) (by omega) (fun c13_ => ?_) (fun c13_ => ?_)
        · refine ji_iinc (k := 0) (lv' := [(3, .int (jI (k + 1))), (0, .ref ba), (1, .int (jI zg)), (2, .ref pa)]) hx hb dXB_printLimits_50 hl rfl (by decide) rfl (fun ls hl => ?_)
          refine lv_goto (tgt := 2) hx hb dXB_printLimits_53 (by decide) ?_
          exact ih2 (k + 1) q fa (by omega) (Eq.trans (by rw [f_XB_printLimits_L2_s]; rw [if_pos c4_, if_pos c13_]; try rfl) hF) (by first | assumption | omega) (by first | assumption | omega) _ _ hP hD hS ls (lv_sub hl [0, 1, 2, 3] rfl)
        · refine lv_aload_n hx hb dXB_printLimits_16 rfl (lv_at hl 3 rfl) ?_
          refine ji_bipush hx hb dXB_printLimits_17 (by decide) ?_
          refine jwVv (rest := []) (wr := [(ba, .inr (0, [.ref bt, .ref bp, .ref bl, .ref bh, .ref bq, .ref br, .ref bd, .int (jI bg), .int (jI bf)])), (bq, .inl (cA, 124, .inl (jA fq)))]) ⟨hx, hb, hml, hown, hts⟩ (c_XP_put l dC dI cA _ pa ps q fa 113 (by first | assumption | omega)) (cwV 1 hts (jG_V tw_585 tw_586 tw_587 tw_4 tw_588) rfl rfl rfl (by decide +kernel) (by rw [hR]; exact ⟨Nat.le_of_ble_eq_true rfl, Nat.le_of_ble_eq_true rfl⟩)) hK hP hD hS hA hN [2, 3] [0, 1] rfl rfl (by decide) (by decide) (by decide) 2 1 rfl rfl rfl rfl hl.1 rfl (Nat.le_of_ble_eq_true rfl) dXB_printLimits_19 (by rw [hR]; exact ⟨Nat.le_of_ble_eq_true rfl, Nat.le_of_ble_eq_true rfl⟩) (fun u H locs hwb hP hD hS => ?_)
          obtain ⟨pn1', pf1'⟩ := u
          try dsimp only at hwb
          have hP : va_P (dC, dI) vwCl [(ba, .inr (0, [.ref bt, .ref bp, .ref bl, .ref bh, .ref bq, .ref br, .ref bd, .int (jI bg), .int (jI bf)])), (bq, .inl (cA, 124, .inl (jA fq))), (pa, .inr (1, [.ref ps, .int (jI pn1')])), (ps, .inl (cA, 160, .inl (jA pf1')))] H := hP
          have hD : va_D A [(ba, .inr (0, [.ref bt, .ref bp, .ref bl, .ref bh, .ref bq, .ref br, .ref bd, .int (jI bg), .int (jI bf)])), (bq, .inl (cA, 124, .inl (jA fq))), (pa, .inr (1, [.ref ps, .int (jI pn1')])), (ps, .inl (cA, 160, .inl (jA pf1')))] := hD
          have f2 := f_XP_put_b q fa 113 (by first | assumption | omega)
          rw [← hwb] at f2; try dsimp only at f2
          refine lv_aload_n hx hb dXB_printLimits_22 rfl (lv_at hl 3 rfl) ?_
          refine ji_bipush hx hb dXB_printLimits_23 (by decide) ?_
          refine lv_iload_n hx hb dXB_printLimits_25 rfl (lv_at hl 0 rfl) ?_
          refine ji_iadd hx hb dXB_printLimits_26 ?_
          refine jwVv (rest := []) (wr := [(ba, .inr (0, [.ref bt, .ref bp, .ref bl, .ref bh, .ref bq, .ref br, .ref bd, .int (jI bg), .int (jI bf)])), (bq, .inl (cA, 124, .inl (jA fq)))]) ⟨hx, hb, hml, hown, hts⟩ (c_XP_put l dC dI cA _ pa ps pn1' pf1' (48 + k) (by first | assumption | omega)) (cwV 1 hts (jG_V tw_585 tw_586 tw_587 tw_4 tw_588) rfl rfl rfl (by decide +kernel) (by rw [hR]; exact ⟨Nat.le_of_ble_eq_true rfl, Nat.le_of_ble_eq_true rfl⟩)) hK hP hD hS hA hN [2, 3] [0, 1] rfl rfl (by decide) (by decide) (by decide) 2 1 rfl rfl rfl rfl hl.1 rfl (Nat.le_of_ble_eq_true rfl) dXB_printLimits_27 (by rw [hR]; exact ⟨Nat.le_of_ble_eq_true rfl, Nat.le_of_ble_eq_true rfl⟩) (fun u5 H locs hwb6 hP hD hS => ?_)
          obtain ⟨pn1'3, pf1'4⟩ := u5
          try dsimp only at hwb6
          have hP : va_P (dC, dI) vwCl [(ba, .inr (0, [.ref bt, .ref bp, .ref bl, .ref bh, .ref bq, .ref br, .ref bd, .int (jI bg), .int (jI bf)])), (bq, .inl (cA, 124, .inl (jA fq))), (pa, .inr (1, [.ref ps, .int (jI pn1'3)])), (ps, .inl (cA, 160, .inl (jA pf1'4)))] H := hP
          have hD : va_D A [(ba, .inr (0, [.ref bt, .ref bp, .ref bl, .ref bh, .ref bq, .ref br, .ref bd, .int (jI bg), .int (jI bf)])), (bq, .inl (cA, 124, .inl (jA fq))), (pa, .inr (1, [.ref ps, .int (jI pn1'3)])), (ps, .inl (cA, 160, .inl (jA pf1'4)))] := hD
          have f7 := f_XP_put_b pn1' pf1' (48 + k) (by first | assumption | omega)
          rw [← hwb6] at f7; try dsimp only at f7
          refine lv_aload_n hx hb dXB_printLimits_30 rfl (lv_at hl 3 rfl) ?_
          refine ji_bipush hx hb dXB_printLimits_31 (by decide) ?_
          refine jwVv (rest := []) (wr := [(ba, .inr (0, [.ref bt, .ref bp, .ref bl, .ref bh, .ref bq, .ref br, .ref bd, .int (jI bg), .int (jI bf)])), (bq, .inl (cA, 124, .inl (jA fq)))]) ⟨hx, hb, hml, hown, hts⟩ (c_XP_put l dC dI cA _ pa ps pn1'3 pf1'4 60 (by first | assumption | omega)) (cwV 1 hts (jG_V tw_585 tw_586 tw_587 tw_4 tw_588) rfl rfl rfl (by decide +kernel) (by rw [hR]; exact ⟨Nat.le_of_ble_eq_true rfl, Nat.le_of_ble_eq_true rfl⟩)) hK hP hD hS hA hN [2, 3] [0, 1] rfl rfl (by decide) (by decide) (by decide) 2 1 rfl rfl rfl rfl hl.1 rfl (Nat.le_of_ble_eq_true rfl) dXB_printLimits_33 (by rw [hR]; exact ⟨Nat.le_of_ble_eq_true rfl, Nat.le_of_ble_eq_true rfl⟩) (fun u10 H locs hwb11 hP hD hS => ?_)
          obtain ⟨pn1'8, pf1'9⟩ := u10
          try dsimp only at hwb11
          have hP : va_P (dC, dI) vwCl [(ba, .inr (0, [.ref bt, .ref bp, .ref bl, .ref bh, .ref bq, .ref br, .ref bd, .int (jI bg), .int (jI bf)])), (bq, .inl (cA, 124, .inl (jA fq))), (pa, .inr (1, [.ref ps, .int (jI pn1'8)])), (ps, .inl (cA, 160, .inl (jA pf1'9)))] H := hP
          have hD : va_D A [(ba, .inr (0, [.ref bt, .ref bp, .ref bl, .ref bh, .ref bq, .ref br, .ref bd, .int (jI bg), .int (jI bf)])), (bq, .inl (cA, 124, .inl (jA fq))), (pa, .inr (1, [.ref ps, .int (jI pn1'8)])), (ps, .inl (cA, 160, .inl (jA pf1'9)))] := hD
          have f12 := f_XP_put_b pn1'3 pf1'4 60 (by first | assumption | omega)
          rw [← hwb11] at f12; try dsimp only at f12
          refine lv_aload_n hx hb dXB_printLimits_36 rfl (lv_at hl 3 rfl) ?_
          refine lv_aload_n hx hb dXB_printLimits_37 rfl (lv_at hl 1 rfl) ?_
          refine va_get (D := (dC, dI)) (ci := 0) (v := .ref bq) (C := RXB) (T := TXB) (N := 9) hx hb hts (fun w h => jmem (inXB w h)) hown hK hP 0 rfl rfl 4 (by decide) (hts _ (jmem tw_77)) (fun _ h9 => h9) rfl dXB_printLimits_38 ?_
          refine lv_iload_n hx hb dXB_printLimits_41 rfl (lv_at hl 2 rfl) ?_
          refine ji_iconst hx hb dXB_printLimits_42 ?_
          refine ji_imul hx hb dXB_printLimits_43 ?_
          refine lv_iload_n hx hb dXB_printLimits_44 rfl (lv_at hl 0 rfl) ?_
          refine ji_iadd hx hb dXB_printLimits_45 ?_
          refine ji_iald hx hb hK hP 1 0 rfl rfl ⟨by omega, by omega⟩ (by decide) dXB_printLimits_46 ?_
          have rb := hbq ((zg * 4) + k)
          refine jwVv (rest := []) (wr := [(ba, .inr (0, [.ref bt, .ref bp, .ref bl, .ref bh, .ref bq, .ref br, .ref bd, .int (jI bg), .int (jI bf)])), (bq, .inl (cA, 124, .inl (jA fq)))]) ⟨hx, hb, hml, hown, hts⟩ (c_XP_putNumber l dC dI cA _ pa ps pn1'8 pf1'9 (fq ((zg * 4) + k)) (by first | assumption | omega) (by first | assumption | omega)) (cwV 1 hts (jG_V tw_589 tw_590 tw_591 tw_4 tw_592) rfl rfl rfl (by decide +kernel) (by rw [hR]; exact ⟨Nat.le_of_ble_eq_true rfl, Nat.le_of_ble_eq_true rfl⟩)) hK hP hD hS hA hN [2, 3] [0, 1] rfl rfl (by decide) (by decide) (by decide) 2 1 rfl rfl rfl rfl hl.1 rfl (Nat.le_of_ble_eq_true rfl) dXB_printLimits_47 (by rw [hR]; exact ⟨Nat.le_of_ble_eq_true rfl, Nat.le_of_ble_eq_true rfl⟩) (fun u15 H locs hwb16 hP hD hS => ?_)
          obtain ⟨pn1'13, pf1'14⟩ := u15
          try dsimp only at hwb16
          have hP : va_P (dC, dI) vwCl [(ba, .inr (0, [.ref bt, .ref bp, .ref bl, .ref bh, .ref bq, .ref br, .ref bd, .int (jI bg), .int (jI bf)])), (bq, .inl (cA, 124, .inl (jA fq))), (pa, .inr (1, [.ref ps, .int (jI pn1'13)])), (ps, .inl (cA, 160, .inl (jA pf1'14)))] H := hP
          have hD : va_D A [(ba, .inr (0, [.ref bt, .ref bp, .ref bl, .ref bh, .ref bq, .ref br, .ref bd, .int (jI bg), .int (jI bf)])), (bq, .inl (cA, 124, .inl (jA fq))), (pa, .inr (1, [.ref ps, .int (jI pn1'13)])), (ps, .inl (cA, 160, .inl (jA pf1'14)))] := hD
          have f17 := f_XP_putNumber_b pn1'8 pf1'9 (fq ((zg * 4) + k)) (by first | assumption | omega) (by first | assumption | omega)
          rw [← hwb16] at f17; try dsimp only at f17
          refine ji_iinc (k := 0) (lv' := [(3, .int (jI (k + 1))), (0, .ref ba), (1, .int (jI zg)), (2, .ref pa)]) hx hb dXB_printLimits_50 hl rfl (by decide) rfl (fun ls hl => ?_)
          refine lv_goto (tgt := 2) hx hb dXB_printLimits_53 (by decide) ?_
          exact ih2 (k + 1) pn1'13 pf1'14 (by omega) (Eq.trans (by rw [f_XB_printLimits_L2_s]; rw [if_pos c4_, if_neg c13_]; rw [← hwb]; try dsimp only; rw [← hwb6]; try dsimp only; rw [← hwb11]; try dsimp only; rw [← hwb16]; try dsimp only; try rfl) hF) (by first | assumption | omega) (by first | assumption | omega) _ _ hP hD hS ls (lv_sub hl [0, 1, 2, 3] rfl)
  exact loop2 (Int.toNat (4 - 0) + 1) 0 pn pf (by omega) (Eq.trans (by rw [f_XB_printLimits_s]; try rfl) rfl) (by first | assumption | omega) (by first | assumption | omega) _ _ hP hD hS ls (lv_sub hl [0, 1, 2, 3] rfl)
noncomputable def g_XB_printRow (bg : Int) (bf : Int) (ft : Int → Int) (fl : Int → Int) (fh : Int → Int) (fq : Int → Int) (fr : Int → Int) (zg : Int) (pn : Int) (pf : Int → Int) : Int × (Int → Int) :=
  match f_XP_put pn pf 103 with
  | (pn1', pf1') =>
    match f_XP_putNumber pn1' pf1' zg with
    | (pn1'1, pf1'2) =>
      if 0 < (ft zg) then
        match f_XP_put pn1'1 pf1'2 60 with
        | (pn1'26, pf1'27) =>
          match f_XP_putNumber pn1'26 pf1'27 (ft zg) with
          | (pn1'32, pf1'33) =>
            match f_XB_printSpans bg bf fl fh zg pn1'32 pf1'33 with
            | (pn1'37, pf1'38) =>
              match f_XB_printRoutes bg bf fr zg pn1'37 pf1'38 with
              | (pn1'42, pf1'43) =>
                match f_XB_printLimits bg bf fq zg pn1'42 pf1'43 with
                | (pn1'47, pf1'48) =>
                  match f_XP_put pn1'47 pf1'48 59 with
                  | (pn1'52, pf1'53) =>
                    (pn1'52, pf1'53)
      else
        match f_XB_printSpans bg bf fl fh zg pn1'1 pf1'2 with
        | (pn1'6, pf1'7) =>
          match f_XB_printRoutes bg bf fr zg pn1'6 pf1'7 with
          | (pn1'11, pf1'12) =>
            match f_XB_printLimits bg bf fq zg pn1'11 pf1'12 with
            | (pn1'16, pf1'17) =>
              match f_XP_put pn1'16 pf1'17 59 with
              | (pn1'21, pf1'22) =>
                (pn1'21, pf1'22)
noncomputable def f_XB_printRow : Int → Int → (Int → Int) → (Int → Int) → (Int → Int) → (Int → Int) → (Int → Int) → Int → Int → (Int → Int) → Int × (Int → Int) := jopq g_XB_printRow
theorem f_XB_printRow_q : f_XB_printRow = g_XB_printRow := jopq_eq _
theorem f_XB_printRow_s (bg : Int) (bf : Int) (ft : Int → Int) (fl : Int → Int) (fh : Int → Int) (fq : Int → Int) (fr : Int → Int) (zg : Int) (pn : Int) (pf : Int → Int) : f_XB_printRow bg bf ft fl fh fq fr zg pn pf = (
    match f_XP_put pn pf 103 with
    | (pn1', pf1') =>
      match f_XP_putNumber pn1' pf1' zg with
      | (pn1'1, pf1'2) =>
        if 0 < (ft zg) then
          match f_XP_put pn1'1 pf1'2 60 with
          | (pn1'26, pf1'27) =>
            match f_XP_putNumber pn1'26 pf1'27 (ft zg) with
            | (pn1'32, pf1'33) =>
              match f_XB_printSpans bg bf fl fh zg pn1'32 pf1'33 with
              | (pn1'37, pf1'38) =>
                match f_XB_printRoutes bg bf fr zg pn1'37 pf1'38 with
                | (pn1'42, pf1'43) =>
                  match f_XB_printLimits bg bf fq zg pn1'42 pf1'43 with
                  | (pn1'47, pf1'48) =>
                    match f_XP_put pn1'47 pf1'48 59 with
                    | (pn1'52, pf1'53) =>
                      (pn1'52, pf1'53)
        else
          match f_XB_printSpans bg bf fl fh zg pn1'1 pf1'2 with
          | (pn1'6, pf1'7) =>
            match f_XB_printRoutes bg bf fr zg pn1'6 pf1'7 with
            | (pn1'11, pf1'12) =>
              match f_XB_printLimits bg bf fq zg pn1'11 pf1'12 with
              | (pn1'16, pf1'17) =>
                match f_XP_put pn1'16 pf1'17 59 with
                | (pn1'21, pf1'22) =>
                  (pn1'21, pf1'22)
  : Int × (Int → Int)) := by rw [f_XB_printRow_q]; rfl
theorem f_XB_printRow_b (bg : Int) (bf : Int) (ft : Int → Int) (fl : Int → Int) (fh : Int → Int) (fq : Int → Int) (fr : Int → Int) (zg : Int) (pn : Int) (pf : Int → Int) (hbt : ∀ i, 0 ≤ ft i ∧ ft i ≤ 30) (hbl : ∀ i, 0 ≤ fl i ∧ fl i ≤ 100000) (hbh : ∀ i, -1 ≤ fh i ∧ fh i ≤ 100000) (hbq : ∀ i, -1 ≤ fq i ∧ fq i ≤ 999999) (hbr : ∀ i, 0 ≤ fr i ∧ fr i < 2147483648) (hzg : 0 ≤ zg ∧ zg ≤ 30) (hpn : 0 ≤ pn ∧ pn ≤ 160) : 0 ≤ (f_XB_printRow bg bf ft fl fh fq fr zg pn pf).1 ∧ (f_XB_printRow bg bf ft fl fh fq fr zg pn pf).1 ≤ 160 := by
  have ht := hbt zg
  rw [f_XB_printRow_s]
  simp only []
  split
  · exact f_XP_put_b _ _ _ (f_XB_printLimits_b _ _ _ _ _ _ hbq hzg (f_XB_printRoutes_b _ _ _ _ _ _ hbr hzg (f_XB_printSpans_b _ _ _ _ _ _ _ hbl hbh hzg (f_XP_putNumber_b _ _ _ (f_XP_put_b _ _ _ (f_XP_putNumber_b _ _ _ (f_XP_put_b _ _ _ hpn) (by omega))) (by omega)))))
  · exact f_XP_put_b _ _ _ (f_XB_printLimits_b _ _ _ _ _ _ hbq hzg (f_XB_printRoutes_b _ _ _ _ _ _ hbr hzg (f_XB_printSpans_b _ _ _ _ _ _ _ hbl hbh hzg (f_XP_putNumber_b _ _ _ (f_XP_put_b _ _ _ hpn) (by omega)))))
set_option maxHeartbeats 4000000 in
set_option maxRecDepth 100000 in
theorem c_XB_printRow (l : Launch) (dC : Nat → ClassId) (dI : Nat → Nat → Nat) (cA : ClassId) (sz : Nat) (ba : Nat) (bt : Nat) (bp : Nat) (bl : Nat) (bh : Nat) (bq : Nat) (br : Nat) (bd : Nat) (bg : Int) (bf : Int) (ft : Int → Int) (fl : Int → Int) (fh : Int → Int) (fq : Int → Int) (fr : Int → Int) (zg : Int) (pa : Nat) (ps : Nat) (pn : Int) (pf : Int → Int) (hbt : ∀ i, 0 ≤ ft i ∧ ft i ≤ 30) (hbl : ∀ i, 0 ≤ fl i ∧ fl i ≤ 100000) (hbh : ∀ i, -1 ≤ fh i ∧ fh i ≤ 100000) (hbq : ∀ i, -1 ≤ fq i ∧ fq i ≤ 999999) (hbr : ∀ i, 0 ≤ fr i ∧ fr i < 2147483648) (hzg : 0 ≤ zg ∧ zg ≤ 30) (hpn : 0 ≤ pn ∧ pn ≤ 160) : Met l yXB_printRow (Cond.code yXB_printRow cXB_printRow 3 none :: TBL) ({ frames := 3, cells := 0, slots := 0, locals := 66 } : Room) (va_Pc [.ref ba, .int (jI zg), .ref pa] (jBw (dC, dI) [(cA, .int)] [(ba, .inr (0, [.ref bt, .ref bp, .ref bl, .ref bh, .ref bq, .ref br, .ref bd, .int (jI bg), .int (jI bf)])), (bt, .inl (cA, 31, .inl (jA ft))), (bl, .inl (cA, 248, .inl (jA fl))), (bh, .inl (cA, 248, .inl (jA fh))), (bq, .inl (cA, 124, .inl (jA fq))), (br, .inl (cA, 31, .inl (jA fr))), (pa, .inr (1, [.ref ps, .int (jI pn)])), (ps, .inl (cA, 160, .inl (jA pf)))] sz)) (va_Qv (fun (u : Int × (Int → Int)) => u = f_XB_printRow bg bf ft fl fh fq fr zg pn pf) (fun u t => jE (dC, dI) [(cA, .int)] [(ba, .inr (0, [.ref bt, .ref bp, .ref bl, .ref bh, .ref bq, .ref br, .ref bd, .int (jI bg), .int (jI bf)])), (bt, .inl (cA, 31, .inl (jA ft))), (bl, .inl (cA, 248, .inl (jA fl))), (bh, .inl (cA, 248, .inl (jA fh))), (bq, .inl (cA, 124, .inl (jA fq))), (br, .inl (cA, 31, .inl (jA fr))), (pa, .inr (1, [.ref ps, .int (jI pn)])), (ps, .inl (cA, 160, .inl (jA pf)))] sz [(ba, .inr (0, [.ref bt, .ref bp, .ref bl, .ref bh, .ref bq, .ref br, .ref bd, .int (jI bg), .int (jI bf)])), (bt, .inl (cA, 31, .inl (jA ft))), (bl, .inl (cA, 248, .inl (jA fl))), (bh, .inl (cA, 248, .inl (jA fh))), (bq, .inl (cA, 124, .inl (jA fq))), (br, .inl (cA, 31, .inl (jA fr))), (pa, .inr (1, [.ref ps, .int (jI u.1)])), (ps, .inl (cA, 160, .inl (jA u.2)))] t) (va_A [(ba, .inr (0, [.ref bt, .ref bp, .ref bl, .ref bh, .ref bq, .ref br, .ref bd, .int (jI bg), .int (jI bf)])), (bt, .inl (cA, 31, .inl (jA ft))), (bl, .inl (cA, 248, .inl (jA fl))), (bh, .inl (cA, 248, .inl (jA fh))), (bq, .inl (cA, 124, .inl (jA fq))), (br, .inl (cA, 31, .inl (jA fr))), (pa, .inr (1, [.ref ps, .int (jI pn)])), (ps, .inl (cA, 160, .inl (jA pf)))] sz)) 0 0 (va_A [(ba, .inr (0, [.ref bt, .ref bp, .ref bl, .ref bh, .ref bq, .ref br, .ref bd, .int (jI bg), .int (jI bf)])), (bt, .inl (cA, 31, .inl (jA ft))), (bl, .inl (cA, 248, .inl (jA fl))), (bh, .inl (cA, 248, .inl (jA fh))), (bq, .inl (cA, 124, .inl (jA fq))), (br, .inl (cA, 31, .inl (jA fr))), (pa, .inr (1, [.ref ps, .int (jI pn)])), (ps, .inl (cA, 160, .inl (jA pf)))] sz) := by
  refine jMet (cc := cXB_printRow) (maxL := 3) (ret := none) (by decide) rfl ?_
  intro p e s m args below meth c s₁ R Q hR hQ B hml hv
  obtain ⟨rfl, hsz, hP, hK, hD0, hN⟩ := hv
  have hx := B.exec
  have hb := B.bytes
  have hr := B.returns
  have hts := atoms_spec (ws := Cond.code yXB_printRow cXB_printRow 3 none :: TBL) B.pre
  have hown : s.vm.findClass RXB = some m.cls := findClass_of_methodNamed B.named
  have hlocks := B.notSynchronized
  subst hsz
  obtain ⟨A, hAe⟩ : ∃ A, A = va_A [(ba, .inr (0, [.ref bt, .ref bp, .ref bl, .ref bh, .ref bq, .ref br, .ref bd, .int (jI bg), .int (jI bf)])), (bt, .inl (cA, 31, .inl (jA ft))), (bl, .inl (cA, 248, .inl (jA fl))), (bh, .inl (cA, 248, .inl (jA fh))), (bq, .inl (cA, 124, .inl (jA fq))), (br, .inl (cA, 31, .inl (jA fr))), (pa, .inr (1, [.ref ps, .int (jI pn)])), (ps, .inl (cA, 160, .inl (jA pf)))] s.heap.size := ⟨_, rfl⟩
  have hD : va_D A [(ba, .inr (0, [.ref bt, .ref bp, .ref bl, .ref bh, .ref bq, .ref br, .ref bd, .int (jI bg), .int (jI bf)])), (bt, .inl (cA, 31, .inl (jA ft))), (bl, .inl (cA, 248, .inl (jA fl))), (bh, .inl (cA, 248, .inl (jA fh))), (bq, .inl (cA, 124, .inl (jA fq))), (br, .inl (cA, 31, .inl (jA fr))), (pa, .inr (1, [.ref ps, .int (jI pn)])), (ps, .inl (cA, 160, .inl (jA pf)))] := by rw [hAe]; exact hD0.self
  have hA : ∀ q : Nat, s.heap.size ≤ q → A q := fun q h => by rw [hAe]; exact Or.inr h
  have hS : va_S A s.heap s.heap [] := va_S.rf
  have hP : va_P (dC, dI) vwCl [(ba, .inr (0, [.ref bt, .ref bp, .ref bl, .ref bh, .ref bq, .ref br, .ref bd, .int (jI bg), .int (jI bf)])), (bt, .inl (cA, 31, .inl (jA ft))), (bl, .inl (cA, 248, .inl (jA fl))), (bh, .inl (cA, 248, .inl (jA fh))), (bq, .inl (cA, 124, .inl (jA fq))), (br, .inl (cA, 31, .inl (jA fr))), (pa, .inr (1, [.ref ps, .int (jI pn)])), (ps, .inl (cA, 160, .inl (jA pf)))] s.heap := hP
  have hl := lv_entry ([.ref ba, .int (jI zg), .ref pa]) (n := 3) (Nat.le_of_ble_eq_true rfl)
  rw [lg_entry_eq]
  generalize (lg_sl ([.ref ba, .int (jI zg), .ref pa]) ++ List.replicate (3 - (lg_sl ([.ref ba, .int (jI zg), .ref pa])).length) Slot.unset).toArray = ls at hl ⊢
  have hl : lv_has ls 3 [(0, .ref ba), (1, .int (jI zg)), (2, .ref pa)] := hl
  refine lv_aload_n hx hb dXB_printRow_0 rfl (lv_at hl 2 rfl) ?_
  refine ji_bipush hx hb dXB_printRow_1 (by decide) ?_
  refine jwVv (rest := []) (wr := [(ba, .inr (0, [.ref bt, .ref bp, .ref bl, .ref bh, .ref bq, .ref br, .ref bd, .int (jI bg), .int (jI bf)])), (bt, .inl (cA, 31, .inl (jA ft))), (bl, .inl (cA, 248, .inl (jA fl))), (bh, .inl (cA, 248, .inl (jA fh))), (bq, .inl (cA, 124, .inl (jA fq))), (br, .inl (cA, 31, .inl (jA fr)))]) ⟨hx, hb, hml, hown, hts⟩ (c_XP_put l dC dI cA _ pa ps pn pf 103 (by first | assumption | omega)) (cwV 1 hts (jG_V tw_585 tw_586 tw_587 tw_4 tw_588) rfl rfl rfl (by decide +kernel) (by rw [hR]; exact ⟨Nat.le_of_ble_eq_true rfl, Nat.le_of_ble_eq_true rfl⟩)) hK hP hD hS hA hN [6, 7] [0, 1, 2, 3, 4, 5] rfl rfl (by decide) (by decide) (by decide) 6 1 rfl rfl rfl rfl hl.1 rfl (Nat.le_of_ble_eq_true rfl) dXB_printRow_3 (by rw [hR]; exact ⟨Nat.le_of_ble_eq_true rfl, Nat.le_of_ble_eq_true rfl⟩) (fun u H locs hwb hP hD hS => ?_)
  obtain ⟨pn1', pf1'⟩ := u
  try dsimp only at hwb
  have hP : va_P (dC, dI) vwCl [(ba, .inr (0, [.ref bt, .ref bp, .ref bl, .ref bh, .ref bq, .ref br, .ref bd, .int (jI bg), .int (jI bf)])), (bt, .inl (cA, 31, .inl (jA ft))), (bl, .inl (cA, 248, .inl (jA fl))), (bh, .inl (cA, 248, .inl (jA fh))), (bq, .inl (cA, 124, .inl (jA fq))), (br, .inl (cA, 31, .inl (jA fr))), (pa, .inr (1, [.ref ps, .int (jI pn1')])), (ps, .inl (cA, 160, .inl (jA pf1')))] H := hP
  have hD : va_D A [(ba, .inr (0, [.ref bt, .ref bp, .ref bl, .ref bh, .ref bq, .ref br, .ref bd, .int (jI bg), .int (jI bf)])), (bt, .inl (cA, 31, .inl (jA ft))), (bl, .inl (cA, 248, .inl (jA fl))), (bh, .inl (cA, 248, .inl (jA fh))), (bq, .inl (cA, 124, .inl (jA fq))), (br, .inl (cA, 31, .inl (jA fr))), (pa, .inr (1, [.ref ps, .int (jI pn1')])), (ps, .inl (cA, 160, .inl (jA pf1')))] := hD
  have f := f_XP_put_b pn pf 103 (by first | assumption | omega)
  rw [← hwb] at f; try dsimp only at f
  refine lv_aload_n hx hb dXB_printRow_6 rfl (lv_at hl 2 rfl) ?_
  refine lv_iload_n hx hb dXB_printRow_7 rfl (lv_at hl 1 rfl) ?_
  refine jwVv (rest := []) (wr := [(ba, .inr (0, [.ref bt, .ref bp, .ref bl, .ref bh, .ref bq, .ref br, .ref bd, .int (jI bg), .int (jI bf)])), (bt, .inl (cA, 31, .inl (jA ft))), (bl, .inl (cA, 248, .inl (jA fl))), (bh, .inl (cA, 248, .inl (jA fh))), (bq, .inl (cA, 124, .inl (jA fq))), (br, .inl (cA, 31, .inl (jA fr)))]) ⟨hx, hb, hml, hown, hts⟩ (c_XP_putNumber l dC dI cA _ pa ps pn1' pf1' zg (by first | assumption | omega) (by first | assumption | omega)) (cwV 1 hts (jG_V tw_589 tw_590 tw_591 tw_4 tw_592) rfl rfl rfl (by decide +kernel) (by rw [hR]; exact ⟨Nat.le_of_ble_eq_true rfl, Nat.le_of_ble_eq_true rfl⟩)) hK hP hD hS hA hN [6, 7] [0, 1, 2, 3, 4, 5] rfl rfl (by decide) (by decide) (by decide) 6 1 rfl rfl rfl rfl hl.1 rfl (Nat.le_of_ble_eq_true rfl) dXB_printRow_8 (by rw [hR]; exact ⟨Nat.le_of_ble_eq_true rfl, Nat.le_of_ble_eq_true rfl⟩) (fun u3 H locs hwb4 hP hD hS => ?_)
  obtain ⟨pn1'1, pf1'2⟩ := u3
  try dsimp only at hwb4
  have hP : va_P (dC, dI) vwCl [(ba, .inr (0, [.ref bt, .ref bp, .ref bl, .ref bh, .ref bq, .ref br, .ref bd, .int (jI bg), .int (jI bf)])), (bt, .inl (cA, 31, .inl (jA ft))), (bl, .inl (cA, 248, .inl (jA fl))), (bh, .inl (cA, 248, .inl (jA fh))), (bq, .inl (cA, 124, .inl (jA fq))), (br, .inl (cA, 31, .inl (jA fr))), (pa, .inr (1, [.ref ps, .int (jI pn1'1)])), (ps, .inl (cA, 160, .inl (jA pf1'2)))] H := hP
  have hD : va_D A [(ba, .inr (0, [.ref bt, .ref bp, .ref bl, .ref bh, .ref bq, .ref br, .ref bd, .int (jI bg), .int (jI bf)])), (bt, .inl (cA, 31, .inl (jA ft))), (bl, .inl (cA, 248, .inl (jA fl))), (bh, .inl (cA, 248, .inl (jA fh))), (bq, .inl (cA, 124, .inl (jA fq))), (br, .inl (cA, 31, .inl (jA fr))), (pa, .inr (1, [.ref ps, .int (jI pn1'1)])), (ps, .inl (cA, 160, .inl (jA pf1'2)))] := hD
  have f5 := f_XP_putNumber_b pn1' pf1' zg (by first | assumption | omega) (by first | assumption | omega)
  rw [← hwb4] at f5; try dsimp only at f5
  refine lv_aload_n hx hb dXB_printRow_11 rfl (lv_at hl 0 rfl) ?_
  refine va_get (D := (dC, dI)) (ci := 0) (v := .ref bt) (C := RXB) (T := TXB) (N := 9) hx hb hts (fun w h => jmem (inXB w h)) hown hK hP 0 rfl rfl 0 (by decide) (hts _ (jmem tw_73)) (fun _ h9 => h9) rfl dXB_printRow_12 ?_
  refine lv_iload_n hx hb dXB_printRow_15 rfl (lv_at hl 1 rfl) ?_
  refine ji_iald hx hb hK hP 1 0 rfl rfl ⟨by omega, by omega⟩ (by decide) dXB_printRow_16 ?_
  have rb := hbt zg
  refine ji_if_le (tgt := 36) hx hb dXB_printRow_17 (by decide) (by omega) (fun c17_ => ?_) (fun c17_ => ?_)
  · refine lv_aload_n hx hb dXB_printRow_36 rfl (lv_at hl 0 rfl) ?_
    refine lv_iload_n hx hb dXB_printRow_37 rfl (lv_at hl 1 rfl) ?_
    refine lv_aload_n hx hb dXB_printRow_38 rfl (lv_at hl 2 rfl) ?_
    refine jwVv (rest := []) (wr := [(bt, .inl (cA, 31, .inl (jA ft))), (bq, .inl (cA, 124, .inl (jA fq))), (br, .inl (cA, 31, .inl (jA fr)))]) ⟨hx, hb, hml, hown, hts⟩ (c_XB_printSpans l dC dI cA _ ba bt bp bl bh bq br bd bg bf fl fh zg pa ps pn1'1 pf1'2 (by first | assumption | omega) (by first | assumption | omega) (by first | assumption | omega) (by first | assumption | omega)) (cwV 2 hts (jG_V tw_595 tw_597 ts_11 tw_5 tw_598) rfl rfl rfl (by decide +kernel) (by rw [hR]; exact ⟨Nat.le_of_ble_eq_true rfl, Nat.le_of_ble_eq_true rfl⟩)) hK hP hD hS hA hN [0, 2, 3, 6, 7] [1, 4, 5] rfl rfl (by decide) (by decide) (by decide) 0 0 rfl rfl rfl rfl hl.1 rfl (Nat.le_of_ble_eq_true rfl) dXB_printRow_39 (by rw [hR]; exact ⟨Nat.le_of_ble_eq_true rfl, Nat.le_of_ble_eq_true rfl⟩) (fun u8 H locs hwb9 hP hD hS => ?_)
    obtain ⟨pn1'6, pf1'7⟩ := u8
    try dsimp only at hwb9
    have hP : va_P (dC, dI) vwCl [(bt, .inl (cA, 31, .inl (jA ft))), (bq, .inl (cA, 124, .inl (jA fq))), (br, .inl (cA, 31, .inl (jA fr))), (ba, .inr (0, [.ref bt, .ref bp, .ref bl, .ref bh, .ref bq, .ref br, .ref bd, .int (jI bg), .int (jI bf)])), (bl, .inl (cA, 248, .inl (jA fl))), (bh, .inl (cA, 248, .inl (jA fh))), (pa, .inr (1, [.ref ps, .int (jI pn1'6)])), (ps, .inl (cA, 160, .inl (jA pf1'7)))] H := hP
    have hD : va_D A [(bt, .inl (cA, 31, .inl (jA ft))), (bq, .inl (cA, 124, .inl (jA fq))), (br, .inl (cA, 31, .inl (jA fr))), (ba, .inr (0, [.ref bt, .ref bp, .ref bl, .ref bh, .ref bq, .ref br, .ref bd, .int (jI bg), .int (jI bf)])), (bl, .inl (cA, 248, .inl (jA fl))), (bh, .inl (cA, 248, .inl (jA fh))), (pa, .inr (1, [.ref ps, .int (jI pn1'6)])), (ps, .inl (cA, 160, .inl (jA pf1'7)))] := hD
    have f10 := f_XB_printSpans_b bg bf fl fh zg pn1'1 pf1'2 (by first | assumption | omega) (by first | assumption | omega) (by first | assumption | omega) (by first | assumption | omega)
    rw [← hwb9] at f10; try dsimp only at f10
    refine lv_aload_n hx hb dXB_printRow_42 rfl (lv_at hl 0 rfl) ?_
    refine lv_iload_n hx hb dXB_printRow_43 rfl (lv_at hl 1 rfl) ?_
    refine lv_aload_n hx hb dXB_printRow_44 rfl (lv_at hl 2 rfl) ?_
    refine jwVv (rest := []) (wr := [(bt, .inl (cA, 31, .inl (jA ft))), (bq, .inl (cA, 124, .inl (jA fq))), (bl, .inl (cA, 248, .inl (jA fl))), (bh, .inl (cA, 248, .inl (jA fh)))]) ⟨hx, hb, hml, hown, hts⟩ (c_XB_printRoutes l dC dI cA _ ba bt bp bl bh bq br bd bg bf fr zg pa ps pn1'6 pf1'7 (by first | assumption | omega) (by first | assumption | omega) (by first | assumption | omega)) (cwV 2 hts (jG_V tw_599 tw_601 ts_12 tw_5 tw_602) rfl rfl rfl (by decide +kernel) (by rw [hR]; exact ⟨Nat.le_of_ble_eq_true rfl, Nat.le_of_ble_eq_true rfl⟩)) hK hP hD hS hA hN [3, 2, 6, 7] [0, 1, 4, 5] rfl rfl (by decide) (by decide) (by decide) 3 0 rfl rfl rfl rfl hl.1 rfl (Nat.le_of_ble_eq_true rfl) dXB_printRow_45 (by rw [hR]; exact ⟨Nat.le_of_ble_eq_true rfl, Nat.le_of_ble_eq_true rfl⟩) (fun u13 H locs hwb14 hP hD hS => ?_)
    obtain ⟨pn1'11, pf1'12⟩ := u13
    try dsimp only at hwb14
    have hP : va_P (dC, dI) vwCl [(bt, .inl (cA, 31, .inl (jA ft))), (bq, .inl (cA, 124, .inl (jA fq))), (bl, .inl (cA, 248, .inl (jA fl))), (bh, .inl (cA, 248, .inl (jA fh))), (ba, .inr (0, [.ref bt, .ref bp, .ref bl, .ref bh, .ref bq, .ref br, .ref bd, .int (jI bg), .int (jI bf)])), (br, .inl (cA, 31, .inl (jA fr))), (pa, .inr (1, [.ref ps, .int (jI pn1'11)])), (ps, .inl (cA, 160, .inl (jA pf1'12)))] H := hP
    have hD : va_D A [(bt, .inl (cA, 31, .inl (jA ft))), (bq, .inl (cA, 124, .inl (jA fq))), (bl, .inl (cA, 248, .inl (jA fl))), (bh, .inl (cA, 248, .inl (jA fh))), (ba, .inr (0, [.ref bt, .ref bp, .ref bl, .ref bh, .ref bq, .ref br, .ref bd, .int (jI bg), .int (jI bf)])), (br, .inl (cA, 31, .inl (jA fr))), (pa, .inr (1, [.ref ps, .int (jI pn1'11)])), (ps, .inl (cA, 160, .inl (jA pf1'12)))] := hD
    have f15 := f_XB_printRoutes_b bg bf fr zg pn1'6 pf1'7 (by first | assumption | omega) (by first | assumption | omega) (by first | assumption | omega)
    rw [← hwb14] at f15; try dsimp only at f15
    refine lv_aload_n hx hb dXB_printRow_48 rfl (lv_at hl 0 rfl) ?_
    refine lv_iload_n hx hb dXB_printRow_49 rfl (lv_at hl 1 rfl) ?_
    refine lv_aload_n hx hb dXB_printRow_50 rfl (lv_at hl 2 rfl) ?_
    refine jwVv (rest := []) (wr := [(bt, .inl (cA, 31, .inl (jA ft))), (bl, .inl (cA, 248, .inl (jA fl))), (bh, .inl (cA, 248, .inl (jA fh))), (br, .inl (cA, 31, .inl (jA fr)))]) ⟨hx, hb, hml, hown, hts⟩ (c_XB_printLimits l dC dI cA _ ba bt bp bl bh bq br bd bg bf fq zg pa ps pn1'11 pf1'12 (by first | assumption | omega) (by first | assumption | omega) (by first | assumption | omega)) (cwV 2 hts (jG_V tw_603 tw_605 ts_13 tw_5 tw_606) rfl rfl rfl (by decide +kernel) (by rw [hR]; exact ⟨Nat.le_of_ble_eq_true rfl, Nat.le_of_ble_eq_true rfl⟩)) hK hP hD hS hA hN [4, 1, 6, 7] [0, 2, 3, 5] rfl rfl (by decide) (by decide) (by decide) 4 0 rfl rfl rfl rfl hl.1 rfl (Nat.le_of_ble_eq_true rfl) dXB_printRow_51 (by rw [hR]; exact ⟨Nat.le_of_ble_eq_true rfl, Nat.le_of_ble_eq_true rfl⟩) (fun u18 H locs hwb19 hP hD hS => ?_)
    obtain ⟨pn1'16, pf1'17⟩ := u18
    try dsimp only at hwb19
    have hP : va_P (dC, dI) vwCl [(bt, .inl (cA, 31, .inl (jA ft))), (bl, .inl (cA, 248, .inl (jA fl))), (bh, .inl (cA, 248, .inl (jA fh))), (br, .inl (cA, 31, .inl (jA fr))), (ba, .inr (0, [.ref bt, .ref bp, .ref bl, .ref bh, .ref bq, .ref br, .ref bd, .int (jI bg), .int (jI bf)])), (bq, .inl (cA, 124, .inl (jA fq))), (pa, .inr (1, [.ref ps, .int (jI pn1'16)])), (ps, .inl (cA, 160, .inl (jA pf1'17)))] H := hP
    have hD : va_D A [(bt, .inl (cA, 31, .inl (jA ft))), (bl, .inl (cA, 248, .inl (jA fl))), (bh, .inl (cA, 248, .inl (jA fh))), (br, .inl (cA, 31, .inl (jA fr))), (ba, .inr (0, [.ref bt, .ref bp, .ref bl, .ref bh, .ref bq, .ref br, .ref bd, .int (jI bg), .int (jI bf)])), (bq, .inl (cA, 124, .inl (jA fq))), (pa, .inr (1, [.ref ps, .int (jI pn1'16)])), (ps, .inl (cA, 160, .inl (jA pf1'17)))] := hD
    have f20 := f_XB_printLimits_b bg bf fq zg pn1'11 pf1'12 (by first | assumption | omega) (by first | assumption | omega) (by first | assumption | omega)
    rw [← hwb19] at f20; try dsimp only at f20
    refine lv_aload_n hx hb dXB_printRow_54 rfl (lv_at hl 2 rfl) ?_
    refine ji_bipush hx hb dXB_printRow_55 (by decide) ?_
    refine jwVv (rest := []) (wr := [(bt, .inl (cA, 31, .inl (jA ft))), (bl, .inl (cA, 248, .inl (jA fl))), (bh, .inl (cA, 248, .inl (jA fh))), (br, .inl (cA, 31, .inl (jA fr))), (ba, .inr (0, [.ref bt, .ref bp, .ref bl, .ref bh, .ref bq, .ref br, .ref bd, .int (jI bg), .int (jI bf)])), (bq, .inl (cA, 124, .inl (jA fq)))]) ⟨hx, hb, hml, hown, hts⟩ (c_XP_put l dC dI cA _ pa ps pn1'16 pf1'17 59 (by first | assumption | omega)) (cwV 1 hts (jG_V tw_585 tw_586 tw_587 tw_4 tw_588) rfl rfl rfl (by decide +kernel) (by rw [hR]; exact ⟨Nat.le_of_ble_eq_true rfl, Nat.le_of_ble_eq_true rfl⟩)) hK hP hD hS hA hN [6, 7] [0, 1, 2, 3, 4, 5] rfl rfl (by decide) (by decide) (by decide) 6 1 rfl rfl rfl rfl hl.1 rfl (Nat.le_of_ble_eq_true rfl) dXB_printRow_57 (by rw [hR]; exact ⟨Nat.le_of_ble_eq_true rfl, Nat.le_of_ble_eq_true rfl⟩) (fun u23 H locs hwb24 hP hD hS => ?_)
    obtain ⟨pn1'21, pf1'22⟩ := u23
    try dsimp only at hwb24
    have hP : va_P (dC, dI) vwCl [(bt, .inl (cA, 31, .inl (jA ft))), (bl, .inl (cA, 248, .inl (jA fl))), (bh, .inl (cA, 248, .inl (jA fh))), (br, .inl (cA, 31, .inl (jA fr))), (ba, .inr (0, [.ref bt, .ref bp, .ref bl, .ref bh, .ref bq, .ref br, .ref bd, .int (jI bg), .int (jI bf)])), (bq, .inl (cA, 124, .inl (jA fq))), (pa, .inr (1, [.ref ps, .int (jI pn1'21)])), (ps, .inl (cA, 160, .inl (jA pf1'22)))] H := hP
    have hD : va_D A [(bt, .inl (cA, 31, .inl (jA ft))), (bl, .inl (cA, 248, .inl (jA fl))), (bh, .inl (cA, 248, .inl (jA fh))), (br, .inl (cA, 31, .inl (jA fr))), (ba, .inr (0, [.ref bt, .ref bp, .ref bl, .ref bh, .ref bq, .ref br, .ref bd, .int (jI bg), .int (jI bf)])), (bq, .inl (cA, 124, .inl (jA fq))), (pa, .inr (1, [.ref ps, .int (jI pn1'21)])), (ps, .inl (cA, 160, .inl (jA pf1'22)))] := hD
    have f25 := f_XP_put_b pn1'16 pf1'17 59 (by first | assumption | omega)
    rw [← hwb24] at f25; try dsimp only at f25
    have hP9 := hP.sub (ws' := [(ba, .inr (0, [.ref bt, .ref bp, .ref bl, .ref bh, .ref bq, .ref br, .ref bd, .int (jI bg), .int (jI bf)])), (bt, .inl (cA, 31, .inl (jA ft))), (bl, .inl (cA, 248, .inl (jA fl))), (bh, .inl (cA, 248, .inl (jA fh))), (bq, .inl (cA, 124, .inl (jA fq))), (br, .inl (cA, 31, .inl (jA fr))), (pa, .inr (1, [.ref ps, .int (jI pn1'21)])), (ps, .inl (cA, 160, .inl (jA pf1'22)))]) [4, 0, 1, 2, 5, 3, 6, 7] rfl
    have hD9 := hD.sub (ws' := [(ba, .inr (0, [.ref bt, .ref bp, .ref bl, .ref bh, .ref bq, .ref br, .ref bd, .int (jI bg), .int (jI bf)])), (bt, .inl (cA, 31, .inl (jA ft))), (bl, .inl (cA, 248, .inl (jA fl))), (bh, .inl (cA, 248, .inl (jA fh))), (bq, .inl (cA, 124, .inl (jA fq))), (br, .inl (cA, 31, .inl (jA fr))), (pa, .inr (1, [.ref ps, .int (jI pn1'21)])), (ps, .inl (cA, 160, .inl (jA pf1'22)))]) [4, 0, 1, 2, 5, 3, 6, 7] (by decide) rfl
    subst hAe
    subst hQ
    exact W.vret hx hb hr (fun t ht hW => ⟨⟨(pn1'21, pf1'22), rfl, Eq.trans (by rw [f_XB_printRow_s]; rw [← hwb]; try dsimp only; rw [← hwb4]; try dsimp only; rw [if_neg (Int.not_lt.mpr c17_)]; rw [← hwb9]; try dsimp only; rw [← hwb14]; try dsimp only; rw [← hwb19]; try dsimp only; rw [← hwb24]; try dsimp only; try rfl) rfl, ⟨by rw [ht]; exact hP9, va_K.moved hW.alike hK, hD9⟩⟩, hS.F ht⟩) hS.2.2 dXB_printRow_60
  · refine lv_aload_n hx hb dXB_printRow_20 rfl (lv_at hl 2 rfl) ?_
    refine ji_bipush hx hb dXB_printRow_21 (by decide) ?_
    refine jwVv (rest := []) (wr := [(ba, .inr (0, [.ref bt, .ref bp, .ref bl, .ref bh, .ref bq, .ref br, .ref bd, .int (jI bg), .int (jI bf)])), (bt, .inl (cA, 31, .inl (jA ft))), (bl, .inl (cA, 248, .inl (jA fl))), (bh, .inl (cA, 248, .inl (jA fh))), (bq, .inl (cA, 124, .inl (jA fq))), (br, .inl (cA, 31, .inl (jA fr)))]) ⟨hx, hb, hml, hown, hts⟩ (c_XP_put l dC dI cA _ pa ps pn1'1 pf1'2 60 (by first | assumption | omega)) (cwV 1 hts (jG_V tw_585 tw_586 tw_587 tw_4 tw_588) rfl rfl rfl (by decide +kernel) (by rw [hR]; exact ⟨Nat.le_of_ble_eq_true rfl, Nat.le_of_ble_eq_true rfl⟩)) hK hP hD hS hA hN [6, 7] [0, 1, 2, 3, 4, 5] rfl rfl (by decide) (by decide) (by decide) 6 1 rfl rfl rfl rfl hl.1 rfl (Nat.le_of_ble_eq_true rfl) dXB_printRow_23 (by rw [hR]; exact ⟨Nat.le_of_ble_eq_true rfl, Nat.le_of_ble_eq_true rfl⟩) (fun u28 H locs hwb29 hP hD hS => ?_)
    obtain ⟨pn1'26, pf1'27⟩ := u28
    try dsimp only at hwb29
    have hP : va_P (dC, dI) vwCl [(ba, .inr (0, [.ref bt, .ref bp, .ref bl, .ref bh, .ref bq, .ref br, .ref bd, .int (jI bg), .int (jI bf)])), (bt, .inl (cA, 31, .inl (jA ft))), (bl, .inl (cA, 248, .inl (jA fl))), (bh, .inl (cA, 248, .inl (jA fh))), (bq, .inl (cA, 124, .inl (jA fq))), (br, .inl (cA, 31, .inl (jA fr))), (pa, .inr (1, [.ref ps, .int (jI pn1'26)])), (ps, .inl (cA, 160, .inl (jA pf1'27)))] H := hP
    have hD : va_D A [(ba, .inr (0, [.ref bt, .ref bp, .ref bl, .ref bh, .ref bq, .ref br, .ref bd, .int (jI bg), .int (jI bf)])), (bt, .inl (cA, 31, .inl (jA ft))), (bl, .inl (cA, 248, .inl (jA fl))), (bh, .inl (cA, 248, .inl (jA fh))), (bq, .inl (cA, 124, .inl (jA fq))), (br, .inl (cA, 31, .inl (jA fr))), (pa, .inr (1, [.ref ps, .int (jI pn1'26)])), (ps, .inl (cA, 160, .inl (jA pf1'27)))] := hD
    have f30 := f_XP_put_b pn1'1 pf1'2 60 (by first | assumption | omega)
    rw [← hwb29] at f30; try dsimp only at f30
    refine lv_aload_n hx hb dXB_printRow_26 rfl (lv_at hl 2 rfl) ?_
    refine lv_aload_n hx hb dXB_printRow_27 rfl (lv_at hl 0 rfl) ?_
    refine va_get (D := (dC, dI)) (ci := 0) (v := .ref bt) (C := RXB) (T := TXB) (N := 9) hx hb hts (fun w h => jmem (inXB w h)) hown hK hP 0 rfl rfl 0 (by decide) (hts _ (jmem tw_73)) (fun _ h9 => h9) rfl dXB_printRow_28 ?_
    refine lv_iload_n hx hb dXB_printRow_31 rfl (lv_at hl 1 rfl) ?_
    refine ji_iald hx hb hK hP 1 0 rfl rfl ⟨by omega, by omega⟩ (by decide) dXB_printRow_32 ?_
    have rb31 := hbt zg
    refine jwVv (rest := []) (wr := [(ba, .inr (0, [.ref bt, .ref bp, .ref bl, .ref bh, .ref bq, .ref br, .ref bd, .int (jI bg), .int (jI bf)])), (bt, .inl (cA, 31, .inl (jA ft))), (bl, .inl (cA, 248, .inl (jA fl))), (bh, .inl (cA, 248, .inl (jA fh))), (bq, .inl (cA, 124, .inl (jA fq))), (br, .inl (cA, 31, .inl (jA fr)))]) ⟨hx, hb, hml, hown, hts⟩ (c_XP_putNumber l dC dI cA _ pa ps pn1'26 pf1'27 (ft zg) (by first | assumption | omega) (by first | assumption | omega)) (cwV 1 hts (jG_V tw_589 tw_590 tw_591 tw_4 tw_592) rfl rfl rfl (by decide +kernel) (by rw [hR]; exact ⟨Nat.le_of_ble_eq_true rfl, Nat.le_of_ble_eq_true rfl⟩)) hK hP hD hS hA hN [6, 7] [0, 1, 2, 3, 4, 5] rfl rfl (by decide) (by decide) (by decide) 6 1 rfl rfl rfl rfl hl.1 rfl (Nat.le_of_ble_eq_true rfl) dXB_printRow_33 (by rw [hR]; exact ⟨Nat.le_of_ble_eq_true rfl, Nat.le_of_ble_eq_true rfl⟩) (fun u34 H locs hwb35 hP hD hS => ?_)
    obtain ⟨pn1'32, pf1'33⟩ := u34
    try dsimp only at hwb35
    have hP : va_P (dC, dI) vwCl [(ba, .inr (0, [.ref bt, .ref bp, .ref bl, .ref bh, .ref bq, .ref br, .ref bd, .int (jI bg), .int (jI bf)])), (bt, .inl (cA, 31, .inl (jA ft))), (bl, .inl (cA, 248, .inl (jA fl))), (bh, .inl (cA, 248, .inl (jA fh))), (bq, .inl (cA, 124, .inl (jA fq))), (br, .inl (cA, 31, .inl (jA fr))), (pa, .inr (1, [.ref ps, .int (jI pn1'32)])), (ps, .inl (cA, 160, .inl (jA pf1'33)))] H := hP
    have hD : va_D A [(ba, .inr (0, [.ref bt, .ref bp, .ref bl, .ref bh, .ref bq, .ref br, .ref bd, .int (jI bg), .int (jI bf)])), (bt, .inl (cA, 31, .inl (jA ft))), (bl, .inl (cA, 248, .inl (jA fl))), (bh, .inl (cA, 248, .inl (jA fh))), (bq, .inl (cA, 124, .inl (jA fq))), (br, .inl (cA, 31, .inl (jA fr))), (pa, .inr (1, [.ref ps, .int (jI pn1'32)])), (ps, .inl (cA, 160, .inl (jA pf1'33)))] := hD
    have f36 := f_XP_putNumber_b pn1'26 pf1'27 (ft zg) (by first | assumption | omega) (by first | assumption | omega)
    rw [← hwb35] at f36; try dsimp only at f36
    refine lv_aload_n hx hb dXB_printRow_36 rfl (lv_at hl 0 rfl) ?_
    refine lv_iload_n hx hb dXB_printRow_37 rfl (lv_at hl 1 rfl) ?_
    refine lv_aload_n hx hb dXB_printRow_38 rfl (lv_at hl 2 rfl) ?_
    refine jwVv (rest := []) (wr := [(bt, .inl (cA, 31, .inl (jA ft))), (bq, .inl (cA, 124, .inl (jA fq))), (br, .inl (cA, 31, .inl (jA fr)))]) ⟨hx, hb, hml, hown, hts⟩ (c_XB_printSpans l dC dI cA _ ba bt bp bl bh bq br bd bg bf fl fh zg pa ps pn1'32 pf1'33 (by first | assumption | omega) (by first | assumption | omega) (by first | assumption | omega) (by first | assumption | omega)) (cwV 2 hts (jG_V tw_595 tw_597 ts_11 tw_5 tw_598) rfl rfl rfl (by decide +kernel) (by rw [hR]; exact ⟨Nat.le_of_ble_eq_true rfl, Nat.le_of_ble_eq_true rfl⟩)) hK hP hD hS hA hN [0, 2, 3, 6, 7] [1, 4, 5] rfl rfl (by decide) (by decide) (by decide) 0 0 rfl rfl rfl rfl hl.1 rfl (Nat.le_of_ble_eq_true rfl) dXB_printRow_39 (by rw [hR]; exact ⟨Nat.le_of_ble_eq_true rfl, Nat.le_of_ble_eq_true rfl⟩) (fun u39 H locs hwb40 hP hD hS => ?_)
    obtain ⟨pn1'37, pf1'38⟩ := u39
    try dsimp only at hwb40
    have hP : va_P (dC, dI) vwCl [(bt, .inl (cA, 31, .inl (jA ft))), (bq, .inl (cA, 124, .inl (jA fq))), (br, .inl (cA, 31, .inl (jA fr))), (ba, .inr (0, [.ref bt, .ref bp, .ref bl, .ref bh, .ref bq, .ref br, .ref bd, .int (jI bg), .int (jI bf)])), (bl, .inl (cA, 248, .inl (jA fl))), (bh, .inl (cA, 248, .inl (jA fh))), (pa, .inr (1, [.ref ps, .int (jI pn1'37)])), (ps, .inl (cA, 160, .inl (jA pf1'38)))] H := hP
    have hD : va_D A [(bt, .inl (cA, 31, .inl (jA ft))), (bq, .inl (cA, 124, .inl (jA fq))), (br, .inl (cA, 31, .inl (jA fr))), (ba, .inr (0, [.ref bt, .ref bp, .ref bl, .ref bh, .ref bq, .ref br, .ref bd, .int (jI bg), .int (jI bf)])), (bl, .inl (cA, 248, .inl (jA fl))), (bh, .inl (cA, 248, .inl (jA fh))), (pa, .inr (1, [.ref ps, .int (jI pn1'37)])), (ps, .inl (cA, 160, .inl (jA pf1'38)))] := hD
    have f41 := f_XB_printSpans_b bg bf fl fh zg pn1'32 pf1'33 (by first | assumption | omega) (by first | assumption | omega) (by first | assumption | omega) (by first | assumption | omega)
    rw [← hwb40] at f41; try dsimp only at f41
    refine lv_aload_n hx hb dXB_printRow_42 rfl (lv_at hl 0 rfl) ?_
    refine lv_iload_n hx hb dXB_printRow_43 rfl (lv_at hl 1 rfl) ?_
    refine lv_aload_n hx hb dXB_printRow_44 rfl (lv_at hl 2 rfl) ?_
    refine jwVv (rest := []) (wr := [(bt, .inl (cA, 31, .inl (jA ft))), (bq, .inl (cA, 124, .inl (jA fq))), (bl, .inl (cA, 248, .inl (jA fl))), (bh, .inl (cA, 248, .inl (jA fh)))]) ⟨hx, hb, hml, hown, hts⟩ (c_XB_printRoutes l dC dI cA _ ba bt bp bl bh bq br bd bg bf fr zg pa ps pn1'37 pf1'38 (by first | assumption | omega) (by first | assumption | omega) (by first | assumption | omega)) (cwV 2 hts (jG_V tw_599 tw_601 ts_12 tw_5 tw_602) rfl rfl rfl (by decide +kernel) (by rw [hR]; exact ⟨Nat.le_of_ble_eq_true rfl, Nat.le_of_ble_eq_true rfl⟩)) hK hP hD hS hA hN [3, 2, 6, 7] [0, 1, 4, 5] rfl rfl (by decide) (by decide) (by decide) 3 0 rfl rfl rfl rfl hl.1 rfl (Nat.le_of_ble_eq_true rfl) dXB_printRow_45 (by rw [hR]; exact ⟨Nat.le_of_ble_eq_true rfl, Nat.le_of_ble_eq_true rfl⟩) (fun u44 H locs hwb45 hP hD hS => ?_)
    obtain ⟨pn1'42, pf1'43⟩ := u44
    try dsimp only at hwb45
    have hP : va_P (dC, dI) vwCl [(bt, .inl (cA, 31, .inl (jA ft))), (bq, .inl (cA, 124, .inl (jA fq))), (bl, .inl (cA, 248, .inl (jA fl))), (bh, .inl (cA, 248, .inl (jA fh))), (ba, .inr (0, [.ref bt, .ref bp, .ref bl, .ref bh, .ref bq, .ref br, .ref bd, .int (jI bg), .int (jI bf)])), (br, .inl (cA, 31, .inl (jA fr))), (pa, .inr (1, [.ref ps, .int (jI pn1'42)])), (ps, .inl (cA, 160, .inl (jA pf1'43)))] H := hP
    have hD : va_D A [(bt, .inl (cA, 31, .inl (jA ft))), (bq, .inl (cA, 124, .inl (jA fq))), (bl, .inl (cA, 248, .inl (jA fl))), (bh, .inl (cA, 248, .inl (jA fh))), (ba, .inr (0, [.ref bt, .ref bp, .ref bl, .ref bh, .ref bq, .ref br, .ref bd, .int (jI bg), .int (jI bf)])), (br, .inl (cA, 31, .inl (jA fr))), (pa, .inr (1, [.ref ps, .int (jI pn1'42)])), (ps, .inl (cA, 160, .inl (jA pf1'43)))] := hD
    have f46 := f_XB_printRoutes_b bg bf fr zg pn1'37 pf1'38 (by first | assumption | omega) (by first | assumption | omega) (by first | assumption | omega)
    rw [← hwb45] at f46; try dsimp only at f46
    refine lv_aload_n hx hb dXB_printRow_48 rfl (lv_at hl 0 rfl) ?_
    refine lv_iload_n hx hb dXB_printRow_49 rfl (lv_at hl 1 rfl) ?_
    refine lv_aload_n hx hb dXB_printRow_50 rfl (lv_at hl 2 rfl) ?_
    refine jwVv (rest := []) (wr := [(bt, .inl (cA, 31, .inl (jA ft))), (bl, .inl (cA, 248, .inl (jA fl))), (bh, .inl (cA, 248, .inl (jA fh))), (br, .inl (cA, 31, .inl (jA fr)))]) ⟨hx, hb, hml, hown, hts⟩ (c_XB_printLimits l dC dI cA _ ba bt bp bl bh bq br bd bg bf fq zg pa ps pn1'42 pf1'43 (by first | assumption | omega) (by first | assumption | omega) (by first | assumption | omega)) (cwV 2 hts (jG_V tw_603 tw_605 ts_13 tw_5 tw_606) rfl rfl rfl (by decide +kernel) (by rw [hR]; exact ⟨Nat.le_of_ble_eq_true rfl, Nat.le_of_ble_eq_true rfl⟩)) hK hP hD hS hA hN [4, 1, 6, 7] [0, 2, 3, 5] rfl rfl (by decide) (by decide) (by decide) 4 0 rfl rfl rfl rfl hl.1 rfl (Nat.le_of_ble_eq_true rfl) dXB_printRow_51 (by rw [hR]; exact ⟨Nat.le_of_ble_eq_true rfl, Nat.le_of_ble_eq_true rfl⟩) (fun u49 H locs hwb50 hP hD hS => ?_)
    obtain ⟨pn1'47, pf1'48⟩ := u49
    try dsimp only at hwb50
    have hP : va_P (dC, dI) vwCl [(bt, .inl (cA, 31, .inl (jA ft))), (bl, .inl (cA, 248, .inl (jA fl))), (bh, .inl (cA, 248, .inl (jA fh))), (br, .inl (cA, 31, .inl (jA fr))), (ba, .inr (0, [.ref bt, .ref bp, .ref bl, .ref bh, .ref bq, .ref br, .ref bd, .int (jI bg), .int (jI bf)])), (bq, .inl (cA, 124, .inl (jA fq))), (pa, .inr (1, [.ref ps, .int (jI pn1'47)])), (ps, .inl (cA, 160, .inl (jA pf1'48)))] H := hP
    have hD : va_D A [(bt, .inl (cA, 31, .inl (jA ft))), (bl, .inl (cA, 248, .inl (jA fl))), (bh, .inl (cA, 248, .inl (jA fh))), (br, .inl (cA, 31, .inl (jA fr))), (ba, .inr (0, [.ref bt, .ref bp, .ref bl, .ref bh, .ref bq, .ref br, .ref bd, .int (jI bg), .int (jI bf)])), (bq, .inl (cA, 124, .inl (jA fq))), (pa, .inr (1, [.ref ps, .int (jI pn1'47)])), (ps, .inl (cA, 160, .inl (jA pf1'48)))] := hD
    have f51 := f_XB_printLimits_b bg bf fq zg pn1'42 pf1'43 (by first | assumption | omega) (by first | assumption | omega) (by first | assumption | omega)
    rw [← hwb50] at f51; try dsimp only at f51
    refine lv_aload_n hx hb dXB_printRow_54 rfl (lv_at hl 2 rfl) ?_
    refine ji_bipush hx hb dXB_printRow_55 (by decide) ?_
    refine jwVv (rest := []) (wr := [(bt, .inl (cA, 31, .inl (jA ft))), (bl, .inl (cA, 248, .inl (jA fl))), (bh, .inl (cA, 248, .inl (jA fh))), (br, .inl (cA, 31, .inl (jA fr))), (ba, .inr (0, [.ref bt, .ref bp, .ref bl, .ref bh, .ref bq, .ref br, .ref bd, .int (jI bg), .int (jI bf)])), (bq, .inl (cA, 124, .inl (jA fq)))]) ⟨hx, hb, hml, hown, hts⟩ (c_XP_put l dC dI cA _ pa ps pn1'47 pf1'48 59 (by first | assumption | omega)) (cwV 1 hts (jG_V tw_585 tw_586 tw_587 tw_4 tw_588) rfl rfl rfl (by decide +kernel) (by rw [hR]; exact ⟨Nat.le_of_ble_eq_true rfl, Nat.le_of_ble_eq_true rfl⟩)) hK hP hD hS hA hN [6, 7] [0, 1, 2, 3, 4, 5] rfl rfl (by decide) (by decide) (by decide) 6 1 rfl rfl rfl rfl hl.1 rfl (Nat.le_of_ble_eq_true rfl) dXB_printRow_57 (by rw [hR]; exact ⟨Nat.le_of_ble_eq_true rfl, Nat.le_of_ble_eq_true rfl⟩) (fun u54 H locs hwb55 hP hD hS => ?_)
    obtain ⟨pn1'52, pf1'53⟩ := u54
    try dsimp only at hwb55
    have hP : va_P (dC, dI) vwCl [(bt, .inl (cA, 31, .inl (jA ft))), (bl, .inl (cA, 248, .inl (jA fl))), (bh, .inl (cA, 248, .inl (jA fh))), (br, .inl (cA, 31, .inl (jA fr))), (ba, .inr (0, [.ref bt, .ref bp, .ref bl, .ref bh, .ref bq, .ref br, .ref bd, .int (jI bg), .int (jI bf)])), (bq, .inl (cA, 124, .inl (jA fq))), (pa, .inr (1, [.ref ps, .int (jI pn1'52)])), (ps, .inl (cA, 160, .inl (jA pf1'53)))] H := hP
    have hD : va_D A [(bt, .inl (cA, 31, .inl (jA ft))), (bl, .inl (cA, 248, .inl (jA fl))), (bh, .inl (cA, 248, .inl (jA fh))), (br, .inl (cA, 31, .inl (jA fr))), (ba, .inr (0, [.ref bt, .ref bp, .ref bl, .ref bh, .ref bq, .ref br, .ref bd, .int (jI bg), .int (jI bf)])), (bq, .inl (cA, 124, .inl (jA fq))), (pa, .inr (1, [.ref ps, .int (jI pn1'52)])), (ps, .inl (cA, 160, .inl (jA pf1'53)))] := hD
    have f56 := f_XP_put_b pn1'47 pf1'48 59 (by first | assumption | omega)
    rw [← hwb55] at f56; try dsimp only at f56
    have hP9 := hP.sub (ws' := [(ba, .inr (0, [.ref bt, .ref bp, .ref bl, .ref bh, .ref bq, .ref br, .ref bd, .int (jI bg), .int (jI bf)])), (bt, .inl (cA, 31, .inl (jA ft))), (bl, .inl (cA, 248, .inl (jA fl))), (bh, .inl (cA, 248, .inl (jA fh))), (bq, .inl (cA, 124, .inl (jA fq))), (br, .inl (cA, 31, .inl (jA fr))), (pa, .inr (1, [.ref ps, .int (jI pn1'52)])), (ps, .inl (cA, 160, .inl (jA pf1'53)))]) [4, 0, 1, 2, 5, 3, 6, 7] rfl
    have hD9 := hD.sub (ws' := [(ba, .inr (0, [.ref bt, .ref bp, .ref bl, .ref bh, .ref bq, .ref br, .ref bd, .int (jI bg), .int (jI bf)])), (bt, .inl (cA, 31, .inl (jA ft))), (bl, .inl (cA, 248, .inl (jA fl))), (bh, .inl (cA, 248, .inl (jA fh))), (bq, .inl (cA, 124, .inl (jA fq))), (br, .inl (cA, 31, .inl (jA fr))), (pa, .inr (1, [.ref ps, .int (jI pn1'52)])), (ps, .inl (cA, 160, .inl (jA pf1'53)))]) [4, 0, 1, 2, 5, 3, 6, 7] (by decide) rfl
    subst hAe
    subst hQ
    exact W.vret hx hb hr (fun t ht hW => ⟨⟨(pn1'52, pf1'53), rfl, Eq.trans (by rw [f_XB_printRow_s]; rw [← hwb]; try dsimp only; rw [← hwb4]; try dsimp only; rw [if_pos c17_]; rw [← hwb29]; try dsimp only; rw [← hwb35]; try dsimp only; rw [← hwb40]; try dsimp only; rw [← hwb45]; try dsimp only; rw [← hwb50]; try dsimp only; rw [← hwb55]; try dsimp only; try rfl) rfl, ⟨by rw [ht]; exact hP9, va_K.moved hW.alike hK, hD9⟩⟩, hS.F ht⟩) hS.2.2 dXB_printRow_60
