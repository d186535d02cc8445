noncomputable def g_XR_spans_L2 (tn : Int) (tp : Int) (tw : Int) (tf : Int → Int) (bg : Int) (bf : Int) (fl : Int → Int) (fh : Int → Int) (zg : Int) : Nat → Int → Int → Int → (Int → Int) → (Int → Int) → Int × Int × Int × (Int → Int) × (Int → Int)
  | 0, _, _, _, _, _ => (0, 0, 0, fun _ => 0, fun _ => 0)
  | n9 + 1, k, q, w, yl, yh =>
    if 8 < k then
      (1, q, w, yl, yh)
    else
      match f_XT_next tn q w tf with
      | (r, tp1') =>
        if (f_XG_isElement r) = 0 then
          (1, tp1', w, yl, yh)
        else
          match f_XT_takeOneOf tn tp1' w tf 65 8 with
          | (r2, tp1'3, tw1') =>
            if r2 = (-1) then
              (0, tp1'3, tw1', yl, yh)
            else
              if (f_XB_tellsSpan bg bf yh zg r2) = 0 then
                match f_XT_number tn tp1'3 tw1' tf 0 100000 with
                | (r10, tp1'11, tw1'12) =>
                  if r10 = (-1) then
                    (0, tp1'11, tw1'12, yl, yh)
                  else
                    match f_XT_take tn tp1'11 tw1'12 tf 45 with
                    | (r17, tp1'18, tw1'19) =>
                      if r17 = 0 then
                        (0, tp1'18, tw1'19, yl, yh)
                      else
                        match f_XT_number tn tp1'18 tw1'19 tf r10 100000 with
                        | (r24, tp1'25, tw1'26) =>
                          if r24 = (-1) then
                            (0, tp1'25, tw1'26, yl, yh)
                          else
                            match f_XB_tellSpan bg bf yl yh zg r2 r10 r24 with
                            | (fl1', fh1') =>
                              g_XR_spans_L2 tn tp tw tf bg bf fl fh zg n9 (k + 1) tp1'25 tw1'26 fl1' fh1'
              else
                match f_XT_refuseLast tn tp1'3 tw1' tf with
                | (r35, tw1'36) =>
                  (r35, tp1'3, tw1'36, yl, yh)
noncomputable def f_XR_spans_L2 : Int → Int → Int → (Int → Int) → Int → Int → (Int → Int) → (Int → Int) → Int → Nat → Int → Int → Int → (Int → Int) → (Int → Int) → Int × Int × Int × (Int → Int) × (Int → Int) := jopq g_XR_spans_L2
theorem f_XR_spans_L2_q : f_XR_spans_L2 = g_XR_spans_L2 := jopq_eq _
theorem f_XR_spans_L2_s (tn : Int) (tp : Int) (tw : Int) (tf : Int → Int) (bg : Int) (bf : Int) (fl : Int → Int) (fh : Int → Int) (zg : Int) (n9 : Nat) (k : Int) (q : Int) (w : Int) (yl : Int → Int) (yh : Int → Int) : f_XR_spans_L2 tn tp tw tf bg bf fl fh zg (n9 + 1) k q w yl yh = (
    if 8 < k then
      (1, q, w, yl, yh)
    else
      match f_XT_next tn q w tf with
      | (r, tp1') =>
        if (f_XG_isElement r) = 0 then
          (1, tp1', w, yl, yh)
        else
          match f_XT_takeOneOf tn tp1' w tf 65 8 with
          | (r2, tp1'3, tw1') =>
            if r2 = (-1) then
              (0, tp1'3, tw1', yl, yh)
            else
              if (f_XB_tellsSpan bg bf yh zg r2) = 0 then
                match f_XT_number tn tp1'3 tw1' tf 0 100000 with
                | (r10, tp1'11, tw1'12) =>
                  if r10 = (-1) then
                    (0, tp1'11, tw1'12, yl, yh)
                  else
                    match f_XT_take tn tp1'11 tw1'12 tf 45 with
                    | (r17, tp1'18, tw1'19) =>
                      if r17 = 0 then
                        (0, tp1'18, tw1'19, yl, yh)
                      else
                        match f_XT_number tn tp1'18 tw1'19 tf r10 100000 with
                        | (r24, tp1'25, tw1'26) =>
                          if r24 = (-1) then
                            (0, tp1'25, tw1'26, yl, yh)
                          else
                            match f_XB_tellSpan bg bf yl yh zg r2 r10 r24 with
                            | (fl1', fh1') =>
                              f_XR_spans_L2 tn tp tw tf bg bf fl fh zg n9 (k + 1) tp1'25 tw1'26 fl1' fh1'
              else
                match f_XT_refuseLast tn tp1'3 tw1' tf with
                | (r35, tw1'36) =>
                  (r35, tp1'3, tw1'36, yl, yh)
  : Int × Int × Int × (Int → Int) × (Int → Int)) := by rw [f_XR_spans_L2_q]; rfl
theorem f_XR_spans_L2_z (tn : Int) (tp : Int) (tw : Int) (tf : Int → Int) (bg : Int) (bf : Int) (fl : Int → Int) (fh : Int → Int) (zg : Int) (k : Int) (q : Int) (w : Int) (yl : Int → Int) (yh : Int → Int) : f_XR_spans_L2 tn tp tw tf bg bf fl fh zg 0 k q w yl yh = (0, 0, 0, fun _ => 0, fun _ => 0) := by rw [f_XR_spans_L2_q]; rfl
noncomputable def g_XR_spans (tn : Int) (tp : Int) (tw : Int) (tf : Int → Int) (bg : Int) (bf : Int) (fl : Int → Int) (fh : Int → Int) (zg : Int) : Int × Int × Int × (Int → Int) × (Int → Int) :=
  f_XR_spans_L2 tn tp tw tf bg bf fl fh zg (Int.toNat (9 - 0) + 1) 0 tp tw fl fh
noncomputable def f_XR_spans : Int → Int → Int → (Int → Int) → Int → Int → (Int → Int) → (Int → Int) → Int → Int × Int × Int × (Int → Int) × (Int → Int) := jopq g_XR_spans
theorem f_XR_spans_q : f_XR_spans = g_XR_spans := jopq_eq _
theorem f_XR_spans_s (tn : Int) (tp : Int) (tw : Int) (tf : Int → Int) (bg : Int) (bf : Int) (fl : Int → Int) (fh : Int → Int) (zg : Int) : f_XR_spans tn tp tw tf bg bf fl fh zg = (
    f_XR_spans_L2 tn tp tw tf bg bf fl fh zg (Int.toNat (9 - 0) + 1) 0 tp tw fl fh
  : Int × Int × Int × (Int → Int) × (Int → Int)) := by rw [f_XR_spans_q]; rfl
set_option maxHeartbeats 4000000 in
set_option maxRecDepth 100000 in
theorem c_XR_spans (l : Launch) (dC : Nat → ClassId) (dI : Nat → Nat → Nat) (cA : ClassId) (sz : Nat) (rda : Nat) (ta : Nat) (ts : Nat) (tn : Int) (tp : Int) (tw : Int) (tf : Int → Int) (ba : Nat) (bt : Nat) (bp : Nat) (bl : Nat) (bh : Nat) (bq : Nat) (br : Nat) (bd : Nat) (bg : Int) (bf : Int) (fl : Int → Int) (fh : Int → Int) (zg : Int) (hn : 0 ≤ tn ∧ tn ≤ 400) (hp : 0 ≤ tp ∧ tp ≤ tn) (hf : ∀ i, 0 ≤ tf i ∧ tf i < 256) (hbl : ∀ i, 0 ≤ fl i ∧ fl i ≤ 100000) (hbh : ∀ i, -1 ≤ fh i ∧ fh i ≤ 100000) (hzg : 0 ≤ zg ∧ zg ≤ 30) : Met l yXR_spans (Cond.code yXR_spans cXR_spans 7 (some .boolean) :: TBL) ({ frames := 2, cells := 0, slots := 0, locals := 44 } : Room) (va_Pc [.ref rda, .ref ba, .int (jI zg)] (jBw (dC, dI) [(cA, .int)] [(rda, .inr (2, [.ref ta])), (ta, .inr (3, [.ref ts, .int (jI tn), .int (jI tp), .int (jI tw)])), (ts, .inl (cA, 400, .inl (jA tf))), (ba, .inr (0, [.ref bt, .ref bp, .ref bl, .ref bh, .ref bq, .ref br, .ref bd, .int (jI bg), .int (jI bf)])), (bl, .inl (cA, 248, .inl (jA fl))), (bh, .inl (cA, 248, .inl (jA fh)))] sz)) (va_Qi (fun (r : Int32) (u : Int × Int × Int × (Int → Int) × (Int → Int)) => r = jI u.1 ∧ u = f_XR_spans tn tp tw tf bg bf fl fh zg ∧ (0 ≤ u.1 ∧ u.1 ≤ 1) ∧ (0 ≤ u.2.1 ∧ u.2.1 ≤ tn) ∧ (∀ i, 0 ≤ u.2.2.2.1 i ∧ u.2.2.2.1 i ≤ 100000) ∧ (∀ i, -1 ≤ u.2.2.2.2 i ∧ u.2.2.2.2 i ≤ 100000)) (fun u t => jE (dC, dI) [(cA, .int)] [(rda, .inr (2, [.ref ta])), (ta, .inr (3, [.ref ts, .int (jI tn), .int (jI tp), .int (jI tw)])), (ts, .inl (cA, 400, .inl (jA tf))), (ba, .inr (0, [.ref bt, .ref bp, .ref bl, .ref bh, .ref bq, .ref br, .ref bd, .int (jI bg), .int (jI bf)])), (bl, .inl (cA, 248, .inl (jA fl))), (bh, .inl (cA, 248, .inl (jA fh)))] sz [(rda, .inr (2, [.ref ta])), (ta, .inr (3, [.ref ts, .int (jI tn), .int (jI u.2.1), .int (jI u.2.2.1)])), (ts, .inl (cA, 400, .inl (jA tf))), (ba, .inr (0, [.ref bt, .ref bp, .ref bl, .ref bh, .ref bq, .ref br, .ref bd, .int (jI bg), .int (jI bf)])), (bl, .inl (cA, 248, .inl (jA u.2.2.2.1))), (bh, .inl (cA, 248, .inl (jA u.2.2.2.2)))] t) (va_A [(rda, .inr (2, [.ref ta])), (ta, .inr (3, [.ref ts, .int (jI tn), .int (jI tp), .int (jI tw)])), (ts, .inl (cA, 400, .inl (jA tf))), (ba, .inr (0, [.ref bt, .ref bp, .ref bl, .ref bh, .ref bq, .ref br, .ref bd, .int (jI bg), .int (jI bf)])), (bl, .inl (cA, 248, .inl (jA fl))), (bh, .inl (cA, 248, .inl (jA fh)))] sz)) 0 0 (va_A [(rda, .inr (2, [.ref ta])), (ta, .inr (3, [.ref ts, .int (jI tn), .int (jI tp), .int (jI tw)])), (ts, .inl (cA, 400, .inl (jA tf))), (ba, .inr (0, [.ref bt, .ref bp, .ref bl, .ref bh, .ref bq, .ref br, .ref bd, .int (jI bg), .int (jI bf)])), (bl, .inl (cA, 248, .inl (jA fl))), (bh, .inl (cA, 248, .inl (jA fh)))] sz) := by
  refine jMet (cc := cXR_spans) (maxL := 7) (ret := some .boolean) (by decide) rfl ?_
  intro p e s m args below meth c s₁ R Q hR hQ B hml hv
  obtain ⟨rfl, hsz, hP, hK, hD0, hN⟩ := hv
  have hx := B.exec
  have hb := B.bytes
  have hr := B.returns
  have hts := atoms_spec (ws := Cond.code yXR_spans cXR_spans 7 (some .boolean) :: TBL) B.pre
  have hown : s.vm.findClass RXR = some m.cls := findClass_of_methodNamed B.named
  have hlocks := B.notSynchronized
  subst hsz
  obtain ⟨A, hAe⟩ : ∃ A, A = va_A [(rda, .inr (2, [.ref ta])), (ta, .inr (3, [.ref ts, .int (jI tn), .int (jI tp), .int (jI tw)])), (ts, .inl (cA, 400, .inl (jA tf))), (ba, .inr (0, [.ref bt, .ref bp, .ref bl, .ref bh, .ref bq, .ref br, .ref bd, .int (jI bg), .int (jI bf)])), (bl, .inl (cA, 248, .inl (jA fl))), (bh, .inl (cA, 248, .inl (jA fh)))] s.heap.size := ⟨_, rfl⟩
  have hD : va_D A [(rda, .inr (2, [.ref ta])), (ta, .inr (3, [.ref ts, .int (jI tn), .int (jI tp), .int (jI tw)])), (ts, .inl (cA, 400, .inl (jA tf))), (ba, .inr (0, [.ref bt, .ref bp, .ref bl, .ref bh, .ref bq, .ref br, .ref bd, .int (jI bg), .int (jI bf)])), (bl, .inl (cA, 248, .inl (jA fl))), (bh, .inl (cA, 248, .inl (jA fh)))] := by rw [hAe]; exact hD0.self
  have hA : ∀ q : Nat, s.heap.size ≤ q → A q := fun q h => by rw [hAe]; exact Or.inr h
  have hS : va_S A s.heap s.heap [] := va_S.rf
  have hP : va_P (dC, dI) vwCl [(rda, .inr (2, [.ref ta])), (ta, .inr (3, [.ref ts, .int (jI tn), .int (jI tp), .int (jI tw)])), (ts, .inl (cA, 400, .inl (jA tf))), (ba, .inr (0, [.ref bt, .ref bp, .ref bl, .ref bh, .ref bq, .ref br, .ref bd, .int (jI bg), .int (jI bf)])), (bl, .inl (cA, 248, .inl (jA fl))), (bh, .inl (cA, 248, .inl (jA fh)))] s.heap := hP
  have hl := lv_entry ([.ref rda, .ref ba, .int (jI zg)]) (n := 7) (Nat.le_of_ble_eq_true rfl)
  rw [lg_entry_eq]
  generalize (lg_sl ([.ref rda, .ref ba, .int (jI zg)]) ++ List.replicate (7 - (lg_sl ([.ref rda, .ref ba, .int (jI zg)])).length) Slot.unset).toArray = ls at hl ⊢
  have hl : lv_has ls 7 [(0, .ref rda), (1, .ref ba), (2, .int (jI zg))] := hl
  refine ji_iconst hx hb dXR_spans_0 ?_
  refine lv_istore_n (lv' := [(3, .int (jI 0)), (0, .ref rda), (1, .ref ba), (2, .int (jI zg))]) hx hb dXR_spans_1 rfl hl (by decide) rfl (fun ls hl => ?_)
  have loop2 : ∀ (n9 : Nat) (k : Int) (q : Int) (w : Int) (yl : Int → Int) (yh : Int → Int) , 9 - k < (n9 : Int) → f_XR_spans_L2 tn tp tw tf bg bf fl fh zg n9 k q w yl yh = f_XR_spans tn tp tw tf bg bf fl fh zg → (0 ≤ k ∧ k ≤ 9) → (0 ≤ q ∧ q ≤ tn) → (∀ i, 0 ≤ yl i ∧ yl i ≤ 100000) → (∀ i, -1 ≤ yh i ∧ yh i ≤ 100000) → ∀ (H : Heap) (locs : List Loc), va_P (dC, dI) vwCl [(rda, .inr (2, [.ref ta])), (ta, .inr (3, [.ref ts, .int (jI tn), .int (jI q), .int (jI w)])), (ts, .inl (cA, 400, .inl (jA tf))), (ba, .inr (0, [.ref bt, .ref bp, .ref bl, .ref bh, .ref bq, .ref br, .ref bd, .int (jI bg), .int (jI bf)])), (bl, .inl (cA, 248, .inl (jA yl))), (bh, .inl (cA, 248, .inl (jA yh)))] H → va_D A [(rda, .inr (2, [.ref ta])), (ta, .inr (3, [.ref ts, .int (jI tn), .int (jI q), .int (jI w)])), (ts, .inl (cA, 400, .inl (jA tf))), (ba, .inr (0, [.ref bt, .ref bp, .ref bl, .ref bh, .ref bq, .ref br, .ref bd, .int (jI bg), .int (jI bf)])), (bl, .inl (cA, 248, .inl (jA yl))), (bh, .inl (cA, 248, .inl (jA yh)))] → va_S A s.heap H locs → ∀ ls : Array Slot, lv_has ls 7 [(3, .int (jI k)), (0, .ref rda), (1, .ref ba), (2, .int (jI zg))] → W p l e R s m ([.ref rda, .ref ba, .int (jI zg)] : List Value).toArray below meth c H locs 0 0 Q (F0 m 2 ls []) := by
    intro n9
    induction n9 with
    | zero =>
      intro k q w yl yh hm hF hk hq hal hah
      exact absurd hm (by omega)
    | succ n9 ih2 =>
      intro k q w yl yh hm hF hk hq hal hah H locs hP hD hS ls hl
      refine lv_iload_n hx hb dXR_spans_2 rfl (lv_at hl 0 rfl) ?_
      refine ji_bipush hx hb dXR_spans_3 (by decide) ?_
      refine ji_icmp_gt (tgt := 130) hx hb dXR_spans_5 (by decide) (by omega) (by omega) (fun c5_ => ?_) (fun c5_ => ?_)
      · refine ji_iconst hx hb dXR_spans_130 ?_
        have hP9 := hP.sub (ws' := [(rda, .inr (2, [.ref ta])), (ta, .inr (3, [.ref ts, .int (jI tn), .int (jI q), .int (jI w)])), (ts, .inl (cA, 400, .inl (jA tf))), (ba, .inr (0, [.ref bt, .ref bp, .ref bl, .ref bh, .ref bq, .ref br, .ref bd, .int (jI bg), .int (jI bf)])), (bl, .inl (cA, 248, .inl (jA yl))), (bh, .inl (cA, 248, .inl (jA yh)))]) [0, 1, 2, 3, 4, 5] rfl
        have hD9 := hD.sub (ws' := [(rda, .inr (2, [.ref ta])), (ta, .inr (3, [.ref ts, .int (jI tn), .int (jI q), .int (jI w)])), (ts, .inl (cA, 400, .inl (jA tf))), (ba, .inr (0, [.ref bt, .ref bp, .ref bl, .ref bh, .ref bq, .ref br, .ref bd, .int (jI bg), .int (jI bf)])), (bl, .inl (cA, 248, .inl (jA yl))), (bh, .inl (cA, 248, .inl (jA yh)))]) [0, 1, 2, 3, 4, 5] (by decide) rfl
        subst hAe
        subst hQ
        exact W.zret (v := jI 1) hx hb hr (by first | decide | exact jz (by omega)) (fun t ht hW => ⟨⟨_, (1, q, w, yl, yh), rfl, ⟨rfl, Eq.trans (by rw [f_XR_spans_L2_s]; rw [if_pos c5_]; try rfl) hF, show 0 ≤ 1 ∧ 1 ≤ 1 from by first | assumption | omega, show 0 ≤ q ∧ q ≤ tn from by first | assumption | omega, show ∀ i, 0 ≤ yl i ∧ yl i ≤ 100000 from by first | assumption | omega, show ∀ i, -1 ≤ yh i ∧ yh i ≤ 100000 from by first | assumption | omega⟩, ⟨by rw [ht]; exact hP9, va_K.moved hW.alike hK, hD9⟩⟩, hS.F ht⟩) hS.2.2 dXR_spans_131
      · refine lv_aload_n hx hb dXR_spans_8 rfl (lv_at hl 1 rfl) ?_
        refine va_get (D := (dC, dI)) (ci := 2) (v := .ref ta) (C := RXR) (T := TXR) (N := 1) hx hb hts (fun w h => jmem (inXR w h)) hown hK hP 0 rfl rfl 0 (by decide) (hts _ (jmem tw_50)) (fun _ h9 => h9) rfl dXR_spans_9 ?_
        refine jwVi (rest := []) (wr := [(rda, .inr (2, [.ref ta])), (ba, .inr (0, [.ref bt, .ref bp, .ref bl, .ref bh, .ref bq, .ref br, .ref bd, .int (jI bg), .int (jI bf)])), (bl, .inl (cA, 248, .inl (jA yl))), (bh, .inl (cA, 248, .inl (jA yh)))]) ⟨hx, hb, hml, hown, hts⟩ (c_XT_next l dC dI cA _ ta ts tn q w tf (by first | assumption | omega) (by first | assumption | omega) (by first | assumption | omega)) (cwV 0 hts (jG_V tw_142 tw_143 tw_144 tw_2 tw_145) rfl rfl rfl (by decide +kernel) (by rw [hR]; exact ⟨Nat.le_of_ble_eq_true rfl, Nat.le_of_ble_eq_true rfl⟩)) hK hP hD hS hA hN [1, 2] [0, 3, 4, 5] rfl rfl (by decide) (by decide) (by decide) 1 3 rfl rfl rfl rfl hl.1 rfl (Nat.le_of_ble_eq_true rfl) dXR_spans_12 (by rw [hR]; exact ⟨Nat.le_of_ble_eq_true rfl, Nat.le_of_ble_eq_true rfl⟩) (fun v u H locs hwb hP hD hS => ?_)
        obtain ⟨r, tp1'⟩ := u
        try dsimp only at hwb
        obtain ⟨er, hwb⟩ := hwb
        subst er
        have hP : va_P (dC, dI) vwCl [(rda, .inr (2, [.ref ta])), (ba, .inr (0, [.ref bt, .ref bp, .ref bl, .ref bh, .ref bq, .ref br, .ref bd, .int (jI bg), .int (jI bf)])), (bl, .inl (cA, 248, .inl (jA yl))), (bh, .inl (cA, 248, .inl (jA yh))), (ta, .inr (3, [.ref ts, .int (jI tn), .int (jI tp1'), .int (jI w)])), (ts, .inl (cA, 400, .inl (jA tf)))] H := hP
        have hD : va_D A [(rda, .inr (2, [.ref ta])), (ba, .inr (0, [.ref bt, .ref bp, .ref bl, .ref bh, .ref bq, .ref br, .ref bd, .int (jI bg), .int (jI bf)])), (bl, .inl (cA, 248, .inl (jA yl))), (bh, .inl (cA, 248, .inl (jA yh))), (ta, .inr (3, [.ref ts, .int (jI tn), .int (jI tp1'), .int (jI w)])), (ts, .inl (cA, 400, .inl (jA tf)))] := hD
        have f := f_XT_next_b tn q w tf (by first | assumption | omega) (by first | assumption | omega) (by first | assumption | omega)
        rw [← hwb] at f; try dsimp only at f
        refine jrNi (rest := []) ⟨hx, hb, hml, hown, hts⟩ (c_XG_isElement l dC dI cA r (by first | assumption | omega)) ⟨va_cnB 1 hts (jG (jG_c tw_237)) rfl rfl rfl (jN.n235 hN) (hts _ (jmem tw_1)) (by decide +kernel) (by rw [hR]; exact ⟨Nat.le_of_ble_eq_true rfl, Nat.le_of_ble_eq_true rfl⟩), hts _ (jmem tw_236), trivial⟩ hK hP hN [] rfl rfl hl.1 rfl (Nat.le_of_ble_eq_true rfl) dXR_spans_15 (by rw [hR]; exact ⟨Nat.le_of_ble_eq_true rfl, Nat.le_of_ble_eq_true rfl⟩) ?_
        have f1 := f_XG_isElement_01 r (by first | assumption | omega)
        refine ji_if_eq (tgt := 130) hx hb dXR_spans_18 (by decide) (by omega) (fun c18_ => ?_) (fun c18_ => ?_)
        · refine ji_iconst hx hb dXR_spans_130 ?_
          have hP9 := hP.sub (ws' := [(rda, .inr (2, [.ref ta])), (ta, .inr (3, [.ref ts, .int (jI tn), .int (jI tp1'), .int (jI w)])), (ts, .inl (cA, 400, .inl (jA tf))), (ba, .inr (0, [.ref bt, .ref bp, .ref bl, .ref bh, .ref bq, .ref br, .ref bd, .int (jI bg), .int (jI bf)])), (bl, .inl (cA, 248, .inl (jA yl))), (bh, .inl (cA, 248, .inl (jA yh)))]) [0, 4, 5, 1, 2, 3] rfl
          have hD9 := hD.sub (ws' := [(rda, .inr (2, [.ref ta])), (ta, .inr (3, [.ref ts, .int (jI tn), .int (jI tp1'), .int (jI w)])), (ts, .inl (cA, 400, .inl (jA tf))), (ba, .inr (0, [.ref bt, .ref bp, .ref bl, .ref bh, .ref bq, .ref br, .ref bd, .int (jI bg), .int (jI bf)])), (bl, .inl (cA, 248, .inl (jA yl))), (bh, .inl (cA, 248, .inl (jA yh)))]) [0, 4, 5, 1, 2, 3] (by decide) rfl
          subst hAe
          subst hQ
          exact W.zret (v := jI 1) hx hb hr (by first | decide | exact jz (by omega)) (fun t ht hW => ⟨⟨_, (1, tp1', w, yl, yh), rfl, ⟨rfl, Eq.trans (by rw [f_XR_spans_L2_s]; rw [if_neg (Int.not_lt.mpr c5_)]; rw [← hwb]; try dsimp only; rw [if_pos c18_]; try rfl) hF, show 0 ≤ 1 ∧ 1 ≤ 1 from by first | assumption | omega, show 0 ≤ tp1' ∧ tp1' ≤ tn from by first | assumption | omega, show ∀ i, 0 ≤ yl i ∧ yl i ≤ 100000 from by first | assumption | omega, show ∀ i, -1 ≤ yh i ∧ yh i ≤ 100000 from by first | assumption | omega⟩, ⟨by rw [ht]; exact hP9, va_K.moved hW.alike hK, hD9⟩⟩, hS.F ht⟩) hS.2.2 dXR_spans_131
        · refine lv_aload_n hx hb dXR_spans_21 rfl (lv_at hl 1 rfl) ?_
          refine va_get (D := (dC, dI)) (ci := 2) (v := .ref ta) (C := RXR) (T := TXR) (N := 1) hx hb hts (fun w h => jmem (inXR w h)) hown hK hP 0 rfl rfl 0 (by decide) (hts _ (jmem tw_50)) (fun _ h9 => h9) rfl dXR_spans_22 ?_
          refine ji_bipush hx hb dXR_spans_25 (by decide) ?_
          refine ji_bipush hx hb dXR_spans_27 (by decide) ?_
          refine jwVi (rest := []) (wr := [(rda, .inr (2, [.ref ta])), (ba, .inr (0, [.ref bt, .ref bp, .ref bl, .ref bh, .ref bq, .ref br, .ref bd, .int (jI bg), .int (jI bf)])), (bl, .inl (cA, 248, .inl (jA yl))), (bh, .inl (cA, 248, .inl (jA yh)))]) ⟨hx, hb, hml, hown, hts⟩ (c_XT_takeOneOf l dC dI cA _ ta ts tn tp1' w tf 65 8 (by first | assumption | omega) (by first | assumption | omega) (by first | assumption | omega) (by first | assumption | omega) (by first | assumption | omega)) (cwV 2 hts (jG_V tw_159 tw_160 tw_161 tw_2 tw_162) rfl rfl rfl (by decide +kernel) (by rw [hR]; exact ⟨Nat.le_of_ble_eq_true rfl, Nat.le_of_ble_eq_true rfl⟩)) hK hP hD hS hA hN [4, 5] [0, 1, 2, 3] rfl rfl (by decide) (by decide) (by decide) 4 3 rfl rfl rfl rfl hl.1 rfl (Nat.le_of_ble_eq_true rfl) dXR_spans_29 (by rw [hR]; exact ⟨Nat.le_of_ble_eq_true rfl, Nat.le_of_ble_eq_true rfl⟩) (fun v5 u4 H locs hwb6 hP hD hS => ?_)
          obtain ⟨r2, tp1'3, tw1'⟩ := u4
          try dsimp only at hwb6
          obtain ⟨er, hwb6⟩ := hwb6
          subst er
          have hP : va_P (dC, dI) vwCl [(rda, .inr (2, [.ref ta])), (ba, .inr (0, [.ref bt, .ref bp, .ref bl, .ref bh, .ref bq, .ref br, .ref bd, .int (jI bg), .int (jI bf)])), (bl, .inl (cA, 248, .inl (jA yl))), (bh, .inl (cA, 248, .inl (jA yh))), (ta, .inr (3, [.ref ts, .int (jI tn), .int (jI tp1'3), .int (jI tw1')])), (ts, .inl (cA, 400, .inl (jA tf)))] H := hP
          have hD : va_D A [(rda, .inr (2, [.ref ta])), (ba, .inr (0, [.ref bt, .ref bp, .ref bl, .ref bh, .ref bq, .ref br, .ref bd, .int (jI bg), .int (jI bf)])), (bl, .inl (cA, 248, .inl (jA yl))), (bh, .inl (cA, 248, .inl (jA yh))), (ta, .inr (3, [.ref ts, .int (jI tn), .int (jI tp1'3), .int (jI tw1')])), (ts, .inl (cA, 400, .inl (jA tf)))] := hD
          have f7 := f_XT_takeOneOf_b tn tp1' w tf 65 8 (by first | assumption | omega) (by first | assumption | omega) (by first | assumption | omega) (by first | assumption | omega) (by first | assumption | omega)
          rw [← hwb6] at f7; try dsimp only at f7
          refine lv_istore (lv' := [(4, .int (jI r2)), (3, .int (jI k)), (0, .ref rda), (1, .ref ba), (2, .int (jI zg))]) hx hb dXR_spans_32 hl (by decide) rfl (fun ls hl => ?_)
          refine lv_iload hx hb dXR_spans_34 (lv_at hl 0 rfl) ?_
          refine ji_iconst hx hb dXR_spans_36 ?_
          refine ji_icmp_ne (tgt := 42) hx hb dXR_spans_37 (by decide) (by omega) (by omega) (fun c37_ => ?_) (fun c37_ => ?_)
          · refine lv_aload_n hx hb dXR_spans_42 rfl (lv_at hl 3 rfl) ?_
            refine lv_iload_n hx hb dXR_spans_43 rfl (lv_at hl 4 rfl) ?_
            refine lv_iload hx hb dXR_spans_44 (lv_at hl 0 rfl) ?_
            refine jrVi (rest := []) ⟨hx, hb, hml, hown, hts⟩ (c_XB_tellsSpan l dC dI cA ba bt bp bl bh bq br bd bg bf yh zg r2 (by first | assumption | omega) (by first | assumption | omega) (by first | assumption | omega)) (cwV 2 hts (jG_V tw_238 tw_239 tw_240 tw_5 tw_241) rfl rfl rfl (by decide +kernel) (by rw [hR]; exact ⟨Nat.le_of_ble_eq_true rfl, Nat.le_of_ble_eq_true rfl⟩)) hK hP hN [1, 3] rfl 1 0 rfl rfl rfl rfl hl.1 rfl (Nat.le_of_ble_eq_true rfl) dXR_spans_46 (by rw [hR]; exact ⟨Nat.le_of_ble_eq_true rfl, Nat.le_of_ble_eq_true rfl⟩) ?_
            have f8 := f_XB_tellsSpan_b bg bf yh zg r2 (by first | assumption | omega) (by first | assumption | omega) (by first | assumption | omega)
            have f9 := f_XB_tellsSpan_c bg bf yh zg r2 (by first | assumption | omega) (by first | assumption | omega) (by first | assumption | omega)
            refine ji_if_eq (tgt := 60) hx hb dXR_spans_49 (by decide) (by omega) (fun c49_ => ?_) (fun c49_ => ?_)
            · refine lv_aload_n hx hb dXR_spans_60 rfl (lv_at hl 2 rfl) ?_
              refine va_get (D := (dC, dI)) (ci := 2) (v := .ref ta) (C := RXR) (T := TXR) (N := 1) hx hb hts (fun w h => jmem (inXR w h)) hown hK hP 0 rfl rfl 0 (by decide) (hts _ (jmem tw_50)) (fun _ h9 => h9) rfl dXR_spans_61 ?_
              refine ji_iconst hx hb dXR_spans_64 ?_
              refine lv_ldc hx hb hown (hts _ (jmem tw_242)) dXR_spans_65 ?_
              refine ji_re (y := 100000) (by decide) ?_
              refine jwVi (rest := []) (wr := [(rda, .inr (2, [.ref ta])), (ba, .inr (0, [.ref bt, .ref bp, .ref bl, .ref bh, .ref bq, .ref br, .ref bd, .int (jI bg), .int (jI bf)])), (bl, .inl (cA, 248, .inl (jA yl))), (bh, .inl (cA, 248, .inl (jA yh)))]) ⟨hx, hb, hml, hown, hts⟩ (c_XT_number l dC dI cA _ ta ts tn tp1'3 tw1' tf 0 100000 (by first | assumption | omega) (by first | assumption | omega) (by first | assumption | omega) (by first | assumption | omega) (by first | assumption | omega)) (cwV 2 hts (jG_V tw_194 tw_195 tw_196 tw_2 tw_197) rfl rfl rfl (by decide +kernel) (by rw [hR]; exact ⟨Nat.le_of_ble_eq_true rfl, Nat.le_of_ble_eq_true rfl⟩)) hK hP hD hS hA hN [4, 5] [0, 1, 2, 3] rfl rfl (by decide) (by decide) (by decide) 4 3 rfl rfl rfl rfl hl.1 rfl (Nat.le_of_ble_eq_true rfl) dXR_spans_67 (by rw [hR]; exact ⟨Nat.le_of_ble_eq_true rfl, Nat.le_of_ble_eq_true rfl⟩) (fun v14 u13 H locs hwb15 hP hD hS => ?_)
              obtain ⟨r10, tp1'11, tw1'12⟩ := u13
              try dsimp only at hwb15
              obtain ⟨er, hwb15⟩ := hwb15
              subst er
              have hP : va_P (dC, dI) vwCl [(rda, .inr (2, [.ref ta])), (ba, .inr (0, [.ref bt, .ref bp, .ref bl, .ref bh, .ref bq, .ref br, .ref bd, .int (jI bg), .int (jI bf)])), (bl, .inl (cA, 248, .inl (jA yl))), (bh, .inl (cA, 248, .inl (jA yh))), (ta, .inr (3, [.ref ts, .int (jI tn), .int (jI tp1'11), .int (jI tw1'12)])), (ts, .inl (cA, 400, .inl (jA tf)))] H := hP
              have hD : va_D A [(rda, .inr (2, [.ref ta])), (ba, .inr (0, [.ref bt, .ref bp, .ref bl, .ref bh, .ref bq, .ref br, .ref bd, .int (jI bg), .int (jI bf)])), (bl, .inl (cA, 248, .inl (jA yl))), (bh, .inl (cA, 248, .inl (jA yh))), (ta, .inr (3, [.ref ts, .int (jI tn), .int (jI tp1'11), .int (jI tw1'12)])), (ts, .inl (cA, 400, .inl (jA tf)))] := hD
              have f16 := f_XT_number_b tn tp1'3 tw1' tf 0 100000 (by first | assumption | omega) (by first | assumption | omega) (by first | assumption | omega) (by first | assumption | omega) (by first | assumption | omega)
              rw [← hwb15] at f16; try dsimp only at f16
              refine lv_istore (lv' := [(5, .int (jI r10)), (4, .int (jI r2)), (3, .int (jI k)), (0, .ref rda), (1, .ref ba), (2, .int (jI zg))]) hx hb dXR_spans_70 hl (by decide) rfl (fun ls hl => ?_)
              refine lv_iload hx hb dXR_spans_72 (lv_at hl 0 rfl) ?_
              refine ji_iconst hx hb dXR_spans_74 ?_
              refine ji_icmp_eq (tgt := 90) hx hb dXR_spans_75 (by decide) (by omega) (by omega) (fun c75_ => ?_) (fun c75_ => ?_)
              · refine ji_iconst hx hb dXR_spans_90 ?_
                have hP9 := hP.sub (ws' := [(rda, .inr (2, [.ref ta])), (ta, .inr (3, [.ref ts, .int (jI tn), .int (jI tp1'11), .int (jI tw1'12)])), (ts, .inl (cA, 400, .inl (jA tf))), (ba, .inr (0, [.ref bt, .ref bp, .ref bl, .ref bh, .ref bq, .ref br, .ref bd, .int (jI bg), .int (jI bf)])), (bl, .inl (cA, 248, .inl (jA yl))), (bh, .inl (cA, 248, .inl (jA yh)))]) [0, 4, 5, 1, 2, 3] rfl
                have hD9 := hD.sub (ws' := [(rda, .inr (2, [.ref ta])), (ta, .inr (3, [.ref ts, .int (jI tn), .int (jI tp1'11), .int (jI tw1'12)])), (ts, .inl (cA, 400, .inl (jA tf))), (ba, .inr (0, [.ref bt, .ref bp, .ref bl, .ref bh, .ref bq, .ref br, .ref bd, .int (jI bg), .int (jI bf)])), (bl, .inl (cA, 248, .inl (jA yl))), (bh, .inl (cA, 248, .inl (jA yh)))]) [0, 4, 5, 1, 2, 3] (by decide) rfl
                subst hAe
                subst hQ
                exact W.zret (v := jI 0) hx hb hr (by first | decide | exact jz (by omega)) (fun t ht hW => ⟨⟨_, (0, tp1'11, tw1'12, yl, yh), rfl, ⟨rfl, Eq.trans (by rw [f_XR_spans_L2_s]; rw [if_neg (Int.not_lt.mpr c5_)]; rw [← hwb]; try dsimp only; rw [if_neg c18_]; rw [← hwb6]; try dsimp only; rw [if_neg c37_, if_pos c49_]; rw [← hwb15]; try dsimp only; rw [if_pos c75_]; try rfl) hF, show 0 ≤ 0 ∧ 0 ≤ 1 from by first | assumption | omega, show 0 ≤ tp1'11 ∧ tp1'11 ≤ tn from by first | assumption | omega, show ∀ i, 0 ≤ yl i ∧ yl i ≤ 100000 from by first | assumption | omega, show ∀ i, -1 ≤ yh i ∧ yh i ≤ 100000 from by first | assumption | omega⟩, ⟨by rw [ht]; exact hP9, va_K.moved hW.alike hK, hD9⟩⟩, hS.F ht⟩) hS.2.2 dXR_spans_91
              · refine lv_aload_n hx hb dXR_spans_78 rfl (lv_at hl 3 rfl) ?_
                refine va_get (D := (dC, dI)) (ci := 2) (v := .ref ta) (C := RXR) (T := TXR) (N := 1) hx hb hts (fun w h => jmem (inXR w h)) hown hK hP 0 rfl rfl 0 (by decide) (hts _ (jmem tw_50)) (fun _ h9 => h9) rfl dXR_spans_79 ?_
                refine ji_bipush hx hb dXR_spans_82 (by decide) ?_
                refine jwVi (rest := []) (wr := [(rda, .inr (2, [.ref ta])), (ba, .inr (0, [.ref bt, .ref bp, .ref bl, .ref bh, .ref bq, .ref br, .ref bd, .int (jI bg), .int (jI bf)])), (bl, .inl (cA, 248, .inl (jA yl))), (bh, .inl (cA, 248, .inl (jA yh)))]) ⟨hx, hb, hml, hown, hts⟩ (c_XT_take l dC dI cA _ ta ts tn tp1'11 tw1'12 tf 45 (by first | assumption | omega) (by first | assumption | omega) (by first | assumption | omega) (by first | assumption | omega) (by first | assumption | omega)) (cwV 1 hts (jG_V tw_182 tw_183 tw_184 tw_2 tw_185) rfl rfl rfl (by decide +kernel) (by rw [hR]; exact ⟨Nat.le_of_ble_eq_true rfl, Nat.le_of_ble_eq_true rfl⟩)) hK hP hD hS hA hN [4, 5] [0, 1, 2, 3] rfl rfl (by decide) (by decide) (by decide) 4 3 rfl rfl rfl rfl hl.1 rfl (Nat.le_of_ble_eq_true rfl) dXR_spans_84 (by rw [hR]; exact ⟨Nat.le_of_ble_eq_true rfl, Nat.le_of_ble_eq_true rfl⟩) (fun v21 u20 H locs hwb22 hP hD hS => ?_)
                obtain ⟨r17, tp1'18, tw1'19⟩ := u20
                try dsimp only at hwb22
                obtain ⟨er, hwb22⟩ := hwb22
                subst er
                have hP : va_P (dC, dI) vwCl [(rda, .inr (2, [.ref ta])), (ba, .inr (0, [.ref bt, .ref bp, .ref bl, .ref bh, .ref bq, .ref br, .ref bd, .int (jI bg), .int (jI bf)])), (bl, .inl (cA, 248, .inl (jA yl))), (bh, .inl (cA, 248, .inl (jA yh))), (ta, .inr (3, [.ref ts, .int (jI tn), .int (jI tp1'18), .int (jI tw1'19)])), (ts, .inl (cA, 400, .inl (jA tf)))] H := hP
                have hD : va_D A [(rda, .inr (2, [.ref ta])), (ba, .inr (0, [.ref bt, .ref bp, .ref bl, .ref bh, .ref bq, .ref br, .ref bd, .int (jI bg), .int (jI bf)])), (bl, .inl (cA, 248, .inl (jA yl))), (bh, .inl (cA, 248, .inl (jA yh))), (ta, .inr (3, [.ref ts, .int (jI tn), .int (jI tp1'18), .int (jI tw1'19)])), (ts, .inl (cA, 400, .inl (jA tf)))] := hD
                have f23 := f_XT_take_b tn tp1'11 tw1'12 tf 45 (by first | assumption | omega) (by first | assumption | omega) (by first | assumption | omega) (by first | assumption | omega) (by first | assumption | omega)
                rw [← hwb22] at f23; try dsimp only at f23
                refine ji_if_ne (tgt := 92) hx hb dXR_spans_87 (by decide) (by omega) (fun c87_ => ?_) (fun c87_ => ?_)
                · refine lv_aload_n hx hb dXR_spans_92 rfl (lv_at hl 3 rfl) ?_
                  refine va_get (D := (dC, dI)) (ci := 2) (v := .ref ta) (C := RXR) (T := TXR) (N := 1) hx hb hts (fun w h => jmem (inXR w h)) hown hK hP 0 rfl rfl 0 (by decide) (hts _ (jmem tw_50)) (fun _ h9 => h9) rfl dXR_spans_93 ?_
                  refine lv_iload hx hb dXR_spans_96 (lv_at hl 0 rfl) ?_
                  refine lv_ldc hx hb hown (hts _ (jmem tw_242)) dXR_spans_98 ?_
                  refine ji_re (y := 100000) (by decide) ?_
                  refine jwVi (rest := []) (wr := [(rda, .inr (2, [.ref ta])), (ba, .inr (0, [.ref bt, .ref bp, .ref bl, .ref bh, .ref bq, .ref br, .ref bd, .int (jI bg), .int (jI bf)])), (bl, .inl (cA, 248, .inl (jA yl))), (bh, .inl (cA, 248, .inl (jA yh)))]) ⟨hx, hb, hml, hown, hts⟩ (c_XT_number l dC dI cA _ ta ts tn tp1'18 tw1'19 tf r10 100000 (by first | assumption | omega) (by first | assumption | omega) (by first | assumption | omega) (by first | assumption | omega) (by first | assumption | omega)) (cwV 2 hts (jG_V tw_194 tw_195 tw_196 tw_2 tw_197) rfl rfl rfl (by decide +kernel) (by rw [hR]; exact ⟨Nat.le_of_ble_eq_true rfl, Nat.le_of_ble_eq_true rfl⟩)) hK hP hD hS hA hN [4, 5] [0, 1, 2, 3] rfl rfl (by decide) (by decide) (by decide) 4 3 rfl rfl rfl rfl hl.1 rfl (Nat.le_of_ble_eq_true rfl) dXR_spans_100 (by rw [hR]; exact ⟨Nat.le_of_ble_eq_true rfl, Nat.le_of_ble_eq_true rfl⟩) (fun v28 u27 H locs hwb29 hP hD hS => ?_)
                  obtain ⟨r24, tp1'25, tw1'26⟩ := u27
                  try dsimp only at hwb29
                  obtain ⟨er, hwb29⟩ := hwb29
                  subst er
                  have hP : va_P (dC, dI) vwCl [(rda, .inr (2, [.ref ta])), (ba, .inr (0, [.ref bt, .ref bp, .ref bl, .ref bh, .ref bq, .ref br, .ref bd, .int (jI bg), .int (jI bf)])), (bl, .inl (cA, 248, .inl (jA yl))), (bh, .inl (cA, 248, .inl (jA yh))), (ta, .inr (3, [.ref ts, .int (jI tn), .int (jI tp1'25), .int (jI tw1'26)])), (ts, .inl (cA, 400, .inl (jA tf)))] H := hP
                  have hD : va_D A [(rda, .inr (2, [.ref ta])), (ba, .inr (0, [.ref bt, .ref bp, .ref bl, .ref bh, .ref bq, .ref br, .ref bd, .int (jI bg), .int (jI bf)])), (bl, .inl (cA, 248, .inl (jA yl))), (bh, .inl (cA, 248, .inl (jA yh))), (ta, .inr (3, [.ref ts, .int (jI tn), .int (jI tp1'25), .int (jI tw1'26)])), (ts, .inl (cA, 400, .inl (jA tf)))] := hD
                  have f30 := f_XT_number_b tn tp1'18 tw1'19 tf r10 100000 (by first | assumption | omega) (by first | assumption | omega) (by first | assumption | omega) (by first | assumption | omega) (by first | assumption | omega)
                  rw [← hwb29] at f30; try dsimp only at f30
                  refine lv_istore (lv' := [(6, .int (jI r24)), (5, .int (jI r10)), (4, .int (jI r2)), (3, .int (jI k)), (0, .ref rda), (1, .ref ba), (2, .int (jI zg))]) hx hb dXR_spans_103 hl (by decide) rfl (fun ls hl => ?_)
                  refine lv_iload hx hb dXR_spans_105 (lv_at hl 0 rfl) ?_
                  refine ji_iconst hx hb dXR_spans_107 ?_
                  refine ji_icmp_ne (tgt := 113) hx hb dXR_spans_108 (by decide) (by omega) (by omega) (fun c108_ => ?_) (fun c108_ => ?_)
                  · refine lv_aload_n hx hb dXR_spans_113 rfl (lv_at hl 5 rfl) ?_
                    refine lv_iload_n hx hb dXR_spans_114 rfl (lv_at hl 6 rfl) ?_
                    refine lv_iload hx hb dXR_spans_115 (lv_at hl 2 rfl) ?_
                    refine lv_iload hx hb dXR_spans_117 (lv_at hl 1 rfl) ?_
                    refine lv_iload hx hb dXR_spans_119 (lv_at hl 0 rfl) ?_
                    refine jwVv (rest := []) (wr := [(rda, .inr (2, [.ref ta])), (ta, .inr (3, [.ref ts, .int (jI tn), .int (jI tp1'25), .int (jI tw1'26)])), (ts, .inl (cA, 400, .inl (jA tf)))]) ⟨hx, hb, hml, hown, hts⟩ (c_XB_tellSpan l dC dI cA _ ba bt bp bl bh bq br bd bg bf yl yh zg r2 r10 r24 (by first | assumption | omega) (by first | assumption | omega) (by first | assumption | omega) (by first | assumption | omega) (by first | assumption | omega) (by first | assumption | omega)) (cwV 4 hts (jG_V tw_243 tw_244 tw_245 tw_5 tw_246) rfl rfl rfl (by decide +kernel) (by rw [hR]; exact ⟨Nat.le_of_ble_eq_true rfl, Nat.le_of_ble_eq_true rfl⟩)) hK hP hD hS hA hN [1, 2, 3] [0, 4, 5] rfl rfl (by decide) (by decide) (by decide) 1 0 rfl rfl rfl rfl hl.1 rfl (Nat.le_of_ble_eq_true rfl) dXR_spans_121 (by rw [hR]; exact ⟨Nat.le_of_ble_eq_true rfl, Nat.le_of_ble_eq_true rfl⟩) (fun u31 H locs hwb32 hP hD hS => ?_)
                    obtain ⟨fl1', fh1'⟩ := u31
                    try dsimp only at hwb32
                    have hP : va_P (dC, dI) vwCl [(rda, .inr (2, [.ref ta])), (ta, .inr (3, [.ref ts, .int (jI tn), .int (jI tp1'25), .int (jI tw1'26)])), (ts, .inl (cA, 400, .inl (jA tf))), (ba, .inr (0, [.ref bt, .ref bp, .ref bl, .ref bh, .ref bq, .ref br, .ref bd, .int (jI bg), .int (jI bf)])), (bl, .inl (cA, 248, .inl (jA fl1'))), (bh, .inl (cA, 248, .inl (jA fh1')))] H := hP
                    have hD : va_D A [(rda, .inr (2, [.ref ta])), (ta, .inr (3, [.ref ts, .int (jI tn), .int (jI tp1'25), .int (jI tw1'26)])), (ts, .inl (cA, 400, .inl (jA tf))), (ba, .inr (0, [.ref bt, .ref bp, .ref bl, .ref bh, .ref bq, .ref br, .ref bd, .int (jI bg), .int (jI bf)])), (bl, .inl (cA, 248, .inl (jA fl1'))), (bh, .inl (cA, 248, .inl (jA fh1')))] := hD
                    have f33 := f_XB_tellSpan_l bg bf yl yh zg r2 r10 r24 (by first | assumption | omega) (by first | assumption | omega) (by first | assumption | omega) (by first | assumption | omega) (by first | assumption | omega) (by first | assumption | omega)
                    rw [← hwb32] at f33; try dsimp only at f33
                    have f34 := f_XB_tellSpan_h bg bf yl yh zg r2 r10 r24 (by first | assumption | omega) (by first | assumption | omega) (by first | assumption | omega) (by first | assumption | omega) (by first | assumption | omega) (by first | assumption | omega)
                    rw [← hwb32] at f34; try dsimp only at f34
                    refine ji_iinc (k := 3) (lv' := [(3, .int (jI (k + 1))), (6, .int (jI r24)), (5, .int (jI r10)), (4, .int (jI r2)), (0, .ref rda), (1, .ref ba), (2, .int (jI zg))]) hx hb dXR_spans_124 hl rfl (by decide) rfl (fun ls hl => ?_)
                    refine lv_goto (tgt := 2) hx hb dXR_spans_127 (by decide) ?_
                    exact ih2 (k + 1) tp1'25 tw1'26 fl1' fh1' (by omega) (Eq.trans (by rw [f_XR_spans_L2_s]; rw [if_neg (Int.not_lt.mpr c5_)]; rw [← hwb]; try dsimp only; rw [if_neg c18_]; rw [← hwb6]; try dsimp only; rw [if_neg c37_, if_pos c49_]; rw [← hwb15]; try dsimp only; rw [if_neg c75_]; rw [← hwb22]; try dsimp only; rw [if_neg c87_]; rw [← hwb29]; try dsimp only; rw [if_neg c108_]; rw [← hwb32]; try dsimp only; try rfl) hF) (by first | assumption | omega) (by first | assumption | omega) (by first | assumption | omega) (by first | assumption | omega) _ _ hP hD hS ls (lv_sub hl [0, 4, 5, 6] rfl)
                  · refine ji_iconst hx hb dXR_spans_111 ?_
                    have hP9 := hP.sub (ws' := [(rda, .inr (2, [.ref ta])), (ta, .inr (3, [.ref ts, .int (jI tn), .int (jI tp1'25), .int (jI tw1'26)])), (ts, .inl (cA, 400, .inl (jA tf))), (ba, .inr (0, [.ref bt, .ref bp, .ref bl, .ref bh, .ref bq, .ref br, .ref bd, .int (jI bg), .int (jI bf)])), (bl, .inl (cA, 248, .inl (jA yl))), (bh, .inl (cA, 248, .inl (jA yh)))]) [0, 4, 5, 1, 2, 3] rfl
                    have hD9 := hD.sub (ws' := [(rda, .inr (2, [.ref ta])), (ta, .inr (3, [.ref ts, .int (jI tn), .int (jI tp1'25), .int (jI tw1'26)])), (ts, .inl (cA, 400, .inl (jA tf))), (ba, .inr (0, [.ref bt, .ref bp, .ref bl, .ref bh, .ref bq, .ref br, .ref bd, .int (jI bg), .int (jI bf)])), (bl, .inl (cA, 248, .inl (jA yl))), (bh, .inl (cA, 248, .inl (jA yh)))]) [0, 4, 5, 1, 2, 3] (by decide) rfl
                    subst hAe
                    subst hQ
                    exact W.zret (v := jI 0) hx hb hr (by first | decide | exact jz (by omega)) (fun t ht hW => ⟨⟨_, (0, tp1'25, tw1'26, yl, yh), rfl, ⟨rfl, Eq.trans (by rw [f_XR_spans_L2_s]; rw [if_neg (Int.not_lt.mpr c5_)]; rw [← hwb]; try dsimp only; rw [if_neg c18_]; rw [← hwb6]; try dsimp only; rw [if_neg c37_, if_pos c49_]; rw [← hwb15]; try dsimp only; rw [if_neg c75_]; rw [← hwb22]; try dsimp only; rw [if_neg c87_]; rw [← hwb29]; try dsimp only; rw [if_pos c108_]; try rfl) hF, show 0 ≤ 0 ∧ 0 ≤ 1 from by first | assumption | omega, show 0 ≤ tp1'25 ∧ tp1'25 ≤ tn from by first | assumption | omega, show ∀ i, 0 ≤ yl i ∧ yl i ≤ 100000 from by first | assumption | omega, show ∀ i, -1 ≤ yh i ∧ yh i ≤ 100000 from by first | assumption | omega⟩, ⟨by rw [ht]; exact hP9, va_K.moved hW.alike hK, hD9⟩⟩, hS.F ht⟩) hS.2.2 dXR_spans_112
                · refine ji_iconst hx hb dXR_spans_90 ?_
                  have hP9 := hP.sub (ws' := [(rda, .inr (2, [.ref ta])), (ta, .inr (3, [.ref ts, .int (jI tn), .int (jI tp1'18), .int (jI tw1'19)])), (ts, .inl (cA, 400, .inl (jA tf))), (ba, .inr (0, [.ref bt, .ref bp, .ref bl, .ref bh, .ref bq, .ref br, .ref bd, .int (jI bg), .int (jI bf)])), (bl, .inl (cA, 248, .inl (jA yl))), (bh, .inl (cA, 248, .inl (jA yh)))]) [0, 4, 5, 1, 2, 3] rfl
                  have hD9 := hD.sub (ws' := [(rda, .inr (2, [.ref ta])), (ta, .inr (3, [.ref ts, .int (jI tn), .int (jI tp1'18), .int (jI tw1'19)])), (ts, .inl (cA, 400, .inl (jA tf))), (ba, .inr (0, [.ref bt, .ref bp, .ref bl, .ref bh, .ref bq, .ref br, .ref bd, .int (jI bg), .int (jI bf)])), (bl, .inl (cA, 248, .inl (jA yl))), (bh, .inl (cA, 248, .inl (jA yh)))]) [0, 4, 5, 1, 2, 3] (by decide) rfl
                  subst hAe
                  subst hQ
                  exact W.zret (v := jI 0) hx hb hr (by first | decide | exact jz (by omega)) (fun t ht hW => ⟨⟨_, (0, tp1'18, tw1'19, yl, yh), rfl, ⟨rfl, Eq.trans (by rw [f_XR_spans_L2_s]; rw [if_neg (Int.not_lt.mpr c5_)]; rw [← hwb]; try dsimp only; rw [if_neg c18_]; rw [← hwb6]; try dsimp only; rw [if_neg c37_, if_pos c49_]; rw [← hwb15]; try dsimp only; rw [if_neg c75_]; rw [← hwb22]; try dsimp only; rw [if_pos c87_]; try rfl) hF, show 0 ≤ 0 ∧ 0 ≤ 1 from by first | assumption | omega, show 0 ≤ tp1'18 ∧ tp1'18 ≤ tn from by first | assumption | omega, show ∀ i, 0 ≤ yl i ∧ yl i ≤ 100000 from by first | assumption | omega, show ∀ i, -1 ≤ yh i ∧ yh i ≤ 100000 from by first | assumption | omega⟩, ⟨by rw [ht]; exact hP9, va_K.moved hW.alike hK, hD9⟩⟩, hS.F ht⟩) hS.2.2 dXR_spans_91
            · refine lv_aload_n hx hb dXR_spans_52 rfl (lv_at hl 2 rfl) ?_
              refine va_get (D := (dC, dI)) (ci := 2) (v := .ref ta) (C := RXR) (T := TXR) (N := 1) hx hb hts (fun w h => jmem (inXR w h)) hown hK hP 0 rfl rfl 0 (by decide) (hts _ (jmem tw_50)) (fun _ h9 => h9) rfl dXR_spans_53 ?_
              refine jwVi (rest := []) (wr := [(rda, .inr (2, [.ref ta])), (ba, .inr (0, [.ref bt, .ref bp, .ref bl, .ref bh, .ref bq, .ref br, .ref bd, .int (jI bg), .int (jI bf)])), (bl, .inl (cA, 248, .inl (jA yl))), (bh, .inl (cA, 248, .inl (jA yh)))]) ⟨hx, hb, hml, hown, hts⟩ (c_XT_refuseLast l dC dI cA _ ta ts tn tp1'3 tw1' tf) (cwV 0 hts (jG_V tw_174 tw_175 tw_176 tw_2 tw_177) rfl rfl rfl (by decide +kernel) (by rw [hR]; exact ⟨Nat.le_of_ble_eq_true rfl, Nat.le_of_ble_eq_true rfl⟩)) hK hP hD hS hA hN [4, 5] [0, 1, 2, 3] rfl rfl (by decide) (by decide) (by decide) 4 3 rfl rfl rfl rfl hl.1 rfl (Nat.le_of_ble_eq_true rfl) dXR_spans_56 (by rw [hR]; exact ⟨Nat.le_of_ble_eq_true rfl, Nat.le_of_ble_eq_true rfl⟩) (fun v38 u37 H locs hwb39 hP hD hS => ?_)
              obtain ⟨r35, tw1'36⟩ := u37
              try dsimp only at hwb39
              obtain ⟨er, hwb39⟩ := hwb39
              subst er
              have hP : va_P (dC, dI) vwCl [(rda, .inr (2, [.ref ta])), (ba, .inr (0, [.ref bt, .ref bp, .ref bl, .ref bh, .ref bq, .ref br, .ref bd, .int (jI bg), .int (jI bf)])), (bl, .inl (cA, 248, .inl (jA yl))), (bh, .inl (cA, 248, .inl (jA yh))), (ta, .inr (3, [.ref ts, .int (jI tn), .int (jI tp1'3), .int (jI tw1'36)])), (ts, .inl (cA, 400, .inl (jA tf)))] H := hP
              have hD : va_D A [(rda, .inr (2, [.ref ta])), (ba, .inr (0, [.ref bt, .ref bp, .ref bl, .ref bh, .ref bq, .ref br, .ref bd, .int (jI bg), .int (jI bf)])), (bl, .inl (cA, 248, .inl (jA yl))), (bh, .inl (cA, 248, .inl (jA yh))), (ta, .inr (3, [.ref ts, .int (jI tn), .int (jI tp1'3), .int (jI tw1'36)])), (ts, .inl (cA, 400, .inl (jA tf)))] := hD
              have f40 := f_XT_refuseLast_b tn tp1'3 tw1' tf
              rw [← hwb39] at f40; try dsimp only at f40
              have hP9 := hP.sub (ws' := [(rda, .inr (2, [.ref ta])), (ta, .inr (3, [.ref ts, .int (jI tn), .int (jI tp1'3), .int (jI tw1'36)])), (ts, .inl (cA, 400, .inl (jA tf))), (ba, .inr (0, [.ref bt, .ref bp, .ref bl, .ref bh, .ref bq, .ref br, .ref bd, .int (jI bg), .int (jI bf)])), (bl, .inl (cA, 248, .inl (jA yl))), (bh, .inl (cA, 248, .inl (jA yh)))]) [0, 4, 5, 1, 2, 3] rfl
              have hD9 := hD.sub (ws' := [(rda, .inr (2, [.ref ta])), (ta, .inr (3, [.ref ts, .int (jI tn), .int (jI tp1'3), .int (jI tw1'36)])), (ts, .inl (cA, 400, .inl (jA tf))), (ba, .inr (0, [.ref bt, .ref bp, .ref bl, .ref bh, .ref bq, .ref br, .ref bd, .int (jI bg), .int (jI bf)])), (bl, .inl (cA, 248, .inl (jA yl))), (bh, .inl (cA, 248, .inl (jA yh)))]) [0, 4, 5, 1, 2, 3] (by decide) rfl
              subst hAe
              subst hQ
              exact W.zret (v := jI r35) hx hb hr (by first | decide | exact jz (by omega)) (fun t ht hW => ⟨⟨_, (r35, tp1'3, tw1'36, yl, yh), rfl, ⟨rfl, Eq.trans (by rw [f_XR_spans_L2_s]; rw [if_neg (Int.not_lt.mpr c5_)]; rw [← hwb]; try dsimp only; rw [if_neg c18_]; rw [← hwb6]; try dsimp only; rw [if_neg c37_, if_neg c49_]; rw [← hwb39]; try dsimp only; try rfl) hF, show 0 ≤ r35 ∧ r35 ≤ 1 from by first | assumption | omega, show 0 ≤ tp1'3 ∧ tp1'3 ≤ tn from by first | assumption | omega, show ∀ i, 0 ≤ yl i ∧ yl i ≤ 100000 from by first | assumption | omega, show ∀ i, -1 ≤ yh i ∧ yh i ≤ 100000 from by first | assumption | omega⟩, ⟨by rw [ht]; exact hP9, va_K.moved hW.alike hK, hD9⟩⟩, hS.F ht⟩) hS.2.2 dXR_spans_59
          · refine ji_iconst hx hb dXR_spans_40 ?_
            have hP9 := hP.sub (ws' := [(rda, .inr (2, [.ref ta])), (ta, .inr (3, [.ref ts, .int (jI tn), .int (jI tp1'3), .int (jI tw1')])), (ts, .inl (cA, 400, .inl (jA tf))), (ba, .inr (0, [.ref bt, .ref bp, .ref bl, .ref bh, .ref bq, .ref br, .ref bd, .int (jI bg), .int (jI bf)])), (bl, .inl (cA, 248, .inl (jA yl))), (bh, .inl (cA, 248, .inl (jA yh)))]) [0, 4, 5, 1, 2, 3] rfl
            have hD9 := hD.sub (ws' := [(rda, .inr (2, [.ref ta])), (ta, .inr (3, [.ref ts, .int (jI tn), .int (jI tp1'3), .int (jI tw1')])), (ts, .inl (cA, 400, .inl (jA tf))), (ba, .inr (0, [.ref bt, .ref bp, .ref bl, .ref bh, .ref bq, .ref br, .ref bd, .int (jI bg), .int (jI bf)])), (bl, .inl (cA, 248, .inl (jA yl))), (bh, .inl (cA, 248, .inl (jA yh)))]) [0, 4, 5, 1, 2, 3] (by decide) rfl
            subst hAe
            subst hQ
            exact W.zret (v := jI 0) hx hb hr (by first | decide | exact jz (by omega)) (fun t ht hW => ⟨⟨_, (0, tp1'3, tw1', yl, yh), rfl, ⟨rfl, Eq.trans (by rw [f_XR_spans_L2_s]; rw [if_neg (Int.not_lt.mpr c5_)]; rw [← hwb]; try dsimp only; rw [if_neg c18_]; rw [← hwb6]; try dsimp only; rw [if_pos c37_]; try rfl) hF, show 0 ≤ 0 ∧ 0 ≤ 1 from by first | assumption | omega, show 0 ≤ tp1'3 ∧ tp1'3 ≤ tn from by first | assumption | omega, show ∀ i, 0 ≤ yl i ∧ yl i ≤ 100000 from by first | assumption | omega, show ∀ i, -1 ≤ yh i ∧ yh i ≤ 100000 from by first | assumption | omega⟩, ⟨by rw [ht]; exact hP9, va_K.moved hW.alike hK, hD9⟩⟩, hS.F ht⟩) hS.2.2 dXR_spans_41
  exact loop2 (Int.toNat (9 - 0) + 1) 0 tp tw fl fh (by omega) (Eq.trans (by rw [f_XR_spans_s]; try rfl) rfl) (by first | assumption | omega) (by first | assumption | omega) (by first | assumption | omega) (by first | assumption | omega) _ _ hP hD hS ls (lv_sub hl [0, 1, 2, 3] rfl)
noncomputable def g_XR_routes_L19 (tn : Int) (tp : Int) (tw : Int) (tf : Int → Int) (bg : Int) (bf : Int) (fr : Int → Int) (zg : Int) : Nat → Int → Int → Int → Int → (Int → Int) → Int × Int × Int × (Int → Int)
  | 0, _, _, _, _, _ => (0, 0, 0, fun _ => 0)
  | n9 + 1, k, v, q, w, yr =>
    if k < 4 then
      if 0 < k then
        match f_XT_next tn q w tf with
        | (r15, tp1'16) =>
          if (f_XG_isDigit r15) = 0 then
            (1, tp1'16, w, yr)
          else
            match f_XT_takeOneOf tn tp1'16 w tf 48 8 with
            | (r22, tp1'23, tw1'24) =>
              if r22 = (-1) then
                (0, tp1'23, tw1'24, yr)
              else
                if v < r22 then
                  g_XR_routes_L19 tn tp tw tf bg bf fr zg n9 (k + 1) r22 tp1'23 tw1'24 (f_XB_tellRoute bg bf yr zg r22)
                else
                  match f_XT_refuseLast tn tp1'23 tw1'24 tf with
                  | (r33, tw1'34) =>
                    (r33, tp1'23, tw1'34, yr)
      else
        match f_XT_takeOneOf tn q w tf 48 8 with
        | (r1, tp1'2, tw1') =>
          if r1 = (-1) then
            (0, tp1'2, tw1', yr)
          else
            if v < r1 then
              g_XR_routes_L19 tn tp tw tf bg bf fr zg n9 (k + 1) r1 tp1'2 tw1' (f_XB_tellRoute bg bf yr zg r1)
            else
              match f_XT_refuseLast tn tp1'2 tw1' tf with
              | (r9, tw1'10) =>
                (r9, tp1'2, tw1'10, yr)
    else
      (1, q, w, yr)
noncomputable def f_XR_routes_L19 : Int → Int → Int → (Int → Int) → Int → Int → (Int → Int) → Int → Nat → Int → Int → Int → Int → (Int → Int) → Int × Int × Int × (Int → Int) := jopq g_XR_routes_L19
theorem f_XR_routes_L19_q : f_XR_routes_L19 = g_XR_routes_L19 := jopq_eq _
theorem f_XR_routes_L19_s (tn : Int) (tp : Int) (tw : Int) (tf : Int → Int) (bg : Int) (bf : Int) (fr : Int → Int) (zg : Int) (n9 : Nat) (k : Int) (v : Int) (q : Int) (w : Int) (yr : Int → Int) : f_XR_routes_L19 tn tp tw tf bg bf fr zg (n9 + 1) k v q w yr = (
    if k < 4 then
      if 0 < k then
        match f_XT_next tn q w tf with
        | (r15, tp1'16) =>
          if (f_XG_isDigit r15) = 0 then
            (1, tp1'16, w, yr)
          else
            match f_XT_takeOneOf tn tp1'16 w tf 48 8 with
            | (r22, tp1'23, tw1'24) =>
              if r22 = (-1) then
                (0, tp1'23, tw1'24, yr)
              else
                if v < r22 then
                  f_XR_routes_L19 tn tp tw tf bg bf fr zg n9 (k + 1) r22 tp1'23 tw1'24 (f_XB_tellRoute bg bf yr zg r22)
                else
                  match f_XT_refuseLast tn tp1'23 tw1'24 tf with
                  | (r33, tw1'34) =>
                    (r33, tp1'23, tw1'34, yr)
      else
        match f_XT_takeOneOf tn q w tf 48 8 with
        | (r1, tp1'2, tw1') =>
          if r1 = (-1) then
            (0, tp1'2, tw1', yr)
          else
            if v < r1 then
              f_XR_routes_L19 tn tp tw tf bg bf fr zg n9 (k + 1) r1 tp1'2 tw1' (f_XB_tellRoute bg bf yr zg r1)
            else
              match f_XT_refuseLast tn tp1'2 tw1' tf with
              | (r9, tw1'10) =>
                (r9, tp1'2, tw1'10, yr)
    else
      (1, q, w, yr)
  : Int × Int × Int × (Int → Int)) := by rw [f_XR_routes_L19_q]; rfl
theorem f_XR_routes_L19_z (tn : Int) (tp : Int) (tw : Int) (tf : Int → Int) (bg : Int) (bf : Int) (fr : Int → Int) (zg : Int) (k : Int) (v : Int) (q : Int) (w : Int) (yr : Int → Int) : f_XR_routes_L19 tn tp tw tf bg bf fr zg 0 k v q w yr = (0, 0, 0, fun _ => 0) := by rw [f_XR_routes_L19_q]; rfl
noncomputable def g_XR_routes (tn : Int) (tp : Int) (tw : Int) (tf : Int → Int) (bg : Int) (bf : Int) (fr : Int → Int) (zg : Int) : Int × Int × Int × (Int → Int) :=
  match f_XT_skipIf tn tp tw tf 114 with
  | (r, tp1') =>
    if r = 0 then
      (1, tp1', tw, fr)
    else
      f_XR_routes_L19 tn tp tw tf bg bf fr zg (Int.toNat (4 - 0) + 1) 0 (-1) tp1' tw fr
noncomputable def f_XR_routes : Int → Int → Int → (Int → Int) → Int → Int → (Int → Int) → Int → Int × Int × Int × (Int → Int) := jopq g_XR_routes
theorem f_XR_routes_q : f_XR_routes = g_XR_routes := jopq_eq _
theorem f_XR_routes_s (tn : Int) (tp : Int) (tw : Int) (tf : Int → Int) (bg : Int) (bf : Int) (fr : Int → Int) (zg : Int) : f_XR_routes tn tp tw tf bg bf fr zg = (
    match f_XT_skipIf tn tp tw tf 114 with
    | (r, tp1') =>
      if r = 0 then
        (1, tp1', tw, fr)
      else
        f_XR_routes_L19 tn tp tw tf bg bf fr zg (Int.toNat (4 - 0) + 1) 0 (-1) tp1' tw fr
  : Int × Int × Int × (Int → Int)) := by rw [f_XR_routes_q]; rfl
set_option maxHeartbeats 4000000 in
set_option maxRecDepth 100000 in
theorem c_XR_routes (l : Launch) (dC : Nat → ClassId) (dI : Nat → Nat → Nat) (cA : ClassId) (sz : Nat) (rda : Nat) (ta : Nat) (ts : Nat) (tn : Int) (tp : Int) (tw : Int) (tf : Int → Int) (ba : Nat) (bt : Nat) (bp : Nat) (bl : Nat) (bh : Nat) (bq : Nat) (br : Nat) (bd : Nat) (bg : Int) (bf : Int) (fr : Int → Int) (zg : Int) (hn : 0 ≤ tn ∧ tn ≤ 400) (hp : 0 ≤ tp ∧ tp ≤ tn) (hf : ∀ i, 0 ≤ tf i ∧ tf i < 256) (hbr : ∀ i, 0 ≤ fr i ∧ fr i < 2147483648) (hzg : 0 ≤ zg ∧ zg ≤ 30) : Met l yXR_routes (Cond.code yXR_routes cXR_routes 6 (some .boolean) :: TBL) ({ frames := 2, cells := 0, slots := 0, locals := 43 } : Room) (va_Pc [.ref rda, .ref ba, .int (jI zg)] (jBw (dC, dI) [(cA, .int)] [(rda, .inr (2, [.ref ta])), (ta, .inr (3, [.ref ts, .int (jI tn), .int (jI tp), .int (jI tw)])), (ts, .inl (cA, 400, .inl (jA tf))), (ba, .inr (0, [.ref bt, .ref bp, .ref bl, .ref bh, .ref bq, .ref br, .ref bd, .int (jI bg), .int (jI bf)])), (br, .inl (cA, 31, .inl (jA fr)))] sz)) (va_Qi (fun (r : Int32) (u : Int × Int × Int × (Int → Int)) => r = jI u.1 ∧ u = f_XR_routes tn tp tw tf bg bf fr zg ∧ (0 ≤ u.1 ∧ u.1 ≤ 1) ∧ (0 ≤ u.2.1 ∧ u.2.1 ≤ tn) ∧ (∀ i, 0 ≤ u.2.2.2 i ∧ u.2.2.2 i < 2147483648)) (fun u t => jE (dC, dI) [(cA, .int)] [(rda, .inr (2, [.ref ta])), (ta, .inr (3, [.ref ts, .int (jI tn), .int (jI tp), .int (jI tw)])), (ts, .inl (cA, 400, .inl (jA tf))), (ba, .inr (0, [.ref bt, .ref bp, .ref bl, .ref bh, .ref bq, .ref br, .ref bd, .int (jI bg), .int (jI bf)])), (br, .inl (cA, 31, .inl (jA fr)))] sz [(rda, .inr (2, [.ref ta])), (ta, .inr (3, [.ref ts, .int (jI tn), .int (jI u.2.1), .int (jI u.2.2.1)])), (ts, .inl (cA, 400, .inl (jA tf))), (ba, .inr (0, [.ref bt, .ref bp, .ref bl, .ref bh, .ref bq, .ref br, .ref bd, .int (jI bg), .int (jI bf)])), (br, .inl (cA, 31, .inl (jA u.2.2.2)))] t) (va_A [(rda, .inr (2, [.ref ta])), (ta, .inr (3, [.ref ts, .int (jI tn), .int (jI tp), .int (jI tw)])), (ts, .inl (cA, 400, .inl (jA tf))), (ba, .inr (0, [.ref bt, .ref bp, .ref bl, .ref bh, .ref bq, .ref br, .ref bd, .int (jI bg), .int (jI bf)])), (br, .inl (cA, 31, .inl (jA fr)))] sz)) 0 0 (va_A [(rda, .inr (2, [.ref ta])), (ta, .inr (3, [.ref ts, .int (jI tn), .int (jI tp), .int (jI tw)])), (ts, .inl (cA, 400, .inl (jA tf))), (ba, .inr (0, [.ref bt, .ref bp, .ref bl, .ref bh, .ref bq, .ref br, .ref bd, .int (jI bg), .int (jI bf)])), (br, .inl (cA, 31, .inl (jA fr)))] sz) := by
  refine jMet (cc := cXR_routes) (maxL := 6) (ret := some .boolean) (by decide) rfl ?_
  intro p e s m args below meth c s₁ R Q hR hQ B hml hv
  obtain ⟨rfl, hsz, hP, hK, hD0, hN⟩ := hv
  have hx := B.exec
  have hb := B.bytes
  have hr := B.returns
  have hts := atoms_spec (ws := Cond.code yXR_routes cXR_routes 6 (some .boolean) :: TBL) B.pre
  have hown : s.vm.findClass RXR = some m.cls := findClass_of_methodNamed B.named
  have hlocks := B.notSynchronized
  subst hsz
  obtain ⟨A, hAe⟩ : ∃ A, A = va_A [(rda, .inr (2, [.ref ta])), (ta, .inr (3, [.ref ts, .int (jI tn), .int (jI tp), .int (jI tw)])), (ts, .inl (cA, 400, .inl (jA tf))), (ba, .inr (0, [.ref bt, .ref bp, .ref bl, .ref bh, .ref bq, .ref br, .ref bd, .int (jI bg), .int (jI bf)])), (br, .inl (cA, 31, .inl (jA fr)))] s.heap.size := ⟨_, rfl⟩
  have hD : va_D A [(rda, .inr (2, [.ref ta])), (ta, .inr (3, [.ref ts, .int (jI tn), .int (jI tp), .int (jI tw)])), (ts, .inl (cA, 400, .inl (jA tf))), (ba, .inr (0, [.ref bt, .ref bp, .ref bl, .ref bh, .ref bq, .ref br, .ref bd, .int (jI bg), .int (jI bf)])), (br, .inl (cA, 31, .inl (jA fr)))] := by rw [hAe]; exact hD0.self
  have hA : ∀ q : Nat, s.heap.size ≤ q → A q := fun q h => by rw [hAe]; exact Or.inr h
  have hS : va_S A s.heap s.heap [] := va_S.rf
  have hP : va_P (dC, dI) vwCl [(rda, .inr (2, [.ref ta])), (ta, .inr (3, [.ref ts, .int (jI tn), .int (jI tp), .int (jI tw)])), (ts, .inl (cA, 400, .inl (jA tf))), (ba, .inr (0, [.ref bt, .ref bp, .ref bl, .ref bh, .ref bq, .ref br, .ref bd, .int (jI bg), .int (jI bf)])), (br, .inl (cA, 31, .inl (jA fr)))] s.heap := hP
  have hl := lv_entry ([.ref rda, .ref ba, .int (jI zg)]) (n := 6) (Nat.le_of_ble_eq_true rfl)
  rw [lg_entry_eq]
  generalize (lg_sl ([.ref rda, .ref ba, .int (jI zg)]) ++ List.replicate (6 - (lg_sl ([.ref rda, .ref ba, .int (jI zg)])).length) Slot.unset).toArray = ls at hl ⊢
  have hl : lv_has ls 6 [(0, .ref rda), (1, .ref ba), (2, .int (jI zg))] := hl
  refine lv_aload_n hx hb dXR_routes_0 rfl (lv_at hl 0 rfl) ?_
  refine va_get (D := (dC, dI)) (ci := 2) (v := .ref ta) (C := RXR) (T := TXR) (N := 1) hx hb hts (fun w h => jmem (inXR w h)) hown hK hP 0 rfl rfl 0 (by decide) (hts _ (jmem tw_50)) (fun _ h9 => h9) rfl dXR_routes_1 ?_
  refine ji_bipush hx hb dXR_routes_4 (by decide) ?_
  refine jwVi (rest := []) (wr := [(rda, .inr (2, [.ref ta])), (ba, .inr (0, [.ref bt, .ref bp, .ref bl, .ref bh, .ref bq, .ref br, .ref bd, .int (jI bg), .int (jI bf)])), (br, .inl (cA, 31, .inl (jA fr)))]) ⟨hx, hb, hml, hown, hts⟩ (c_XT_skipIf l dC dI cA _ ta ts tn tp tw tf 114 (by first | assumption | omega) (by first | assumption | omega) (by first | assumption | omega) (by first | assumption | omega) (by first | assumption | omega)) (cwV 1 hts (jG_V tw_150 tw_151 tw_152 tw_2 tw_153) rfl rfl rfl (by decide +kernel) (by rw [hR]; exact ⟨Nat.le_of_ble_eq_true rfl, Nat.le_of_ble_eq_true rfl⟩)) hK hP hD hS hA hN [1, 2] [0, 3, 4] rfl rfl (by decide) (by decide) (by decide) 1 3 rfl rfl rfl rfl hl.1 rfl (Nat.le_of_ble_eq_true rfl) dXR_routes_6 (by rw [hR]; exact ⟨Nat.le_of_ble_eq_true rfl, Nat.le_of_ble_eq_true rfl⟩) (fun v u H locs hwb hP hD hS => ?_)
  obtain ⟨r, tp1'⟩ := u
  try dsimp only at hwb
  obtain ⟨er, hwb⟩ := hwb
  subst er
  have hP : va_P (dC, dI) vwCl [(rda, .inr (2, [.ref ta])), (ba, .inr (0, [.ref bt, .ref bp, .ref bl, .ref bh, .ref bq, .ref br, .ref bd, .int (jI bg), .int (jI bf)])), (br, .inl (cA, 31, .inl (jA fr))), (ta, .inr (3, [.ref ts, .int (jI tn), .int (jI tp1'), .int (jI tw)])), (ts, .inl (cA, 400, .inl (jA tf)))] H := hP
  have hD : va_D A [(rda, .inr (2, [.ref ta])), (ba, .inr (0, [.ref bt, .ref bp, .ref bl, .ref bh, .ref bq, .ref br, .ref bd, .int (jI bg), .int (jI bf)])), (br, .inl (cA, 31, .inl (jA fr))), (ta, .inr (3, [.ref ts, .int (jI tn), .int (jI tp1'), .int (jI tw)])), (ts, .inl (cA, 400, .inl (jA tf)))] := hD
  have f := f_XT_skipIf_b tn tp tw tf 114 (by first | assumption | omega) (by first | assumption | omega) (by first | assumption | omega) (by first | assumption | omega) (by first | assumption | omega)
  rw [← hwb] at f; try dsimp only at f
  refine ji_if_ne (tgt := 14) hx hb dXR_routes_9 (by decide) (by omega) (fun c9_ => ?_) (fun c9_ => ?_)
  · refine ji_iconst hx hb dXR_routes_14 ?_
    refine lv_istore_n (lv' := [(3, .int (jI (-1))), (0, .ref rda), (1, .ref ba), (2, .int (jI zg))]) hx hb dXR_routes_15 rfl hl (by decide) rfl (fun ls hl => ?_)
    refine ji_iconst hx hb dXR_routes_16 ?_
    refine lv_istore (lv' := [(4, .int (jI 0)), (3, .int (jI (-1))), (0, .ref rda), (1, .ref ba), (2, .int (jI zg))]) hx hb dXR_routes_17 hl (by decide) rfl (fun ls hl => ?_)
    have loop19 : ∀ (n9 : Nat) (k : Int) (v : Int) (q : Int) (w : Int) (yr : Int → Int) , 4 - k < (n9 : Int) → f_XR_routes_L19 tn tp tw tf bg bf fr zg n9 k v q w yr = f_XR_routes tn tp tw tf bg bf fr zg → (0 ≤ k ∧ k ≤ 4) → (0 ≤ q ∧ q ≤ tn) → (-1 ≤ v ∧ v < 8) → (∀ i, 0 ≤ yr i ∧ yr i < 2147483648) → ∀ (H : Heap) (locs : List Loc), va_P (dC, dI) vwCl [(rda, .inr (2, [.ref ta])), (ba, .inr (0, [.ref bt, .ref bp, .ref bl, .ref bh, .ref bq, .ref br, .ref bd, .int (jI bg), .int (jI bf)])), (br, .inl (cA, 31, .inl (jA yr))), (ta, .inr (3, [.ref ts, .int (jI tn), .int (jI q), .int (jI w)])), (ts, .inl (cA, 400, .inl (jA tf)))] H → va_D A [(rda, .inr (2, [.ref ta])), (ba, .inr (0, [.ref bt, .ref bp, .ref bl, .ref bh, .ref bq, .ref br, .ref bd, .int (jI bg), .int (jI bf)])), (br, .inl (cA, 31, .inl (jA yr))), (ta, .inr (3, [.ref ts, .int (jI tn), .int (jI q), .int (jI w)])), (ts, .inl (cA, 400, .inl (jA tf)))] → va_S A s.heap H locs → ∀ ls : Array Slot, lv_has ls 6 [(4, .int (jI k)), (3, .int (jI v)), (0, .ref rda), (1, .ref ba), (2, .int (jI zg))] → W p l e R s m ([.ref rda, .ref ba, .int (jI zg)] : List Value).toArray below meth c H locs 0 0 Q (F0 m 19 ls []) := by
      intro n9
      induction n9 with
      | zero =>
        intro k v q w yr hm hF hk hq hv har
        exact absurd hm (by omega)
      | succ n9 ih19 =>
        intro k v q w yr hm hF hk hq hv har H locs hP hD hS ls hl
        refine lv_iload hx hb dXR_routes_19 (lv_at hl 0 rfl) ?_
        refine ji_iconst hx hb dXR_routes_21 ?_
        refine ji_icmp_ge (tgt := 96) hx hb dXR_routes_22 (by decide) (by omega) (by omega) (fun c22_ => ?_) (fun c22_ => ?_)
        · refine ji_iconst hx hb dXR_routes_96 ?_
          have hP9 := hP.sub (ws' := [(rda, .inr (2, [.ref ta])), (ta, .inr (3, [.ref ts, .int (jI tn), .int (jI q), .int (jI w)])), (ts, .inl (cA, 400, .inl (jA tf))), (ba, .inr (0, [.ref bt, .ref bp, .ref bl, .ref bh, .ref bq, .ref br, .ref bd, .int (jI bg), .int (jI bf)])), (br, .inl (cA, 31, .inl (jA yr)))]) [0, 3, 4, 1, 2] rfl
          have hD9 := hD.sub (ws' := [(rda, .inr (2, [.ref ta])), (ta, .inr (3, [.ref ts, .int (jI tn), .int (jI q), .int (jI w)])), (ts, .inl (cA, 400, .inl (jA tf))), (ba, .inr (0, [.ref bt, .ref bp, .ref bl, .ref bh, .ref bq, .ref br, .ref bd, .int (jI bg), .int (jI bf)])), (br, .inl (cA, 31, .inl (jA yr)))]) [0, 3, 4, 1, 2] (by decide) rfl
          subst hAe
          subst hQ
          exact W.zret (v := jI 1) hx hb hr (by first | decide | exact jz (by omega)) (fun t ht hW => ⟨⟨_, (1, q, w, yr), rfl, ⟨rfl, Eq.trans (by rw [f_XR_routes_L19_s]; rw [if_neg (Int.not_lt.mpr c22_)]; try rfl) hF, show 0 ≤ 1 ∧ 1 ≤ 1 from by first | assumption | omega, show 0 ≤ q ∧ q ≤ tn from by first | assumption | omega, show ∀ i, 0 ≤ yr i ∧ yr i < 2147483648 from by first | assumption | omega⟩, ⟨by rw [ht]; exact hP9, va_K.moved hW.alike hK, hD9⟩⟩, hS.F ht⟩) hS.2.2 dXR_routes_97
        · refine lv_iload hx hb dXR_routes_25 (lv_at hl 0 rfl) ?_
          refine ji_if_le (tgt := 45) hx hb dXR_routes_27 (by decide) (by omega) (fun c27_ => ?_) (fun c27_ => ?_)
          · refine lv_aload_n hx hb dXR_routes_45 rfl (lv_at hl 2 rfl) ?_
            refine va_get (D := (dC, dI)) (ci := 2) (v := .ref ta) (C := RXR) (T := TXR) (N := 1) hx hb hts (fun w h => jmem (inXR w h)) hown hK hP 0 rfl rfl 0 (by decide) (hts _ (jmem tw_50)) (fun _ h9 => h9) rfl dXR_routes_46 ?_
            refine ji_bipush hx hb dXR_routes_49 (by decide) ?_
            refine ji_bipush hx hb dXR_routes_51 (by decide) ?_
            refine jwVi (rest := []) (wr := [(rda, .inr (2, [.ref ta])), (ba, .inr (0, [.ref bt, .ref bp, .ref bl, .ref bh, .ref bq, .ref br, .ref bd, .int (jI bg), .int (jI bf)])), (br, .inl (cA, 31, .inl (jA yr)))]) ⟨hx, hb, hml, hown, hts⟩ (c_XT_takeOneOf l dC dI cA _ ta ts tn q w tf 48 8 (by first | assumption | omega) (by first | assumption | omega) (by first | assumption | omega) (by first | assumption | omega) (by first | assumption | omega)) (cwV 2 hts (jG_V tw_159 tw_160 tw_161 tw_2 tw_162) rfl rfl rfl (by decide +kernel) (by rw [hR]; exact ⟨Nat.le_of_ble_eq_true rfl, Nat.le_of_ble_eq_true rfl⟩)) hK hP hD hS hA hN [3, 4] [0, 1, 2] rfl rfl (by decide) (by decide) (by decide) 3 3 rfl rfl rfl rfl hl.1 rfl (Nat.le_of_ble_eq_true rfl) dXR_routes_53 (by rw [hR]; exact ⟨Nat.le_of_ble_eq_true rfl, Nat.le_of_ble_eq_true rfl⟩) (fun v4 u3 H locs hwb5 hP hD hS => ?_)
            obtain ⟨r1, tp1'2, tw1'⟩ := u3
            try dsimp only at hwb5
            obtain ⟨er, hwb5⟩ := hwb5
            subst er
            have hP : va_P (dC, dI) vwCl [(rda, .inr (2, [.ref ta])), (ba, .inr (0, [.ref bt, .ref bp, .ref bl, .ref bh, .ref bq, .ref br, .ref bd, .int (jI bg), .int (jI bf)])), (br, .inl (cA, 31, .inl (jA yr))), (ta, .inr (3, [.ref ts, .int (jI tn), .int (jI tp1'2), .int (jI tw1')])), (ts, .inl (cA, 400, .inl (jA tf)))] H := hP
            have hD : va_D A [(rda, .inr (2, [.ref ta])), (ba, .inr (0, [.ref bt, .ref bp, .ref bl, .ref bh, .ref bq, .ref br, .ref bd, .int (jI bg), .int (jI bf)])), (br, .inl (cA, 31, .inl (jA yr))), (ta, .inr (3, [.ref ts, .int (jI tn), .int (jI tp1'2), .int (jI tw1')])), (ts, .inl (cA, 400, .inl (jA tf)))] := hD
            have f6 := f_XT_takeOneOf_b tn q w tf 48 8 (by first | assumption | omega) (by first | assumption | omega) (by first | assumption | omega) (by first | assumption | omega) (by first | assumption | omega)
            rw [← hwb5] at f6; try dsimp only at f6
            refine lv_istore (lv' := [(5, .int (jI r1)), (4, .int (jI k)), (3, .int (jI v)), (0, .ref rda), (1, .ref ba), (2, .int (jI zg))]) hx hb dXR_routes_56 hl (by decide) rfl (fun ls hl => ?_)
            refine lv_iload hx hb dXR_routes_58 (lv_at hl 0 rfl) ?_
            refine ji_iconst hx hb dXR_routes_60 ?_
            refine ji_icmp_ne (tgt := 66) hx hb dXR_routes_61 (by decide) (by omega) (by omega) (fun c61_ => ?_) (fun c61_ => ?_)
            · refine lv_iload hx hb dXR_routes_66 (lv_at hl 0 rfl) ?_
              refine lv_iload_n hx hb dXR_routes_68 rfl (lv_at hl 2 rfl) ?_
              refine ji_icmp_gt (tgt := 80) hx hb dXR_routes_69 (by decide) (by omega) (by omega) (fun c69_ => ?_) (fun c69_ => ?_)
              · refine lv_aload_n hx hb dXR_routes_80 rfl (lv_at hl 4 rfl) ?_
                refine lv_iload_n hx hb dXR_routes_81 rfl (lv_at hl 5 rfl) ?_
                refine lv_iload hx hb dXR_routes_82 (lv_at hl 0 rfl) ?_
                refine jwVv (rest := []) (wr := [(rda, .inr (2, [.ref ta])), (ta, .inr (3, [.ref ts, .int (jI tn), .int (jI tp1'2), .int (jI tw1')])), (ts, .inl (cA, 400, .inl (jA tf)))]) ⟨hx, hb, hml, hown, hts⟩ (c_XB_tellRoute l dC dI cA _ ba bt bp bl bh bq br bd bg bf yr zg r1 (by first | assumption | omega) (by first | assumption | omega) (by first | assumption | omega)) (cwV 2 hts (jG_V tw_252 tw_253 tw_254 tw_5 tw_255) rfl rfl rfl (by decide +kernel) (by rw [hR]; exact ⟨Nat.le_of_ble_eq_true rfl, Nat.le_of_ble_eq_true rfl⟩)) hK hP hD hS hA hN [1, 2] [0, 3, 4] rfl rfl (by decide) (by decide) (by decide) 1 0 rfl rfl rfl rfl hl.1 rfl (Nat.le_of_ble_eq_true rfl) dXR_routes_84 (by rw [hR]; exact ⟨Nat.le_of_ble_eq_true rfl, Nat.le_of_ble_eq_true rfl⟩) (fun u7 H locs hw hP hD hS => ?_)
                subst hw
                have hP : va_P (dC, dI) vwCl [(rda, .inr (2, [.ref ta])), (ta, .inr (3, [.ref ts, .int (jI tn), .int (jI tp1'2), .int (jI tw1')])), (ts, .inl (cA, 400, .inl (jA tf))), (ba, .inr (0, [.ref bt, .ref bp, .ref bl, .ref bh, .ref bq, .ref br, .ref bd, .int (jI bg), .int (jI bf)])), (br, .inl (cA, 31, .inl (jA (f_XB_tellRoute bg bf yr zg r1))))] H := hP
                have hD : va_D A [(rda, .inr (2, [.ref ta])), (ta, .inr (3, [.ref ts, .int (jI tn), .int (jI tp1'2), .int (jI tw1')])), (ts, .inl (cA, 400, .inl (jA tf))), (ba, .inr (0, [.ref bt, .ref bp, .ref bl, .ref bh, .ref bq, .ref br, .ref bd, .int (jI bg), .int (jI bf)])), (br, .inl (cA, 31, .inl (jA (f_XB_tellRoute bg bf yr zg r1))))] := hD
                have f8 := f_XB_tellRoute_b bg bf yr zg r1 (by first | assumption | omega) (by first | assumption | omega) (by first | assumption | omega)
                refine lv_iload hx hb dXR_routes_87 (lv_at hl 0 rfl) ?_
                refine lv_istore_n (lv' := [(3, .int (jI r1)), (5, .int (jI r1)), (4, .int (jI k)), (0, .ref rda), (1, .ref ba), (2, .int (jI zg))]) hx hb dXR_routes_89 rfl hl (by decide) rfl (fun ls hl => ?_)
                refine ji_iinc (k := 2) (lv' := [(4, .int (jI (k + 1))), (3, .int (jI r1)), (5, .int (jI r1)), (0, .ref rda), (1, .ref ba), (2, .int (jI zg))]) hx hb dXR_routes_90 hl rfl (by decide) rfl (fun ls hl => ?_)
                refine lv_goto (tgt := 19) hx hb dXR_routes_93 (by decide) ?_
                exact ih19 (k + 1) r1 tp1'2 tw1' (f_XB_tellRoute bg bf yr zg r1) (by omega) (Eq.trans (by rw [f_XR_routes_L19_s]; rw [if_pos c22_, if_neg (Int.not_lt.mpr c27_)]; rw [← hwb5]; try dsimp only; rw [if_neg c61_, if_pos c69_]; try rfl) hF) (by first | assumption | omega) (by first | assumption | omega) (by first | assumption | omega) (by first | assumption | omega) _ _ (hP.sub [0, 3, 4, 1, 2] rfl) (hD.sub [0, 3, 4, 1, 2] (by decide) rfl) hS ls (lv_sub hl [0, 1, 3, 4, 5] rfl)
              · refine lv_aload_n hx hb dXR_routes_72 rfl (lv_at hl 3 rfl) ?_
                refine va_get (D := (dC, dI)) (ci := 2) (v := .ref ta) (C := RXR) (T := TXR) (N := 1) hx hb hts (fun w h => jmem (inXR w h)) hown hK hP 0 rfl rfl 0 (by decide) (hts _ (jmem tw_50)) (fun _ h9 => h9) rfl dXR_routes_73 ?_
                refine jwVi (rest := []) (wr := [(rda, .inr (2, [.ref ta])), (ba, .inr (0, [.ref bt, .ref bp, .ref bl, .ref bh, .ref bq, .ref br, .ref bd, .int (jI bg), .int (jI bf)])), (br, .inl (cA, 31, .inl (jA yr)))]) ⟨hx, hb, hml, hown, hts⟩ (c_XT_refuseLast l dC dI cA _ ta ts tn tp1'2 tw1' tf) (cwV 0 hts (jG_V tw_174 tw_175 tw_176 tw_2 tw_177) rfl rfl rfl (by decide +kernel) (by rw [hR]; exact ⟨Nat.le_of_ble_eq_true rfl, Nat.le_of_ble_eq_true rfl⟩)) hK hP hD hS hA hN [3, 4] [0, 1, 2] rfl rfl (by decide) (by decide) (by decide) 3 3 rfl rfl rfl rfl hl.1 rfl (Nat.le_of_ble_eq_true rfl) dXR_routes_76 (by rw [hR]; exact ⟨Nat.le_of_ble_eq_true rfl, Nat.le_of_ble_eq_true rfl⟩) (fun v12 u11 H locs hwb13 hP hD hS => ?_)
                obtain ⟨r9, tw1'10⟩ := u11
                try dsimp only at hwb13
                obtain ⟨er, hwb13⟩ := hwb13
                subst er
                have hP : va_P (dC, dI) vwCl [(rda, .inr (2, [.ref ta])), (ba, .inr (0, [.ref bt, .ref bp, .ref bl, .ref bh, .ref bq, .ref br, .ref bd, .int (jI bg), .int (jI bf)])), (br, .inl (cA, 31, .inl (jA yr))), (ta, .inr (3, [.ref ts, .int (jI tn), .int (jI tp1'2), .int (jI tw1'10)])), (ts, .inl (cA, 400, .inl (jA tf)))] H := hP
                have hD : va_D A [(rda, .inr (2, [.ref ta])), (ba, .inr (0, [.ref bt, .ref bp, .ref bl, .ref bh, .ref bq, .ref br, .ref bd, .int (jI bg), .int (jI bf)])), (br, .inl (cA, 31, .inl (jA yr))), (ta, .inr (3, [.ref ts, .int (jI tn), .int (jI tp1'2), .int (jI tw1'10)])), (ts, .inl (cA, 400, .inl (jA tf)))] := hD
                have f14 := f_XT_refuseLast_b tn tp1'2 tw1' tf
                rw [← hwb13] at f14; try dsimp only at f14
                have hP9 := hP.sub (ws' := [(rda, .inr (2, [.ref ta])), (ta, .inr (3, [.ref ts, .int (jI tn), .int (jI tp1'2), .int (jI tw1'10)])), (ts, .inl (cA, 400, .inl (jA tf))), (ba, .inr (0, [.ref bt, .ref bp, .ref bl, .ref bh, .ref bq, .ref br, .ref bd, .int (jI bg), .int (jI bf)])), (br, .inl (cA, 31, .inl (jA yr)))]) [0, 3, 4, 1, 2] rfl
                have hD9 := hD.sub (ws' := [(rda, .inr (2, [.ref ta])), (ta, .inr (3, [.ref ts, .int (jI tn), .int (jI tp1'2), .int (jI tw1'10)])), (ts, .inl (cA, 400, .inl (jA tf))), (ba, .inr (0, [.ref bt, .ref bp, .ref bl, .ref bh, .ref bq, .ref br, .ref bd, .int (jI bg), .int (jI bf)])), (br, .inl (cA, 31, .inl (jA yr)))]) [0, 3, 4, 1, 2] (by decide) rfl
                subst hAe
                subst hQ
                exact W.zret (v := jI r9) hx hb hr (by first | decide | exact jz (by omega)) (fun t ht hW => ⟨⟨_, (r9, tp1'2, tw1'10, yr), rfl, ⟨rfl, Eq.trans (by rw [f_XR_routes_L19_s]; rw [if_pos c22_, if_neg (Int.not_lt.mpr c27_)]; rw [← hwb5]; try dsimp only; rw [if_neg c61_, if_neg (Int.not_lt.mpr c69_)]; rw [← hwb13]; try dsimp only; try rfl) hF, show 0 ≤ r9 ∧ r9 ≤ 1 from by first | assumption | omega, show 0 ≤ tp1'2 ∧ tp1'2 ≤ tn from by first | assumption | omega, show ∀ i, 0 ≤ yr i ∧ yr i < 2147483648 from by first | assumption | omega⟩, ⟨by rw [ht]; exact hP9, va_K.moved hW.alike hK, hD9⟩⟩, hS.F ht⟩) hS.2.2 dXR_routes_79
            · refine ji_iconst hx hb dXR_routes_64 ?_
              have hP9 := hP.sub (ws' := [(rda, .inr (2, [.ref ta])), (ta, .inr (3, [.ref ts, .int (jI tn), .int (jI tp1'2), .int (jI tw1')])), (ts, .inl (cA, 400, .inl (jA tf))), (ba, .inr (0, [.ref bt, .ref bp, .ref bl, .ref bh, .ref bq, .ref br, .ref bd, .int (jI bg), .int (jI bf)])), (br, .inl (cA, 31, .inl (jA yr)))]) [0, 3, 4, 1, 2] rfl
              have hD9 := hD.sub (ws' := [(rda, .inr (2, [.ref ta])), (ta, .inr (3, [.ref ts, .int (jI tn), .int (jI tp1'2), .int (jI tw1')])), (ts, .inl (cA, 400, .inl (jA tf))), (ba, .inr (0, [.ref bt, .ref bp, .ref bl, .ref bh, .ref bq, .ref br, .ref bd, .int (jI bg), .int (jI bf)])), (br, .inl (cA, 31, .inl (jA yr)))]) [0, 3, 4, 1, 2] (by decide) rfl
              subst hAe
              subst hQ
              exact W.zret (v := jI 0) hx hb hr (by first | decide | exact jz (by omega)) (fun t ht hW => ⟨⟨_, (0, tp1'2, tw1', yr), rfl, ⟨rfl, Eq.trans (by rw [f_XR_routes_L19_s]; rw [if_pos c22_, if_neg (Int.not_lt.mpr c27_)]; rw [← hwb5]; try dsimp only; rw [if_pos c61_]; try rfl) hF, show 0 ≤ 0 ∧ 0 ≤ 1 from by first | assumption | omega, show 0 ≤ tp1'2 ∧ tp1'2 ≤ tn from by first | assumption | omega, show ∀ i, 0 ≤ yr i ∧ yr i < 2147483648 from by first | assumption | omega⟩, ⟨by rw [ht]; exact hP9, va_K.moved hW.alike hK, hD9⟩⟩, hS.F ht⟩) hS.2.2 dXR_routes_65
          · refine lv_aload_n hx hb dXR_routes_30 rfl (lv_at hl 2 rfl) ?_
            refine va_get (D := (dC, dI)) (ci := 2) (v := .ref ta) (C := RXR) (T := TXR) (N := 1) hx hb hts (fun w h => jmem (inXR w h)) hown hK hP 0 rfl rfl 0 (by decide) (hts _ (jmem tw_50)) (fun _ h9 => h9) rfl dXR_routes_31 ?_
            refine jwVi (rest := []) (wr := [(rda, .inr (2, [.ref ta])), (ba, .inr (0, [.ref bt, .ref bp, .ref bl, .ref bh, .ref bq, .ref br, .ref bd, .int (jI bg), .int (jI bf)])), (br, .inl (cA, 31, .inl (jA yr)))]) ⟨hx, hb, hml, hown, hts⟩ (c_XT_next l dC dI cA _ ta ts tn q w tf (by first | assumption | omega) (by first | assumption | omega) (by first | assumption | omega)) (cwV 0 hts (jG_V tw_142 tw_143 tw_144 tw_2 tw_145) rfl rfl rfl (by decide +kernel) (by rw [hR]; exact ⟨Nat.le_of_ble_eq_true rfl, Nat.le_of_ble_eq_true rfl⟩)) hK hP hD hS hA hN [3, 4] [0, 1, 2] rfl rfl (by decide) (by decide) (by decide) 3 3 rfl rfl rfl rfl hl.1 rfl (Nat.le_of_ble_eq_true rfl) dXR_routes_34 (by rw [hR]; exact ⟨Nat.le_of_ble_eq_true rfl, Nat.le_of_ble_eq_true rfl⟩) (fun v18 u17 H locs hwb19 hP hD hS => ?_)
            obtain ⟨r15, tp1'16⟩ := u17
            try dsimp only at hwb19
            obtain ⟨er, hwb19⟩ := hwb19
            subst er
            have hP : va_P (dC, dI) vwCl [(rda, .inr (2, [.ref ta])), (ba, .inr (0, [.ref bt, .ref bp, .ref bl, .ref bh, .ref bq, .ref br, .ref bd, .int (jI bg), .int (jI bf)])), (br, .inl (cA, 31, .inl (jA yr))), (ta, .inr (3, [.ref ts, .int (jI tn), .int (jI tp1'16), .int (jI w)])), (ts, .inl (cA, 400, .inl (jA tf)))] H := hP
            have hD : va_D A [(rda, .inr (2, [.ref ta])), (ba, .inr (0, [.ref bt, .ref bp, .ref bl, .ref bh, .ref bq, .ref br, .ref bd, .int (jI bg), .int (jI bf)])), (br, .inl (cA, 31, .inl (jA yr))), (ta, .inr (3, [.ref ts, .int (jI tn), .int (jI tp1'16), .int (jI w)])), (ts, .inl (cA, 400, .inl (jA tf)))] := hD
            have f20 := f_XT_next_b tn q w tf (by first | assumption | omega) (by first | assumption | omega) (by first | assumption | omega)
            rw [← hwb19] at f20; try dsimp only at f20
            refine jrNi (rest := []) ⟨hx, hb, hml, hown, hts⟩ (c_XG_isDigit l dC dI cA r15 (by first | assumption | omega)) ⟨va_cnB 1 hts (jG (jG_c tw_200)) rfl rfl rfl (jN.n251 hN) (hts _ (jmem tw_1)) (by decide +kernel) (by rw [hR]; exact ⟨Nat.le_of_ble_eq_true rfl, Nat.le_of_ble_eq_true rfl⟩), hts _ (jmem tw_199), trivial⟩ hK hP hN [] rfl rfl hl.1 rfl (Nat.le_of_ble_eq_true rfl) dXR_routes_37 (by rw [hR]; exact ⟨Nat.le_of_ble_eq_true rfl, Nat.le_of_ble_eq_true rfl⟩) ?_
            have f21 := f_XG_isDigit_01 r15 (by first | assumption | omega)
            refine ji_if_ne (tgt := 45) hx hb dXR_routes_40 (by decide) (by omega) (fun c40_ => ?_) (fun c40_ => ?_)
            · refine lv_aload_n hx hb dXR_routes_45 rfl (lv_at hl 2 rfl) ?_
              refine va_get (D := (dC, dI)) (ci := 2) (v := .ref ta) (C := RXR) (T := TXR) (N := 1) hx hb hts (fun w h => jmem (inXR w h)) hown hK hP 0 rfl rfl 0 (by decide) (hts _ (jmem tw_50)) (fun _ h9 => h9) rfl dXR_routes_46 ?_
              refine ji_bipush hx hb dXR_routes_49 (by decide) ?_
              refine ji_bipush hx hb dXR_routes_51 (by decide) ?_
              refine jwVi (rest := []) (wr := [(rda, .inr (2, [.ref ta])), (ba, .inr (0, [.ref bt, .ref bp, .ref bl, .ref bh, .ref bq, .ref br, .ref bd, .int (jI bg), .int (jI bf)])), (br, .inl (cA, 31, .inl (jA yr)))]) ⟨hx, hb, hml, hown, hts⟩ (c_XT_takeOneOf l dC dI cA _ ta ts tn tp1'16 w tf 48 8 (by first | assumption | omega) (by first | assumption | omega) (by first | assumption | omega) (by first | assumption | omega) (by first | assumption | omega)) (cwV 2 hts (jG_V tw_159 tw_160 tw_161 tw_2 tw_162) rfl rfl rfl (by decide +kernel) (by rw [hR]; exact ⟨Nat.le_of_ble_eq_true rfl, Nat.le_of_ble_eq_true rfl⟩)) hK hP hD hS hA hN [3, 4] [0, 1, 2] rfl rfl (by decide) (by decide) (by decide) 3 3 rfl rfl rfl rfl hl.1 rfl (Nat.le_of_ble_eq_true rfl) dXR_routes_53 (by rw [hR]; exact ⟨Nat.le_of_ble_eq_true rfl, Nat.le_of_ble_eq_true rfl⟩) (fun v26 u25 H locs hwb27 hP hD hS => ?_)
              obtain ⟨r22, tp1'23, tw1'24⟩ := u25
              try dsimp only at hwb27
              obtain ⟨er, hwb27⟩ := hwb27
              subst er
              have hP : va_P (dC, dI) vwCl [(rda, .inr (2, [.ref ta])), (ba, .inr (0, [.ref bt, .ref bp, .ref bl, .ref bh, .ref bq, .ref br, .ref bd, .int (jI bg), .int (jI bf)])), (br, .inl (cA, 31, .inl (jA yr))), (ta, .inr (3, [.ref ts, .int (jI tn), .int (jI tp1'23), .int (jI tw1'24)])), (ts, .inl (cA, 400, .inl (jA tf)))] H := hP
              have hD : va_D A [(rda, .inr (2, [.ref ta])), (ba, .inr (0, [.ref bt, .ref bp, .ref bl, .ref bh, .ref bq, .ref br, .ref bd, .int (jI bg), .int (jI bf)])), (br, .inl (cA, 31, .inl (jA yr))), (ta, .inr (3, [.ref ts, .int (jI tn), .int (jI tp1'23), .int (jI tw1'24)])), (ts, .inl (cA, 400, .inl (jA tf)))] := hD
              have f28 := f_XT_takeOneOf_b tn tp1'16 w tf 48 8 (by first | assumption | omega) (by first | assumption | omega) (by first | assumption | omega) (by first | assumption | omega) (by first | assumption | omega)
              rw [← hwb27] at f28; try dsimp only at f28
              refine lv_istore (lv' := [(5, .int (jI r22)), (4, .int (jI k)), (3, .int (jI v)), (0, .ref rda), (1, .ref ba), (2, .int (jI zg))]) hx hb dXR_routes_56 hl (by decide) rfl (fun ls hl => ?_)
              refine lv_iload hx hb dXR_routes_58 (lv_at hl 0 rfl) ?_
              refine ji_iconst hx hb dXR_routes_60 ?_
              refine ji_icmp_ne (tgt := 66) hx hb dXR_routes_61 (by decide) (by omega) (by omega) (fun c61_29 => ?_) (fun c61_29 => ?_)
              · refine lv_iload hx hb dXR_routes_66 (lv_at hl 0 rfl) ?_
                refine lv_iload_n hx hb dXR_routes_68 rfl (lv_at hl 2 rfl) ?_
                refine ji_icmp_gt (tgt := 80) hx hb dXR_routes_69 (by decide) (by omega) (by omega) (fun c69_30 => ?_) (fun c69_30 => ?_)
                · refine lv_aload_n hx hb dXR_routes_80 rfl (lv_at hl 4 rfl) ?_
                  refine lv_iload_n hx hb dXR_routes_81 rfl (lv_at hl 5 rfl) ?_
                  refine lv_iload hx hb dXR_routes_82 (lv_at hl 0 rfl) ?_
                  refine jwVv (rest := []) (wr := [(rda, .inr (2, [.ref ta])), (ta, .inr (3, [.ref ts, .int (jI tn), .int (jI tp1'23), .int (jI tw1'24)])), (ts, .inl (cA, 400, .inl (jA tf)))]) ⟨hx, hb, hml, hown, hts⟩ (c_XB_tellRoute l dC dI cA _ ba bt bp bl bh bq br bd bg bf yr zg r22 (by first | assumption | omega) (by first | assumption | omega) (by first | assumption | omega)) (cwV 2 hts (jG_V tw_252 tw_253 tw_254 tw_5 tw_255) rfl rfl rfl (by decide +kernel) (by rw [hR]; exact ⟨Nat.le_of_ble_eq_true rfl, Nat.le_of_ble_eq_true rfl⟩)) hK hP hD hS hA hN [1, 2] [0, 3, 4] rfl rfl (by decide) (by decide) (by decide) 1 0 rfl rfl rfl rfl hl.1 rfl (Nat.le_of_ble_eq_true rfl) dXR_routes_84 (by rw [hR]; exact ⟨Nat.le_of_ble_eq_true rfl, Nat.le_of_ble_eq_true rfl⟩) (fun u31 H locs hw hP hD hS => ?_)
                  subst hw
                  have hP : va_P (dC, dI) vwCl [(rda, .inr (2, [.ref ta])), (ta, .inr (3, [.ref ts, .int (jI tn), .int (jI tp1'23), .int (jI tw1'24)])), (ts, .inl (cA, 400, .inl (jA tf))), (ba, .inr (0, [.ref bt, .ref bp, .ref bl, .ref bh, .ref bq, .ref br, .ref bd, .int (jI bg), .int (jI bf)])), (br, .inl (cA, 31, .inl (jA (f_XB_tellRoute bg bf yr zg r22))))] H := hP
                  have hD : va_D A [(rda, .inr (2, [.ref ta])), (ta, .inr (3, [.ref ts, .int (jI tn), .int (jI tp1'23), .int (jI tw1'24)])), (ts, .inl (cA, 400, .inl (jA tf))), (ba, .inr (0, [.ref bt, .ref bp, .ref bl, .ref bh, .ref bq, .ref br, .ref bd, .int (jI bg), .int (jI bf)])), (br, .inl (cA, 31, .inl (jA (f_XB_tellRoute bg bf yr zg r22))))] := hD
                  have f32 := f_XB_tellRoute_b bg bf yr zg r22 (by first | assumption | omega) (by first | assumption | omega) (by first | assumption | omega)
                  refine lv_iload hx hb dXR_routes_87 (lv_at hl 0 rfl) ?_
                  refine lv_istore_n (lv' := [(3, .int (jI r22)), (5, .int (jI r22)), (4, .int (jI k)), (0, .ref rda), (1, .ref ba), (2, .int (jI zg))]) hx hb dXR_routes_89 rfl hl (by decide) rfl (fun ls hl => ?_)
                  refine ji_iinc (k := 2) (lv' := [(4, .int (jI (k + 1))), (3, .int (jI r22)), (5, .int (jI r22)), (0, .ref rda), (1, .ref ba), (2, .int (jI zg))]) hx hb dXR_routes_90 hl rfl (by decide) rfl (fun ls hl => ?_)
                  refine lv_goto (tgt := 19) hx hb dXR_routes_93 (by decide) ?_
                  exact ih19 (k + 1) r22 tp1'23 tw1'24 (f_XB_tellRoute bg bf yr zg r22) (by omega) (Eq.trans (by rw [f_XR_routes_L19_s]; rw [if_pos c22_, if_pos c27_]; rw [← hwb19]; try dsimp only; rw [if_neg c40_]; rw [← hwb27]; try dsimp only; rw [if_neg c61_29, if_pos c69_30]; try rfl) hF) (by first | assumption | omega) (by first | assumption | omega) (by first | assumption | omega) (by first | assumption | omega) _ _ (hP.sub [0, 3, 4, 1, 2] rfl) (hD.sub [0, 3, 4, 1, 2] (by decide) rfl) hS ls (lv_sub hl [0, 1, 3, 4, 5] rfl)
                · refine lv_aload_n hx hb dXR_routes_72 rfl (lv_at hl 3 rfl) ?_
                  refine va_get (D := (dC, dI)) (ci := 2) (v := .ref ta) (C := RXR) (T := TXR) (N := 1) hx hb hts (fun w h => jmem (inXR w h)) hown hK hP 0 rfl rfl 0 (by decide) (hts _ (jmem tw_50)) (fun _ h9 => h9) rfl dXR_routes_73 ?_
                  refine jwVi (rest := []) (wr := [(rda, .inr (2, [.ref ta])), (ba, .inr (0, [.ref bt, .ref bp, .ref bl, .ref bh, .ref bq, .ref br, .ref bd, .int (jI bg), .int (jI bf)])), (br, .inl (cA, 31, .inl (jA yr)))]) ⟨hx, hb, hml, hown, hts⟩ (c_XT_refuseLast l dC dI cA _ ta ts tn tp1'23 tw1'24 tf) (cwV 0 hts (jG_V tw_174 tw_175 tw_176 tw_2 tw_177) rfl rfl rfl (by decide +kernel) (by rw [hR]; exact ⟨Nat.le_of_ble_eq_true rfl, Nat.le_of_ble_eq_true rfl⟩)) hK hP hD hS hA hN [3, 4] [0, 1, 2] rfl rfl (by decide) (by decide) (by decide) 3 3 rfl rfl rfl rfl hl.1 rfl (Nat.le_of_ble_eq_true rfl) dXR_routes_76 (by rw [hR]; exact ⟨Nat.le_of_ble_eq_true rfl, Nat.le_of_ble_eq_true rfl⟩) (fun v36 u35 H locs hwb37 hP hD hS => ?_)
                  obtain ⟨r33, tw1'34⟩ := u35
                  try dsimp only at hwb37
                  obtain ⟨er, hwb37⟩ := hwb37
                  subst er
                  have hP : va_P (dC, dI) vwCl [(rda, .inr (2, [.ref ta])), (ba, .inr (0, [.ref bt, .ref bp, .ref bl, .ref bh, .ref bq, .ref br, .ref bd, .int (jI bg), .int (jI bf)])), (br, .inl (cA, 31, .inl (jA yr))), (ta, .inr (3, [.ref ts, .int (jI tn), .int (jI tp1'23), .int (jI tw1'34)])), (ts, .inl (cA, 400, .inl (jA tf)))] H := hP
                  have hD : va_D A [(rda, .inr (2, [.ref ta])), (ba, .inr (0, [.ref bt, .ref bp, .ref bl, .ref bh, .ref bq, .ref br, .ref bd, .int (jI bg), .int (jI bf)])), (br, .inl (cA, 31, .inl (jA yr))), (ta, .inr (3, [.ref ts, .int (jI tn), .int (jI tp1'23), .int (jI tw1'34)])), (ts, .inl (cA, 400, .inl (jA tf)))] := hD
                  have f38 := f_XT_refuseLast_b tn tp1'23 tw1'24 tf
                  rw [← hwb37] at f38; try dsimp only at f38
                  have hP9 := hP.sub (ws' := [(rda, .inr (2, [.ref ta])), (ta, .inr (3, [.ref ts, .int (jI tn), .int (jI tp1'23), .int (jI tw1'34)])), (ts, .inl (cA, 400, .inl (jA tf))), (ba, .inr (0, [.ref bt, .ref bp, .ref bl, .ref bh, .ref bq, .ref br, .ref bd, .int (jI bg), .int (jI bf)])), (br, .inl (cA, 31, .inl (jA yr)))]) [0, 3, 4, 1, 2] rfl
                  have hD9 := hD.sub (ws' := [(rda, .inr (2, [.ref ta])), (ta, .inr (3, [.ref ts, .int (jI tn), .int (jI tp1'23), .int (jI tw1'34)])), (ts, .inl (cA, 400, .inl (jA tf))), (ba, .inr (0, [.ref bt, .ref bp, .ref bl, .ref bh, .ref bq, .ref br, .ref bd, .int (jI bg), .int (jI bf)])), (br, .inl (cA, 31, .inl (jA yr)))]) [0, 3, 4, 1, 2] (by decide) rfl
                  subst hAe
                  subst hQ
                  exact W.zret (v := jI r33) hx hb hr (by first | decide | exact jz (by omega)) (fun t ht hW => ⟨⟨_, (r33, tp1'23, tw1'34, yr), rfl, ⟨rfl, Eq.trans (by rw [f_XR_routes_L19_s]; rw [if_pos c22_, if_pos c27_]; rw [← hwb19]; try dsimp only; rw [if_neg c40_]; rw [← hwb27]; try dsimp only; rw [if_neg c61_29, if_neg (Int.not_lt.mpr c69_30)]; rw [← hwb37]; try dsimp only; try rfl) hF, show 0 ≤ r33 ∧ r33 ≤ 1 from by first | assumption | omega, show 0 ≤ tp1'23 ∧ tp1'23 ≤ tn from by first | assumption | omega, show ∀ i, 0 ≤ yr i ∧ yr i < 2147483648 from by first | assumption | omega⟩, ⟨by rw [ht]; exact hP9, va_K.moved hW.alike hK, hD9⟩⟩, hS.F ht⟩) hS.2.2 dXR_routes_79
              · refine ji_iconst hx hb dXR_routes_64 ?_
                have hP9 := hP.sub (ws' := [(rda, .inr (2, [.ref ta])), (ta, .inr (3, [.ref ts, .int (jI tn), .int (jI tp1'23), .int (jI tw1'24)])), (ts, .inl (cA, 400, .inl (jA tf))), (ba, .inr (0, [.ref bt, .ref bp, .ref bl, .ref bh, .ref bq, .ref br, .ref bd, .int (jI bg), .int (jI bf)])), (br, .inl (cA, 31, .inl (jA yr)))]) [0, 3, 4, 1, 2] rfl
                have hD9 := hD.sub (ws' := [(rda, .inr (2, [.ref ta])), (ta, .inr (3, [.ref ts, .int (jI tn), .int (jI tp1'23), .int (jI tw1'24)])), (ts, .inl (cA, 400, .inl (jA tf))), (ba, .inr (0, [.ref bt, .ref bp, .ref bl, .ref bh, .ref bq, .ref br, .ref bd, .int (jI bg), .int (jI bf)])), (br, .inl (cA, 31, .inl (jA yr)))]) [0, 3, 4, 1, 2] (by decide) rfl
                subst hAe
                subst hQ
                exact W.zret (v := jI 0) hx hb hr (by first | decide | exact jz (by omega)) (fun t ht hW => ⟨⟨_, (0, tp1'23, tw1'24, yr), rfl, ⟨rfl, Eq.trans (by rw [f_XR_routes_L19_s]; rw [if_pos c22_, if_pos c27_]; rw [← hwb19]; try dsimp only; rw [if_neg c40_]; rw [← hwb27]; try dsimp only; rw [if_pos c61_29]; try rfl) hF, show 0 ≤ 0 ∧ 0 ≤ 1 from by first | assumption | omega, show 0 ≤ tp1'23 ∧ tp1'23 ≤ tn from by first | assumption | omega, show ∀ i, 0 ≤ yr i ∧ yr i < 2147483648 from by first | assumption | omega⟩, ⟨by rw [ht]; exact hP9, va_K.moved hW.alike hK, hD9⟩⟩, hS.F ht⟩) hS.2.2 dXR_routes_65
            · refine ji_iconst hx hb dXR_routes_43 ?_
              have hP9 := hP.sub (ws' := [(rda, .inr (2, [.ref ta])), (ta, .inr (3, [.ref ts, .int (jI tn), .int (jI tp1'16), .int (jI w)])), (ts, .inl (cA, 400, .inl (jA tf))), (ba, .inr (0, [.ref bt, .ref bp, .ref bl, .ref bh, .ref bq, .ref br, .ref bd, .int (jI bg), .int (jI bf)])), (br, .inl (cA, 31, .inl (jA yr)))]) [0, 3, 4, 1, 2] rfl
              have hD9 := hD.sub (ws' := [(rda, .inr (2, [.ref ta])), (ta, .inr (3, [.ref ts, .int (jI tn), .int (jI tp1'16), .int (jI w)])), (ts, .inl (cA, 400, .inl (jA tf))), (ba, .inr (0, [.ref bt, .ref bp, .ref bl, .ref bh, .ref bq, .ref br, .ref bd, .int (jI bg), .int (jI bf)])), (br, .inl (cA, 31, .inl (jA yr)))]) [0, 3, 4, 1, 2] (by decide) rfl
              subst hAe
              subst hQ
              exact W.zret (v := jI 1) hx hb hr (by first | decide | exact jz (by omega)) (fun t ht hW => ⟨⟨_, (1, tp1'16, w, yr), rfl, ⟨rfl, Eq.trans (by rw [f_XR_routes_L19_s]; rw [if_pos c22_, if_pos c27_]; rw [← hwb19]; try dsimp only; rw [if_pos c40_]; try rfl) hF, show 0 ≤ 1 ∧ 1 ≤ 1 from by first | assumption | omega, show 0 ≤ tp1'16 ∧ tp1'16 ≤ tn from by first | assumption | omega, show ∀ i, 0 ≤ yr i ∧ yr i < 2147483648 from by first | assumption | omega⟩, ⟨by rw [ht]; exact hP9, va_K.moved hW.alike hK, hD9⟩⟩, hS.F ht⟩) hS.2.2 dXR_routes_44
    exact loop19 (Int.toNat (4 - 0) + 1) 0 (-1) tp1' tw fr (by omega) (Eq.trans (by rw [f_XR_routes_s]; rw [← hwb]; try dsimp only; rw [if_neg c9_]; try rfl) rfl) (by first | assumption | omega) (by first | assumption | omega) (by first | assumption | omega) (by first | assumption | omega) _ _ hP hD hS ls (lv_sub hl [0, 1, 2, 3, 4] rfl)
  · refine ji_iconst hx hb dXR_routes_12 ?_
    have hP9 := hP.sub (ws' := [(rda, .inr (2, [.ref ta])), (ta, .inr (3, [.ref ts, .int (jI tn), .int (jI tp1'), .int (jI tw)])), (ts, .inl (cA, 400, .inl (jA tf))), (ba, .inr (0, [.ref bt, .ref bp, .ref bl, .ref bh, .ref bq, .ref br, .ref bd, .int (jI bg), .int (jI bf)])), (br, .inl (cA, 31, .inl (jA fr)))]) [0, 3, 4, 1, 2] rfl
    have hD9 := hD.sub (ws' := [(rda, .inr (2, [.ref ta])), (ta, .inr (3, [.ref ts, .int (jI tn), .int (jI tp1'), .int (jI tw)])), (ts, .inl (cA, 400, .inl (jA tf))), (ba, .inr (0, [.ref bt, .ref bp, .ref bl, .ref bh, .ref bq, .ref br, .ref bd, .int (jI bg), .int (jI bf)])), (br, .inl (cA, 31, .inl (jA fr)))]) [0, 3, 4, 1, 2] (by decide) rfl
    subst hAe
    subst hQ
    exact W.zret (v := jI 1) hx hb hr (by first | decide | exact jz (by omega)) (fun t ht hW => ⟨⟨_, (1, tp1', tw, fr), rfl, ⟨rfl, Eq.trans (by rw [f_XR_routes_s]; rw [← hwb]; try dsimp only; rw [if_pos c9_]; try rfl) rfl, show 0 ≤ 1 ∧ 1 ≤ 1 from by first | assumption | omega, show 0 ≤ tp1' ∧ tp1' ≤ tn from by first | assumption | omega, show ∀ i, 0 ≤ fr i ∧ fr i < 2147483648 from by first | assumption | omega⟩, ⟨by rw [ht]; exact hP9, va_K.moved hW.alike hK, hD9⟩⟩, hS.F ht⟩) hS.2.2 dXR_routes_13
noncomputable def g_XR_limits_L2 (tn : Int) (tp : Int) (tw : Int) (tf : Int → Int) (bg : Int) (bf : Int) (fq : Int → Int) (zg : Int) : Nat → Int → Int → Int → (Int → Int) → Int × Int × Int × (Int → Int)
  | 0, _, _, _, _ => (0, 0, 0, fun _ => 0)
  | n9 + 1, k, q, w, yq =>
    if 4 < k then
      (1, q, w, yq)
    else
      match f_XT_skipIf tn q w tf 113 with
      | (r, tp1') =>
        if r = 0 then
          (1, tp1', w, yq)
        else
          match f_XT_takeOneOf tn tp1' w tf 48 4 with
          | (r1, tp1'2, tw1') =>
            if r1 = (-1) then
              (0, tp1'2, tw1', yq)
            else
              if (f_XB_tellsLimit bg bf yq zg r1) = 0 then
                match f_XT_take tn tp1'2 tw1' tf 60 with
                | (r9, tp1'10, tw1'11) =>
                  if r9 = 0 then
                    (0, tp1'10, tw1'11, yq)
                  else
                    match f_XT_number tn tp1'10 tw1'11 tf 0 999999 with
                    | (r16, tp1'17, tw1'18) =>
                      if r16 = (-1) then
                        (0, tp1'17, tw1'18, yq)
                      else
                        g_XR_limits_L2 tn tp tw tf bg bf fq zg n9 (k + 1) tp1'17 tw1'18 (f_XB_tellLimit bg bf yq zg r1 r16)
              else
                match f_XT_refuseLast tn tp1'2 tw1' tf with
                | (r25, tw1'26) =>
                  (r25, tp1'2, tw1'26, yq)
noncomputable def f_XR_limits_L2 : Int → Int → Int → (Int → Int) → Int → Int → (Int → Int) → Int → Nat → Int → Int → Int → (Int → Int) → Int × Int × Int × (Int → Int) := jopq g_XR_limits_L2
theorem f_XR_limits_L2_q : f_XR_limits_L2 = g_XR_limits_L2 := jopq_eq _
theorem f_XR_limits_L2_s (tn : Int) (tp : Int) (tw : Int) (tf : Int → Int) (bg : Int) (bf : Int) (fq : Int → Int) (zg : Int) (n9 : Nat) (k : Int) (q : Int) (w : Int) (yq : Int → Int) : f_XR_limits_L2 tn tp tw tf bg bf fq zg (n9 + 1) k q w yq = (
    if 4 < k then
      (1, q, w, yq)
    else
      match f_XT_skipIf tn q w tf 113 with
      | (r, tp1') =>
        if r = 0 then
          (1, tp1', w, yq)
        else
          match f_XT_takeOneOf tn tp1' w tf 48 4 with
          | (r1, tp1'2, tw1') =>
            if r1 = (-1) then
              (0, tp1'2, tw1', yq)
            else
              if (f_XB_tellsLimit bg bf yq zg r1) = 0 then
                match f_XT_take tn tp1'2 tw1' tf 60 with
                | (r9, tp1'10, tw1'11) =>
                  if r9 = 0 then
                    (0, tp1'10, tw1'11, yq)
                  else
                    match f_XT_number tn tp1'10 tw1'11 tf 0 999999 with
                    | (r16, tp1'17, tw1'18) =>
                      if r16 = (-1) then
                        (0, tp1'17, tw1'18, yq)
                      else
                        f_XR_limits_L2 tn tp tw tf bg bf fq zg n9 (k + 1) tp1'17 tw1'18 (f_XB_tellLimit bg bf yq zg r1 r16)
              else
                match f_XT_refuseLast tn tp1'2 tw1' tf with
                | (r25, tw1'26) =>
                  (r25, tp1'2, tw1'26, yq)
  : Int × Int × Int × (Int → Int)) := by rw [f_XR_limits_L2_q]; rfl
theorem f_XR_limits_L2_z (tn : Int) (tp : Int) (tw : Int) (tf : Int → Int) (bg : Int) (bf : Int) (fq : Int → Int) (zg : Int) (k : Int) (q : Int) (w : Int) (yq : Int → Int) : f_XR_limits_L2 tn tp tw tf bg bf fq zg 0 k q w yq = (0, 0, 0, fun _ => 0) := by rw [f_XR_limits_L2_q]; rfl
noncomputable def g_XR_limits (tn : Int) (tp : Int) (tw : Int) (tf : Int → Int) (bg : Int) (bf : Int) (fq : Int → Int) (zg : Int) : Int × Int × Int × (Int → Int) :=
  f_XR_limits_L2 tn tp tw tf bg bf fq zg (Int.toNat (5 - 0) + 1) 0 tp tw fq
noncomputable def f_XR_limits : Int → Int → Int → (Int → Int) → Int → Int → (Int → Int) → Int → Int × Int × Int × (Int → Int) := jopq g_XR_limits
theorem f_XR_limits_q : f_XR_limits = g_XR_limits := jopq_eq _
theorem f_XR_limits_s (tn : Int) (tp : Int) (tw : Int) (tf : Int → Int) (bg : Int) (bf : Int) (fq : Int → Int) (zg : Int) : f_XR_limits tn tp tw tf bg bf fq zg = (
    f_XR_limits_L2 tn tp tw tf bg bf fq zg (Int.toNat (5 - 0) + 1) 0 tp tw fq
  : Int × Int × Int × (Int → Int)) := by rw [f_XR_limits_q]; rfl
set_option maxHeartbeats 4000000 in
set_option maxRecDepth 100000 in
theorem c_XR_limits (l : Launch) (dC : Nat → ClassId) (dI : Nat → Nat → Nat) (cA : ClassId) (sz : Nat) (rda : Nat) (ta : Nat) (ts : Nat) (tn : Int) (tp : Int) (tw : Int) (tf : Int → Int) (ba : Nat) (bt : Nat) (bp : Nat) (bl : Nat) (bh : Nat) (bq : Nat) (br : Nat) (bd : Nat) (bg : Int) (bf : Int) (fq : Int → Int) (zg : Int) (hn : 0 ≤ tn ∧ tn ≤ 400) (hp : 0 ≤ tp ∧ tp ≤ tn) (hf : ∀ i, 0 ≤ tf i ∧ tf i < 256) (hbq : ∀ i, -1 ≤ fq i ∧ fq i ≤ 999999) (hzg : 0 ≤ zg ∧ zg ≤ 30) : Met l yXR_limits (Cond.code yXR_limits cXR_limits 6 (some .boolean) :: TBL) ({ frames := 2, cells := 0, slots := 0, locals := 44 } : Room) (va_Pc [.ref rda, .ref ba, .int (jI zg)] (jBw (dC, dI) [(cA, .int)] [(rda, .inr (2, [.ref ta])), (ta, .inr (3, [.ref ts, .int (jI tn), .int (jI tp), .int (jI tw)])), (ts, .inl (cA, 400, .inl (jA tf))), (ba, .inr (0, [.ref bt, .ref bp, .ref bl, .ref bh, .ref bq, .ref br, .ref bd, .int (jI bg), .int (jI bf)])), (bq, .inl (cA, 124, .inl (jA fq)))] sz)) (va_Qi (fun (r : Int32) (u : Int × Int × Int × (Int → Int)) => r = jI u.1 ∧ u = f_XR_limits tn tp tw tf bg bf fq zg ∧ (0 ≤ u.1 ∧ u.1 ≤ 1) ∧ (0 ≤ u.2.1 ∧ u.2.1 ≤ tn) ∧ (∀ i, -1 ≤ u.2.2.2 i ∧ u.2.2.2 i ≤ 999999)) (fun u t => jE (dC, dI) [(cA, .int)] [(rda, .inr (2, [.ref ta])), (ta, .inr (3, [.ref ts, .int (jI tn), .int (jI tp), .int (jI tw)])), (ts, .inl (cA, 400, .inl (jA tf))), (ba, .inr (0, [.ref bt, .ref bp, .ref bl, .ref bh, .ref bq, .ref br, .ref bd, .int (jI bg), .int (jI bf)])), (bq, .inl (cA, 124, .inl (jA fq)))] sz [(rda, .inr (2, [.ref ta])), (ta, .inr (3, [.ref ts, .int (jI tn), .int (jI u.2.1), .int (jI u.2.2.1)])), (ts, .inl (cA, 400, .inl (jA tf))), (ba, .inr (0, [.ref bt, .ref bp, .ref bl, .ref bh, .ref bq, .ref br, .ref bd, .int (jI bg), .int (jI bf)])), (bq, .inl (cA, 124, .inl (jA u.2.2.2)))] t) (va_A [(rda, .inr (2, [.ref ta])), (ta, .inr (3, [.ref ts, .int (jI tn), .int (jI tp), .int (jI tw)])), (ts, .inl (cA, 400, .inl (jA tf))), (ba, .inr (0, [.ref bt, .ref bp, .ref bl, .ref bh, .ref bq, .ref br, .ref bd, .int (jI bg), .int (jI bf)])), (bq, .inl (cA, 124, .inl (jA fq)))] sz)) 0 0 (va_A [(rda, .inr (2, [.ref ta])), (ta, .inr (3, [.ref ts, .int (jI tn), .int (jI tp), .int (jI tw)])), (ts, .inl (cA, 400, .inl (jA tf))), (ba, .inr (0, [.ref bt, .ref bp, .ref bl, .ref bh, .ref bq, .ref br, .ref bd, .int (jI bg), .int (jI bf)])), (bq, .inl (cA, 124, .inl (jA fq)))] sz) := by
  refine jMet (cc := cXR_limits) (maxL := 6) (ret := some .boolean) (by decide) rfl ?_
  intro p e s m args below meth c s₁ R Q hR hQ B hml hv
  obtain ⟨rfl, hsz, hP, hK, hD0, hN⟩ := hv
  have hx := B.exec
  have hb := B.bytes
  have hr := B.returns
  have hts := atoms_spec (ws := Cond.code yXR_limits cXR_limits 6 (some .boolean) :: TBL) B.pre
  have hown : s.vm.findClass RXR = some m.cls := findClass_of_methodNamed B.named
  have hlocks := B.notSynchronized
  subst hsz
  obtain ⟨A, hAe⟩ : ∃ A, A = va_A [(rda, .inr (2, [.ref ta])), (ta, .inr (3, [.ref ts, .int (jI tn), .int (jI tp), .int (jI tw)])), (ts, .inl (cA, 400, .inl (jA tf))), (ba, .inr (0, [.ref bt, .ref bp, .ref bl, .ref bh, .ref bq, .ref br, .ref bd, .int (jI bg), .int (jI bf)])), (bq, .inl (cA, 124, .inl (jA fq)))] s.heap.size := ⟨_, rfl⟩
  have hD : va_D A [(rda, .inr (2, [.ref ta])), (ta, .inr (3, [.ref ts, .int (jI tn), .int (jI tp), .int (jI tw)])), (ts, .inl (cA, 400, .inl (jA tf))), (ba, .inr (0, [.ref bt, .ref bp, .ref bl, .ref bh, .ref bq, .ref br, .ref bd, .int (jI bg), .int (jI bf)])), (bq, .inl (cA, 124, .inl (jA fq)))] := by rw [hAe]; exact hD0.self
  have hA : ∀ q : Nat, s.heap.size ≤ q → A q := fun q h => by rw [hAe]; exact Or.inr h
  have hS : va_S A s.heap s.heap [] := va_S.rf
  have hP : va_P (dC, dI) vwCl [(rda, .inr (2, [.ref ta])), (ta, .inr (3, [.ref ts, .int (jI tn), .int (jI tp), .int (jI tw)])), (ts, .inl (cA, 400, .inl (jA tf))), (ba, .inr (0, [.ref bt, .ref bp, .ref bl, .ref bh, .ref bq, .ref br, .ref bd, .int (jI bg), .int (jI bf)])), (bq, .inl (cA, 124, .inl (jA fq)))] s.heap := hP
  have hl := lv_entry ([.ref rda, .ref ba, .int (jI zg)]) (n := 6) (Nat.le_of_ble_eq_true rfl)
  rw [lg_entry_eq]
  generalize (lg_sl ([.ref rda, .ref ba, .int (jI zg)]) ++ List.replicate (6 - (lg_sl ([.ref rda, .ref ba, .int (jI zg)])).length) Slot.unset).toArray = ls at hl ⊢
  have hl : lv_has ls 6 [(0, .ref rda), (1, .ref ba), (2, .int (jI zg))] := hl
  refine ji_iconst hx hb dXR_limits_0 ?_
  refine lv_istore_n (lv' := [(3, .int (jI 0)), (0, .ref rda), (1, .ref ba), (2, .int (jI zg))]) hx hb dXR_limits_1 rfl hl (by decide) rfl (fun ls hl => ?_)
  have loop2 : ∀ (n9 : Nat) (k : Int) (q : Int) (w : Int) (yq : Int → Int) , 5 - k < (n9 : Int) → f_XR_limits_L2 tn tp tw tf bg bf fq zg n9 k q w yq = f_XR_limits tn tp tw tf bg bf fq zg → (0 ≤ k ∧ k ≤ 5) → (0 ≤ q ∧ q ≤ tn) → (∀ i, -1 ≤ yq i ∧ yq i ≤ 999999) → ∀ (H : Heap) (locs : List Loc), va_P (dC, dI) vwCl [(rda, .inr (2, [.ref ta])), (ta, .inr (3, [.ref ts, .int (jI tn), .int (jI q), .int (jI w)])), (ts, .inl (cA, 400, .inl (jA tf))), (ba, .inr (0, [.ref bt, .ref bp, .ref bl, .ref bh, .ref bq, .ref br, .ref bd, .int (jI bg), .int (jI bf)])), (bq, .inl (cA, 124, .inl (jA yq)))] H → va_D A [(rda, .inr (2, [.ref ta])), (ta, .inr (3, [.ref ts, .int (jI tn), .int (jI q), .int (jI w)])), (ts, .inl (cA, 400, .inl (jA tf))), (ba, .inr (0, [.ref bt, .ref bp, .ref bl, .ref bh, .ref bq, .ref br, .ref bd, .int (jI bg), .int (jI bf)])), (bq, .inl (cA, 124, .inl (jA yq)))] → va_S A s.heap H locs → ∀ ls : Array Slot, lv_has ls 6 [(3, .int (jI k)), (0, .ref rda), (1, .ref ba), (2, .int (jI zg))] → W p l e R s m ([.ref rda, .ref ba, .int (jI zg)] : List Value).toArray below meth c H locs 0 0 Q (F0 m 2 ls []) := by
    intro n9
    induction n9 with
    | zero =>
      intro k q w yq hm hF hk hq haq
      exact absurd hm (by omega)
    | succ n9 ih2 =>
      intro k q w yq hm hF hk hq haq H locs hP hD hS ls hl
      refine lv_iload_n hx hb dXR_limits_2 rfl (lv_at hl 0 rfl) ?_
      refine ji_iconst hx hb dXR_limits_3 ?_
      refine ji_icmp_gt (tgt := 106) hx hb dXR_limits_4 (by decide) (by omega) (by omega) (fun c4_ => ?_) (fun c4_ => ?_)
      · refine ji_iconst hx hb dXR_limits_106 ?_
        have hP9 := hP.sub (ws' := [(rda, .inr (2, [.ref ta])), (ta, .inr (3, [.ref ts, .int (jI tn), .int (jI q), .int (jI w)])), (ts, .inl (cA, 400, .inl (jA tf))), (ba, .inr (0, [.ref bt, .ref bp, .ref bl, .ref bh, .ref bq, .ref br, .ref bd, .int (jI bg), .int (jI bf)])), (bq, .inl (cA, 124, .inl (jA yq)))]) [0, 1, 2, 3, 4] rfl
        have hD9 := hD.sub (ws' := [(rda, .inr (2, [.ref ta])), (ta, .inr (3, [.ref ts, .int (jI tn), .int (jI q), .int (jI w)])), (ts, .inl (cA, 400, .inl (jA tf))), (ba, .inr (0, [.ref bt, .ref bp, .ref bl, .ref bh, .ref bq, .ref br, .ref bd, .int (jI bg), .int (jI bf)])), (bq, .inl (cA, 124, .inl (jA yq)))]) [0, 1, 2, 3, 4] (by decide) rfl
        subst hAe
        subst hQ
        exact W.zret (v := jI 1) hx hb hr (by first | decide | exact jz (by omega)) (fun t ht hW => ⟨⟨_, (1, q, w, yq), rfl, ⟨rfl, Eq.trans (by rw [f_XR_limits_L2_s]; rw [if_pos c4_]; try rfl) hF, show 0 ≤ 1 ∧ 1 ≤ 1 from by first | assumption | omega, show 0 ≤ q ∧ q ≤ tn from by first | assumption | omega, show ∀ i, -1 ≤ yq i ∧ yq i ≤ 999999 from by first | assumption | omega⟩, ⟨by rw [ht]; exact hP9, va_K.moved hW.alike hK, hD9⟩⟩, hS.F ht⟩) hS.2.2 dXR_limits_107
      · refine lv_aload_n hx hb dXR_limits_7 rfl (lv_at hl 1 rfl) ?_
        refine va_get (D := (dC, dI)) (ci := 2) (v := .ref ta) (C := RXR) (T := TXR) (N := 1) hx hb hts (fun w h => jmem (inXR w h)) hown hK hP 0 rfl rfl 0 (by decide) (hts _ (jmem tw_50)) (fun _ h9 => h9) rfl dXR_limits_8 ?_
        refine ji_bipush hx hb dXR_limits_11 (by decide) ?_
        refine jwVi (rest := []) (wr := [(rda, .inr (2, [.ref ta])), (ba, .inr (0, [.ref bt, .ref bp, .ref bl, .ref bh, .ref bq, .ref br, .ref bd, .int (jI bg), .int (jI bf)])), (bq, .inl (cA, 124, .inl (jA yq)))]) ⟨hx, hb, hml, hown, hts⟩ (c_XT_skipIf l dC dI cA _ ta ts tn q w tf 113 (by first | assumption | omega) (by first | assumption | omega) (by first | assumption | omega) (by first | assumption | omega) (by first | assumption | omega)) (cwV 1 hts (jG_V tw_150 tw_151 tw_152 tw_2 tw_153) rfl rfl rfl (by decide +kernel) (by rw [hR]; exact ⟨Nat.le_of_ble_eq_true rfl, Nat.le_of_ble_eq_true rfl⟩)) hK hP hD hS hA hN [1, 2] [0, 3, 4] rfl rfl (by decide) (by decide) (by decide) 1 3 rfl rfl rfl rfl hl.1 rfl (Nat.le_of_ble_eq_true rfl) dXR_limits_13 (by rw [hR]; exact ⟨Nat.le_of_ble_eq_true rfl, Nat.le_of_ble_eq_true rfl⟩) (fun v u H locs hwb hP hD hS => ?_)
        obtain ⟨r, tp1'⟩ := u
        try dsimp only at hwb
        obtain ⟨er, hwb⟩ := hwb
        subst er
        have hP : va_P (dC, dI) vwCl [(rda, .inr (2, [.ref ta])), (ba, .inr (0, [.ref bt, .ref bp, .ref bl, .ref bh, .ref bq, .ref br, .ref bd, .int (jI bg), .int (jI bf)])), (bq, .inl (cA, 124, .inl (jA yq))), (ta, .inr (3, [.ref ts, .int (jI tn), .int (jI tp1'), .int (jI w)])), (ts, .inl (cA, 400, .inl (jA tf)))] H := hP
        have hD : va_D A [(rda, .inr (2, [.ref ta])), (ba, .inr (0, [.ref bt, .ref bp, .ref bl, .ref bh, .ref bq, .ref br, .ref bd, .int (jI bg), .int (jI bf)])), (bq, .inl (cA, 124, .inl (jA yq))), (ta, .inr (3, [.ref ts, .int (jI tn), .int (jI tp1'), .int (jI w)])), (ts, .inl (cA, 400, .inl (jA tf)))] := hD
        have f := f_XT_skipIf_b tn q w tf 113 (by first | assumption | omega) (by first | assumption | omega) (by first | assumption | omega) (by first | assumption | omega) (by first | assumption | omega)
        rw [← hwb] at f; try dsimp only at f
        refine ji_if_eq (tgt := 106) hx hb dXR_limits_16 (by decide) (by omega) (fun c16_ => ?_) (fun c16_ => ?_)
        · refine ji_iconst hx hb dXR_limits_106 ?_
          have hP9 := hP.sub (ws' := [(rda, .inr (2, [.ref ta])), (ta, .inr (3, [.ref ts, .int (jI tn), .int (jI tp1'), .int (jI w)])), (ts, .inl (cA, 400, .inl (jA tf))), (ba, .inr (0, [.ref bt, .ref bp, .ref bl, .ref bh, .ref bq, .ref br, .ref bd, .int (jI bg), .int (jI bf)])), (bq, .inl (cA, 124, .inl (jA yq)))]) [0, 3, 4, 1, 2] rfl
          have hD9 := hD.sub (ws' := [(rda, .inr (2, [.ref ta])), (ta, .inr (3, [.ref ts, .int (jI tn), .int (jI tp1'), .int (jI w)])), (ts, .inl (cA, 400, .inl (jA tf))), (ba, .inr (0, [.ref bt, .ref bp, .ref bl, .ref bh, .ref bq, .ref br, .ref bd, .int (jI bg), .int (jI bf)])), (bq, .inl (cA, 124, .inl (jA yq)))]) [0, 3, 4, 1, 2] (by decide) rfl
          subst hAe
          subst hQ
          exact W.zret (v := jI 1) hx hb hr (by first | decide | exact jz (by omega)) (fun t ht hW => ⟨⟨_, (1, tp1', w, yq), rfl, ⟨rfl, Eq.trans (by rw [f_XR_limits_L2_s]; rw [if_neg (Int.not_lt.mpr c4_)]; rw [← hwb]; try dsimp only; rw [if_pos c16_]; try rfl) hF, show 0 ≤ 1 ∧ 1 ≤ 1 from by first | assumption | omega, show 0 ≤ tp1' ∧ tp1' ≤ tn from by first | assumption | omega, show ∀ i, -1 ≤ yq i ∧ yq i ≤ 999999 from by first | assumption | omega⟩, ⟨by rw [ht]; exact hP9, va_K.moved hW.alike hK, hD9⟩⟩, hS.F ht⟩) hS.2.2 dXR_limits_107
        · refine lv_aload_n hx hb dXR_limits_19 rfl (lv_at hl 1 rfl) ?_
          refine va_get (D := (dC, dI)) (ci := 2) (v := .ref ta) (C := RXR) (T := TXR) (N := 1) hx hb hts (fun w h => jmem (inXR w h)) hown hK hP 0 rfl rfl 0 (by decide) (hts _ (jmem tw_50)) (fun _ h9 => h9) rfl dXR_limits_20 ?_
          refine ji_bipush hx hb dXR_limits_23 (by decide) ?_
          refine ji_iconst hx hb dXR_limits_25 ?_
          refine jwVi (rest := []) (wr := [(rda, .inr (2, [.ref ta])), (ba, .inr (0, [.ref bt, .ref bp, .ref bl, .ref bh, .ref bq, .ref br, .ref bd, .int (jI bg), .int (jI bf)])), (bq, .inl (cA, 124, .inl (jA yq)))]) ⟨hx, hb, hml, hown, hts⟩ (c_XT_takeOneOf l dC dI cA _ ta ts tn tp1' w tf 48 4 (by first | assumption | omega) (by first | assumption | omega) (by first | assumption | omega) (by first | assumption | omega) (by first | assumption | omega)) (cwV 2 hts (jG_V tw_159 tw_160 tw_161 tw_2 tw_162) rfl rfl rfl (by decide +kernel) (by rw [hR]; exact ⟨Nat.le_of_ble_eq_true rfl, Nat.le_of_ble_eq_true rfl⟩)) hK hP hD hS hA hN [3, 4] [0, 1, 2] rfl rfl (by decide) (by decide) (by decide) 3 3 rfl rfl rfl rfl hl.1 rfl (Nat.le_of_ble_eq_true rfl) dXR_limits_26 (by rw [hR]; exact ⟨Nat.le_of_ble_eq_true rfl, Nat.le_of_ble_eq_true rfl⟩) (fun v4 u3 H locs hwb5 hP hD hS => ?_)
          obtain ⟨r1, tp1'2, tw1'⟩ := u3
          try dsimp only at hwb5
          obtain ⟨er, hwb5⟩ := hwb5
          subst er
          have hP : va_P (dC, dI) vwCl [(rda, .inr (2, [.ref ta])), (ba, .inr (0, [.ref bt, .ref bp, .ref bl, .ref bh, .ref bq, .ref br, .ref bd, .int (jI bg), .int (jI bf)])), (bq, .inl (cA, 124, .inl (jA yq))), (ta, .inr (3, [.ref ts, .int (jI tn), .int (jI tp1'2), .int (jI tw1')])), (ts, .inl (cA, 400, .inl (jA tf)))] H := hP
          have hD : va_D A [(rda, .inr (2, [.ref ta])), (ba, .inr (0, [.ref bt, .ref bp, .ref bl, .ref bh, .ref bq, .ref br, .ref bd, .int (jI bg), .int (jI bf)])), (bq, .inl (cA, 124, .inl (jA yq))), (ta, .inr (3, [.ref ts, .int (jI tn), .int (jI tp1'2), .int (jI tw1')])), (ts, .inl (cA, 400, .inl (jA tf)))] := hD
          have f6 := f_XT_takeOneOf_b tn tp1' w tf 48 4 (by first | assumption | omega) (by first | assumption | omega) (by first | assumption | omega) (by first | assumption | omega) (by first | assumption | omega)
          rw [← hwb5] at f6; try dsimp only at f6
          refine lv_istore (lv' := [(4, .int (jI r1)), (3, .int (jI k)), (0, .ref rda), (1, .ref ba), (2, .int (jI zg))]) hx hb dXR_limits_29 hl (by decide) rfl (fun ls hl => ?_)
          refine lv_iload hx hb dXR_limits_31 (lv_at hl 0 rfl) ?_
          refine ji_iconst hx hb dXR_limits_33 ?_
          refine ji_icmp_ne (tgt := 39) hx hb dXR_limits_34 (by decide) (by omega) (by omega) (fun c34_ => ?_) (fun c34_ => ?_)
          · refine lv_aload_n hx hb dXR_limits_39 rfl (lv_at hl 3 rfl) ?_
            refine lv_iload_n hx hb dXR_limits_40 rfl (lv_at hl 4 rfl) ?_
            refine lv_iload hx hb dXR_limits_41 (lv_at hl 0 rfl) ?_
            refine jrVi (rest := []) ⟨hx, hb, hml, hown, hts⟩ (c_XB_tellsLimit l dC dI cA ba bt bp bl bh bq br bd bg bf yq zg r1 (by first | assumption | omega) (by first | assumption | omega) (by first | assumption | omega)) (cwV 2 hts (jG_V tw_260 tw_261 tw_262 tw_5 tw_263) rfl rfl rfl (by decide +kernel) (by rw [hR]; exact ⟨Nat.le_of_ble_eq_true rfl, Nat.le_of_ble_eq_true rfl⟩)) hK hP hN [1, 2] rfl 1 0 rfl rfl rfl rfl hl.1 rfl (Nat.le_of_ble_eq_true rfl) dXR_limits_43 (by rw [hR]; exact ⟨Nat.le_of_ble_eq_true rfl, Nat.le_of_ble_eq_true rfl⟩) ?_
            have f7 := f_XB_tellsLimit_b bg bf yq zg r1 (by first | assumption | omega) (by first | assumption | omega) (by first | assumption | omega)
            have f8 := f_XB_tellsLimit_c bg bf yq zg r1 (by first | assumption | omega) (by first | assumption | omega) (by first | assumption | omega)
            refine ji_if_eq (tgt := 57) hx hb dXR_limits_46 (by decide) (by omega) (fun c46_ => ?_) (fun c46_ => ?_)
            · refine lv_aload_n hx hb dXR_limits_57 rfl (lv_at hl 2 rfl) ?_
              refine va_get (D := (dC, dI)) (ci := 2) (v := .ref ta) (C := RXR) (T := TXR) (N := 1) hx hb hts (fun w h => jmem (inXR w h)) hown hK hP 0 rfl rfl 0 (by decide) (hts _ (jmem tw_50)) (fun _ h9 => h9) rfl dXR_limits_58 ?_
              refine ji_bipush hx hb dXR_limits_61 (by decide) ?_
              refine jwVi (rest := []) (wr := [(rda, .inr (2, [.ref ta])), (ba, .inr (0, [.ref bt, .ref bp, .ref bl, .ref bh, .ref bq, .ref br, .ref bd, .int (jI bg), .int (jI bf)])), (bq, .inl (cA, 124, .inl (jA yq)))]) ⟨hx, hb, hml, hown, hts⟩ (c_XT_take l dC dI cA _ ta ts tn tp1'2 tw1' tf 60 (by first | assumption | omega) (by first | assumption | omega) (by first | assumption | omega) (by first | assumption | omega) (by first | assumption | omega)) (cwV 1 hts (jG_V tw_182 tw_183 tw_184 tw_2 tw_185) rfl rfl rfl (by decide +kernel) (by rw [hR]; exact ⟨Nat.le_of_ble_eq_true rfl, Nat.le_of_ble_eq_true rfl⟩)) hK hP hD hS hA hN [3, 4] [0, 1, 2] rfl rfl (by decide) (by decide) (by decide) 3 3 rfl rfl rfl rfl hl.1 rfl (Nat.le_of_ble_eq_true rfl) dXR_limits_63 (by rw [hR]; exact ⟨Nat.le_of_ble_eq_true rfl, Nat.le_of_ble_eq_true rfl⟩) (fun v13 u12 H locs hwb14 hP hD hS => ?_)
              obtain ⟨r9, tp1'10, tw1'11⟩ := u12
              try dsimp only at hwb14
              obtain ⟨er, hwb14⟩ := hwb14
              subst er
              have hP : va_P (dC, dI) vwCl [(rda, .inr (2, [.ref ta])), (ba, .inr (0, [.ref bt, .ref bp, .ref bl, .ref bh, .ref bq, .ref br, .ref bd, .int (jI bg), .int (jI bf)])), (bq, .inl (cA, 124, .inl (jA yq))), (ta, .inr (3, [.ref ts, .int (jI tn), .int (jI tp1'10), .int (jI tw1'11)])), (ts, .inl (cA, 400, .inl (jA tf)))] H := hP
              have hD : va_D A [(rda, .inr (2, [.ref ta])), (ba, .inr (0, [.ref bt, .ref bp, .ref bl, .ref bh, .ref bq, .ref br, .ref bd, .int (jI bg), .int (jI bf)])), (bq, .inl (cA, 124, .inl (jA yq))), (ta, .inr (3, [.ref ts, .int (jI tn), .int (jI tp1'10), .int (jI tw1'11)])), (ts, .inl (cA, 400, .inl (jA tf)))] := hD
              have f15 := f_XT_take_b tn tp1'2 tw1' tf 60 (by first | assumption | omega) (by first | assumption | omega) (by first | assumption | omega) (by first | assumption | omega) (by first | assumption | omega)
              rw [← hwb14] at f15; try dsimp only at f15
              refine ji_if_ne (tgt := 71) hx hb dXR_limits_66 (by decide) (by omega) (fun c66_ => ?_) (fun c66_ => ?_)
              · refine lv_aload_n hx hb dXR_limits_71 rfl (lv_at hl 2 rfl) ?_
                refine va_get (D := (dC, dI)) (ci := 2) (v := .ref ta) (C := RXR) (T := TXR) (N := 1) hx hb hts (fun w h => jmem (inXR w h)) hown hK hP 0 rfl rfl 0 (by decide) (hts _ (jmem tw_50)) (fun _ h9 => h9) rfl dXR_limits_72 ?_
                refine ji_iconst hx hb dXR_limits_75 ?_
                refine lv_ldc hx hb hown (hts _ (jmem tw_264)) dXR_limits_76 ?_
                refine ji_re (y := 999999) (by decide) ?_
                refine jwVi (rest := []) (wr := [(rda, .inr (2, [.ref ta])), (ba, .inr (0, [.ref bt, .ref bp, .ref bl, .ref bh, .ref bq, .ref br, .ref bd, .int (jI bg), .int (jI bf)])), (bq, .inl (cA, 124, .inl (jA yq)))]) ⟨hx, hb, hml, hown, hts⟩ (c_XT_number l dC dI cA _ ta ts tn tp1'10 tw1'11 tf 0 999999 (by first | assumption | omega) (by first | assumption | omega) (by first | assumption | omega) (by first | assumption | omega) (by first | assumption | omega)) (cwV 2 hts (jG_V tw_194 tw_195 tw_196 tw_2 tw_197) rfl rfl rfl (by decide +kernel) (by rw [hR]; exact ⟨Nat.le_of_ble_eq_true rfl, Nat.le_of_ble_eq_true rfl⟩)) hK hP hD hS hA hN [3, 4] [0, 1, 2] rfl rfl (by decide) (by decide) (by decide) 3 3 rfl rfl rfl rfl hl.1 rfl (Nat.le_of_ble_eq_true rfl) dXR_limits_78 (by rw [hR]; exact ⟨Nat.le_of_ble_eq_true rfl, Nat.le_of_ble_eq_true rfl⟩) (fun v20 u19 H locs hwb21 hP hD hS => ?_)
                obtain ⟨r16, tp1'17, tw1'18⟩ := u19
                try dsimp only at hwb21
                obtain ⟨er, hwb21⟩ := hwb21
                subst er
                have hP : va_P (dC, dI) vwCl [(rda, .inr (2, [.ref ta])), (ba, .inr (0, [.ref bt, .ref bp, .ref bl, .ref bh, .ref bq, .ref br, .ref bd, .int (jI bg), .int (jI bf)])), (bq, .inl (cA, 124, .inl (jA yq))), (ta, .inr (3, [.ref ts, .int (jI tn), .int (jI tp1'17), .int (jI tw1'18)])), (ts, .inl (cA, 400, .inl (jA tf)))] H := hP
                have hD : va_D A [(rda, .inr (2, [.ref ta])), (ba, .inr (0, [.ref bt, .ref bp, .ref bl, .ref bh, .ref bq, .ref br, .ref bd, .int (jI bg), .int (jI bf)])), (bq, .inl (cA, 124, .inl (jA yq))), (ta, .inr (3, [.ref ts, .int (jI tn), .int (jI tp1'17), .int (jI tw1'18)])), (ts, .inl (cA, 400, .inl (jA tf)))] := hD
                have f22 := f_XT_number_b tn tp1'10 tw1'11 tf 0 999999 (by first | assumption | omega) (by first | assumption | omega) (by first | assumption | omega) (by first | assumption | omega) (by first | assumption | omega)
                rw [← hwb21] at f22; try dsimp only at f22
                refine lv_istore (lv' := [(5, .int (jI r16)), (4, .int (jI r1)), (3, .int (jI k)), (0, .ref rda), (1, .ref ba), (2, .int (jI zg))]) hx hb dXR_limits_81 hl (by decide) rfl (fun ls hl => ?_)
                refine lv_iload hx hb dXR_limits_83 (lv_at hl 0 rfl) ?_
                refine ji_iconst hx hb dXR_limits_85 ?_
                refine ji_icmp_ne (tgt := 91) hx hb dXR_limits_86 (by decide) (by omega) (by omega) (fun c86_ => ?_) (fun c86_ => ?_)
                · refine lv_aload_n hx hb dXR_limits_91 rfl (lv_at hl 4 rfl) ?_
                  refine lv_iload_n hx hb dXR_limits_92 rfl (lv_at hl 5 rfl) ?_
                  refine lv_iload hx hb dXR_limits_93 (lv_at hl 1 rfl) ?_
                  refine lv_iload hx hb dXR_limits_95 (lv_at hl 0 rfl) ?_
                  refine jwVv (rest := []) (wr := [(rda, .inr (2, [.ref ta])), (ta, .inr (3, [.ref ts, .int (jI tn), .int (jI tp1'17), .int (jI tw1'18)])), (ts, .inl (cA, 400, .inl (jA tf)))]) ⟨hx, hb, hml, hown, hts⟩ (c_XB_tellLimit l dC dI cA _ ba bt bp bl bh bq br bd bg bf yq zg r1 r16 (by first | assumption | omega) (by first | assumption | omega) (by first | assumption | omega) (by first | assumption | omega)) (cwV 3 hts (jG_V tw_265 tw_266 tw_267 tw_5 tw_268) rfl rfl rfl (by decide +kernel) (by rw [hR]; exact ⟨Nat.le_of_ble_eq_true rfl, Nat.le_of_ble_eq_true rfl⟩)) hK hP hD hS hA hN [1, 2] [0, 3, 4] rfl rfl (by decide) (by decide) (by decide) 1 0 rfl rfl rfl rfl hl.1 rfl (Nat.le_of_ble_eq_true rfl) dXR_limits_97 (by rw [hR]; exact ⟨Nat.le_of_ble_eq_true rfl, Nat.le_of_ble_eq_true rfl⟩) (fun u23 H locs hw hP hD hS => ?_)
                  subst hw
                  have hP : va_P (dC, dI) vwCl [(rda, .inr (2, [.ref ta])), (ta, .inr (3, [.ref ts, .int (jI tn), .int (jI tp1'17), .int (jI tw1'18)])), (ts, .inl (cA, 400, .inl (jA tf))), (ba, .inr (0, [.ref bt, .ref bp, .ref bl, .ref bh, .ref bq, .ref br, .ref bd, .int (jI bg), .int (jI bf)])), (bq, .inl (cA, 124, .inl (jA (f_XB_tellLimit bg bf yq zg r1 r16))))] H := hP
                  have hD : va_D A [(rda, .inr (2, [.ref ta])), (ta, .inr (3, [.ref ts, .int (jI tn), .int (jI tp1'17), .int (jI tw1'18)])), (ts, .inl (cA, 400, .inl (jA tf))), (ba, .inr (0, [.ref bt, .ref bp, .ref bl, .ref bh, .ref bq, .ref br, .ref bd, .int (jI bg), .int (jI bf)])), (bq, .inl (cA, 124, .inl (jA (f_XB_tellLimit bg bf yq zg r1 r16))))] := hD
                  have f24 := f_XB_tellLimit_b bg bf yq zg r1 r16 (by first | assumption | omega) (by first | assumption | omega) (by first | assumption | omega) (by first | assumption | omega)
                  refine ji_iinc (k := 2) (lv' := [(3, .int (jI (k + 1))), (5, .int (jI r16)), (4, .int (jI r1)), (0, .ref rda), (1, .ref ba), (2, .int (jI zg))]) hx hb dXR_limits_100 hl rfl (by decide) rfl (fun ls hl => ?_)
                  refine lv_goto (tgt := 2) hx hb dXR_limits_103 (by decide) ?_
                  exact ih2 (k + 1) tp1'17 tw1'18 (f_XB_tellLimit bg bf yq zg r1 r16) (by omega) (Eq.trans (by rw [f_XR_limits_L2_s]; rw [if_neg (Int.not_lt.mpr c4_)]; rw [← hwb]; try dsimp only; rw [if_neg c16_]; rw [← hwb5]; try dsimp only; rw [if_neg c34_, if_pos c46_]; rw [← hwb14]; try dsimp only; rw [if_neg c66_]; rw [← hwb21]; try dsimp only; rw [if_neg c86_]; try rfl) hF) (by first | assumption | omega) (by first | assumption | omega) (by first | assumption | omega) _ _ hP hD hS ls (lv_sub hl [0, 3, 4, 5] rfl)
                · refine ji_iconst hx hb dXR_limits_89 ?_
                  have hP9 := hP.sub (ws' := [(rda, .inr (2, [.ref ta])), (ta, .inr (3, [.ref ts, .int (jI tn), .int (jI tp1'17), .int (jI tw1'18)])), (ts, .inl (cA, 400, .inl (jA tf))), (ba, .inr (0, [.ref bt, .ref bp, .ref bl, .ref bh, .ref bq, .ref br, .ref bd, .int (jI bg), .int (jI bf)])), (bq, .inl (cA, 124, .inl (jA yq)))]) [0, 3, 4, 1, 2] rfl
                  have hD9 := hD.sub (ws' := [(rda, .inr (2, [.ref ta])), (ta, .inr (3, [.ref ts, .int (jI tn), .int (jI tp1'17), .int (jI tw1'18)])), (ts, .inl (cA, 400, .inl (jA tf))), (ba, .inr (0, [.ref bt, .ref bp, .ref bl, .ref bh, .ref bq, .ref br, .ref bd, .int (jI bg), .int (jI bf)])), (bq, .inl (cA, 124, .inl (jA yq)))]) [0, 3, 4, 1, 2] (by decide) rfl
                  subst hAe
                  subst hQ
                  exact W.zret (v := jI 0) hx hb hr (by first | decide | exact jz (by omega)) (fun t ht hW => ⟨⟨_, (0, tp1'17, tw1'18, yq), rfl, ⟨rfl, Eq.trans (by rw [f_XR_limits_L2_s]; rw [if_neg (Int.not_lt.mpr c4_)]; rw [← hwb]; try dsimp only; rw [if_neg c16_]; rw [← hwb5]; try dsimp only; rw [if_neg c34_, if_pos c46_]; rw [← hwb14]; try dsimp only; rw [if_neg c66_]; rw [← hwb21]; try dsimp only; rw [if_pos c86_]; try rfl) hF, show 0 ≤ 0 ∧ 0 ≤ 1 from by first | assumption | omega, show 0 ≤ tp1'17 ∧ tp1'17 ≤ tn from by first | assumption | omega, show ∀ i, -1 ≤ yq i ∧ yq i ≤ 999999 from by first | assumption | omega⟩, ⟨by rw [ht]; exact hP9, va_K.moved hW.alike hK, hD9⟩⟩, hS.F ht⟩) hS.2.2 dXR_limits_90
              · refine ji_iconst hx hb dXR_limits_69 ?_
                have hP9 := hP.sub (ws' := [(rda, .inr (2, [.ref ta])), (ta, .inr (3, [.ref ts, .int (jI tn), .int (jI tp1'10), .int (jI tw1'11)])), (ts, .inl (cA, 400, .inl (jA tf))), (ba, .inr (0, [.ref bt, .ref bp, .ref bl, .ref bh, .ref bq, .ref br, .ref bd, .int (jI bg), .int (jI bf)])), (bq, .inl (cA, 124, .inl (jA yq)))]) [0, 3, 4, 1, 2] rfl
                have hD9 := hD.sub (ws' := [(rda, .inr (2, [.ref ta])), (ta, .inr (3, [.ref ts, .int (jI tn), .int (jI tp1'10), .int (jI tw1'11)])), (ts, .inl (cA, 400, .inl (jA tf))), (ba, .inr (0, [.ref bt, .ref bp, .ref bl, .ref bh, .ref bq, .ref br, .ref bd, .int (jI bg), .int (jI bf)])), (bq, .inl (cA, 124, .inl (jA yq)))]) [0, 3, 4, 1, 2] (by decide) rfl
                subst hAe
                subst hQ
                exact W.zret (v := jI 0) hx hb hr (by first | decide | exact jz (by omega)) (fun t ht hW => ⟨⟨_, (0, tp1'10, tw1'11, yq), rfl, ⟨rfl, Eq.trans (by rw [f_XR_limits_L2_s]; rw [if_neg (Int.not_lt.mpr c4_)]; rw [← hwb]; try dsimp only; rw [if_neg c16_]; rw [← hwb5]; try dsimp only; rw [if_neg c34_, if_pos c46_]; rw [← hwb14]; try dsimp only; rw [if_pos c66_]; try rfl) hF, show 0 ≤ 0 ∧ 0 ≤ 1 from by first | assumption | omega, show 0 ≤ tp1'10 ∧ tp1'10 ≤ tn from by first | assumption | omega, show ∀ i, -1 ≤ yq i ∧ yq i ≤ 999999 from by first | assumption | omega⟩, ⟨by rw [ht]; exact hP9, va_K.moved hW.alike hK, hD9⟩⟩, hS.F ht⟩) hS.2.2 dXR_limits_70
            · refine lv_aload_n hx hb dXR_limits_49 rfl (lv_at hl 2 rfl) ?_
              refine va_get (D := (dC, dI)) (ci := 2) (v := .ref ta) (C := RXR) (T := TXR) (N := 1) hx hb hts (fun w h => jmem (inXR w h)) hown hK hP 0 rfl rfl 0 (by decide) (hts _ (jmem tw_50)) (fun _ h9 => h9) rfl dXR_limits_50 ?_
              refine jwVi (rest := []) (wr := [(rda, .inr (2, [.ref ta])), (ba, .inr (0, [.ref bt, .ref bp, .ref bl, .ref bh, .ref bq, .ref br, .ref bd, .int (jI bg), .int (jI bf)])), (bq, .inl (cA, 124, .inl (jA yq)))]) ⟨hx, hb, hml, hown, hts⟩ (c_XT_refuseLast l dC dI cA _ ta ts tn tp1'2 tw1' tf) (cwV 0 hts (jG_V tw_174 tw_175 tw_176 tw_2 tw_177) rfl rfl rfl (by decide +kernel) (by rw [hR]; exact ⟨Nat.le_of_ble_eq_true rfl, Nat.le_of_ble_eq_true rfl⟩)) hK hP hD hS hA hN [3, 4] [0, 1, 2] rfl rfl (by decide) (by decide) (by decide) 3 3 rfl rfl rfl rfl hl.1 rfl (Nat.le_of_ble_eq_true rfl) dXR_limits_53 (by rw [hR]; exact ⟨Nat.le_of_ble_eq_true rfl, Nat.le_of_ble_eq_true rfl⟩) (fun v28 u27 H locs hwb29 hP hD hS => ?_)
              obtain ⟨r25, tw1'26⟩ := u27
              try dsimp only at hwb29
              obtain ⟨er, hwb29⟩ := hwb29
              subst er
              have hP : va_P (dC, dI) vwCl [(rda, .inr (2, [.ref ta])), (ba, .inr (0, [.ref bt, .ref bp, .ref bl, .ref bh, .ref bq, .ref br, .ref bd, .int (jI bg), .int (jI bf)])), (bq, .inl (cA, 124, .inl (jA yq))), (ta, .inr (3, [.ref ts, .int (jI tn), .int (jI tp1'2), .int (jI tw1'26)])), (ts, .inl (cA, 400, .inl (jA tf)))] H := hP
              have hD : va_D A [(rda, .inr (2, [.ref ta])), (ba, .inr (0, [.ref bt, .ref bp, .ref bl, .ref bh, .ref bq, .ref br, .ref bd, .int (jI bg), .int (jI bf)])), (bq, .inl (cA, 124, .inl (jA yq))), (ta, .inr (3, [.ref ts, .int (jI tn), .int (jI tp1'2), .int (jI tw1'26)])), (ts, .inl (cA, 400, .inl (jA tf)))] := hD
              have f30 := f_XT_refuseLast_b tn tp1'2 tw1' tf
              rw [← hwb29] at f30; try dsimp only at f30
              have hP9 := hP.sub (ws' := [(rda, .inr (2, [.ref ta])), (ta, .inr (3, [.ref ts, .int (jI tn), .int (jI tp1'2), .int (jI tw1'26)])), (ts, .inl (cA, 400, .inl (jA tf))), (ba, .inr (0, [.ref bt, .ref bp, .ref bl, .ref bh, .ref bq, .ref br, .ref bd, .int (jI bg), .int (jI bf)])), (bq, .inl (cA, 124, .inl (jA yq)))]) [0, 3, 4, 1, 2] rfl
              have hD9 := hD.sub (ws' := [(rda, .inr (2, [.ref ta])), (ta, .inr (3, [.ref ts, .int (jI tn), .int (jI tp1'2), .int (jI tw1'26)])), (ts, .inl (cA, 400, .inl (jA tf))), (ba, .inr (0, [.ref bt, .ref bp, .ref bl, .ref bh, .ref bq, .ref br, .ref bd, .int (jI bg), .int (jI bf)])), (bq, .inl (cA, 124, .inl (jA yq)))]) [0, 3, 4, 1, 2] (by decide) rfl
              subst hAe
              subst hQ
              exact W.zret (v := jI r25) hx hb hr (by first | decide | exact jz (by omega)) (fun t ht hW => ⟨⟨_, (r25, tp1'2, tw1'26, yq), rfl, ⟨rfl, Eq.trans (by rw [f_XR_limits_L2_s]; rw [if_neg (Int.not_lt.mpr c4_)]; rw [← hwb]; try dsimp only; rw [if_neg c16_]; rw [← hwb5]; try dsimp only; rw [if_neg c34_, if_neg c46_]; rw [← hwb29]; try dsimp only; try rfl) hF, show 0 ≤ r25 ∧ r25 ≤ 1 from by first | assumption | omega, show 0 ≤ tp1'2 ∧ tp1'2 ≤ tn from by first | assumption | omega, show ∀ i, -1 ≤ yq i ∧ yq i ≤ 999999 from by first | assumption | omega⟩, ⟨by rw [ht]; exact hP9, va_K.moved hW.alike hK, hD9⟩⟩, hS.F ht⟩) hS.2.2 dXR_limits_56
          · refine ji_iconst hx hb dXR_limits_37 ?_
            have hP9 := hP.sub (ws' := [(rda, .inr (2, [.ref ta])), (ta, .inr (3, [.ref ts, .int (jI tn), .int (jI tp1'2), .int (jI tw1')])), (ts, .inl (cA, 400, .inl (jA tf))), (ba, .inr (0, [.ref bt, .ref bp, .ref bl, .ref bh, .ref bq, .ref br, .ref bd, .int (jI bg), .int (jI bf)])), (bq, .inl (cA, 124, .inl (jA yq)))]) [0, 3, 4, 1, 2] rfl
            have hD9 := hD.sub (ws' := [(rda, .inr (2, [.ref ta])), (ta, .inr (3, [.ref ts, .int (jI tn), .int (jI tp1'2), .int (jI tw1')])), (ts, .inl (cA, 400, .inl (jA tf))), (ba, .inr (0, [.ref bt, .ref bp, .ref bl, .ref bh, .ref bq, .ref br, .ref bd, .int (jI bg), .int (jI bf)])), (bq, .inl (cA, 124, .inl (jA yq)))]) [0, 3, 4, 1, 2] (by decide) rfl
            subst hAe
            subst hQ
            exact W.zret (v := jI 0) hx hb hr (by first | decide | exact jz (by omega)) (fun t ht hW => ⟨⟨_, (0, tp1'2, tw1', yq), rfl, ⟨rfl, Eq.trans (by rw [f_XR_limits_L2_s]; rw [if_neg (Int.not_lt.mpr c4_)]; rw [← hwb]; try dsimp only; rw [if_neg c16_]; rw [← hwb5]; try dsimp only; rw [if_pos c34_]; try rfl) hF, show 0 ≤ 0 ∧ 0 ≤ 1 from by first | assumption | omega, show 0 ≤ tp1'2 ∧ tp1'2 ≤ tn from by first | assumption | omega, show ∀ i, -1 ≤ yq i ∧ yq i ≤ 999999 from by first | assumption | omega⟩, ⟨by rw [ht]; exact hP9, va_K.moved hW.alike hK, hD9⟩⟩, hS.F ht⟩) hS.2.2 dXR_limits_38
  exact loop2 (Int.toNat (5 - 0) + 1) 0 tp tw fq (by omega) (Eq.trans (by rw [f_XR_limits_s]; try rfl) rfl) (by first | assumption | omega) (by first | assumption | omega) (by first | assumption | omega) _ _ hP hD hS ls (lv_sub hl [0, 1, 2, 3] rfl)
