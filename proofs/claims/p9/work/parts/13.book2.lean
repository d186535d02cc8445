noncomputable def g_XB_forget (bg : Int) (bf : Int) (ft : Int → Int) (fh : Int → Int) (fq : Int → Int) (fr : Int → Int) (fd : Int → Int) : (Int → Int) × (Int → Int) × (Int → Int) × (Int → Int) × (Int → Int) × Int × Int :=
  (f_XA_fill31 ft 0, f_XA_fill248 fh (-1), f_XA_fill124 fq (-1), f_XA_fill31 fr 0, f_XA_fill32 fd 0, 0, 0)
noncomputable def f_XB_forget : Int → Int → (Int → Int) → (Int → Int) → (Int → Int) → (Int → Int) → (Int → Int) → (Int → Int) × (Int → Int) × (Int → Int) × (Int → Int) × (Int → Int) × Int × Int := jopq g_XB_forget
theorem f_XB_forget_q : f_XB_forget = g_XB_forget := jopq_eq _
theorem f_XB_forget_s (bg : Int) (bf : Int) (ft : Int → Int) (fh : Int → Int) (fq : Int → Int) (fr : Int → Int) (fd : Int → Int) : f_XB_forget bg bf ft fh fq fr fd = (
    (f_XA_fill31 ft 0, f_XA_fill248 fh (-1), f_XA_fill124 fq (-1), f_XA_fill31 fr 0, f_XA_fill32 fd 0, 0, 0)
  : (Int → Int) × (Int → Int) × (Int → Int) × (Int → Int) × (Int → Int) × Int × Int) := by rw [f_XB_forget_q]; rfl
set_option maxHeartbeats 4000000 in
set_option maxRecDepth 100000 in
theorem c_XB_forget (l : Launch) (dC : Nat → ClassId) (dI : Nat → Nat → Nat) (cA : ClassId) (sz : Nat) (ba : Nat) (bt : Nat) (bp : Nat) (bl : Nat) (bh : Nat) (bq : Nat) (br : Nat) (bd : Nat) (bg : Int) (bf : Int) (ft : Int → Int) (fh : Int → Int) (fq : Int → Int) (fr : Int → Int) (fd : Int → Int) (hbt : ∀ i, 0 ≤ ft i ∧ ft i ≤ 30) (hbh : ∀ i, -1 ≤ fh i ∧ fh i ≤ 100000) (hbq : ∀ i, -1 ≤ fq i ∧ fq i ≤ 999999) (hbr : ∀ i, 0 ≤ fr i ∧ fr i < 2147483648) (hbd : ∀ i, 0 ≤ fd i ∧ fd i ≤ 20) : Met l yXB_forget (Cond.code yXB_forget cXB_forget 1 none :: TBL) ({ frames := 1, cells := 0, slots := 0, locals := 23 } : Room) (va_Pc [.ref ba] (jBw (dC, dI) [(cA, .int)] [(ba, .inr (0, [.ref bt, .ref bp, .ref bl, .ref bh, .ref bq, .ref br, .ref bd, .int (jI bg), .int (jI bf)])), (bt, .inl (cA, 31, .inl (jA ft))), (bh, .inl (cA, 248, .inl (jA fh))), (bq, .inl (cA, 124, .inl (jA fq))), (br, .inl (cA, 31, .inl (jA fr))), (bd, .inl (cA, 32, .inl (jA fd)))] sz)) (va_Qv (fun (u : (Int → Int) × (Int → Int) × (Int → Int) × (Int → Int) × (Int → Int) × Int × Int) => u = f_XB_forget bg bf ft fh fq fr fd ∧ (∀ i, 0 ≤ u.1 i ∧ u.1 i ≤ 30) ∧ (∀ i, -1 ≤ u.2.1 i ∧ u.2.1 i ≤ 100000) ∧ (∀ i, -1 ≤ u.2.2.1 i ∧ u.2.2.1 i ≤ 999999) ∧ (∀ i, 0 ≤ u.2.2.2.1 i ∧ u.2.2.2.1 i < 2147483648) ∧ (∀ i, 0 ≤ u.2.2.2.2.1 i ∧ u.2.2.2.2.1 i ≤ 20) ∧ (u.2.2.2.2.2.1 = 0) ∧ (u.2.2.2.2.2.2 = 0)) (fun u t => jE (dC, dI) [(cA, .int)] [(ba, .inr (0, [.ref bt, .ref bp, .ref bl, .ref bh, .ref bq, .ref br, .ref bd, .int (jI bg), .int (jI bf)])), (bt, .inl (cA, 31, .inl (jA ft))), (bh, .inl (cA, 248, .inl (jA fh))), (bq, .inl (cA, 124, .inl (jA fq))), (br, .inl (cA, 31, .inl (jA fr))), (bd, .inl (cA, 32, .inl (jA fd)))] sz [(ba, .inr (0, [.ref bt, .ref bp, .ref bl, .ref bh, .ref bq, .ref br, .ref bd, .int (jI u.2.2.2.2.2.1), .int (jI u.2.2.2.2.2.2)])), (bt, .inl (cA, 31, .inl (jA u.1))), (bh, .inl (cA, 248, .inl (jA u.2.1))), (bq, .inl (cA, 124, .inl (jA u.2.2.1))), (br, .inl (cA, 31, .inl (jA u.2.2.2.1))), (bd, .inl (cA, 32, .inl (jA u.2.2.2.2.1)))] t) (va_A [(ba, .inr (0, [.ref bt, .ref bp, .ref bl, .ref bh, .ref bq, .ref br, .ref bd, .int (jI bg), .int (jI bf)])), (bt, .inl (cA, 31, .inl (jA ft))), (bh, .inl (cA, 248, .inl (jA fh))), (bq, .inl (cA, 124, .inl (jA fq))), (br, .inl (cA, 31, .inl (jA fr))), (bd, .inl (cA, 32, .inl (jA fd)))] sz)) 0 0 (va_A [(ba, .inr (0, [.ref bt, .ref bp, .ref bl, .ref bh, .ref bq, .ref br, .ref bd, .int (jI bg), .int (jI bf)])), (bt, .inl (cA, 31, .inl (jA ft))), (bh, .inl (cA, 248, .inl (jA fh))), (bq, .inl (cA, 124, .inl (jA fq))), (br, .inl (cA, 31, .inl (jA fr))), (bd, .inl (cA, 32, .inl (jA fd)))] sz) := by
  refine jMet (cc := cXB_forget) (maxL := 1) (ret := none) (by decide) rfl ?_
  intro p e s m args below meth c s₁ R Q hR hQ B hml hv
  obtain ⟨rfl, hsz, hP, hK, hD0, hN⟩ := hv
  have hx := B.exec
  have hb := B.bytes
  have hr := B.returns
  have hts := atoms_spec (ws := Cond.code yXB_forget cXB_forget 1 none :: TBL) B.pre
  have hown : s.vm.findClass RXB = some m.cls := findClass_of_methodNamed B.named
  have hlocks := B.notSynchronized
  subst hsz
  obtain ⟨A, hAe⟩ : ∃ A, A = va_A [(ba, .inr (0, [.ref bt, .ref bp, .ref bl, .ref bh, .ref bq, .ref br, .ref bd, .int (jI bg), .int (jI bf)])), (bt, .inl (cA, 31, .inl (jA ft))), (bh, .inl (cA, 248, .inl (jA fh))), (bq, .inl (cA, 124, .inl (jA fq))), (br, .inl (cA, 31, .inl (jA fr))), (bd, .inl (cA, 32, .inl (jA fd)))] s.heap.size := ⟨_, rfl⟩
  have hD : va_D A [(ba, .inr (0, [.ref bt, .ref bp, .ref bl, .ref bh, .ref bq, .ref br, .ref bd, .int (jI bg), .int (jI bf)])), (bt, .inl (cA, 31, .inl (jA ft))), (bh, .inl (cA, 248, .inl (jA fh))), (bq, .inl (cA, 124, .inl (jA fq))), (br, .inl (cA, 31, .inl (jA fr))), (bd, .inl (cA, 32, .inl (jA fd)))] := by rw [hAe]; exact hD0.self
  have hA : ∀ q : Nat, s.heap.size ≤ q → A q := fun q h => by rw [hAe]; exact Or.inr h
  have hS : va_S A s.heap s.heap [] := va_S.rf
  have hP : va_P (dC, dI) vwCl [(ba, .inr (0, [.ref bt, .ref bp, .ref bl, .ref bh, .ref bq, .ref br, .ref bd, .int (jI bg), .int (jI bf)])), (bt, .inl (cA, 31, .inl (jA ft))), (bh, .inl (cA, 248, .inl (jA fh))), (bq, .inl (cA, 124, .inl (jA fq))), (br, .inl (cA, 31, .inl (jA fr))), (bd, .inl (cA, 32, .inl (jA fd)))] s.heap := hP
  have hl := lv_entry ([.ref ba]) (n := 1) (Nat.le_of_ble_eq_true rfl)
  rw [lg_entry_eq]
  generalize (lg_sl ([.ref ba]) ++ List.replicate (1 - (lg_sl ([.ref ba])).length) Slot.unset).toArray = ls at hl ⊢
  have hl : lv_has ls 1 [(0, .ref ba)] := hl
  refine lv_aload_n hx hb dXB_forget_0 rfl (lv_at hl 0 rfl) ?_
  refine va_get (D := (dC, dI)) (ci := 0) (v := .ref bt) (C := RXB) (T := TXB) (N := 9) hx hb hts (fun w h => jmem (inXB w h)) hown hK hP 0 rfl rfl 0 (by decide) (hts _ (jmem tw_73)) (fun _ h9 => h9) rfl dXB_forget_1 ?_
  refine ji_iconst hx hb dXB_forget_4 ?_
  refine jwSv (rest := []) (wr := [(ba, .inr (0, [.ref bt, .ref bp, .ref bl, .ref bh, .ref bq, .ref br, .ref bd, .int (jI bg), .int (jI bf)])), (bh, .inl (cA, 248, .inl (jA fh))), (bq, .inl (cA, 124, .inl (jA fq))), (br, .inl (cA, 31, .inl (jA fr))), (bd, .inl (cA, 32, .inl (jA fd)))]) ⟨hx, hb, hml, hown, hts⟩ (c_XA_fill31 l dC dI cA _ bt ft 0) (va_cwS 2 hts (jG_T tw_131 tw_132 tw_12 tw_133) rfl rfl rfl (by decide +kernel) (by rw [hR]; exact ⟨Nat.le_of_ble_eq_true rfl, Nat.le_of_ble_eq_true rfl⟩)) hK hP hD hS hA hN [1] [0, 2, 3, 4, 5] rfl rfl (by decide) (by decide) (by decide) rfl hl.1 rfl (Nat.le_of_ble_eq_true rfl) dXB_forget_5 (by rw [hR]; exact ⟨Nat.le_of_ble_eq_true rfl, Nat.le_of_ble_eq_true rfl⟩) (fun u H locs hw hP hD hS => ?_)
  subst hw
  have hP : va_P (dC, dI) vwCl [(ba, .inr (0, [.ref bt, .ref bp, .ref bl, .ref bh, .ref bq, .ref br, .ref bd, .int (jI bg), .int (jI bf)])), (bh, .inl (cA, 248, .inl (jA fh))), (bq, .inl (cA, 124, .inl (jA fq))), (br, .inl (cA, 31, .inl (jA fr))), (bd, .inl (cA, 32, .inl (jA fd))), (bt, .inl (cA, 31, .inl (jA (f_XA_fill31 ft 0))))] H := hP
  have hD : va_D A [(ba, .inr (0, [.ref bt, .ref bp, .ref bl, .ref bh, .ref bq, .ref br, .ref bd, .int (jI bg), .int (jI bf)])), (bh, .inl (cA, 248, .inl (jA fh))), (bq, .inl (cA, 124, .inl (jA fq))), (br, .inl (cA, 31, .inl (jA fr))), (bd, .inl (cA, 32, .inl (jA fd))), (bt, .inl (cA, 31, .inl (jA (f_XA_fill31 ft 0))))] := hD
  refine lv_aload_n hx hb dXB_forget_8 rfl (lv_at hl 0 rfl) ?_
  refine va_get (D := (dC, dI)) (ci := 0) (v := .ref bh) (C := RXB) (T := TXB) (N := 9) hx hb hts (fun w h => jmem (inXB w h)) hown hK hP 0 rfl rfl 3 (by decide) (hts _ (jmem tw_76)) (fun _ h9 => h9) rfl dXB_forget_9 ?_
  refine ji_iconst hx hb dXB_forget_12 ?_
  refine jwSv (rest := []) (wr := [(ba, .inr (0, [.ref bt, .ref bp, .ref bl, .ref bh, .ref bq, .ref br, .ref bd, .int (jI bg), .int (jI bf)])), (bq, .inl (cA, 124, .inl (jA fq))), (br, .inl (cA, 31, .inl (jA fr))), (bd, .inl (cA, 32, .inl (jA fd))), (bt, .inl (cA, 31, .inl (jA (f_XA_fill31 ft 0))))]) ⟨hx, hb, hml, hown, hts⟩ (c_XA_fill248 l dC dI cA _ bh fh (-1)) (va_cwS 2 hts (jG_T tw_131 tw_132 tw_12 tw_133) rfl rfl rfl (by decide +kernel) (by rw [hR]; exact ⟨Nat.le_of_ble_eq_true rfl, Nat.le_of_ble_eq_true rfl⟩)) hK hP hD hS hA hN [1] [0, 2, 3, 4, 5] rfl rfl (by decide) (by decide) (by decide) rfl hl.1 rfl (Nat.le_of_ble_eq_true rfl) dXB_forget_13 (by rw [hR]; exact ⟨Nat.le_of_ble_eq_true rfl, Nat.le_of_ble_eq_true rfl⟩) (fun u1 H locs hw hP hD hS => ?_)
  subst hw
  have hP : va_P (dC, dI) vwCl [(ba, .inr (0, [.ref bt, .ref bp, .ref bl, .ref bh, .ref bq, .ref br, .ref bd, .int (jI bg), .int (jI bf)])), (bq, .inl (cA, 124, .inl (jA fq))), (br, .inl (cA, 31, .inl (jA fr))), (bd, .inl (cA, 32, .inl (jA fd))), (bt, .inl (cA, 31, .inl (jA (f_XA_fill31 ft 0)))), (bh, .inl (cA, 248, .inl (jA (f_XA_fill248 fh (-1)))))] H := hP
  have hD : va_D A [(ba, .inr (0, [.ref bt, .ref bp, .ref bl, .ref bh, .ref bq, .ref br, .ref bd, .int (jI bg), .int (jI bf)])), (bq, .inl (cA, 124, .inl (jA fq))), (br, .inl (cA, 31, .inl (jA fr))), (bd, .inl (cA, 32, .inl (jA fd))), (bt, .inl (cA, 31, .inl (jA (f_XA_fill31 ft 0)))), (bh, .inl (cA, 248, .inl (jA (f_XA_fill248 fh (-1)))))] := hD
  refine lv_aload_n hx hb dXB_forget_16 rfl (lv_at hl 0 rfl) ?_
  refine va_get (D := (dC, dI)) (ci := 0) (v := .ref bq) (C := RXB) (T := TXB) (N := 9) hx hb hts (fun w h => jmem (inXB w h)) hown hK hP 0 rfl rfl 4 (by decide) (hts _ (jmem tw_77)) (fun _ h9 => h9) rfl dXB_forget_17 ?_
  refine ji_iconst hx hb dXB_forget_20 ?_
  refine jwSv (rest := []) (wr := [(ba, .inr (0, [.ref bt, .ref bp, .ref bl, .ref bh, .ref bq, .ref br, .ref bd, .int (jI bg), .int (jI bf)])), (br, .inl (cA, 31, .inl (jA fr))), (bd, .inl (cA, 32, .inl (jA fd))), (bt, .inl (cA, 31, .inl (jA (f_XA_fill31 ft 0)))), (bh, .inl (cA, 248, .inl (jA (f_XA_fill248 fh (-1)))))]) ⟨hx, hb, hml, hown, hts⟩ (c_XA_fill124 l dC dI cA _ bq fq (-1)) (va_cwS 2 hts (jG_T tw_131 tw_132 tw_12 tw_133) rfl rfl rfl (by decide +kernel) (by rw [hR]; exact ⟨Nat.le_of_ble_eq_true rfl, Nat.le_of_ble_eq_true rfl⟩)) hK hP hD hS hA hN [1] [0, 2, 3, 4, 5] rfl rfl (by decide) (by decide) (by decide) rfl hl.1 rfl (Nat.le_of_ble_eq_true rfl) dXB_forget_21 (by rw [hR]; exact ⟨Nat.le_of_ble_eq_true rfl, Nat.le_of_ble_eq_true rfl⟩) (fun u2 H locs hw hP hD hS => ?_)
  subst hw
  have hP : va_P (dC, dI) vwCl [(ba, .inr (0, [.ref bt, .ref bp, .ref bl, .ref bh, .ref bq, .ref br, .ref bd, .int (jI bg), .int (jI bf)])), (br, .inl (cA, 31, .inl (jA fr))), (bd, .inl (cA, 32, .inl (jA fd))), (bt, .inl (cA, 31, .inl (jA (f_XA_fill31 ft 0)))), (bh, .inl (cA, 248, .inl (jA (f_XA_fill248 fh (-1))))), (bq, .inl (cA, 124, .inl (jA (f_XA_fill124 fq (-1)))))] H := hP
  have hD : va_D A [(ba, .inr (0, [.ref bt, .ref bp, .ref bl, .ref bh, .ref bq, .ref br, .ref bd, .int (jI bg), .int (jI bf)])), (br, .inl (cA, 31, .inl (jA fr))), (bd, .inl (cA, 32, .inl (jA fd))), (bt, .inl (cA, 31, .inl (jA (f_XA_fill31 ft 0)))), (bh, .inl (cA, 248, .inl (jA (f_XA_fill248 fh (-1))))), (bq, .inl (cA, 124, .inl (jA (f_XA_fill124 fq (-1)))))] := hD
  refine lv_aload_n hx hb dXB_forget_24 rfl (lv_at hl 0 rfl) ?_
  refine va_get (D := (dC, dI)) (ci := 0) (v := .ref br) (C := RXB) (T := TXB) (N := 9) hx hb hts (fun w h => jmem (inXB w h)) hown hK hP 0 rfl rfl 5 (by decide) (hts _ (jmem tw_78)) (fun _ h9 => h9) rfl dXB_forget_25 ?_
  refine ji_iconst hx hb dXB_forget_28 ?_
  refine jwSv (rest := []) (wr := [(ba, .inr (0, [.ref bt, .ref bp, .ref bl, .ref bh, .ref bq, .ref br, .ref bd, .int (jI bg), .int (jI bf)])), (bd, .inl (cA, 32, .inl (jA fd))), (bt, .inl (cA, 31, .inl (jA (f_XA_fill31 ft 0)))), (bh, .inl (cA, 248, .inl (jA (f_XA_fill248 fh (-1))))), (bq, .inl (cA, 124, .inl (jA (f_XA_fill124 fq (-1)))))]) ⟨hx, hb, hml, hown, hts⟩ (c_XA_fill31 l dC dI cA _ br fr 0) (va_cwS 2 hts (jG_T tw_131 tw_132 tw_12 tw_133) rfl rfl rfl (by decide +kernel) (by rw [hR]; exact ⟨Nat.le_of_ble_eq_true rfl, Nat.le_of_ble_eq_true rfl⟩)) hK hP hD hS hA hN [1] [0, 2, 3, 4, 5] rfl rfl (by decide) (by decide) (by decide) rfl hl.1 rfl (Nat.le_of_ble_eq_true rfl) dXB_forget_29 (by rw [hR]; exact ⟨Nat.le_of_ble_eq_true rfl, Nat.le_of_ble_eq_true rfl⟩) (fun u3 H locs hw hP hD hS => ?_)
  subst hw
  have hP : va_P (dC, dI) vwCl [(ba, .inr (0, [.ref bt, .ref bp, .ref bl, .ref bh, .ref bq, .ref br, .ref bd, .int (jI bg), .int (jI bf)])), (bd, .inl (cA, 32, .inl (jA fd))), (bt, .inl (cA, 31, .inl (jA (f_XA_fill31 ft 0)))), (bh, .inl (cA, 248, .inl (jA (f_XA_fill248 fh (-1))))), (bq, .inl (cA, 124, .inl (jA (f_XA_fill124 fq (-1))))), (br, .inl (cA, 31, .inl (jA (f_XA_fill31 fr 0))))] H := hP
  have hD : va_D A [(ba, .inr (0, [.ref bt, .ref bp, .ref bl, .ref bh, .ref bq, .ref br, .ref bd, .int (jI bg), .int (jI bf)])), (bd, .inl (cA, 32, .inl (jA fd))), (bt, .inl (cA, 31, .inl (jA (f_XA_fill31 ft 0)))), (bh, .inl (cA, 248, .inl (jA (f_XA_fill248 fh (-1))))), (bq, .inl (cA, 124, .inl (jA (f_XA_fill124 fq (-1))))), (br, .inl (cA, 31, .inl (jA (f_XA_fill31 fr 0))))] := hD
  refine lv_aload_n hx hb dXB_forget_32 rfl (lv_at hl 0 rfl) ?_
  refine va_get (D := (dC, dI)) (ci := 0) (v := .ref bd) (C := RXB) (T := TXB) (N := 9) hx hb hts (fun w h => jmem (inXB w h)) hown hK hP 0 rfl rfl 6 (by decide) (hts _ (jmem tw_79)) (fun _ h9 => h9) rfl dXB_forget_33 ?_
  refine ji_iconst hx hb dXB_forget_36 ?_
  refine jwSv (rest := []) (wr := [(ba, .inr (0, [.ref bt, .ref bp, .ref bl, .ref bh, .ref bq, .ref br, .ref bd, .int (jI bg), .int (jI bf)])), (bt, .inl (cA, 31, .inl (jA (f_XA_fill31 ft 0)))), (bh, .inl (cA, 248, .inl (jA (f_XA_fill248 fh (-1))))), (bq, .inl (cA, 124, .inl (jA (f_XA_fill124 fq (-1))))), (br, .inl (cA, 31, .inl (jA (f_XA_fill31 fr 0))))]) ⟨hx, hb, hml, hown, hts⟩ (c_XA_fill32 l dC dI cA _ bd fd 0) (va_cwS 2 hts (jG_T tw_131 tw_132 tw_12 tw_133) rfl rfl rfl (by decide +kernel) (by rw [hR]; exact ⟨Nat.le_of_ble_eq_true rfl, Nat.le_of_ble_eq_true rfl⟩)) hK hP hD hS hA hN [1] [0, 2, 3, 4, 5] rfl rfl (by decide) (by decide) (by decide) rfl hl.1 rfl (Nat.le_of_ble_eq_true rfl) dXB_forget_37 (by rw [hR]; exact ⟨Nat.le_of_ble_eq_true rfl, Nat.le_of_ble_eq_true rfl⟩) (fun u4 H locs hw hP hD hS => ?_)
  subst hw
  have hP : va_P (dC, dI) vwCl [(ba, .inr (0, [.ref bt, .ref bp, .ref bl, .ref bh, .ref bq, .ref br, .ref bd, .int (jI bg), .int (jI bf)])), (bt, .inl (cA, 31, .inl (jA (f_XA_fill31 ft 0)))), (bh, .inl (cA, 248, .inl (jA (f_XA_fill248 fh (-1))))), (bq, .inl (cA, 124, .inl (jA (f_XA_fill124 fq (-1))))), (br, .inl (cA, 31, .inl (jA (f_XA_fill31 fr 0)))), (bd, .inl (cA, 32, .inl (jA (f_XA_fill32 fd 0))))] H := hP
  have hD : va_D A [(ba, .inr (0, [.ref bt, .ref bp, .ref bl, .ref bh, .ref bq, .ref br, .ref bd, .int (jI bg), .int (jI bf)])), (bt, .inl (cA, 31, .inl (jA (f_XA_fill31 ft 0)))), (bh, .inl (cA, 248, .inl (jA (f_XA_fill248 fh (-1))))), (bq, .inl (cA, 124, .inl (jA (f_XA_fill124 fq (-1))))), (br, .inl (cA, 31, .inl (jA (f_XA_fill31 fr 0)))), (bd, .inl (cA, 32, .inl (jA (f_XA_fill32 fd 0))))] := hD
  refine lv_aload_n hx hb dXB_forget_40 rfl (lv_at hl 0 rfl) ?_
  refine ji_iconst hx hb dXB_forget_41 ?_
  refine va_put (D := (dC, dI)) (ci := 0) (v := .int (jI 0)) (ty := (.int)) (C := RXB) (T := TXB) (N := 9) hx hb hts (fun w h => jmem (inXB w h)) tyXB tyXB_ok nXB hown hK hP hD hS 0 rfl rfl 7 (by decide) (hts _ (jmem tw_80)) (fun _ h9 => h9) rfl (by decide +kernel) rfl rfl (Nat.le_of_ble_eq_true rfl) dXB_forget_42 (fun H locs hP hD hS => ?_)
  have hP : va_P (dC, dI) vwCl [(ba, .inr (0, [.ref bt, .ref bp, .ref bl, .ref bh, .ref bq, .ref br, .ref bd, .int (jI 0), .int (jI bf)])), (bt, .inl (cA, 31, .inl (jA (f_XA_fill31 ft 0)))), (bh, .inl (cA, 248, .inl (jA (f_XA_fill248 fh (-1))))), (bq, .inl (cA, 124, .inl (jA (f_XA_fill124 fq (-1))))), (br, .inl (cA, 31, .inl (jA (f_XA_fill31 fr 0)))), (bd, .inl (cA, 32, .inl (jA (f_XA_fill32 fd 0))))] H := hP
  have hD : va_D A [(ba, .inr (0, [.ref bt, .ref bp, .ref bl, .ref bh, .ref bq, .ref br, .ref bd, .int (jI 0), .int (jI bf)])), (bt, .inl (cA, 31, .inl (jA (f_XA_fill31 ft 0)))), (bh, .inl (cA, 248, .inl (jA (f_XA_fill248 fh (-1))))), (bq, .inl (cA, 124, .inl (jA (f_XA_fill124 fq (-1))))), (br, .inl (cA, 31, .inl (jA (f_XA_fill31 fr 0)))), (bd, .inl (cA, 32, .inl (jA (f_XA_fill32 fd 0))))] := hD
  refine lv_aload_n hx hb dXB_forget_45 rfl (lv_at hl 0 rfl) ?_
  refine ji_iconst hx hb dXB_forget_46 ?_
  refine va_put (D := (dC, dI)) (ci := 0) (v := .int (jI 0)) (ty := (.int)) (C := RXB) (T := TXB) (N := 9) hx hb hts (fun w h => jmem (inXB w h)) tyXB tyXB_ok nXB hown hK hP hD hS 0 rfl rfl 8 (by decide) (hts _ (jmem tw_81)) (fun _ h9 => h9) rfl (by decide +kernel) rfl rfl (Nat.le_of_ble_eq_true rfl) dXB_forget_47 (fun H locs hP hD hS => ?_)
  have hP : va_P (dC, dI) vwCl [(ba, .inr (0, [.ref bt, .ref bp, .ref bl, .ref bh, .ref bq, .ref br, .ref bd, .int (jI 0), .int (jI 0)])), (bt, .inl (cA, 31, .inl (jA (f_XA_fill31 ft 0)))), (bh, .inl (cA, 248, .inl (jA (f_XA_fill248 fh (-1))))), (bq, .inl (cA, 124, .inl (jA (f_XA_fill124 fq (-1))))), (br, .inl (cA, 31, .inl (jA (f_XA_fill31 fr 0)))), (bd, .inl (cA, 32, .inl (jA (f_XA_fill32 fd 0))))] H := hP
  have hD : va_D A [(ba, .inr (0, [.ref bt, .ref bp, .ref bl, .ref bh, .ref bq, .ref br, .ref bd, .int (jI 0), .int (jI 0)])), (bt, .inl (cA, 31, .inl (jA (f_XA_fill31 ft 0)))), (bh, .inl (cA, 248, .inl (jA (f_XA_fill248 fh (-1))))), (bq, .inl (cA, 124, .inl (jA (f_XA_fill124 fq (-1))))), (br, .inl (cA, 31, .inl (jA (f_XA_fill31 fr 0)))), (bd, .inl (cA, 32, .inl (jA (f_XA_fill32 fd 0))))] := hD
  have hP9 := hP.sub (ws' := [(ba, .inr (0, [.ref bt, .ref bp, .ref bl, .ref bh, .ref bq, .ref br, .ref bd, .int (jI 0), .int (jI 0)])), (bt, .inl (cA, 31, .inl (jA (f_XA_fill31 ft 0)))), (bh, .inl (cA, 248, .inl (jA (f_XA_fill248 fh (-1))))), (bq, .inl (cA, 124, .inl (jA (f_XA_fill124 fq (-1))))), (br, .inl (cA, 31, .inl (jA (f_XA_fill31 fr 0)))), (bd, .inl (cA, 32, .inl (jA (f_XA_fill32 fd 0))))]) [0, 1, 2, 3, 4, 5] rfl
  have hD9 := hD.sub (ws' := [(ba, .inr (0, [.ref bt, .ref bp, .ref bl, .ref bh, .ref bq, .ref br, .ref bd, .int (jI 0), .int (jI 0)])), (bt, .inl (cA, 31, .inl (jA (f_XA_fill31 ft 0)))), (bh, .inl (cA, 248, .inl (jA (f_XA_fill248 fh (-1))))), (bq, .inl (cA, 124, .inl (jA (f_XA_fill124 fq (-1))))), (br, .inl (cA, 31, .inl (jA (f_XA_fill31 fr 0)))), (bd, .inl (cA, 32, .inl (jA (f_XA_fill32 fd 0))))]) [0, 1, 2, 3, 4, 5] (by decide) rfl
  subst hAe
  subst hQ
  exact W.vret hx hb hr (fun t ht hW => ⟨⟨(f_XA_fill31 ft 0, f_XA_fill248 fh (-1), f_XA_fill124 fq (-1), f_XA_fill31 fr 0, f_XA_fill32 fd 0, 0, 0), rfl, ⟨Eq.trans (by rw [f_XB_forget_s]; try rfl) rfl, show ∀ i, 0 ≤ (f_XA_fill31 ft 0) i ∧ (f_XA_fill31 ft 0) i ≤ 30 from by first | omega | exact f_XA_fill31_p (fun x => 0 ≤ x ∧ x ≤ 30) ft 0 (by omega) hbt | exact f_XA_fill248_p (fun x => -1 ≤ x ∧ x ≤ 100000) fh (-1) (by omega) hbh | exact f_XA_fill124_p (fun x => -1 ≤ x ∧ x ≤ 999999) fq (-1) (by omega) hbq | exact f_XA_fill31_p (fun x => 0 ≤ x ∧ x < 2147483648) fr 0 (by omega) hbr | exact f_XA_fill32_p (fun x => 0 ≤ x ∧ x ≤ 20) fd 0 (by omega) hbd, show ∀ i, -1 ≤ (f_XA_fill248 fh (-1)) i ∧ (f_XA_fill248 fh (-1)) i ≤ 100000 from by first | omega | exact f_XA_fill31_p (fun x => 0 ≤ x ∧ x ≤ 30) ft 0 (by omega) hbt | exact f_XA_fill248_p (fun x => -1 ≤ x ∧ x ≤ 100000) fh (-1) (by omega) hbh | exact f_XA_fill124_p (fun x => -1 ≤ x ∧ x ≤ 999999) fq (-1) (by omega) hbq | exact f_XA_fill31_p (fun x => 0 ≤ x ∧ x < 2147483648) fr 0 (by omega) hbr | exact f_XA_fill32_p (fun x => 0 ≤ x ∧ x ≤ 20) fd 0 (by omega) hbd, show ∀ i, -1 ≤ (f_XA_fill124 fq (-1)) i ∧ (f_XA_fill124 fq (-1)) i ≤ 999999 from by first | omega | exact f_XA_fill31_p (fun x => 0 ≤ x ∧ x ≤ 30) ft 0 (by omega) hbt | exact f_XA_fill248_p (fun x => -1 ≤ x ∧ x ≤ 100000) fh (-1) (by omega) hbh | exact f_XA_fill124_p (fun x => -1 ≤ x ∧ x ≤ 999999) fq (-1) (by omega) hbq | exact f_XA_fill31_p (fun x => 0 ≤ x ∧ x < 2147483648) fr 0 (by omega) hbr | exact f_XA_fill32_p (fun x => 0 ≤ x ∧ x ≤ 20) fd 0 (by omega) hbd, show ∀ i, 0 ≤ (f_XA_fill31 fr 0) i ∧ (f_XA_fill31 fr 0) i < 2147483648 from by first | omega | exact f_XA_fill31_p (fun x => 0 ≤ x ∧ x ≤ 30) ft 0 (by omega) hbt | exact f_XA_fill248_p (fun x => -1 ≤ x ∧ x ≤ 100000) fh (-1) (by omega) hbh | exact f_XA_fill124_p (fun x => -1 ≤ x ∧ x ≤ 999999) fq (-1) (by omega) hbq | exact f_XA_fill31_p (fun x => 0 ≤ x ∧ x < 2147483648) fr 0 (by omega) hbr | exact f_XA_fill32_p (fun x => 0 ≤ x ∧ x ≤ 20) fd 0 (by omega) hbd, show ∀ i, 0 ≤ (f_XA_fill32 fd 0) i ∧ (f_XA_fill32 fd 0) i ≤ 20 from by first | omega | exact f_XA_fill31_p (fun x => 0 ≤ x ∧ x ≤ 30) ft 0 (by omega) hbt | exact f_XA_fill248_p (fun x => -1 ≤ x ∧ x ≤ 100000) fh (-1) (by omega) hbh | exact f_XA_fill124_p (fun x => -1 ≤ x ∧ x ≤ 999999) fq (-1) (by omega) hbq | exact f_XA_fill31_p (fun x => 0 ≤ x ∧ x < 2147483648) fr 0 (by omega) hbr | exact f_XA_fill32_p (fun x => 0 ≤ x ∧ x ≤ 20) fd 0 (by omega) hbd, show 0 = 0 from by first | omega | exact f_XA_fill31_p (fun x => 0 ≤ x ∧ x ≤ 30) ft 0 (by omega) hbt | exact f_XA_fill248_p (fun x => -1 ≤ x ∧ x ≤ 100000) fh (-1) (by omega) hbh | exact f_XA_fill124_p (fun x => -1 ≤ x ∧ x ≤ 999999) fq (-1) (by omega) hbq | exact f_XA_fill31_p (fun x => 0 ≤ x ∧ x < 2147483648) fr 0 (by omega) hbr | exact f_XA_fill32_p (fun x => 0 ≤ x ∧ x ≤ 20) fd 0 (by omega) hbd, show 0 = 0 from by first | omega | exact f_XA_fill31_p (fun x => 0 ≤ x ∧ x ≤ 30) ft 0 (by omega) hbt | exact f_XA_fill248_p (fun x => -1 ≤ x ∧ x ≤ 100000) fh (-1) (by omega) hbh | exact f_XA_fill124_p (fun x => -1 ≤ x ∧ x ≤ 999999) fq (-1) (by omega) hbq | exact f_XA_fill31_p (fun x => 0 ≤ x ∧ x < 2147483648) fr 0 (by omega) hbr | exact f_XA_fill32_p (fun x => 0 ≤ x ∧ x ≤ 20) fd 0 (by omega) hbd⟩, ⟨by rw [ht]; exact hP9, va_K.moved hW.alike hK, hD9⟩⟩, hS.F ht⟩) hS.2.2 dXB_forget_50
noncomputable def g_XB_onRing_L9 (bg : Int) (bf : Int) (ft : Int → Int) (zg : Int) : Nat → Int → Int → Int
  | 0, _, _ => 0
  | n9 + 1, v, k =>
    if k < 30 then
      if 0 < v then
        if v = zg then
          1
        else
          g_XB_onRing_L9 bg bf ft zg n9 (ft v) (k + 1)
      else
        0
    else
      0
noncomputable def f_XB_onRing_L9 : Int → Int → (Int → Int) → Int → Nat → Int → Int → Int := jopq g_XB_onRing_L9
theorem f_XB_onRing_L9_q : f_XB_onRing_L9 = g_XB_onRing_L9 := jopq_eq _
theorem f_XB_onRing_L9_s (bg : Int) (bf : Int) (ft : Int → Int) (zg : Int) (n9 : Nat) (v : Int) (k : Int) : f_XB_onRing_L9 bg bf ft zg (n9 + 1) v k = (
    if k < 30 then
      if 0 < v then
        if v = zg then
          1
        else
          f_XB_onRing_L9 bg bf ft zg n9 (ft v) (k + 1)
      else
        0
    else
      0
  : Int) := by rw [f_XB_onRing_L9_q]; rfl
theorem f_XB_onRing_L9_z (bg : Int) (bf : Int) (ft : Int → Int) (zg : Int) (v : Int) (k : Int) : f_XB_onRing_L9 bg bf ft zg 0 v k = 0 := by rw [f_XB_onRing_L9_q]; rfl
noncomputable def g_XB_onRing (bg : Int) (bf : Int) (ft : Int → Int) (zg : Int) : Int :=
  f_XB_onRing_L9 bg bf ft zg (Int.toNat (30 - 0) + 1) (ft zg) 0
noncomputable def f_XB_onRing : Int → Int → (Int → Int) → Int → Int := jopq g_XB_onRing
theorem f_XB_onRing_q : f_XB_onRing = g_XB_onRing := jopq_eq _
theorem f_XB_onRing_s (bg : Int) (bf : Int) (ft : Int → Int) (zg : Int) : f_XB_onRing bg bf ft zg = (
    f_XB_onRing_L9 bg bf ft zg (Int.toNat (30 - 0) + 1) (ft zg) 0
  : Int) := by rw [f_XB_onRing_q]; rfl
theorem f_XB_onRing_L (bg bf : Int) (ft : Int → Int) (zg : Int) : ∀ (n : Nat) (v k : Int), 0 ≤ f_XB_onRing_L9 bg bf ft zg n v k ∧ f_XB_onRing_L9 bg bf ft zg n v k ≤ 1 := by
  intro n
  induction n with
  | zero => intro v k; simp only [f_XB_onRing_L9_z] <;> omega
  | succ n ih =>
    intro v k
    rw [f_XB_onRing_L9_s]
    (repeat' split) <;> first | omega | exact ih _ _
theorem f_XB_onRing_b (bg : Int) (bf : Int) (ft : Int → Int) (zg : Int) (hbt : ∀ i, 0 ≤ ft i ∧ ft i ≤ 30) (hzg : 0 ≤ zg ∧ zg ≤ 30) : 0 ≤ (f_XB_onRing bg bf ft zg) ∧ (f_XB_onRing bg bf ft zg) ≤ 1 := by rw [f_XB_onRing_s]; exact f_XB_onRing_L _ _ _ _ _ _ _
set_option maxHeartbeats 4000000 in
set_option maxRecDepth 100000 in
theorem c_XB_onRing (l : Launch) (dC : Nat → ClassId) (dI : Nat → Nat → Nat) (cA : ClassId) (ba : Nat) (bt : Nat) (bp : Nat) (bl : Nat) (bh : Nat) (bq : Nat) (br : Nat) (bd : Nat) (bg : Int) (bf : Int) (ft : Int → Int) (zg : Int) (hbt : ∀ i, 0 ≤ ft i ∧ ft i ≤ 30) (hzg : 0 ≤ zg ∧ zg ≤ 30) : Met l yXB_onRing (Cond.code yXB_onRing cXB_onRing 4 (some .boolean) :: TBL) ({ frames := 0, cells := 0, slots := 0, locals := 0 } : Room) (va_Pc [.ref ba, .int (jI zg)] (jB (dC, dI) [(cA, .int)] [(ba, .inr (0, [.ref bt, .ref bp, .ref bl, .ref bh, .ref bq, .ref br, .ref bd, .int (jI bg), .int (jI bf)])), (bt, .inl (cA, 31, .inl (jA ft)))])) (vp_Si (fun r => r = jI (f_XB_onRing bg bf ft zg))) 0 0 (fun _ => False) := by
  refine jMet (cc := cXB_onRing) (maxL := 4) (ret := some .boolean) (by decide) rfl ?_
  intro p e s m args below meth c s₁ R Q hR hQ B hml hv
  obtain ⟨rfl, hP, hK, hN⟩ := hv
  have hx := B.exec
  have hb := B.bytes
  have hr := B.returns
  have hts := atoms_spec (ws := Cond.code yXB_onRing cXB_onRing 4 (some .boolean) :: TBL) B.pre
  have hown : s.vm.findClass RXB = some m.cls := findClass_of_methodNamed B.named
  have hlocks := B.notSynchronized
  have hP : va_P (dC, dI) vwCl [(ba, .inr (0, [.ref bt, .ref bp, .ref bl, .ref bh, .ref bq, .ref br, .ref bd, .int (jI bg), .int (jI bf)])), (bt, .inl (cA, 31, .inl (jA ft)))] s.heap := hP
  have hl := lv_entry ([.ref ba, .int (jI zg)]) (n := 4) (Nat.le_of_ble_eq_true rfl)
  rw [lg_entry_eq]
  generalize (lg_sl ([.ref ba, .int (jI zg)]) ++ List.replicate (4 - (lg_sl ([.ref ba, .int (jI zg)])).length) Slot.unset).toArray = ls at hl ⊢
  have hl : lv_has ls 4 [(0, .ref ba), (1, .int (jI zg))] := hl
  refine lv_aload_n hx hb dXB_onRing_0 rfl (lv_at hl 0 rfl) ?_
  refine va_get (D := (dC, dI)) (ci := 0) (v := .ref bt) (C := RXB) (T := TXB) (N := 9) hx hb hts (fun w h => jmem (inXB w h)) hown hK hP 0 rfl rfl 0 (by decide) (hts _ (jmem tw_73)) (fun _ h9 => h9) rfl dXB_onRing_1 ?_
  refine lv_iload_n hx hb dXB_onRing_4 rfl (lv_at hl 1 rfl) ?_
  refine ji_iald hx hb hK hP 1 0 rfl rfl ⟨by omega, by omega⟩ (by decide) dXB_onRing_5 ?_
  have rb := hbt zg
  refine lv_istore_n (lv' := [(2, .int (jI (ft zg))), (0, .ref ba), (1, .int (jI zg))]) hx hb dXB_onRing_6 rfl hl (by decide) rfl (fun ls hl => ?_)
  refine ji_iconst hx hb dXB_onRing_7 ?_
  refine lv_istore_n (lv' := [(3, .int (jI 0)), (2, .int (jI (ft zg))), (0, .ref ba), (1, .int (jI zg))]) hx hb dXB_onRing_8 rfl hl (by decide) rfl (fun ls hl => ?_)
  have loop9 : ∀ (n9 : Nat) (v : Int) (k : Int) , 30 - k < (n9 : Int) → f_XB_onRing_L9 bg bf ft zg n9 v k = f_XB_onRing bg bf ft zg → (0 ≤ k ∧ k ≤ 30) → (0 ≤ v ∧ v ≤ 30) → ∀ ls : Array Slot, lv_has ls 4 [(3, .int (jI k)), (2, .int (jI v)), (0, .ref ba), (1, .int (jI zg))] → W p l e R s m ([.ref ba, .int (jI zg)] : List Value).toArray below meth c s.heap [] 0 0 Q (F0 m 9 ls []) := by
    intro n9
    induction n9 with
    | zero =>
      intro v k hm hF hk hv
      exact absurd hm (by omega)
    | succ n9 ih9 =>
      intro v k hm hF hk hv ls hl
      refine lv_iload_n hx hb dXB_onRing_9 rfl (lv_at hl 0 rfl) ?_
      refine ji_bipush hx hb dXB_onRing_10 (by decide) ?_
      refine ji_icmp_ge (tgt := 39) hx hb dXB_onRing_12 (by decide) (by omega) (by omega) (fun c12_ => ?_) (fun c12_ => ?_)
      · refine ji_iconst hx hb dXB_onRing_39 ?_
        subst hQ
        exact W.zret (v := jI 0) hx hb hr (by first | decide | exact jz (by omega)) (fun t ht hW => ⟨_, rfl, congrArg jI (Eq.trans (by rw [f_XB_onRing_L9_s]; rw [if_neg (Int.not_lt.mpr c12_)]; try rfl) hF), ht⟩) (fun _ h => nomatch h) dXB_onRing_40
      · refine lv_iload_n hx hb dXB_onRing_15 rfl (lv_at hl 1 rfl) ?_
        refine ji_if_le (tgt := 39) hx hb dXB_onRing_16 (by decide) (by omega) (fun c16_ => ?_) (fun c16_ => ?_)
        · refine ji_iconst hx hb dXB_onRing_39 ?_
          subst hQ
          exact W.zret (v := jI 0) hx hb hr (by first | decide | exact jz (by omega)) (fun t ht hW => ⟨_, rfl, congrArg jI (Eq.trans (by rw [f_XB_onRing_L9_s]; rw [if_pos c12_, if_neg (Int.not_lt.mpr c16_)]; try rfl) hF), ht⟩) (fun _ h => nomatch h) dXB_onRing_40
        · refine lv_iload_n hx hb dXB_onRing_19 rfl (lv_at hl 1 rfl) ?_
          refine lv_iload_n hx hb dXB_onRing_20 rfl (lv_at hl 3 rfl) ?_
          refine ji_icmp_ne (tgt := 26) hx hb dXB_onRing_21 (by decide) (by omega) (by omega) (fun c21_ => ?_) (fun c21_ => ?_)
          · refine lv_aload_n hx hb dXB_onRing_26 rfl (lv_at hl 2 rfl) ?_
            refine va_get (D := (dC, dI)) (ci := 0) (v := .ref bt) (C := RXB) (T := TXB) (N := 9) hx hb hts (fun w h => jmem (inXB w h)) hown hK hP 0 rfl rfl 0 (by decide) (hts _ (jmem tw_73)) (fun _ h9 => h9) rfl dXB_onRing_27 ?_
            refine lv_iload_n hx hb dXB_onRing_30 rfl (lv_at hl 1 rfl) ?_
            refine ji_iald hx hb hK hP 1 0 rfl rfl ⟨by omega, by omega⟩ (by decide) dXB_onRing_31 ?_
            have rb1 := hbt v
            refine lv_istore_n (lv' := [(2, .int (jI (ft v))), (3, .int (jI k)), (0, .ref ba), (1, .int (jI zg))]) hx hb dXB_onRing_32 rfl hl (by decide) rfl (fun ls hl => ?_)
            refine ji_iinc (k := 1) (lv' := [(3, .int (jI (k + 1))), (2, .int (jI (ft v))), (0, .ref ba), (1, .int (jI zg))]) hx hb dXB_onRing_33 hl rfl (by decide) rfl (fun ls hl => ?_)
            refine lv_goto (tgt := 9) hx hb dXB_onRing_36 (by decide) ?_
            exact ih9 (ft v) (k + 1) (by omega) (Eq.trans (by rw [f_XB_onRing_L9_s]; rw [if_pos c12_, if_pos c16_, if_neg c21_]; try rfl) hF) (by first | assumption | omega) (by first | assumption | omega) ls (lv_sub hl [0, 1, 2, 3] rfl)
          · refine ji_iconst hx hb dXB_onRing_24 ?_
            subst hQ
            exact W.zret (v := jI 1) hx hb hr (by first | decide | exact jz (by omega)) (fun t ht hW => ⟨_, rfl, congrArg jI (Eq.trans (by rw [f_XB_onRing_L9_s]; rw [if_pos c12_, if_pos c16_, if_pos c21_]; try rfl) hF), ht⟩) (fun _ h => nomatch h) dXB_onRing_25
  exact loop9 (Int.toNat (30 - 0) + 1) (ft zg) 0 (by omega) (Eq.trans (by rw [f_XB_onRing_s]; try rfl) rfl) (by first | assumption | omega) (by first | assumption | omega) ls (lv_sub hl [0, 1, 2, 3] rfl)
noncomputable def g_XB_settle_L2 (bg : Int) (bf : Int) (ft : Int → Int) (fp : Int → Int) : Nat → Int → (Int → Int) → (Int → Int)
  | 0, _, _ => fun _ => 0
  | n9 + 1, k, fa =>
    if 30 < k then
      fa
    else
      if (f_XB_knows bg bf (ft k)) = 0 then
        g_XB_settle_L2 bg bf ft fp n9 (k + 1) (jset fa k 0)
      else
        if (f_XB_onRing bg bf ft k) = 0 then
          g_XB_settle_L2 bg bf ft fp n9 (k + 1) (jset fa k (ft k))
        else
          g_XB_settle_L2 bg bf ft fp n9 (k + 1) (jset fa k 0)
noncomputable def f_XB_settle_L2 : Int → Int → (Int → Int) → (Int → Int) → Nat → Int → (Int → Int) → (Int → Int) := jopq g_XB_settle_L2
theorem f_XB_settle_L2_q : f_XB_settle_L2 = g_XB_settle_L2 := jopq_eq _
theorem f_XB_settle_L2_s (bg : Int) (bf : Int) (ft : Int → Int) (fp : Int → Int) (n9 : Nat) (k : Int) (fa : Int → Int) : f_XB_settle_L2 bg bf ft fp (n9 + 1) k fa = (
    if 30 < k then
      fa
    else
      if (f_XB_knows bg bf (ft k)) = 0 then
        f_XB_settle_L2 bg bf ft fp n9 (k + 1) (jset fa k 0)
      else
        if (f_XB_onRing bg bf ft k) = 0 then
          f_XB_settle_L2 bg bf ft fp n9 (k + 1) (jset fa k (ft k))
        else
          f_XB_settle_L2 bg bf ft fp n9 (k + 1) (jset fa k 0)
  : (Int → Int)) := by rw [f_XB_settle_L2_q]; rfl
theorem f_XB_settle_L2_z (bg : Int) (bf : Int) (ft : Int → Int) (fp : Int → Int) (k : Int) (fa : Int → Int) : f_XB_settle_L2 bg bf ft fp 0 k fa = fun _ => 0 := by rw [f_XB_settle_L2_q]; rfl
noncomputable def g_XB_settle (bg : Int) (bf : Int) (ft : Int → Int) (fp : Int → Int) : (Int → Int) :=
  f_XB_settle_L2 bg bf ft fp (Int.toNat (31 - 1) + 1) 1 fp
noncomputable def f_XB_settle : Int → Int → (Int → Int) → (Int → Int) → (Int → Int) := jopq g_XB_settle
theorem f_XB_settle_q : f_XB_settle = g_XB_settle := jopq_eq _
theorem f_XB_settle_s (bg : Int) (bf : Int) (ft : Int → Int) (fp : Int → Int) : f_XB_settle bg bf ft fp = (
    f_XB_settle_L2 bg bf ft fp (Int.toNat (31 - 1) + 1) 1 fp
  : (Int → Int)) := by rw [f_XB_settle_q]; rfl
theorem f_XB_settle_L (bg bf : Int) (ft fp : Int → Int) (hbt : ∀ i, 0 ≤ ft i ∧ ft i ≤ 30) : ∀ (n : Nat) (k : Int) (fa : Int → Int), (∀ i, 0 ≤ fa i ∧ fa i ≤ 30) → ∀ i, 0 ≤ f_XB_settle_L2 bg bf ft fp n k fa i ∧ f_XB_settle_L2 bg bf ft fp n k fa i ≤ 30 := by
  intro n
  induction n with
  | zero => intro k fa _ i; simp only [f_XB_settle_L2_z] <;> omega
  | succ n ih =>
    intro k fa h
    have hj : ∀ x, 0 ≤ x ∧ x ≤ 30 → ∀ i, 0 ≤ jset fa k x i ∧ jset fa k x i ≤ 30 := by
      intro x hx i
      unfold jset
      split
      · exact hx
      · exact h i
    rw [f_XB_settle_L2_s]
    (repeat' split) <;> first | exact h | exact ih _ _ (hj _ (hbt _)) | exact ih _ _ (hj 0 (by omega))
theorem f_XB_settle_b (bg : Int) (bf : Int) (ft : Int → Int) (fp : Int → Int) (hbt : ∀ i, 0 ≤ ft i ∧ ft i ≤ 30) (hbp : ∀ i, 0 ≤ fp i ∧ fp i ≤ 30) (hbg : 0 ≤ bg ∧ bg < 2147483648) : ∀ i, 0 ≤ (f_XB_settle bg bf ft fp) i ∧ (f_XB_settle bg bf ft fp) i ≤ 30 := by rw [f_XB_settle_s]; exact f_XB_settle_L _ _ _ _ hbt _ _ _ hbp
set_option maxHeartbeats 4000000 in
set_option maxRecDepth 100000 in
theorem c_XB_settle (l : Launch) (dC : Nat → ClassId) (dI : Nat → Nat → Nat) (cA : ClassId) (sz : Nat) (ba : Nat) (bt : Nat) (bp : Nat) (bl : Nat) (bh : Nat) (bq : Nat) (br : Nat) (bd : Nat) (bg : Int) (bf : Int) (ft : Int → Int) (fp : Int → Int) (hbt : ∀ i, 0 ≤ ft i ∧ ft i ≤ 30) (hbp : ∀ i, 0 ≤ fp i ∧ fp i ≤ 30) (hbg : 0 ≤ bg ∧ bg < 2147483648) : Met l yXB_settle (Cond.code yXB_settle cXB_settle 3 none :: TBL) ({ frames := 2, cells := 0, slots := 0, locals := 42 } : Room) (va_Pc [.ref ba] (jBw (dC, dI) [(cA, .int)] [(ba, .inr (0, [.ref bt, .ref bp, .ref bl, .ref bh, .ref bq, .ref br, .ref bd, .int (jI bg), .int (jI bf)])), (bt, .inl (cA, 31, .inl (jA ft))), (bp, .inl (cA, 31, .inl (jA fp)))] sz)) (va_Qv (fun (u : (Int → Int)) => u = f_XB_settle bg bf ft fp) (fun u t => jE (dC, dI) [(cA, .int)] [(ba, .inr (0, [.ref bt, .ref bp, .ref bl, .ref bh, .ref bq, .ref br, .ref bd, .int (jI bg), .int (jI bf)])), (bt, .inl (cA, 31, .inl (jA ft))), (bp, .inl (cA, 31, .inl (jA fp)))] sz [(ba, .inr (0, [.ref bt, .ref bp, .ref bl, .ref bh, .ref bq, .ref br, .ref bd, .int (jI bg), .int (jI bf)])), (bt, .inl (cA, 31, .inl (jA ft))), (bp, .inl (cA, 31, .inl (jA u)))] t) (va_A [(ba, .inr (0, [.ref bt, .ref bp, .ref bl, .ref bh, .ref bq, .ref br, .ref bd, .int (jI bg), .int (jI bf)])), (bt, .inl (cA, 31, .inl (jA ft))), (bp, .inl (cA, 31, .inl (jA fp)))] sz)) 0 0 (va_A [(ba, .inr (0, [.ref bt, .ref bp, .ref bl, .ref bh, .ref bq, .ref br, .ref bd, .int (jI bg), .int (jI bf)])), (bt, .inl (cA, 31, .inl (jA ft))), (bp, .inl (cA, 31, .inl (jA fp)))] sz) := by
  refine jMet (cc := cXB_settle) (maxL := 3) (ret := none) (by decide) rfl ?_
  intro p e s m args below meth c s₁ R Q hR hQ B hml hv
  obtain ⟨rfl, hsz, hP, hK, hD0, hN⟩ := hv
  have hx := B.exec
  have hb := B.bytes
  have hr := B.returns
  have hts := atoms_spec (ws := Cond.code yXB_settle cXB_settle 3 none :: TBL) B.pre
  have hown : s.vm.findClass RXB = some m.cls := findClass_of_methodNamed B.named
  have hlocks := B.notSynchronized
  subst hsz
  obtain ⟨A, hAe⟩ : ∃ A, A = va_A [(ba, .inr (0, [.ref bt, .ref bp, .ref bl, .ref bh, .ref bq, .ref br, .ref bd, .int (jI bg), .int (jI bf)])), (bt, .inl (cA, 31, .inl (jA ft))), (bp, .inl (cA, 31, .inl (jA fp)))] s.heap.size := ⟨_, rfl⟩
  have hD : va_D A [(ba, .inr (0, [.ref bt, .ref bp, .ref bl, .ref bh, .ref bq, .ref br, .ref bd, .int (jI bg), .int (jI bf)])), (bt, .inl (cA, 31, .inl (jA ft))), (bp, .inl (cA, 31, .inl (jA fp)))] := by rw [hAe]; exact hD0.self
  have hA : ∀ q : Nat, s.heap.size ≤ q → A q := fun q h => by rw [hAe]; exact Or.inr h
  have hS : va_S A s.heap s.heap [] := va_S.rf
  have hP : va_P (dC, dI) vwCl [(ba, .inr (0, [.ref bt, .ref bp, .ref bl, .ref bh, .ref bq, .ref br, .ref bd, .int (jI bg), .int (jI bf)])), (bt, .inl (cA, 31, .inl (jA ft))), (bp, .inl (cA, 31, .inl (jA fp)))] s.heap := hP
  have hl := lv_entry ([.ref ba]) (n := 3) (Nat.le_of_ble_eq_true rfl)
  rw [lg_entry_eq]
  generalize (lg_sl ([.ref ba]) ++ List.replicate (3 - (lg_sl ([.ref ba])).length) Slot.unset).toArray = ls at hl ⊢
  have hl : lv_has ls 3 [(0, .ref ba)] := hl
  refine ji_iconst hx hb dXB_settle_0 ?_
  refine lv_istore_n (lv' := [(1, .int (jI 1)), (0, .ref ba)]) hx hb dXB_settle_1 rfl hl (by decide) rfl (fun ls hl => ?_)
  have loop2 : ∀ (n9 : Nat) (k : Int) (fa : Int → Int) , 31 - k < (n9 : Int) → f_XB_settle_L2 bg bf ft fp n9 k fa = f_XB_settle bg bf ft fp → (1 ≤ k ∧ k ≤ 31) → ∀ (H : Heap) (locs : List Loc), va_P (dC, dI) vwCl [(ba, .inr (0, [.ref bt, .ref bp, .ref bl, .ref bh, .ref bq, .ref br, .ref bd, .int (jI bg), .int (jI bf)])), (bt, .inl (cA, 31, .inl (jA ft))), (bp, .inl (cA, 31, .inl (jA fa)))] H → va_D A [(ba, .inr (0, [.ref bt, .ref bp, .ref bl, .ref bh, .ref bq, .ref br, .ref bd, .int (jI bg), .int (jI bf)])), (bt, .inl (cA, 31, .inl (jA ft))), (bp, .inl (cA, 31, .inl (jA fa)))] → va_S A s.heap H locs → ∀ ls : Array Slot, lv_has ls 3 [(1, .int (jI k)), (0, .ref ba)] → W p l e R s m ([.ref ba] : List Value).toArray below meth c H locs 0 0 Q (F0 m 2 ls []) := by
    intro n9
    induction n9 with
    | zero =>
      intro k fa hm hF hk
      exact absurd hm (by omega)
    | succ n9 ih2 =>
      intro k fa hm hF hk H locs hP hD hS ls hl
      refine lv_iload_n hx hb dXB_settle_2 rfl (lv_at hl 0 rfl) ?_
      refine ji_bipush hx hb dXB_settle_3 (by decide) ?_
      refine ji_icmp_gt (tgt := 48) hx hb dXB_settle_5 (by decide) (by omega) (by omega) (fun c5_ => ?_) (fun c5_ => ?_)
      · have hP9 := hP.sub (ws' := [(ba, .inr (0, [.ref bt, .ref bp, .ref bl, .ref bh, .ref bq, .ref br, .ref bd, .int (jI bg), .int (jI bf)])), (bt, .inl (cA, 31, .inl (jA ft))), (bp, .inl (cA, 31, .inl (jA fa)))]) [0, 1, 2] rfl
        have hD9 := hD.sub (ws' := [(ba, .inr (0, [.ref bt, .ref bp, .ref bl, .ref bh, .ref bq, .ref br, .ref bd, .int (jI bg), .int (jI bf)])), (bt, .inl (cA, 31, .inl (jA ft))), (bp, .inl (cA, 31, .inl (jA fa)))]) [0, 1, 2] (by decide) rfl
        subst hAe
        subst hQ
        exact W.vret hx hb hr (fun t ht hW => ⟨⟨fa, rfl, Eq.trans (by rw [f_XB_settle_L2_s]; rw [if_pos c5_]; try rfl) hF, ⟨by rw [ht]; exact hP9, va_K.moved hW.alike hK, hD9⟩⟩, hS.F ht⟩) hS.2.2 dXB_settle_48
      · refine lv_aload_n hx hb dXB_settle_8 rfl (lv_at hl 1 rfl) ?_
        refine va_get (D := (dC, dI)) (ci := 0) (v := .ref bt) (C := RXB) (T := TXB) (N := 9) hx hb hts (fun w h => jmem (inXB w h)) hown hK hP 0 rfl rfl 0 (by decide) (hts _ (jmem tw_73)) (fun _ h9 => h9) rfl dXB_settle_9 ?_
        refine lv_iload_n hx hb dXB_settle_12 rfl (lv_at hl 0 rfl) ?_
        refine ji_iald hx hb hK hP 1 0 rfl rfl ⟨by omega, by omega⟩ (by decide) dXB_settle_13 ?_
        have rb := hbt k
        refine lv_istore_n (lv' := [(2, .int (jI (ft k))), (1, .int (jI k)), (0, .ref ba)]) hx hb dXB_settle_14 rfl hl (by decide) rfl (fun ls hl => ?_)
        refine lv_aload_n hx hb dXB_settle_15 rfl (lv_at hl 2 rfl) ?_
        refine va_get (D := (dC, dI)) (ci := 0) (v := .ref bp) (C := RXB) (T := TXB) (N := 9) hx hb hts (fun w h => jmem (inXB w h)) hown hK hP 0 rfl rfl 1 (by decide) (hts _ (jmem tw_74)) (fun _ h9 => h9) rfl dXB_settle_16 ?_
        refine lv_iload_n hx hb dXB_settle_19 rfl (lv_at hl 1 rfl) ?_
        refine lv_aload_n hx hb dXB_settle_20 rfl (lv_at hl 2 rfl) ?_
        refine lv_iload_n hx hb dXB_settle_21 rfl (lv_at hl 0 rfl) ?_
        refine jrVi (rest := [.int (jI k), .ref bp]) ⟨hx, hb, hml, hown, hts⟩ (c_XB_knows l dC dI cA ba bt bp bl bh bq br bd bg bf (ft k) (by first | assumption | omega) (by first | assumption | omega)) (cwV 1 hts (jG_V tw_281 tw_216 tw_217 tw_5 tw_218) rfl rfl rfl (by decide +kernel) (by rw [hR]; exact ⟨Nat.le_of_ble_eq_true rfl, Nat.le_of_ble_eq_true rfl⟩)) hK hP hN [0] rfl 0 0 rfl rfl rfl rfl hl.1 rfl (Nat.le_of_ble_eq_true rfl) dXB_settle_22 (by rw [hR]; exact ⟨Nat.le_of_ble_eq_true rfl, Nat.le_of_ble_eq_true rfl⟩) ?_
        have f := f_XB_knows_b bg bf (ft k) (by first | assumption | omega) (by first | assumption | omega)
        have f1 := f_XB_knows_c bg bf (ft k) (by first | assumption | omega) (by first | assumption | omega)
        refine ji_if_eq (tgt := 40) hx hb dXB_settle_25 (by decide) (by omega) (fun c25_ => ?_) (fun c25_ => ?_)
        · refine ji_iconst hx hb dXB_settle_40 ?_
          refine ji_iast hx hb hK hP hD hS 2 0 rfl rfl ⟨by omega, by omega⟩ (by decide) dXB_settle_41 (fun H locs hP hD hS => ?_)
          have hP : va_P (dC, dI) vwCl [(ba, .inr (0, [.ref bt, .ref bp, .ref bl, .ref bh, .ref bq, .ref br, .ref bd, .int (jI bg), .int (jI bf)])), (bt, .inl (cA, 31, .inl (jA ft))), (bp, .inl (cA, 31, .inl (jA (jset fa k 0))))] H := hP
          have hD : va_D A [(ba, .inr (0, [.ref bt, .ref bp, .ref bl, .ref bh, .ref bq, .ref br, .ref bd, .int (jI bg), .int (jI bf)])), (bt, .inl (cA, 31, .inl (jA ft))), (bp, .inl (cA, 31, .inl (jA (jset fa k 0))))] := hD
          refine ji_iinc (k := 1) (lv' := [(1, .int (jI (k + 1))), (2, .int (jI (ft k))), (0, .ref ba)]) hx hb dXB_settle_42 hl rfl (by decide) rfl (fun ls hl => ?_)
          refine lv_goto (tgt := 2) hx hb dXB_settle_45 (by decide) ?_
          exact ih2 (k + 1) (jset fa k 0) (by omega) (Eq.trans (by rw [f_XB_settle_L2_s]; rw [if_neg (Int.not_lt.mpr c5_), if_pos c25_]; try rfl) hF) (by first | assumption | omega) _ _ hP hD hS ls (lv_sub hl [0, 2] rfl)
        · refine lv_aload_n hx hb dXB_settle_28 rfl (lv_at hl 2 rfl) ?_
          refine lv_iload_n hx hb dXB_settle_29 rfl (lv_at hl 1 rfl) ?_
          refine jrVi (rest := [.int (jI k), .ref bp]) ⟨hx, hb, hml, hown, hts⟩ (c_XB_onRing l dC dI cA ba bt bp bl bh bq br bd bg bf ft k (by first | assumption | omega) (by first | assumption | omega)) (cwV 1 hts (jG_V tw_282 tw_283 tw_284 tw_5 tw_285) rfl rfl rfl (by decide +kernel) (by rw [hR]; exact ⟨Nat.le_of_ble_eq_true rfl, Nat.le_of_ble_eq_true rfl⟩)) hK hP hN [0, 1] rfl 0 0 rfl rfl rfl rfl hl.1 rfl (Nat.le_of_ble_eq_true rfl) dXB_settle_30 (by rw [hR]; exact ⟨Nat.le_of_ble_eq_true rfl, Nat.le_of_ble_eq_true rfl⟩) ?_
          have f2 := f_XB_onRing_b bg bf ft k (by first | assumption | omega) (by first | assumption | omega)
          refine ji_if_ne (tgt := 40) hx hb dXB_settle_33 (by decide) (by omega) (fun c33_ => ?_) (fun c33_ => ?_)
          · refine ji_iconst hx hb dXB_settle_40 ?_
            refine ji_iast hx hb hK hP hD hS 2 0 rfl rfl ⟨by omega, by omega⟩ (by decide) dXB_settle_41 (fun H locs hP hD hS => ?_)
            have hP : va_P (dC, dI) vwCl [(ba, .inr (0, [.ref bt, .ref bp, .ref bl, .ref bh, .ref bq, .ref br, .ref bd, .int (jI bg), .int (jI bf)])), (bt, .inl (cA, 31, .inl (jA ft))), (bp, .inl (cA, 31, .inl (jA (jset fa k 0))))] H := hP
            have hD : va_D A [(ba, .inr (0, [.ref bt, .ref bp, .ref bl, .ref bh, .ref bq, .ref br, .ref bd, .int (jI bg), .int (jI bf)])), (bt, .inl (cA, 31, .inl (jA ft))), (bp, .inl (cA, 31, .inl (jA (jset fa k 0))))] := hD
            refine ji_iinc (k := 1) (lv' := [(1, .int (jI (k + 1))), (2, .int (jI (ft k))), (0, .ref ba)]) hx hb dXB_settle_42 hl rfl (by decide) rfl (fun ls hl => ?_)
            refine lv_goto (tgt := 2) hx hb dXB_settle_45 (by decide) ?_
            exact ih2 (k + 1) (jset fa k 0) (by omega) (Eq.trans (by rw [f_XB_settle_L2_s]; rw [if_neg (Int.not_lt.mpr c5_), if_neg c25_, if_neg c33_]; try rfl) hF) (by first | assumption | omega) _ _ hP hD hS ls (lv_sub hl [0, 2] rfl)
          · refine lv_iload_n hx hb dXB_settle_36 rfl (lv_at hl 0 rfl) ?_
            refine lv_goto (tgt := 41) hx hb dXB_settle_37 (by decide) ?_
            refine ji_iast hx hb hK hP hD hS 2 0 rfl rfl ⟨by omega, by omega⟩ (by decide) dXB_settle_41 (fun H locs hP hD hS => ?_)
            have hP : va_P (dC, dI) vwCl [(ba, .inr (0, [.ref bt, .ref bp, .ref bl, .ref bh, .ref bq, .ref br, .ref bd, .int (jI bg), .int (jI bf)])), (bt, .inl (cA, 31, .inl (jA ft))), (bp, .inl (cA, 31, .inl (jA (jset fa k (ft k)))))] H := hP
            have hD : va_D A [(ba, .inr (0, [.ref bt, .ref bp, .ref bl, .ref bh, .ref bq, .ref br, .ref bd, .int (jI bg), .int (jI bf)])), (bt, .inl (cA, 31, .inl (jA ft))), (bp, .inl (cA, 31, .inl (jA (jset fa k (ft k)))))] := hD
            refine ji_iinc (k := 1) (lv' := [(1, .int (jI (k + 1))), (2, .int (jI (ft k))), (0, .ref ba)]) hx hb dXB_settle_42 hl rfl (by decide) rfl (fun ls hl => ?_)
            refine lv_goto (tgt := 2) hx hb dXB_settle_45 (by decide) ?_
            exact ih2 (k + 1) (jset fa k (ft k)) (by omega) (Eq.trans (by rw [f_XB_settle_L2_s]; rw [if_neg (Int.not_lt.mpr c5_), if_neg c25_, if_pos c33_]; try rfl) hF) (by first | assumption | omega) _ _ hP hD hS ls (lv_sub hl [0, 2] rfl)
  exact loop2 (Int.toNat (31 - 1) + 1) 1 fp (by omega) (Eq.trans (by rw [f_XB_settle_s]; try rfl) rfl) (by first | assumption | omega) _ _ hP hD hS ls (lv_sub hl [0, 1] rfl)
noncomputable def g_XB_endOf_L6 (bg : Int) (bf : Int) (fp : Int → Int) (fl : Int → Int) (fh : Int → Int) (zg : Int) (ze : Int) (zn : Int) : Nat → Int → Int → Int
  | 0, _, _ => 0
  | n9 + 1, v, k =>
    if k < 30 then
      if 0 < v then
        if (f_XB_tellsSpan bg bf fh v ze) = 0 then
          g_XB_endOf_L6 bg bf fp fl fh zg ze zn n9 (fp v) (k + 1)
        else
          if v = 0 then
            if zn = 0 then
              0
            else
              100000
          else
            if zn = 0 then
              fl ((v * 8) + ze)
            else
              fh ((v * 8) + ze)
      else
        if v = 0 then
          if zn = 0 then
            0
          else
            100000
        else
          if zn = 0 then
            fl ((v * 8) + ze)
          else
            fh ((v * 8) + ze)
    else
      if v = 0 then
        if zn = 0 then
          0
        else
          100000
      else
        if zn = 0 then
          fl ((v * 8) + ze)
        else
          fh ((v * 8) + ze)
noncomputable def f_XB_endOf_L6 : Int → Int → (Int → Int) → (Int → Int) → (Int → Int) → Int → Int → Int → Nat → Int → Int → Int := jopq g_XB_endOf_L6
theorem f_XB_endOf_L6_q : f_XB_endOf_L6 = g_XB_endOf_L6 := jopq_eq _
theorem f_XB_endOf_L6_s (bg : Int) (bf : Int) (fp : Int → Int) (fl : Int → Int) (fh : Int → Int) (zg : Int) (ze : Int) (zn : Int) (n9 : Nat) (v : Int) (k : Int) : f_XB_endOf_L6 bg bf fp fl fh zg ze zn (n9 + 1) v k = (
    if k < 30 then
      if 0 < v then
        if (f_XB_tellsSpan bg bf fh v ze) = 0 then
          f_XB_endOf_L6 bg bf fp fl fh zg ze zn n9 (fp v) (k + 1)
        else
          if v = 0 then
            if zn = 0 then
              0
            else
              100000
          else
            if zn = 0 then
              fl ((v * 8) + ze)
            else
              fh ((v * 8) + ze)
      else
        if v = 0 then
          if zn = 0 then
            0
          else
            100000
        else
          if zn = 0 then
            fl ((v * 8) + ze)
          else
            fh ((v * 8) + ze)
    else
      if v = 0 then
        if zn = 0 then
          0
        else
          100000
      else
        if zn = 0 then
          fl ((v * 8) + ze)
        else
          fh ((v * 8) + ze)
  : Int) := by rw [f_XB_endOf_L6_q]; rfl
theorem f_XB_endOf_L6_z (bg : Int) (bf : Int) (fp : Int → Int) (fl : Int → Int) (fh : Int → Int) (zg : Int) (ze : Int) (zn : Int) (v : Int) (k : Int) : f_XB_endOf_L6 bg bf fp fl fh zg ze zn 0 v k = 0 := by rw [f_XB_endOf_L6_q]; rfl
noncomputable def g_XB_endOf (bg : Int) (bf : Int) (fp : Int → Int) (fl : Int → Int) (fh : Int → Int) (zg : Int) (ze : Int) (zn : Int) : Int :=
  f_XB_endOf_L6 bg bf fp fl fh zg ze zn (Int.toNat (30 - 0) + 1) zg 0
noncomputable def f_XB_endOf : Int → Int → (Int → Int) → (Int → Int) → (Int → Int) → Int → Int → Int → Int := jopq g_XB_endOf
theorem f_XB_endOf_q : f_XB_endOf = g_XB_endOf := jopq_eq _
theorem f_XB_endOf_s (bg : Int) (bf : Int) (fp : Int → Int) (fl : Int → Int) (fh : Int → Int) (zg : Int) (ze : Int) (zn : Int) : f_XB_endOf bg bf fp fl fh zg ze zn = (
    f_XB_endOf_L6 bg bf fp fl fh zg ze zn (Int.toNat (30 - 0) + 1) zg 0
  : Int) := by rw [f_XB_endOf_q]; rfl
theorem f_XB_endOf_L (bg bf : Int) (fp fl fh : Int → Int) (zg ze zn : Int) (hbl : ∀ i, 0 ≤ fl i ∧ fl i ≤ 100000) (hbh : ∀ i, -1 ≤ fh i ∧ fh i ≤ 100000) : ∀ (n : Nat) (v k : Int), -1 ≤ f_XB_endOf_L6 bg bf fp fl fh zg ze zn n v k ∧ f_XB_endOf_L6 bg bf fp fl fh zg ze zn n v k ≤ 100000 := by
  intro n
  induction n with
  | zero => intro v k; simp only [f_XB_endOf_L6_z] <;> omega
  | succ n ih =>
    intro v k
    have h1 := hbl (v * 8 + ze)
    have h2 := hbh (v * 8 + ze)
    rw [f_XB_endOf_L6_s]
    (repeat' split) <;> first | omega | exact ih _ _
theorem f_XB_endOf_b (bg : Int) (bf : Int) (fp : Int → Int) (fl : Int → Int) (fh : Int → Int) (zg : Int) (ze : Int) (zn : Int) (hbp : ∀ i, 0 ≤ fp i ∧ fp i ≤ 30) (hbl : ∀ i, 0 ≤ fl i ∧ fl i ≤ 100000) (hbh : ∀ i, -1 ≤ fh i ∧ fh i ≤ 100000) (hzg : 0 ≤ zg ∧ zg ≤ 30) (hze : 0 ≤ ze ∧ ze < 8) (hzn : 0 ≤ zn ∧ zn < 2) : -1 ≤ (f_XB_endOf bg bf fp fl fh zg ze zn) ∧ (f_XB_endOf bg bf fp fl fh zg ze zn) ≤ 100000 := by rw [f_XB_endOf_s]; exact f_XB_endOf_L _ _ _ _ _ _ _ _ hbl hbh _ _ _
set_option maxHeartbeats 4000000 in
set_option maxRecDepth 100000 in
theorem c_XB_endOf (l : Launch) (dC : Nat → ClassId) (dI : Nat → Nat → Nat) (cA : ClassId) (ba : Nat) (bt : Nat) (bp : Nat) (bl : Nat) (bh : Nat) (bq : Nat) (br : Nat) (bd : Nat) (bg : Int) (bf : Int) (fp : Int → Int) (fl : Int → Int) (fh : Int → Int) (zg : Int) (ze : Int) (zn : Int) (hbp : ∀ i, 0 ≤ fp i ∧ fp i ≤ 30) (hbl : ∀ i, 0 ≤ fl i ∧ fl i ≤ 100000) (hbh : ∀ i, -1 ≤ fh i ∧ fh i ≤ 100000) (hzg : 0 ≤ zg ∧ zg ≤ 30) (hze : 0 ≤ ze ∧ ze < 8) (hzn : 0 ≤ zn ∧ zn < 2) : Met l yXB_endOf (Cond.code yXB_endOf cXB_endOf 6 (some .int) :: TBL) ({ frames := 1, cells := 0, slots := 0, locals := 22 } : Room) (va_Pc [.ref ba, .int (jI zg), .int (jI ze), .int (jI zn)] (jB (dC, dI) [(cA, .int)] [(ba, .inr (0, [.ref bt, .ref bp, .ref bl, .ref bh, .ref bq, .ref br, .ref bd, .int (jI bg), .int (jI bf)])), (bp, .inl (cA, 31, .inl (jA fp))), (bl, .inl (cA, 248, .inl (jA fl))), (bh, .inl (cA, 248, .inl (jA fh)))])) (vp_Si (fun r => r = jI (f_XB_endOf bg bf fp fl fh zg ze zn))) 0 0 (fun _ => False) := by
  refine jMet (cc := cXB_endOf) (maxL := 6) (ret := some .int) (by decide) rfl ?_
  intro p e s m args below meth c s₁ R Q hR hQ B hml hv
  obtain ⟨rfl, hP, hK, hN⟩ := hv
  have hx := B.exec
  have hb := B.bytes
  have hr := B.returns
  have hts := atoms_spec (ws := Cond.code yXB_endOf cXB_endOf 6 (some .int) :: TBL) B.pre
  have hown : s.vm.findClass RXB = some m.cls := findClass_of_methodNamed B.named
  have hlocks := B.notSynchronized
  have hP : va_P (dC, dI) vwCl [(ba, .inr (0, [.ref bt, .ref bp, .ref bl, .ref bh, .ref bq, .ref br, .ref bd, .int (jI bg), .int (jI bf)])), (bp, .inl (cA, 31, .inl (jA fp))), (bl, .inl (cA, 248, .inl (jA fl))), (bh, .inl (cA, 248, .inl (jA fh)))] s.heap := hP
  have hl := lv_entry ([.ref ba, .int (jI zg), .int (jI ze), .int (jI zn)]) (n := 6) (Nat.le_of_ble_eq_true rfl)
  rw [lg_entry_eq]
  generalize (lg_sl ([.ref ba, .int (jI zg), .int (jI ze), .int (jI zn)]) ++ List.replicate (6 - (lg_sl ([.ref ba, .int (jI zg), .int (jI ze), .int (jI zn)])).length) Slot.unset).toArray = ls at hl ⊢
  have hl : lv_has ls 6 [(0, .ref ba), (1, .int (jI zg)), (2, .int (jI ze)), (3, .int (jI zn))] := hl
  refine lv_iload_n hx hb dXB_endOf_0 rfl (lv_at hl 1 rfl) ?_
  refine lv_istore (lv' := [(4, .int (jI zg)), (0, .ref ba), (1, .int (jI zg)), (2, .int (jI ze)), (3, .int (jI zn))]) hx hb dXB_endOf_1 hl (by decide) rfl (fun ls hl => ?_)
  refine ji_iconst hx hb dXB_endOf_3 ?_
  refine lv_istore (lv' := [(5, .int (jI 0)), (4, .int (jI zg)), (0, .ref ba), (1, .int (jI zg)), (2, .int (jI ze)), (3, .int (jI zn))]) hx hb dXB_endOf_4 hl (by decide) rfl (fun ls hl => ?_)
  have loop6 : ∀ (n9 : Nat) (v : Int) (k : Int) , 30 - k < (n9 : Int) → f_XB_endOf_L6 bg bf fp fl fh zg ze zn n9 v k = f_XB_endOf bg bf fp fl fh zg ze zn → (0 ≤ k ∧ k ≤ 30) → (0 ≤ v ∧ v ≤ 30) → ∀ ls : Array Slot, lv_has ls 6 [(5, .int (jI k)), (4, .int (jI v)), (0, .ref ba), (1, .int (jI zg)), (2, .int (jI ze)), (3, .int (jI zn))] → W p l e R s m ([.ref ba, .int (jI zg), .int (jI ze), .int (jI zn)] : List Value).toArray below meth c s.heap [] 0 0 Q (F0 m 6 ls []) := by
    intro n9
    induction n9 with
    | zero =>
      intro v k hm hF hk hv
      exact absurd hm (by omega)
    | succ n9 ih6 =>
      intro v k hm hF hk hv ls hl
      refine lv_iload hx hb dXB_endOf_6 (lv_at hl 0 rfl) ?_
      refine ji_bipush hx hb dXB_endOf_8 (by decide) ?_
      refine ji_icmp_ge (tgt := 43) hx hb dXB_endOf_10 (by decide) (by omega) (by omega) (fun c10_ => ?_) (fun c10_ => ?_)
      · refine lv_iload hx hb dXB_endOf_43 (lv_at hl 1 rfl) ?_
        refine ji_if_ne (tgt := 59) hx hb dXB_endOf_45 (by decide) (by omega) (fun c45_ => ?_) (fun c45_ => ?_)
        · refine lv_iload_n hx hb dXB_endOf_59 rfl (lv_at hl 5 rfl) ?_
          refine ji_if_ne (tgt := 78) hx hb dXB_endOf_60 (by decide) (by omega) (fun c60_ => ?_) (fun c60_ => ?_)
          · refine lv_aload_n hx hb dXB_endOf_78 rfl (lv_at hl 2 rfl) ?_
            refine va_get (D := (dC, dI)) (ci := 0) (v := .ref bh) (C := RXB) (T := TXB) (N := 9) hx hb hts (fun w h => jmem (inXB w h)) hown hK hP 0 rfl rfl 3 (by decide) (hts _ (jmem tw_76)) (fun _ h9 => h9) rfl dXB_endOf_79 ?_
            refine lv_iload hx hb dXB_endOf_82 (lv_at hl 1 rfl) ?_
            refine ji_bipush hx hb dXB_endOf_84 (by decide) ?_
            refine ji_imul hx hb dXB_endOf_86 ?_
            refine lv_iload_n hx hb dXB_endOf_87 rfl (lv_at hl 4 rfl) ?_
            refine ji_iadd hx hb dXB_endOf_88 ?_
            refine ji_iald hx hb hK hP 3 0 rfl rfl ⟨by omega, by omega⟩ (by decide) dXB_endOf_89 ?_
            have rb := hbh ((v * 8) + ze)
            subst hQ
            exact W.iret (v := jI (fh ((v * 8) + ze))) hx hb hr (fun t ht hW => ⟨_, rfl, congrArg jI (Eq.trans (by rw [f_XB_endOf_L6_s]; rw [if_neg (Int.not_lt.mpr c10_), if_neg c45_, if_neg c60_]; try rfl) hF), ht⟩) (fun _ h => nomatch h) dXB_endOf_90
          · refine lv_aload_n hx hb dXB_endOf_63 rfl (lv_at hl 2 rfl) ?_
            refine va_get (D := (dC, dI)) (ci := 0) (v := .ref bl) (C := RXB) (T := TXB) (N := 9) hx hb hts (fun w h => jmem (inXB w h)) hown hK hP 0 rfl rfl 2 (by decide) (hts _ (jmem tw_75)) (fun _ h9 => h9) rfl dXB_endOf_64 ?_
            refine lv_iload hx hb dXB_endOf_67 (lv_at hl 1 rfl) ?_
            refine ji_bipush hx hb dXB_endOf_69 (by decide) ?_
            refine ji_imul hx hb dXB_endOf_71 ?_
            refine lv_iload_n hx hb dXB_endOf_72 rfl (lv_at hl 4 rfl) ?_
            refine ji_iadd hx hb dXB_endOf_73 ?_
            refine ji_iald hx hb hK hP 2 0 rfl rfl ⟨by omega, by omega⟩ (by decide) dXB_endOf_74 ?_
            have rb1 := hbl ((v * 8) + ze)
            refine lv_goto (tgt := 90) hx hb dXB_endOf_75 (by decide) ?_
            subst hQ
            exact W.iret (v := jI (fl ((v * 8) + ze))) hx hb hr (fun t ht hW => ⟨_, rfl, congrArg jI (Eq.trans (by rw [f_XB_endOf_L6_s]; rw [if_neg (Int.not_lt.mpr c10_), if_neg c45_, if_pos c60_]; try rfl) hF), ht⟩) (fun _ h => nomatch h) dXB_endOf_90
        · refine lv_iload_n hx hb dXB_endOf_48 rfl (lv_at hl 5 rfl) ?_
          refine ji_if_ne (tgt := 56) hx hb dXB_endOf_49 (by decide) (by omega) (fun c49_ => ?_) (fun c49_ => ?_)
          · refine lv_ldc hx hb hown (hts _ (jmem tw_442)) dXB_endOf_56 ?_
            refine ji_re (y := 100000) (by decide) ?_
            subst hQ
            exact W.iret (v := jI 100000) hx hb hr (fun t ht hW => ⟨_, rfl, congrArg jI (Eq.trans (by rw [f_XB_endOf_L6_s]; rw [if_neg (Int.not_lt.mpr c10_), if_pos c45_, if_neg c49_]; try rfl) hF), ht⟩) (fun _ h => nomatch h) dXB_endOf_58
          · refine ji_iconst hx hb dXB_endOf_52 ?_
            refine lv_goto (tgt := 58) hx hb dXB_endOf_53 (by decide) ?_
            subst hQ
            exact W.iret (v := jI 0) hx hb hr (fun t ht hW => ⟨_, rfl, congrArg jI (Eq.trans (by rw [f_XB_endOf_L6_s]; rw [if_neg (Int.not_lt.mpr c10_), if_pos c45_, if_pos c49_]; try rfl) hF), ht⟩) (fun _ h => nomatch h) dXB_endOf_58
      · refine lv_iload hx hb dXB_endOf_13 (lv_at hl 1 rfl) ?_
        refine ji_if_le (tgt := 43) hx hb dXB_endOf_15 (by decide) (by omega) (fun c15_ => ?_) (fun c15_ => ?_)
        · refine lv_iload hx hb dXB_endOf_43 (lv_at hl 1 rfl) ?_
          refine ji_if_ne (tgt := 59) hx hb dXB_endOf_45 (by decide) (by omega) (fun c45_2 => ?_) (fun c45_2 => ?_)
          · refine lv_iload_n hx hb dXB_endOf_59 rfl (lv_at hl 5 rfl) ?_
            refine ji_if_ne (tgt := 78) hx hb dXB_endOf_60 (by decide) (by omega) (fun c60_3 => ?_) (fun c60_3 => ?_)
            · refine lv_aload_n hx hb dXB_endOf_78 rfl (lv_at hl 2 rfl) ?_
              refine va_get (D := (dC, dI)) (ci := 0) (v := .ref bh) (C := RXB) (T := TXB) (N := 9) hx hb hts (fun w h => jmem (inXB w h)) hown hK hP 0 rfl rfl 3 (by decide) (hts _ (jmem tw_76)) (fun _ h9 => h9) rfl dXB_endOf_79 ?_
              refine lv_iload hx hb dXB_endOf_82 (lv_at hl 1 rfl) ?_
              refine ji_bipush hx hb dXB_endOf_84 (by decide) ?_
              refine ji_imul hx hb dXB_endOf_86 ?_
              refine lv_iload_n hx hb dXB_endOf_87 rfl (lv_at hl 4 rfl) ?_
              refine ji_iadd hx hb dXB_endOf_88 ?_
              refine ji_iald hx hb hK hP 3 0 rfl rfl ⟨by omega, by omega⟩ (by decide) dXB_endOf_89 ?_
              have rb4 := hbh ((v * 8) + ze)
              subst hQ
              exact W.iret (v := jI (fh ((v * 8) + ze))) hx hb hr (fun t ht hW => ⟨_, rfl, congrArg jI (Eq.trans (by rw [f_XB_endOf_L6_s]; rw [if_pos c10_, if_neg (Int.not_lt.mpr c15_), if_neg c45_2, if_neg c60_3]; try rfl) hF), ht⟩) (fun _ h => nomatch h) dXB_endOf_90
            · refine lv_aload_n hx hb dXB_endOf_63 rfl (lv_at hl 2 rfl) ?_
              refine va_get (D := (dC, dI)) (ci := 0) (v := .ref bl) (C := RXB) (T := TXB) (N := 9) hx hb hts (fun w h => jmem (inXB w h)) hown hK hP 0 rfl rfl 2 (by decide) (hts _ (jmem tw_75)) (fun _ h9 => h9) rfl dXB_endOf_64 ?_
              refine lv_iload hx hb dXB_endOf_67 (lv_at hl 1 rfl) ?_
              refine ji_bipush hx hb dXB_endOf_69 (by decide) ?_
              refine ji_imul hx hb dXB_endOf_71 ?_
              refine lv_iload_n hx hb dXB_endOf_72 rfl (lv_at hl 4 rfl) ?_
              refine ji_iadd hx hb dXB_endOf_73 ?_
              refine ji_iald hx hb hK hP 2 0 rfl rfl ⟨by omega, by omega⟩ (by decide) dXB_endOf_74 ?_
              have rb5 := hbl ((v * 8) + ze)
              refine lv_goto (tgt := 90) hx hb dXB_endOf_75 (by decide) ?_
              subst hQ
              exact W.iret (v := jI (fl ((v * 8) + ze))) hx hb hr (fun t ht hW => ⟨_, rfl, congrArg jI (Eq.trans (by rw [f_XB_endOf_L6_s]; rw [if_pos c10_, if_neg (Int.not_lt.mpr c15_), if_neg c45_2, if_pos c60_3]; try rfl) hF), ht⟩) (fun _ h => nomatch h) dXB_endOf_90
          · refine lv_iload_n hx hb dXB_endOf_48 rfl (lv_at hl 5 rfl) ?_
            refine ji_if_ne (tgt := 56) hx hb dXB_endOf_49 (by decide) (by omega) (fun c49_6 => ?_) (fun c49_6 => ?_)
            · refine lv_ldc hx hb hown (hts _ (jmem tw_442)) dXB_endOf_56 ?_
              refine ji_re (y := 100000) (by decide) ?_
              subst hQ
              exact W.iret (v := jI 100000) hx hb hr (fun t ht hW => ⟨_, rfl, congrArg jI (Eq.trans (by rw [f_XB_endOf_L6_s]; rw [if_pos c10_, if_neg (Int.not_lt.mpr c15_), if_pos c45_2, if_neg c49_6]; try rfl) hF), ht⟩) (fun _ h => nomatch h) dXB_endOf_58
            · refine ji_iconst hx hb dXB_endOf_52 ?_
              refine lv_goto (tgt := 58) hx hb dXB_endOf_53 (by decide) ?_
              subst hQ
              exact W.iret (v := jI 0) hx hb hr (fun t ht hW => ⟨_, rfl, congrArg jI (Eq.trans (by rw [f_XB_endOf_L6_s]; rw [if_pos c10_, if_neg (Int.not_lt.mpr c15_), if_pos c45_2, if_pos c49_6]; try rfl) hF), ht⟩) (fun _ h => nomatch h) dXB_endOf_58
        · refine lv_aload_n hx hb dXB_endOf_18 rfl (lv_at hl 2 rfl) ?_
          refine lv_iload hx hb dXB_endOf_19 (lv_at hl 1 rfl) ?_
          refine lv_iload_n hx hb dXB_endOf_21 rfl (lv_at hl 4 rfl) ?_
          refine jrVi (rest := []) ⟨hx, hb, hml, hown, hts⟩ (c_XB_tellsSpan l dC dI cA ba bt bp bl bh bq br bd bg bf fh v ze (by first | assumption | omega) (by first | assumption | omega) (by first | assumption | omega)) (cwV 2 hts (jG_V tw_441 tw_239 tw_240 tw_5 tw_241) rfl rfl rfl (by decide +kernel) (by rw [hR]; exact ⟨Nat.le_of_ble_eq_true rfl, Nat.le_of_ble_eq_true rfl⟩)) hK hP hN [0, 3] rfl 0 0 rfl rfl rfl rfl hl.1 rfl (Nat.le_of_ble_eq_true rfl) dXB_endOf_22 (by rw [hR]; exact ⟨Nat.le_of_ble_eq_true rfl, Nat.le_of_ble_eq_true rfl⟩) ?_
          have f := f_XB_tellsSpan_b bg bf fh v ze (by first | assumption | omega) (by first | assumption | omega) (by first | assumption | omega)
          have f7 := f_XB_tellsSpan_c bg bf fh v ze (by first | assumption | omega) (by first | assumption | omega) (by first | assumption | omega)
          refine ji_if_ne (tgt := 43) hx hb dXB_endOf_25 (by decide) (by omega) (fun c25_ => ?_) (fun c25_ => ?_)
          · refine lv_iload hx hb dXB_endOf_43 (lv_at hl 1 rfl) ?_
            refine ji_if_ne (tgt := 59) hx hb dXB_endOf_45 (by decide) (by omega) (fun c45_8 => ?_) (fun c45_8 => ?_)
            · refine lv_iload_n hx hb dXB_endOf_59 rfl (lv_at hl 5 rfl) ?_
              refine ji_if_ne (tgt := 78) hx hb dXB_endOf_60 (by decide) (by omega) (fun c60_9 => ?_) (fun c60_9 => ?_)
              · refine lv_aload_n hx hb dXB_endOf_78 rfl (lv_at hl 2 rfl) ?_
                refine va_get (D := (dC, dI)) (ci := 0) (v := .ref bh) (C := RXB) (T := TXB) (N := 9) hx hb hts (fun w h => jmem (inXB w h)) hown hK hP 0 rfl rfl 3 (by decide) (hts _ (jmem tw_76)) (fun _ h9 => h9) rfl dXB_endOf_79 ?_
                refine lv_iload hx hb dXB_endOf_82 (lv_at hl 1 rfl) ?_
                refine ji_bipush hx hb dXB_endOf_84 (by decide) ?_
                refine ji_imul hx hb dXB_endOf_86 ?_
                refine lv_iload_n hx hb dXB_endOf_87 rfl (lv_at hl 4 rfl) ?_
                refine ji_iadd hx hb dXB_endOf_88 ?_
                refine ji_iald hx hb hK hP 3 0 rfl rfl ⟨by omega, by omega⟩ (by decide) dXB_endOf_89 ?_
                have rb10 := hbh ((v * 8) + ze)
                subst hQ
                exact W.iret (v := jI (fh ((v * 8) + ze))) hx hb hr (fun t ht hW => ⟨_, rfl, congrArg jI (Eq.trans (by rw [f_XB_endOf_L6_s]; rw [if_pos c10_, if_pos c15_, if_neg c25_, if_neg c45_8, if_neg c60_9]; try rfl) hF), ht⟩) (fun _ h => nomatch h) dXB_endOf_90
              · refine lv_aload_n hx hb dXB_endOf_63 rfl (lv_at hl 2 rfl) ?_
                refine va_get (D := (dC, dI)) (ci := 0) (v := .ref bl) (C := RXB) (T := TXB) (N := 9) hx hb hts (fun w h => jmem (inXB w h)) hown hK hP 0 rfl rfl 2 (by decide) (hts _ (jmem tw_75)) (fun _ h9 => h9) rfl dXB_endOf_64 ?_
                refine lv_iload hx hb dXB_endOf_67 (lv_at hl 1 rfl) ?_
                refine ji_bipush hx hb dXB_endOf_69 (by decide) ?_
                refine ji_imul hx hb dXB_endOf_71 ?_
                refine lv_iload_n hx hb dXB_endOf_72 rfl (lv_at hl 4 rfl) ?_
                refine ji_iadd hx hb dXB_endOf_73 ?_
                refine ji_iald hx hb hK hP 2 0 rfl rfl ⟨by omega, by omega⟩ (by decide) dXB_endOf_74 ?_
                have rb11 := hbl ((v * 8) + ze)
                refine lv_goto (tgt := 90) hx hb dXB_endOf_75 (by decide) ?_
                subst hQ
                exact W.iret (v := jI (fl ((v * 8) + ze))) hx hb hr (fun t ht hW => ⟨_, rfl, congrArg jI (Eq.trans (by rw [f_XB_endOf_L6_s]; rw [if_pos c10_, if_pos c15_, if_neg c25_, if_neg c45_8, if_pos c60_9]; try rfl) hF), ht⟩) (fun _ h => nomatch h) dXB_endOf_90
            · refine lv_iload_n hx hb dXB_endOf_48 rfl (lv_at hl 5 rfl) ?_
              refine ji_if_ne (tgt := 56) hx hb dXB_endOf_49 (by decide) (by omega) (fun c49_12 => ?_) (fun c49_12 => ?_)
              · refine lv_ldc hx hb hown (hts _ (jmem tw_442)) dXB_endOf_56 ?_
                refine ji_re (y := 100000) (by decide) ?_
                subst hQ
                exact W.iret (v := jI 100000) hx hb hr (fun t ht hW => ⟨_, rfl, congrArg jI (Eq.trans (by rw [f_XB_endOf_L6_s]; rw [if_pos c10_, if_pos c15_, if_neg c25_, if_pos c45_8, if_neg c49_12]; try rfl) hF), ht⟩) (fun _ h => nomatch h) dXB_endOf_58
              · refine ji_iconst hx hb dXB_endOf_52 ?_
                refine lv_goto (tgt := 58) hx hb dXB_endOf_53 (by decide) ?_
                subst hQ
                exact W.iret (v := jI 0) hx hb hr (fun t ht hW => ⟨_, rfl, congrArg jI (Eq.trans (by rw [f_XB_endOf_L6_s]; rw [if_pos c10_, if_pos c15_, if_neg c25_, if_pos c45_8, if_pos c49_12]; try rfl) hF), ht⟩) (fun _ h => nomatch h) dXB_endOf_58
          · refine lv_aload_n hx hb dXB_endOf_28 rfl (lv_at hl 2 rfl) ?_
            refine va_get (D := (dC, dI)) (ci := 0) (v := .ref bp) (C := RXB) (T := TXB) (N := 9) hx hb hts (fun w h => jmem (inXB w h)) hown hK hP 0 rfl rfl 1 (by decide) (hts _ (jmem tw_74)) (fun _ h9 => h9) rfl dXB_endOf_29 ?_
            refine lv_iload hx hb dXB_endOf_32 (lv_at hl 1 rfl) ?_
            refine ji_iald hx hb hK hP 1 0 rfl rfl ⟨by omega, by omega⟩ (by decide) dXB_endOf_34 ?_
            have rb13 := hbp v
            refine lv_istore (lv' := [(4, .int (jI (fp v))), (5, .int (jI k)), (0, .ref ba), (1, .int (jI zg)), (2, .int (jI ze)), (3, .int (jI zn))]) hx hb dXB_endOf_35 hl (by decide) rfl (fun ls hl => ?_)
            refine ji_iinc (k := 1) (lv' := [(5, .int (jI (k + 1))), (4, .int (jI (fp v))), (0, .ref ba), (1, .int (jI zg)), (2, .int (jI ze)), (3, .int (jI zn))]) hx hb dXB_endOf_37 hl rfl (by decide) rfl (fun ls hl => ?_)
            refine lv_goto (tgt := 6) hx hb dXB_endOf_40 (by decide) ?_
            exact ih6 (fp v) (k + 1) (by omega) (Eq.trans (by rw [f_XB_endOf_L6_s]; rw [if_pos c10_, if_pos c15_, if_pos c25_]; try rfl) hF) (by first | assumption | omega) (by first | assumption | omega) ls (lv_sub hl [0, 1, 2, 3, 4, 5] rfl)
  exact loop6 (Int.toNat (30 - 0) + 1) zg 0 (by omega) (Eq.trans (by rw [f_XB_endOf_s]; try rfl) rfl) (by first | assumption | omega) (by first | assumption | omega) ls (lv_sub hl [0, 1, 2, 3, 4, 5] rfl)
noncomputable def g_XB_limitOf_L5 (bg : Int) (bf : Int) (fp : Int → Int) (fq : Int → Int) (zg : Int) (zk : Int) : Nat → Int → Int → Int
  | 0, _, _ => 0
  | n9 + 1, v, k =>
    if k < 30 then
      if 0 < v then
        if (f_XB_tellsLimit bg bf fq v zk) = 0 then
          g_XB_limitOf_L5 bg bf fp fq zg zk n9 (fp v) (k + 1)
        else
          if v = 0 then
            -1
          else
            fq ((v * 4) + zk)
      else
        if v = 0 then
          -1
        else
          fq ((v * 4) + zk)
    else
      if v = 0 then
        -1
      else
        fq ((v * 4) + zk)
noncomputable def f_XB_limitOf_L5 : Int → Int → (Int → Int) → (Int → Int) → Int → Int → Nat → Int → Int → Int := jopq g_XB_limitOf_L5
theorem f_XB_limitOf_L5_q : f_XB_limitOf_L5 = g_XB_limitOf_L5 := jopq_eq _
theorem f_XB_limitOf_L5_s (bg : Int) (bf : Int) (fp : Int → Int) (fq : Int → Int) (zg : Int) (zk : Int) (n9 : Nat) (v : Int) (k : Int) : f_XB_limitOf_L5 bg bf fp fq zg zk (n9 + 1) v k = (
    if k < 30 then
      if 0 < v then
        if (f_XB_tellsLimit bg bf fq v zk) = 0 then
          f_XB_limitOf_L5 bg bf fp fq zg zk n9 (fp v) (k + 1)
        else
          if v = 0 then
            -1
          else
            fq ((v * 4) + zk)
      else
        if v = 0 then
          -1
        else
          fq ((v * 4) + zk)
    else
      if v = 0 then
        -1
      else
        fq ((v * 4) + zk)
  : Int) := by rw [f_XB_limitOf_L5_q]; rfl
theorem f_XB_limitOf_L5_z (bg : Int) (bf : Int) (fp : Int → Int) (fq : Int → Int) (zg : Int) (zk : Int) (v : Int) (k : Int) : f_XB_limitOf_L5 bg bf fp fq zg zk 0 v k = 0 := by rw [f_XB_limitOf_L5_q]; rfl
noncomputable def g_XB_limitOf (bg : Int) (bf : Int) (fp : Int → Int) (fq : Int → Int) (zg : Int) (zk : Int) : Int :=
  f_XB_limitOf_L5 bg bf fp fq zg zk (Int.toNat (30 - 0) + 1) zg 0
noncomputable def f_XB_limitOf : Int → Int → (Int → Int) → (Int → Int) → Int → Int → Int := jopq g_XB_limitOf
theorem f_XB_limitOf_q : f_XB_limitOf = g_XB_limitOf := jopq_eq _
theorem f_XB_limitOf_s (bg : Int) (bf : Int) (fp : Int → Int) (fq : Int → Int) (zg : Int) (zk : Int) : f_XB_limitOf bg bf fp fq zg zk = (
    f_XB_limitOf_L5 bg bf fp fq zg zk (Int.toNat (30 - 0) + 1) zg 0
  : Int) := by rw [f_XB_limitOf_q]; rfl
theorem f_XB_limitOf_L (bg bf : Int) (fp fq : Int → Int) (zg zk : Int) (hbq : ∀ i, -1 ≤ fq i ∧ fq i ≤ 999999) : ∀ (n : Nat) (v k : Int), -1 ≤ f_XB_limitOf_L5 bg bf fp fq zg zk n v k ∧ f_XB_limitOf_L5 bg bf fp fq zg zk n v k ≤ 999999 := by
  intro n
  induction n with
  | zero => intro v k; simp only [f_XB_limitOf_L5_z] <;> omega
  | succ n ih =>
    intro v k
    have h1 := hbq (v * 4 + zk)
    rw [f_XB_limitOf_L5_s]
    (repeat' split) <;> first | omega | exact ih _ _
theorem f_XB_limitOf_b (bg : Int) (bf : Int) (fp : Int → Int) (fq : Int → Int) (zg : Int) (zk : Int) (hbp : ∀ i, 0 ≤ fp i ∧ fp i ≤ 30) (hbq : ∀ i, -1 ≤ fq i ∧ fq i ≤ 999999) (hzg : 0 ≤ zg ∧ zg ≤ 30) (hzk : 0 ≤ zk ∧ zk < 4) : -1 ≤ (f_XB_limitOf bg bf fp fq zg zk) ∧ (f_XB_limitOf bg bf fp fq zg zk) ≤ 999999 := by rw [f_XB_limitOf_s]; exact f_XB_limitOf_L _ _ _ _ _ _ hbq _ _ _
set_option maxHeartbeats 4000000 in
set_option maxRecDepth 100000 in
theorem c_XB_limitOf (l : Launch) (dC : Nat → ClassId) (dI : Nat → Nat → Nat) (cA : ClassId) (ba : Nat) (bt : Nat) (bp : Nat) (bl : Nat) (bh : Nat) (bq : Nat) (br : Nat) (bd : Nat) (bg : Int) (bf : Int) (fp : Int → Int) (fq : Int → Int) (zg : Int) (zk : Int) (hbp : ∀ i, 0 ≤ fp i ∧ fp i ≤ 30) (hbq : ∀ i, -1 ≤ fq i ∧ fq i ≤ 999999) (hzg : 0 ≤ zg ∧ zg ≤ 30) (hzk : 0 ≤ zk ∧ zk < 4) : Met l yXB_limitOf (Cond.code yXB_limitOf cXB_limitOf 5 (some .int) :: TBL) ({ frames := 1, cells := 0, slots := 0, locals := 22 } : Room) (va_Pc [.ref ba, .int (jI zg), .int (jI zk)] (jB (dC, dI) [(cA, .int)] [(ba, .inr (0, [.ref bt, .ref bp, .ref bl, .ref bh, .ref bq, .ref br, .ref bd, .int (jI bg), .int (jI bf)])), (bp, .inl (cA, 31, .inl (jA fp))), (bq, .inl (cA, 124, .inl (jA fq)))])) (vp_Si (fun r => r = jI (f_XB_limitOf bg bf fp fq zg zk))) 0 0 (fun _ => False) := by
  refine jMet (cc := cXB_limitOf) (maxL := 5) (ret := some .int) (by decide) rfl ?_
  intro p e s m args below meth c s₁ R Q hR hQ B hml hv
  obtain ⟨rfl, hP, hK, hN⟩ := hv
  have hx := B.exec
  have hb := B.bytes
  have hr := B.returns
  have hts := atoms_spec (ws := Cond.code yXB_limitOf cXB_limitOf 5 (some .int) :: TBL) B.pre
  have hown : s.vm.findClass RXB = some m.cls := findClass_of_methodNamed B.named
  have hlocks := B.notSynchronized
  have hP : va_P (dC, dI) vwCl [(ba, .inr (0, [.ref bt, .ref bp, .ref bl, .ref bh, .ref bq, .ref br, .ref bd, .int (jI bg), .int (jI bf)])), (bp, .inl (cA, 31, .inl (jA fp))), (bq, .inl (cA, 124, .inl (jA fq)))] s.heap := hP
  have hl := lv_entry ([.ref ba, .int (jI zg), .int (jI zk)]) (n := 5) (Nat.le_of_ble_eq_true rfl)
  rw [lg_entry_eq]
  generalize (lg_sl ([.ref ba, .int (jI zg), .int (jI zk)]) ++ List.replicate (5 - (lg_sl ([.ref ba, .int (jI zg), .int (jI zk)])).length) Slot.unset).toArray = ls at hl ⊢
  have hl : lv_has ls 5 [(0, .ref ba), (1, .int (jI zg)), (2, .int (jI zk))] := hl
  refine lv_iload_n hx hb dXB_limitOf_0 rfl (lv_at hl 1 rfl) ?_
  refine lv_istore_n (lv' := [(3, .int (jI zg)), (0, .ref ba), (1, .int (jI zg)), (2, .int (jI zk))]) hx hb dXB_limitOf_1 rfl hl (by decide) rfl (fun ls hl => ?_)
  refine ji_iconst hx hb dXB_limitOf_2 ?_
  refine lv_istore (lv' := [(4, .int (jI 0)), (3, .int (jI zg)), (0, .ref ba), (1, .int (jI zg)), (2, .int (jI zk))]) hx hb dXB_limitOf_3 hl (by decide) rfl (fun ls hl => ?_)
  have loop5 : ∀ (n9 : Nat) (v : Int) (k : Int) , 30 - k < (n9 : Int) → f_XB_limitOf_L5 bg bf fp fq zg zk n9 v k = f_XB_limitOf bg bf fp fq zg zk → (0 ≤ k ∧ k ≤ 30) → (0 ≤ v ∧ v ≤ 30) → ∀ ls : Array Slot, lv_has ls 5 [(4, .int (jI k)), (3, .int (jI v)), (0, .ref ba), (1, .int (jI zg)), (2, .int (jI zk))] → W p l e R s m ([.ref ba, .int (jI zg), .int (jI zk)] : List Value).toArray below meth c s.heap [] 0 0 Q (F0 m 5 ls []) := by
    intro n9
    induction n9 with
    | zero =>
      intro v k hm hF hk hv
      exact absurd hm (by omega)
    | succ n9 ih5 =>
      intro v k hm hF hk hv ls hl
      refine lv_iload hx hb dXB_limitOf_5 (lv_at hl 0 rfl) ?_
      refine ji_bipush hx hb dXB_limitOf_7 (by decide) ?_
      refine ji_icmp_ge (tgt := 38) hx hb dXB_limitOf_9 (by decide) (by omega) (by omega) (fun c9_ => ?_) (fun c9_ => ?_)
      · refine lv_iload_n hx hb dXB_limitOf_38 rfl (lv_at hl 1 rfl) ?_
        refine ji_if_ne (tgt := 46) hx hb dXB_limitOf_39 (by decide) (by omega) (fun c39_ => ?_) (fun c39_ => ?_)
        · refine lv_aload_n hx hb dXB_limitOf_46 rfl (lv_at hl 2 rfl) ?_
          refine va_get (D := (dC, dI)) (ci := 0) (v := .ref bq) (C := RXB) (T := TXB) (N := 9) hx hb hts (fun w h => jmem (inXB w h)) hown hK hP 0 rfl rfl 4 (by decide) (hts _ (jmem tw_77)) (fun _ h9 => h9) rfl dXB_limitOf_47 ?_
          refine lv_iload_n hx hb dXB_limitOf_50 rfl (lv_at hl 1 rfl) ?_
          refine ji_iconst hx hb dXB_limitOf_51 ?_
          refine ji_imul hx hb dXB_limitOf_52 ?_
          refine lv_iload_n hx hb dXB_limitOf_53 rfl (lv_at hl 4 rfl) ?_
          refine ji_iadd hx hb dXB_limitOf_54 ?_
          refine ji_iald hx hb hK hP 2 0 rfl rfl ⟨by omega, by omega⟩ (by decide) dXB_limitOf_55 ?_
          have rb := hbq ((v * 4) + zk)
          subst hQ
          exact W.iret (v := jI (fq ((v * 4) + zk))) hx hb hr (fun t ht hW => ⟨_, rfl, congrArg jI (Eq.trans (by rw [f_XB_limitOf_L5_s]; rw [if_neg (Int.not_lt.mpr c9_), if_neg c39_]; try rfl) hF), ht⟩) (fun _ h => nomatch h) dXB_limitOf_56
        · refine ji_iconst hx hb dXB_limitOf_42 ?_
          refine lv_goto (tgt := 56) hx hb dXB_limitOf_43 (by decide) ?_
          subst hQ
          exact W.iret (v := jI (-1)) hx hb hr (fun t ht hW => ⟨_, rfl, congrArg jI (Eq.trans (by rw [f_XB_limitOf_L5_s]; rw [if_neg (Int.not_lt.mpr c9_), if_pos c39_]; try rfl) hF), ht⟩) (fun _ h => nomatch h) dXB_limitOf_56
      · refine lv_iload_n hx hb dXB_limitOf_12 rfl (lv_at hl 1 rfl) ?_
        refine ji_if_le (tgt := 38) hx hb dXB_limitOf_13 (by decide) (by omega) (fun c13_ => ?_) (fun c13_ => ?_)
        · refine lv_iload_n hx hb dXB_limitOf_38 rfl (lv_at hl 1 rfl) ?_
          refine ji_if_ne (tgt := 46) hx hb dXB_limitOf_39 (by decide) (by omega) (fun c39_1 => ?_) (fun c39_1 => ?_)
          · refine lv_aload_n hx hb dXB_limitOf_46 rfl (lv_at hl 2 rfl) ?_
            refine va_get (D := (dC, dI)) (ci := 0) (v := .ref bq) (C := RXB) (T := TXB) (N := 9) hx hb hts (fun w h => jmem (inXB w h)) hown hK hP 0 rfl rfl 4 (by decide) (hts _ (jmem tw_77)) (fun _ h9 => h9) rfl dXB_limitOf_47 ?_
            refine lv_iload_n hx hb dXB_limitOf_50 rfl (lv_at hl 1 rfl) ?_
            refine ji_iconst hx hb dXB_limitOf_51 ?_
            refine ji_imul hx hb dXB_limitOf_52 ?_
            refine lv_iload_n hx hb dXB_limitOf_53 rfl (lv_at hl 4 rfl) ?_
            refine ji_iadd hx hb dXB_limitOf_54 ?_
            refine ji_iald hx hb hK hP 2 0 rfl rfl ⟨by omega, by omega⟩ (by decide) dXB_limitOf_55 ?_
            have rb2 := hbq ((v * 4) + zk)
            subst hQ
            exact W.iret (v := jI (fq ((v * 4) + zk))) hx hb hr (fun t ht hW => ⟨_, rfl, congrArg jI (Eq.trans (by rw [f_XB_limitOf_L5_s]; rw [if_pos c9_, if_neg (Int.not_lt.mpr c13_), if_neg c39_1]; try rfl) hF), ht⟩) (fun _ h => nomatch h) dXB_limitOf_56
          · refine ji_iconst hx hb dXB_limitOf_42 ?_
            refine lv_goto (tgt := 56) hx hb dXB_limitOf_43 (by decide) ?_
            subst hQ
            exact W.iret (v := jI (-1)) hx hb hr (fun t ht hW => ⟨_, rfl, congrArg jI (Eq.trans (by rw [f_XB_limitOf_L5_s]; rw [if_pos c9_, if_neg (Int.not_lt.mpr c13_), if_pos c39_1]; try rfl) hF), ht⟩) (fun _ h => nomatch h) dXB_limitOf_56
        · refine lv_aload_n hx hb dXB_limitOf_16 rfl (lv_at hl 2 rfl) ?_
          refine lv_iload_n hx hb dXB_limitOf_17 rfl (lv_at hl 1 rfl) ?_
          refine lv_iload_n hx hb dXB_limitOf_18 rfl (lv_at hl 4 rfl) ?_
          refine jrVi (rest := []) ⟨hx, hb, hml, hown, hts⟩ (c_XB_tellsLimit l dC dI cA ba bt bp bl bh bq br bd bg bf fq v zk (by first | assumption | omega) (by first | assumption | omega) (by first | assumption | omega)) (cwV 2 hts (jG_V tw_454 tw_261 tw_262 tw_5 tw_263) rfl rfl rfl (by decide +kernel) (by rw [hR]; exact ⟨Nat.le_of_ble_eq_true rfl, Nat.le_of_ble_eq_true rfl⟩)) hK hP hN [0, 2] rfl 0 0 rfl rfl rfl rfl hl.1 rfl (Nat.le_of_ble_eq_true rfl) dXB_limitOf_19 (by rw [hR]; exact ⟨Nat.le_of_ble_eq_true rfl, Nat.le_of_ble_eq_true rfl⟩) ?_
          have f := f_XB_tellsLimit_b bg bf fq v zk (by first | assumption | omega) (by first | assumption | omega) (by first | assumption | omega)
          have f3 := f_XB_tellsLimit_c bg bf fq v zk (by first | assumption | omega) (by first | assumption | omega) (by first | assumption | omega)
          refine ji_if_ne (tgt := 38) hx hb dXB_limitOf_22 (by decide) (by omega) (fun c22_ => ?_) (fun c22_ => ?_)
          · refine lv_iload_n hx hb dXB_limitOf_38 rfl (lv_at hl 1 rfl) ?_
            refine ji_if_ne (tgt := 46) hx hb dXB_limitOf_39 (by decide) (by omega) (fun c39_4 => ?_) (fun c39_4 => ?_)
            · refine lv_aload_n hx hb dXB_limitOf_46 rfl (lv_at hl 2 rfl) ?_
              refine va_get (D := (dC, dI)) (ci := 0) (v := .ref bq) (C := RXB) (T := TXB) (N := 9) hx hb hts (fun w h => jmem (inXB w h)) hown hK hP 0 rfl rfl 4 (by decide) (hts _ (jmem tw_77)) (fun _ h9 => h9) rfl dXB_limitOf_47 ?_
              refine lv_iload_n hx hb dXB_limitOf_50 rfl (lv_at hl 1 rfl) ?_
              refine ji_iconst hx hb dXB_limitOf_51 ?_
              refine ji_imul hx hb dXB_limitOf_52 ?_
              refine lv_iload_n hx hb dXB_limitOf_53 rfl (lv_at hl 4 rfl) ?_
              refine ji_iadd hx hb dXB_limitOf_54 ?_
              refine ji_iald hx hb hK hP 2 0 rfl rfl ⟨by omega, by omega⟩ (by decide) dXB_limitOf_55 ?_
              have rb5 := hbq ((v * 4) + zk)
              subst hQ
              exact W.iret (v := jI (fq ((v * 4) + zk))) hx hb hr (fun t ht hW => ⟨_, rfl, congrArg jI (Eq.trans (by rw [f_XB_limitOf_L5_s]; rw [if_pos c9_, if_pos c13_, if_neg c22_, if_neg c39_4]; try rfl) hF), ht⟩) (fun _ h => nomatch h) dXB_limitOf_56
            · refine ji_iconst hx hb dXB_limitOf_42 ?_
              refine lv_goto (tgt := 56) hx hb dXB_limitOf_43 (by decide) ?_
              subst hQ
              exact W.iret (v := jI (-1)) hx hb hr (fun t ht hW => ⟨_, rfl, congrArg jI (Eq.trans (by rw [f_XB_limitOf_L5_s]; rw [if_pos c9_, if_pos c13_, if_neg c22_, if_pos c39_4]; try rfl) hF), ht⟩) (fun _ h => nomatch h) dXB_limitOf_56
          · refine lv_aload_n hx hb dXB_limitOf_25 rfl (lv_at hl 2 rfl) ?_
            refine va_get (D := (dC, dI)) (ci := 0) (v := .ref bp) (C := RXB) (T := TXB) (N := 9) hx hb hts (fun w h => jmem (inXB w h)) hown hK hP 0 rfl rfl 1 (by decide) (hts _ (jmem tw_74)) (fun _ h9 => h9) rfl dXB_limitOf_26 ?_
            refine lv_iload_n hx hb dXB_limitOf_29 rfl (lv_at hl 1 rfl) ?_
            refine ji_iald hx hb hK hP 1 0 rfl rfl ⟨by omega, by omega⟩ (by decide) dXB_limitOf_30 ?_
            have rb6 := hbp v
            refine lv_istore_n (lv' := [(3, .int (jI (fp v))), (4, .int (jI k)), (0, .ref ba), (1, .int (jI zg)), (2, .int (jI zk))]) hx hb dXB_limitOf_31 rfl hl (by decide) rfl (fun ls hl => ?_)
            refine ji_iinc (k := 1) (lv' := [(4, .int (jI (k + 1))), (3, .int (jI (fp v))), (0, .ref ba), (1, .int (jI zg)), (2, .int (jI zk))]) hx hb dXB_limitOf_32 hl rfl (by decide) rfl (fun ls hl => ?_)
            refine lv_goto (tgt := 5) hx hb dXB_limitOf_35 (by decide) ?_
            exact ih5 (fp v) (k + 1) (by omega) (Eq.trans (by rw [f_XB_limitOf_L5_s]; rw [if_pos c9_, if_pos c13_, if_pos c22_]; try rfl) hF) (by first | assumption | omega) (by first | assumption | omega) ls (lv_sub hl [0, 1, 2, 3, 4] rfl)
  exact loop5 (Int.toNat (30 - 0) + 1) zg 0 (by omega) (Eq.trans (by rw [f_XB_limitOf_s]; try rfl) rfl) (by first | assumption | omega) (by first | assumption | omega) ls (lv_sub hl [0, 1, 2, 3, 4] rfl)
noncomputable def g_XB_routesOf_L4 (bg : Int) (bf : Int) (fp : Int → Int) (fr : Int → Int) (zg : Int) : Nat → Int → Int → Int
  | 0, _, _ => 0
  | n9 + 1, v, k =>
    if k < 30 then
      if 0 < v then
        if (fr v) = 0 then
          g_XB_routesOf_L4 bg bf fp fr zg n9 (fp v) (k + 1)
        else
          if v = 0 then
            0
          else
            fr v
      else
        if v = 0 then
          0
        else
          fr v
    else
      if v = 0 then
        0
      else
        fr v
noncomputable def f_XB_routesOf_L4 : Int → Int → (Int → Int) → (Int → Int) → Int → Nat → Int → Int → Int := jopq g_XB_routesOf_L4
theorem f_XB_routesOf_L4_q : f_XB_routesOf_L4 = g_XB_routesOf_L4 := jopq_eq _
theorem f_XB_routesOf_L4_s (bg : Int) (bf : Int) (fp : Int → Int) (fr : Int → Int) (zg : Int) (n9 : Nat) (v : Int) (k : Int) : f_XB_routesOf_L4 bg bf fp fr zg (n9 + 1) v k = (
    if k < 30 then
      if 0 < v then
        if (fr v) = 0 then
          f_XB_routesOf_L4 bg bf fp fr zg n9 (fp v) (k + 1)
        else
          if v = 0 then
            0
          else
            fr v
      else
        if v = 0 then
          0
        else
          fr v
    else
      if v = 0 then
        0
      else
        fr v
  : Int) := by rw [f_XB_routesOf_L4_q]; rfl
theorem f_XB_routesOf_L4_z (bg : Int) (bf : Int) (fp : Int → Int) (fr : Int → Int) (zg : Int) (v : Int) (k : Int) : f_XB_routesOf_L4 bg bf fp fr zg 0 v k = 0 := by rw [f_XB_routesOf_L4_q]; rfl
noncomputable def g_XB_routesOf (bg : Int) (bf : Int) (fp : Int → Int) (fr : Int → Int) (zg : Int) : Int :=
  f_XB_routesOf_L4 bg bf fp fr zg (Int.toNat (30 - 0) + 1) zg 0
noncomputable def f_XB_routesOf : Int → Int → (Int → Int) → (Int → Int) → Int → Int := jopq g_XB_routesOf
theorem f_XB_routesOf_q : f_XB_routesOf = g_XB_routesOf := jopq_eq _
theorem f_XB_routesOf_s (bg : Int) (bf : Int) (fp : Int → Int) (fr : Int → Int) (zg : Int) : f_XB_routesOf bg bf fp fr zg = (
    f_XB_routesOf_L4 bg bf fp fr zg (Int.toNat (30 - 0) + 1) zg 0
  : Int) := by rw [f_XB_routesOf_q]; rfl
theorem f_XB_routesOf_L (bg bf : Int) (fp fr : Int → Int) (zg : Int) (hbr : ∀ i, 0 ≤ fr i ∧ fr i < 2147483648) : ∀ (n : Nat) (v k : Int), 0 ≤ f_XB_routesOf_L4 bg bf fp fr zg n v k ∧ f_XB_routesOf_L4 bg bf fp fr zg n v k < 2147483648 := by
  intro n
  induction n with
  | zero => intro v k; simp only [f_XB_routesOf_L4_z] <;> omega
  | succ n ih =>
    intro v k
    have h1 := hbr v
    rw [f_XB_routesOf_L4_s]
    (repeat' split) <;> first | omega | exact ih _ _
theorem f_XB_routesOf_b (bg : Int) (bf : Int) (fp : Int → Int) (fr : Int → Int) (zg : Int) (hbp : ∀ i, 0 ≤ fp i ∧ fp i ≤ 30) (hbr : ∀ i, 0 ≤ fr i ∧ fr i < 2147483648) (hzg : 0 ≤ zg ∧ zg ≤ 30) : 0 ≤ (f_XB_routesOf bg bf fp fr zg) ∧ (f_XB_routesOf bg bf fp fr zg) < 2147483648 := by rw [f_XB_routesOf_s]; exact f_XB_routesOf_L _ _ _ _ _ hbr _ _ _
set_option maxHeartbeats 4000000 in
set_option maxRecDepth 100000 in
theorem c_XB_routesOf (l : Launch) (dC : Nat → ClassId) (dI : Nat → Nat → Nat) (cA : ClassId) (ba : Nat) (bt : Nat) (bp : Nat) (bl : Nat) (bh : Nat) (bq : Nat) (br : Nat) (bd : Nat) (bg : Int) (bf : Int) (fp : Int → Int) (fr : Int → Int) (zg : Int) (hbp : ∀ i, 0 ≤ fp i ∧ fp i ≤ 30) (hbr : ∀ i, 0 ≤ fr i ∧ fr i < 2147483648) (hzg : 0 ≤ zg ∧ zg ≤ 30) : Met l yXB_routesOf (Cond.code yXB_routesOf cXB_routesOf 4 (some .int) :: TBL) ({ frames := 0, cells := 0, slots := 0, locals := 0 } : Room) (va_Pc [.ref ba, .int (jI zg)] (jB (dC, dI) [(cA, .int)] [(ba, .inr (0, [.ref bt, .ref bp, .ref bl, .ref bh, .ref bq, .ref br, .ref bd, .int (jI bg), .int (jI bf)])), (bp, .inl (cA, 31, .inl (jA fp))), (br, .inl (cA, 31, .inl (jA fr)))])) (vp_Si (fun r => r = jI (f_XB_routesOf bg bf fp fr zg))) 0 0 (fun _ => False) := by
  refine jMet (cc := cXB_routesOf) (maxL := 4) (ret := some .int) (by decide) rfl ?_
  intro p e s m args below meth c s₁ R Q hR hQ B hml hv
  obtain ⟨rfl, hP, hK, hN⟩ := hv
  have hx := B.exec
  have hb := B.bytes
  have hr := B.returns
  have hts := atoms_spec (ws := Cond.code yXB_routesOf cXB_routesOf 4 (some .int) :: TBL) B.pre
  have hown : s.vm.findClass RXB = some m.cls := findClass_of_methodNamed B.named
  have hlocks := B.notSynchronized
  have hP : va_P (dC, dI) vwCl [(ba, .inr (0, [.ref bt, .ref bp, .ref bl, .ref bh, .ref bq, .ref br, .ref bd, .int (jI bg), .int (jI bf)])), (bp, .inl (cA, 31, .inl (jA fp))), (br, .inl (cA, 31, .inl (jA fr)))] s.heap := hP
  have hl := lv_entry ([.ref ba, .int (jI zg)]) (n := 4) (Nat.le_of_ble_eq_true rfl)
  rw [lg_entry_eq]
  generalize (lg_sl ([.ref ba, .int (jI zg)]) ++ List.replicate (4 - (lg_sl ([.ref ba, .int (jI zg)])).length) Slot.unset).toArray = ls at hl ⊢
  have hl : lv_has ls 4 [(0, .ref ba), (1, .int (jI zg))] := hl
  refine lv_iload_n hx hb dXB_routesOf_0 rfl (lv_at hl 1 rfl) ?_
  refine lv_istore_n (lv' := [(2, .int (jI zg)), (0, .ref ba), (1, .int (jI zg))]) hx hb dXB_routesOf_1 rfl hl (by decide) rfl (fun ls hl => ?_)
  refine ji_iconst hx hb dXB_routesOf_2 ?_
  refine lv_istore_n (lv' := [(3, .int (jI 0)), (2, .int (jI zg)), (0, .ref ba), (1, .int (jI zg))]) hx hb dXB_routesOf_3 rfl hl (by decide) rfl (fun ls hl => ?_)
  have loop4 : ∀ (n9 : Nat) (v : Int) (k : Int) , 30 - k < (n9 : Int) → f_XB_routesOf_L4 bg bf fp fr zg n9 v k = f_XB_routesOf bg bf fp fr zg → (0 ≤ k ∧ k ≤ 30) → (0 ≤ v ∧ v ≤ 30) → ∀ ls : Array Slot, lv_has ls 4 [(3, .int (jI k)), (2, .int (jI v)), (0, .ref ba), (1, .int (jI zg))] → W p l e R s m ([.ref ba, .int (jI zg)] : List Value).toArray below meth c s.heap [] 0 0 Q (F0 m 4 ls []) := by
    intro n9
    induction n9 with
    | zero =>
      intro v k hm hF hk hv
      exact absurd hm (by omega)
    | succ n9 ih4 =>
      intro v k hm hF hk hv ls hl
      refine lv_iload_n hx hb dXB_routesOf_4 rfl (lv_at hl 0 rfl) ?_
      refine ji_bipush hx hb dXB_routesOf_5 (by decide) ?_
      refine ji_icmp_ge (tgt := 36) hx hb dXB_routesOf_7 (by decide) (by omega) (by omega) (fun c7_ => ?_) (fun c7_ => ?_)
      · refine lv_iload_n hx hb dXB_routesOf_36 rfl (lv_at hl 1 rfl) ?_
        refine ji_if_ne (tgt := 44) hx hb dXB_routesOf_37 (by decide) (by omega) (fun c37_ => ?_) (fun c37_ => ?_)
        · refine lv_aload_n hx hb dXB_routesOf_44 rfl (lv_at hl 2 rfl) ?_
          refine va_get (D := (dC, dI)) (ci := 0) (v := .ref br) (C := RXB) (T := TXB) (N := 9) hx hb hts (fun w h => jmem (inXB w h)) hown hK hP 0 rfl rfl 5 (by decide) (hts _ (jmem tw_78)) (fun _ h9 => h9) rfl dXB_routesOf_45 ?_
          refine lv_iload_n hx hb dXB_routesOf_48 rfl (lv_at hl 1 rfl) ?_
          refine ji_iald hx hb hK hP 2 0 rfl rfl ⟨by omega, by omega⟩ (by decide) dXB_routesOf_49 ?_
          have rb := hbr v
          subst hQ
          exact W.iret (v := jI (fr v)) hx hb hr (fun t ht hW => ⟨_, rfl, congrArg jI (Eq.trans (by rw [f_XB_routesOf_L4_s]; rw [if_neg (Int.not_lt.mpr c7_), if_neg c37_]; try rfl) hF), ht⟩) (fun _ h => nomatch h) dXB_routesOf_50
        · refine ji_iconst hx hb dXB_routesOf_40 ?_
          refine lv_goto (tgt := 50) hx hb dXB_routesOf_41 (by decide) ?_
          subst hQ
          exact W.iret (v := jI 0) hx hb hr (fun t ht hW => ⟨_, rfl, congrArg jI (Eq.trans (by rw [f_XB_routesOf_L4_s]; rw [if_neg (Int.not_lt.mpr c7_), if_pos c37_]; try rfl) hF), ht⟩) (fun _ h => nomatch h) dXB_routesOf_50
      · refine lv_iload_n hx hb dXB_routesOf_10 rfl (lv_at hl 1 rfl) ?_
        refine ji_if_le (tgt := 36) hx hb dXB_routesOf_11 (by decide) (by omega) (fun c11_ => ?_) (fun c11_ => ?_)
        · refine lv_iload_n hx hb dXB_routesOf_36 rfl (lv_at hl 1 rfl) ?_
          refine ji_if_ne (tgt := 44) hx hb dXB_routesOf_37 (by decide) (by omega) (fun c37_1 => ?_) (fun c37_1 => ?_)
          · refine lv_aload_n hx hb dXB_routesOf_44 rfl (lv_at hl 2 rfl) ?_
            refine va_get (D := (dC, dI)) (ci := 0) (v := .ref br) (C := RXB) (T := TXB) (N := 9) hx hb hts (fun w h => jmem (inXB w h)) hown hK hP 0 rfl rfl 5 (by decide) (hts _ (jmem tw_78)) (fun _ h9 => h9) rfl dXB_routesOf_45 ?_
            refine lv_iload_n hx hb dXB_routesOf_48 rfl (lv_at hl 1 rfl) ?_
            refine ji_iald hx hb hK hP 2 0 rfl rfl ⟨by omega, by omega⟩ (by decide) dXB_routesOf_49 ?_
            have rb2 := hbr v
            subst hQ
            exact W.iret (v := jI (fr v)) hx hb hr (fun t ht hW => ⟨_, rfl, congrArg jI (Eq.trans (by rw [f_XB_routesOf_L4_s]; rw [if_pos c7_, if_neg (Int.not_lt.mpr c11_), if_neg c37_1]; try rfl) hF), ht⟩) (fun _ h => nomatch h) dXB_routesOf_50
          · refine ji_iconst hx hb dXB_routesOf_40 ?_
            refine lv_goto (tgt := 50) hx hb dXB_routesOf_41 (by decide) ?_
            subst hQ
            exact W.iret (v := jI 0) hx hb hr (fun t ht hW => ⟨_, rfl, congrArg jI (Eq.trans (by rw [f_XB_routesOf_L4_s]; rw [if_pos c7_, if_neg (Int.not_lt.mpr c11_), if_pos c37_1]; try rfl) hF), ht⟩) (fun _ h => nomatch h) dXB_routesOf_50
        · refine lv_aload_n hx hb dXB_routesOf_14 rfl (lv_at hl 2 rfl) ?_
          refine va_get (D := (dC, dI)) (ci := 0) (v := .ref br) (C := RXB) (T := TXB) (N := 9) hx hb hts (fun w h => jmem (inXB w h)) hown hK hP 0 rfl rfl 5 (by decide) (hts _ (jmem tw_78)) (fun _ h9 => h9) rfl dXB_routesOf_15 ?_
          refine lv_iload_n hx hb dXB_routesOf_18 rfl (lv_at hl 1 rfl) ?_
          refine ji_iald hx hb hK hP 2 0 rfl rfl ⟨by omega, by omega⟩ (by decide) dXB_routesOf_19 ?_
          have rb3 := hbr v
          refine ji_if_ne (tgt := 36) hx hb dXB_routesOf_20 (by decide) (by omega) (fun c20_ => ?_) (fun c20_ => ?_)
          · refine lv_iload_n hx hb dXB_routesOf_36 rfl (lv_at hl 1 rfl) ?_
            refine ji_if_ne (tgt := 44) hx hb dXB_routesOf_37 (by decide) (by omega) (fun c37_4 => ?_) (fun c37_4 => ?_)
            · refine lv_aload_n hx hb dXB_routesOf_44 rfl (lv_at hl 2 rfl) ?_
              refine va_get (D := (dC, dI)) (ci := 0) (v := .ref br) (C := RXB) (T := TXB) (N := 9) hx hb hts (fun w h => jmem (inXB w h)) hown hK hP 0 rfl rfl 5 (by decide) (hts _ (jmem tw_78)) (fun _ h9 => h9) rfl dXB_routesOf_45 ?_
              refine lv_iload_n hx hb dXB_routesOf_48 rfl (lv_at hl 1 rfl) ?_
              refine ji_iald hx hb hK hP 2 0 rfl rfl ⟨by omega, by omega⟩ (by decide) dXB_routesOf_49 ?_
              have rb5 := hbr v
              subst hQ
              exact W.iret (v := jI (fr v)) hx hb hr (fun t ht hW => ⟨_, rfl, congrArg jI (Eq.trans (by rw [f_XB_routesOf_L4_s]; rw [if_pos c7_, if_pos c11_, if_neg c20_, if_neg c37_4]; try rfl) hF), ht⟩) (fun _ h => nomatch h) dXB_routesOf_50
            · refine ji_iconst hx hb dXB_routesOf_40 ?_
              refine lv_goto (tgt := 50) hx hb dXB_routesOf_41 (by decide) ?_
              subst hQ
              exact W.iret (v := jI 0) hx hb hr (fun t ht hW => ⟨_, rfl, congrArg jI (Eq.trans (by rw [f_XB_routesOf_L4_s]; rw [if_pos c7_, if_pos c11_, if_neg c20_, if_pos c37_4]; try rfl) hF), ht⟩) (fun _ h => nomatch h) dXB_routesOf_50
          · refine lv_aload_n hx hb dXB_routesOf_23 rfl (lv_at hl 2 rfl) ?_
            refine va_get (D := (dC, dI)) (ci := 0) (v := .ref bp) (C := RXB) (T := TXB) (N := 9) hx hb hts (fun w h => jmem (inXB w h)) hown hK hP 0 rfl rfl 1 (by decide) (hts _ (jmem tw_74)) (fun _ h9 => h9) rfl dXB_routesOf_24 ?_
            refine lv_iload_n hx hb dXB_routesOf_27 rfl (lv_at hl 1 rfl) ?_
            refine ji_iald hx hb hK hP 1 0 rfl rfl ⟨by omega, by omega⟩ (by decide) dXB_routesOf_28 ?_
            have rb6 := hbp v
            refine lv_istore_n (lv' := [(2, .int (jI (fp v))), (3, .int (jI k)), (0, .ref ba), (1, .int (jI zg))]) hx hb dXB_routesOf_29 rfl hl (by decide) rfl (fun ls hl => ?_)
            refine ji_iinc (k := 1) (lv' := [(3, .int (jI (k + 1))), (2, .int (jI (fp v))), (0, .ref ba), (1, .int (jI zg))]) hx hb dXB_routesOf_30 hl rfl (by decide) rfl (fun ls hl => ?_)
            refine lv_goto (tgt := 4) hx hb dXB_routesOf_33 (by decide) ?_
            exact ih4 (fp v) (k + 1) (by omega) (Eq.trans (by rw [f_XB_routesOf_L4_s]; rw [if_pos c7_, if_pos c11_, if_pos c20_]; try rfl) hF) (by first | assumption | omega) (by first | assumption | omega) ls (lv_sub hl [0, 1, 2, 3] rfl)
  exact loop4 (Int.toNat (30 - 0) + 1) zg 0 (by omega) (Eq.trans (by rw [f_XB_routesOf_s]; try rfl) rfl) (by first | assumption | omega) (by first | assumption | omega) ls (lv_sub hl [0, 1, 2, 3] rfl)
