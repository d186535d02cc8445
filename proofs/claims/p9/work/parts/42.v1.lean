/-! arrays filled, copied -/
def kfill (f : Int → Int) (a b v : Int) : Int → Int := fun i => if a ≤ i ∧ i < b then v else f i
def kcp (f : Int → Int) (n k : Int) : Int → Int := fun i => if 0 ≤ i ∧ i < k then f (n + i) else f i
theorem kfill_zero (f : Int → Int) (a v : Int) : kfill f a a v = f := by
  funext i; unfold kfill; rw [if_neg (by omega)]
theorem kfill_step (f : Int → Int) (a b v : Int) (h : a ≤ b) : jset (kfill f a b v) b v = kfill f a (b + 1) v := by
  funext i; unfold jset kfill
  by_cases q : i = b
  · rw [if_pos q, if_pos (by omega)]
  · rw [if_neg q]
    by_cases r : a ≤ i ∧ i < b
    · rw [if_pos r, if_pos (by omega)]
    · rw [if_neg r, if_neg (by omega)]
theorem kfill_b (f : Int → Int) (a b v lo hi : Int) (hf : ∀ i, lo ≤ f i ∧ f i ≤ hi) (hv : lo ≤ v ∧ v ≤ hi) : ∀ i, lo ≤ kfill f a b v i ∧ kfill f a b v i ≤ hi := by
  intro i; unfold kfill; split
  · exact hv
  · exact hf i
theorem kfill_l {f : Int → Int} {a b v c : Int} (h : c ≤ a) : ∀ i, i < c → kfill f a b v i = f i := by
  intro i hi; unfold kfill; rw [if_neg (by omega)]
theorem kcp_zero (f : Int → Int) (n : Int) : kcp f n 0 = f := by
  funext i; unfold kcp; rw [if_neg (by omega)]
theorem kcp_step (f : Int → Int) (n k : Int) (h : 0 ≤ k ∧ k < n) : jset (kcp f n k) k (kcp f n k (n + k)) = kcp f n (k + 1) := by
  have e1 : kcp f n k (n + k) = f (n + k) := by unfold kcp; rw [if_neg (by omega)]
  rw [e1]
  funext i; unfold jset kcp
  by_cases q : i = k
  · rw [if_pos q, if_pos (by omega), q]
  · rw [if_neg q]
    by_cases r : 0 ≤ i ∧ i < k
    · rw [if_pos r, if_pos (by omega)]
    · rw [if_neg r, if_neg (by omega)]
theorem kcp_b (f : Int → Int) (n k lo hi : Int) (hf : ∀ i, lo ≤ f i ∧ f i ≤ hi) : ∀ i, lo ≤ kcp f n k i ∧ kcp f n k i ≤ hi := by
  intro i; unfold kcp; split
  · exact hf (n + i)
  · exact hf i
set_option maxHeartbeats 4000000 in
set_option maxRecDepth 100000 in
theorem c_XM_forgetC (l : Launch) (dC : Nat → ClassId) (dI : Nat → Nat → Nat) (cA cZ : ClassId) (sz : Nat) (ma : Nat) (a0 : Nat) (a1 : Nat) (a2 : Nat) (a3 : Nat) (a4 : Nat) (a5 : Nat) (a6 : Nat) (a7 : Nat) (a8 : Nat) (a9 : Nat) (a10 : Nat) (a11 : Nat) (mth : Int) (mn : Int) (mp : Int) (mw : Int) (mu : Int) (md : Int) (mo : Int) (y1 : Int → Int) (y2 : Int → Int) (y3 : Int → Int) (y6 : Int → Int) (y7 : Int → Int) (y8 : Int → Int) (y9 : Int → Int) (z1 : Int) (hz1 : 0 ≤ z1 ∧ z1 ≤ 1) : Met l yXM_forget (Cond.code yXM_forget cXM_forget 4 none :: TBL) ({ frames := 0, cells := 0, slots := 0, locals := 0 } : Room) (va_Pc [.ref ma, .int (jI z1)] (jBw (dC, dI) [(cA, .int), (cZ, .boolean)] [(ma, .inr (5, [.int (jI mth), .int (jI mn), .ref a0, .int (jI mp), .int (jI mw), .ref a1, .ref a2, .ref a3, .ref a4, .ref a5, .ref a6, .ref a7, .ref a8, .ref a9, .ref a10, .long (jL mu), .long (jL md), .int (jI mo), .ref a11])), (a1, .inl (cZ, 62, .inl (jA y1))), (a2, .inl (cA, 62, .inl (jA y2))), (a3, .inl (cZ, 496, .inl (jA y3))), (a6, .inl (cA, 62, .inl (jA y6))), (a7, .inl (cA, 248, .inl (jA y7))), (a8, .inl (cZ, 8, .inl (jA y8))), (a9, .inl (cA, 64, .inl (jA y9)))] sz)) (va_Qv (fun (u : (Int → Int) × (Int → Int) × (Int → Int) × (Int → Int) × (Int → Int) × (Int → Int) × (Int → Int)) => (u.1 = kfill y1 (31 * z1) (31 * z1 + 31) 0) ∧ (u.2.1 = kfill y2 (31 * z1) (31 * z1 + 31) 0) ∧ (u.2.2.1 = kfill y3 (248 * z1) (248 * z1 + 248) 0) ∧ (u.2.2.2.1 = kfill y6 (31 * z1) (31 * z1 + 31) 0) ∧ (u.2.2.2.2.1 = kfill y7 (124 * z1) (124 * z1 + 124) (-1)) ∧ (u.2.2.2.2.2.1 = kfill y8 (4 * z1) (4 * z1 + 4) 0) ∧ (u.2.2.2.2.2.2 = kfill y9 (32 * z1) (32 * z1 + 32) 0)) (fun u t => jE (dC, dI) [(cA, .int), (cZ, .boolean)] [(ma, .inr (5, [.int (jI mth), .int (jI mn), .ref a0, .int (jI mp), .int (jI mw), .ref a1, .ref a2, .ref a3, .ref a4, .ref a5, .ref a6, .ref a7, .ref a8, .ref a9, .ref a10, .long (jL mu), .long (jL md), .int (jI mo), .ref a11])), (a1, .inl (cZ, 62, .inl (jA y1))), (a2, .inl (cA, 62, .inl (jA y2))), (a3, .inl (cZ, 496, .inl (jA y3))), (a6, .inl (cA, 62, .inl (jA y6))), (a7, .inl (cA, 248, .inl (jA y7))), (a8, .inl (cZ, 8, .inl (jA y8))), (a9, .inl (cA, 64, .inl (jA y9)))] sz [(ma, .inr (5, [.int (jI mth), .int (jI mn), .ref a0, .int (jI mp), .int (jI mw), .ref a1, .ref a2, .ref a3, .ref a4, .ref a5, .ref a6, .ref a7, .ref a8, .ref a9, .ref a10, .long (jL mu), .long (jL md), .int (jI mo), .ref a11])), (a1, .inl (cZ, 62, .inl (jA u.1))), (a2, .inl (cA, 62, .inl (jA u.2.1))), (a3, .inl (cZ, 496, .inl (jA u.2.2.1))), (a6, .inl (cA, 62, .inl (jA u.2.2.2.1))), (a7, .inl (cA, 248, .inl (jA u.2.2.2.2.1))), (a8, .inl (cZ, 8, .inl (jA u.2.2.2.2.2.1))), (a9, .inl (cA, 64, .inl (jA u.2.2.2.2.2.2)))] t) (va_A [(ma, .inr (5, [.int (jI mth), .int (jI mn), .ref a0, .int (jI mp), .int (jI mw), .ref a1, .ref a2, .ref a3, .ref a4, .ref a5, .ref a6, .ref a7, .ref a8, .ref a9, .ref a10, .long (jL mu), .long (jL md), .int (jI mo), .ref a11])), (a1, .inl (cZ, 62, .inl (jA y1))), (a2, .inl (cA, 62, .inl (jA y2))), (a3, .inl (cZ, 496, .inl (jA y3))), (a6, .inl (cA, 62, .inl (jA y6))), (a7, .inl (cA, 248, .inl (jA y7))), (a8, .inl (cZ, 8, .inl (jA y8))), (a9, .inl (cA, 64, .inl (jA y9)))] sz)) 0 0 (va_A [(ma, .inr (5, [.int (jI mth), .int (jI mn), .ref a0, .int (jI mp), .int (jI mw), .ref a1, .ref a2, .ref a3, .ref a4, .ref a5, .ref a6, .ref a7, .ref a8, .ref a9, .ref a10, .long (jL mu), .long (jL md), .int (jI mo), .ref a11])), (a1, .inl (cZ, 62, .inl (jA y1))), (a2, .inl (cA, 62, .inl (jA y2))), (a3, .inl (cZ, 496, .inl (jA y3))), (a6, .inl (cA, 62, .inl (jA y6))), (a7, .inl (cA, 248, .inl (jA y7))), (a8, .inl (cZ, 8, .inl (jA y8))), (a9, .inl (cA, 64, .inl (jA y9)))] sz) := by
  refine jMet (cc := cXM_forget) (maxL := 4) (ret := none) (by decide) rfl ?_
  intro p e s m args below meth c s₁ R Q hR hQ B hml hv
  obtain ⟨rfl, hsz, hP, hK, hD0, hN⟩ := hv
  have hx := B.exec
  have hb := B.bytes
  have hr := B.returns
  have hts := atoms_spec (ws := Cond.code yXM_forget cXM_forget 4 none :: TBL) B.pre
  have hown : s.vm.findClass RXM = some m.cls := findClass_of_methodNamed B.named
  have hlocks := B.notSynchronized
  subst hsz
  obtain ⟨A, hAe⟩ : ∃ A, A = va_A [(ma, .inr (5, [.int (jI mth), .int (jI mn), .ref a0, .int (jI mp), .int (jI mw), .ref a1, .ref a2, .ref a3, .ref a4, .ref a5, .ref a6, .ref a7, .ref a8, .ref a9, .ref a10, .long (jL mu), .long (jL md), .int (jI mo), .ref a11])), (a1, .inl (cZ, 62, .inl (jA y1))), (a2, .inl (cA, 62, .inl (jA y2))), (a3, .inl (cZ, 496, .inl (jA y3))), (a6, .inl (cA, 62, .inl (jA y6))), (a7, .inl (cA, 248, .inl (jA y7))), (a8, .inl (cZ, 8, .inl (jA y8))), (a9, .inl (cA, 64, .inl (jA y9)))] s.heap.size := ⟨_, rfl⟩
  have hD : va_D A [(ma, .inr (5, [.int (jI mth), .int (jI mn), .ref a0, .int (jI mp), .int (jI mw), .ref a1, .ref a2, .ref a3, .ref a4, .ref a5, .ref a6, .ref a7, .ref a8, .ref a9, .ref a10, .long (jL mu), .long (jL md), .int (jI mo), .ref a11])), (a1, .inl (cZ, 62, .inl (jA y1))), (a2, .inl (cA, 62, .inl (jA y2))), (a3, .inl (cZ, 496, .inl (jA y3))), (a6, .inl (cA, 62, .inl (jA y6))), (a7, .inl (cA, 248, .inl (jA y7))), (a8, .inl (cZ, 8, .inl (jA y8))), (a9, .inl (cA, 64, .inl (jA y9)))] := by rw [hAe]; exact hD0.self
  have hA : ∀ q : Nat, s.heap.size ≤ q → A q := fun q h => by rw [hAe]; exact Or.inr h
  have hS : va_S A s.heap s.heap [] := va_S.rf
  have hP : va_P (dC, dI) vwCl [(ma, .inr (5, [.int (jI mth), .int (jI mn), .ref a0, .int (jI mp), .int (jI mw), .ref a1, .ref a2, .ref a3, .ref a4, .ref a5, .ref a6, .ref a7, .ref a8, .ref a9, .ref a10, .long (jL mu), .long (jL md), .int (jI mo), .ref a11])), (a1, .inl (cZ, 62, .inl (jA y1))), (a2, .inl (cA, 62, .inl (jA y2))), (a3, .inl (cZ, 496, .inl (jA y3))), (a6, .inl (cA, 62, .inl (jA y6))), (a7, .inl (cA, 248, .inl (jA y7))), (a8, .inl (cZ, 8, .inl (jA y8))), (a9, .inl (cA, 64, .inl (jA y9)))] s.heap := hP
  have hl := lv_entry ([.ref ma, .int (jI z1)]) (n := 4) (Nat.le_of_ble_eq_true rfl)
  rw [lg_entry_eq]
  generalize (lg_sl ([.ref ma, .int (jI z1)]) ++ List.replicate (4 - (lg_sl ([.ref ma, .int (jI z1)])).length) Slot.unset).toArray = ls at hl ⊢
  have hl : lv_has ls 4 [(0, .ref ma), (1, .int (jI z1))] := hl
  refine ji_bipush hx hb dXM_forget_0 (by decide) ?_
  refine lv_iload_n hx hb dXM_forget_2 rfl (lv_at hl 1 rfl) ?_
  refine ji_imul hx hb dXM_forget_3 ?_
  refine lv_istore_n (lv' := [(2, .int (jI (31 * z1))), (0, .ref ma), (1, .int (jI z1))]) hx hb dXM_forget_4 rfl hl (by decide) rfl (fun ls hl => ?_)
  have loop5 : ∀ (n9 : Nat) (k : Int) (w1a : Int → Int) (w2a : Int → Int) (w3a : Int → Int) (w6a : Int → Int) (w7a : Int → Int) , 31 * (z1 + 1) - k < (n9 : Int) → (31 * z1 ≤ k ∧ k ≤ 31 * (z1 + 1)) → (w1a = kfill y1 (31 * z1) (k) 0) → (w2a = kfill y2 (31 * z1) (k) 0) → (w6a = kfill y6 (31 * z1) (k) 0) → (w3a = kfill y3 (248 * z1) (8 * k) 0) → (w7a = kfill y7 (124 * z1) (4 * k) (-1)) → ∀ (H : Heap) (locs : List Loc), va_P (dC, dI) vwCl [(ma, .inr (5, [.int (jI mth), .int (jI mn), .ref a0, .int (jI mp), .int (jI mw), .ref a1, .ref a2, .ref a3, .ref a4, .ref a5, .ref a6, .ref a7, .ref a8, .ref a9, .ref a10, .long (jL mu), .long (jL md), .int (jI mo), .ref a11])), (a1, .inl (cZ, 62, .inl (jA w1a))), (a2, .inl (cA, 62, .inl (jA w2a))), (a3, .inl (cZ, 496, .inl (jA w3a))), (a6, .inl (cA, 62, .inl (jA w6a))), (a7, .inl (cA, 248, .inl (jA w7a))), (a8, .inl (cZ, 8, .inl (jA y8))), (a9, .inl (cA, 64, .inl (jA y9)))] H → va_D A [(ma, .inr (5, [.int (jI mth), .int (jI mn), .ref a0, .int (jI mp), .int (jI mw), .ref a1, .ref a2, .ref a3, .ref a4, .ref a5, .ref a6, .ref a7, .ref a8, .ref a9, .ref a10, .long (jL mu), .long (jL md), .int (jI mo), .ref a11])), (a1, .inl (cZ, 62, .inl (jA w1a))), (a2, .inl (cA, 62, .inl (jA w2a))), (a3, .inl (cZ, 496, .inl (jA w3a))), (a6, .inl (cA, 62, .inl (jA w6a))), (a7, .inl (cA, 248, .inl (jA w7a))), (a8, .inl (cZ, 8, .inl (jA y8))), (a9, .inl (cA, 64, .inl (jA y9)))] → va_S A s.heap H locs → ∀ ls : Array Slot, lv_has ls 4 [(2, .int (jI k)), (0, .ref ma), (1, .int (jI z1))] → W p l e R s m ([.ref ma, .int (jI z1)] : List Value).toArray below meth c H locs 0 0 Q (F0 m 5 ls []) := by
    intro n9
    induction n9 with
    | zero =>
      intro k w1a w2a w3a w6a w7a hm hk e1 e2 e6 e3 e7
      exact absurd hm (by omega)
    | succ n9 ih5 =>
      intro k w1a w2a w3a w6a w7a hm hk e1 e2 e6 e3 e7 H locs hP hD hS ls hl
      refine lv_iload_n hx hb dXM_forget_5 rfl (lv_at hl 0 rfl) ?_
      refine ji_bipush hx hb dXM_forget_6 (by decide) ?_
      refine lv_iload_n hx hb dXM_forget_8 rfl (lv_at hl 2 rfl) ?_
      refine ji_iconst hx hb dXM_forget_9 ?_
      refine ji_iadd hx hb dXM_forget_10 ?_
      refine ji_imul hx hb dXM_forget_11 ?_
      refine ji_icmp_ge (tgt := 92) hx hb dXM_forget_12 (by decide) (by first | omega | decide) (by first | omega | decide) (fun c12_ => ?_) (fun c12_ => ?_)
      · refine ji_iconst hx hb dXM_forget_92 ?_
        refine lv_iload_n hx hb dXM_forget_93 rfl (lv_at hl 2 rfl) ?_
        refine ji_imul hx hb dXM_forget_94 ?_
        refine lv_istore_n (lv' := [(2, .int (jI (4 * z1))), (0, .ref ma), (1, .int (jI z1))]) hx hb dXM_forget_95 rfl hl (by decide) rfl (fun ls hl => ?_)
        have loop96 : ∀ (n9 : Nat) (k5 : Int) (w8d : Int → Int) (w9d : Int → Int) , 4 * (z1 + 1) - k5 < (n9 : Int) → (4 * z1 ≤ k5 ∧ k5 ≤ 4 * (z1 + 1)) → (w8d = kfill y8 (4 * z1) (k5) 0) → (w9d = kfill y9 (32 * z1) (8 * k5) 0) → ∀ (H : Heap) (locs : List Loc), va_P (dC, dI) vwCl [(ma, .inr (5, [.int (jI mth), .int (jI mn), .ref a0, .int (jI mp), .int (jI mw), .ref a1, .ref a2, .ref a3, .ref a4, .ref a5, .ref a6, .ref a7, .ref a8, .ref a9, .ref a10, .long (jL mu), .long (jL md), .int (jI mo), .ref a11])), (a1, .inl (cZ, 62, .inl (jA w1a))), (a2, .inl (cA, 62, .inl (jA w2a))), (a3, .inl (cZ, 496, .inl (jA w3a))), (a6, .inl (cA, 62, .inl (jA w6a))), (a7, .inl (cA, 248, .inl (jA w7a))), (a8, .inl (cZ, 8, .inl (jA w8d))), (a9, .inl (cA, 64, .inl (jA w9d)))] H → va_D A [(ma, .inr (5, [.int (jI mth), .int (jI mn), .ref a0, .int (jI mp), .int (jI mw), .ref a1, .ref a2, .ref a3, .ref a4, .ref a5, .ref a6, .ref a7, .ref a8, .ref a9, .ref a10, .long (jL mu), .long (jL md), .int (jI mo), .ref a11])), (a1, .inl (cZ, 62, .inl (jA w1a))), (a2, .inl (cA, 62, .inl (jA w2a))), (a3, .inl (cZ, 496, .inl (jA w3a))), (a6, .inl (cA, 62, .inl (jA w6a))), (a7, .inl (cA, 248, .inl (jA w7a))), (a8, .inl (cZ, 8, .inl (jA w8d))), (a9, .inl (cA, 64, .inl (jA w9d)))] → va_S A s.heap H locs → ∀ ls : Array Slot, lv_has ls 4 [(2, .int (jI k5)), (0, .ref ma), (1, .int (jI z1))] → W p l e R s m ([.ref ma, .int (jI z1)] : List Value).toArray below meth c H locs 0 0 Q (F0 m 96 ls []) := by
          intro n9
          induction n9 with
          | zero =>
            intro k5 w8d w9d hm hk5 e8 e9
            exact absurd hm (by omega)
          | succ n9 ih96 =>
            intro k5 w8d w9d hm hk5 e8 e9 H locs hP hD hS ls hl
            refine lv_iload_n hx hb dXM_forget_96 rfl (lv_at hl 0 rfl) ?_
            refine ji_iconst hx hb dXM_forget_97 ?_
            refine lv_iload_n hx hb dXM_forget_98 rfl (lv_at hl 2 rfl) ?_
            refine ji_iconst hx hb dXM_forget_99 ?_
            refine ji_iadd hx hb dXM_forget_100 ?_
            refine ji_imul hx hb dXM_forget_101 ?_
            refine ji_icmp_ge (tgt := 144) hx hb dXM_forget_102 (by decide) (by first | omega | decide) (by first | omega | decide) (fun c102_ => ?_) (fun c102_ => ?_)
            · have hP9 := hP.sub (ws' := [(ma, .inr (5, [.int (jI mth), .int (jI mn), .ref a0, .int (jI mp), .int (jI mw), .ref a1, .ref a2, .ref a3, .ref a4, .ref a5, .ref a6, .ref a7, .ref a8, .ref a9, .ref a10, .long (jL mu), .long (jL md), .int (jI mo), .ref a11])), (a1, .inl (cZ, 62, .inl (jA w1a))), (a2, .inl (cA, 62, .inl (jA w2a))), (a3, .inl (cZ, 496, .inl (jA w3a))), (a6, .inl (cA, 62, .inl (jA w6a))), (a7, .inl (cA, 248, .inl (jA w7a))), (a8, .inl (cZ, 8, .inl (jA w8d))), (a9, .inl (cA, 64, .inl (jA w9d)))]) [0, 1, 2, 3, 4, 5, 6, 7] rfl
              have hD9 := hD.sub (ws' := [(ma, .inr (5, [.int (jI mth), .int (jI mn), .ref a0, .int (jI mp), .int (jI mw), .ref a1, .ref a2, .ref a3, .ref a4, .ref a5, .ref a6, .ref a7, .ref a8, .ref a9, .ref a10, .long (jL mu), .long (jL md), .int (jI mo), .ref a11])), (a1, .inl (cZ, 62, .inl (jA w1a))), (a2, .inl (cA, 62, .inl (jA w2a))), (a3, .inl (cZ, 496, .inl (jA w3a))), (a6, .inl (cA, 62, .inl (jA w6a))), (a7, .inl (cA, 248, .inl (jA w7a))), (a8, .inl (cZ, 8, .inl (jA w8d))), (a9, .inl (cA, 64, .inl (jA w9d)))]) [0, 1, 2, 3, 4, 5, 6, 7] (by decide) rfl
              subst hAe
              subst hQ
              exact W.vret hx hb hr (fun t ht hW => ⟨⟨(w1a, w2a, w3a, w6a, w7a, w8d, w9d), rfl, ⟨(show w1a = kfill y1 (31 * z1) (31 * z1 + 31) 0 from by rw [e1, show k = 31 * z1 + 31 by omega]), (show w2a = kfill y2 (31 * z1) (31 * z1 + 31) 0 from by rw [e2, show k = 31 * z1 + 31 by omega]), (show w3a = kfill y3 (248 * z1) (248 * z1 + 248) 0 from by rw [e3, show 8 * k = 248 * z1 + 248 by omega]), (show w6a = kfill y6 (31 * z1) (31 * z1 + 31) 0 from by rw [e6, show k = 31 * z1 + 31 by omega]), (show w7a = kfill y7 (124 * z1) (124 * z1 + 124) (-1) from by rw [e7, show 4 * k = 124 * z1 + 124 by omega]), (show w8d = kfill y8 (4 * z1) (4 * z1 + 4) 0 from by rw [e8, show k5 = 4 * z1 + 4 by omega]), (show w9d = kfill y9 (32 * z1) (32 * z1 + 32) 0 from by rw [e9, show 8 * k5 = 32 * z1 + 32 by omega])⟩, ⟨by rw [ht]; exact hP9, va_K.moved hW.alike hK, hD9⟩⟩, hS.F ht⟩) hS.2.2 dXM_forget_144
            · refine lv_aload_n hx hb dXM_forget_105 rfl (lv_at hl 1 rfl) ?_
              refine va_get (D := (dC, dI)) (ci := 5) (v := .ref a8) (C := RXM) (T := TXM) (N := 19) hx hb hts (fun w h => jmem (inXM w h)) hown hK hP 0 rfl rfl 12 (by decide) (hts _ (jmem tw_640)) (fun _ h9 => h9) rfl dXM_forget_106 ?_
              refine lv_iload_n hx hb dXM_forget_109 rfl (lv_at hl 0 rfl) ?_
              refine ji_iconst hx hb dXM_forget_110 ?_
              refine ji_zast hx hb hK hP hD hS 6 1 rfl rfl (by first | decide | omega) ⟨by omega, by omega⟩ (by decide) dXM_forget_111 (fun H locs hP hD hS => ?_)
              have hP : va_P (dC, dI) vwCl [(ma, .inr (5, [.int (jI mth), .int (jI mn), .ref a0, .int (jI mp), .int (jI mw), .ref a1, .ref a2, .ref a3, .ref a4, .ref a5, .ref a6, .ref a7, .ref a8, .ref a9, .ref a10, .long (jL mu), .long (jL md), .int (jI mo), .ref a11])), (a1, .inl (cZ, 62, .inl (jA w1a))), (a2, .inl (cA, 62, .inl (jA w2a))), (a3, .inl (cZ, 496, .inl (jA w3a))), (a6, .inl (cA, 62, .inl (jA w6a))), (a7, .inl (cA, 248, .inl (jA w7a))), (a8, .inl (cZ, 8, .inl (jA (jset w8d k5 0)))), (a9, .inl (cA, 64, .inl (jA w9d)))] H := hP
              have hD : va_D A [(ma, .inr (5, [.int (jI mth), .int (jI mn), .ref a0, .int (jI mp), .int (jI mw), .ref a1, .ref a2, .ref a3, .ref a4, .ref a5, .ref a6, .ref a7, .ref a8, .ref a9, .ref a10, .long (jL mu), .long (jL md), .int (jI mo), .ref a11])), (a1, .inl (cZ, 62, .inl (jA w1a))), (a2, .inl (cA, 62, .inl (jA w2a))), (a3, .inl (cZ, 496, .inl (jA w3a))), (a6, .inl (cA, 62, .inl (jA w6a))), (a7, .inl (cA, 248, .inl (jA w7a))), (a8, .inl (cZ, 8, .inl (jA (jset w8d k5 0)))), (a9, .inl (cA, 64, .inl (jA w9d)))] := hD
              refine ji_iconst hx hb dXM_forget_112 ?_
              refine lv_istore_n (lv' := [(3, .int (jI 0)), (2, .int (jI k5)), (0, .ref ma), (1, .int (jI z1))]) hx hb dXM_forget_113 rfl hl (by decide) rfl (fun ls hl => ?_)
              have loop114 : ∀ (n9 : Nat) (k6 : Int) (w9e : Int → Int) , 8 - k6 < (n9 : Int) → (0 ≤ k6 ∧ k6 ≤ 8) → (w9e = kfill y9 (32 * z1) (8 * k5 + k6) 0) → ∀ (H : Heap) (locs : List Loc), va_P (dC, dI) vwCl [(ma, .inr (5, [.int (jI mth), .int (jI mn), .ref a0, .int (jI mp), .int (jI mw), .ref a1, .ref a2, .ref a3, .ref a4, .ref a5, .ref a6, .ref a7, .ref a8, .ref a9, .ref a10, .long (jL mu), .long (jL md), .int (jI mo), .ref a11])), (a1, .inl (cZ, 62, .inl (jA w1a))), (a2, .inl (cA, 62, .inl (jA w2a))), (a3, .inl (cZ, 496, .inl (jA w3a))), (a6, .inl (cA, 62, .inl (jA w6a))), (a7, .inl (cA, 248, .inl (jA w7a))), (a8, .inl (cZ, 8, .inl (jA (jset w8d k5 0)))), (a9, .inl (cA, 64, .inl (jA w9e)))] H → va_D A [(ma, .inr (5, [.int (jI mth), .int (jI mn), .ref a0, .int (jI mp), .int (jI mw), .ref a1, .ref a2, .ref a3, .ref a4, .ref a5, .ref a6, .ref a7, .ref a8, .ref a9, .ref a10, .long (jL mu), .long (jL md), .int (jI mo), .ref a11])), (a1, .inl (cZ, 62, .inl (jA w1a))), (a2, .inl (cA, 62, .inl (jA w2a))), (a3, .inl (cZ, 496, .inl (jA w3a))), (a6, .inl (cA, 62, .inl (jA w6a))), (a7, .inl (cA, 248, .inl (jA w7a))), (a8, .inl (cZ, 8, .inl (jA (jset w8d k5 0)))), (a9, .inl (cA, 64, .inl (jA w9e)))] → va_S A s.heap H locs → ∀ ls : Array Slot, lv_has ls 4 [(3, .int (jI k6)), (2, .int (jI k5)), (0, .ref ma), (1, .int (jI z1))] → W p l e R s m ([.ref ma, .int (jI z1)] : List Value).toArray below meth c H locs 0 0 Q (F0 m 114 ls []) := by
                intro n9
                induction n9 with
                | zero =>
                  intro k6 w9e hm hk6 g9
                  exact absurd hm (by omega)
                | succ n9 ih114 =>
                  intro k6 w9e hm hk6 g9 H locs hP hD hS ls hl
                  refine lv_iload_n hx hb dXM_forget_114 rfl (lv_at hl 0 rfl) ?_
                  refine ji_bipush hx hb dXM_forget_115 (by decide) ?_
                  refine ji_icmp_ge (tgt := 138) hx hb dXM_forget_117 (by decide) (by first | omega | decide) (by first | omega | decide) (fun c117_ => ?_) (fun c117_ => ?_)
                  · refine ji_iinc (k := 1) (lv' := [(2, .int (jI (k5 + 1))), (3, .int (jI k6)), (0, .ref ma), (1, .int (jI z1))]) hx hb dXM_forget_138 hl rfl (by decide) rfl (fun ls hl => ?_)
                    refine lv_goto (tgt := 96) hx hb dXM_forget_141 (by decide) ?_
                    exact ih96 (k5 + 1) (jset w8d k5 0) w9e (by omega) (by first | assumption | omega | exact jset_b (by assumption) (by omega)) (by rw [e8]; exact kfill_step _ _ _ _ (by omega)) (by rw [g9, show 8 * k5 + k6 = 8 * (k5 + 1) by omega]) _ _ hP hD hS ls (lv_sub hl [0, 2, 3] rfl)
                  · refine lv_aload_n hx hb dXM_forget_120 rfl (lv_at hl 2 rfl) ?_
                    refine va_get (D := (dC, dI)) (ci := 5) (v := .ref a9) (C := RXM) (T := TXM) (N := 19) hx hb hts (fun w h => jmem (inXM w h)) hown hK hP 0 rfl rfl 13 (by decide) (hts _ (jmem tw_641)) (fun _ h9 => h9) rfl dXM_forget_121 ?_
                    refine ji_bipush hx hb dXM_forget_124 (by decide) ?_
                    refine lv_iload_n hx hb dXM_forget_126 rfl (lv_at hl 1 rfl) ?_
                    refine ji_imul hx hb dXM_forget_127 ?_
                    refine lv_iload_n hx hb dXM_forget_128 rfl (lv_at hl 0 rfl) ?_
                    refine ji_iadd hx hb dXM_forget_129 ?_
                    refine ji_iconst hx hb dXM_forget_130 ?_
                    refine ji_iast hx hb hK hP hD hS 7 0 rfl rfl ⟨by omega, by omega⟩ (by decide) dXM_forget_131 (fun H locs hP hD hS => ?_)
                    have hP : va_P (dC, dI) vwCl [(ma, .inr (5, [.int (jI mth), .int (jI mn), .ref a0, .int (jI mp), .int (jI mw), .ref a1, .ref a2, .ref a3, .ref a4, .ref a5, .ref a6, .ref a7, .ref a8, .ref a9, .ref a10, .long (jL mu), .long (jL md), .int (jI mo), .ref a11])), (a1, .inl (cZ, 62, .inl (jA w1a))), (a2, .inl (cA, 62, .inl (jA w2a))), (a3, .inl (cZ, 496, .inl (jA w3a))), (a6, .inl (cA, 62, .inl (jA w6a))), (a7, .inl (cA, 248, .inl (jA w7a))), (a8, .inl (cZ, 8, .inl (jA (jset w8d k5 0)))), (a9, .inl (cA, 64, .inl (jA (jset w9e ((8 * k5) + k6) 0))))] H := hP
                    have hD : va_D A [(ma, .inr (5, [.int (jI mth), .int (jI mn), .ref a0, .int (jI mp), .int (jI mw), .ref a1, .ref a2, .ref a3, .ref a4, .ref a5, .ref a6, .ref a7, .ref a8, .ref a9, .ref a10, .long (jL mu), .long (jL md), .int (jI mo), .ref a11])), (a1, .inl (cZ, 62, .inl (jA w1a))), (a2, .inl (cA, 62, .inl (jA w2a))), (a3, .inl (cZ, 496, .inl (jA w3a))), (a6, .inl (cA, 62, .inl (jA w6a))), (a7, .inl (cA, 248, .inl (jA w7a))), (a8, .inl (cZ, 8, .inl (jA (jset w8d k5 0)))), (a9, .inl (cA, 64, .inl (jA (jset w9e ((8 * k5) + k6) 0))))] := hD
                    refine ji_iinc (k := 0) (lv' := [(3, .int (jI (k6 + 1))), (2, .int (jI k5)), (0, .ref ma), (1, .int (jI z1))]) hx hb dXM_forget_132 hl rfl (by decide) rfl (fun ls hl => ?_)
                    refine lv_goto (tgt := 114) hx hb dXM_forget_135 (by decide) ?_
                    exact ih114 (k6 + 1) (jset w9e ((8 * k5) + k6) 0) (by omega) (by first | assumption | omega | exact jset_b (by assumption) (by omega)) (by rw [g9, show 8 * k5 + (k6 + 1) = 8 * k5 + k6 + 1 by omega]; exact kfill_step _ _ _ _ (by omega)) _ _ hP hD hS ls (lv_sub hl [0, 1, 2, 3] rfl)
              exact loop114 (Int.toNat (8 - 0) + 1) 0 w9d (by omega) (by first | assumption | omega | exact jset_b (by assumption) (by omega)) (by rw [e9, show 8 * k5 + 0 = 8 * k5 by omega]) _ _ hP hD hS ls (lv_sub hl [0, 1, 2, 3] rfl)
        exact loop96 (Int.toNat (4 * (z1 + 1) - (4 * z1)) + 1) (4 * z1) y8 y9 (by omega) (by first | assumption | omega | exact jset_b (by assumption) (by omega)) ((kfill_zero _ _ _).symm) (by rw [show 8 * (4 * z1) = 32 * z1 by omega]; exact (kfill_zero _ _ _).symm) _ _ hP hD hS ls (lv_sub hl [0, 1, 2] rfl)
      · refine lv_aload_n hx hb dXM_forget_15 rfl (lv_at hl 1 rfl) ?_
        refine va_get (D := (dC, dI)) (ci := 5) (v := .ref a1) (C := RXM) (T := TXM) (N := 19) hx hb hts (fun w h => jmem (inXM w h)) hown hK hP 0 rfl rfl 5 (by decide) (hts _ (jmem tw_633)) (fun _ h9 => h9) rfl dXM_forget_16 ?_
        refine lv_iload_n hx hb dXM_forget_19 rfl (lv_at hl 0 rfl) ?_
        refine ji_iconst hx hb dXM_forget_20 ?_
        refine ji_zast hx hb hK hP hD hS 1 1 rfl rfl (by first | decide | omega) ⟨by omega, by omega⟩ (by decide) dXM_forget_21 (fun H locs hP hD hS => ?_)
        have hP : va_P (dC, dI) vwCl [(ma, .inr (5, [.int (jI mth), .int (jI mn), .ref a0, .int (jI mp), .int (jI mw), .ref a1, .ref a2, .ref a3, .ref a4, .ref a5, .ref a6, .ref a7, .ref a8, .ref a9, .ref a10, .long (jL mu), .long (jL md), .int (jI mo), .ref a11])), (a1, .inl (cZ, 62, .inl (jA (jset w1a k 0)))), (a2, .inl (cA, 62, .inl (jA w2a))), (a3, .inl (cZ, 496, .inl (jA w3a))), (a6, .inl (cA, 62, .inl (jA w6a))), (a7, .inl (cA, 248, .inl (jA w7a))), (a8, .inl (cZ, 8, .inl (jA y8))), (a9, .inl (cA, 64, .inl (jA y9)))] H := hP
        have hD : va_D A [(ma, .inr (5, [.int (jI mth), .int (jI mn), .ref a0, .int (jI mp), .int (jI mw), .ref a1, .ref a2, .ref a3, .ref a4, .ref a5, .ref a6, .ref a7, .ref a8, .ref a9, .ref a10, .long (jL mu), .long (jL md), .int (jI mo), .ref a11])), (a1, .inl (cZ, 62, .inl (jA (jset w1a k 0)))), (a2, .inl (cA, 62, .inl (jA w2a))), (a3, .inl (cZ, 496, .inl (jA w3a))), (a6, .inl (cA, 62, .inl (jA w6a))), (a7, .inl (cA, 248, .inl (jA w7a))), (a8, .inl (cZ, 8, .inl (jA y8))), (a9, .inl (cA, 64, .inl (jA y9)))] := hD
        refine lv_aload_n hx hb dXM_forget_22 rfl (lv_at hl 1 rfl) ?_
        refine va_get (D := (dC, dI)) (ci := 5) (v := .ref a2) (C := RXM) (T := TXM) (N := 19) hx hb hts (fun w h => jmem (inXM w h)) hown hK hP 0 rfl rfl 6 (by decide) (hts _ (jmem tw_634)) (fun _ h9 => h9) rfl dXM_forget_23 ?_
        refine lv_iload_n hx hb dXM_forget_26 rfl (lv_at hl 0 rfl) ?_
        refine ji_iconst hx hb dXM_forget_27 ?_
        refine ji_iast hx hb hK hP hD hS 2 0 rfl rfl ⟨by omega, by omega⟩ (by decide) dXM_forget_28 (fun H locs hP hD hS => ?_)
        have hP : va_P (dC, dI) vwCl [(ma, .inr (5, [.int (jI mth), .int (jI mn), .ref a0, .int (jI mp), .int (jI mw), .ref a1, .ref a2, .ref a3, .ref a4, .ref a5, .ref a6, .ref a7, .ref a8, .ref a9, .ref a10, .long (jL mu), .long (jL md), .int (jI mo), .ref a11])), (a1, .inl (cZ, 62, .inl (jA (jset w1a k 0)))), (a2, .inl (cA, 62, .inl (jA (jset w2a k 0)))), (a3, .inl (cZ, 496, .inl (jA w3a))), (a6, .inl (cA, 62, .inl (jA w6a))), (a7, .inl (cA, 248, .inl (jA w7a))), (a8, .inl (cZ, 8, .inl (jA y8))), (a9, .inl (cA, 64, .inl (jA y9)))] H := hP
        have hD : va_D A [(ma, .inr (5, [.int (jI mth), .int (jI mn), .ref a0, .int (jI mp), .int (jI mw), .ref a1, .ref a2, .ref a3, .ref a4, .ref a5, .ref a6, .ref a7, .ref a8, .ref a9, .ref a10, .long (jL mu), .long (jL md), .int (jI mo), .ref a11])), (a1, .inl (cZ, 62, .inl (jA (jset w1a k 0)))), (a2, .inl (cA, 62, .inl (jA (jset w2a k 0)))), (a3, .inl (cZ, 496, .inl (jA w3a))), (a6, .inl (cA, 62, .inl (jA w6a))), (a7, .inl (cA, 248, .inl (jA w7a))), (a8, .inl (cZ, 8, .inl (jA y8))), (a9, .inl (cA, 64, .inl (jA y9)))] := hD
        refine lv_aload_n hx hb dXM_forget_29 rfl (lv_at hl 1 rfl) ?_
        refine va_get (D := (dC, dI)) (ci := 5) (v := .ref a6) (C := RXM) (T := TXM) (N := 19) hx hb hts (fun w h => jmem (inXM w h)) hown hK hP 0 rfl rfl 10 (by decide) (hts _ (jmem tw_638)) (fun _ h9 => h9) rfl dXM_forget_30 ?_
        refine lv_iload_n hx hb dXM_forget_33 rfl (lv_at hl 0 rfl) ?_
        refine ji_iconst hx hb dXM_forget_34 ?_
        refine ji_iast hx hb hK hP hD hS 4 0 rfl rfl ⟨by omega, by omega⟩ (by decide) dXM_forget_35 (fun H locs hP hD hS => ?_)
        have hP : va_P (dC, dI) vwCl [(ma, .inr (5, [.int (jI mth), .int (jI mn), .ref a0, .int (jI mp), .int (jI mw), .ref a1, .ref a2, .ref a3, .ref a4, .ref a5, .ref a6, .ref a7, .ref a8, .ref a9, .ref a10, .long (jL mu), .long (jL md), .int (jI mo), .ref a11])), (a1, .inl (cZ, 62, .inl (jA (jset w1a k 0)))), (a2, .inl (cA, 62, .inl (jA (jset w2a k 0)))), (a3, .inl (cZ, 496, .inl (jA w3a))), (a6, .inl (cA, 62, .inl (jA (jset w6a k 0)))), (a7, .inl (cA, 248, .inl (jA w7a))), (a8, .inl (cZ, 8, .inl (jA y8))), (a9, .inl (cA, 64, .inl (jA y9)))] H := hP
        have hD : va_D A [(ma, .inr (5, [.int (jI mth), .int (jI mn), .ref a0, .int (jI mp), .int (jI mw), .ref a1, .ref a2, .ref a3, .ref a4, .ref a5, .ref a6, .ref a7, .ref a8, .ref a9, .ref a10, .long (jL mu), .long (jL md), .int (jI mo), .ref a11])), (a1, .inl (cZ, 62, .inl (jA (jset w1a k 0)))), (a2, .inl (cA, 62, .inl (jA (jset w2a k 0)))), (a3, .inl (cZ, 496, .inl (jA w3a))), (a6, .inl (cA, 62, .inl (jA (jset w6a k 0)))), (a7, .inl (cA, 248, .inl (jA w7a))), (a8, .inl (cZ, 8, .inl (jA y8))), (a9, .inl (cA, 64, .inl (jA y9)))] := hD
        refine ji_iconst hx hb dXM_forget_36 ?_
        refine lv_istore_n (lv' := [(3, .int (jI 0)), (2, .int (jI k)), (0, .ref ma), (1, .int (jI z1))]) hx hb dXM_forget_37 rfl hl (by decide) rfl (fun ls hl => ?_)
        have loop38 : ∀ (n9 : Nat) (k3 : Int) (w3b : Int → Int) , 8 - k3 < (n9 : Int) → (0 ≤ k3 ∧ k3 ≤ 8) → (w3b = kfill y3 (248 * z1) (8 * k + k3) 0) → ∀ (H : Heap) (locs : List Loc), va_P (dC, dI) vwCl [(ma, .inr (5, [.int (jI mth), .int (jI mn), .ref a0, .int (jI mp), .int (jI mw), .ref a1, .ref a2, .ref a3, .ref a4, .ref a5, .ref a6, .ref a7, .ref a8, .ref a9, .ref a10, .long (jL mu), .long (jL md), .int (jI mo), .ref a11])), (a1, .inl (cZ, 62, .inl (jA (jset w1a k 0)))), (a2, .inl (cA, 62, .inl (jA (jset w2a k 0)))), (a3, .inl (cZ, 496, .inl (jA w3b))), (a6, .inl (cA, 62, .inl (jA (jset w6a k 0)))), (a7, .inl (cA, 248, .inl (jA w7a))), (a8, .inl (cZ, 8, .inl (jA y8))), (a9, .inl (cA, 64, .inl (jA y9)))] H → va_D A [(ma, .inr (5, [.int (jI mth), .int (jI mn), .ref a0, .int (jI mp), .int (jI mw), .ref a1, .ref a2, .ref a3, .ref a4, .ref a5, .ref a6, .ref a7, .ref a8, .ref a9, .ref a10, .long (jL mu), .long (jL md), .int (jI mo), .ref a11])), (a1, .inl (cZ, 62, .inl (jA (jset w1a k 0)))), (a2, .inl (cA, 62, .inl (jA (jset w2a k 0)))), (a3, .inl (cZ, 496, .inl (jA w3b))), (a6, .inl (cA, 62, .inl (jA (jset w6a k 0)))), (a7, .inl (cA, 248, .inl (jA w7a))), (a8, .inl (cZ, 8, .inl (jA y8))), (a9, .inl (cA, 64, .inl (jA y9)))] → va_S A s.heap H locs → ∀ ls : Array Slot, lv_has ls 4 [(3, .int (jI k3)), (2, .int (jI k)), (0, .ref ma), (1, .int (jI z1))] → W p l e R s m ([.ref ma, .int (jI z1)] : List Value).toArray below meth c H locs 0 0 Q (F0 m 38 ls []) := by
          intro n9
          induction n9 with
          | zero =>
            intro k3 w3b hm hk3 g3
            exact absurd hm (by omega)
          | succ n9 ih38 =>
            intro k3 w3b hm hk3 g3 H locs hP hD hS ls hl
            refine lv_iload_n hx hb dXM_forget_38 rfl (lv_at hl 0 rfl) ?_
            refine ji_bipush hx hb dXM_forget_39 (by decide) ?_
            refine ji_icmp_ge (tgt := 62) hx hb dXM_forget_41 (by decide) (by first | omega | decide) (by first | omega | decide) (fun c41_ => ?_) (fun c41_ => ?_)
            · refine ji_iconst hx hb dXM_forget_62 ?_
              refine lv_istore_n (lv' := [(3, .int (jI 0)), (2, .int (jI k)), (0, .ref ma), (1, .int (jI z1))]) hx hb dXM_forget_63 rfl hl (by decide) rfl (fun ls hl => ?_)
              have loop64 : ∀ (n9 : Nat) (k4 : Int) (w7c : Int → Int) , 4 - k4 < (n9 : Int) → (0 ≤ k4 ∧ k4 ≤ 4) → (w7c = kfill y7 (124 * z1) (4 * k + k4) (-1)) → ∀ (H : Heap) (locs : List Loc), va_P (dC, dI) vwCl [(ma, .inr (5, [.int (jI mth), .int (jI mn), .ref a0, .int (jI mp), .int (jI mw), .ref a1, .ref a2, .ref a3, .ref a4, .ref a5, .ref a6, .ref a7, .ref a8, .ref a9, .ref a10, .long (jL mu), .long (jL md), .int (jI mo), .ref a11])), (a1, .inl (cZ, 62, .inl (jA (jset w1a k 0)))), (a2, .inl (cA, 62, .inl (jA (jset w2a k 0)))), (a3, .inl (cZ, 496, .inl (jA w3b))), (a6, .inl (cA, 62, .inl (jA (jset w6a k 0)))), (a7, .inl (cA, 248, .inl (jA w7c))), (a8, .inl (cZ, 8, .inl (jA y8))), (a9, .inl (cA, 64, .inl (jA y9)))] H → va_D A [(ma, .inr (5, [.int (jI mth), .int (jI mn), .ref a0, .int (jI mp), .int (jI mw), .ref a1, .ref a2, .ref a3, .ref a4, .ref a5, .ref a6, .ref a7, .ref a8, .ref a9, .ref a10, .long (jL mu), .long (jL md), .int (jI mo), .ref a11])), (a1, .inl (cZ, 62, .inl (jA (jset w1a k 0)))), (a2, .inl (cA, 62, .inl (jA (jset w2a k 0)))), (a3, .inl (cZ, 496, .inl (jA w3b))), (a6, .inl (cA, 62, .inl (jA (jset w6a k 0)))), (a7, .inl (cA, 248, .inl (jA w7c))), (a8, .inl (cZ, 8, .inl (jA y8))), (a9, .inl (cA, 64, .inl (jA y9)))] → va_S A s.heap H locs → ∀ ls : Array Slot, lv_has ls 4 [(3, .int (jI k4)), (2, .int (jI k)), (0, .ref ma), (1, .int (jI z1))] → W p l e R s m ([.ref ma, .int (jI z1)] : List Value).toArray below meth c H locs 0 0 Q (F0 m 64 ls []) := by
                intro n9
                induction n9 with
                | zero =>
                  intro k4 w7c hm hk4 g7
                  exact absurd hm (by omega)
                | succ n9 ih64 =>
                  intro k4 w7c hm hk4 g7 H locs hP hD hS ls hl
                  refine lv_iload_n hx hb dXM_forget_64 rfl (lv_at hl 0 rfl) ?_
                  refine ji_iconst hx hb dXM_forget_65 ?_
                  refine ji_icmp_ge (tgt := 86) hx hb dXM_forget_66 (by decide) (by first | omega | decide) (by first | omega | decide) (fun c66_ => ?_) (fun c66_ => ?_)
                  · refine ji_iinc (k := 1) (lv' := [(2, .int (jI (k + 1))), (3, .int (jI k4)), (0, .ref ma), (1, .int (jI z1))]) hx hb dXM_forget_86 hl rfl (by decide) rfl (fun ls hl => ?_)
                    refine lv_goto (tgt := 5) hx hb dXM_forget_89 (by decide) ?_
                    exact ih5 (k + 1) (jset w1a k 0) (jset w2a k 0) w3b (jset w6a k 0) w7c (by omega) (by first | assumption | omega | exact jset_b (by assumption) (by omega)) (by rw [e1]; exact kfill_step _ _ _ _ (by omega)) (by rw [e2]; exact kfill_step _ _ _ _ (by omega)) (by rw [e6]; exact kfill_step _ _ _ _ (by omega)) (by rw [g3, show 8 * k + k3 = 8 * (k + 1) by omega]) (by rw [g7, show 4 * k + k4 = 4 * (k + 1) by omega]) _ _ hP hD hS ls (lv_sub hl [0, 2, 3] rfl)
                  · refine lv_aload_n hx hb dXM_forget_69 rfl (lv_at hl 2 rfl) ?_
                    refine va_get (D := (dC, dI)) (ci := 5) (v := .ref a7) (C := RXM) (T := TXM) (N := 19) hx hb hts (fun w h => jmem (inXM w h)) hown hK hP 0 rfl rfl 11 (by decide) (hts _ (jmem tw_639)) (fun _ h9 => h9) rfl dXM_forget_70 ?_
                    refine ji_iconst hx hb dXM_forget_73 ?_
                    refine lv_iload_n hx hb dXM_forget_74 rfl (lv_at hl 1 rfl) ?_
                    refine ji_imul hx hb dXM_forget_75 ?_
                    refine lv_iload_n hx hb dXM_forget_76 rfl (lv_at hl 0 rfl) ?_
                    refine ji_iadd hx hb dXM_forget_77 ?_
                    refine ji_iconst hx hb dXM_forget_78 ?_
                    refine ji_iast hx hb hK hP hD hS 5 0 rfl rfl ⟨by omega, by omega⟩ (by decide) dXM_forget_79 (fun H locs hP hD hS => ?_)
                    have hP : va_P (dC, dI) vwCl [(ma, .inr (5, [.int (jI mth), .int (jI mn), .ref a0, .int (jI mp), .int (jI mw), .ref a1, .ref a2, .ref a3, .ref a4, .ref a5, .ref a6, .ref a7, .ref a8, .ref a9, .ref a10, .long (jL mu), .long (jL md), .int (jI mo), .ref a11])), (a1, .inl (cZ, 62, .inl (jA (jset w1a k 0)))), (a2, .inl (cA, 62, .inl (jA (jset w2a k 0)))), (a3, .inl (cZ, 496, .inl (jA w3b))), (a6, .inl (cA, 62, .inl (jA (jset w6a k 0)))), (a7, .inl (cA, 248, .inl (jA (jset w7c ((4 * k) + k4) (-1))))), (a8, .inl (cZ, 8, .inl (jA y8))), (a9, .inl (cA, 64, .inl (jA y9)))] H := hP
                    have hD : va_D A [(ma, .inr (5, [.int (jI mth), .int (jI mn), .ref a0, .int (jI mp), .int (jI mw), .ref a1, .ref a2, .ref a3, .ref a4, .ref a5, .ref a6, .ref a7, .ref a8, .ref a9, .ref a10, .long (jL mu), .long (jL md), .int (jI mo), .ref a11])), (a1, .inl (cZ, 62, .inl (jA (jset w1a k 0)))), (a2, .inl (cA, 62, .inl (jA (jset w2a k 0)))), (a3, .inl (cZ, 496, .inl (jA w3b))), (a6, .inl (cA, 62, .inl (jA (jset w6a k 0)))), (a7, .inl (cA, 248, .inl (jA (jset w7c ((4 * k) + k4) (-1))))), (a8, .inl (cZ, 8, .inl (jA y8))), (a9, .inl (cA, 64, .inl (jA y9)))] := hD
                    refine ji_iinc (k := 0) (lv' := [(3, .int (jI (k4 + 1))), (2, .int (jI k)), (0, .ref ma), (1, .int (jI z1))]) hx hb dXM_forget_80 hl rfl (by decide) rfl (fun ls hl => ?_)
                    refine lv_goto (tgt := 64) hx hb dXM_forget_83 (by decide) ?_
                    exact ih64 (k4 + 1) (jset w7c ((4 * k) + k4) (-1)) (by omega) (by first | assumption | omega | exact jset_b (by assumption) (by omega)) (by rw [g7, show 4 * k + (k4 + 1) = 4 * k + k4 + 1 by omega]; exact kfill_step _ _ _ _ (by omega)) _ _ hP hD hS ls (lv_sub hl [0, 1, 2, 3] rfl)
              exact loop64 (Int.toNat (4 - 0) + 1) 0 w7a (by omega) (by first | assumption | omega | exact jset_b (by assumption) (by omega)) (by rw [e7, show 4 * k + 0 = 4 * k by omega]) _ _ hP hD hS ls (lv_sub hl [0, 1, 2, 3] rfl)
            · refine lv_aload_n hx hb dXM_forget_44 rfl (lv_at hl 2 rfl) ?_
              refine va_get (D := (dC, dI)) (ci := 5) (v := .ref a3) (C := RXM) (T := TXM) (N := 19) hx hb hts (fun w h => jmem (inXM w h)) hown hK hP 0 rfl rfl 7 (by decide) (hts _ (jmem tw_635)) (fun _ h9 => h9) rfl dXM_forget_45 ?_
              refine ji_bipush hx hb dXM_forget_48 (by decide) ?_
              refine lv_iload_n hx hb dXM_forget_50 rfl (lv_at hl 1 rfl) ?_
              refine ji_imul hx hb dXM_forget_51 ?_
              refine lv_iload_n hx hb dXM_forget_52 rfl (lv_at hl 0 rfl) ?_
              refine ji_iadd hx hb dXM_forget_53 ?_
              refine ji_iconst hx hb dXM_forget_54 ?_
              refine ji_zast hx hb hK hP hD hS 3 1 rfl rfl (by first | decide | omega) ⟨by omega, by omega⟩ (by decide) dXM_forget_55 (fun H locs hP hD hS => ?_)
              have hP : va_P (dC, dI) vwCl [(ma, .inr (5, [.int (jI mth), .int (jI mn), .ref a0, .int (jI mp), .int (jI mw), .ref a1, .ref a2, .ref a3, .ref a4, .ref a5, .ref a6, .ref a7, .ref a8, .ref a9, .ref a10, .long (jL mu), .long (jL md), .int (jI mo), .ref a11])), (a1, .inl (cZ, 62, .inl (jA (jset w1a k 0)))), (a2, .inl (cA, 62, .inl (jA (jset w2a k 0)))), (a3, .inl (cZ, 496, .inl (jA (jset w3b ((8 * k) + k3) 0)))), (a6, .inl (cA, 62, .inl (jA (jset w6a k 0)))), (a7, .inl (cA, 248, .inl (jA w7a))), (a8, .inl (cZ, 8, .inl (jA y8))), (a9, .inl (cA, 64, .inl (jA y9)))] H := hP
              have hD : va_D A [(ma, .inr (5, [.int (jI mth), .int (jI mn), .ref a0, .int (jI mp), .int (jI mw), .ref a1, .ref a2, .ref a3, .ref a4, .ref a5, .ref a6, .ref a7, .ref a8, .ref a9, .ref a10, .long (jL mu), .long (jL md), .int (jI mo), .ref a11])), (a1, .inl (cZ, 62, .inl (jA (jset w1a k 0)))), (a2, .inl (cA, 62, .inl (jA (jset w2a k 0)))), (a3, .inl (cZ, 496, .inl (jA (jset w3b ((8 * k) + k3) 0)))), (a6, .inl (cA, 62, .inl (jA (jset w6a k 0)))), (a7, .inl (cA, 248, .inl (jA w7a))), (a8, .inl (cZ, 8, .inl (jA y8))), (a9, .inl (cA, 64, .inl (jA y9)))] := hD
              refine ji_iinc (k := 0) (lv' := [(3, .int (jI (k3 + 1))), (2, .int (jI k)), (0, .ref ma), (1, .int (jI z1))]) hx hb dXM_forget_56 hl rfl (by decide) rfl (fun ls hl => ?_)
              refine lv_goto (tgt := 38) hx hb dXM_forget_59 (by decide) ?_
              exact ih38 (k3 + 1) (jset w3b ((8 * k) + k3) 0) (by omega) (by first | assumption | omega | exact jset_b (by assumption) (by omega)) (by rw [g3, show 8 * k + (k3 + 1) = 8 * k + k3 + 1 by omega]; exact kfill_step _ _ _ _ (by omega)) _ _ hP hD hS ls (lv_sub hl [0, 1, 2, 3] rfl)
        exact loop38 (Int.toNat (8 - 0) + 1) 0 w3a (by omega) (by first | assumption | omega | exact jset_b (by assumption) (by omega)) (by rw [e3, show 8 * k + 0 = 8 * k by omega]) _ _ hP hD hS ls (lv_sub hl [0, 1, 2, 3] rfl)
  exact loop5 (Int.toNat (31 * (z1 + 1) - (31 * z1)) + 1) (31 * z1) y1 y2 y3 y6 y7 (by omega) (by first | assumption | omega | exact jset_b (by assumption) (by omega)) ((kfill_zero _ _ _).symm) ((kfill_zero _ _ _).symm) ((kfill_zero _ _ _).symm) (by rw [show 8 * (31 * z1) = 248 * z1 by omega]; exact (kfill_zero _ _ _).symm) (by rw [show 4 * (31 * z1) = 124 * z1 by omega]; exact (kfill_zero _ _ _).symm) _ _ hP hD hS ls (lv_sub hl [0, 1, 2] rfl)
set_option maxHeartbeats 4000000 in
set_option maxRecDepth 100000 in
theorem c_XM_copyC (l : Launch) (dC : Nat → ClassId) (dI : Nat → Nat → Nat) (cA cZ : ClassId) (sz : Nat) (ma : Nat) (a0 : Nat) (a1 : Nat) (a2 : Nat) (a3 : Nat) (a4 : Nat) (a5 : Nat) (a6 : Nat) (a7 : Nat) (a8 : Nat) (a9 : Nat) (a10 : Nat) (a11 : Nat) (mth : Int) (mn : Int) (mp : Int) (mw : Int) (mu : Int) (md : Int) (mo : Int) (y1 : Int → Int) (y2 : Int → Int) (y3 : Int → Int) (y4 : Int → Int) (y5 : Int → Int) (y6 : Int → Int) (y7 : Int → Int) (y8 : Int → Int) (y9 : Int → Int) (hy1 : ∀ i, 0 ≤ y1 i ∧ y1 i ≤ 1) (hy3 : ∀ i, 0 ≤ y3 i ∧ y3 i ≤ 1) (hy8 : ∀ i, 0 ≤ y8 i ∧ y8 i ≤ 1) : Met l yXM_copy (Cond.code yXM_copy cXM_copy 2 none :: TBL) ({ frames := 0, cells := 0, slots := 0, locals := 0 } : Room) (va_Pc [.ref ma] (jBw (dC, dI) [(cA, .int), (cZ, .boolean)] [(ma, .inr (5, [.int (jI mth), .int (jI mn), .ref a0, .int (jI mp), .int (jI mw), .ref a1, .ref a2, .ref a3, .ref a4, .ref a5, .ref a6, .ref a7, .ref a8, .ref a9, .ref a10, .long (jL mu), .long (jL md), .int (jI mo), .ref a11])), (a1, .inl (cZ, 62, .inl (jA y1))), (a2, .inl (cA, 62, .inl (jA y2))), (a3, .inl (cZ, 496, .inl (jA y3))), (a4, .inl (cA, 496, .inl (jA y4))), (a5, .inl (cA, 496, .inl (jA y5))), (a6, .inl (cA, 62, .inl (jA y6))), (a7, .inl (cA, 248, .inl (jA y7))), (a8, .inl (cZ, 8, .inl (jA y8))), (a9, .inl (cA, 64, .inl (jA y9)))] sz)) (va_Qv (fun (u : (Int → Int) × (Int → Int) × (Int → Int) × (Int → Int) × (Int → Int) × (Int → Int) × (Int → Int) × (Int → Int) × (Int → Int)) => (u.1 = kcp y1 31 31) ∧ (u.2.1 = kcp y2 31 31) ∧ (u.2.2.1 = kcp y3 248 248) ∧ (u.2.2.2.1 = kcp y4 248 248) ∧ (u.2.2.2.2.1 = kcp y5 248 248) ∧ (u.2.2.2.2.2.1 = kcp y6 31 31) ∧ (u.2.2.2.2.2.2.1 = kcp y7 124 124) ∧ (u.2.2.2.2.2.2.2.1 = kcp y8 4 4) ∧ (u.2.2.2.2.2.2.2.2 = kcp y9 32 32)) (fun u t => jE (dC, dI) [(cA, .int), (cZ, .boolean)] [(ma, .inr (5, [.int (jI mth), .int (jI mn), .ref a0, .int (jI mp), .int (jI mw), .ref a1, .ref a2, .ref a3, .ref a4, .ref a5, .ref a6, .ref a7, .ref a8, .ref a9, .ref a10, .long (jL mu), .long (jL md), .int (jI mo), .ref a11])), (a1, .inl (cZ, 62, .inl (jA y1))), (a2, .inl (cA, 62, .inl (jA y2))), (a3, .inl (cZ, 496, .inl (jA y3))), (a4, .inl (cA, 496, .inl (jA y4))), (a5, .inl (cA, 496, .inl (jA y5))), (a6, .inl (cA, 62, .inl (jA y6))), (a7, .inl (cA, 248, .inl (jA y7))), (a8, .inl (cZ, 8, .inl (jA y8))), (a9, .inl (cA, 64, .inl (jA y9)))] sz [(ma, .inr (5, [.int (jI mth), .int (jI mn), .ref a0, .int (jI mp), .int (jI mw), .ref a1, .ref a2, .ref a3, .ref a4, .ref a5, .ref a6, .ref a7, .ref a8, .ref a9, .ref a10, .long (jL mu), .long (jL md), .int (jI mo), .ref a11])), (a1, .inl (cZ, 62, .inl (jA u.1))), (a2, .inl (cA, 62, .inl (jA u.2.1))), (a3, .inl (cZ, 496, .inl (jA u.2.2.1))), (a4, .inl (cA, 496, .inl (jA u.2.2.2.1))), (a5, .inl (cA, 496, .inl (jA u.2.2.2.2.1))), (a6, .inl (cA, 62, .inl (jA u.2.2.2.2.2.1))), (a7, .inl (cA, 248, .inl (jA u.2.2.2.2.2.2.1))), (a8, .inl (cZ, 8, .inl (jA u.2.2.2.2.2.2.2.1))), (a9, .inl (cA, 64, .inl (jA u.2.2.2.2.2.2.2.2)))] t) (va_A [(ma, .inr (5, [.int (jI mth), .int (jI mn), .ref a0, .int (jI mp), .int (jI mw), .ref a1, .ref a2, .ref a3, .ref a4, .ref a5, .ref a6, .ref a7, .ref a8, .ref a9, .ref a10, .long (jL mu), .long (jL md), .int (jI mo), .ref a11])), (a1, .inl (cZ, 62, .inl (jA y1))), (a2, .inl (cA, 62, .inl (jA y2))), (a3, .inl (cZ, 496, .inl (jA y3))), (a4, .inl (cA, 496, .inl (jA y4))), (a5, .inl (cA, 496, .inl (jA y5))), (a6, .inl (cA, 62, .inl (jA y6))), (a7, .inl (cA, 248, .inl (jA y7))), (a8, .inl (cZ, 8, .inl (jA y8))), (a9, .inl (cA, 64, .inl (jA y9)))] sz)) 0 0 (va_A [(ma, .inr (5, [.int (jI mth), .int (jI mn), .ref a0, .int (jI mp), .int (jI mw), .ref a1, .ref a2, .ref a3, .ref a4, .ref a5, .ref a6, .ref a7, .ref a8, .ref a9, .ref a10, .long (jL mu), .long (jL md), .int (jI mo), .ref a11])), (a1, .inl (cZ, 62, .inl (jA y1))), (a2, .inl (cA, 62, .inl (jA y2))), (a3, .inl (cZ, 496, .inl (jA y3))), (a4, .inl (cA, 496, .inl (jA y4))), (a5, .inl (cA, 496, .inl (jA y5))), (a6, .inl (cA, 62, .inl (jA y6))), (a7, .inl (cA, 248, .inl (jA y7))), (a8, .inl (cZ, 8, .inl (jA y8))), (a9, .inl (cA, 64, .inl (jA y9)))] sz) := by
  refine jMet (cc := cXM_copy) (maxL := 2) (ret := none) (by decide) rfl ?_
  intro p e s m args below meth c s₁ R Q hR hQ B hml hv
  obtain ⟨rfl, hsz, hP, hK, hD0, hN⟩ := hv
  have hx := B.exec
  have hb := B.bytes
  have hr := B.returns
  have hts := atoms_spec (ws := Cond.code yXM_copy cXM_copy 2 none :: TBL) B.pre
  have hown : s.vm.findClass RXM = some m.cls := findClass_of_methodNamed B.named
  have hlocks := B.notSynchronized
  subst hsz
  obtain ⟨A, hAe⟩ : ∃ A, A = va_A [(ma, .inr (5, [.int (jI mth), .int (jI mn), .ref a0, .int (jI mp), .int (jI mw), .ref a1, .ref a2, .ref a3, .ref a4, .ref a5, .ref a6, .ref a7, .ref a8, .ref a9, .ref a10, .long (jL mu), .long (jL md), .int (jI mo), .ref a11])), (a1, .inl (cZ, 62, .inl (jA y1))), (a2, .inl (cA, 62, .inl (jA y2))), (a3, .inl (cZ, 496, .inl (jA y3))), (a4, .inl (cA, 496, .inl (jA y4))), (a5, .inl (cA, 496, .inl (jA y5))), (a6, .inl (cA, 62, .inl (jA y6))), (a7, .inl (cA, 248, .inl (jA y7))), (a8, .inl (cZ, 8, .inl (jA y8))), (a9, .inl (cA, 64, .inl (jA y9)))] s.heap.size := ⟨_, rfl⟩
  have hD : va_D A [(ma, .inr (5, [.int (jI mth), .int (jI mn), .ref a0, .int (jI mp), .int (jI mw), .ref a1, .ref a2, .ref a3, .ref a4, .ref a5, .ref a6, .ref a7, .ref a8, .ref a9, .ref a10, .long (jL mu), .long (jL md), .int (jI mo), .ref a11])), (a1, .inl (cZ, 62, .inl (jA y1))), (a2, .inl (cA, 62, .inl (jA y2))), (a3, .inl (cZ, 496, .inl (jA y3))), (a4, .inl (cA, 496, .inl (jA y4))), (a5, .inl (cA, 496, .inl (jA y5))), (a6, .inl (cA, 62, .inl (jA y6))), (a7, .inl (cA, 248, .inl (jA y7))), (a8, .inl (cZ, 8, .inl (jA y8))), (a9, .inl (cA, 64, .inl (jA y9)))] := by rw [hAe]; exact hD0.self
  have hA : ∀ q : Nat, s.heap.size ≤ q → A q := fun q h => by rw [hAe]; exact Or.inr h
  have hS : va_S A s.heap s.heap [] := va_S.rf
  have hP : va_P (dC, dI) vwCl [(ma, .inr (5, [.int (jI mth), .int (jI mn), .ref a0, .int (jI mp), .int (jI mw), .ref a1, .ref a2, .ref a3, .ref a4, .ref a5, .ref a6, .ref a7, .ref a8, .ref a9, .ref a10, .long (jL mu), .long (jL md), .int (jI mo), .ref a11])), (a1, .inl (cZ, 62, .inl (jA y1))), (a2, .inl (cA, 62, .inl (jA y2))), (a3, .inl (cZ, 496, .inl (jA y3))), (a4, .inl (cA, 496, .inl (jA y4))), (a5, .inl (cA, 496, .inl (jA y5))), (a6, .inl (cA, 62, .inl (jA y6))), (a7, .inl (cA, 248, .inl (jA y7))), (a8, .inl (cZ, 8, .inl (jA y8))), (a9, .inl (cA, 64, .inl (jA y9)))] s.heap := hP
  have hl := lv_entry ([.ref ma]) (n := 2) (Nat.le_of_ble_eq_true rfl)
  rw [lg_entry_eq]
  generalize (lg_sl ([.ref ma]) ++ List.replicate (2 - (lg_sl ([.ref ma])).length) Slot.unset).toArray = ls at hl ⊢
  have hl : lv_has ls 2 [(0, .ref ma)] := hl
  refine ji_iconst hx hb dXM_copy_0 ?_
  refine lv_istore_n (lv' := [(1, .int (jI 0)), (0, .ref ma)]) hx hb dXM_copy_1 rfl hl (by decide) rfl (fun ls hl => ?_)
  have loop2 : ∀ (n9 : Nat) (kA : Int) (w1A : Int → Int) (w2A : Int → Int) (w6A : Int → Int) , 31 - kA < (n9 : Int) → (0 ≤ kA ∧ kA ≤ 31) → (w1A = kcp y1 31 kA) → (w2A = kcp y2 31 kA) → (w6A = kcp y6 31 kA) → ∀ (H : Heap) (locs : List Loc), va_P (dC, dI) vwCl [(ma, .inr (5, [.int (jI mth), .int (jI mn), .ref a0, .int (jI mp), .int (jI mw), .ref a1, .ref a2, .ref a3, .ref a4, .ref a5, .ref a6, .ref a7, .ref a8, .ref a9, .ref a10, .long (jL mu), .long (jL md), .int (jI mo), .ref a11])), (a1, .inl (cZ, 62, .inl (jA w1A))), (a2, .inl (cA, 62, .inl (jA w2A))), (a3, .inl (cZ, 496, .inl (jA y3))), (a4, .inl (cA, 496, .inl (jA y4))), (a5, .inl (cA, 496, .inl (jA y5))), (a6, .inl (cA, 62, .inl (jA w6A))), (a7, .inl (cA, 248, .inl (jA y7))), (a8, .inl (cZ, 8, .inl (jA y8))), (a9, .inl (cA, 64, .inl (jA y9)))] H → va_D A [(ma, .inr (5, [.int (jI mth), .int (jI mn), .ref a0, .int (jI mp), .int (jI mw), .ref a1, .ref a2, .ref a3, .ref a4, .ref a5, .ref a6, .ref a7, .ref a8, .ref a9, .ref a10, .long (jL mu), .long (jL md), .int (jI mo), .ref a11])), (a1, .inl (cZ, 62, .inl (jA w1A))), (a2, .inl (cA, 62, .inl (jA w2A))), (a3, .inl (cZ, 496, .inl (jA y3))), (a4, .inl (cA, 496, .inl (jA y4))), (a5, .inl (cA, 496, .inl (jA y5))), (a6, .inl (cA, 62, .inl (jA w6A))), (a7, .inl (cA, 248, .inl (jA y7))), (a8, .inl (cZ, 8, .inl (jA y8))), (a9, .inl (cA, 64, .inl (jA y9)))] → va_S A s.heap H locs → ∀ ls : Array Slot, lv_has ls 2 [(1, .int (jI kA)), (0, .ref ma)] → W p l e R s m ([.ref ma] : List Value).toArray below meth c H locs 0 0 Q (F0 m 2 ls []) := by
    intro n9
    induction n9 with
    | zero =>
      intro kA w1A w2A w6A hm hkA e1 e2 e6
      exact absurd hm (by omega)
    | succ n9 ih2 =>
      intro kA w1A w2A w6A hm hkA e1 e2 e6 H locs hP hD hS ls hl
      refine lv_iload_n hx hb dXM_copy_2 rfl (lv_at hl 0 rfl) ?_
      refine ji_bipush hx hb dXM_copy_3 (by decide) ?_
      refine ji_icmp_ge (tgt := 59) hx hb dXM_copy_5 (by decide) (by first | omega | decide) (by first | omega | decide) (fun c5_ => ?_) (fun c5_ => ?_)
      · refine ji_iconst hx hb dXM_copy_59 ?_
        refine lv_istore_n (lv' := [(1, .int (jI 0)), (0, .ref ma)]) hx hb dXM_copy_60 rfl hl (by decide) rfl (fun ls hl => ?_)
        have loop61 : ∀ (n9 : Nat) (kB : Int) (w3B : Int → Int) (w4B : Int → Int) (w5B : Int → Int) , 248 - kB < (n9 : Int) → (0 ≤ kB ∧ kB ≤ 248) → (w3B = kcp y3 248 kB) → (w4B = kcp y4 248 kB) → (w5B = kcp y5 248 kB) → ∀ (H : Heap) (locs : List Loc), va_P (dC, dI) vwCl [(ma, .inr (5, [.int (jI mth), .int (jI mn), .ref a0, .int (jI mp), .int (jI mw), .ref a1, .ref a2, .ref a3, .ref a4, .ref a5, .ref a6, .ref a7, .ref a8, .ref a9, .ref a10, .long (jL mu), .long (jL md), .int (jI mo), .ref a11])), (a1, .inl (cZ, 62, .inl (jA w1A))), (a2, .inl (cA, 62, .inl (jA w2A))), (a3, .inl (cZ, 496, .inl (jA w3B))), (a4, .inl (cA, 496, .inl (jA w4B))), (a5, .inl (cA, 496, .inl (jA w5B))), (a6, .inl (cA, 62, .inl (jA w6A))), (a7, .inl (cA, 248, .inl (jA y7))), (a8, .inl (cZ, 8, .inl (jA y8))), (a9, .inl (cA, 64, .inl (jA y9)))] H → va_D A [(ma, .inr (5, [.int (jI mth), .int (jI mn), .ref a0, .int (jI mp), .int (jI mw), .ref a1, .ref a2, .ref a3, .ref a4, .ref a5, .ref a6, .ref a7, .ref a8, .ref a9, .ref a10, .long (jL mu), .long (jL md), .int (jI mo), .ref a11])), (a1, .inl (cZ, 62, .inl (jA w1A))), (a2, .inl (cA, 62, .inl (jA w2A))), (a3, .inl (cZ, 496, .inl (jA w3B))), (a4, .inl (cA, 496, .inl (jA w4B))), (a5, .inl (cA, 496, .inl (jA w5B))), (a6, .inl (cA, 62, .inl (jA w6A))), (a7, .inl (cA, 248, .inl (jA y7))), (a8, .inl (cZ, 8, .inl (jA y8))), (a9, .inl (cA, 64, .inl (jA y9)))] → va_S A s.heap H locs → ∀ ls : Array Slot, lv_has ls 2 [(1, .int (jI kB)), (0, .ref ma)] → W p l e R s m ([.ref ma] : List Value).toArray below meth c H locs 0 0 Q (F0 m 61 ls []) := by
          intro n9
          induction n9 with
          | zero =>
            intro kB w3B w4B w5B hm hkB e3 e4 e5
            exact absurd hm (by omega)
          | succ n9 ih61 =>
            intro kB w3B w4B w5B hm hkB e3 e4 e5 H locs hP hD hS ls hl
            refine lv_iload_n hx hb dXM_copy_61 rfl (lv_at hl 0 rfl) ?_
            refine ji_sipush hx hb dXM_copy_62 (by decide) ?_
            refine ji_icmp_ge (tgt := 122) hx hb dXM_copy_65 (by decide) (by first | omega | decide) (by first | omega | decide) (fun c65_ => ?_) (fun c65_ => ?_)
            · refine ji_iconst hx hb dXM_copy_122 ?_
              refine lv_istore_n (lv' := [(1, .int (jI 0)), (0, .ref ma)]) hx hb dXM_copy_123 rfl hl (by decide) rfl (fun ls hl => ?_)
              have loop124 : ∀ (n9 : Nat) (kC : Int) (w7C : Int → Int) , 124 - kC < (n9 : Int) → (0 ≤ kC ∧ kC ≤ 124) → (w7C = kcp y7 124 kC) → ∀ (H : Heap) (locs : List Loc), va_P (dC, dI) vwCl [(ma, .inr (5, [.int (jI mth), .int (jI mn), .ref a0, .int (jI mp), .int (jI mw), .ref a1, .ref a2, .ref a3, .ref a4, .ref a5, .ref a6, .ref a7, .ref a8, .ref a9, .ref a10, .long (jL mu), .long (jL md), .int (jI mo), .ref a11])), (a1, .inl (cZ, 62, .inl (jA w1A))), (a2, .inl (cA, 62, .inl (jA w2A))), (a3, .inl (cZ, 496, .inl (jA w3B))), (a4, .inl (cA, 496, .inl (jA w4B))), (a5, .inl (cA, 496, .inl (jA w5B))), (a6, .inl (cA, 62, .inl (jA w6A))), (a7, .inl (cA, 248, .inl (jA w7C))), (a8, .inl (cZ, 8, .inl (jA y8))), (a9, .inl (cA, 64, .inl (jA y9)))] H → va_D A [(ma, .inr (5, [.int (jI mth), .int (jI mn), .ref a0, .int (jI mp), .int (jI mw), .ref a1, .ref a2, .ref a3, .ref a4, .ref a5, .ref a6, .ref a7, .ref a8, .ref a9, .ref a10, .long (jL mu), .long (jL md), .int (jI mo), .ref a11])), (a1, .inl (cZ, 62, .inl (jA w1A))), (a2, .inl (cA, 62, .inl (jA w2A))), (a3, .inl (cZ, 496, .inl (jA w3B))), (a4, .inl (cA, 496, .inl (jA w4B))), (a5, .inl (cA, 496, .inl (jA w5B))), (a6, .inl (cA, 62, .inl (jA w6A))), (a7, .inl (cA, 248, .inl (jA w7C))), (a8, .inl (cZ, 8, .inl (jA y8))), (a9, .inl (cA, 64, .inl (jA y9)))] → va_S A s.heap H locs → ∀ ls : Array Slot, lv_has ls 2 [(1, .int (jI kC)), (0, .ref ma)] → W p l e R s m ([.ref ma] : List Value).toArray below meth c H locs 0 0 Q (F0 m 124 ls []) := by
                intro n9
                induction n9 with
                | zero =>
                  intro kC w7C hm hkC e7
                  exact absurd hm (by omega)
                | succ n9 ih124 =>
                  intro kC w7C hm hkC e7 H locs hP hD hS ls hl
                  refine lv_iload_n hx hb dXM_copy_124 rfl (lv_at hl 0 rfl) ?_
                  refine ji_bipush hx hb dXM_copy_125 (by decide) ?_
                  refine ji_icmp_ge (tgt := 151) hx hb dXM_copy_127 (by decide) (by first | omega | decide) (by first | omega | decide) (fun c127_ => ?_) (fun c127_ => ?_)
                  · refine ji_iconst hx hb dXM_copy_151 ?_
                    refine lv_istore_n (lv' := [(1, .int (jI 0)), (0, .ref ma)]) hx hb dXM_copy_152 rfl hl (by decide) rfl (fun ls hl => ?_)
                    have loop153 : ∀ (n9 : Nat) (kD : Int) (w8D : Int → Int) , 4 - kD < (n9 : Int) → (0 ≤ kD ∧ kD ≤ 4) → (w8D = kcp y8 4 kD) → ∀ (H : Heap) (locs : List Loc), va_P (dC, dI) vwCl [(ma, .inr (5, [.int (jI mth), .int (jI mn), .ref a0, .int (jI mp), .int (jI mw), .ref a1, .ref a2, .ref a3, .ref a4, .ref a5, .ref a6, .ref a7, .ref a8, .ref a9, .ref a10, .long (jL mu), .long (jL md), .int (jI mo), .ref a11])), (a1, .inl (cZ, 62, .inl (jA w1A))), (a2, .inl (cA, 62, .inl (jA w2A))), (a3, .inl (cZ, 496, .inl (jA w3B))), (a4, .inl (cA, 496, .inl (jA w4B))), (a5, .inl (cA, 496, .inl (jA w5B))), (a6, .inl (cA, 62, .inl (jA w6A))), (a7, .inl (cA, 248, .inl (jA w7C))), (a8, .inl (cZ, 8, .inl (jA w8D))), (a9, .inl (cA, 64, .inl (jA y9)))] H → va_D A [(ma, .inr (5, [.int (jI mth), .int (jI mn), .ref a0, .int (jI mp), .int (jI mw), .ref a1, .ref a2, .ref a3, .ref a4, .ref a5, .ref a6, .ref a7, .ref a8, .ref a9, .ref a10, .long (jL mu), .long (jL md), .int (jI mo), .ref a11])), (a1, .inl (cZ, 62, .inl (jA w1A))), (a2, .inl (cA, 62, .inl (jA w2A))), (a3, .inl (cZ, 496, .inl (jA w3B))), (a4, .inl (cA, 496, .inl (jA w4B))), (a5, .inl (cA, 496, .inl (jA w5B))), (a6, .inl (cA, 62, .inl (jA w6A))), (a7, .inl (cA, 248, .inl (jA w7C))), (a8, .inl (cZ, 8, .inl (jA w8D))), (a9, .inl (cA, 64, .inl (jA y9)))] → va_S A s.heap H locs → ∀ ls : Array Slot, lv_has ls 2 [(1, .int (jI kD)), (0, .ref ma)] → W p l e R s m ([.ref ma] : List Value).toArray below meth c H locs 0 0 Q (F0 m 153 ls []) := by
                      intro n9
                      induction n9 with
                      | zero =>
                        intro kD w8D hm hkD e8
                        exact absurd hm (by omega)
                      | succ n9 ih153 =>
                        intro kD w8D hm hkD e8 H locs hP hD hS ls hl
                        refine lv_iload_n hx hb dXM_copy_153 rfl (lv_at hl 0 rfl) ?_
                        refine ji_iconst hx hb dXM_copy_154 ?_
                        refine ji_icmp_ge (tgt := 178) hx hb dXM_copy_155 (by decide) (by first | omega | decide) (by first | omega | decide) (fun c155_ => ?_) (fun c155_ => ?_)
                        · refine ji_iconst hx hb dXM_copy_178 ?_
                          refine lv_istore_n (lv' := [(1, .int (jI 0)), (0, .ref ma)]) hx hb dXM_copy_179 rfl hl (by decide) rfl (fun ls hl => ?_)
                          have loop180 : ∀ (n9 : Nat) (kE : Int) (w9E : Int → Int) , 32 - kE < (n9 : Int) → (0 ≤ kE ∧ kE ≤ 32) → (w9E = kcp y9 32 kE) → ∀ (H : Heap) (locs : List Loc), va_P (dC, dI) vwCl [(ma, .inr (5, [.int (jI mth), .int (jI mn), .ref a0, .int (jI mp), .int (jI mw), .ref a1, .ref a2, .ref a3, .ref a4, .ref a5, .ref a6, .ref a7, .ref a8, .ref a9, .ref a10, .long (jL mu), .long (jL md), .int (jI mo), .ref a11])), (a1, .inl (cZ, 62, .inl (jA w1A))), (a2, .inl (cA, 62, .inl (jA w2A))), (a3, .inl (cZ, 496, .inl (jA w3B))), (a4, .inl (cA, 496, .inl (jA w4B))), (a5, .inl (cA, 496, .inl (jA w5B))), (a6, .inl (cA, 62, .inl (jA w6A))), (a7, .inl (cA, 248, .inl (jA w7C))), (a8, .inl (cZ, 8, .inl (jA w8D))), (a9, .inl (cA, 64, .inl (jA w9E)))] H → va_D A [(ma, .inr (5, [.int (jI mth), .int (jI mn), .ref a0, .int (jI mp), .int (jI mw), .ref a1, .ref a2, .ref a3, .ref a4, .ref a5, .ref a6, .ref a7, .ref a8, .ref a9, .ref a10, .long (jL mu), .long (jL md), .int (jI mo), .ref a11])), (a1, .inl (cZ, 62, .inl (jA w1A))), (a2, .inl (cA, 62, .inl (jA w2A))), (a3, .inl (cZ, 496, .inl (jA w3B))), (a4, .inl (cA, 496, .inl (jA w4B))), (a5, .inl (cA, 496, .inl (jA w5B))), (a6, .inl (cA, 62, .inl (jA w6A))), (a7, .inl (cA, 248, .inl (jA w7C))), (a8, .inl (cZ, 8, .inl (jA w8D))), (a9, .inl (cA, 64, .inl (jA w9E)))] → va_S A s.heap H locs → ∀ ls : Array Slot, lv_has ls 2 [(1, .int (jI kE)), (0, .ref ma)] → W p l e R s m ([.ref ma] : List Value).toArray below meth c H locs 0 0 Q (F0 m 180 ls []) := by
                            intro n9
                            induction n9 with
                            | zero =>
                              intro kE w9E hm hkE e9
                              exact absurd hm (by omega)
                            | succ n9 ih180 =>
                              intro kE w9E hm hkE e9 H locs hP hD hS ls hl
                              refine lv_iload_n hx hb dXM_copy_180 rfl (lv_at hl 0 rfl) ?_
                              refine ji_bipush hx hb dXM_copy_181 (by decide) ?_
                              refine ji_icmp_ge (tgt := 207) hx hb dXM_copy_183 (by decide) (by first | omega | decide) (by first | omega | decide) (fun c183_ => ?_) (fun c183_ => ?_)
                              · have hP9 := hP.sub (ws' := [(ma, .inr (5, [.int (jI mth), .int (jI mn), .ref a0, .int (jI mp), .int (jI mw), .ref a1, .ref a2, .ref a3, .ref a4, .ref a5, .ref a6, .ref a7, .ref a8, .ref a9, .ref a10, .long (jL mu), .long (jL md), .int (jI mo), .ref a11])), (a1, .inl (cZ, 62, .inl (jA w1A))), (a2, .inl (cA, 62, .inl (jA w2A))), (a3, .inl (cZ, 496, .inl (jA w3B))), (a4, .inl (cA, 496, .inl (jA w4B))), (a5, .inl (cA, 496, .inl (jA w5B))), (a6, .inl (cA, 62, .inl (jA w6A))), (a7, .inl (cA, 248, .inl (jA w7C))), (a8, .inl (cZ, 8, .inl (jA w8D))), (a9, .inl (cA, 64, .inl (jA w9E)))]) [0, 1, 2, 3, 4, 5, 6, 7, 8, 9] rfl
                                have hD9 := hD.sub (ws' := [(ma, .inr (5, [.int (jI mth), .int (jI mn), .ref a0, .int (jI mp), .int (jI mw), .ref a1, .ref a2, .ref a3, .ref a4, .ref a5, .ref a6, .ref a7, .ref a8, .ref a9, .ref a10, .long (jL mu), .long (jL md), .int (jI mo), .ref a11])), (a1, .inl (cZ, 62, .inl (jA w1A))), (a2, .inl (cA, 62, .inl (jA w2A))), (a3, .inl (cZ, 496, .inl (jA w3B))), (a4, .inl (cA, 496, .inl (jA w4B))), (a5, .inl (cA, 496, .inl (jA w5B))), (a6, .inl (cA, 62, .inl (jA w6A))), (a7, .inl (cA, 248, .inl (jA w7C))), (a8, .inl (cZ, 8, .inl (jA w8D))), (a9, .inl (cA, 64, .inl (jA w9E)))]) [0, 1, 2, 3, 4, 5, 6, 7, 8, 9] (by decide) rfl
                                subst hAe
                                subst hQ
                                exact W.vret hx hb hr (fun t ht hW => ⟨⟨(w1A, w2A, w3B, w4B, w5B, w6A, w7C, w8D, w9E), rfl, ⟨(show w1A = kcp y1 31 31 from by rw [e1, show kA = 31 by omega]), (show w2A = kcp y2 31 31 from by rw [e2, show kA = 31 by omega]), (show w3B = kcp y3 248 248 from by rw [e3, show kB = 248 by omega]), (show w4B = kcp y4 248 248 from by rw [e4, show kB = 248 by omega]), (show w5B = kcp y5 248 248 from by rw [e5, show kB = 248 by omega]), (show w6A = kcp y6 31 31 from by rw [e6, show kA = 31 by omega]), (show w7C = kcp y7 124 124 from by rw [e7, show kC = 124 by omega]), (show w8D = kcp y8 4 4 from by rw [e8, show kD = 4 by omega]), (show w9E = kcp y9 32 32 from by rw [e9, show kE = 32 by omega])⟩, ⟨by rw [ht]; exact hP9, va_K.moved hW.alike hK, hD9⟩⟩, hS.F ht⟩) hS.2.2 dXM_copy_207
                              · refine lv_aload_n hx hb dXM_copy_186 rfl (lv_at hl 1 rfl) ?_
                                refine va_get (D := (dC, dI)) (ci := 5) (v := .ref a9) (C := RXM) (T := TXM) (N := 19) hx hb hts (fun w h => jmem (inXM w h)) hown hK hP 0 rfl rfl 13 (by decide) (hts _ (jmem tw_641)) (fun _ h9 => h9) rfl dXM_copy_187 ?_
                                refine lv_iload_n hx hb dXM_copy_190 rfl (lv_at hl 0 rfl) ?_
                                refine lv_aload_n hx hb dXM_copy_191 rfl (lv_at hl 1 rfl) ?_
                                refine va_get (D := (dC, dI)) (ci := 5) (v := .ref a9) (C := RXM) (T := TXM) (N := 19) hx hb hts (fun w h => jmem (inXM w h)) hown hK hP 0 rfl rfl 13 (by decide) (hts _ (jmem tw_641)) (fun _ h9 => h9) rfl dXM_copy_192 ?_
                                refine ji_bipush hx hb dXM_copy_195 (by decide) ?_
                                refine lv_iload_n hx hb dXM_copy_197 rfl (lv_at hl 0 rfl) ?_
                                refine ji_iadd hx hb dXM_copy_198 ?_
                                refine ji_iald hx hb hK hP 9 0 rfl rfl ⟨by omega, by omega⟩ (by decide) dXM_copy_199 ?_
                                refine ji_iast hx hb hK hP hD hS 9 0 rfl rfl ⟨by omega, by omega⟩ (by decide) dXM_copy_200 (fun H locs hP hD hS => ?_)
                                have hP : va_P (dC, dI) vwCl [(ma, .inr (5, [.int (jI mth), .int (jI mn), .ref a0, .int (jI mp), .int (jI mw), .ref a1, .ref a2, .ref a3, .ref a4, .ref a5, .ref a6, .ref a7, .ref a8, .ref a9, .ref a10, .long (jL mu), .long (jL md), .int (jI mo), .ref a11])), (a1, .inl (cZ, 62, .inl (jA w1A))), (a2, .inl (cA, 62, .inl (jA w2A))), (a3, .inl (cZ, 496, .inl (jA w3B))), (a4, .inl (cA, 496, .inl (jA w4B))), (a5, .inl (cA, 496, .inl (jA w5B))), (a6, .inl (cA, 62, .inl (jA w6A))), (a7, .inl (cA, 248, .inl (jA w7C))), (a8, .inl (cZ, 8, .inl (jA w8D))), (a9, .inl (cA, 64, .inl (jA (jset w9E kE (w9E (32 + kE))))))] H := hP
                                have hD : va_D A [(ma, .inr (5, [.int (jI mth), .int (jI mn), .ref a0, .int (jI mp), .int (jI mw), .ref a1, .ref a2, .ref a3, .ref a4, .ref a5, .ref a6, .ref a7, .ref a8, .ref a9, .ref a10, .long (jL mu), .long (jL md), .int (jI mo), .ref a11])), (a1, .inl (cZ, 62, .inl (jA w1A))), (a2, .inl (cA, 62, .inl (jA w2A))), (a3, .inl (cZ, 496, .inl (jA w3B))), (a4, .inl (cA, 496, .inl (jA w4B))), (a5, .inl (cA, 496, .inl (jA w5B))), (a6, .inl (cA, 62, .inl (jA w6A))), (a7, .inl (cA, 248, .inl (jA w7C))), (a8, .inl (cZ, 8, .inl (jA w8D))), (a9, .inl (cA, 64, .inl (jA (jset w9E kE (w9E (32 + kE))))))] := hD
                                refine ji_iinc (k := 0) (lv' := [(1, .int (jI (kE + 1))), (0, .ref ma)]) hx hb dXM_copy_201 hl rfl (by decide) rfl (fun ls hl => ?_)
                                refine lv_goto (tgt := 180) hx hb dXM_copy_204 (by decide) ?_
                                exact ih180 (kE + 1) (jset w9E kE (w9E (32 + kE))) (by omega) (by first | assumption | omega | exact jset_b (by assumption) (by omega)) (by rw [e9]; exact kcp_step _ _ _ (by omega)) _ _ hP hD hS ls (lv_sub hl [0, 1] rfl)
                          exact loop180 (Int.toNat (32 - 0) + 1) 0 y9 (by omega) (by first | assumption | omega | exact jset_b (by assumption) (by omega)) ((kcp_zero _ _).symm) _ _ hP hD hS ls (lv_sub hl [0, 1] rfl)
                        · refine lv_aload_n hx hb dXM_copy_158 rfl (lv_at hl 1 rfl) ?_
                          refine va_get (D := (dC, dI)) (ci := 5) (v := .ref a8) (C := RXM) (T := TXM) (N := 19) hx hb hts (fun w h => jmem (inXM w h)) hown hK hP 0 rfl rfl 12 (by decide) (hts _ (jmem tw_640)) (fun _ h9 => h9) rfl dXM_copy_159 ?_
                          refine lv_iload_n hx hb dXM_copy_162 rfl (lv_at hl 0 rfl) ?_
                          refine lv_aload_n hx hb dXM_copy_163 rfl (lv_at hl 1 rfl) ?_
                          refine va_get (D := (dC, dI)) (ci := 5) (v := .ref a8) (C := RXM) (T := TXM) (N := 19) hx hb hts (fun w h => jmem (inXM w h)) hown hK hP 0 rfl rfl 12 (by decide) (hts _ (jmem tw_640)) (fun _ h9 => h9) rfl dXM_copy_164 ?_
                          refine ji_iconst hx hb dXM_copy_167 ?_
                          refine lv_iload_n hx hb dXM_copy_168 rfl (lv_at hl 0 rfl) ?_
                          refine ji_iadd hx hb dXM_copy_169 ?_
                          refine ji_zald hx hb hK hP 8 1 rfl rfl ⟨by omega, by omega⟩ (by decide) dXM_copy_170 ?_
                          refine ji_zast hx hb hK hP hD hS 8 1 rfl rfl (by rw [e8]; exact kcp_b _ _ _ _ _ hy8 _) ⟨by omega, by omega⟩ (by decide) dXM_copy_171 (fun H locs hP hD hS => ?_)
                          have hP : va_P (dC, dI) vwCl [(ma, .inr (5, [.int (jI mth), .int (jI mn), .ref a0, .int (jI mp), .int (jI mw), .ref a1, .ref a2, .ref a3, .ref a4, .ref a5, .ref a6, .ref a7, .ref a8, .ref a9, .ref a10, .long (jL mu), .long (jL md), .int (jI mo), .ref a11])), (a1, .inl (cZ, 62, .inl (jA w1A))), (a2, .inl (cA, 62, .inl (jA w2A))), (a3, .inl (cZ, 496, .inl (jA w3B))), (a4, .inl (cA, 496, .inl (jA w4B))), (a5, .inl (cA, 496, .inl (jA w5B))), (a6, .inl (cA, 62, .inl (jA w6A))), (a7, .inl (cA, 248, .inl (jA w7C))), (a8, .inl (cZ, 8, .inl (jA (jset w8D kD (w8D (4 + kD)))))), (a9, .inl (cA, 64, .inl (jA y9)))] H := hP
                          have hD : va_D A [(ma, .inr (5, [.int (jI mth), .int (jI mn), .ref a0, .int (jI mp), .int (jI mw), .ref a1, .ref a2, .ref a3, .ref a4, .ref a5, .ref a6, .ref a7, .ref a8, .ref a9, .ref a10, .long (jL mu), .long (jL md), .int (jI mo), .ref a11])), (a1, .inl (cZ, 62, .inl (jA w1A))), (a2, .inl (cA, 62, .inl (jA w2A))), (a3, .inl (cZ, 496, .inl (jA w3B))), (a4, .inl (cA, 496, .inl (jA w4B))), (a5, .inl (cA, 496, .inl (jA w5B))), (a6, .inl (cA, 62, .inl (jA w6A))), (a7, .inl (cA, 248, .inl (jA w7C))), (a8, .inl (cZ, 8, .inl (jA (jset w8D kD (w8D (4 + kD)))))), (a9, .inl (cA, 64, .inl (jA y9)))] := hD
                          refine ji_iinc (k := 0) (lv' := [(1, .int (jI (kD + 1))), (0, .ref ma)]) hx hb dXM_copy_172 hl rfl (by decide) rfl (fun ls hl => ?_)
                          refine lv_goto (tgt := 153) hx hb dXM_copy_175 (by decide) ?_
                          exact ih153 (kD + 1) (jset w8D kD (w8D (4 + kD))) (by omega) (by first | assumption | omega | exact jset_b (by assumption) (by omega)) (by rw [e8]; exact kcp_step _ _ _ (by omega)) _ _ hP hD hS ls (lv_sub hl [0, 1] rfl)
                    exact loop153 (Int.toNat (4 - 0) + 1) 0 y8 (by omega) (by first | assumption | omega | exact jset_b (by assumption) (by omega)) ((kcp_zero _ _).symm) _ _ hP hD hS ls (lv_sub hl [0, 1] rfl)
                  · refine lv_aload_n hx hb dXM_copy_130 rfl (lv_at hl 1 rfl) ?_
                    refine va_get (D := (dC, dI)) (ci := 5) (v := .ref a7) (C := RXM) (T := TXM) (N := 19) hx hb hts (fun w h => jmem (inXM w h)) hown hK hP 0 rfl rfl 11 (by decide) (hts _ (jmem tw_639)) (fun _ h9 => h9) rfl dXM_copy_131 ?_
                    refine lv_iload_n hx hb dXM_copy_134 rfl (lv_at hl 0 rfl) ?_
                    refine lv_aload_n hx hb dXM_copy_135 rfl (lv_at hl 1 rfl) ?_
                    refine va_get (D := (dC, dI)) (ci := 5) (v := .ref a7) (C := RXM) (T := TXM) (N := 19) hx hb hts (fun w h => jmem (inXM w h)) hown hK hP 0 rfl rfl 11 (by decide) (hts _ (jmem tw_639)) (fun _ h9 => h9) rfl dXM_copy_136 ?_
                    refine ji_bipush hx hb dXM_copy_139 (by decide) ?_
                    refine lv_iload_n hx hb dXM_copy_141 rfl (lv_at hl 0 rfl) ?_
                    refine ji_iadd hx hb dXM_copy_142 ?_
                    refine ji_iald hx hb hK hP 7 0 rfl rfl ⟨by omega, by omega⟩ (by decide) dXM_copy_143 ?_
                    refine ji_iast hx hb hK hP hD hS 7 0 rfl rfl ⟨by omega, by omega⟩ (by decide) dXM_copy_144 (fun H locs hP hD hS => ?_)
                    have hP : va_P (dC, dI) vwCl [(ma, .inr (5, [.int (jI mth), .int (jI mn), .ref a0, .int (jI mp), .int (jI mw), .ref a1, .ref a2, .ref a3, .ref a4, .ref a5, .ref a6, .ref a7, .ref a8, .ref a9, .ref a10, .long (jL mu), .long (jL md), .int (jI mo), .ref a11])), (a1, .inl (cZ, 62, .inl (jA w1A))), (a2, .inl (cA, 62, .inl (jA w2A))), (a3, .inl (cZ, 496, .inl (jA w3B))), (a4, .inl (cA, 496, .inl (jA w4B))), (a5, .inl (cA, 496, .inl (jA w5B))), (a6, .inl (cA, 62, .inl (jA w6A))), (a7, .inl (cA, 248, .inl (jA (jset w7C kC (w7C (124 + kC)))))), (a8, .inl (cZ, 8, .inl (jA y8))), (a9, .inl (cA, 64, .inl (jA y9)))] H := hP
                    have hD : va_D A [(ma, .inr (5, [.int (jI mth), .int (jI mn), .ref a0, .int (jI mp), .int (jI mw), .ref a1, .ref a2, .ref a3, .ref a4, .ref a5, .ref a6, .ref a7, .ref a8, .ref a9, .ref a10, .long (jL mu), .long (jL md), .int (jI mo), .ref a11])), (a1, .inl (cZ, 62, .inl (jA w1A))), (a2, .inl (cA, 62, .inl (jA w2A))), (a3, .inl (cZ, 496, .inl (jA w3B))), (a4, .inl (cA, 496, .inl (jA w4B))), (a5, .inl (cA, 496, .inl (jA w5B))), (a6, .inl (cA, 62, .inl (jA w6A))), (a7, .inl (cA, 248, .inl (jA (jset w7C kC (w7C (124 + kC)))))), (a8, .inl (cZ, 8, .inl (jA y8))), (a9, .inl (cA, 64, .inl (jA y9)))] := hD
                    refine ji_iinc (k := 0) (lv' := [(1, .int (jI (kC + 1))), (0, .ref ma)]) hx hb dXM_copy_145 hl rfl (by decide) rfl (fun ls hl => ?_)
                    refine lv_goto (tgt := 124) hx hb dXM_copy_148 (by decide) ?_
                    exact ih124 (kC + 1) (jset w7C kC (w7C (124 + kC))) (by omega) (by first | assumption | omega | exact jset_b (by assumption) (by omega)) (by rw [e7]; exact kcp_step _ _ _ (by omega)) _ _ hP hD hS ls (lv_sub hl [0, 1] rfl)
              exact loop124 (Int.toNat (124 - 0) + 1) 0 y7 (by omega) (by first | assumption | omega | exact jset_b (by assumption) (by omega)) ((kcp_zero _ _).symm) _ _ hP hD hS ls (lv_sub hl [0, 1] rfl)
            · refine lv_aload_n hx hb dXM_copy_68 rfl (lv_at hl 1 rfl) ?_
              refine va_get (D := (dC, dI)) (ci := 5) (v := .ref a3) (C := RXM) (T := TXM) (N := 19) hx hb hts (fun w h => jmem (inXM w h)) hown hK hP 0 rfl rfl 7 (by decide) (hts _ (jmem tw_635)) (fun _ h9 => h9) rfl dXM_copy_69 ?_
              refine lv_iload_n hx hb dXM_copy_72 rfl (lv_at hl 0 rfl) ?_
              refine lv_aload_n hx hb dXM_copy_73 rfl (lv_at hl 1 rfl) ?_
              refine va_get (D := (dC, dI)) (ci := 5) (v := .ref a3) (C := RXM) (T := TXM) (N := 19) hx hb hts (fun w h => jmem (inXM w h)) hown hK hP 0 rfl rfl 7 (by decide) (hts _ (jmem tw_635)) (fun _ h9 => h9) rfl dXM_copy_74 ?_
              refine ji_sipush hx hb dXM_copy_77 (by decide) ?_
              refine lv_iload_n hx hb dXM_copy_80 rfl (lv_at hl 0 rfl) ?_
              refine ji_iadd hx hb dXM_copy_81 ?_
              refine ji_zald hx hb hK hP 3 1 rfl rfl ⟨by omega, by omega⟩ (by decide) dXM_copy_82 ?_
              refine ji_zast hx hb hK hP hD hS 3 1 rfl rfl (by rw [e3]; exact kcp_b _ _ _ _ _ hy3 _) ⟨by omega, by omega⟩ (by decide) dXM_copy_83 (fun H locs hP hD hS => ?_)
              have hP : va_P (dC, dI) vwCl [(ma, .inr (5, [.int (jI mth), .int (jI mn), .ref a0, .int (jI mp), .int (jI mw), .ref a1, .ref a2, .ref a3, .ref a4, .ref a5, .ref a6, .ref a7, .ref a8, .ref a9, .ref a10, .long (jL mu), .long (jL md), .int (jI mo), .ref a11])), (a1, .inl (cZ, 62, .inl (jA w1A))), (a2, .inl (cA, 62, .inl (jA w2A))), (a3, .inl (cZ, 496, .inl (jA (jset w3B kB (w3B (248 + kB)))))), (a4, .inl (cA, 496, .inl (jA w4B))), (a5, .inl (cA, 496, .inl (jA w5B))), (a6, .inl (cA, 62, .inl (jA w6A))), (a7, .inl (cA, 248, .inl (jA y7))), (a8, .inl (cZ, 8, .inl (jA y8))), (a9, .inl (cA, 64, .inl (jA y9)))] H := hP
              have hD : va_D A [(ma, .inr (5, [.int (jI mth), .int (jI mn), .ref a0, .int (jI mp), .int (jI mw), .ref a1, .ref a2, .ref a3, .ref a4, .ref a5, .ref a6, .ref a7, .ref a8, .ref a9, .ref a10, .long (jL mu), .long (jL md), .int (jI mo), .ref a11])), (a1, .inl (cZ, 62, .inl (jA w1A))), (a2, .inl (cA, 62, .inl (jA w2A))), (a3, .inl (cZ, 496, .inl (jA (jset w3B kB (w3B (248 + kB)))))), (a4, .inl (cA, 496, .inl (jA w4B))), (a5, .inl (cA, 496, .inl (jA w5B))), (a6, .inl (cA, 62, .inl (jA w6A))), (a7, .inl (cA, 248, .inl (jA y7))), (a8, .inl (cZ, 8, .inl (jA y8))), (a9, .inl (cA, 64, .inl (jA y9)))] := hD
              refine lv_aload_n hx hb dXM_copy_84 rfl (lv_at hl 1 rfl) ?_
              refine va_get (D := (dC, dI)) (ci := 5) (v := .ref a4) (C := RXM) (T := TXM) (N := 19) hx hb hts (fun w h => jmem (inXM w h)) hown hK hP 0 rfl rfl 8 (by decide) (hts _ (jmem tw_636)) (fun _ h9 => h9) rfl dXM_copy_85 ?_
              refine lv_iload_n hx hb dXM_copy_88 rfl (lv_at hl 0 rfl) ?_
              refine lv_aload_n hx hb dXM_copy_89 rfl (lv_at hl 1 rfl) ?_
              refine va_get (D := (dC, dI)) (ci := 5) (v := .ref a4) (C := RXM) (T := TXM) (N := 19) hx hb hts (fun w h => jmem (inXM w h)) hown hK hP 0 rfl rfl 8 (by decide) (hts _ (jmem tw_636)) (fun _ h9 => h9) rfl dXM_copy_90 ?_
              refine ji_sipush hx hb dXM_copy_93 (by decide) ?_
              refine lv_iload_n hx hb dXM_copy_96 rfl (lv_at hl 0 rfl) ?_
              refine ji_iadd hx hb dXM_copy_97 ?_
              refine ji_iald hx hb hK hP 4 0 rfl rfl ⟨by omega, by omega⟩ (by decide) dXM_copy_98 ?_
              refine ji_iast hx hb hK hP hD hS 4 0 rfl rfl ⟨by omega, by omega⟩ (by decide) dXM_copy_99 (fun H locs hP hD hS => ?_)
              have hP : va_P (dC, dI) vwCl [(ma, .inr (5, [.int (jI mth), .int (jI mn), .ref a0, .int (jI mp), .int (jI mw), .ref a1, .ref a2, .ref a3, .ref a4, .ref a5, .ref a6, .ref a7, .ref a8, .ref a9, .ref a10, .long (jL mu), .long (jL md), .int (jI mo), .ref a11])), (a1, .inl (cZ, 62, .inl (jA w1A))), (a2, .inl (cA, 62, .inl (jA w2A))), (a3, .inl (cZ, 496, .inl (jA (jset w3B kB (w3B (248 + kB)))))), (a4, .inl (cA, 496, .inl (jA (jset w4B kB (w4B (248 + kB)))))), (a5, .inl (cA, 496, .inl (jA w5B))), (a6, .inl (cA, 62, .inl (jA w6A))), (a7, .inl (cA, 248, .inl (jA y7))), (a8, .inl (cZ, 8, .inl (jA y8))), (a9, .inl (cA, 64, .inl (jA y9)))] H := hP
              have hD : va_D A [(ma, .inr (5, [.int (jI mth), .int (jI mn), .ref a0, .int (jI mp), .int (jI mw), .ref a1, .ref a2, .ref a3, .ref a4, .ref a5, .ref a6, .ref a7, .ref a8, .ref a9, .ref a10, .long (jL mu), .long (jL md), .int (jI mo), .ref a11])), (a1, .inl (cZ, 62, .inl (jA w1A))), (a2, .inl (cA, 62, .inl (jA w2A))), (a3, .inl (cZ, 496, .inl (jA (jset w3B kB (w3B (248 + kB)))))), (a4, .inl (cA, 496, .inl (jA (jset w4B kB (w4B (248 + kB)))))), (a5, .inl (cA, 496, .inl (jA w5B))), (a6, .inl (cA, 62, .inl (jA w6A))), (a7, .inl (cA, 248, .inl (jA y7))), (a8, .inl (cZ, 8, .inl (jA y8))), (a9, .inl (cA, 64, .inl (jA y9)))] := hD
              refine lv_aload_n hx hb dXM_copy_100 rfl (lv_at hl 1 rfl) ?_
              refine va_get (D := (dC, dI)) (ci := 5) (v := .ref a5) (C := RXM) (T := TXM) (N := 19) hx hb hts (fun w h => jmem (inXM w h)) hown hK hP 0 rfl rfl 9 (by decide) (hts _ (jmem tw_637)) (fun _ h9 => h9) rfl dXM_copy_101 ?_
              refine lv_iload_n hx hb dXM_copy_104 rfl (lv_at hl 0 rfl) ?_
              refine lv_aload_n hx hb dXM_copy_105 rfl (lv_at hl 1 rfl) ?_
              refine va_get (D := (dC, dI)) (ci := 5) (v := .ref a5) (C := RXM) (T := TXM) (N := 19) hx hb hts (fun w h => jmem (inXM w h)) hown hK hP 0 rfl rfl 9 (by decide) (hts _ (jmem tw_637)) (fun _ h9 => h9) rfl dXM_copy_106 ?_
              refine ji_sipush hx hb dXM_copy_109 (by decide) ?_
              refine lv_iload_n hx hb dXM_copy_112 rfl (lv_at hl 0 rfl) ?_
              refine ji_iadd hx hb dXM_copy_113 ?_
              refine ji_iald hx hb hK hP 5 0 rfl rfl ⟨by omega, by omega⟩ (by decide) dXM_copy_114 ?_
              refine ji_iast hx hb hK hP hD hS 5 0 rfl rfl ⟨by omega, by omega⟩ (by decide) dXM_copy_115 (fun H locs hP hD hS => ?_)
              have hP : va_P (dC, dI) vwCl [(ma, .inr (5, [.int (jI mth), .int (jI mn), .ref a0, .int (jI mp), .int (jI mw), .ref a1, .ref a2, .ref a3, .ref a4, .ref a5, .ref a6, .ref a7, .ref a8, .ref a9, .ref a10, .long (jL mu), .long (jL md), .int (jI mo), .ref a11])), (a1, .inl (cZ, 62, .inl (jA w1A))), (a2, .inl (cA, 62, .inl (jA w2A))), (a3, .inl (cZ, 496, .inl (jA (jset w3B kB (w3B (248 + kB)))))), (a4, .inl (cA, 496, .inl (jA (jset w4B kB (w4B (248 + kB)))))), (a5, .inl (cA, 496, .inl (jA (jset w5B kB (w5B (248 + kB)))))), (a6, .inl (cA, 62, .inl (jA w6A))), (a7, .inl (cA, 248, .inl (jA y7))), (a8, .inl (cZ, 8, .inl (jA y8))), (a9, .inl (cA, 64, .inl (jA y9)))] H := hP
              have hD : va_D A [(ma, .inr (5, [.int (jI mth), .int (jI mn), .ref a0, .int (jI mp), .int (jI mw), .ref a1, .ref a2, .ref a3, .ref a4, .ref a5, .ref a6, .ref a7, .ref a8, .ref a9, .ref a10, .long (jL mu), .long (jL md), .int (jI mo), .ref a11])), (a1, .inl (cZ, 62, .inl (jA w1A))), (a2, .inl (cA, 62, .inl (jA w2A))), (a3, .inl (cZ, 496, .inl (jA (jset w3B kB (w3B (248 + kB)))))), (a4, .inl (cA, 496, .inl (jA (jset w4B kB (w4B (248 + kB)))))), (a5, .inl (cA, 496, .inl (jA (jset w5B kB (w5B (248 + kB)))))), (a6, .inl (cA, 62, .inl (jA w6A))), (a7, .inl (cA, 248, .inl (jA y7))), (a8, .inl (cZ, 8, .inl (jA y8))), (a9, .inl (cA, 64, .inl (jA y9)))] := hD
              refine ji_iinc (k := 0) (lv' := [(1, .int (jI (kB + 1))), (0, .ref ma)]) hx hb dXM_copy_116 hl rfl (by decide) rfl (fun ls hl => ?_)
              refine lv_goto (tgt := 61) hx hb dXM_copy_119 (by decide) ?_
              exact ih61 (kB + 1) (jset w3B kB (w3B (248 + kB))) (jset w4B kB (w4B (248 + kB))) (jset w5B kB (w5B (248 + kB))) (by omega) (by first | assumption | omega | exact jset_b (by assumption) (by omega)) (by rw [e3]; exact kcp_step _ _ _ (by omega)) (by rw [e4]; exact kcp_step _ _ _ (by omega)) (by rw [e5]; exact kcp_step _ _ _ (by omega)) _ _ hP hD hS ls (lv_sub hl [0, 1] rfl)
        exact loop61 (Int.toNat (248 - 0) + 1) 0 y3 y4 y5 (by omega) (by first | assumption | omega | exact jset_b (by assumption) (by omega)) ((kcp_zero _ _).symm) ((kcp_zero _ _).symm) ((kcp_zero _ _).symm) _ _ hP hD hS ls (lv_sub hl [0, 1] rfl)
      · refine lv_aload_n hx hb dXM_copy_8 rfl (lv_at hl 1 rfl) ?_
        refine va_get (D := (dC, dI)) (ci := 5) (v := .ref a1) (C := RXM) (T := TXM) (N := 19) hx hb hts (fun w h => jmem (inXM w h)) hown hK hP 0 rfl rfl 5 (by decide) (hts _ (jmem tw_633)) (fun _ h9 => h9) rfl dXM_copy_9 ?_
        refine lv_iload_n hx hb dXM_copy_12 rfl (lv_at hl 0 rfl) ?_
        refine lv_aload_n hx hb dXM_copy_13 rfl (lv_at hl 1 rfl) ?_
        refine va_get (D := (dC, dI)) (ci := 5) (v := .ref a1) (C := RXM) (T := TXM) (N := 19) hx hb hts (fun w h => jmem (inXM w h)) hown hK hP 0 rfl rfl 5 (by decide) (hts _ (jmem tw_633)) (fun _ h9 => h9) rfl dXM_copy_14 ?_
        refine ji_bipush hx hb dXM_copy_17 (by decide) ?_
        refine lv_iload_n hx hb dXM_copy_19 rfl (lv_at hl 0 rfl) ?_
        refine ji_iadd hx hb dXM_copy_20 ?_
        refine ji_zald hx hb hK hP 1 1 rfl rfl ⟨by omega, by omega⟩ (by decide) dXM_copy_21 ?_
        refine ji_zast hx hb hK hP hD hS 1 1 rfl rfl (by rw [e1]; exact kcp_b _ _ _ _ _ hy1 _) ⟨by omega, by omega⟩ (by decide) dXM_copy_22 (fun H locs hP hD hS => ?_)
        have hP : va_P (dC, dI) vwCl [(ma, .inr (5, [.int (jI mth), .int (jI mn), .ref a0, .int (jI mp), .int (jI mw), .ref a1, .ref a2, .ref a3, .ref a4, .ref a5, .ref a6, .ref a7, .ref a8, .ref a9, .ref a10, .long (jL mu), .long (jL md), .int (jI mo), .ref a11])), (a1, .inl (cZ, 62, .inl (jA (jset w1A kA (w1A (31 + kA)))))), (a2, .inl (cA, 62, .inl (jA w2A))), (a3, .inl (cZ, 496, .inl (jA y3))), (a4, .inl (cA, 496, .inl (jA y4))), (a5, .inl (cA, 496, .inl (jA y5))), (a6, .inl (cA, 62, .inl (jA w6A))), (a7, .inl (cA, 248, .inl (jA y7))), (a8, .inl (cZ, 8, .inl (jA y8))), (a9, .inl (cA, 64, .inl (jA y9)))] H := hP
        have hD : va_D A [(ma, .inr (5, [.int (jI mth), .int (jI mn), .ref a0, .int (jI mp), .int (jI mw), .ref a1, .ref a2, .ref a3, .ref a4, .ref a5, .ref a6, .ref a7, .ref a8, .ref a9, .ref a10, .long (jL mu), .long (jL md), .int (jI mo), .ref a11])), (a1, .inl (cZ, 62, .inl (jA (jset w1A kA (w1A (31 + kA)))))), (a2, .inl (cA, 62, .inl (jA w2A))), (a3, .inl (cZ, 496, .inl (jA y3))), (a4, .inl (cA, 496, .inl (jA y4))), (a5, .inl (cA, 496, .inl (jA y5))), (a6, .inl (cA, 62, .inl (jA w6A))), (a7, .inl (cA, 248, .inl (jA y7))), (a8, .inl (cZ, 8, .inl (jA y8))), (a9, .inl (cA, 64, .inl (jA y9)))] := hD
        refine lv_aload_n hx hb dXM_copy_23 rfl (lv_at hl 1 rfl) ?_
        refine va_get (D := (dC, dI)) (ci := 5) (v := .ref a2) (C := RXM) (T := TXM) (N := 19) hx hb hts (fun w h => jmem (inXM w h)) hown hK hP 0 rfl rfl 6 (by decide) (hts _ (jmem tw_634)) (fun _ h9 => h9) rfl dXM_copy_24 ?_
        refine lv_iload_n hx hb dXM_copy_27 rfl (lv_at hl 0 rfl) ?_
        refine lv_aload_n hx hb dXM_copy_28 rfl (lv_at hl 1 rfl) ?_
        refine va_get (D := (dC, dI)) (ci := 5) (v := .ref a2) (C := RXM) (T := TXM) (N := 19) hx hb hts (fun w h => jmem (inXM w h)) hown hK hP 0 rfl rfl 6 (by decide) (hts _ (jmem tw_634)) (fun _ h9 => h9) rfl dXM_copy_29 ?_
        refine ji_bipush hx hb dXM_copy_32 (by decide) ?_
        refine lv_iload_n hx hb dXM_copy_34 rfl (lv_at hl 0 rfl) ?_
        refine ji_iadd hx hb dXM_copy_35 ?_
        refine ji_iald hx hb hK hP 2 0 rfl rfl ⟨by omega, by omega⟩ (by decide) dXM_copy_36 ?_
        refine ji_iast hx hb hK hP hD hS 2 0 rfl rfl ⟨by omega, by omega⟩ (by decide) dXM_copy_37 (fun H locs hP hD hS => ?_)
        have hP : va_P (dC, dI) vwCl [(ma, .inr (5, [.int (jI mth), .int (jI mn), .ref a0, .int (jI mp), .int (jI mw), .ref a1, .ref a2, .ref a3, .ref a4, .ref a5, .ref a6, .ref a7, .ref a8, .ref a9, .ref a10, .long (jL mu), .long (jL md), .int (jI mo), .ref a11])), (a1, .inl (cZ, 62, .inl (jA (jset w1A kA (w1A (31 + kA)))))), (a2, .inl (cA, 62, .inl (jA (jset w2A kA (w2A (31 + kA)))))), (a3, .inl (cZ, 496, .inl (jA y3))), (a4, .inl (cA, 496, .inl (jA y4))), (a5, .inl (cA, 496, .inl (jA y5))), (a6, .inl (cA, 62, .inl (jA w6A))), (a7, .inl (cA, 248, .inl (jA y7))), (a8, .inl (cZ, 8, .inl (jA y8))), (a9, .inl (cA, 64, .inl (jA y9)))] H := hP
        have hD : va_D A [(ma, .inr (5, [.int (jI mth), .int (jI mn), .ref a0, .int (jI mp), .int (jI mw), .ref a1, .ref a2, .ref a3, .ref a4, .ref a5, .ref a6, .ref a7, .ref a8, .ref a9, .ref a10, .long (jL mu), .long (jL md), .int (jI mo), .ref a11])), (a1, .inl (cZ, 62, .inl (jA (jset w1A kA (w1A (31 + kA)))))), (a2, .inl (cA, 62, .inl (jA (jset w2A kA (w2A (31 + kA)))))), (a3, .inl (cZ, 496, .inl (jA y3))), (a4, .inl (cA, 496, .inl (jA y4))), (a5, .inl (cA, 496, .inl (jA y5))), (a6, .inl (cA, 62, .inl (jA w6A))), (a7, .inl (cA, 248, .inl (jA y7))), (a8, .inl (cZ, 8, .inl (jA y8))), (a9, .inl (cA, 64, .inl (jA y9)))] := hD
        refine lv_aload_n hx hb dXM_copy_38 rfl (lv_at hl 1 rfl) ?_
        refine va_get (D := (dC, dI)) (ci := 5) (v := .ref a6) (C := RXM) (T := TXM) (N := 19) hx hb hts (fun w h => jmem (inXM w h)) hown hK hP 0 rfl rfl 10 (by decide) (hts _ (jmem tw_638)) (fun _ h9 => h9) rfl dXM_copy_39 ?_
        refine lv_iload_n hx hb dXM_copy_42 rfl (lv_at hl 0 rfl) ?_
        refine lv_aload_n hx hb dXM_copy_43 rfl (lv_at hl 1 rfl) ?_
        refine va_get (D := (dC, dI)) (ci := 5) (v := .ref a6) (C := RXM) (T := TXM) (N := 19) hx hb hts (fun w h => jmem (inXM w h)) hown hK hP 0 rfl rfl 10 (by decide) (hts _ (jmem tw_638)) (fun _ h9 => h9) rfl dXM_copy_44 ?_
        refine ji_bipush hx hb dXM_copy_47 (by decide) ?_
        refine lv_iload_n hx hb dXM_copy_49 rfl (lv_at hl 0 rfl) ?_
        refine ji_iadd hx hb dXM_copy_50 ?_
        refine ji_iald hx hb hK hP 6 0 rfl rfl ⟨by omega, by omega⟩ (by decide) dXM_copy_51 ?_
        refine ji_iast hx hb hK hP hD hS 6 0 rfl rfl ⟨by omega, by omega⟩ (by decide) dXM_copy_52 (fun H locs hP hD hS => ?_)
        have hP : va_P (dC, dI) vwCl [(ma, .inr (5, [.int (jI mth), .int (jI mn), .ref a0, .int (jI mp), .int (jI mw), .ref a1, .ref a2, .ref a3, .ref a4, .ref a5, .ref a6, .ref a7, .ref a8, .ref a9, .ref a10, .long (jL mu), .long (jL md), .int (jI mo), .ref a11])), (a1, .inl (cZ, 62, .inl (jA (jset w1A kA (w1A (31 + kA)))))), (a2, .inl (cA, 62, .inl (jA (jset w2A kA (w2A (31 + kA)))))), (a3, .inl (cZ, 496, .inl (jA y3))), (a4, .inl (cA, 496, .inl (jA y4))), (a5, .inl (cA, 496, .inl (jA y5))), (a6, .inl (cA, 62, .inl (jA (jset w6A kA (w6A (31 + kA)))))), (a7, .inl (cA, 248, .inl (jA y7))), (a8, .inl (cZ, 8, .inl (jA y8))), (a9, .inl (cA, 64, .inl (jA y9)))] H := hP
        have hD : va_D A [(ma, .inr (5, [.int (jI mth), .int (jI mn), .ref a0, .int (jI mp), .int (jI mw), .ref a1, .ref a2, .ref a3, .ref a4, .ref a5, .ref a6, .ref a7, .ref a8, .ref a9, .ref a10, .long (jL mu), .long (jL md), .int (jI mo), .ref a11])), (a1, .inl (cZ, 62, .inl (jA (jset w1A kA (w1A (31 + kA)))))), (a2, .inl (cA, 62, .inl (jA (jset w2A kA (w2A (31 + kA)))))), (a3, .inl (cZ, 496, .inl (jA y3))), (a4, .inl (cA, 496, .inl (jA y4))), (a5, .inl (cA, 496, .inl (jA y5))), (a6, .inl (cA, 62, .inl (jA (jset w6A kA (w6A (31 + kA)))))), (a7, .inl (cA, 248, .inl (jA y7))), (a8, .inl (cZ, 8, .inl (jA y8))), (a9, .inl (cA, 64, .inl (jA y9)))] := hD
        refine ji_iinc (k := 0) (lv' := [(1, .int (jI (kA + 1))), (0, .ref ma)]) hx hb dXM_copy_53 hl rfl (by decide) rfl (fun ls hl => ?_)
        refine lv_goto (tgt := 2) hx hb dXM_copy_56 (by decide) ?_
        exact ih2 (kA + 1) (jset w1A kA (w1A (31 + kA))) (jset w2A kA (w2A (31 + kA))) (jset w6A kA (w6A (31 + kA))) (by omega) (by first | assumption | omega | exact jset_b (by assumption) (by omega)) (by rw [e1]; exact kcp_step _ _ _ (by omega)) (by rw [e2]; exact kcp_step _ _ _ (by omega)) (by rw [e6]; exact kcp_step _ _ _ (by omega)) _ _ hP hD hS ls (lv_sub hl [0, 1] rfl)
  exact loop2 (Int.toNat (31 - 0) + 1) 0 y1 y2 y6 (by omega) (by first | assumption | omega | exact jset_b (by assumption) (by omega)) ((kcp_zero _ _).symm) ((kcp_zero _ _).symm) ((kcp_zero _ _).symm) _ _ hP hD hS ls (lv_sub hl [0, 1] rfl)
