/-! fractions in lowest terms: numbers alone -/
theorem fz_gcd (a b : Nat) : Nat.gcd a b = Nat.gcd b (a % b) := by rw [Nat.gcd_comm a b, Nat.gcd_rec b a, Nat.gcd_comm]
theorem fz_half (v r : Nat) (h1 : 0 < r) (h2 : r < v) (j : Nat) (h : v < 2 ^ (j + 1)) : v % r < 2 ^ j := by
  have h3 := Nat.mod_lt v h1
  have h4 := Nat.mod_add_div v r
  have h5 : 1 ≤ v / r := (Nat.le_div_iff_mul_le h1).mpr (by omega)
  have h6 : r * 1 ≤ r * (v / r) := Nat.mul_le_mul_left r h5
  rw [Nat.pow_succ] at h
  omega
/-- the fraction up / down stands for sum / 232792560 in lowest terms -/
def kFr (U D S : Int) : Prop := ∃ (u d c : Nat), U = u ∧ D = d ∧ 1 ≤ d ∧ 1 ≤ c ∧ Nat.gcd u d = 1 ∧ S = ((u * c : Nat) : Int) ∧ 232792560 = d * c
theorem kFr_0 : kFr 0 1 0 := ⟨0, 1, 232792560, rfl, rfl, by decide, by decide, by decide, by decide, by decide⟩
theorem fz_dvd (o : Int) (h : 1 ≤ o ∧ o ≤ 20) : ∃ (n t : Nat), o = n ∧ 1 ≤ n ∧ 232792560 = n * t ∧ Int.tdiv 232792560 o = t := by
  have h9 : o = 1 ∨ o = 2 ∨ o = 3 ∨ o = 4 ∨ o = 5 ∨ o = 6 ∨ o = 7 ∨ o = 8 ∨ o = 9 ∨ o = 10 ∨ o = 11 ∨ o = 12 ∨ o = 13 ∨ o = 14 ∨ o = 15 ∨ o = 16 ∨ o = 17 ∨ o = 18 ∨ o = 19 ∨ o = 20 := by omega
  rcases h9 with rfl | rfl | rfl | rfl | rfl | rfl | rfl | rfl | rfl | rfl | rfl | rfl | rfl | rfl | rfl | rfl | rfl | rfl | rfl | rfl
  · exact ⟨1, 232792560, rfl, by decide, by decide, by decide⟩
  · exact ⟨2, 116396280, rfl, by decide, by decide, by decide⟩
  · exact ⟨3, 77597520, rfl, by decide, by decide, by decide⟩
  · exact ⟨4, 58198140, rfl, by decide, by decide, by decide⟩
  · exact ⟨5, 46558512, rfl, by decide, by decide, by decide⟩
  · exact ⟨6, 38798760, rfl, by decide, by decide, by decide⟩
  · exact ⟨7, 33256080, rfl, by decide, by decide, by decide⟩
  · exact ⟨8, 29099070, rfl, by decide, by decide, by decide⟩
  · exact ⟨9, 25865840, rfl, by decide, by decide, by decide⟩
  · exact ⟨10, 23279256, rfl, by decide, by decide, by decide⟩
  · exact ⟨11, 21162960, rfl, by decide, by decide, by decide⟩
  · exact ⟨12, 19399380, rfl, by decide, by decide, by decide⟩
  · exact ⟨13, 17907120, rfl, by decide, by decide, by decide⟩
  · exact ⟨14, 16628040, rfl, by decide, by decide, by decide⟩
  · exact ⟨15, 15519504, rfl, by decide, by decide, by decide⟩
  · exact ⟨16, 14549535, rfl, by decide, by decide, by decide⟩
  · exact ⟨17, 13693680, rfl, by decide, by decide, by decide⟩
  · exact ⟨18, 12932920, rfl, by decide, by decide, by decide⟩
  · exact ⟨19, 12252240, rfl, by decide, by decide, by decide⟩
  · exact ⟨20, 11639628, rfl, by decide, by decide, by decide⟩
theorem fz_un (u d S K : Nat) (hd : 1 ≤ d) (hK : 1 ≤ K) (hg : Nat.gcd u d = 1) (h : u * K = S * d) : ∃ c, 1 ≤ c ∧ S = u * c ∧ K = d * c := by
  have h1 : d ∣ K := by
    have h2 : d ∣ u * K := ⟨S, by rw [h, Nat.mul_comm]⟩
    exact Nat.Coprime.dvd_of_dvd_mul_left (show Nat.Coprime d u by rw [Nat.Coprime, Nat.gcd_comm]; exact hg) h2
  obtain ⟨c, rfl⟩ := h1
  refine ⟨c, ?_, ?_, rfl⟩
  · cases c with
    | zero => omega
    | succ c => omega
  · have h3 : d * (u * c) = d * S := by rw [Nat.mul_left_comm, h, Nat.mul_comm]
    exact (Nat.eq_of_mul_eq_mul_left (by omega) h3).symm
theorem kFr_step (U D S s o : Int) (h : kFr U D S) (hs : 0 ≤ s) (ho : 1 ≤ o ∧ o ≤ 20) : kFr (Int.tdiv (U * o + s * D) (Nat.gcd (D * o).toNat (U * o + s * D).toNat)) (Int.tdiv (D * o) (Nat.gcd (D * o).toNat (U * o + s * D).toNat)) (S + s * Int.tdiv 232792560 o) := by
  obtain ⟨u, d, c, rfl, rfl, hd, hc, hg, rfl, hK⟩ := h
  obtain ⟨n, t, rfl, hn, hK2, ht⟩ := fz_dvd o ho
  obtain ⟨s, rfl⟩ := Int.eq_ofNat_of_zero_le hs
  rw [ht]
  have e1 : ((u : Int) * n + s * d) = ((u * n + s * d : Nat) : Int) := by simp
  have e2 : ((d : Int) * n) = ((d * n : Nat) : Int) := by simp
  have e3 : (((u * c : Nat) : Int) + s * t) = ((u * c + s * t : Nat) : Int) := by simp
  rw [e1, e2, e3, Int.toNat_natCast, Int.toNat_natCast, ← Int.ofNat_tdiv, ← Int.ofNat_tdiv]
  have hP : 1 ≤ d * n := Nat.mul_pos hd hn
  generalize hPe : d * n = P at hP ⊢
  generalize hNe : u * n + s * d = N
  obtain ⟨d', u', hco, h1, h2⟩ := Nat.exists_coprime P N
  have hgp : 0 < Nat.gcd P N := Nat.gcd_pos_of_pos_left N hP
  generalize Nat.gcd P N = g at h1 h2 hgp ⊢
  have q1 : N / g = u' := by rw [h2]; exact Nat.mul_div_cancel u' hgp
  have q2 : P / g = d' := by rw [h1]; exact Nat.mul_div_cancel d' hgp
  rw [q1, q2]
  have hd' : 1 ≤ d' := by
    cases d' with
    | zero => omega
    | succ d' => omega
  have key : u' * 232792560 = (u * c + s * t) * d' := by
    have k1 : (u' * 232792560) * g = ((u * c + s * t) * d') * g := by
      have k2 : (u' * 232792560) * g = N * 232792560 := by rw [h2, Nat.mul_right_comm]
      have k3 : ((u * c + s * t) * d') * g = (u * c + s * t) * P := by rw [h1, Nat.mul_assoc]
      rw [k2, k3, ← hPe, ← hNe, Nat.add_mul, Nat.add_mul]
      have k4 : u * n * 232792560 = u * c * (d * n) := by rw [hK]; simp only [Nat.mul_comm, Nat.mul_left_comm]
      have k5 : s * d * 232792560 = s * t * (d * n) := by rw [hK2]; simp only [Nat.mul_comm, Nat.mul_left_comm]
      rw [k4, k5]
    exact Nat.eq_of_mul_eq_mul_right hgp k1
  obtain ⟨c', hc', hS, hK'⟩ := fz_un u' d' (u * c + s * t) 232792560 hd' (by decide) (by rw [Nat.gcd_comm]; exact hco) key
  exact ⟨u', d', c', rfl, rfl, hd', hc', by rw [Nat.gcd_comm]; exact hco, by rw [hS], hK'⟩
theorem kFr_gcd (U D S : Int) (h : kFr U D S) : ∃ (a g : Nat), S = (a : Int) ∧ g = Nat.gcd a 232792560 ∧ 1 ≤ g ∧ Int.tdiv S g = U ∧ Int.tdiv 232792560 g = D := by
  obtain ⟨u, d, c, rfl, rfl, hd, hc, hg, rfl, hK⟩ := h
  have e : Nat.gcd (u * c) 232792560 = c := by
    conv => lhs; rw [hK]
    rw [Nat.gcd_mul_right, hg, Nat.one_mul]
  refine ⟨u * c, c, rfl, e.symm, hc, ?_, ?_⟩
  · rw [← Int.ofNat_tdiv, Nat.mul_div_cancel u (by omega)]
  · have e2 : ((232792560 : Nat) : Int) = 232792560 := rfl
    rw [← e2, ← Int.ofNat_tdiv, hK, Nat.mul_div_cancel d (by omega)]
theorem kFr_above (U D S L : Int) (h : kFr U D S) : L * D < U ↔ L * 232792560 < S := by
  obtain ⟨u, d, c, rfl, rfl, hd, hc, hg, rfl, hK⟩ := h
  have e2 : (232792560 : Int) = (d : Int) * c := by
    have : ((232792560 : Nat) : Int) = ((d * c : Nat) : Int) := by rw [← hK]
    rw [Int.natCast_mul] at this
    exact this
  have e3 : ((u * c : Nat) : Int) = (u : Int) * c := Int.natCast_mul u c
  have hc2 : (0 : Int) < (c : Int) := by omega
  rw [e3, e2, ← Int.mul_assoc]
  exact ⟨fun h => Int.mul_lt_mul_of_pos_right h hc2, fun h => Int.lt_of_mul_lt_mul_right h (by omega)⟩
