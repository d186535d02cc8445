theorem f_XG_needBelow_e (zi : Int) (zb : Int) : (f_XG_needBelow zi zb) = 0 ∨ (f_XG_needBelow zi zb) = 1 := by
  rw [f_XG_needBelow_s]
  try simp only []
  (repeat' split) <;> first | omega | (dsimp only; omega)
theorem f_XG_needPlace_e (zi : Int) : (f_XG_needPlace zi) = 0 ∨ (f_XG_needPlace zi) = 1 := by
  rw [f_XG_needPlace_s]
  try simp only []
  (repeat' split) <;> first | omega | (dsimp only; omega)
theorem f_XG_needGrade_e (bg : Int) (bf : Int) (zi : Int) : (f_XG_needGrade bg bf zi) = 0 ∨ (f_XG_needGrade bg bf zi) = 1 := by
  rw [f_XG_needGrade_s]
  try simp only []
  (repeat' split) <;> first | omega | (dsimp only; omega)
theorem f_XG_needFormula_e (bg : Int) (bf : Int) (zk : Int) : (f_XG_needFormula bg bf zk) = 0 ∨ (f_XG_needFormula bg bf zk) = 2 := by
  rw [f_XG_needFormula_s]
  try simp only []
  (repeat' split) <;> first | omega | (dsimp only; omega)
theorem f_XG_sign_e (tn : Int) (tp : Int) (tw : Int) (tf : Int → Int) (zy : Int) (z1 : Int) : (f_XG_sign tn tp tw tf zy z1).1 = 0 ∨ (f_XG_sign tn tp tw tf zy z1).1 = 3 ∨ (f_XG_sign tn tp tw tf zy z1).1 = 4 := by
  rw [f_XG_sign_s]
  try simp only []
  (repeat' split) <;> first | omega | (dsimp only; omega)
theorem f_XG_span_e (bg : Int) (bf : Int) (fp : Int → Int) (fl : Int → Int) (fh : Int → Int) (z1 : Int) (z2 : Int) (z3 : Int) : (f_XG_span bg bf fp fl fh z1 z2 z3).1 = 0 ∨ (f_XG_span bg bf fp fl fh z1 z2 z3).1 = 1 := by
  have h0 := f_XG_needGrade_e bg bf z1
  have h1 := f_XG_needBelow_e z2 8
  have h2 := f_XG_needBelow_e z3 2
  rw [f_XG_span_s]
  try simp only []
  (repeat' split) <;> first | omega | (dsimp only; omega)
theorem f_XG_limit_e (bg : Int) (bf : Int) (fp : Int → Int) (fq : Int → Int) (z1 : Int) (z2 : Int) : (f_XG_limit bg bf fp fq z1 z2).1 = 0 ∨ (f_XG_limit bg bf fp fq z1 z2).1 = 1 := by
  have h0 := f_XG_needGrade_e bg bf z1
  have h1 := f_XG_needBelow_e z2 4
  rw [f_XG_limit_s]
  try simp only []
  (repeat' split) <;> first | omega | (dsimp only; omega)
theorem f_XG_equivalent_e (bg : Int) (bf : Int) (fp : Int → Int) (fl : Int → Int) (fh : Int → Int) (fd : Int → Int) (fe : Int → Int) (z1 : Int) (z2 : Int) (z3 : Int) (z4 : Int) : (f_XG_equivalent bg bf fp fl fh fd fe z1 z2 z3 z4).1 = 0 ∨ (f_XG_equivalent bg bf fp fl fh fd fe z1 z2 z3 z4).1 = 1 ∨ (f_XG_equivalent bg bf fp fl fh fd fe z1 z2 z3 z4).1 = 2 := by
  have h0 := f_XG_needGrade_e bg bf z1
  have h1 := f_XG_needBelow_e z2 4
  have h2 := f_XG_needBelow_e z3 2
  have h3 := f_XG_needBelow_e z4 2
  have h4 := f_XG_needFormula_e bg bf z2
  rw [f_XG_equivalent_s]
  try simp only []
  (repeat' split) <;> first | omega | (dsimp only; omega)
theorem f_XG_share_e (fs : Int → Int) (z1 : Int) (z2 : Int) : (f_XG_share fs z1 z2).1 = 0 ∨ (f_XG_share fs z1 z2).1 = 1 ∨ (f_XG_share fs z1 z2).1 = 3 := by
  have h0 := f_XG_needBelow_e z1 8
  rw [f_XG_share_s]
  try simp only []
  (repeat' split) <;> first | omega | (dsimp only; omega)
theorem f_XG_value_e (bg : Int) (bf : Int) (fd : Int → Int) (fs : Int → Int) (z1 : Int) (z2 : Int) : (f_XG_value bg bf fd fs z1 z2).1 = 0 ∨ (f_XG_value bg bf fd fs z1 z2).1 = 1 ∨ (f_XG_value bg bf fd fs z1 z2).1 = 2 := by
  have h0 := f_XG_needBelow_e z1 4
  have h1 := f_XG_needBelow_e z2 2
  have h2 := f_XG_needFormula_e bg bf z1
  rw [f_XG_value_s]
  try simp only []
  (repeat' split) <;> first | omega | (dsimp only; omega)
theorem f_XG_fits_L7_e (bg : Int) (bf : Int) (fp : Int → Int) (fl : Int → Int) (fh : Int → Int) (fq : Int → Int) (fd : Int → Int) (fs : Int → Int) (z1 : Int) : ∀ (n : Nat) (k : Int), (f_XG_fits_L7 bg bf fp fl fh fq fd fs z1 n k).1 = 0 := by
  intro n
  induction n with
  | zero => intro k; rw [f_XG_fits_L7_z]
  | succ n ih =>
    intro k
    rw [f_XG_fits_L7_s]
    try simp only []
    (repeat' split) <;> first | rfl | exact ih _
theorem f_XG_fits_e (bg : Int) (bf : Int) (fp : Int → Int) (fl : Int → Int) (fh : Int → Int) (fq : Int → Int) (fd : Int → Int) (fs : Int → Int) (z1 : Int) : (f_XG_fits bg bf fp fl fh fq fd fs z1).1 = 0 ∨ (f_XG_fits bg bf fp fl fh fq fd fs z1).1 = 1 := by
  have h0 := f_XG_needGrade_e bg bf z1
  have hL := f_XG_fits_L7_e bg bf fp fl fh fq fd fs z1
  rw [f_XG_fits_s]
  try simp only []
  (repeat' split) <;> first | omega | (dsimp only; omega) | (rw [hL]; omega) | (simp only [hL]; omega) | (left; exact hL _ _ _) | (left; exact hL _ _)
theorem f_XG_holds_L12_e (bg : Int) (bf : Int) (fp : Int → Int) (fl : Int → Int) (fh : Int → Int) (fq : Int → Int) (fd : Int → Int) (fe : Int → Int) (z1 : Int) (z2 : Int) : ∀ (n : Nat) (k : Int), (f_XG_holds_L12 bg bf fp fl fh fq fd fe z1 z2 n k).1 = 0 := by
  intro n
  induction n with
  | zero => intro k; rw [f_XG_holds_L12_z]
  | succ n ih =>
    intro k
    rw [f_XG_holds_L12_s]
    try simp only []
    (repeat' split) <;> first | rfl | exact ih _
theorem f_XG_holds_e (bg : Int) (bf : Int) (fp : Int → Int) (fl : Int → Int) (fh : Int → Int) (fq : Int → Int) (fd : Int → Int) (fe : Int → Int) (z1 : Int) (z2 : Int) : (f_XG_holds bg bf fp fl fh fq fd fe z1 z2).1 = 0 ∨ (f_XG_holds bg bf fp fl fh fq fd fe z1 z2).1 = 1 := by
  have h0 := f_XG_needGrade_e bg bf z1
  have h1 := f_XG_needGrade_e bg bf z2
  have hL := f_XG_holds_L12_e bg bf fp fl fh fq fd fe z1 z2
  rw [f_XG_holds_s]
  try simp only []
  (repeat' split) <;> first | omega | (dsimp only; omega) | (rw [hL]; omega) | (simp only [hL]; omega) | (left; exact hL _ _ _) | (left; exact hL _ _)
theorem f_XG_ring_L8_e (bg : Int) (bf : Int) (ft : Int → Int) (z1 : Int) : ∀ (n : Nat) (v k : Int), (f_XG_ring_L8 bg bf ft z1 n v k).1 = 0 := by
  intro n
  induction n with
  | zero => intro v k; rw [f_XG_ring_L8_z]
  | succ n ih =>
    intro v k
    rw [f_XG_ring_L8_s]
    try simp only []
    (repeat' split) <;> first | rfl | exact ih _ _
theorem f_XG_ring_e (bg : Int) (bf : Int) (ft : Int → Int) (z1 : Int) : (f_XG_ring bg bf ft z1).1 = 0 ∨ (f_XG_ring bg bf ft z1).1 = 1 := by
  have h0 := f_XG_needPlace_e z1
  have hL := f_XG_ring_L8_e bg bf ft z1
  rw [f_XG_ring_s]
  try simp only []
  (repeat' split) <;> first | omega | (dsimp only; omega) | (rw [hL]; omega) | (simp only [hL]; omega) | (left; exact hL _ _ _) | (left; exact hL _ _)
theorem f_XG_route_L24_e (bg : Int) (bf : Int) (fp : Int → Int) (fr : Int → Int) (z1 : Int) (z2 : Int) : ∀ (n : Nat) (v k : Int), (f_XG_route_L24 bg bf fp fr z1 z2 n v k).1 = 0 := by
  intro n
  induction n with
  | zero => intro v k; rw [f_XG_route_L24_z]
  | succ n ih =>
    intro v k
    rw [f_XG_route_L24_s]
    try simp only []
    (repeat' split) <;> first | rfl | exact ih _ _
theorem f_XG_route_e (bg : Int) (bf : Int) (fp : Int → Int) (fr : Int → Int) (z1 : Int) (z2 : Int) : (f_XG_route bg bf fp fr z1 z2).1 = 0 ∨ (f_XG_route bg bf fp fr z1 z2).1 = 1 := by
  have h0 := f_XG_needGrade_e bg bf z1
  have h1 := f_XG_needPlace_e z2
  have hL := f_XG_route_L24_e bg bf fp fr z1 z2
  rw [f_XG_route_s]
  try simp only []
  (repeat' split) <;> first | omega | (dsimp only; omega) | (rw [hL]; omega) | (simp only [hL]; omega) | (left; exact hL _ _ _) | (left; exact hL _ _)
theorem f_XG_difference_L20_e (bg : Int) (bf : Int) (fp : Int → Int) (fl : Int → Int) (fh : Int → Int) (z1 : Int) (z2 : Int) (z3 : Int) : ∀ (n : Nat) (v k : Int), (f_XG_difference_L20 bg bf fp fl fh z1 z2 z3 n v k).1 = 0 := by
  intro n
  induction n with
  | zero => intro v k; rw [f_XG_difference_L20_z]
  | succ n ih =>
    intro v k
    rw [f_XG_difference_L20_s]
    try simp only []
    (repeat' split) <;> first | rfl | exact ih _ _
theorem f_XG_difference_e (bg : Int) (bf : Int) (fp : Int → Int) (fl : Int → Int) (fh : Int → Int) (z1 : Int) (z2 : Int) (z3 : Int) : (f_XG_difference bg bf fp fl fh z1 z2 z3).1 = 0 ∨ (f_XG_difference bg bf fp fl fh z1 z2 z3).1 = 1 := by
  have h0 := f_XG_needGrade_e bg bf z1
  have h1 := f_XG_needGrade_e bg bf z2
  have h2 := f_XG_needPlace_e z3
  have hL := f_XG_difference_L20_e bg bf fp fl fh z1 z2 z3
  rw [f_XG_difference_s]
  try simp only []
  (repeat' split) <;> first | omega | (dsimp only; omega) | (rw [hL]; omega) | (simp only [hL]; omega) | (left; exact hL _ _ _) | (left; exact hL _ _)
theorem f_XG_write_e (bg : Int) (bf : Int) (ft : Int → Int) (fl : Int → Int) (fh : Int → Int) (fq : Int → Int) (fr : Int → Int) (pn : Int) (pf : Int → Int) (z1 : Int) : (f_XG_write bg bf ft fl fh fq fr pn pf z1).1 = 0 ∨ (f_XG_write bg bf ft fl fh fq fr pn pf z1).1 = 1 := by
  have h0 := f_XG_needGrade_e bg bf z1
  rw [f_XG_write_s]
  try simp only []
  (repeat' split) <;> first | omega | (dsimp only; omega)
theorem f_XG_at_e (pn : Int) (pf : Int → Int) (z1 : Int) : (f_XG_at pn pf z1).1 = 0 ∨ (f_XG_at pn pf z1).1 = 1 := by
  have h0 := f_XG_needPlace_e z1
  rw [f_XG_at_s]
  try simp only []
  (repeat' split) <;> first | omega | (dsimp only; omega)
