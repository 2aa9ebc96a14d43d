theorem bm32 {x : Int} (h1 : -1000000 ≤ x) (h2 : x ≤ 1000000) : x.bmod (2 ^ 32) = x := by
  unfold Int.bmod
  simp only []
  split <;> omega
theorem bm64 {x : Int} (h1 : -1000000000000 ≤ x) (h2 : x ≤ 1000000000000) : x.bmod (2 ^ 64) = x := by
  unfold Int.bmod
  simp only []
  split <;> omega
theorem wide_add {x y : Int32} (hx1 : -1000 ≤ x.toInt) (hx2 : x.toInt ≤ 1000) (hy1 : -1000 ≤ y.toInt) (hy2 : y.toInt ≤ 1000) : (x + y).toInt64 = x.toInt64 + y.toInt64 ∧ (x + y).toInt = x.toInt + y.toInt := by
  have e : (x + y).toInt = x.toInt + y.toInt := by rw [Int32.toInt_add, bm32 (by omega) (by omega)]
  refine ⟨Int64.toInt_inj.mp ?_, e⟩
  rw [Int32.toInt_toInt64, Int64.toInt_add, Int32.toInt_toInt64, Int32.toInt_toInt64, e, bm64 (by omega) (by omega)]
theorem inR_int {v lo hi : Int32} (h : inR v lo hi) : lo.toInt ≤ v.toInt ∧ v.toInt ≤ hi.toInt :=
  ⟨Int32.le_iff_toInt_le.mp (Int32.not_lt.mp h.1), Int32.le_iff_toInt_le.mp (Int32.not_lt.mp h.2)⟩
theorem okF_int {f : Nat → Int32} (h : okF f) {k : Nat} (hk : k < 6) : -9 ≤ (f k).toInt ∧ (f k).toInt ≤ 9 := by
  have h1 := inR_int (h k hk)
  have h2 : ∀ k, k < 6 → -9 ≤ (bot (nI k)).toInt := by decide +kernel
  have h3 : (9 : Int32).toInt = 9 := rfl
  have h4 := h2 k hk
  omega
theorem hand_int {k : Int32} (h : inR k (-99) 99) : -99 ≤ k.toInt ∧ k.toInt ≤ 99 := by
  have h1 := inR_int h
  have h2 : (-99 : Int32).toInt = -99 := rfl
  have h3 : (99 : Int32).toInt = 99 := rfl
  omega
/-- trail, front and hand may be added as ints or as longs -/
theorem okF_hov {f : Nat → Int32} (h : okF f) {k : Int32} (hk : inR k (-99) 99) : (f 1 + f 2 + k).toInt64 = (f 1 + f 2).toInt64 + k.toInt64 := by
  have a1 := okF_int h (show 1 < 6 by decide)
  have a2 := okF_int h (show 2 < 6 by decide)
  have a3 := hand_int hk
  have e := (wide_add (x := f 1) (y := f 2) (by omega) (by omega) (by omega) (by omega)).2
  exact (wide_add (x := f 1 + f 2) (y := k) (by omega) (by omega) (by omega) (by omega)).1
-- the signs, said as the class says them
theorem sg2_c (f : Nat → Int32) (v w : Int64) : 10 * (f 1).toInt64 * v * v - 100 * (f 4).toInt64 * (f 3).toInt64 + (f 4).toInt64 * ((f 0).toInt64 * v) * ((f 0).toInt64 * v + 10 * w) = sg2 f v w := by
  unfold sg2
  rw [← Int64.mul_assoc (f 4).toInt64 (f 0).toInt64 v]
theorem sg1_c (f : Nat → Int32) (v k w : Int64) {t : Int64} (ht : t = (f 1 + f 2).toInt64 + k) : 10 * ((f 0).toInt64 * v) * (v * v + (f 4).toInt64 * t) - 100 * (f 4).toInt64 * (f 3).toInt64 * (f 5).toInt64 + 100 * w * (v * v) = sg1 f v k w := by
  unfold sg1
  rw [ht, ← Int64.mul_assoc 10 (f 0).toInt64 v, ← Int64.mul_assoc (100 * w) v v]
theorem sg0_c (f : Nat → Int32) (v k : Int64) {t : Int64} (ht : t = (f 1 + f 2).toInt64 + k) : 100 * (v * v) * t - 10 * (f 3).toInt64 * (f 1).toInt64 * (v * v) = sg0 f v k := by
  unfold sg0
  rw [ht, ← Int64.mul_assoc 100 v v, ← Int64.mul_assoc (10 * (f 3).toInt64 * (f 1).toInt64) v v]
theorem i64_int {x : Int64} (h1 : -100000 ≤ x.toInt) (h2 : x.toInt ≤ 0) : ∃ j : Nat, j ≤ 100000 ∧ x = -(lN j) := by
  refine ⟨(-x.toInt).toNat, by omega, Int64.toInt_inj.mp ?_⟩
  rw [Int64.toInt_neg, pk_lT (by omega), bm64 (by omega) (by omega)]
  omega
theorem mul_int {x y : Int64} (hx1 : -1000000 ≤ x.toInt) (hx2 : x.toInt ≤ 1000000) (hy1 : -1000000 ≤ y.toInt) (hy2 : y.toInt ≤ 1000000) (h1 : -1000000000000 ≤ x.toInt * y.toInt) (h2 : x.toInt * y.toInt ≤ 1000000000000) : (x * y).toInt = x.toInt * y.toInt := by
  rw [Int64.toInt_mul, bm64 h1 h2]
/-- SIGN 0 alone is that of SPEED 1 times a square -/
theorem sg0_sq (f : Nat → Int32) (v : Int64) : sg0 f v 0 = (v * v) * sg0 f 1 0 := by
  unfold sg0
  rw [Int64.mul_sub, Int64.mul_one, Int64.mul_one, Int64.mul_one, Int64.mul_one]
  congr 1
  · rw [Int64.mul_assoc 100 v v, Int64.mul_comm 100 (v * v), Int64.mul_assoc]
  · rw [Int64.mul_assoc (10 * (f 3).toInt64 * (f 1).toInt64) v v, Int64.mul_comm]
theorem sg0_1_int {f : Nat → Int32} (h : okF f) : -100000 ≤ (sg0 f 1 0).toInt ∧ (sg0 f 1 0).toInt ≤ 100000 := by
  have a1 := okF_int h (show 1 < 6 by decide)
  have a2 := okF_int h (show 2 < 6 by decide)
  have a3 := okF_int h (show 3 < 6 by decide)
  have e := (wide_add (x := f 1) (y := f 2) (by omega) (by omega) (by omega) (by omega)).2
  have e1 : ((f 1 + f 2).toInt64).toInt = (f 1).toInt + (f 2).toInt := by rw [Int32.toInt_toInt64, e]
  have c100 : (100 : Int64).toInt = 100 := rfl
  have c10 : (10 : Int64).toInt = 10 := rfl
  have t3 : ((f 3).toInt64).toInt = (f 3).toInt := Int32.toInt_toInt64 _
  have t1 : ((f 1).toInt64).toInt = (f 1).toInt := Int32.toInt_toInt64 _
  have p1 : (100 * (f 1 + f 2).toInt64).toInt = 100 * ((f 1).toInt + (f 2).toInt) := by rw [Int64.toInt_mul, c100, e1, bm64 (by omega) (by omega)]
  have p2 : (10 * (f 3).toInt64).toInt = 10 * (f 3).toInt := by rw [Int64.toInt_mul, c10, t3, bm64 (by omega) (by omega)]
  have hm : ∀ a b : Int, -9 ≤ a → a ≤ 9 → -9 ≤ b → b ≤ 9 → -81 ≤ a * b ∧ a * b ≤ 81 := by
    intro a b h1 h2 h3 h4
    have q1 : a * b ≤ 81 ∧ -81 ≤ a * b := by
      rcases (show a = -9 ∨ a = -8 ∨ a = -7 ∨ a = -6 ∨ a = -5 ∨ a = -4 ∨ a = -3 ∨ a = -2 ∨ a = -1 ∨ a = 0 ∨ a = 1 ∨ a = 2 ∨ a = 3 ∨ a = 4 ∨ a = 5 ∨ a = 6 ∨ a = 7 ∨ a = 8 ∨ a = 9 by omega) with rfl | rfl | rfl | rfl | rfl | rfl | rfl | rfl | rfl | rfl | rfl | rfl | rfl | rfl | rfl | rfl | rfl | rfl | rfl <;> omega
    exact ⟨q1.2, q1.1⟩
  have hq := hm (f 3).toInt (f 1).toInt a3.1 a3.2 a1.1 a1.2
  have p3 : (10 * (f 3).toInt64 * (f 1).toInt64).toInt = 10 * ((f 3).toInt * (f 1).toInt) := by rw [Int64.toInt_mul, p2, t1, Int.mul_assoc, bm64 (by omega) (by omega)]
  have e9 : sg0 f 1 0 = 100 * (f 1 + f 2).toInt64 - 10 * (f 3).toInt64 * (f 1).toInt64 := by
    unfold sg0
    rw [Int64.mul_one, Int64.mul_one, Int64.mul_one, Int64.mul_one, Int64.add_zero]
  rw [e9, Int64.toInt_sub, p1, p3, bm64 (by omega) (by omega)]
  omega
theorem up_zero {f : Nat → Int32} (h : okF f) (h0 : sg0 f 1 0 ≤ 0) {v : Nat} (hv : v ≤ 40) : ¬ upP f (nI v) 0 0 := fun z => by
  refine z.1.2.2.2 ?_
  rw [i64_0, sg0_sq]
  have hb := sg0_1_int h
  have h1 : (sg0 f 1 0).toInt ≤ 0 := Int64.le_iff_toInt_le.mp h0
  have hvi : ((nI v).toInt64).toInt = (v : Int) := by rw [Int32.toInt_toInt64, nI_toInt (by omega)]
  have hsq : (v : Int) * v ≤ 1600 ∧ 0 ≤ (v : Int) * v := by
    have q : v * v ≤ 1600 := Nat.le_trans (Nat.mul_le_mul hv hv) (by decide)
    have q2 : ((v * v : Nat) : Int) ≤ 1600 := by omega
    rw [Int.natCast_mul] at q2
    exact ⟨q2, Int.mul_nonneg (by omega) (by omega)⟩
  have e1 : ((nI v).toInt64 * (nI v).toInt64).toInt = (v : Int) * v := by rw [Int64.toInt_mul, hvi, bm64 (by omega) (by omega)]
  rw [Int64.le_iff_toInt_le, Int64.toInt_mul, e1]
  have m1 : (v : Int) * v * (sg0 f 1 0).toInt ≤ 0 := Int.mul_nonpos_of_nonneg_of_nonpos hsq.2 h1
  have m2 : 1600 * (-100000) ≤ (v : Int) * v * (sg0 f 1 0).toInt := by
    have q1 : (v : Int) * v * (-100000) ≤ (v : Int) * v * (sg0 f 1 0).toInt := Int.mul_le_mul_of_nonneg_left hb.1 hsq.2
    omega
  rw [bm64 (by omega) (by omega)]
  exact m1
