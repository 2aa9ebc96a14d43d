theorem atT_a {f : Nat → Int32} {k n e : Nat} (h : e = k) : atT f k n e = 0 := if_pos h
theorem atT_b {f : Nat → Int32} {k n e c : Nat} (h : ¬ e = k) (hc : 5 - e = c) : atT f k n e = f e + byC k n c := by rw [← hc]; exact if_neg h
theorem add_nI0 (x : Int32) : x = x + nI 0 := (Int32.add_zero x).symm
theorem add_nIs (x : Int32) (t : Nat) : x + nI t + 1 = x + nI (t + 1) := by rw [Int32.add_assoc, nI_1]
theorem upd2_ext {f g : Nat → Int32} {a b : Nat} (h : ∀ z, z < 6 → z ≠ a → z ≠ b → g z = f z) (x y : Int32) (z : Nat) (hz : z < 6) : upd (upd g a x) b y z = upd (upd f a x) b y z := by
  by_cases h2 : z = b
  · subst h2; rw [upd_at, upd_at]
  · rw [upd_ne _ _ h2, upd_ne _ _ h2]
    by_cases h1 : z = a
    · subst h1; rw [upd_at, upd_at]
    · rw [upd_ne _ _ h1, upd_ne _ _ h1, h z hz h1 h2]
theorem upd2_keep {f : Nat → Int32} {a b : Nat} (x y : Int32) : ∀ z, z < 6 → z ≠ a → z ≠ b → upd (upd f a x) b y z = f z := fun z _ h1 h2 => by rw [upd_ne _ _ h2, upd_ne _ _ h1]
theorem lenK_le (k : Nat) : lenK k ≤ 19 := by
  unfold lenK
  split
  · exact Nat.le_refl _
  · split
    · decide
    · decide
