/-! grids, pushes, the text, as the class's calls answer -/
theorem hi_gt : ∀ k, k < 6 → ∀ t, t < 20 → t ≤ lenK k → ((s_HIGH k < s_LOW k + nI t) ↔ t = lenK k) := by decide +kernel
theorem low_in : ∀ k, k < 6 → ∀ t, t < 19 → t < lenK k → inR (s_LOW k + nI t) (bot (nI k)) 9 := by decide +kernel
def gIC (f : Nat → Int32) (o1 o2 : Nat) (a w : Int32) : Nat → Nat → Int32 → Option Int32 × Int32
  | 0, _, fd => (none, fd)
  | q + 1, u, fd => if rg (upd (upd f o1 a) o2 (s_LOW o2 + nI u)) 41 = 0 then gIC f o1 o2 a w q (u + 1) fd else if w = 0 then gIC f o1 o2 a w q (u + 1) (fd + 1) else (some (if w = 1 then a else s_LOW o2 + nI u), fd)
def gOC (f : Nat → Int32) (o1 o2 : Nat) (w : Int32) : Nat → Nat → Int32 → Option Int32 × Int32
  | 0, _, fd => (none, fd)
  | q + 1, t, fd => if (gIC f o1 o2 (s_LOW o1 + nI t) w (lenK o2) 0 fd).1 = none then gOC f o1 o2 w q (t + 1) (gIC f o1 o2 (s_LOW o1 + nI t) w (lenK o2) 0 fd).2 else gIC f o1 o2 (s_LOW o1 + nI t) w (lenK o2) 0 fd
def grC (f : Nat → Int32) (o1 o2 : Nat) (w : Int32) : Int32 := match (gOC f o1 o2 w (lenK o1) 0 0).1 with
  | some x => x
  | none => if w = 0 then (gOC f o1 o2 w (lenK o1) 0 0).2 else NO
def c_grid (nb : Nat → Nat → Int32) (i o1 o2 w : Int32) : Int32 := if okGrd i o1 o2 w then grC (nb i.toNatClampNeg) o1.toNatClampNeg o2.toNatClampNeg w else NO
theorem upd2_e2 {f g : Nat → Int32} {a b : Nat} {x : Int32} (h : ∀ z, z < 6 → z ≠ b → g z = upd f a x z) (y : Int32) (z : Nat) (hz : z < 6) : upd g b y z = upd (upd f a x) b y z := by
  by_cases h2 : z = b
  · subst h2; rw [upd_at, upd_at]
  · rw [upd_ne _ _ h2, upd_ne _ _ h2, h z hz h2]
