/-! what the numbers are: pure words for the state and the answers -/
theorem upd_at (f : Nat → Int32) (k : Nat) (x : Int32) : upd f k x k = x := pk_us
theorem upd_ne (f : Nat → Int32) {k j : Nat} (x : Int32) (h : j ≠ k) : upd f k x j = f j := pk_un h
/-- the first j places as g has them, the others as f -/
def fil (g f : Nat → Int32) (j : Nat) : Nat → Int32 := fun k => if k < j then g k else f k
theorem fil_0 (g f : Nat → Int32) : fil g f 0 = f := funext fun k => if_neg (Nat.not_lt_zero k)
theorem fil_lt {g f : Nat → Int32} {j k : Nat} (h : k < j) : fil g f j k = g k := if_pos h
theorem fil_ge {g f : Nat → Int32} {j k : Nat} (h : ¬ k < j) : fil g f j k = f k := if_neg h
theorem fil_s (g f : Nat → Int32) (j : Nat) : upd (fil g f j) j (g j) = fil g f (j + 1) := funext fun k => by
  by_cases h : k = j
  · subst h; rw [upd_at, fil_lt (Nat.lt_succ_self k)]
  · rw [upd_ne _ _ h]
    by_cases h2 : k < j
    · rw [fil_lt h2, fil_lt (by omega)]
    · rw [fil_ge h2, fil_ge (by omega)]
/-- the numbers of the bicycles, side by side -/
def nbF (nb : Nat → Nat → Int32) : Nat → Int32 := fun q => nb (q / 6) (q % 6)
theorem nbF_at (nb : Nat → Nat → Int32) (i : Nat) {k : Nat} (h : k < 6) : nbF nb (6 * i + k) = nb i k := by
  have h1 : (6 * i + k) / 6 = i := by omega
  have h2 : (6 * i + k) % 6 = k := by omega
  show nb ((6 * i + k) / 6) ((6 * i + k) % 6) = nb i k
  rw [h1, h2]
def up2 (nb : Nat → Nat → Int32) (i k : Nat) (x : Int32) : Nat → Nat → Int32 := fun a b => if a = i ∧ b = k then x else nb a b
theorem nbF_up (nb : Nat → Nat → Int32) (i : Nat) {k : Nat} (h : k < 6) (x : Int32) : upd (nbF nb) (6 * i + k) x = nbF (up2 nb i k x) := funext fun q => by
  by_cases hq : q = 6 * i + k
  · subst hq; rw [upd_at, nbF_at _ _ h]; exact (if_pos ⟨rfl, rfl⟩).symm
  · rw [upd_ne _ _ hq]
    exact (if_neg (fun z => hq (by have := z.1; have := z.2; omega))).symm
-- SIGNS, by the six numbers f
def sg3 (f : Nat → Int32) : Int64 := 100 * (f 4).toInt64 * (f 5).toInt64
def sg2 (f : Nat → Int32) (v w : Int64) : Int64 := 10 * (f 1).toInt64 * v * v - 100 * (f 4).toInt64 * (f 3).toInt64 + (f 4).toInt64 * (f 0).toInt64 * v * ((f 0).toInt64 * v + 10 * w)
def sg1 (f : Nat → Int32) (v k w : Int64) : Int64 := 10 * (f 0).toInt64 * v * (v * v + (f 4).toInt64 * ((f 1 + f 2).toInt64 + k)) - 100 * (f 4).toInt64 * (f 3).toInt64 * (f 5).toInt64 + 100 * w * v * v
def sg0 (f : Nat → Int32) (v k : Int64) : Int64 := 100 * v * v * ((f 1 + f 2).toInt64 + k) - 10 * (f 3).toInt64 * (f 1).toInt64 * v * v
def sgn (f : Nat → Int32) (v k w : Int64) (j : Int32) : Int64 := if j = 3 then sg3 f else if j = 2 then sg2 f v w else if j = 1 then sg1 f v k w else sg0 f v k
/-- STAYS -/
abbrev upP (f : Nat → Int32) (v k w : Int32) : Prop := (¬ sg3 f ≤ 0 ∧ ¬ sg2 f v.toInt64 w.toInt64 ≤ 0 ∧ ¬ sg1 f v.toInt64 k.toInt64 w.toInt64 ≤ 0 ∧ ¬ sg0 f v.toInt64 k.toInt64 ≤ 0) ∧
  ¬ sg3 f * sg2 f v.toInt64 w.toInt64 * sg1 f v.toInt64 k.toInt64 w.toInt64 ≤ 100 * (f 4).toInt64 * sg1 f v.toInt64 k.toInt64 w.toInt64 * sg1 f v.toInt64 k.toInt64 w.toInt64 + sg3 f * sg3 f * sg0 f v.toInt64 k.toInt64
/-- RANGE up to a speed -/
def rg (f : Nat → Int32) : Nat → Int64
  | 0 => 0
  | n + 1 => rg f n ||| (if upP f (nI n) 0 0 then 1 <<< ((nI n).toInt64 &&& 63) else 0)
/-- how many speeds -/
def ct (f : Nat → Int32) : Nat → Int32
  | 0 => 0
  | n + 1 => ct f n + bI (upP f (nI n) 0 0)
/-- the six numbers with one of them x -/
abbrev wi (f : Nat → Int32) (k : Nat) (x : Int32) : Nat → Int32 := upd f k x
