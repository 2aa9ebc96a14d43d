/-! measured numbers; all the same; grids -/
theorem sl32 : ∀ n, n < 32 → ((nI n &&& 31).toBitVec.smod 32).toNat = n := by decide +kernel
theorem shr_n {t k : Nat} (ht : t < 2 ^ 31) (hk : k < 32) : nI t >>> (nI k &&& 31) = nI (t / 2 ^ k) := pk_shrN ht _ k (sl32 k hk)
theorem and1_n {t : Nat} (ht : t < 2 ^ 31) : nI t &&& 1 = nI (t % 2) := pk_andN (by omega) 1 rfl
theorem rem_n {a d : Nat} (ha : a < 2 ^ 31) (h0 : 0 < d) (hd : d < 2 ^ 31) : nI a - nI a / nI d * nI d = nI (a % d) := pk_rem ha h0 hd
theorem div3_n {q k : Nat} (hq : q < 2 ^ 31) : nI (q / 3 ^ k) / 3 = nI (q / 3 ^ (k + 1)) := by
  rw [show (3 : Int32) = nI 3 from rfl, pk_div (Nat.lt_of_le_of_lt (Nat.div_le_self _ _) hq) (by decide) (by decide), Nat.div_div_eq_div_mul]
  rfl
theorem rem3_n {q k : Nat} (hq : q < 2 ^ 31) : nI (q / 3 ^ k) - nI (q / 3 ^ k) / 3 * 3 = nI (q / 3 ^ k % 3) := rem_n (Nat.lt_of_le_of_lt (Nat.div_le_self _ _) hq) (by decide) (by decide)
-- MEASURED: the case q
def tsF (f : Nat → Int32) (q : Nat) : Nat → Int32 := fun j => (f j + nI (q / 3 ^ j % 3)) - 1
def mayB (f : Nat → Int32) : Nat → Bool
  | 0 => true
  | k + 1 => mayB f k && decide (inR (f k) (bot (nI k)) 9)
theorem mayB_s (f : Nat → Int32) (k : Nat) : ((mayB f k = true) ∧ (inR (f k) (bot (nI k)) 9)) ↔ mayB f (k + 1) = true := by
  show _ ↔ (mayB f k && decide (inR (f k) (bot (nI k)) 9)) = true
  rw [Bool.and_eq_true, decide_eq_true_iff]
def csV (f : Nat → Int32) (q : Nat) : Int32 := if mayB (tsF f q) 6 = true then ct (tsF f q) 41 else (-9)
def isB (cf : Nat → Int32) (t q : Nat) : Nat → Bool
  | 0 => decide (¬ (cf q = (-9)))
  | k + 1 => isB cf t q k && decide ((t / 2 ^ k % 2 = 0) ∨ (q / 3 ^ k % 3 = 1))
theorem isB_0 (cf : Nat → Int32) (t q : Nat) : (¬ (cf q = (-9))) ↔ isB cf t q 0 = true := decide_eq_true_iff.symm
theorem isB_s (cf : Nat → Int32) (t q k : Nat) : ((isB cf t q k = true) ∧ ((t / 2 ^ k % 2 = 0) ∨ (q / 3 ^ k % 3 = 1))) ↔ isB cf t q (k + 1) = true := by
  show _ ↔ (isB cf t q k && decide ((t / 2 ^ k % 2 = 0) ∨ (q / 3 ^ k % 3 = 1))) = true
  rw [Bool.and_eq_true, decide_eq_true_iff]
def lsA (cf : Nat → Int32) (t : Nat) : Nat → Int32
  | 0 => 99
  | q + 1 => if isB cf t q 6 = true then (if lsA cf t q ≤ cf q then lsA cf t q else cf q) else lsA cf t q
def msA (cf : Nat → Int32) (t : Nat) : Nat → Int32
  | 0 => 0
  | q + 1 => if isB cf t q 6 = true then (if cf q ≤ msA cf t q then msA cf t q else cf q) else msA cf t q
def spN (cf : Nat → Int32) (t : Nat) : Int32 := msA cf t 729 - lsA cf t 729
def onA (x : Int32) : Nat → Int32
  | 0 => 0
  | k + 1 => onA x k + ((x >>> (nI k &&& 31)) &&& 1)
def fwA (cf : Nat → Int32) (d : Int32) : Nat → Nat
  | 0 => 63
  | t + 1 => if onA (nI (fwA cf d t)) 6 ≤ onA (nI t) 6 then fwA cf d t else (if d < spN cf t then fwA cf d t else t)
theorem fwA_le (cf : Nat → Int32) (d : Int32) : ∀ t, t ≤ 63 → fwA cf d t ≤ 63
  | 0, _ => Nat.le_refl 63
  | t + 1, h => by
    show (if onA (nI (fwA cf d t)) 6 ≤ onA (nI t) 6 then fwA cf d t else (if d < spN cf t then fwA cf d t else t)) ≤ 63
    have ih := fwA_le cf d t (by omega)
    split
    · exact ih
    · split
      · exact ih
      · omega
abbrev okSpr (i u : Int32) : Prop := inR i 0 3 ∧ inR u 0 63
def r_spread (nb : Nat → Nat → Int32) (i u : Int32) : Int32 := if okSpr i u then spN (csV (nb i.toNatClampNeg)) u.toNatClampNeg else -1
abbrev okFew (i d w : Int32) : Prop := inR i 0 3 ∧ inR d 0 40 ∧ inR w 0 1
def r_fewest (nb : Nat → Nat → Int32) (i d w : Int32) : Int32 := if okFew i d w then (if w = 0 then onA (nI (fwA (csV (nb i.toNatClampNeg)) d 63)) 6 else nI (fwA (csV (nb i.toNatClampNeg)) d 63)) else -1
-- ALL THE SAME: the case n; c numbers looked at, from the last one on
def posC (k : Nat) : Nat → Nat
  | 0 => 0
  | c + 1 => if 5 - c = k then posC k c else posC k c + 1
def byC (k n c : Nat) : Int32 := nI (n / 13 ^ posC k c % 13) - 6
def chC (k n : Nat) : Nat → Int32
  | 0 => 0
  | c + 1 => if 5 - c = k then chC k n c else chC k n c + (if 0 ≤ byC k n c then byC k n c else -byC k n c)
def mayC (f : Nat → Int32) (k n : Nat) : Nat → Bool
  | 0 => true
  | c + 1 => if 5 - c = k then mayC f k n c else mayC f k n c && decide (inR (f (5 - c) + byC k n c) (bot (nI (5 - c))) 9)
theorem mayC_s (f : Nat → Int32) (k n c : Nat) (h : ¬ 5 - c = k) : ((mayC f k n c = true) ∧ (inR (f (5 - c) + byC k n c) (bot (nI (5 - c))) 9)) ↔ mayC f k n (c + 1) = true := by
  show _ ↔ (if 5 - c = k then mayC f k n c else mayC f k n c && decide (inR (f (5 - c) + byC k n c) (bot (nI (5 - c))) 9)) = true
  rw [if_neg h, Bool.and_eq_true, decide_eq_true_iff]
def atT (f : Nat → Int32) (k n : Nat) : Nat → Int32 := fun e => if e = k then 0 else f e + byC k n (5 - e)
/-- the last c places as g has them -/
def top6 (g f : Nat → Int32) (c : Nat) : Nat → Int32 := fun z => if 6 - c ≤ z then g z else f z
theorem top6_s (g f : Nat → Int32) {c : Nat} (h : c < 6) {x : Int32} (hx : x = g (5 - c)) (z : Nat) (hz : z < 6) : upd (top6 g f c) (5 - c) x z = top6 g f (c + 1) z := by
  by_cases h1 : z = 5 - c
  · subst h1; rw [upd_at, hx]; exact (if_pos (by omega)).symm
  · rw [upd_ne _ _ h1]
    by_cases h2 : 6 - c ≤ z
    · exact (if_pos h2).trans (if_pos (by omega)).symm
    · exact (if_neg h2).trans (if_neg (by omega)).symm
abbrev okC (f : Nat → Int32) (k n : Nat) (b : Int32) : Prop := mayC f k n 6 = true ∧ ¬ b ≤ chC k n 6 ∧ ¬ rg (atT f k n) 41 = 0
def bsA (f : Nat → Int32) (k : Nat) : Nat → Int32
  | 0 => 7
  | n + 1 => if okC f k n (bsA f k n) then chC k n 6 else bsA f k n
def fdA (f : Nat → Int32) (k : Nat) (fd : Nat → Int32) : Nat → (Nat → Int32)
  | 0 => fd
  | n + 1 => if okC f k n (bsA f k n) then atT f k n else fdA f k fd n
def atR (f : Nat → Int32) (k : Nat) : Int32 := if bsA f k 371293 = 7 then (-9) else bsA f k 371293
abbrev okRea (i k w : Int32) : Prop := inR i 0 3 ∧ inR k 0 2 ∧ inR w 0 7
def reaN (f : Nat → Int32) (k : Nat) (fd : Nat → Int32) (w : Nat) : Int32 := if w = 0 then bI ((¬ rg f 41 = 0) ∧ rg (upd f k 0) 41 = 0) else if atR f k = (-9) then NO else if w = 1 then atR f k else fdA f k fd 371293 (w - 2)
def r_reason (nb : Nat → Nat → Int32) (fd : Nat → Int32) (i k w : Int32) : Int32 := if okRea i k w then reaN (nb i.toNatClampNeg) k.toNatClampNeg fd w.toNatClampNeg else NO
-- GRID
def lenK (k : Nat) : Nat := if k < 3 then 19 else if k < 5 then 9 else 10
theorem lenK_ge : ∀ k, k < 6 → ∀ t, t < 20 → t ≤ lenK k → ((10 ≤ bot (nI k) + nI t) ↔ t = lenK k) := by decide +kernel
def gst (f : Nat → Int32) (o1 o2 : Nat) (a b : Int32) (g : Int32 × Int32 × Int32) : Int32 × Int32 × Int32 := if rg (upd (upd f o1 a) o2 b) 41 = 0 then g else (g.1 + 1, (if g.1 = 0 then a else g.2.1), (if g.1 = 0 then b else g.2.2))
def gIn (f : Nat → Int32) (o1 o2 : Nat) (a : Int32) : Nat → (Int32 × Int32 × Int32) → (Int32 × Int32 × Int32)
  | 0, g => g
  | u + 1, g => gst f o1 o2 a (bot (nI o2) + nI u) (gIn f o1 o2 a u g)
def gOut (f : Nat → Int32) (o1 o2 : Nat) : Nat → (Int32 × Int32 × Int32)
  | 0 => (0, NO, NO)
  | t + 1 => gIn f o1 o2 (bot (nI o1) + nI t) (lenK o2) (gOut f o1 o2 t)
abbrev okGrd (i o1 o2 w : Int32) : Prop := inR i 0 3 ∧ inR o1 0 5 ∧ inR o2 0 5 ∧ ¬ o1 = o2 ∧ inR w 0 2
def grN (f : Nat → Int32) (o1 o2 : Nat) (w : Int32) : Int32 := if w = 0 then (gOut f o1 o2 (lenK o1)).1 else if w = 1 then (gOut f o1 o2 (lenK o1)).2.1 else (gOut f o1 o2 (lenK o1)).2.2
def r_grid (nb : Nat → Nat → Int32) (i o1 o2 w : Int32) : Int32 := if okGrd i o1 o2 w then grN (nb i.toNatClampNeg) o1.toNatClampNeg o2.toNatClampNeg w else NO
