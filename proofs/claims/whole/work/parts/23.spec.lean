/-! what the calls answer: bicycles -/
abbrev NO : Int32 := -1000000
theorem cl_n {j : Nat} (h : j < 1000000) : (nI j).toNatClampNeg = j := nI_clamp (by omega)
abbrev okNum (i k v : Int32) : Prop := inR i 0 3 ∧ inR k 0 5 ∧ inR v (bot k) 9
abbrev okHas (i k : Int32) : Prop := inR i 0 3 ∧ inR k 0 5
abbrev okAsk (i v k w : Int32) : Prop := (inR i 0 3) ∧ ((inR v 0 40) ∧ ((inR k (-99) 99) ∧ (inR w (-99) 99)))
def r_number (nb : Nat → Nat → Int32) (i k v : Int32) : Int32 := if okNum i k v then nb i.toNatClampNeg k.toNatClampNeg else NO
def n_number (nb : Nat → Nat → Int32) (i k v : Int32) : Nat → Nat → Int32 := if okNum i k v then up2 nb i.toNatClampNeg k.toNatClampNeg v else nb
def r_has (nb : Nat → Nat → Int32) (i k : Int32) : Int32 := if okHas i k then nb i.toNatClampNeg k.toNatClampNeg else NO
def r_sign (nb : Nat → Nat → Int32) (i v k w j : Int32) : Int64 := if okAsk i v k w ∧ inR j 0 3 then sgn (nb i.toNatClampNeg) v.toInt64 k.toInt64 w.toInt64 j else -9223372036854775808
def stN (f : Nat → Int32) (v k w : Int32) : Int32 := if upP f v k w then 0 else if sg0 f v.toInt64 k.toInt64 ≤ 0 then 1 else 2
def r_stays (nb : Nat → Nat → Int32) (i v k w : Int32) : Int32 := if okAsk i v k w then stN (nb i.toNatClampNeg) v k w else -1
def r_range (nb : Nat → Nat → Int32) (i : Int32) : Int64 := if inR i 0 3 then rg (nb i.toNatClampNeg) 41 else -1
def r_without (nb : Nat → Nat → Int32) (i k : Int32) : Int64 := if inR i 0 3 ∧ inR k 0 2 then rg (upd (nb i.toNatClampNeg) k.toNatClampNeg 0) 41 else -1
abbrev okMov (i k u : Int32) : Prop := inR i 0 3 ∧ inR k 0 5 ∧ inR u 0 1
/-- MOVES of the numbers f by d at place k -/
def mvN (f : Nat → Int32) (k : Nat) (d : Int32) : Int32 := if inR (f k + d) (bot (nI k)) 9 then ct (upd f k (f k + d)) 41 - ct f 41 else 0
def r_moves (nb : Nat → Nat → Int32) (i k u : Int32) : Int32 := if okMov i k u then mvN (nb i.toNatClampNeg) k.toNatClampNeg (if u = 1 then 1 else -1) else NO
/-- LEAST from a size on -/
def lsN (f : Nat → Int32) (v w : Int32) : Nat → Nat → Int32
  | 0, _ => NO
  | n + 1, z => if upP f v (nI z) w then nI z else if upP f v (-nI z) w then -nI z else lsN f v w n (z + 1)
abbrev okLst (i v w : Int32) : Prop := inR i 0 3 ∧ inR v 0 40 ∧ inR w (-99) 99
def r_least (nb : Nat → Nat → Int32) (i v w : Int32) : Int32 := if okLst i v w then lsN (nb i.toNatClampNeg) v w 100 0 else NO
