/-! the calls, as the class answers them -/
theorem inR_out {v hi : Int32} {n : Nat} (hn : n < 1000000) (hhi : hi = nI n) (h : ¬ inR v 0 hi) : v.toInt < 0 ∨ (n : Int) < v.toInt := by
  rcases Int.lt_or_le v.toInt 0 with a | a
  · exact Or.inl a
  · refine Or.inr ?_
    rcases Int.lt_or_le (n : Int) v.toInt with b | b
    · exact b
    · refine absurd ⟨fun y => ?_, fun y => ?_⟩ h
      · have := Int32.lt_iff_toInt_lt.mp y; rw [show (0 : Int32).toInt = 0 from rfl] at this; omega
      · have := Int32.lt_iff_toInt_lt.mp y; rw [hhi, nI_toInt (by omega)] at this; omega
def mvC (f : Nat → Int32) (k : Nat) (d : Int32) : Int32 := if inR (f k + d) (bot (nI k)) 9 then pc64 (rg (upd f k (f k + d)) 41) - pc64 (rg f 41) else 0
def c_moves (nb : Nat → Nat → Int32) (i k u : Int32) : Int32 := if okMov i k u then mvC (nb i.toNatClampNeg) k.toNatClampNeg (if u = 1 then 1 else -1) else NO
def c_spread (nb : Nat → Nat → Int32) (sc : Nat → Int32) (i u : Int32) : Int32 := if okSpr i u then spC (wgF (nb i.toNatClampNeg) u.toNatClampNeg sc 729) u.toNatClampNeg else -1
def c_fewest (nb : Nat → Nat → Int32) (sc : Nat → Int32) (i d w : Int32) : Int32 := if okFew i d w then (if w = 0 then pc32 (nI (fwC (wgF (nb i.toNatClampNeg) 0 sc 729) d 64)) else nI (fwC (wgF (nb i.toNatClampNeg) 0 sc 729) d 64)) else -1
def reaC (f : Nat → Int32) (k : Nat) (ft : Nat → Int32) (w : Nat) : Int32 := if w = 0 then bI ((¬ rg f 41 = 0) ∧ rg (upd f k 0) 41 = 0) else if (lwF f k 7 0 ft).1 = (-9) then NO else if w = 1 then (lwF f k 7 0 ft).1 else (lwF f k 7 0 ft).2 (w - 2)
def c_reason (nb : Nat → Nat → Int32) (ft : Nat → Int32) (i k w : Int32) : Int32 := if okRea i k w then reaC (nb i.toNatClampNeg) k.toNatClampNeg ft w.toNatClampNeg else NO
def c_habit (hv hw : Nat → Int32) (ub w u : Int32) : Int32 := if okHab w u then (if u = 0 then hv w.toNatClampNeg else twN hv hw ub w.toNatClampNeg) else -1
def cuC (nb : Nat → Nat → Int32) : Nat → Int32
  | 0 => 0
  | n + 1 => cuC nb n + pc64 (rg (nb n) 41)
def c_count (nb : Nat → Nat → Int32) (tb tp w : Int32) : Int32 := if w = 0 then pc32 tb else (if w = 1 then tp else (if w = 2 then cuC nb 4 else -1))
