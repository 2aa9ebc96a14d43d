/-! rides -/
def wth (v w : Int32) : Int32 := if v ≤ w then (if -w ≤ v then v else -w) else w
abbrev liesP (a : Int32) : Prop := (1000 < a) ∨ (¬ ((-1000) ≤ a))
def hnd (lw sf : Nat → Int32) (d : Nat) : Int32 := wth ((lw 0 * (if d = 0 then sf 3 else sf (10 + 3 * (d - 1))) + lw 1 * (if d = 0 then sf 5 else sf (10 + 3 * (d - 1) + 1)) + lw 2 * (if d = 0 then sf 4 else sf (10 + 3 * (d - 1) + 2))) / 10) (lw 4)
def hnR (lw sf : Nat → Int32) (d : Nat) : Int32 := if sf 2 = 1 then -hnd lw sf d else hnd lw sf d
def byL (f sf : Nat → Int32) : Int32 := f 3 * sf 3 - sf 1 * sf 1 * sf 4 / f 4 - f 0 * sf 1 * sf 6 / 10
def byB (f sf : Nat → Int32) (h : Int32) : Int32 := (f 1 + f 2) * sf 3 + f 0 * sf 1 * sf 5 / 10 - f 1 * sf 1 * sf 1 * sf 4 / (10 * f 4) - f 5 * sf 6 + h
def tkP (f sf : Nat → Int32) : Int32 := wth (sf 5 + byL f sf / 20) 100000
def tkQ (f sf : Nat → Int32) (h : Int32) : Int32 := wth (sf 6 + byB f sf h / 20) 100000
def tkA (f sf : Nat → Int32) : Int32 := sf 3 + tkP f sf / 20
def tkB (f sf : Nat → Int32) (h : Int32) : Int32 := wth (sf 4 + tkQ f sf h / 20) 10000
/-- places 10 + j .. 24 as they were three places ahead -/
def shf (f : Nat → Int32) (j : Nat) : Nat → Int32 := fun q => if 10 + j ≤ q ∧ q ≤ 24 then f (q - 3) else f q
theorem shf_15 (f : Nat → Int32) : shf f 15 = f := funext fun q => if_neg (fun h => by omega)
theorem shf_s (f : Nat → Int32) {j : Nat} (h1 : 2 < j) (h : j ≤ 14) : upd (shf f (j + 1)) (10 + j) (f (10 + j - 3)) = shf f j := funext fun q => by
  by_cases hq : q = 10 + j
  · subst hq; rw [upd_at]; exact (if_pos ⟨by omega, by omega⟩).symm
  · rw [upd_ne _ _ hq]
    by_cases h2 : 10 + (j + 1) ≤ q ∧ q ≤ 24
    · exact (if_pos h2).trans (if_pos ⟨by omega, h2.2⟩).symm
    · exact (if_neg h2).trans (if_neg (fun z => h2 ⟨by omega, z.2⟩)).symm
theorem shf_lo (f : Nat → Int32) {j q : Nat} (h : q < 10 + j) : shf f j q = f q := if_neg (fun z => by omega)
/-- a TICK, by the numbers f, the law lw, which looks back d ticks -/
def tickF (f lw sf : Nat → Int32) (d : Nat) : Nat → Int32 :=
  upd (upd (upd (upd (upd (upd (upd (upd (upd (upd (shf sf 3) 10 (sf 3)) 11 (sf 5)) 12 (sf 4)) 5 (tkP f sf)) 6 (tkQ f sf (hnR lw sf d))) 3 (tkA f sf)) 4 (tkB f sf (hnR lw sf d))) 9 (hnR lw sf d)) 7 (sf 7 + 1)) 8 (bI (liesP (tkA f sf)))
def setF (sf : Nat → Int32) (i v r : Int32) : Nat → Int32 := upd (upd (upd (fil (fun _ => 0) sf 25) 0 i) 1 v) 2 r
abbrev okRide (i v r : Int32) : Prop := inR i 0 3 ∧ inR v 0 40 ∧ inR r 0 1
def r_ride (sf : Nat → Int32) (i v r : Int32) : Int32 := if okRide i v r then sf 7 else -1
def n_ride (sf : Nat → Int32) (i v r : Int32) : Nat → Int32 := if okRide i v r then setF sf i v r else sf
abbrev okPush (sf : Nat → Int32) (b : Int32) : Prop := inR b (-1000) 1000 ∧ ¬ sf 8 = 1
def r_push (sf : Nat → Int32) (b : Int32) : Int32 := if okPush sf b then sf 3 + b else NO
def n_push (sf : Nat → Int32) (b : Int32) : Nat → Int32 := if okPush sf b then upd (upd sf 3 (sf 3 + b)) 8 (bI (liesP (sf 3 + b))) else sf
def r_at (sf : Nat → Int32) (w : Int32) : Int32 := if inR w 0 6 then (if 5 ≤ w then (if w = 5 then sf 8 else sf 9) else sf (3 + w.toNatClampNeg)) else NO
/-- at most n ticks more, c done -/
def tks (f lw : Nat → Int32) (d : Nat) : Nat → (Nat → Int32) → Nat → Nat × (Nat → Int32)
  | 0, sf, c => (c, sf)
  | n + 1, sf, c => if sf 8 = 0 then tks f lw d n (tickF f lw sf d) (c + 1) else (c, sf)
abbrev okTicks (sf : Nat → Int32) (n : Int32) : Prop := inR n 1 200 ∧ ¬ sf 8 = 1
def r_ticks (f lw sf : Nat → Int32) (d : Nat) (n : Int32) : Int32 := if inR n 1 200 then (if sf 8 = 1 then -2 else nI (tks f lw d n.toNatClampNeg sf 0).1) else -1
def n_ticks (f lw sf : Nat → Int32) (d : Nat) (n : Int32) : Nat → Int32 := if inR n 1 200 then (if sf 8 = 1 then sf else (tks f lw d n.toNatClampNeg sf 0).2) else sf
/-- the least push from b on -/
def brs (f lw : Nat → Int32) (d : Nat) (n : Nat) (s0 : Nat → Int32) : Nat → Nat → Int32
  | 0, _ => -9
  | q + 1, b => if (tks f lw d n (upd s0 3 (nI b)) 0).2 8 = 1 then nI b else brs f lw d n s0 q (b + 1)
def r_bears (f lw sf : Nat → Int32) (d : Nat) (n : Int32) : Int32 := if inR n 1 200 then brs f lw d n.toNatClampNeg (setF sf (sf 0) (sf 1) (sf 2)) 1000 1 else -1
