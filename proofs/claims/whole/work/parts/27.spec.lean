/-! habits, images, kinds, the text -/
theorem inR_1 {v hi : Int32} (n : Nat) (hn : n < 1000000) (hhi : hi = nI n) (h : inR v 1 hi) : ∃ j : Nat, 1 ≤ j ∧ j ≤ n ∧ v = nI j := by
  have h0 : inR v 0 hi := ⟨fun z => h.1 (by rw [Int32.lt_iff_toInt_lt] at z ⊢; have e0 : (0 : Int32).toInt = 0 := rfl; have e1 : (1 : Int32).toInt = 1 := rfl; rw [e0] at z; rw [e1]; omega), h.2⟩
  obtain ⟨j, h1, h2⟩ := inR_n n hn hhi h0
  refine ⟨j, ?_, h1, h2⟩
  rcases Nat.eq_zero_or_pos j with z | z
  · subst z; subst h2; exact absurd (by decide) h.1
  · exact z
theorem tickF_0 (f lw sf : Nat → Int32) (d : Nat) : tickF f lw sf d 0 = sf 0 := rfl
theorem tickF_hi (f lw sf : Nat → Int32) (d : Nat) {z : Nat} (h : 25 ≤ z) : tickF f lw sf d z = sf z := by
  unfold tickF
  rw [upd_ne _ _ (by omega), upd_ne _ _ (by omega), upd_ne _ _ (by omega), upd_ne _ _ (by omega), upd_ne _ _ (by omega), upd_ne _ _ (by omega), upd_ne _ _ (by omega), upd_ne _ _ (by omega), upd_ne _ _ (by omega), upd_ne _ _ (by omega)]
  exact if_neg (fun q => by omega)
theorem setF_ext {g f : Nat → Int32} (h : ∀ z, 25 ≤ z → g z = f z) (i v r : Int32) : setF g i v r = setF f i v r := by
  have e : fil (fun _ => 0) g 25 = fil (fun _ => 0) f 25 := funext fun z => by
    by_cases hz : z < 25
    · rw [fil_lt hz, fil_lt hz]
    · rw [fil_ge hz, fil_ge hz, h z (by omega)]
  unfold setF
  rw [e]
theorem setF_hi (g : Nat → Int32) (i v r : Int32) {z : Nat} (h : 25 ≤ z) : setF g i v r z = g z := by
  unfold setF
  rw [upd_ne _ _ (by omega), upd_ne _ _ (by omega), upd_ne _ _ (by omega), fil_ge (by omega)]
def atN (sf : Nat → Int32) (n : Nat) : Int32 := if 5 ≤ n then (if n = 5 then sf 8 else sf 9) else sf (3 + n)
def r_at2 (sf : Nat → Int32) (w : Int32) : Int32 := if inR w 0 6 then atN sf w.toNatClampNeg else NO
-- a WEEK
def wkU (sf : Nat → Int32) (ub : Int32) (x : Nat) : Int32 := if sf (27 + x) = 1 then 100 else (if sf (25 + x) + ub ≤ 100 then sf (25 + x) + ub else 100)
def wkD (sf : Nat → Int32) (db : Int32) (x : Nat) : Int32 := if 0 ≤ sf (25 + (1 - x)) - db then sf (25 + (1 - x)) - db else 0
def wk2 (sf : Nat → Int32) (ub db : Int32) (x : Nat) : Nat → Int32 := upd (upd sf (25 + x) (wkU sf ub x)) (25 + (1 - x)) (wkD sf db x)
def wkF (sf : Nat → Int32) (ub db : Int32) (x : Nat) : Nat → Int32 := upd (wk2 sf ub db x) (27 + x) (if wk2 sf ub db x (25 + x) = 100 then 1 else wk2 sf ub db x (27 + x))
def wkN (ub db : Int32) (x : Nat) : Nat → (Nat → Int32) → (Nat → Int32)
  | 0, sf => sf
  | n + 1, sf => wkN ub db x n (wkF sf ub db x)
abbrev okWk (w n : Int32) : Prop := inR w 0 1 ∧ inR n 1 50
def n_weeks (sf : Nat → Int32) (ub db w n : Int32) : Nat → Int32 := if okWk w n then wkN ub db w.toNatClampNeg n.toNatClampNeg sf else sf
def r_weeks (sf : Nat → Int32) (ub db w n : Int32) : Int32 := if okWk w n then wkN ub db w.toNatClampNeg n.toNatClampNeg sf (25 + w.toNatClampNeg) else -1
abbrev okTune (w v : Int32) : Prop := inR w 0 1 ∧ inR v (bI (w = 0)) 50
def r_tune (ub db w v : Int32) : Int32 := if okTune w v then (if w = 0 then ub else db) else -1
def n_ub (ub w v : Int32) : Int32 := if okTune w v then (if w = 0 then v else ub) else ub
def n_db (db w v : Int32) : Int32 := if okTune w v then (if w = 1 then v else db) else db
abbrev okHab (w u : Int32) : Prop := inR w 0 1 ∧ inR u 0 1
def hbN (sf : Nat → Int32) (ub : Int32) (x : Nat) : Int32 := if sf (25 + x) = 100 then 0 else if sf (27 + x) = 1 then 1 else (100 - sf (25 + x) + ub - 1) / ub
def r_habit (sf : Nat → Int32) (ub w u : Int32) : Int32 := if okHab w u then (if u = 0 then sf (25 + w.toNatClampNeg) else hbN sf ub w.toNatClampNeg) else -1
-- KINDS
def mny (x : Int64) : Nat → Int32
  | 0 => 0
  | n + 1 => mny x n + ((x >>> ((nI n).toInt64 &&& 63)) &&& 1).toInt32
def unt (f : Nat → Int32) : Int32 := ct f 41 - mny (rg (upd f 1 0) 41) 41
def uns (f : Nat → Int32) : Int32 := ct f 41 - mny (rg (upd f 0 0) 41) 41
def scV (f : Nat → Int32) (h kd : Int32) : Int32 := if kd = 0 then ct f 41 else (if kd = 1 then ct f 41 + f 1 else (if kd = 2 then uns f else (if kd = 3 then unt f else (if kd = 4 then 2 * unt f + f 0 else (if kd = 5 then ct f 41 - h / 10 else ct f 41 * f 3)))))
def trV (kd : Int32) : Int64 := if kd = 0 then 1 else (if kd = 1 then 11 else (if kd = 2 then 101 else (if kd = 3 then 1001 else (if kd = 4 then 11001 else (if kd = 5 then 100001 else 1000001)))))
abbrev okSc (kd i : Int32) : Prop := inR kd 0 6 ∧ inR i 0 3
def r_score (nb : Nat → Nat → Int32) (h kd i : Int32) : Int32 := if okSc kd i then scV (nb i.toNatClampNeg) h kd else NO
def n_trace (tr : Int64) (kd i : Int32) : Int64 := if okSc kd i then tr + trV kd else tr
-- IMAGES
def kpF (kp : Nat → Nat → Int32) : Nat → Int32 := fun q => kp (q / 29) (q % 29)
theorem kpF_at (kp : Nat → Nat → Int32) (i : Nat) {k : Nat} (h : k < 29) : kpF kp (29 * i + k) = kp i k := by
  have h1 : (29 * i + k) / 29 = i := by omega
  have h2 : (29 * i + k) % 29 = k := by omega
  show kp ((29 * i + k) / 29) ((29 * i + k) % 29) = kp i k
  rw [h1, h2]
def rfl2 (kp : Nat → Nat → Int32) (i : Nat) (g : Nat → Int32) (j : Nat) : Nat → Nat → Int32 := fun a b => if a = i ∧ b < j then g b else kp a b
theorem rfl2_0 (kp : Nat → Nat → Int32) (i : Nat) (g : Nat → Int32) : kpF (rfl2 kp i g 0) = kpF kp := funext fun q => if_neg (fun h => by omega)
theorem rfl2_s (kp : Nat → Nat → Int32) (i : Nat) (g : Nat → Int32) {j : Nat} (h : j < 29) : upd (kpF (rfl2 kp i g j)) (29 * i + j) (g j) = kpF (rfl2 kp i g (j + 1)) := funext fun q => by
  by_cases hq : q = 29 * i + j
  · subst hq; rw [upd_at, kpF_at _ _ h]; exact (if_pos ⟨rfl, Nat.lt_succ_self j⟩).symm
  · rw [upd_ne _ _ hq]
    show (if q / 29 = i ∧ q % 29 < j then g (q % 29) else kp (q / 29) (q % 29)) = (if q / 29 = i ∧ q % 29 < j + 1 then g (q % 29) else kp (q / 29) (q % 29))
    by_cases h1 : q / 29 = i ∧ q % 29 < j
    · rw [if_pos h1, if_pos ⟨h1.1, by omega⟩]
    · rw [if_neg h1, if_neg (fun z => h1 ⟨z.1, by omega⟩)]
def keepK (kp : Nat → Nat → Int32) (i : Nat) (g : Nat → Int32) : Nat → Nat → Int32 := fun a => if a = i then g else kp a
theorem rfl2_end (kp : Nat → Nat → Int32) (i : Nat) (g : Nat → Int32) (q : Nat) : kpF (rfl2 kp i g 29) q = kpF (keepK kp i g) q := by
  show (if q / 29 = i ∧ q % 29 < 29 then g (q % 29) else kp (q / 29) (q % 29)) = (if q / 29 = i then g else kp (q / 29)) (q % 29)
  by_cases h1 : q / 29 = i
  · rw [if_pos ⟨h1, Nat.mod_lt _ (by decide)⟩, if_pos h1]
  · rw [if_neg (fun z => h1 z.1), if_neg h1]
def r_keep (sf : Nat → Int32) (w : Int32) : Int32 := if inR w 0 1 then sf 7 else -1
def n_kp (kp : Nat → Nat → Int32) (sf : Nat → Int32) (w : Int32) : Nat → Nat → Int32 := if inR w 0 1 then keepK kp w.toNatClampNeg sf else kp
def n_ik (ik : Nat → Int32) (w : Int32) : Nat → Int32 := if inR w 0 1 then upd ik w.toNatClampNeg 1 else ik
def r_back (kp : Nat → Nat → Int32) (ik : Nat → Int32) (w : Int32) : Int32 := if inR w 0 1 then (if ik w.toNatClampNeg = 0 then -2 else kp w.toNatClampNeg 7) else -1
def n_back (kp : Nat → Nat → Int32) (ik sf : Nat → Int32) (w : Int32) : Nat → Int32 := if inR w 0 1 then (if ik w.toNatClampNeg = 0 then sf else kp w.toNatClampNeg) else sf
-- COUNT
def cuN (nb : Nat → Nat → Int32) : Nat → Int32
  | 0 => 0
  | n + 1 => cuN nb n + ct (nb n) 41
def r_count (nb : Nat → Nat → Int32) (it tp w : Int32) : Int32 := if w = 0 then it else (if w = 1 then tp else (if w = 2 then cuN nb 4 else -1))
-- THE TEXT
def byV (v : Int64) (k : Nat) : Int32 := ((v >>> ((nI (8 * k)).toInt64 &&& 63)) &&& 255).toInt32
def tyF (tx : Nat → Int32) (tn : Nat) (v : Int64) (n c : Nat) : Nat → Int32 := fun z => if tn ≤ z ∧ z < tn + c then byV v (n - 1 - (z - tn)) else tx z
theorem tyF_0 (tx : Nat → Int32) (tn : Nat) (v : Int64) (n : Nat) : tyF tx tn v n 0 = tx := funext fun z => if_neg (fun h => by omega)
theorem tyF_s (tx : Nat → Int32) (tn : Nat) (v : Int64) {n c q : Nat} (h : c + q = n) (hq : 1 ≤ q) : upd (tyF tx tn v n c) (tn + c) (byV v (q - 1)) = tyF tx tn v n (c + 1) := funext fun z => by
  by_cases hz : z = tn + c
  · subst hz; rw [upd_at]
    refine Eq.trans ?_ (if_pos ⟨by omega, by omega⟩).symm
    rw [show n - 1 - (tn + c - tn) = q - 1 by omega]
  · rw [upd_ne _ _ hz]
    by_cases h1 : tn ≤ z ∧ z < tn + c
    · exact (if_pos h1).trans (if_pos ⟨h1.1, by omega⟩).symm
    · exact (if_neg h1).trans (if_neg (fun y => h1 ⟨y.1, by omega⟩)).symm
theorem sub1_lt {q : Nat} (h : q < 1000000) : (nI q - 1 < 0) ↔ q = 0 := by
  rcases Nat.eq_zero_or_pos q with z | z
  · subst z; exact ⟨fun _ => rfl, fun _ => by decide⟩
  · rw [show nI q - 1 = nI (q - 1) from pk_sub (a := q) (b := 1) z]
    exact ⟨fun y => absurd y (nI_pos (by omega)), fun y => by omega⟩
theorem add_m1 (x : Int32) : x + (-1) = x - 1 := (Int32.sub_eq_add_neg x 1).symm
abbrev okTy (tn : Nat) (n : Int32) : Prop := inR n 1 8 ∧ tn + n.toNatClampNeg ≤ 200
def r_type (tn : Nat) (n : Int32) : Int32 := if inR n 1 8 then (if tn + n.toNatClampNeg ≤ 200 then nI (tn + n.toNatClampNeg) else -3) else -1
def n_tn (tn : Nat) (n : Int32) : Nat := if okTy tn n then tn + n.toNatClampNeg else tn
def n_tx (tx : Nat → Int32) (tn : Nat) (v : Int64) (n : Int32) : Nat → Int32 := if okTy tn n then tyF tx tn v n.toNatClampNeg n.toNatClampNeg else tx
theorem nI_ne_m9 {j : Nat} (h : j < 1000000) : ¬ nI j = -9 := fun e => by
  have h1 : (nI j).toInt = (j : Int) := nI_toInt (by omega)
  rw [e] at h1
  have h2 : (-9 : Int32).toInt = -9 := rfl
  rw [h2] at h1
  omega
