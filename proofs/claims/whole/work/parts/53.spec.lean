/-! rides, as the class's calls answer -/
def rdT (tn : Nat) (i v r : Int32) : Nat := if okRide i v r then 0 else tn
theorem fl_b {r : Int32} (h : inR r 0 1) : bI (r = 1) = r := by
  by_cases h0 : r = 0
  · subst h0; rfl
  · have e := fl_1 h h0
    subst e; rfl
theorem b01_b {x : Int32} (h : x = 0 ∨ x = 1) : bI (¬ (x = 0)) = x := by rcases h with e | e <;> subst e <;> rfl
theorem okF_long {f : Nat → Int32} (h : okF f) : (if 1 < f 4 then f 4 else 1) = f 4 := by
  obtain ⟨-, ⟨b, h1, h9, e⟩, -⟩ := okF_get h
  rw [e]
  by_cases hb : 1 < nI b
  · rw [if_pos hb]
  · rw [if_neg hb]
    have q : ¬ 1 < b := fun z => hb ((nI_ltI (a := 1) (by omega) (by omega)).mpr z)
    have e2 : b = 1 := by omega
    subst e2; rfl
theorem okF_4 {f : Nat → Int32} (h : okF f) : ¬ f 4 = 0 := by
  obtain ⟨-, ⟨b, h1, h9, e⟩, -⟩ := okF_get h
  rw [e]; exact nI_ne0 (by omega) (by omega)
theorem okF_40 {f : Nat → Int32} (h : okF f) : ¬ 10 * f 4 = 0 := by
  obtain ⟨-, ⟨b, h1, h9, e⟩, -⟩ := okF_get h
  rw [e, show (10 : Int32) = nI 10 from rfl, pk_mul]; exact nI_ne0 (by omega) (by omega)
/-- n WEEKS of one bar -/
def hkN (k : Nat) (ub db : Int32) : Nat → (Nat → Int32) × (Nat → Int32) → (Nat → Int32) × (Nat → Int32)
  | 0, p => p
  | n + 1, p => hkN k ub db n (upd (upd p.1 k (hbU p.1 p.2 ub k)) (1 - k) (hbD p.1 db k), upd p.2 k (bI (hbU p.1 p.2 ub k = 100)))
def c_wk (hv hw : Nat → Int32) (ub db w n : Int32) : (Nat → Int32) × (Nat → Int32) := if okWk w n then hkN w.toNatClampNeg ub db n.toNatClampNeg (hv, hw) else (hv, hw)
def c_weeks (hv hw : Nat → Int32) (ub db w n : Int32) : Int32 := if okWk w n then (c_wk hv hw ub db w n).1 w.toNatClampNeg else -1
theorem cons_eq2 {a b : Value} {l k : List Value} (h : a = b) (h2 : l = k) : a :: l = b :: k := by rw [h, h2]
/-- an object under other words for its fields -/
theorem ob_ws {D : va_G} {A : Nat → Prop} {ws : va_W} {H : Heap} {a ci : Nat} {fs gs : List Value} (hP : va_P D vwCl ws H) (hD : va_D A ws) (k : Nat) (hk : ws[k]? = some (a, .inr (ci, fs))) (h : fs = gs) : va_P D vwCl (ws.set k (a, .inr (ci, gs))) H ∧ va_D A (ws.set k (a, .inr (ci, gs))) := by
  subst h
  exact ⟨hP.set hD hk (hP k _ hk) (fun _ _ => rfl), hD.set hk⟩
