/-! rides, habits and riders of the class -/
theorem neg_int {w : Int32} (h1 : 0 ≤ w.toInt) (h2 : w.toInt ≤ 1000000) : (-w).toInt = -w.toInt := by rw [Int32.toInt_neg, bm32 (by omega) (by omega)]
theorem cl_wth {v w : Int32} (hw : inR w 0 1000000) : (if -w < (if v < w then v else w) then (if v < w then v else w) else -w) = wth v w := by
  have h9 := inR_int hw
  have e0 : (0 : Int32).toInt = 0 := rfl
  have e1 : (1000000 : Int32).toInt = 1000000 := rfl
  rw [e0, e1] at h9
  have hn := neg_int h9.1 h9.2
  unfold wth
  by_cases h : v < w
  · have h2 : v ≤ w := Int32.le_iff_toInt_le.mpr (by have := Int32.lt_iff_toInt_lt.mp h; omega)
    rw [if_pos h, if_pos h2]
    by_cases h3 : -w < v
    · have h4 : -w ≤ v := Int32.le_iff_toInt_le.mpr (by have := Int32.lt_iff_toInt_lt.mp h3; omega)
      rw [if_pos h3, if_pos h4]
    · rw [if_neg h3]
      by_cases h4 : -w ≤ v
      · rw [if_pos h4]
        exact Int32.toInt_inj.mp (by have q1 := Int32.le_iff_toInt_le.mp h4; have q2 := Int32.le_iff_toInt_le.mp (Int32.not_lt.mp h3); omega)
      · rw [if_neg h4]
  · rw [if_neg h]
    have q0 := Int32.le_iff_toInt_le.mp (Int32.not_lt.mp h)
    by_cases h3 : -w < w
    · rw [if_pos h3]
      by_cases h2 : v ≤ w
      · have q1 := Int32.le_iff_toInt_le.mp h2
        have e : v = w := Int32.toInt_inj.mp (by omega)
        subst e
        have h4 : -v ≤ v := Int32.le_iff_toInt_le.mpr (by omega)
        rw [if_pos h2, if_pos h4]
      · rw [if_neg h2]
    · rw [if_neg h3]
      have q2 := Int32.le_iff_toInt_le.mp (Int32.not_lt.mp h3)
      have e : -w = w := Int32.toInt_inj.mp (by omega)
      by_cases h2 : v ≤ w
      · have q1 := Int32.le_iff_toInt_le.mp h2
        have e2 : v = w := Int32.toInt_inj.mp (by omega)
        subst e2
        rw [if_pos h2, if_pos (Int32.le_iff_toInt_le.mpr (by omega)), e]
      · rw [if_neg h2, e]
theorem sub_ge0 {a b : Nat} (ha : a < 1000000) (hb : b < 1000000) : (0 ≤ nI a - nI b) ↔ b ≤ a := by
  have e0 : (0 : Int32).toInt = 0 := rfl
  rw [Int32.le_iff_toInt_le, e0, pk_sub_toInt (by omega) (by omega)]
  omega
/-- what a HAND does at a lean a, its change b, a bar x, where the bar is turned (rr) -/
def hC (lw : Nat → Int32) (rr a b x : Int32) : Int32 := if rr = 0 then wth ((lw 0 * a + lw 1 * b + lw 2 * x) / 10) (lw 4) else -wth ((lw 0 * a + lw 1 * b + lw 2 * x) / 10) (lw 4)
/-- the latest five TICKS stand in rows of six, and in the ride's own numbers -/
def histOK (sf : Nat → Int32) (tn : Nat) (pl pp pb : Nat → Int32) : Prop := ∀ j, 1 ≤ j → j ≤ 5 →
  (j ≤ tn → pl ((tn - j) % 6) = sf (10 + 3 * (j - 1)) ∧ pp ((tn - j) % 6) = sf (10 + 3 * (j - 1) + 1) ∧ pb ((tn - j) % 6) = sf (10 + 3 * (j - 1) + 2)) ∧
  (tn < j → sf (10 + 3 * (j - 1)) = 0 ∧ sf (10 + 3 * (j - 1) + 1) = 0 ∧ sf (10 + 3 * (j - 1) + 2) = 0)
theorem wth_0 {w : Int32} (hw : inR w 0 1000000) : wth 0 w = 0 := by
  have h9 := inR_int hw
  have e0 : (0 : Int32).toInt = 0 := rfl
  have e1 : (1000000 : Int32).toInt = 1000000 := rfl
  rw [e0, e1] at h9
  have hn := neg_int h9.1 h9.2
  unfold wth
  rw [if_pos (Int32.le_iff_toInt_le.mpr (by rw [e0]; exact h9.1)), if_pos (Int32.le_iff_toInt_le.mpr (by rw [e0]; omega))]
theorem hand_eq {lw sf pl pp pb : Nat → Int32} {tn d : Nat} (hd : d ≤ 5) (hm : inR (lw 4) 0 1000000) (h2 : sf 2 = 0 ∨ sf 2 = 1) (hh : histOK sf tn pl pp pb) :
    (if d ≤ tn then hC lw (sf 2) (upd pl (tn % 6) (sf 3) ((tn - d) % 6)) (upd pp (tn % 6) (sf 5) ((tn - d) % 6)) (upd pb (tn % 6) (sf 4) ((tn - d) % 6)) else 0) = hnR lw sf d := by
  have key : ∀ a b x : Int32, hC lw (sf 2) a b x = if sf 2 = 1 then -wth ((lw 0 * a + lw 1 * b + lw 2 * x) / 10) (lw 4) else wth ((lw 0 * a + lw 1 * b + lw 2 * x) / 10) (lw 4) := by
    intro a b x
    unfold hC
    rcases h2 with e | e
    · rw [if_pos e, if_neg (by rw [e]; decide)]
    · rw [if_neg (by rw [e]; decide), if_pos e]
  have key2 : ∀ a b x : Int32, (if d = 0 then sf 3 else sf (10 + 3 * (d - 1))) = a → (if d = 0 then sf 5 else sf (10 + 3 * (d - 1) + 1)) = b → (if d = 0 then sf 4 else sf (10 + 3 * (d - 1) + 2)) = x → hnR lw sf d = if sf 2 = 1 then -wth ((lw 0 * a + lw 1 * b + lw 2 * x) / 10) (lw 4) else wth ((lw 0 * a + lw 1 * b + lw 2 * x) / 10) (lw 4) := by
    intro a b x e1 e2 e3
    unfold hnR hnd
    rw [e1, e2, e3]
  by_cases hdt : d ≤ tn
  · rw [if_pos hdt, key]
    by_cases h0 : d = 0
    · subst h0
      rw [Nat.sub_zero, upd_at, upd_at, upd_at]
      exact (key2 _ _ _ (if_pos rfl) (if_pos rfl) (if_pos rfl)).symm
    · have hne : (tn - d) % 6 ≠ tn % 6 := by omega
      obtain ⟨q1, q2, q3⟩ := (hh d (by omega) hd).1 hdt
      rw [upd_ne _ _ hne, upd_ne _ _ hne, upd_ne _ _ hne, q1, q2, q3]
      exact (key2 _ _ _ (if_neg h0) (if_neg h0) (if_neg h0)).symm
  · rw [if_neg hdt]
    obtain ⟨q1, q2, q3⟩ := (hh d (by omega) hd).2 (by omega)
    have h0 : ¬ d = 0 := by omega
    have e := key2 0 0 0 (by rw [if_neg h0, q1]) (by rw [if_neg h0, q2]) (by rw [if_neg h0, q3])
    rw [e, Int32.mul_zero, Int32.mul_zero, Int32.mul_zero, show ((0 : Int32) + 0 + 0) / 10 = 0 by decide, wth_0 hm]
    split <;> rfl
theorem hist_tick {f lw sf pl pp pb : Nat → Int32} {tn d : Nat} (hh : histOK sf tn pl pp pb) : histOK (tickF f lw sf d) (tn + 1) (upd pl (tn % 6) (sf 3)) (upd pp (tn % 6) (sf 5)) (upd pb (tn % 6) (sf 4)) := by
  intro j h1 h5
  have rd : ∀ z, 13 ≤ z → z ≤ 24 → tickF f lw sf d z = sf (z - 3) := by
    intro z z1 z2
    unfold tickF
    rw [upd_ne _ _ (by omega), upd_ne _ _ (by omega), upd_ne _ _ (by omega), upd_ne _ _ (by omega), upd_ne _ _ (by omega), upd_ne _ _ (by omega), upd_ne _ _ (by omega), upd_ne _ _ (by omega), upd_ne _ _ (by omega), upd_ne _ _ (by omega)]
    exact if_pos ⟨by omega, z2⟩
  rcases Nat.eq_or_lt_of_le h1 with e | e
  · subst e
    refine ⟨fun _ => ?_, fun z => by omega⟩
    rw [show (tn + 1 - 1) % 6 = tn % 6 by rw [Nat.add_sub_cancel], upd_at, upd_at, upd_at]
    exact ⟨rfl, rfl, rfl⟩
  · obtain ⟨q1, q2⟩ := hh (j - 1) (by omega) (by omega)
    rw [rd _ (by omega) (by omega), rd _ (by omega) (by omega), rd _ (by omega) (by omega)]
    refine ⟨fun z => ?_, fun z => ?_⟩
    · have hne : (tn + 1 - j) % 6 ≠ tn % 6 := by omega
      rw [upd_ne _ _ hne, upd_ne _ _ hne, upd_ne _ _ hne]
      obtain ⟨r1, r2, r3⟩ := q1 (by omega)
      rw [show tn + 1 - j = tn - (j - 1) by omega, r1, r2, r3]
      refine ⟨congrArg sf (by omega), congrArg sf (by omega), congrArg sf (by omega)⟩
    · obtain ⟨r1, r2, r3⟩ := q2 (by omega)
      refine ⟨?_, ?_, ?_⟩
      · rw [show 10 + 3 * (j - 1) - 3 = 10 + 3 * (j - 1 - 1) by omega]; exact r1
      · rw [show 10 + 3 * (j - 1) + 1 - 3 = 10 + 3 * (j - 1 - 1) + 1 by omega]; exact r2
      · rw [show 10 + 3 * (j - 1) + 2 - 3 = 10 + 3 * (j - 1 - 1) + 2 by omega]; exact r3
theorem lies_c (a : Int32) : ((1000 < a) ∨ (a < (-1000))) ↔ liesP a := ⟨fun h => h.elim Or.inl (fun z => Or.inr (Int32.not_le.mpr z)), fun h => h.elim Or.inl (fun z => Or.inr (Int32.not_le.mp z))⟩
-- HABITS
def hbU (hv hw : Nat → Int32) (up : Int32) (w : Nat) : Int32 := if hw w = 0 then (if hv w + up < 100 then hv w + up else 100) else 100
def hbD (hv : Nat → Int32) (dn : Int32) (w : Nat) : Int32 := if 0 < hv (1 - w) - dn then hv (1 - w) - dn else 0
def twN (hv hw : Nat → Int32) (up : Int32) (w : Nat) : Int32 := if hw w = 0 then ((100 - hv w) + (if 1 < up then up else 1) - 1) / (if 1 < up then up else 1) else (if 100 - hv w < 1 then 100 - hv w else 1)
theorem mx1_ne (x : Int32) : ¬ (if 1 < x then x else 1) = 0 := fun h => by
  by_cases h1 : 1 < x
  · rw [if_pos h1] at h; subst h; exact absurd h1 (by decide)
  · rw [if_neg h1] at h; exact absurd h (by decide)
