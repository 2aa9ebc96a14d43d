/-! all the same, as the class looks for it -/
def iZ (w : Int) : Int32 := Int32.ofInt w
theorem iZ_int {w : Int} (h1 : -1000000 ≤ w) (h2 : w ≤ 1000000) : (iZ w).toInt = w := by
  show (Int32.ofInt w).toInt = w
  rw [Int32.toInt_ofInt, bm32 h1 h2]
theorem iZ_of (x : Int32) : x = iZ x.toInt := (Int32.ofInt_toInt x).symm
theorem iZ_lt {a b : Int} (h1 : -1000000 ≤ a) (h2 : a ≤ 1000000) (h3 : -1000000 ≤ b) (h4 : b ≤ 1000000) : (iZ a < iZ b) ↔ a < b := by rw [Int32.lt_iff_toInt_lt, iZ_int h1 h2, iZ_int h3 h4]
theorem iZ_s {w : Int} (h1 : -1000 ≤ w) (h2 : w ≤ 1000) : iZ w + 1 = iZ (w + 1) := Int32.toInt_inj.mp (by
  rw [Int32.toInt_add, iZ_int (by omega) (by omega), iZ_int (by omega) (by omega), show (1 : Int32).toInt = 1 from rfl, bm32 (by omega) (by omega)])
def lowZ (j : Nat) : Int := if j < 3 then -9 else if j < 5 then 1 else 0
def loZ (f : Nat → Int32) (j z : Nat) : Int := if lowZ j < (f j).toInt - z then (f j).toInt - z else lowZ j
def hiZ (f : Nat → Int32) (j z : Nat) : Int := if (f j).toInt + z < 9 then (f j).toInt + z else 9
theorem low_int : ∀ j, j < 6 → (s_LOW j).toInt = lowZ j := by decide +kernel
theorem lowZ_in : ∀ j, j < 6 → -9 ≤ lowZ j ∧ lowZ j ≤ 1 := by decide +kernel
theorem okF_low {f : Nat → Int32} (h : okF f) {j : Nat} (hj : j < 6) : lowZ j ≤ (f j).toInt ∧ (f j).toInt ≤ 9 := by
  have h1 := inR_int (h j hj)
  rw [← low_bot j hj, low_int j hj] at h1
  exact h1
theorem lo_c {f : Nat → Int32} (h : okF f) {j z : Nat} (hj : j < 6) (hz : z ≤ 6) : (if s_LOW j < f j - nI z then f j - nI z else s_LOW j) = iZ (loZ f j z) := by
  have h1 := okF_low h hj
  have h2 := lowZ_in j hj
  have e : (f j - nI z).toInt = (f j).toInt - z := by rw [Int32.toInt_sub, nI_toInt (by omega), bm32 (by omega) (by omega)]
  unfold loZ
  by_cases hc : lowZ j < (f j).toInt - z
  · rw [if_pos hc, if_pos (Int32.lt_iff_toInt_lt.mpr (by rw [low_int j hj, e]; exact hc)), ← e, ← iZ_of]
  · rw [if_neg hc, if_neg (fun y => hc (by have := Int32.lt_iff_toInt_lt.mp y; rw [low_int j hj, e] at this; exact this)), ← low_int j hj, ← iZ_of]
theorem hi_c {f : Nat → Int32} (h : okF f) {j z : Nat} (hj : j < 6) (hz : z ≤ 6) : (if f j + nI z < s_HIGH j then f j + nI z else s_HIGH j) = iZ (hiZ f j z) := by
  have h1 := okF_low h hj
  have h2 := lowZ_in j hj
  have e : (f j + nI z).toInt = (f j).toInt + z := by rw [Int32.toInt_add, nI_toInt (by omega), bm32 (by omega) (by omega)]
  have e9 : (s_HIGH j).toInt = 9 := rfl
  unfold hiZ
  by_cases hc : (f j).toInt + z < 9
  · rw [if_pos hc, if_pos (Int32.lt_iff_toInt_lt.mpr (by rw [e9, e]; exact hc)), ← e, ← iZ_of]
  · rw [if_neg hc, if_neg (fun y => hc (by have := Int32.lt_iff_toInt_lt.mp y; rw [e9, e] at this; exact this))]
    rfl
theorem loZ_in {f : Nat → Int32} (h : okF f) {j z : Nat} (hj : j < 6) (hz : z ≤ 6) : lowZ j ≤ loZ f j z ∧ loZ f j z ≤ (f j).toInt ∧ (f j).toInt - z ≤ loZ f j z ∧ (f j).toInt ≤ hiZ f j z ∧ hiZ f j z ≤ 9 ∧ hiZ f j z ≤ (f j).toInt + z := by
  have h1 := okF_low h hj
  unfold loZ hiZ
  split <;> split <;> omega
theorem abs_c {x : Int32} {w : Int} (h1 : -9 ≤ w) (h2 : w ≤ 9) (h3 : -9 ≤ x.toInt) (h4 : x.toInt ≤ 9) : (if 0 ≤ iZ w - x then iZ w - x else 0 - (iZ w - x)) = nI (w - x.toInt).natAbs := by
  have e : (iZ w - x).toInt = w - x.toInt := by rw [Int32.toInt_sub, iZ_int (by omega) (by omega), bm32 (by omega) (by omega)]
  have e0 : (0 : Int32).toInt = 0 := rfl
  by_cases hc : 0 ≤ iZ w - x
  · rw [if_pos hc]
    have q := Int32.le_iff_toInt_le.mp hc
    rw [e0, e] at q
    exact Int32.toInt_inj.mp (by rw [e, nI_toInt (by omega)]; omega)
  · rw [if_neg hc]
    have q := Int32.lt_iff_toInt_lt.mp (Int32.not_le.mp hc)
    rw [e0, e] at q
    exact Int32.toInt_inj.mp (by rw [Int32.toInt_sub, e0, e, nI_toInt (by omega), bm32 (by omega) (by omega)]; omega)
/-- values w .. of number j, q of them, each followed by g -/
def ffL (g : Nat → (Nat → Int32) → Bool × (Nat → Int32)) (x : Int) (j z : Nat) : Nat → Int → (Nat → Int32) → Bool × (Nat → Int32)
  | 0, _, ft => (false, ft)
  | q + 1, w, ft => if (g (z - (w - x).natAbs) (upd ft j (iZ w))).1 = true then g (z - (w - x).natAbs) (upd ft j (iZ w)) else ffL g x j z q (w + 1) (g (z - (w - x).natAbs) (upd ft j (iZ w))).2
/-- whether a change of just z of the last r numbers gives a RANGE, and what was tried last -/
def ffR (f : Nat → Int32) (k : Nat) : Nat → Nat → (Nat → Int32) → Bool × (Nat → Int32)
  | 0, z, ft => (decide (z = 0) && decide (¬ rg ft 41 = 0), ft)
  | r + 1, z, ft => if 5 - r = k then ffR f k r z (upd ft (5 - r) 0) else ffL (ffR f k r) (f (5 - r)).toInt (5 - r) z (hiZ f (5 - r) z + 1 - loZ f (5 - r) z).toNat (loZ f (5 - r) z) ft
theorem ffL_keep {g : Nat → (Nat → Int32) → Bool × (Nat → Int32)} {x : Int} {j z : Nat} (hg : ∀ z ft y, y < j + 1 → (g z ft).2 y = ft y) : ∀ (q : Nat) (w : Int) (ft : Nat → Int32) (y : Nat), y < j → (ffL g x j z q w ft).2 y = ft y
  | 0, _, _, _, _ => rfl
  | q + 1, w, ft, y, hy => by
    unfold ffL
    split
    · rw [hg _ _ _ (by omega), upd_ne _ _ (by omega)]
    · rw [ffL_keep hg q _ _ _ hy, hg _ _ _ (by omega), upd_ne _ _ (by omega)]
theorem ffR_keep (f : Nat → Int32) (k : Nat) : ∀ (r : Nat), r ≤ 6 → ∀ (z : Nat) (ft : Nat → Int32) (y : Nat), y < 6 - r → (ffR f k r z ft).2 y = ft y
  | 0, _, _, _, _, _ => rfl
  | r + 1, hr, z, ft, y, hy => by
    unfold ffR
    split
    · rw [ffR_keep f k r (by omega) _ _ _ (by omega), upd_ne _ _ (by omega)]
    · exact ffL_keep (fun z ft y hy => ffR_keep f k r (by omega) z ft y (by omega)) _ _ _ _ (by omega)
theorem ff0_iff (z : Nat) (ft : Nat → Int32) (f : Nat → Int32) (k : Nat) : ((z = 0) ∧ (¬ (rg ft 41 = 0))) ↔ (ffR f k 0 z ft).1 = true := by
  show _ ↔ (decide (z = 0) && decide (¬ rg ft 41 = 0)) = true
  rw [Bool.and_eq_true, decide_eq_true_iff, decide_eq_true_iff]
theorem iZ_in {j : Nat} (hj : j < 6) {w : Int} (h1 : lowZ j ≤ w) (h2 : w ≤ 9) : inR (iZ w) (bot (nI j)) 9 := by
  have h3 := lowZ_in j hj
  rw [← low_bot j hj]
  refine ⟨fun y => ?_, fun y => ?_⟩
  · have := Int32.lt_iff_toInt_lt.mp y; rw [low_int j hj, iZ_int (by omega) (by omega)] at this; omega
  · have := Int32.lt_iff_toInt_lt.mp y; rw [iZ_int (by omega) (by omega), show (9 : Int32).toInt = 9 from rfl] at this; omega
theorem zero_in : ∀ k, k < 3 → inR 0 (bot (nI k)) 9 := by decide +kernel
/-- LEAST change: from a size on -/
def lwF (f : Nat → Int32) (k : Nat) : Nat → Nat → (Nat → Int32) → Int32 × (Nat → Int32)
  | 0, _, ft => (-9, ft)
  | q + 1, z, ft => if (ffR f k 6 z ft).1 = true then (nI z, (ffR f k 6 z ft).2) else lwF f k q (z + 1) (ffR f k 6 z ft).2
