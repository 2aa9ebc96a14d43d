/-! the text, as the reference reads it -/
def byR (tx : Nat → Int32) (n q : Nat) : Int32 := if n ≤ q then (-1) else tx q
theorem byR_in {tx : Nat → Int32} {n q : Nat} (h : q < n) : byR tx n q = tx q := if_neg (by omega)
theorem byR_out {tx : Nat → Int32} {n q : Nat} (h : n ≤ q) : byR tx n q = -1 := if_pos h
theorem byR_s {tx : Nat → Int32} {n q : Nat} (h : byR tx n q = 32) : q < n ∧ isS (tx q) = true := by
  rcases Nat.lt_or_ge q n with z | z
  · rw [byR_in z] at h; exact ⟨z, isS_i.mp h⟩
  · rw [byR_out z] at h; exact absurd h (by decide)
theorem byR_ns {tx : Nat → Int32} {n q : Nat} (h : ¬ byR tx n q = 32) : sp isS tx n q = q := by
  rcases Nat.lt_or_ge q n with z | z
  · rw [byR_in z] at h; exact sp_f (fun y => h (isS_i.mpr y))
  · exact sp_n z
theorem byR_l {tx : Nat → Int32} {n q : Nat} (h : inR (byR tx n q) 97 122) : q < n ∧ isL (tx q) = true := by
  rcases Nat.lt_or_ge q n with z | z
  · rw [byR_in z] at h; exact ⟨z, isL_i.mp h⟩
  · rw [byR_out z] at h; exact absurd h (by decide)
theorem byR_nl {tx : Nat → Int32} {n q : Nat} (h : ¬ inR (byR tx n q) 97 122) : sp isL tx n q = q := by
  rcases Nat.lt_or_ge q n with z | z
  · rw [byR_in z] at h; exact sp_f (fun y => h (isL_i.mpr y))
  · exact sp_n z
theorem byR_d {tx : Nat → Int32} {n q : Nat} (h : inR (byR tx n q) 48 57) : q < n ∧ isD (tx q) = true := by
  rcases Nat.lt_or_ge q n with z | z
  · rw [byR_in z] at h; exact ⟨z, isD_i.mp h⟩
  · rw [byR_out z] at h; exact absurd h (by decide)
theorem byR_nd {tx : Nat → Int32} {n q : Nat} (h : ¬ inR (byR tx n q) 48 57) : sp isD tx n q = q := by
  rcases Nat.lt_or_ge q n with z | z
  · rw [byR_in z] at h; exact sp_f (fun y => h (isD_i.mpr y))
  · exact sp_n z
theorem byR_ge {tx : Nat → Int32} {n q : Nat} (htx : ∀ k, k < n → ¬ tx k < 0) : (0 ≤ byR tx n q) ↔ q < n := by
  rcases Nat.lt_or_ge q n with z | z
  · rw [byR_in z]; exact ⟨fun _ => z, fun _ => Int32.not_lt.mp (htx q z)⟩
  · rw [byR_out z]; exact ⟨fun y => absurd y (by decide), fun y => by omega⟩
-- words as numbers
def wrd (a b c d : Int32) : Int64 := if d = 0 then 65536 * a.toInt64 + 256 * b.toInt64 + c.toInt64 else 256 * (65536 * a.toInt64 + 256 * b.toInt64 + c.toInt64) + d.toInt64
def wdR (v : Int64) : Int32 := if v = wrd 108 101 97 110 then 0 else (if v = wrd 114 97 116 101 then 1 else (if v = wrd 98 97 114 0 then 2 else (if v = wrd 108 97 116 101 then 3 else (if v = wrd 109 111 115 116 then 4 else (-9)))))
def wnR (tx : Nat → Int32) (b : Nat) : Nat → Int64
  | 0 => 0
  | j + 1 => if 6 ≤ j then wnR tx b j else 256 * wnR tx b j + (tx (b + j)).toInt64
def amR (tx : Nat → Int32) (b : Nat) : Nat → Int32
  | 0 => 0
  | j + 1 => if amR tx b j ≤ 999 then 10 * amR tx b j + tx (b + j) - 48 else amR tx b j
def wnN (c : Nat → Nat) : Nat → Nat
  | 0 => 0
  | j + 1 => if 6 ≤ j then wnN c j else 256 * wnN c j + c j
theorem wn_eq {tx : Nat → Int32} {b : Nat} {c : Nat → Nat} : ∀ k, (∀ i, i < k → tx (b + i) = nI (c i) ∧ c i < 256) → wnR tx b k = lN (wnN c k)
  | 0, _ => rfl
  | k + 1, h => by
    have ih := wn_eq k (fun i hi => h i (by omega))
    show (if 6 ≤ k then wnR tx b k else 256 * wnR tx b k + (tx (b + k)).toInt64) = lN (if 6 ≤ k then wnN c k else 256 * wnN c k + c k)
    have hk := h k (by omega)
    by_cases h6 : 6 ≤ k
    · rw [if_pos h6, if_pos h6, ih]
    · rw [if_neg h6, if_neg h6, ih, hk.1, nI_l (by omega), show (256 : Int64) = lN 256 from rfl, lN_mul, lN_add]
theorem wn_lt {c : Nat → Nat} : ∀ k, (∀ i, i < k → c i < 256) → wnN c k < 256 ^ (min k 6)
  | 0, _ => by show 0 < 256 ^ (min 0 6); decide
  | k + 1, h => by
    have ih := wn_lt k (fun i hi => h i (by omega))
    have hk := h k (by omega)
    show (if 6 ≤ k then wnN c k else 256 * wnN c k + c k) < _
    by_cases h6 : 6 ≤ k
    · rw [if_pos h6, show min (k + 1) 6 = min k 6 by omega]; exact ih
    · rw [if_neg h6, show min (k + 1) 6 = k + 1 by omega, Nat.pow_succ]
      rw [show min k 6 = k by omega] at ih
      omega
theorem wn_big {c : Nat → Nat} (h0 : 97 ≤ c 0) : ∀ k, 5 ≤ k → 416611827712 ≤ wnN c k
  | 0, h => by omega
  | 1, h => by omega
  | 2, h => by omega
  | 3, h => by omega
  | 4, h => by omega
  | 5, _ => by simp only [wnN]; simp; omega
  | k + 6, _ => by
    have ih := wn_big h0 (k + 5) (by omega)
    show 416611827712 ≤ (if 6 ≤ k + 5 then wnN c (k + 5) else 256 * wnN c (k + 5) + c (k + 5))
    split <;> omega
def wN : Nat → Nat := fun j => match j with | 0 => 108 | 1 => 101 | 2 => 97 | 3 => 110 | 4 => 32 | 5 => 114 | 6 => 97 | 7 => 116 | 8 => 101 | 9 => 32 | 10 => 98 | 11 => 97 | 12 => 114 | 13 => 32 | 14 => 32 | 15 => 108 | 16 => 97 | 17 => 116 | 18 => 101 | 19 => 32 | 20 => 109 | 21 => 111 | 22 => 115 | 23 => 116 | _ => 32
theorem wN_s : ∀ j, j < 25 → s_WORDS j = nI (wN j) ∧ wN j < 256 := by decide +kernel
def wT : Nat → Nat := fun j => match j with | 0 => 1818583406 | 1 => 1918989413 | 2 => 6447474 | 3 => 1818326117 | _ => 1836020596
theorem wT_s : wrd 108 101 97 110 = lN (wT 0) ∧ wrd 114 97 116 101 = lN (wT 1) ∧ wrd 98 97 114 0 = lN (wT 2) ∧ wrd 108 97 116 101 = lN (wT 3) ∧ wrd 109 111 115 116 = lN (wT 4) := by decide +kernel
/-- the letters from b to e are the word of an item just where their number is that word's -/
theorem wd_num {tx : Nat → Int32} {b e : Nat} {c : Nat → Nat} (hk : 0 < e - b) (hc : ∀ i, i < e - b → tx (b + i) = nI (c i) ∧ 97 ≤ c i ∧ c i ≤ 122) : ∀ it, it < 5 → (wdB tx b e it = true ↔ wnN c (e - b) = wT it) := by
  intro it hit
  have key : wdB tx b e it = true ↔ (e - b < 5 ∧ wN (it * 5 + (e - b)) = 32) ∧ ∀ i, i < e - b → wN (it * 5 + i) = c i := by
    rw [wd_i]
    constructor
    · rintro ⟨⟨h1, h2⟩, h3⟩
      refine ⟨⟨h1, ?_⟩, fun i hi => ?_⟩
      · have q := wN_s (it * 5 + (e - b)) (by omega)
        rw [q.1, show (32 : Int32) = nI 32 from rfl] at h2
        exact (nI_eq (by omega) (by omega)).mp h2
      · have q := wN_s (it * 5 + i) (by omega)
        have h4 := alB_g h3 i hi
        rw [q.1, (hc i hi).1] at h4
        exact (nI_eq (by omega) (by have := hc i hi; omega)).mp h4
    · rintro ⟨⟨h1, h2⟩, h3⟩
      refine ⟨⟨h1, ?_⟩, ?_⟩
      · rw [(wN_s (it * 5 + (e - b)) (by omega)).1, h2]; rfl
      · have al : ∀ k, k ≤ e - b → alB tx b it k = true := by
          intro k
          induction k with
          | zero => intro _; rfl
          | succ k ih => intro hk1; exact alB_s (ih (by omega)) (by rw [(wN_s (it * 5 + k) (by omega)).1, h3 k (by omega), (hc k (by omega)).1])
        exact al _ (Nat.le_refl _)
  rw [key]
  generalize hg : e - b = k at *
  have c0 := (hc 0 hk).2
  rcases (show k = 1 ∨ k = 2 ∨ k = 3 ∨ k = 4 ∨ 5 ≤ k by omega) with h | h | h | h | h
  · subst h
    have e1 : wnN c 1 = c 0 := by simp [wnN]
    rw [e1]
    rcases (show it = 0 ∨ it = 1 ∨ it = 2 ∨ it = 3 ∨ it = 4 by omega) with h | h | h | h | h <;> subst h <;> simp [wN, wT] <;> omega
  · subst h
    have c1 := (hc 1 (by omega)).2
    have e1 : wnN c 2 = 256 * c 0 + c 1 := by simp [wnN]
    rw [e1]
    rcases (show it = 0 ∨ it = 1 ∨ it = 2 ∨ it = 3 ∨ it = 4 by omega) with h | h | h | h | h <;> subst h <;> simp [wN, wT] <;> omega
  · subst h
    have c1 := (hc 1 (by omega)).2
    have c2 := (hc 2 (by omega)).2
    have e1 : wnN c 3 = 256 * (256 * c 0 + c 1) + c 2 := by simp [wnN]
    rw [e1]
    have key3 : ∀ f : Nat → Nat, (∀ i, i < 3 → f i = c i) ↔ (f 0 = c 0 ∧ f 1 = c 1 ∧ f 2 = c 2) := fun f => ⟨fun h => ⟨h 0 (by omega), h 1 (by omega), h 2 (by omega)⟩, fun h i hi => by rcases (show i = 0 ∨ i = 1 ∨ i = 2 by omega) with q | q | q <;> subst q <;> first | exact h.1 | exact h.2.1 | exact h.2.2⟩
    rw [key3 (fun i => wN (it * 5 + i))]
    rcases (show it = 0 ∨ it = 1 ∨ it = 2 ∨ it = 3 ∨ it = 4 by omega) with h | h | h | h | h <;> subst h <;> simp [wN, wT] <;> omega
  · subst h
    have c1 := (hc 1 (by omega)).2
    have c2 := (hc 2 (by omega)).2
    have c3 := (hc 3 (by omega)).2
    have e1 : wnN c 4 = 256 * (256 * (256 * c 0 + c 1) + c 2) + c 3 := by simp [wnN]
    rw [e1]
    have key4 : ∀ f : Nat → Nat, (∀ i, i < 4 → f i = c i) ↔ (f 0 = c 0 ∧ f 1 = c 1 ∧ f 2 = c 2 ∧ f 3 = c 3) := fun f => ⟨fun h => ⟨h 0 (by omega), h 1 (by omega), h 2 (by omega), h 3 (by omega)⟩, fun h i hi => by rcases (show i = 0 ∨ i = 1 ∨ i = 2 ∨ i = 3 by omega) with q | q | q | q <;> subst q <;> first | exact h.1 | exact h.2.1 | exact h.2.2.1 | exact h.2.2.2⟩
    rw [key4 (fun i => wN (it * 5 + i))]
    rcases (show it = 0 ∨ it = 1 ∨ it = 2 ∨ it = 3 ∨ it = 4 by omega) with h | h | h | h | h <;> subst h <;> simp [wN, wT] <;> omega
  · have hb := wn_big (c := c) c0.1 k h
    have ht : ∀ it, it < 5 → wT it < 416611827712 := by decide +kernel
    have := ht it hit
    exact ⟨fun z => by omega, fun z => by omega⟩
theorem let_nat {tx : Nat → Int32} {n b : Nat} : ∃ c : Nat → Nat, ∀ i, i < sp isL tx n b - b → tx (b + i) = nI (c i) ∧ 97 ≤ c i ∧ c i ≤ 122 := by
  refine ⟨fun i => (tx (b + i)).toNatClampNeg, fun i hi => ?_⟩
  have h1 := isL_i.mpr (sp_all (P := isL) (tx := tx) (n := n) (q := b) (z := b + i) (by omega) (by omega))
  have h2 := inR_int h1
  have e1 : (97 : Int32).toInt = 97 := rfl
  have e2 : (122 : Int32).toInt = 122 := rfl
  rw [e1, e2] at h2
  have h0 : ¬ tx (b + i) < 0 := fun z => by have := Int32.lt_iff_toInt_lt.mp z; rw [show (0 : Int32).toInt = 0 from rfl] at this; omega
  obtain ⟨j, hj, e⟩ := nI_of h0
  have ht : (tx (b + i)).toInt = (j : Int) := by rw [e]; exact nI_toInt hj
  show tx (b + i) = nI (tx (b + i)).toNatClampNeg ∧ 97 ≤ (tx (b + i)).toNatClampNeg ∧ (tx (b + i)).toNatClampNeg ≤ 122
  rw [e, nI_clamp hj]
  exact ⟨rfl, by omega, by omega⟩
/-- WORDS: both look at the same ones -/
theorem adv_w {tx : Nat → Int32} {n b : Nat} (h : b < n) (hl : isL (tx b) = true) : (wvF tx b (sp isL tx n b) 0 5).1 = (if wdR (wnR tx b (sp isL tx n b - b)) = (-9) then 5 else 1) ∧ ((wvF tx b (sp isL tx n b) 0 5).1 = 1 → wdR (wnR tx b (sp isL tx n b - b)) = (wvF tx b (sp isL tx n b) 0 5).2) := by
  obtain ⟨c, hc⟩ := let_nat (tx := tx) (n := n) (b := b)
  have hpos : 0 < sp isL tx n b - b := by
    have := sp_t h hl
    have h2 := sp_ge (P := isL) (tx := tx) (n := n) (q := b + 1)
    omega
  have hw := wd_num hpos hc
  have hn := wn_eq (tx := tx) (b := b) (c := c) (sp isL tx n b - b) (fun i hi => ⟨(hc i hi).1, by have := hc i hi; omega⟩)
  have hlt := wn_lt (c := c) (sp isL tx n b - b) (fun i hi => by have := hc i hi; omega)
  have h48 : wnN c (sp isL tx n b - b) < 281474976710656 := Nat.lt_of_lt_of_le hlt (Nat.le_trans (Nat.pow_le_pow_right (by decide) (Nat.min_le_right _ _)) (by decide))
  obtain ⟨t0, t1, t2, t3, t4⟩ := wT_s
  have hT : ∀ it, it < 5 → wT it < 2 ^ 31 := by decide +kernel
  have hq : ∀ it, it < 5 → (lN (wnN c (sp isL tx n b - b)) = lN (wT it) ↔ wnN c (sp isL tx n b - b) = wT it) := fun it hit => pk_lEQ (by omega) (by have := hT it hit; omega)
  rw [hn]
  unfold wdR
  rw [t0, t1, t2, t3, t4]
  generalize wnN c (sp isL tx n b - b) = N at hw hq
  have dis : ∀ i, i < 5 → ∀ j, j < 5 → wT i = wT j → i = j := by decide +kernel
  have go : ∀ v : Nat, v < 5 → N = wT v → wvF tx b (sp isL tx n b) 0 5 = (1, nI v) ∧ (if lN N = lN (wT 0) then (0 : Int32) else (if lN N = lN (wT 1) then 1 else (if lN N = lN (wT 2) then 2 else (if lN N = lN (wT 3) then 3 else (if lN N = lN (wT 4) then 4 else (-9)))))) = nI v := by
    intro v hv hN
    have hy : wdB tx b (sp isL tx n b) v = true := (hw v hv).mpr hN
    have hno : ∀ j, j < 5 → j ≠ v → ¬ wdB tx b (sp isL tx n b) j = true := fun j hj hne z => hne (dis j hj v hv (((hw j hj).mp z).symm.trans hN))
    have hne : ∀ j, j < 5 → j ≠ v → ¬ lN N = lN (wT j) := fun j hj h1 z => h1 (dis j hj v hv (((hq j hj).mp z).symm.trans hN))
    have hye : lN N = lN (wT v) := (hq v hv).mpr hN
    rcases (show v = 0 ∨ v = 1 ∨ v = 2 ∨ v = 3 ∨ v = 4 by omega) with q | q | q | q | q
    · subst q
      rw [wv_f (hno 4 (by omega) (by omega)), wv_f (hno 3 (by omega) (by omega)), wv_f (hno 2 (by omega) (by omega)), wv_f (hno 1 (by omega) (by omega)), wv_t hy, if_pos hye]
      exact ⟨rfl, rfl⟩
    · subst q
      rw [wv_f (hno 4 (by omega) (by omega)), wv_f (hno 3 (by omega) (by omega)), wv_f (hno 2 (by omega) (by omega)), wv_t hy, if_neg (hne 0 (by omega) (by omega)), if_pos hye]
      exact ⟨rfl, rfl⟩
    · subst q
      rw [wv_f (hno 4 (by omega) (by omega)), wv_f (hno 3 (by omega) (by omega)), wv_t hy, if_neg (hne 0 (by omega) (by omega)), if_neg (hne 1 (by omega) (by omega)), if_pos hye]
      exact ⟨rfl, rfl⟩
    · subst q
      rw [wv_f (hno 4 (by omega) (by omega)), wv_t hy, if_neg (hne 0 (by omega) (by omega)), if_neg (hne 1 (by omega) (by omega)), if_neg (hne 2 (by omega) (by omega)), if_pos hye]
      exact ⟨rfl, rfl⟩
    · subst q
      rw [wv_t hy, if_neg (hne 0 (by omega) (by omega)), if_neg (hne 1 (by omega) (by omega)), if_neg (hne 2 (by omega) (by omega)), if_neg (hne 3 (by omega) (by omega)), if_pos hye]
      exact ⟨rfl, rfl⟩
  by_cases hany : ∃ v, v < 5 ∧ N = wT v
  · obtain ⟨v, hv, hN⟩ := hany
    obtain ⟨g1, g2⟩ := go v hv hN
    rw [g1, g2, if_neg (nI_ne_m9 (by omega))]
    exact ⟨rfl, fun _ => rfl⟩
  · have hno : ∀ j, j < 5 → ¬ wdB tx b (sp isL tx n b) j = true := fun j hj z => hany ⟨j, hj, (hw j hj).mp z⟩
    have hne : ∀ j, j < 5 → ¬ lN N = lN (wT j) := fun j hj z => hany ⟨j, hj, (hq j hj).mp z⟩
    rw [wv_f (hno 4 (by omega)), wv_f (hno 3 (by omega)), wv_f (hno 2 (by omega)), wv_f (hno 1 (by omega)), wv_f (hno 0 (by omega)), if_neg (hne 0 (by omega)), if_neg (hne 1 (by omega)), if_neg (hne 2 (by omega)), if_neg (hne 3 (by omega)), if_neg (hne 4 (by omega)), if_pos rfl]
    exact ⟨rfl, fun z => absurd (show (5 : Int32) = 1 from z) (by decide)⟩
-- amounts
theorem dig_nat {tx : Nat → Int32} {n b : Nat} : ∃ c : Nat → Nat, ∀ i, i < sp isD tx n b - b → tx (b + i) = nI (48 + c i) ∧ c i ≤ 9 := by
  refine ⟨fun i => (tx (b + i)).toNatClampNeg - 48, fun i hi => ?_⟩
  have h1 := isD_i.mpr (sp_all (P := isD) (tx := tx) (n := n) (q := b) (z := b + i) (by omega) (by omega))
  have h2 := inR_int h1
  have e1 : (48 : Int32).toInt = 48 := rfl
  have e2 : (57 : Int32).toInt = 57 := rfl
  rw [e1, e2] at h2
  have h0 : ¬ tx (b + i) < 0 := fun z => by have := Int32.lt_iff_toInt_lt.mp z; rw [show (0 : Int32).toInt = 0 from rfl] at this; omega
  obtain ⟨j, hj, e⟩ := nI_of h0
  have ht : (tx (b + i)).toInt = (j : Int) := by rw [e]; exact nI_toInt hj
  show tx (b + i) = nI (48 + ((tx (b + i)).toNatClampNeg - 48)) ∧ (tx (b + i)).toNatClampNeg - 48 ≤ 9
  rw [e, nI_clamp hj]
  exact ⟨by rw [show 48 + (j - 48) = j by omega], by omega⟩
theorem dig_c (v d : Nat) : nI v * 10 + nI (48 + d) - 48 = nI (v * 10 + d) := by
  rw [show (10 : Int32) = nI 10 from rfl, show (48 : Int32) = nI 48 from rfl, pk_mul, nI_add, pk_sub (by omega), show v * 10 + (48 + d) - 48 = v * 10 + d by omega]
theorem dig_r (v d : Nat) : 10 * nI v + nI (48 + d) - 48 = nI (v * 10 + d) := by rw [Int32.mul_comm 10]; exact dig_c v d
theorem am_eq {tx : Nat → Int32} {b : Nat} {c : Nat → Nat} : ∀ k, (∀ i, i < k → tx (b + i) = nI (48 + c i) ∧ c i ≤ 9) → (∃ v, v ≤ 999 ∧ amC tx b k = nI v ∧ amR tx b k = nI v) ∨ (amC tx b k = 1000 ∧ ∃ v, 1000 ≤ v ∧ v ≤ 99999 ∧ amR tx b k = nI v)
  | 0, _ => Or.inl ⟨0, by omega, rfl, rfl⟩
  | k + 1, h => by
    have hk := h k (by omega)
    show (∃ v, v ≤ 999 ∧ (if 1000 < amC tx b k * 10 + tx (b + k) - 48 then 1000 else amC tx b k * 10 + tx (b + k) - 48) = nI v ∧ (if amR tx b k ≤ 999 then 10 * amR tx b k + tx (b + k) - 48 else amR tx b k) = nI v) ∨ ((if 1000 < amC tx b k * 10 + tx (b + k) - 48 then 1000 else amC tx b k * 10 + tx (b + k) - 48) = 1000 ∧ ∃ v, 1000 ≤ v ∧ v ≤ 99999 ∧ (if amR tx b k ≤ 999 then 10 * amR tx b k + tx (b + k) - 48 else amR tx b k) = nI v)
    rcases am_eq k (fun i hi => h i (by omega)) with ⟨v, hv, e1, e2⟩ | ⟨e1, v, hv, hv2, e2⟩
    · have p1 : nI v ≤ 999 := (nI_leI (b := 999) (by omega) (by decide)).mpr hv
      rw [e1, e2, hk.1, dig_c, dig_r, if_pos p1]
      by_cases h1 : 1000 < v * 10 + c k
      · have p2 : (1000 : Int32) < nI (v * 10 + c k) := (nI_ltI (a := 1000) (by decide) (by omega)).mpr h1
        rw [if_pos p2]
        exact Or.inr ⟨rfl, _, by omega, by omega, rfl⟩
      · have p2 : ¬ (1000 : Int32) < nI (v * 10 + c k) := fun z => h1 ((nI_ltI (a := 1000) (by decide) (by omega)).mp z)
        rw [if_neg p2]
        rcases Nat.lt_or_ge (v * 10 + c k) 1000 with q | q
        · exact Or.inl ⟨_, by omega, rfl, rfl⟩
        · have e : v * 10 + c k = 1000 := by omega
          rw [e]; exact Or.inr ⟨rfl, 1000, by omega, by omega, rfl⟩
    · have p2 : (1000 : Int32) < nI (1000 * 10 + c k) := (nI_ltI (a := 1000) (by decide) (by omega)).mpr (by omega)
      have p3 : ¬ nI v ≤ 999 := fun z => by have := (nI_leI (b := 999) (by omega) (by decide)).mp z; omega
      rw [e1, e2, hk.1, show (1000 : Int32) * 10 + nI (48 + c k) - 48 = nI (1000 * 10 + c k) from dig_c 1000 _, if_pos p2, if_neg p3]
      exact Or.inr ⟨rfl, v, hv, hv2, rfl⟩
/-- AMOUNTS: both reckon the same -/
theorem adv_d {tx : Nat → Int32} {n b : Nat} : amT tx b (sp isD tx n b - b) = (if 999 < amR tx b (sp isD tx n b - b) then 5 else if tx b = 48 then (if sp isD tx n b - b ≤ 1 then 3 else 5) else 3) ∧ (amT tx b (sp isD tx n b - b) = 3 → amR tx b (sp isD tx n b - b) = amC tx b (sp isD tx n b - b)) := by
  obtain ⟨c, hc⟩ := dig_nat (tx := tx) (n := n) (b := b)
  unfold amT
  rcases am_eq (sp isD tx n b - b) hc with ⟨v, hv, e1, e2⟩ | ⟨e1, v, hv, hv2, e2⟩
  · have p1 : nI v ≤ 999 := (nI_leI (b := 999) (by omega) (by decide)).mpr hv
    have p2 : ¬ (999 : Int32) < nI v := fun z => by have := (nI_ltI (a := 999) (by decide) (by omega)).mp z; omega
    rw [e1, e2, if_neg p2, if_pos p1]
    by_cases h1 : tx b = 48
    · by_cases h2 : sp isD tx n b - b ≤ 1
      · rw [if_neg (fun z => z.2 h2), if_pos h1, if_pos h2]; exact ⟨rfl, fun _ => rfl⟩
      · rw [if_pos ⟨h1, h2⟩, if_pos h1, if_neg h2]; exact ⟨rfl, fun z => absurd z (by decide)⟩
    · rw [if_neg (fun z => h1 z.1), if_neg h1]; exact ⟨rfl, fun _ => rfl⟩
  · have p2 : (999 : Int32) < nI v := (nI_ltI (a := 999) (by decide) (by omega)).mpr (by omega)
    have p3 : ¬ (1000 : Int32) ≤ 999 := by decide
    rw [e1, e2, if_pos p2, if_neg p3]
    split
    · exact ⟨rfl, fun z => absurd z (by decide)⟩
    · exact ⟨rfl, fun z => absurd z (by decide)⟩
theorem told_b {tb : Int32} {j it : Nat} (h : toldN tb j) (hit : it < 5) : ((tb >>> (nI it &&& 31)) &&& 1 = 0) ↔ tb &&& bitO it = 0 := by
  obtain ⟨t, ht, rfl, -⟩ := h
  have k : ∀ t, t < 32 → ∀ it, it < 5 → (((nI t >>> (nI it &&& 31)) &&& 1 = 0) ↔ nI t &&& bitO it = 0) := by decide +kernel
  exact k t ht it hit
theorem lrg_r : ∀ it, it < 5 → s_LARGE it = (if 3 ≤ it then (if it = 3 then 5 else 999) else 99) := by decide +kernel
theorem sml_r : ∀ it, it < 5 → ((¬ 0 ≤ s_SMALL it) ↔ ¬ 3 ≤ it) := by decide +kernel
def mzR (fo : Option Nat) (j : Nat) : Nat := if fo = none then 7 - j else 0
theorem fv_n1 {fo : Option Nat} (h : ∀ f, fo = some f → f < 1000) (h2 : ¬ 0 ≤ fvI fo) : fo = none := by
  cases fo with
  | none => rfl
  | some f => exact absurd (nI_pos' (by have := h f rfl; omega)) h2
theorem fv_n2 {fo : Option Nat} (h : 0 ≤ fvI fo) : ¬ fo = none := fun e => by subst e; exact absurd h (by decide)
def n_it (tx : Nat → Int32) (n : Nat) (it : Int32) : Int32 := if (rdA tx n).1 = none then pc32 (rdA tx n).2.1 else it
theorem unt_r : ∀ k, k < 5 → (if k = 4 then (999 : Int32) else 0) = s_UNTOLD k := by decide +kernel
theorem mz_n {j nF : Nat} (h : mzR none j < nF + 1) (hj : j ≤ 5) : mzR none (j + 1) < nF := by
  unfold mzR at h ⊢; rw [if_pos rfl] at h ⊢; omega
theorem mz_s {j nF f : Nat} (h : mzR none j < nF + 1) (hj : j ≤ 5) : mzR (some f) (j + 1) < nF := by
  unfold mzR at h ⊢; rw [if_pos rfl] at h; rw [if_neg (fun e => by cases e)]; omega
