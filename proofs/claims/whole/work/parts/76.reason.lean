/-! all the same: the class's search by sizes, the reference's by cases -/
def chN (k n : Nat) : Nat → Nat
  | 0 => 0
  | c + 1 => if 5 - c = k then chN k n c else chN k n c + (((n / 13 ^ posC k c % 13 : Nat) : Int) - 6).natAbs
theorem ab13 : ∀ d, d < 13 → (if 0 ≤ nI d - 6 then nI d - 6 else -(nI d - 6)) = nI ((d : Int) - 6).natAbs := by decide +kernel
theorem chN_le (k n : Nat) : ∀ c, chN k n c ≤ 6 * c
  | 0 => Nat.le_refl _
  | c + 1 => by
    have ih := chN_le k n c
    have h : n / 13 ^ posC k c % 13 < 13 := Nat.mod_lt _ (by decide)
    unfold chN
    split <;> omega
theorem ch_N (k n : Nat) : ∀ c, chC k n c = nI (chN k n c)
  | 0 => rfl
  | c + 1 => by
    unfold chC chN
    by_cases h : 5 - c = k
    · rw [if_pos h, if_pos h]; exact ch_N k n c
    · rw [if_neg h, if_neg h, ch_N k n c]
      show _ + (if 0 ≤ nI (n / 13 ^ posC k c % 13) - 6 then nI (n / 13 ^ posC k c % 13) - 6 else -(nI (n / 13 ^ posC k c % 13) - 6)) = _
      rw [ab13 _ (Nat.mod_lt _ (by decide)), nI_add]
theorem dig_low {P p d m : Nat} (hp : p < P) : (d * 13 ^ P + m) / 13 ^ p % 13 = m / 13 ^ p % 13 := by
  have e : d * 13 ^ P + m = m + 13 ^ p * (13 * (13 ^ (P - p - 1) * d)) := by
    rw [show P = p + (1 + (P - p - 1)) by omega, Nat.pow_add, Nat.pow_add, show p + (1 + (P - p - 1)) - p - 1 = P - p - 1 by omega, Nat.pow_one, Nat.add_comm, Nat.mul_comm d, Nat.mul_assoc, Nat.mul_assoc]
  rw [e, Nat.add_mul_div_left _ _ (Nat.pow_pos (by decide)), Nat.add_mul_mod_self_left]
theorem dig_top {P d m : Nat} (hm : m < 13 ^ P) (hd : d < 13) : (d * 13 ^ P + m) / 13 ^ P % 13 = d := by
  rw [Nat.add_comm, Nat.add_mul_div_right _ _ (Nat.pow_pos (by decide)), Nat.div_eq_of_lt hm, Nat.zero_add, Nat.mod_eq_of_lt hd]
theorem pos_mono (k : Nat) : ∀ i c, posC k c ≤ posC k (c + i)
  | 0, c => Nat.le_refl _
  | i + 1, c => by
    have ih := pos_mono k i c
    show posC k c ≤ (if 5 - (c + i) = k then posC k (c + i) else posC k (c + i) + 1)
    split <;> omega
theorem pos_lt {k c r : Nat} (h : c < r) (hk : ¬ 5 - c = k) : posC k c < posC k r := by
  have h1 := pos_mono k (r - (c + 1)) (c + 1)
  rw [show c + 1 + (r - (c + 1)) = r by omega] at h1
  have h2 : posC k (c + 1) = posC k c + 1 := if_neg hk
  omega
theorem by_low {k c r d m : Nat} (h : c < r) (hk : ¬ 5 - c = k) : byC k (d * 13 ^ posC k r + m) c = byC k m c := by
  unfold byC
  rw [dig_low (pos_lt h hk)]
theorem ch_low {k r d m : Nat} : ∀ c, c ≤ r → chN k (d * 13 ^ posC k r + m) c = chN k m c
  | 0, _ => rfl
  | c + 1, h => by
    unfold chN
    by_cases hk : 5 - c = k
    · rw [if_pos hk, if_pos hk]; exact ch_low c (by omega)
    · rw [if_neg hk, if_neg hk, ch_low c (by omega), dig_low (pos_lt (by omega) hk)]
theorem may_low {f : Nat → Int32} {k r d m : Nat} : ∀ c, c ≤ r → mayC f k (d * 13 ^ posC k r + m) c = mayC f k m c
  | 0, _ => rfl
  | c + 1, h => by
    unfold mayC
    by_cases hk : 5 - c = k
    · rw [if_pos hk, if_pos hk]; exact may_low c (by omega)
    · rw [if_neg hk, if_neg hk, may_low c (by omega), by_low (by omega) hk]
theorem at_low {f : Nat → Int32} {k r d m e : Nat} (h1 : 6 - r ≤ e) (h2 : e < 6) : atT f k (d * 13 ^ posC k r + m) e = atT f k m e := by
  unfold atT
  by_cases hk : e = k
  · rw [if_pos hk, if_pos hk]
  · rw [if_neg hk, if_neg hk, by_low (by omega) (by omega)]
/-- the case n of the last r numbers has just the size z, and stays -/
def OKr (f : Nat → Int32) (k r n z : Nat) (ft : Nat → Int32) : Prop := mayC f k n r = true ∧ chN k n r = z ∧ ¬ rg (top6 (atT f k n) ft r) 41 = 0
theorem top_ext {g f h : Nat → Int32} {r : Nat} (e : ∀ y, y < 6 - r → f y = h y) (y : Nat) : top6 g f r y = top6 g h r y ∨ 6 ≤ y := by
  by_cases h1 : 6 - r ≤ y
  · exact Or.inl ((if_pos h1).trans (if_pos h1).symm)
  · exact Or.inl ((if_neg h1).trans ((e y (by omega)).trans (if_neg h1).symm))
theorem top_e2 {g f h : Nat → Int32} {r : Nat} (e : ∀ y, y < 6 - r → f y = h y) (y : Nat) : top6 g f r y = top6 g h r y := by
  by_cases h1 : 6 - r ≤ y
  · exact (if_pos h1).trans (if_pos h1).symm
  · exact (if_neg h1).trans ((e y (by omega)).trans (if_neg h1).symm)
theorem OKr_ext {f ft fu : Nat → Int32} {k r n z : Nat} (e : ∀ y, y < 6 - r → ft y = fu y) : OKr f k r n z ft ↔ OKr f k r n z fu := by
  unfold OKr
  rw [rg_ext (fun y _ => top_e2 (g := atT f k n) e y) 41]
/-- number k is left out -/
theorem top_k {f ft : Nat → Int32} {k r n : Nat} (hr : r < 6) (hk : 5 - r = k) (y : Nat) (_ : y < 6) : top6 (atT f k n) ft (r + 1) y = top6 (atT f k n) (upd ft (5 - r) 0) r y := by
  unfold top6
  by_cases h1 : 6 - r ≤ y
  · rw [if_pos (by omega), if_pos h1]
  · rw [if_neg h1]
    by_cases h2 : y = 5 - r
    · rw [if_pos (by omega), h2, upd_at]; exact if_pos hk
    · rw [if_neg (by omega), upd_ne _ _ h2]
theorem top_d {f ft : Nat → Int32} {k r d m : Nat} {x : Int32} (hr : r < 6) (hk : ¬ 5 - r = k) (hm : m < 13 ^ posC k r) (hd : d < 13) (hx : x = f (5 - r) + (nI d - 6)) (y : Nat) (hy : y < 6) : top6 (atT f k (d * 13 ^ posC k r + m)) ft (r + 1) y = top6 (atT f k m) (upd ft (5 - r) x) r y := by
  unfold top6
  by_cases h1 : 6 - r ≤ y
  · rw [if_pos (by omega), if_pos h1, at_low h1 hy]
  · rw [if_neg h1]
    by_cases h2 : y = 5 - r
    · rw [if_pos (by omega), h2, upd_at, hx]
      unfold atT byC
      rw [if_neg hk, show 5 - (5 - r) = r by omega, dig_top hm hd]
    · rw [if_neg (by omega), upd_ne _ _ h2]
theorem OKr_k {f ft : Nat → Int32} {k r n z : Nat} (hr : r < 6) (hk : 5 - r = k) : OKr f k (r + 1) n z ft ↔ OKr f k r n z (upd ft (5 - r) 0) := by
  unfold OKr
  rw [rg_ext (top_k (f := f) (ft := ft) (n := n) hr hk) 41]
  have e1 : mayC f k n (r + 1) = mayC f k n r := if_pos hk
  have e2 : chN k n (r + 1) = chN k n r := if_pos hk
  rw [e1, e2]
theorem iZ_d {x : Int32} {d : Nat} (h1 : -9 ≤ x.toInt) (h2 : x.toInt ≤ 9) (hd : d < 13) : iZ (x.toInt + d - 6) = x + (nI d - 6) := by
  apply Int32.toInt_inj.mp
  have e6 : (6 : Int32).toInt = 6 := rfl
  have e : (nI d - 6).toInt = (d : Int) - 6 := by rw [Int32.toInt_sub, nI_toInt (by omega), e6, bm32 (by omega) (by omega)]
  rw [iZ_int (by omega) (by omega), Int32.toInt_add, e, bm32 (by omega) (by omega)]
  omega
theorem inR_z {j : Nat} (hj : j < 6) {w : Int} (h1 : -100 ≤ w) (h2 : w ≤ 100) : inR (iZ w) (bot (nI j)) 9 ↔ lowZ j ≤ w ∧ w ≤ 9 := by
  constructor
  · intro h
    have h3 := inR_int h
    rw [← low_bot j hj, low_int j hj, iZ_int (by omega) (by omega)] at h3
    exact h3
  · exact fun h => iZ_in hj h.1 h.2
theorem OKr_d {f ft : Nat → Int32} {k r d m z : Nat} (hf : okF f) (hr : r < 6) (hk : ¬ 5 - r = k) (hm : m < 13 ^ posC k r) (hd : d < 13) :
    OKr f k (r + 1) (d * 13 ^ posC k r + m) z ft ↔ (lowZ (5 - r) ≤ (f (5 - r)).toInt + d - 6 ∧ (f (5 - r)).toInt + d - 6 ≤ 9 ∧ ((d : Int) - 6).natAbs ≤ z ∧ OKr f k r m (z - ((d : Int) - 6).natAbs) (upd ft (5 - r) (iZ ((f (5 - r)).toInt + d - 6)))) := by
  have hb := okF_int hf (show 5 - r < 6 by omega)
  have ez := iZ_d hb.1 hb.2 hd
  have e1 : mayC f k (d * 13 ^ posC k r + m) (r + 1) = (mayC f k m r && decide (inR (f (5 - r) + (nI d - 6)) (bot (nI (5 - r))) 9)) := by
    show (if 5 - r = k then _ else _) = _
    rw [if_neg hk, may_low r (Nat.le_refl _)]
    unfold byC
    rw [dig_top hm hd]
  have e2 : chN k (d * 13 ^ posC k r + m) (r + 1) = chN k m r + ((d : Int) - 6).natAbs := by
    show (if 5 - r = k then _ else _) = _
    rw [if_neg hk, ch_low r (Nat.le_refl _), dig_top hm hd]
  unfold OKr
  rw [rg_ext (top_d (f := f) (ft := ft) hr hk hm hd ez) 41, e1, e2, Bool.and_eq_true, decide_eq_true_iff, ← ez, inR_z (by omega) (by omega) (by omega)]
  constructor
  · rintro ⟨⟨a1, a2⟩, a3, a4⟩
    exact ⟨a2.1, a2.2, by omega, a1, by omega, a4⟩
  · rintro ⟨a1, a2, a3, a4, a5, a6⟩
    exact ⟨⟨a4, a1, a2⟩, by omega, a6⟩
/-- what a search of the last r numbers has found -/
def SPr (f : Nat → Int32) (k r z : Nat) (ft : Nat → Int32) (R : Bool × (Nat → Int32)) : Prop :=
  (R.1 = true → ∃ n, n < 13 ^ posC k r ∧ OKr f k r n z ft ∧ (∀ m, m < n → ¬ OKr f k r m z ft) ∧ ∀ y, y < 6 → R.2 y = top6 (atT f k n) ft r y) ∧ (¬ R.1 = true → ∀ n, n < 13 ^ posC k r → ¬ OKr f k r n z ft)
/-- the same over values w .. of the next number -/
def SPl (f : Nat → Int32) (k r z : Nat) (ft : Nat → Int32) (x w hi : Int) (R : Bool × (Nat → Int32)) : Prop :=
  (R.1 = true → ∃ (w1 : Int) (m : Nat), w ≤ w1 ∧ w1 ≤ hi ∧ m < 13 ^ posC k r ∧ OKr f k r m (z - (w1 - x).natAbs) (upd ft (5 - r) (iZ w1)) ∧ (∀ m1, m1 < m → ¬ OKr f k r m1 (z - (w1 - x).natAbs) (upd ft (5 - r) (iZ w1))) ∧ (∀ w2 : Int, w ≤ w2 → w2 < w1 → ∀ m1, m1 < 13 ^ posC k r → ¬ OKr f k r m1 (z - (w2 - x).natAbs) (upd ft (5 - r) (iZ w2))) ∧ ∀ y, y < 6 → R.2 y = top6 (atT f k m) (upd ft (5 - r) (iZ w1)) r y) ∧
  (¬ R.1 = true → ∀ w2 : Int, w ≤ w2 → w2 ≤ hi → ∀ m1, m1 < 13 ^ posC k r → ¬ OKr f k r m1 (z - (w2 - x).natAbs) (upd ft (5 - r) (iZ w2)))
theorem sp_loop {f : Nat → Int32} {k r z : Nat} {ft : Nat → Int32} {x hi : Int} (hr : r < 6) (hz : z ≤ 6) (ih : ∀ z ft, z ≤ 6 → SPr f k r z ft (ffR f k r z ft)) : ∀ (q : Nat) (w : Int) (fu : Nat → Int32), w + q = hi + 1 → (∀ y, y < 5 - r → fu y = ft y) → SPl f k r z ft x w hi (ffL (ffR f k r) x (5 - r) z q w fu)
  | 0, w, fu, hw, _ => ⟨fun h => (by cases h), fun _ w2 h1 h2 => by omega⟩
  | q + 1, w, fu, hw, hu => by
    have agree : ∀ y, y < 6 - r → upd fu (5 - r) (iZ w) y = upd ft (5 - r) (iZ w) y := fun y hy => by
      by_cases e : y = 5 - r
      · subst e; rw [upd_at, upd_at]
      · rw [upd_ne _ _ e, upd_ne _ _ e]; exact hu y (by omega)
    have h0 := ih (z - (w - x).natAbs) (upd fu (5 - r) (iZ w)) (by omega)
    have hkeep := ffR_keep f k r (by omega) (z - (w - x).natAbs) (upd fu (5 - r) (iZ w))
    have eL : ffL (ffR f k r) x (5 - r) z (q + 1) w fu = if (ffR f k r (z - (w - x).natAbs) (upd fu (5 - r) (iZ w))).1 = true then ffR f k r (z - (w - x).natAbs) (upd fu (5 - r) (iZ w)) else ffL (ffR f k r) x (5 - r) z q (w + 1) (ffR f k r (z - (w - x).natAbs) (upd fu (5 - r) (iZ w))).2 := rfl
    rw [eL]
    by_cases hR : (ffR f k r (z - (w - x).natAbs) (upd fu (5 - r) (iZ w))).1 = true
    · rw [if_pos hR]
      obtain ⟨n, n1, n2, n3, n4⟩ := h0.1 hR
      refine ⟨fun _ => ⟨w, n, Int.le_refl _, by omega, n1, (OKr_ext agree).mp n2, fun m1 hm z1 => n3 m1 hm ((OKr_ext agree).mpr z1), fun w2 h1 h2 => by omega, fun y hy => (n4 y hy).trans (top_e2 agree y)⟩, fun h => absurd hR h⟩
    · rw [if_neg hR]
      have hno := h0.2 hR
      have hno2 : ∀ m1, m1 < 13 ^ posC k r → ¬ OKr f k r m1 (z - (w - x).natAbs) (upd ft (5 - r) (iZ w)) := fun m1 hm z1 => hno m1 hm ((OKr_ext agree).mpr z1)
      obtain ⟨p1, p2⟩ := sp_loop (ft := ft) (x := x) (hi := hi) hr hz ih q (w + 1) (ffR f k r (z - (w - x).natAbs) (upd fu (5 - r) (iZ w))).2 (by omega) (fun y hy => (hkeep y (by omega)).trans ((upd_ne _ _ (by omega)).trans (hu y hy)))
      refine ⟨fun h => ?_, fun h w2 h1 h2 => ?_⟩
      · obtain ⟨w1, m, a1, a2, a3, a4, a5, a6, a7⟩ := p1 h
        refine ⟨w1, m, by omega, a2, a3, a4, a5, fun w2 h1 h2 => ?_, a7⟩
        rcases Int.lt_or_le w w2 with e | e
        · exact a6 w2 (by omega) h2
        · have : w2 = w := by omega
          rw [this]; exact hno2
      · rcases Int.lt_or_le w w2 with e | e
        · exact p2 h w2 (by omega) h2
        · have : w2 = w := by omega
          rw [this]; exact hno2
theorem div_13 {P n : Nat} (hn : n < 13 ^ (P + 1)) : n / 13 ^ P < 13 ∧ n % 13 ^ P < 13 ^ P ∧ n = n / 13 ^ P * 13 ^ P + n % 13 ^ P := by
  have hp : 0 < 13 ^ P := Nat.pow_pos (by decide)
  refine ⟨?_, Nat.mod_lt _ hp, ?_⟩
  · rw [Nat.pow_succ] at hn
    exact Nat.div_lt_of_lt_mul hn
  · have := Nat.div_add_mod n (13 ^ P)
    rw [Nat.mul_comm] at this
    exact this.symm
theorem sp_all_r {f : Nat → Int32} {k : Nat} (hf : okF f) : ∀ r, r ≤ 6 → ∀ z ft, z ≤ 6 → SPr f k r z ft (ffR f k r z ft)
  | 0, _, z, ft, hz => by
    have e0 : ∀ n y, y < 6 → top6 (atT f k n) ft 0 y = ft y := fun n y hy => if_neg (by omega)
    have hok : ∀ n, OKr f k 0 n z ft ↔ (z = 0 ∧ ¬ rg ft 41 = 0) := fun n => by
      unfold OKr
      rw [rg_ext (e0 n) 41]
      exact ⟨fun h => ⟨h.2.1.symm, h.2.2⟩, fun h => ⟨rfl, h.1.symm, h.2⟩⟩
    have hi := ff0_iff z ft f k
    refine ⟨fun h => ⟨0, by show 0 < 13 ^ 0; decide, (hok 0).mpr (hi.mpr h), fun m hm => absurd hm (Nat.not_lt_zero m), fun y hy => (e0 0 y hy).symm⟩, fun h n hn z1 => h (hi.mp ((hok n).mp z1))⟩
  | r + 1, hr, z, ft, hz => by
    have ih := sp_all_r (k := k) hf r (by omega)
    by_cases hk : 5 - r = k
    · have eR : ffR f k (r + 1) z ft = ffR f k r z (upd ft (5 - r) 0) := if_pos hk
      have eP : posC k (r + 1) = posC k r := if_pos hk
      obtain ⟨h1, h2⟩ := ih z (upd ft (5 - r) 0) hz
      rw [eR]
      unfold SPr
      rw [eP]
      refine ⟨fun h => ?_, fun h n hn z1 => h2 h n hn ((OKr_k (by omega) hk).mp z1)⟩
      obtain ⟨n, n1, n2, n3, n4⟩ := h1 h
      exact ⟨n, n1, (OKr_k (by omega) hk).mpr n2, fun m hm z1 => n3 m hm ((OKr_k (by omega) hk).mp z1), fun y hy => (n4 y hy).trans (top_k (by omega) hk y hy).symm⟩
    · have eP : posC k (r + 1) = posC k r + 1 := if_neg hk
      have hl := loZ_in hf (show 5 - r < 6 by omega) hz
      have hb := okF_low hf (show 5 - r < 6 by omega)
      have hz9 := lowZ_in (5 - r) (by omega)
      have eR : ffR f k (r + 1) z ft = ffL (ffR f k r) (f (5 - r)).toInt (5 - r) z (hiZ f (5 - r) z + 1 - loZ f (5 - r) z).toNat (loZ f (5 - r) z) ft := if_neg hk
      have hlo : ∀ w : Int, loZ f (5 - r) z ≤ w ↔ lowZ (5 - r) ≤ w ∧ (f (5 - r)).toInt - z ≤ w := fun w => by unfold loZ; split <;> omega
      have hhi : ∀ w : Int, w ≤ hiZ f (5 - r) z ↔ w ≤ 9 ∧ w ≤ (f (5 - r)).toInt + z := fun w => by unfold hiZ; split <;> omega
      have hL := sp_loop (ft := ft) (x := (f (5 - r)).toInt) (hi := hiZ f (5 - r) z) (show r < 6 by omega) hz ih (hiZ f (5 - r) z + 1 - loZ f (5 - r) z).toNat (loZ f (5 - r) z) ft (by omega) (fun _ _ => rfl)
      rw [← eR] at hL
      -- a case of the longer row, by its first digit
      have split : ∀ n, n < 13 ^ (posC k r + 1) → OKr f k (r + 1) n z ft → ∃ (w : Int) (m : Nat), w = (f (5 - r)).toInt + ((n / 13 ^ posC k r : Nat) : Int) - 6 ∧ m = n % 13 ^ posC k r ∧ m < 13 ^ posC k r ∧ loZ f (5 - r) z ≤ w ∧ w ≤ hiZ f (5 - r) z ∧ OKr f k r m (z - (w - (f (5 - r)).toInt).natAbs) (upd ft (5 - r) (iZ w)) := by
        intro n hn h
        obtain ⟨d1, d2, d3⟩ := div_13 hn
        rw [d3] at h
        obtain ⟨a1, a2, a3, a4⟩ := (OKr_d hf (by omega) hk d2 d1).mp h
        refine ⟨_, _, rfl, rfl, d2, (hlo _).mpr ⟨a1, by omega⟩, (hhi _).mpr ⟨a2, by omega⟩, ?_⟩
        rw [show (f (5 - r)).toInt + ((n / 13 ^ posC k r : Nat) : Int) - 6 - (f (5 - r)).toInt = ((n / 13 ^ posC k r : Nat) : Int) - 6 by omega]
        exact a4
      unfold SPr
      rw [eP]
      refine ⟨fun h => ?_, fun h n hn z1 => ?_⟩
      · obtain ⟨w1, m, a1, a2, a3, a4, a5, a6, a7⟩ := hL.1 h
        have b1 := (hlo w1).mp a1
        have b2 := (hhi w1).mp a2
        obtain ⟨d, hd⟩ : ∃ d : Nat, w1 = (f (5 - r)).toInt + d - 6 := ⟨(w1 - (f (5 - r)).toInt + 6).toNat, by omega⟩
        have hd13 : d < 13 := by omega
        have hn : d * 13 ^ posC k r + m < 13 ^ (posC k r + 1) := by
          rw [Nat.pow_succ]
          have : d * 13 ^ posC k r ≤ 12 * 13 ^ posC k r := Nat.mul_le_mul_right _ (by omega)
          omega
        have ew : w1 - (f (5 - r)).toInt = (d : Int) - 6 := by omega
        have hok : OKr f k (r + 1) (d * 13 ^ posC k r + m) z ft := (OKr_d hf (by omega) hk a3 hd13).mpr ⟨by omega, by omega, by omega, by rw [← ew, ← hd]; exact a4⟩
        refine ⟨_, hn, hok, fun n1 hn1 z1 => ?_, fun y hy => ?_⟩
        · obtain ⟨w2, m2, c1, c2, c3, c4, c5, c6⟩ := split n1 (by omega) z1
          obtain ⟨d1, d2, d3⟩ := div_13 (show n1 < 13 ^ (posC k r + 1) by omega)
          have hdle : n1 / 13 ^ posC k r ≤ d := by
            have q1 : n1 / 13 ^ posC k r ≤ (d * 13 ^ posC k r + m) / 13 ^ posC k r := Nat.div_le_div_right (by omega)
            rw [Nat.add_comm, Nat.add_mul_div_right _ _ (Nat.pow_pos (by decide)), Nat.div_eq_of_lt a3, Nat.zero_add] at q1
            exact q1
          rcases Nat.lt_or_ge (n1 / 13 ^ posC k r) d with e | e
          · exact a6 w2 c4 (by omega) m2 c3 c6
          · have e2 : n1 / 13 ^ posC k r = d := by omega
            have ew2 : w2 = w1 := by omega
            rw [ew2] at c6
            refine a5 m2 ?_ c6
            rw [e2] at d3
            omega
        · rw [a7 y hy]
          refine (top_d (by omega) hk a3 hd13 ?_ y hy).symm
          rw [hd]
          exact iZ_d (by omega) (by omega) hd13
      · obtain ⟨w2, m2, c1, c2, c3, c4, c5, c6⟩ := split n hn z1
        exact hL.2 h w2 c4 c5 m2 c3 c6
/-- a case of all numbers that stays -/
def gdN (f : Nat → Int32) (k n : Nat) : Prop := mayC f k n 6 = true ∧ ¬ rg (atT f k n) 41 = 0
theorem OK6 {f ft : Nat → Int32} {k n z : Nat} : OKr f k 6 n z ft ↔ gdN f k n ∧ chN k n 6 = z := by
  have e : ∀ y, y < 6 → top6 (atT f k n) ft 6 y = atT f k n y := fun y _ => if_pos (by omega)
  unfold OKr gdN
  rw [rg_ext e 41]
  exact ⟨fun h => ⟨⟨h.1, h.2.2⟩, h.2.1⟩, fun h => ⟨h.1.1, h.2, h.1.2⟩⟩
theorem pos6 : ∀ k, k < 3 → 13 ^ posC k 6 = 371293 := by decide +kernel
/-- what LEAST has found, by sizes z on -/
theorem lw_all {f : Nat → Int32} {k : Nat} (hf : okF f) (hk : k < 3) : ∀ (q z : Nat) (ft : Nat → Int32), z + q = 7 → (∃ z0 n, z ≤ z0 ∧ z0 < 7 ∧ n < 371293 ∧ gdN f k n ∧ chN k n 6 = z0 ∧ (lwF f k q z ft).1 = nI z0 ∧ (∀ y, y < 6 → (lwF f k q z ft).2 y = atT f k n y) ∧ (∀ m, m < n → gdN f k m → chN k m 6 ≠ z0) ∧ (∀ m, m < 371293 → gdN f k m → z ≤ chN k m 6 → z0 ≤ chN k m 6)) ∨ ((lwF f k q z ft).1 = -9 ∧ ∀ m, m < 371293 → gdN f k m → z ≤ chN k m 6 → 7 ≤ chN k m 6)
  | 0, z, ft, h => Or.inr ⟨rfl, fun m _ _ h1 => by omega⟩
  | q + 1, z, ft, h => by
    obtain ⟨s1, s2⟩ := sp_all_r (k := k) hf 6 (Nat.le_refl _) z ft (by omega)
    rw [pos6 k hk] at s1 s2
    have eL : lwF f k (q + 1) z ft = if (ffR f k 6 z ft).1 = true then (nI z, (ffR f k 6 z ft).2) else lwF f k q (z + 1) (ffR f k 6 z ft).2 := rfl
    rw [eL]
    by_cases hR : (ffR f k 6 z ft).1 = true
    · rw [if_pos hR]
      obtain ⟨n, n1, n2, n3, n4⟩ := s1 hR
      have n5 := OK6.mp n2
      exact Or.inl ⟨z, n, Nat.le_refl _, by omega, n1, n5.1, n5.2, rfl, fun y hy => (n4 y hy).trans (if_pos (by omega)), fun m hm g e => n3 m hm (OK6.mpr ⟨g, e⟩), fun m _ _ h1 => h1⟩
    · rw [if_neg hR]
      have hno := s2 hR
      have up : ∀ m, m < 371293 → gdN f k m → z ≤ chN k m 6 → z + 1 ≤ chN k m 6 := fun m hm g h1 => by
        rcases Nat.eq_or_lt_of_le h1 with e | e
        · exact absurd (OK6.mpr ⟨g, e.symm⟩) (hno m hm)
        · exact e
      rcases lw_all hf hk q (z + 1) (ffR f k 6 z ft).2 (by omega) with ⟨z0, n, a1, a2, a3, a4, a5, a6, a7, a8, a9⟩ | ⟨a1, a2⟩
      · exact Or.inl ⟨z0, n, by omega, a2, a3, a4, a5, a6, a7, a8, fun m hm g h1 => a9 m hm g (up m hm g h1)⟩
      · exact Or.inr ⟨a1, fun m hm g h1 => a2 m hm g (up m hm g h1)⟩
/-- what the reference has found, by cases below N -/
theorem bs_all {f : Nat → Int32} {k : Nat} {fd : Nat → Int32} : ∀ N, (bsA f k N = 7 ∧ ∀ n, n < N → gdN f k n → 7 ≤ chN k n 6) ∨ (∃ n, n < N ∧ gdN f k n ∧ chN k n 6 < 7 ∧ bsA f k N = nI (chN k n 6) ∧ fdA f k fd N = atT f k n ∧ (∀ m, m < n → gdN f k m → chN k n 6 < chN k m 6) ∧ ∀ m, m < N → gdN f k m → chN k n 6 ≤ chN k m 6)
  | 0 => Or.inl ⟨rfl, fun n hn => absurd hn (Nat.not_lt_zero n)⟩
  | N + 1 => by
    have eb : bsA f k (N + 1) = if okC f k N (bsA f k N) then chC k N 6 else bsA f k N := rfl
    have ed : fdA f k fd (N + 1) = if okC f k N (bsA f k N) then atT f k N else fdA f k fd N := rfl
    have hc := chN_le k N 6
    have last : ∀ (P : Nat → Prop), (∀ m, m < N → P m) → P N → ∀ m, m < N + 1 → P m := fun P h1 h2 m hm => by
      rcases Nat.lt_or_ge m N with e | e
      · exact h1 m e
      · have : m = N := by omega
        rw [this]; exact h2
    rw [eb, ed]
    rcases bs_all (f := f) (k := k) (fd := fd) N with ⟨a1, a2⟩ | ⟨n, a1, a2, a3, a4, a5, a6, a7⟩
    · by_cases hok : okC f k N (bsA f k N)
      · rw [if_pos hok, if_pos hok]
        obtain ⟨o1, o2, o3⟩ := hok
        have o4 : chN k N 6 < 7 := by
          rw [a1, ch_N, show (7 : Int32) = nI 7 from rfl, nI_leI (by omega) (by omega)] at o2
          omega
        refine Or.inr ⟨N, Nat.lt_succ_self N, ⟨o1, o3⟩, o4, ch_N k N 6, rfl, fun m hm g => by have := a2 m hm g; omega, ?_⟩
        exact last _ (fun m hm g => by have := a2 m hm g; omega) (fun _ => Nat.le_refl _)
      · rw [if_neg hok]
        refine Or.inl ⟨a1, last _ a2 (fun g => ?_)⟩
        rcases Nat.lt_or_ge (chN k N 6) 7 with e | e
        · refine absurd ⟨g.1, ?_, g.2⟩ hok
          rw [a1, ch_N, show (7 : Int32) = nI 7 from rfl, nI_leI (by omega) (by omega)]
          omega
        · exact e
    · by_cases hok : okC f k N (bsA f k N)
      · rw [if_pos hok, if_pos hok]
        obtain ⟨o1, o2, o3⟩ := hok
        have o4 : chN k N 6 < chN k n 6 := by
          rw [a4, ch_N, nI_leI (by omega) (by omega)] at o2
          omega
        refine Or.inr ⟨N, Nat.lt_succ_self N, ⟨o1, o3⟩, by omega, ch_N k N 6, rfl, fun m hm g => by have := a7 m hm g; omega, ?_⟩
        exact last _ (fun m hm g => by have := a7 m hm g; omega) (fun _ => Nat.le_refl _)
      · rw [if_neg hok, if_neg hok]
        refine Or.inr ⟨n, by omega, a2, a3, a4, a5, a6, last _ a7 (fun g => ?_)⟩
        rcases Nat.lt_or_ge (chN k N 6) (chN k n 6) with e | e
        · refine absurd ⟨g.1, ?_, g.2⟩ hok
          rw [a4, ch_N, nI_leI (by omega) (by omega)]
          omega
        · exact e
/-- REASON: both answer the same -/
theorem rea_eq {f ft fd : Nat → Int32} {k w : Nat} (hf : okF f) (hk : k < 3) (hw : w ≤ 7) : reaC f k ft w = reaN f k fd w := by
  unfold reaC reaN
  by_cases h0 : w = 0
  · rw [if_pos h0, if_pos h0]
  · rw [if_neg h0, if_neg h0]
    unfold atR
    rcases lw_all hf hk 7 0 ft rfl with ⟨z0, n, a1, a2, a3, a4, a5, a6, a7, a8, a9⟩ | ⟨a1, a2⟩
    · rcases bs_all (f := f) (k := k) (fd := fd) 371293 with ⟨b1, b2⟩ | ⟨n2, b1, b2, b3, b4, b5, b6, b7⟩
      · have := b2 n a3 a4; omega
      · have e1 : chN k n2 6 = z0 := by have h1 := b7 n a3 a4; have h2 := a9 n2 b1 b2 (Nat.zero_le _); omega
        have e2 : n2 = n := by
          rcases Nat.lt_trichotomy n2 n with q | q | q
          · exact absurd e1 (a8 n2 q b2)
          · exact q
          · have := b6 n q a4; omega
        rw [b4, b5, e1, a6, e2]
        have hz7 : ¬ nI z0 = 7 := fun z => by have := (nI_eq (b := 7) (by omega) (by decide)).mp z; omega
        rw [if_neg (nI_ne_m9 (by omega)), if_neg hz7, if_neg (nI_ne_m9 (by omega))]
        by_cases h1 : w = 1
        · rw [if_pos h1, if_pos h1]
        · rw [if_neg h1, if_neg h1]; exact a7 (w - 2) (by omega)
    · rcases bs_all (f := f) (k := k) (fd := fd) 371293 with ⟨b1, b2⟩ | ⟨n2, b1, b2, b3, b4, b5, b6, b7⟩
      · rw [a1, b1, if_pos rfl, if_pos rfl, if_pos rfl]
      · have := a2 n2 b1 b2 (Nat.zero_le _); omega
theorem reason_eq {nb : Nat → Nat → Int32} (hnb : ∀ i, i < 4 → okF (nb i)) (ft fd : Nat → Int32) (i k w : Int32) : c_reason nb ft i k w = r_reason nb fd i k w := by
  unfold c_reason r_reason
  by_cases hok : okRea i k w
  · rw [if_pos hok, if_pos hok]
    obtain ⟨a, ha, rfl⟩ := inR_n 3 (by decide) rfl hok.1
    obtain ⟨b, hb, rfl⟩ := inR_n 2 (by decide) rfl hok.2.1
    obtain ⟨c, hc, rfl⟩ := inR_n 7 (by decide) rfl hok.2.2
    rw [cl_n (by omega), cl_n (by omega), cl_n (by omega)]
    exact rea_eq (hnb a (by omega)) (by omega) hc
  · rw [if_neg hok, if_neg hok]
