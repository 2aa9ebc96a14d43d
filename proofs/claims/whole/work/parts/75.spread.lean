/-! measured numbers: the class's cases are the reference's in another order -/
def tau (d : Nat) : Nat := if d = 0 then 1 else if d = 1 then 0 else d
def pi6 (c : Nat) : Nat := tau (c % 3) + 3 * (tau (c / 3 % 3) + 3 * (tau (c / 9 % 3) + 3 * (tau (c / 27 % 3) + 3 * (tau (c / 81 % 3) + 3 * tau (c / 243 % 3)))))
theorem pi6_d : ∀ c, c < 729 → ∀ k, k < 6 → pi6 c / 3 ^ k % 3 = tau (c / 3 ^ k % 3) := by decide +kernel
theorem pi6_i : ∀ c, c < 729 → pi6 c < 729 ∧ pi6 (pi6 c) = c := by decide +kernel
def cgN (c : Nat) : Nat → Nat
  | 0 => 0
  | k + 1 => cgN c k + (if c / 3 ^ k % 3 = 0 then 0 else 2 ^ k)
theorem cg_N : ∀ c, c < 729 → cgF c = nI (cgN c 6) ∧ cgN c 6 < 64 := by decide +kernel
theorem cg_b : ∀ c, c < 729 → ∀ k, k < 6 → (cgN c 6 / 2 ^ k % 2 = 0 ↔ c / 3 ^ k % 3 = 0) := by decide +kernel
theorem and_b : ∀ a, a < 64 → ∀ b, b < 64 → (a &&& b = 0 ↔ ∀ k, k < 6 → b / 2 ^ k % 2 = 0 ∨ a / 2 ^ k % 2 = 0) := by decide +kernel
theorem nx_and (a b : Nat) : nI a &&& nI b = nI (a &&& b) := by
  apply Int32.toBitVec_inj.1
  show BitVec.ofNat 32 a &&& BitVec.ofNat 32 b = BitVec.ofNat 32 (a &&& b)
  apply BitVec.eq_of_getLsbD_eq
  intro i hi
  simp [hi]
/-- the case c leaves the numbers of the set t as they are -/
def inT (t c : Nat) : Prop := ∀ k, k < 6 → t / 2 ^ k % 2 = 0 ∨ c / 3 ^ k % 3 = 0
theorem cg_and {c t : Nat} (hc : c < 729) (ht : t < 64) : (cgF c &&& nI t = 0) ↔ inT t c := by
  obtain ⟨e, hl⟩ := cg_N c hc
  have hle : cgN c 6 &&& t ≤ cgN c 6 := Nat.and_le_left
  rw [e, nx_and, show (0 : Int32) = nI 0 from rfl, nI_eq (by omega) (by omega), and_b _ hl t ht]
  exact ⟨fun h k hk => (h k hk).imp_right (cg_b c hc k hk).mp, fun h k hk => (h k hk).imp_right (cg_b c hc k hk).mpr⟩
theorem dg_eq (x : Int32) : ∀ d, d < 3 → x + (if d = 2 then 1 else -nI d) = (x + nI (tau d)) - 1 := by
  intro d hd
  rw [Int32.sub_eq_add_neg, Int32.add_assoc]
  have e : ∀ d, d < 3 → (if d = 2 then (1 : Int32) else -nI d) = nI (tau d) + -1 := by decide +kernel
  rw [e d hd]
theorem td_eq (f : Nat → Int32) {c k : Nat} (hc : c < 729) (hk : k < 6) : tdF f c k = tsF f (pi6 c) k := by
  unfold tdF tsF dgV
  rw [pi6_d c hc k hk]
  exact dg_eq _ _ (Nat.mod_lt _ (by decide))
theorem mayB_ext {f g : Nat → Int32} : ∀ n, (∀ k, k < n → f k = g k) → mayB f n = mayB g n
  | 0, _ => rfl
  | n + 1, h => by
    show (mayB f n && decide (inR (f n) (bot (nI n)) 9)) = (mayB g n && decide (inR (g n) (bot (nI n)) 9))
    rw [mayB_ext n (fun k hk => h k (by omega)), h n (by omega)]
theorem ct_ext {f g : Nat → Int32} (h : ∀ z, z < 6 → f z = g z) : ct f 41 = ct g 41 := by rw [← pc_ct, ← pc_ct, rg_ext h]
/-- the case c may be -/
def mayK (f : Nat → Int32) (c : Nat) : Prop := mayB (tdF f c) 6 = true
theorem wV_y {f : Nat → Int32} {c : Nat} (hc : c < 729) (h : mayK f c) : wV f c = csV f (pi6 c) ∧ ∃ m, m ≤ 41 ∧ csV f (pi6 c) = nI m := by
  have h2 : mayB (tsF f (pi6 c)) 6 = true := by rw [← mayB_ext 6 (fun k hk => td_eq f hc hk)]; exact h
  have h1 : mayB (tdF f c) 6 = true := h
  unfold wV csV
  rw [if_pos h1, if_pos h2, pc_ct, ct_ext (fun z hz => td_eq f hc hz)]
  exact ⟨rfl, ct_le _⟩
theorem wV_n {f : Nat → Int32} {c : Nat} (h : ¬ mayK f c) : wV f c = -1 := if_neg h
theorem csV_n {f : Nat → Int32} {c : Nat} (hc : c < 729) (h : ¬ mayK f c) : csV f (pi6 c) = -9 := by
  have h2 : ¬ mayB (tsF f (pi6 c)) 6 = true := by rw [← mayB_ext 6 (fun k hk => td_eq f hc hk)]; exact h
  exact if_neg h2
theorem isB_i {cf : Nat → Int32} {t q : Nat} : ∀ n, isB cf t q n = true ↔ (¬ cf q = -9) ∧ ∀ k, k < n → t / 2 ^ k % 2 = 0 ∨ q / 3 ^ k % 3 = 1
  | 0 => by rw [← isB_0]; exact ⟨fun h => ⟨h, fun k hk => absurd hk (Nat.not_lt_zero k)⟩, fun h => h.1⟩
  | n + 1 => by
    rw [← isB_s, isB_i n]
    constructor
    · rintro ⟨⟨h1, h2⟩, h3⟩
      refine ⟨h1, fun k hk => ?_⟩
      rcases Nat.lt_or_ge k n with q1 | q1
      · exact h2 k q1
      · have e : k = n := by omega
        rw [e]; exact h3
    · rintro ⟨h1, h2⟩
      exact ⟨⟨h1, fun k hk => h2 k (by omega)⟩, h2 n (by omega)⟩
theorem tau1 : ∀ d, d < 3 → (tau d = 1 ↔ d = 0) := by decide
/-- a case of the class is in just where the reference's is -/
theorem isB_pi {f : Nat → Int32} {t c : Nat} (hc : c < 729) : isB (csV f) t (pi6 c) 6 = true ↔ inT t c ∧ mayK f c := by
  rw [isB_i]
  constructor
  · rintro ⟨h1, h2⟩
    refine ⟨fun k hk => ?_, ?_⟩
    · have h3 := h2 k hk
      rw [pi6_d c hc k hk, tau1 _ (Nat.mod_lt _ (by decide))] at h3
      exact h3
    · by_cases hm : mayK f c
      · exact hm
      · exact absurd (csV_n hc hm) h1
  · rintro ⟨h1, h2⟩
    refine ⟨?_, fun k hk => ?_⟩
    · obtain ⟨-, m, hm, e⟩ := wV_y hc h2
      rw [e]; exact nI_ne_m9 (by omega)
    · rw [pi6_d c hc k hk, tau1 _ (Nat.mod_lt _ (by decide))]; exact h1 k hk
theorem i32_min {x y : Int32} : (if x < y then x else y).toInt = min x.toInt y.toInt := by
  by_cases h : x < y
  · rw [if_pos h]; have := Int32.lt_iff_toInt_lt.mp h; omega
  · rw [if_neg h]; have := Int32.le_iff_toInt_le.mp (Int32.not_lt.mp h); omega
theorem i32_max {x y : Int32} : (if x < y then y else x).toInt = max x.toInt y.toInt := by
  by_cases h : x < y
  · rw [if_pos h]; have := Int32.lt_iff_toInt_lt.mp h; omega
  · rw [if_neg h]; have := Int32.le_iff_toInt_le.mp (Int32.not_lt.mp h); omega
section
variable {f sc : Nat → Int32} {t : Nat}
/-- the fewest and the most of the class, over the cases up to n -/
theorem mn_i (ht : t < 64) (h0 : mayK f 0) (hs : ∀ c, c < 729 → inT t c → sc c = wV f c) : ∀ n, n < 729 →
    (∃ c, c ≤ n ∧ inT t c ∧ mayK f c ∧ mnC sc t n = sc c) ∧ (∀ c, c ≤ n → inT t c → mayK f c → (mnC sc t n).toInt ≤ (sc c).toInt) ∧ (∃ c, c ≤ n ∧ inT t c ∧ mayK f c ∧ mxC sc t n = sc c) ∧ (∀ c, c ≤ n → inT t c → mayK f c → (sc c).toInt ≤ (mxC sc t n).toInt)
  | 0, _ => by
    have hz : inT t 0 := fun k _ => Or.inr (by rw [Nat.zero_div])
    refine ⟨⟨0, Nat.le_refl _, hz, h0, rfl⟩, fun c hc _ _ => ?_, ⟨0, Nat.le_refl _, hz, h0, rfl⟩, fun c hc _ _ => ?_⟩
    · have e : c = 0 := by omega
      subst e; exact Int.le_refl _
    · have e : c = 0 := by omega
      subst e; exact Int.le_refl _
  | n + 1, hn => by
    obtain ⟨⟨c1, a1, a2, a3, a4⟩, b1, ⟨c2, d1, d2, d3, d4⟩, b2⟩ := mn_i ht h0 hs n (by omega)
    have en : mnC sc t (n + 1) = if cgF (n + 1) &&& nI t = 0 then (if sc (n + 1) = (-1) then mnC sc t n else (if sc (n + 1) < mnC sc t n then sc (n + 1) else mnC sc t n)) else mnC sc t n := rfl
    have ex : mxC sc t (n + 1) = if cgF (n + 1) &&& nI t = 0 then (if sc (n + 1) = (-1) then mxC sc t n else (if mxC sc t n < sc (n + 1) then sc (n + 1) else mxC sc t n)) else mxC sc t n := rfl
    have out : (¬ (inT t (n + 1) ∧ mayK f (n + 1))) → mnC sc t (n + 1) = mnC sc t n ∧ mxC sc t (n + 1) = mxC sc t n := by
      intro h
      rw [en, ex]
      by_cases h1 : cgF (n + 1) &&& nI t = 0
      · have h2 := (cg_and hn ht).mp h1
        have h3 : sc (n + 1) = -1 := by rw [hs _ hn h2]; exact wV_n (fun z => h ⟨h2, z⟩)
        rw [if_pos h1, if_pos h1, if_pos h3, if_pos h3]; exact ⟨rfl, rfl⟩
      · rw [if_neg h1, if_neg h1]; exact ⟨rfl, rfl⟩
    by_cases hin : inT t (n + 1) ∧ mayK f (n + 1)
    · have h1 := (cg_and hn ht).mpr hin.1
      have h3 : ¬ sc (n + 1) = -1 := by
        obtain ⟨e, m, hm, e2⟩ := wV_y hn hin.2
        rw [hs _ hn hin.1, e, e2]
        intro z
        have := congrArg Int32.toInt z
        rw [nI_toInt (by omega), show (-1 : Int32).toInt = -1 from rfl] at this
        omega
      rw [if_pos h1, if_neg h3] at en ex
      have en2 := congrArg Int32.toInt en
      have ex2 := congrArg Int32.toInt ex
      rw [i32_min] at en2
      rw [i32_max] at ex2
      refine ⟨?_, fun c hc k1 k2 => ?_, ?_, fun c hc k1 k2 => ?_⟩
      · by_cases q : sc (n + 1) < mnC sc t n
        · rw [if_pos q] at en; exact ⟨n + 1, Nat.le_refl _, hin.1, hin.2, en⟩
        · rw [if_neg q] at en; exact ⟨c1, by omega, a2, a3, en.trans a4⟩
      · rcases Nat.eq_or_lt_of_le hc with q | q
        · subst q; omega
        · have := b1 c (by omega) k1 k2; omega
      · by_cases q : mxC sc t n < sc (n + 1)
        · rw [if_pos q] at ex; exact ⟨n + 1, Nat.le_refl _, hin.1, hin.2, ex⟩
        · rw [if_neg q] at ex; exact ⟨c2, by omega, d2, d3, ex.trans d4⟩
      · rcases Nat.eq_or_lt_of_le hc with q | q
        · subst q; omega
        · have := b2 c (by omega) k1 k2; omega
    · obtain ⟨e1, e2⟩ := out hin
      rw [e1, e2]
      refine ⟨⟨c1, by omega, a2, a3, a4⟩, fun c hc k1 k2 => ?_, ⟨c2, by omega, d2, d3, d4⟩, fun c hc k1 k2 => ?_⟩
      · rcases Nat.eq_or_lt_of_le hc with q | q
        · subst q; exact absurd ⟨k1, k2⟩ hin
        · exact b1 c (by omega) k1 k2
      · rcases Nat.eq_or_lt_of_le hc with q | q
        · subst q; exact absurd ⟨k1, k2⟩ hin
        · exact b2 c (by omega) k1 k2
end
theorem ls_i {cf : Nat → Int32} {t : Nat} : ∀ n, (lsA cf t n = 99 ∨ ∃ q, q < n ∧ isB cf t q 6 = true ∧ lsA cf t n = cf q) ∧ (∀ q, q < n → isB cf t q 6 = true → (lsA cf t n).toInt ≤ (cf q).toInt) ∧ (msA cf t n = 0 ∨ ∃ q, q < n ∧ isB cf t q 6 = true ∧ msA cf t n = cf q) ∧ (∀ q, q < n → isB cf t q 6 = true → (cf q).toInt ≤ (msA cf t n).toInt)
  | 0 => ⟨Or.inl rfl, fun q hq => absurd hq (Nat.not_lt_zero q), Or.inl rfl, fun q hq => absurd hq (Nat.not_lt_zero q)⟩
  | n + 1 => by
    obtain ⟨a1, a2, b1, b2⟩ := ls_i (cf := cf) (t := t) n
    have en : lsA cf t (n + 1) = if isB cf t n 6 = true then (if lsA cf t n ≤ cf n then lsA cf t n else cf n) else lsA cf t n := rfl
    have ex : msA cf t (n + 1) = if isB cf t n 6 = true then (if cf n ≤ msA cf t n then msA cf t n else cf n) else msA cf t n := rfl
    by_cases hin : isB cf t n 6 = true
    · rw [if_pos hin] at en ex
      refine ⟨?_, fun q hq k1 => ?_, ?_, fun q hq k1 => ?_⟩
      · by_cases z : lsA cf t n ≤ cf n
        · rw [if_pos z] at en; rw [en]; exact a1.imp_right (fun ⟨q, h1, h2, h3⟩ => ⟨q, by omega, h2, h3⟩)
        · rw [if_neg z] at en; exact Or.inr ⟨n, Nat.lt_succ_self n, hin, en⟩
      · have le1 : (lsA cf t (n + 1)).toInt ≤ (lsA cf t n).toInt ∧ (lsA cf t (n + 1)).toInt ≤ (cf n).toInt := by
          by_cases z : lsA cf t n ≤ cf n
          · rw [if_pos z] at en; rw [en]; exact ⟨Int.le_refl _, Int32.le_iff_toInt_le.mp z⟩
          · rw [if_neg z] at en; rw [en]; have := Int32.lt_iff_toInt_lt.mp (Int32.not_le.mp z); exact ⟨by omega, Int.le_refl _⟩
        rcases Nat.lt_or_ge q n with y | y
        · have := a2 q y k1; omega
        · have e : q = n := by omega
          subst e; omega
      · by_cases z : cf n ≤ msA cf t n
        · rw [if_pos z] at ex; rw [ex]; exact b1.imp_right (fun ⟨q, h1, h2, h3⟩ => ⟨q, by omega, h2, h3⟩)
        · rw [if_neg z] at ex; exact Or.inr ⟨n, Nat.lt_succ_self n, hin, ex⟩
      · have le1 : (msA cf t n).toInt ≤ (msA cf t (n + 1)).toInt ∧ (cf n).toInt ≤ (msA cf t (n + 1)).toInt := by
          by_cases z : cf n ≤ msA cf t n
          · rw [if_pos z] at ex; rw [ex]; exact ⟨Int.le_refl _, Int32.le_iff_toInt_le.mp z⟩
          · rw [if_neg z] at ex; rw [ex]; have := Int32.lt_iff_toInt_lt.mp (Int32.not_le.mp z); exact ⟨by omega, Int.le_refl _⟩
        rcases Nat.lt_or_ge q n with y | y
        · have := b2 q y k1; omega
        · have e : q = n := by omega
          subst e; omega
    · rw [if_neg hin] at en ex
      rw [en, ex]
      refine ⟨a1.imp_right (fun ⟨q, h1, h2, h3⟩ => ⟨q, by omega, h2, h3⟩), fun q hq k1 => ?_, b1.imp_right (fun ⟨q, h1, h2, h3⟩ => ⟨q, by omega, h2, h3⟩), fun q hq k1 => ?_⟩
      · rcases Nat.lt_or_ge q n with y | y
        · exact a2 q y k1
        · have e : q = n := by omega
          subst e; exact absurd k1 hin
      · rcases Nat.lt_or_ge q n with y | y
        · exact b2 q y k1
        · have e : q = n := by omega
          subst e; exact absurd k1 hin
theorem may_0 {f : Nat → Int32} (h : okF f) : mayK f 0 := by
  have e : ∀ k, tdF f 0 k = f k := fun k => by
    unfold tdF dgV
    rw [show 0 / 3 ^ k % 3 = 0 by rw [Nat.zero_div], if_neg (by decide)]
    exact Int32.add_zero _
  unfold mayK
  have : ∀ n, n ≤ 6 → mayB (tdF f 0) n = true := by
    intro n
    induction n with
    | zero => intro _; rfl
    | succ n ih =>
      intro hn
      exact (mayB_s _ _).mp ⟨ih (by omega), by rw [e]; exact h n (by omega)⟩
  exact this 6 (Nat.le_refl _)
/-- SPREAD: both find the same -/
theorem sp_eq {f sc : Nat → Int32} {t : Nat} (hf : okF f) (ht : t < 64) (hs : ∀ c, c < 729 → inT t c → sc c = wV f c) : spC sc t = spN (csV f) t := by
  obtain ⟨⟨c1, a1, a2, a3, a4⟩, b1, ⟨c2, d1, d2, d3, d4⟩, b2⟩ := mn_i ht (may_0 hf) hs 728 (by decide)
  obtain ⟨r1, r2, s1, s2⟩ := ls_i (cf := csV f) (t := t) 729
  have val : ∀ c, c < 729 → inT t c → mayK f c → sc c = csV f (pi6 c) ∧ 0 ≤ (sc c).toInt ∧ (sc c).toInt ≤ 41 := by
    intro c hc k1 k2
    obtain ⟨e, m, hm, e2⟩ := wV_y hc k2
    have e3 : sc c = csV f (pi6 c) := (hs c hc k1).trans e
    refine ⟨e3, ?_, ?_⟩
    · rw [e3, e2, nI_toInt (by omega)]; omega
    · rw [e3, e2, nI_toInt (by omega)]; omega
  have back : ∀ q, q < 729 → isB (csV f) t q 6 = true → pi6 q < 729 ∧ inT t (pi6 q) ∧ mayK f (pi6 q) ∧ sc (pi6 q) = csV f q := by
    intro q hq k1
    obtain ⟨p1, p2⟩ := pi6_i q hq
    have k2 := k1
    rw [← p2] at k2
    obtain ⟨i1, i2⟩ := (isB_pi p1).mp k2
    have := (val _ p1 i1 i2).1
    rw [p2] at this
    exact ⟨p1, i1, i2, this⟩
  have fw : ∀ c, c < 729 → inT t c → mayK f c → isB (csV f) t (pi6 c) 6 = true ∧ pi6 c < 729 := fun c hc k1 k2 => ⟨(isB_pi hc).mpr ⟨k1, k2⟩, (pi6_i c hc).1⟩
  have v1 := val c1 (by omega) a2 a3
  have v2 := val c2 (by omega) d2 d3
  have f1 := fw c1 (by omega) a2 a3
  have f2 := fw c2 (by omega) d2 d3
  have emn : mnC sc t 728 = lsA (csV f) t 729 := by
    apply Int32.toInt_inj.mp
    have h1 : (lsA (csV f) t 729).toInt ≤ (mnC sc t 728).toInt := by rw [a4, v1.1]; exact r2 _ f1.2 f1.1
    have h2 : (mnC sc t 728).toInt ≤ (lsA (csV f) t 729).toInt := by
      rcases r1 with z | ⟨q, hq, k1, e⟩
      · rw [z] at h1
        have := v1.2.2
        rw [← a4] at this
        rw [show (99 : Int32).toInt = 99 from rfl] at h1
        omega
      · obtain ⟨p1, p2, p3, p4⟩ := back q hq k1
        rw [e, ← p4]; exact b1 _ (by omega) p2 p3
    omega
  have emx : mxC sc t 728 = msA (csV f) t 729 := by
    apply Int32.toInt_inj.mp
    have h1 : (mxC sc t 728).toInt ≤ (msA (csV f) t 729).toInt := by rw [d4, v2.1]; exact s2 _ f2.2 f2.1
    have h2 : (msA (csV f) t 729).toInt ≤ (mxC sc t 728).toInt := by
      rcases s1 with z | ⟨q, hq, k1, e⟩
      · rw [z, d4, show (0 : Int32).toInt = 0 from rfl]
        exact v2.2.1
      · obtain ⟨p1, p2, p3, p4⟩ := back q hq k1
        rw [e, ← p4]; exact b2 _ (by omega) p2 p3
    omega
  unfold spC spN
  rw [emn, emx]
theorem wg_at {f sc : Nat → Int32} {t c : Nat} (ht : t < 64) (hc : c < 729) (h : inT t c) : wgF f t sc 729 c = wV f c := if_pos ⟨hc, (cg_and hc ht).mpr h⟩
theorem spread_eq {nb : Nat → Nat → Int32} (hnb : ∀ i, i < 4 → okF (nb i)) (sc : Nat → Int32) (i u : Int32) : c_spread nb sc i u = r_spread nb i u := by
  unfold c_spread r_spread
  by_cases hok : okSpr i u
  · rw [if_pos hok, if_pos hok]
    obtain ⟨a, ha, rfl⟩ := inR_n 3 (by decide) rfl hok.1
    obtain ⟨t, ht, rfl⟩ := inR_n 63 (by decide) rfl hok.2
    rw [cl_n (by omega), cl_n (by omega)]
    exact sp_eq (hnb a (by omega)) (by omega) (fun c hc hi => wg_at (by omega) hc hi)
  · rw [if_neg hok, if_neg hok]
theorem inT_0 (c : Nat) : inT 0 c := fun k _ => Or.inl (by rw [Nat.zero_div])
theorem fw_eq {f sc : Nat → Int32} (hf : okF f) (d : Int32) : ∀ t, t ≤ 63 → fwC (wgF f 0 sc 729) d t = fwA (csV f) d t
  | 0, _ => rfl
  | t + 1, h => by
    have ih := fw_eq (sc := sc) hf d t (by omega)
    have hle := fwA_le (csV f) d t (by omega)
    show (if pc32 (nI (fwC (wgF f 0 sc 729) d t)) ≤ pc32 (nI t) then fwC (wgF f 0 sc 729) d t else (if d < spC (wgF f 0 sc 729) t then fwC (wgF f 0 sc 729) d t else t)) = (if onA (nI (fwA (csV f) d t)) 6 ≤ onA (nI t) 6 then fwA (csV f) d t else (if d < spN (csV f) t then fwA (csV f) d t else t))
    rw [ih, pc_on _ (by omega), pc_on t (by omega), sp_eq hf (by omega) (fun c hc _ => wg_at (by decide) hc (inT_0 c))]
theorem pc_63 : ∀ x, x < 64 → pc32 (nI x) ≤ pc32 (nI 63) := by decide +kernel
theorem fw_64 {f sc : Nat → Int32} (hf : okF f) (d : Int32) : fwC (wgF f 0 sc 729) d 64 = fwA (csV f) d 63 := by
  have e := fw_eq (sc := sc) hf d 63 (Nat.le_refl _)
  have hle := fwA_le (csV f) d 63 (Nat.le_refl _)
  show (if pc32 (nI (fwC (wgF f 0 sc 729) d 63)) ≤ pc32 (nI 63) then fwC (wgF f 0 sc 729) d 63 else _) = _
  rw [e, if_pos (pc_63 _ (by omega))]
theorem fewest_eq {nb : Nat → Nat → Int32} (hnb : ∀ i, i < 4 → okF (nb i)) (sc : Nat → Int32) (i d w : Int32) : c_fewest nb sc i d w = r_fewest nb i d w := by
  unfold c_fewest r_fewest
  by_cases hok : okFew i d w
  · rw [if_pos hok, if_pos hok]
    obtain ⟨a, ha, rfl⟩ := inR_n 3 (by decide) rfl hok.1
    rw [cl_n (by omega), fw_64 (hnb a (by omega))]
    have hle := fwA_le (csV (nb a)) d 63 (Nat.le_refl _)
    rw [pc_on _ (by omega)]
  · rw [if_neg hok, if_neg hok]
