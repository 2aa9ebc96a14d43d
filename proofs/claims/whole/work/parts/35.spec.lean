/-! the numbers of a bicycle as they may be; what follows for its signs -/
abbrev okF (f : Nat → Int32) : Prop := ∀ k, k < 6 → inR (f k) (bot (nI k)) 9
def pc32 (x0 : Int32) : Int32 :=
  let x1 := x0 - ((x0.toUInt32 >>> ((1 : Int32).toUInt32 &&& Int32.toUInt32 31)).toInt32 &&& 1431655765)
  let x2 := (x1 &&& 858993459) + ((x1.toUInt32 >>> ((2 : Int32).toUInt32 &&& Int32.toUInt32 31)).toInt32 &&& 858993459)
  let x3 := (x2 + (x2.toUInt32 >>> ((4 : Int32).toUInt32 &&& Int32.toUInt32 31)).toInt32) &&& 252645135
  let x4 := x3 + (x3.toUInt32 >>> ((8 : Int32).toUInt32 &&& Int32.toUInt32 31)).toInt32
  let x5 := x4 + (x4.toUInt32 >>> ((16 : Int32).toUInt32 &&& Int32.toUInt32 31)).toInt32
  x5 &&& 63
def pc64 (x0 : Int64) : Int32 :=
  let x1 := x0 - ((x0.toUInt64 >>> ((1 : Int32).toInt64.toUInt64 &&& Int64.toUInt64 63)).toInt64 &&& 6148914691236517205)
  let x2 := (x1 &&& 3689348814741910323) + ((x1.toUInt64 >>> ((2 : Int32).toInt64.toUInt64 &&& Int64.toUInt64 63)).toInt64 &&& 3689348814741910323)
  let x3 := (x2 + (x2.toUInt64 >>> ((4 : Int32).toInt64.toUInt64 &&& Int64.toUInt64 63)).toInt64) &&& 1085102592571150095
  let x4 := x3 + (x3.toUInt64 >>> ((8 : Int32).toInt64.toUInt64 &&& Int64.toUInt64 63)).toInt64
  let x5 := x4 + (x4.toUInt64 >>> ((16 : Int32).toInt64.toUInt64 &&& Int64.toUInt64 63)).toInt64
  let x6 := x5 + (x5.toUInt64 >>> ((32 : Int32).toInt64.toUInt64 &&& Int64.toUInt64 63)).toInt64
  x6.toInt32 &&& 127
theorem okF_get {f : Nat → Int32} (h : okF f) : (∃ a : Nat, 1 ≤ a ∧ a ≤ 9 ∧ f 3 = nI a) ∧ (∃ b : Nat, 1 ≤ b ∧ b ≤ 9 ∧ f 4 = nI b) ∧ (∃ w : Nat, w ≤ 9 ∧ f 5 = nI w) :=
  ⟨inR_1 9 (by decide) rfl (h 3 (by decide)), inR_1 9 (by decide) rfl (h 4 (by decide)), inR_n 9 (by decide) rfl (h 5 (by decide))⟩
theorem lhw : ∀ a, a < 10 → ∀ b, b < 10 → ∀ w, w < 10 → - (100 * (nI b).toInt64 * (nI a).toInt64 * (nI w).toInt64) ≤ 0 := by decide +kernel
theorem i64_0 : (0 : Int32).toInt64 = 0 := rfl
theorem up_spin {f : Nat → Int32} (h : okF f) (h0 : f 0 = 0) (v : Int32) : ¬ upP f v 0 0 := fun z => by
  refine z.1.2.2.1 ?_
  obtain ⟨⟨a, -, ha, ea⟩, ⟨b, -, hb, eb⟩, w, hw, ew⟩ := okF_get h
  unfold sg1
  rw [h0, i64_0, ea, eb, ew, Int64.mul_zero, Int64.zero_mul, Int64.zero_mul, Int64.mul_zero, Int64.zero_mul, Int64.zero_mul, Int64.add_zero, Int64.zero_sub]
  exact lhw a (by omega) b (by omega) w (by omega)
theorem up_damp {f : Nat → Int32} (h3 : sg3 f ≤ 0) (v k w : Int32) : ¬ upP f v k w := fun z => z.1.1 h3
theorem rg_none {f : Nat → Int32} : ∀ n, (∀ v, v < n → ¬ upP f (nI v) 0 0) → rg f n = 0
  | 0, _ => rfl
  | n + 1, h => by
    show rg f n ||| (if upP f (nI n) 0 0 then 1 <<< ((nI n).toInt64 &&& 63) else 0) = 0
    rw [rg_none n (fun v hv => h v (by omega)), if_neg (h n (by omega))]
    rfl
