/-! bits counted: the JDK's bitCount, the reference's loops (rows pf_ and fb_ began as the kit's) -/
theorem pf_lI {a : Nat} (h : a < 2 ^ 63) : (lN a).toInt = (a : Int) := lg_ofNat_toInt h
theorem pf_shr {a d : Nat} {D : Int64} (hD : (D.toBitVec.smod 64).toNat = d) (h : a < 2 ^ 62) : lN a >>> D = lN (a / 2 ^ d) := by
  have hd : a / 2 ^ d ≤ a := Nat.div_le_self _ _
  apply Int64.toInt_inj.mp
  have e : (lN a >>> D).toInt = (lN a).toInt >>> d := by
    rw [← hD]
    exact BitVec.toInt_sshiftRight ..
  rw [e, Int.shiftRight_eq_div_pow, pf_lI (by omega), pf_lI (by omega)]
  rfl
theorem pf_ushr {a d : Nat} {D : UInt64} (hD : D.toNat % 64 = d) (h : a < 2 ^ 62) : ((lN a).toUInt64 >>> D).toInt64 = lN (a / 2 ^ d) := by
  have hd : a / 2 ^ d ≤ a := Nat.div_le_self _ _
  have e : (lN a).toUInt64 >>> D = UInt64.ofNat (a / 2 ^ d) := UInt64.toNat_inj.mp (by
    rw [UInt64.toNat_shiftRight, hD, Nat.shiftRight_eq_div_pow, UInt64.toNat_ofNat']
    show (UInt64.ofNat a).toNat / 2 ^ d = _
    rw [UInt64.toNat_ofNat', Nat.mod_eq_of_lt (by omega), Nat.mod_eq_of_lt (by omega)])
  rw [e]
  rfl
theorem fb_andL (a b : Nat) : lN a &&& lN b = lN (a &&& b) := by
  apply Int64.toBitVec_inj.1
  show BitVec.ofNat 64 a &&& BitVec.ofNat 64 b = BitVec.ofNat 64 (a &&& b)
  apply BitVec.eq_of_getLsbD_eq
  intro i hi
  simp [hi]
theorem fb_orL (a b : Nat) : lN a ||| lN b = lN (a ||| b) := by
  apply Int64.toBitVec_inj.1
  show BitVec.ofNat 64 a ||| BitVec.ofNat 64 b = BitVec.ofNat 64 (a ||| b)
  apply BitVec.eq_of_getLsbD_eq
  intro i hi
  simp [hi]
theorem fb_or_sumL {a k : Nat} (b : Nat) (h : a < 2 ^ k) : lN (2 ^ k * b) ||| lN a = lN (2 ^ k * b + a) := by rw [fb_orL, Nat.two_pow_add_eq_or_of_lt h]
def pcS (X : Nat) : Nat → Nat
  | 0 => 0
  | n + 1 => pcS X n + X / 2 ^ n % 2
def rgN (f : Nat → Int32) : Nat → Nat
  | 0 => 0
  | n + 1 => rgN f n + 2 ^ n * (if upP f (nI n) 0 0 then 1 else 0)
theorem rgN_lt (f : Nat → Int32) : ∀ n, rgN f n < 2 ^ n
  | 0 => by show 0 < 2 ^ 0; decide
  | n + 1 => by
    have ih := rgN_lt f n
    show rgN f n + 2 ^ n * (if upP f (nI n) 0 0 then 1 else 0) < 2 ^ (n + 1)
    rw [Nat.pow_succ]
    split <;> omega
theorem one_shl : ∀ n, n < 64 → (1 : Int64) <<< ((nI n).toInt64 &&& 63) = lN (2 ^ n) := by decide +kernel
theorem rg_N (f : Nat → Int32) : ∀ n, n ≤ 63 → rg f n = lN (rgN f n)
  | 0, _ => rfl
  | n + 1, h => by
    have ih := rg_N f n (by omega)
    show rg f n ||| (if upP f (nI n) 0 0 then 1 <<< ((nI n).toInt64 &&& 63) else 0) = lN (rgN f n + 2 ^ n * (if upP f (nI n) 0 0 then 1 else 0))
    by_cases hu : upP f (nI n) 0 0
    · rw [if_pos hu, if_pos hu, ih, one_shl n (by omega), Int64.or_comm, Nat.add_comm]
      have := fb_or_sumL (a := rgN f n) (k := n) 1 (rgN_lt f n)
      rw [Nat.mul_one] at this ⊢
      exact this
    · rw [if_neg hu, if_neg hu, ih, Nat.mul_zero, Nat.add_zero]
      exact Int64.or_zero
theorem bit_add {X n v : Nat} (b : Nat) (h : v < n) : (X + 2 ^ n * b) / 2 ^ v % 2 = X / 2 ^ v % 2 := by
  have e : 2 ^ n * b = 2 ^ v * (2 * (2 ^ (n - v - 1) * b)) := by
    rw [show n = v + (1 + (n - v - 1)) by omega, Nat.pow_add, Nat.pow_add, show v + (1 + (n - v - 1)) - v - 1 = n - v - 1 by omega]
    rw [Nat.mul_assoc, Nat.mul_assoc, Nat.pow_one]
  rw [e, Nat.add_mul_div_left _ _ (Nat.two_pow_pos v), Nat.add_mul_mod_self_left]
theorem rgN_bit (f : Nat → Int32) : ∀ n v, v < n → rgN f n / 2 ^ v % 2 = (if upP f (nI v) 0 0 then 1 else 0)
  | n + 1, v, h => by
    show (rgN f n + 2 ^ n * (if upP f (nI n) 0 0 then 1 else 0)) / 2 ^ v % 2 = _
    rcases Nat.lt_or_ge v n with q | q
    · rw [bit_add _ q]; exact rgN_bit f n v q
    · have e : v = n := by omega
      subst e
      rw [Nat.add_mul_div_left _ _ (Nat.two_pow_pos v), Nat.div_eq_of_lt (rgN_lt f v), Nat.zero_add]
      split <;> rfl
theorem bI_n (P : Prop) [Decidable P] : bI P = nI (if P then 1 else 0) := by
  by_cases h : P
  · rw [bI_t h, if_pos h]; rfl
  · rw [bI_f h, if_neg h]; rfl
theorem ct_N (f : Nat → Int32) (m : Nat) : ∀ n, n ≤ m → ct f n = nI (pcS (rgN f m) n)
  | 0, _ => rfl
  | n + 1, h => by
    show ct f n + bI (upP f (nI n) 0 0) = nI (pcS (rgN f m) n + rgN f m / 2 ^ n % 2)
    rw [ct_N f m n (by omega), rgN_bit f m n (by omega), bI_n, nI_add]
theorem sm64 : ∀ n, n < 64 → (((nI n).toInt64 &&& 63).toBitVec.smod 64).toNat = n := by decide +kernel
theorem mny_N {X : Nat} (hX : X < 2 ^ 62) : ∀ n, n ≤ 62 → mny (lN X) n = nI (pcS X n)
  | 0, _ => rfl
  | n + 1, h => by
    show mny (lN X) n + ((lN X >>> ((nI n).toInt64 &&& 63)) &&& 1).toInt32 = nI (pcS X n + X / 2 ^ n % 2)
    rw [mny_N hX n (by omega), pf_shr (sm64 n (by omega)) hX, show (1 : Int64) = lN 1 from rfl, fb_andL, Nat.and_one_is_mod, lN_i, nI_add]
-- lanes of eight bits
theorem and256 (x y : Nat) : x &&& y = ((x % 256) &&& (y % 256)) + 256 * ((x / 256) &&& (y / 256)) := by
  have h1 : (x &&& y) % 2 ^ 8 = x % 2 ^ 8 &&& y % 2 ^ 8 := Nat.and_mod_two_pow
  have h2 : (x &&& y) / 2 ^ 8 = x / 2 ^ 8 &&& y / 2 ^ 8 := Nat.and_div_two_pow
  rw [show (2 : Nat) ^ 8 = 256 from rfl] at h1 h2
  rw [← h1, ← h2]
  omega
def mk8 (m : Nat) : Nat → Nat
  | 0 => 0
  | n + 1 => m + 256 * mk8 m n
def Ln (g : Nat → Nat) : Nat → Nat → Nat
  | 0, _ => 0
  | n + 1, X => g (X % 256) + 256 * Ln g n (X / 256)
theorem and_lane {a b m M : Nat} (hm : m < 256) (ha : a < 256) : (a + 256 * b) &&& (m + 256 * M) = (a &&& m) + 256 * (b &&& M) := by
  rw [and256, show (a + 256 * b) % 256 = a by omega, show (m + 256 * M) % 256 = m by omega, show (a + 256 * b) / 256 = b by omega, show (m + 256 * M) / 256 = M by omega]
def s1 (a : Nat) : Nat := a - (a / 2 &&& 85)
def s2 (a : Nat) : Nat := (a &&& 51) + (a / 4 &&& 51)
def s3 (a : Nat) : Nat := (a + a / 16) &&& 15
theorem l1 : ∀ a, a < 256 → ∀ b, b < 2 → (a / 2 + 128 * b) &&& 85 = a / 2 &&& 85 := by decide +kernel
theorem l2 : ∀ a, a < 256 → ∀ b, b < 4 → (a / 4 + 64 * b) &&& 51 = a / 4 &&& 51 := by decide +kernel
theorem l3 : ∀ a, a < 69 → ∀ b, b < 5 → (a + a / 16 + 16 * b) &&& 15 = (a + a / 16) &&& 15 := by decide +kernel
theorem p1 : ∀ a, a < 256 → s1 a < 256 := by decide +kernel
theorem p2 : ∀ a, a < 256 → s2 (s1 a) < 69 ∧ s2 (s1 a) % 16 < 5 := by decide +kernel
theorem p3 : ∀ a, a < 256 → s3 (s2 (s1 a)) = pcS a 8 ∧ pcS a 8 ≤ 8 := by decide +kernel
theorem step1 : ∀ n X, X < 256 ^ n → X - ((X / 2) &&& mk8 85 n) = Ln s1 n X
  | 0, X, h => by have e : X = 0 := by rw [Nat.pow_zero] at h; omega
                  subst e; rfl
  | n + 1, X, h => by
    have hB : X / 256 < 256 ^ n := by rw [Nat.pow_succ] at h; exact Nat.div_lt_of_lt_mul (by rw [Nat.mul_comm]; exact h)
    have ih := step1 n (X / 256) hB
    have e : X / 2 = ((X % 256) / 2 + 128 * (X / 256 % 2)) + 256 * (X / 256 / 2) := by omega
    show X - ((X / 2) &&& (85 + 256 * mk8 85 n)) = s1 (X % 256) + 256 * Ln s1 n (X / 256)
    rw [e, and_lane (by decide) (by omega), l1 _ (by omega) _ (by omega), ← ih]
    have h1 : (X % 256) / 2 &&& 85 ≤ (X % 256) / 2 := Nat.and_le_left
    have h2 : (X / 256) / 2 &&& mk8 85 n ≤ (X / 256) / 2 := Nat.and_le_left
    unfold s1
    omega
theorem step2 (g : Nat → Nat) (hg : ∀ a, a < 256 → g a < 256) : ∀ n X, ((Ln g n X) &&& mk8 51 n) + ((Ln g n X / 4) &&& mk8 51 n) = Ln (fun a => s2 (g a)) n X
  | 0, X => by show (0 &&& 0) + (0 / 4 &&& 0) = 0; decide
  | n + 1, X => by
    have ih := step2 g hg n (X / 256)
    have ha := hg (X % 256) (by omega)
    show ((g (X % 256) + 256 * Ln g n (X / 256)) &&& (51 + 256 * mk8 51 n)) + (((g (X % 256) + 256 * Ln g n (X / 256)) / 4) &&& (51 + 256 * mk8 51 n)) = s2 (g (X % 256)) + 256 * Ln (fun a => s2 (g a)) n (X / 256)
    generalize g (X % 256) = a at *
    rw [← ih]
    generalize Ln g n (X / 256) = Y at *
    have e : (a + 256 * Y) / 4 = (a / 4 + 64 * (Y % 4)) + 256 * (Y / 4) := by omega
    rw [e, and_lane (by decide) ha, and_lane (by decide) (by omega), l2 _ ha _ (by omega)]
    unfold s2
    omega
theorem Ln_16 (g : Nat → Nat) (hg : ∀ a, a < 256 → g a % 16 < 5) : ∀ n X, Ln g n X % 16 < 5
  | 0, _ => by show 0 % 16 < 5; decide
  | n + 1, X => by
    have := hg (X % 256) (by omega)
    show (g (X % 256) + 256 * Ln g n (X / 256)) % 16 < 5
    omega
theorem step3 (g : Nat → Nat) (hg : ∀ a, a < 256 → g a < 69 ∧ g a % 16 < 5) : ∀ n X, (Ln g n X + Ln g n X / 16) &&& mk8 15 n = Ln (fun a => s3 (g a)) n X
  | 0, X => by show (0 + 0 / 16) &&& 0 = 0; decide
  | n + 1, X => by
    have ih := step3 g hg n (X / 256)
    have ha := hg (X % 256) (by omega)
    have h16 := Ln_16 g (fun a h => (hg a h).2) n (X / 256)
    show (g (X % 256) + 256 * Ln g n (X / 256) + (g (X % 256) + 256 * Ln g n (X / 256)) / 16) &&& (15 + 256 * mk8 15 n) = s3 (g (X % 256)) + 256 * Ln (fun a => s3 (g a)) n (X / 256)
    generalize g (X % 256) = a at *
    rw [← ih]
    generalize Ln g n (X / 256) = Y at *
    have e : a + 256 * Y + (a + 256 * Y) / 16 = (a + a / 16 + 16 * (Y % 16)) + 256 * (Y + Y / 16) := by omega
    rw [e, and_lane (by decide) (by omega), l3 _ ha.1 _ h16]
    rfl
theorem Ln_ext {g h : Nat → Nat} (e : ∀ a, a < 256 → g a = h a) : ∀ n X, Ln g n X = Ln h n X
  | 0, _ => rfl
  | n + 1, X => by
    show g (X % 256) + 256 * Ln g n (X / 256) = h (X % 256) + 256 * Ln h n (X / 256)
    rw [e _ (by omega), Ln_ext e n]
/-- the sum of eight lanes -/
theorem sum8 {p0 p1 p2 p3 p4 p5 p6 p7 Y0 Y1 Y2 Y3 Y4 Y5 Y6 Y7 : Nat} (h0 : p0 ≤ 8) (h1 : p1 ≤ 8) (h2 : p2 ≤ 8) (h3 : p3 ≤ 8) (h4 : p4 ≤ 8) (h5 : p5 ≤ 8) (h6 : p6 ≤ 8) (h7 : p7 ≤ 8) (e0 : Y0 = p0 + 256 * Y1) (e1 : Y1 = p1 + 256 * Y2) (e2 : Y2 = p2 + 256 * Y3) (e3 : Y3 = p3 + 256 * Y4) (e4 : Y4 = p4 + 256 * Y5) (e5 : Y5 = p5 + 256 * Y6) (e6 : Y6 = p6 + 256 * Y7) (e7 : Y7 = p7 + 256 * 0) :
    ((Y0 + Y0 / 2 ^ 8 + (Y0 + Y0 / 2 ^ 8) / 2 ^ 16) + (Y0 + Y0 / 2 ^ 8 + (Y0 + Y0 / 2 ^ 8) / 2 ^ 16) / 2 ^ 32) % 2 ^ 7 = p0 + p1 + p2 + p3 + p4 + p5 + p6 + p7 := by
  have a1 : Y0 / 2 ^ 8 = Y1 := by clear e1 e2 e3 e4 e5 e6 e7; omega
  have a2 : (Y0 + Y1) / 2 ^ 16 = Y2 + Y3 := by clear e3 e4 e5 e6 e7; omega
  have a3 : (Y0 + Y1 + (Y2 + Y3)) / 2 ^ 32 = Y4 + Y5 + (Y6 + Y7) := by clear a1 a2 e7; omega
  rw [a1, a2, a3]
  clear a1 a2 a3
  have b0 : Y0 % 128 = p0 := by omega
  have b1 : Y1 % 128 = p1 := by omega
  have b2 : Y2 % 128 = p2 := by omega
  have b3 : Y3 % 128 = p3 := by omega
  have b4 : Y4 % 128 = p4 := by omega
  have b5 : Y5 % 128 = p5 := by omega
  have b6 : Y6 % 128 = p6 := by omega
  have b7 : Y7 % 128 = p7 := by omega
  clear e0 e1 e2 e3 e4 e5 e6 e7
  rw [show (2 : Nat) ^ 7 = 128 from rfl]
  omega
theorem pcS_8 (X n : Nat) : pcS X (n + 8) = pcS X n + pcS (X / 2 ^ n % 256) 8 := by
  have e : ∀ i, i < 8 → X / 2 ^ (n + i) % 2 = (X / 2 ^ n % 256) / 2 ^ i % 2 := by
    intro i hi
    rw [Nat.pow_add, ← Nat.div_div_eq_div_mul]
    generalize X / 2 ^ n = Z
    rcases (show i = 0 ∨ i = 1 ∨ i = 2 ∨ i = 3 ∨ i = 4 ∨ i = 5 ∨ i = 6 ∨ i = 7 by omega) with h | h | h | h | h | h | h | h <;> subst h <;> omega
  show pcS X n + X / 2 ^ n % 2 + X / 2 ^ (n + 1) % 2 + X / 2 ^ (n + 2) % 2 + X / 2 ^ (n + 3) % 2 + X / 2 ^ (n + 4) % 2 + X / 2 ^ (n + 5) % 2 + X / 2 ^ (n + 6) % 2 + X / 2 ^ (n + 7) % 2 = pcS X n + (0 + (X / 2 ^ n % 256) / 2 ^ 0 % 2 + (X / 2 ^ n % 256) / 2 ^ 1 % 2 + (X / 2 ^ n % 256) / 2 ^ 2 % 2 + (X / 2 ^ n % 256) / 2 ^ 3 % 2 + (X / 2 ^ n % 256) / 2 ^ 4 % 2 + (X / 2 ^ n % 256) / 2 ^ 5 % 2 + (X / 2 ^ n % 256) / 2 ^ 6 % 2 + (X / 2 ^ n % 256) / 2 ^ 7 % 2)
  have e0 := e 0 (by decide)
  rw [Nat.add_zero] at e0
  rw [e0, e 1 (by decide), e 2 (by decide), e 3 (by decide), e 4 (by decide), e 5 (by decide), e 6 (by decide), e 7 (by decide)]
  omega
theorem pcS_top {X : Nat} {m : Nat} (h : X < 2 ^ m) : ∀ n, pcS X (m + n) = pcS X m
  | 0 => rfl
  | n + 1 => by
    show pcS X (m + n) + X / 2 ^ (m + n) % 2 = pcS X m
    rw [pcS_top h n, Nat.div_eq_of_lt (Nat.lt_of_lt_of_le h (Nat.pow_le_pow_right (by decide) (by omega)))]
    rfl
theorem pcS_64 (X : Nat) : pcS X 64 = pcS (X % 256) 8 + pcS (X / 256 % 256) 8 + pcS (X / 256 / 256 % 256) 8 + pcS (X / 256 / 256 / 256 % 256) 8 + pcS (X / 256 / 256 / 256 / 256 % 256) 8 + pcS (X / 256 / 256 / 256 / 256 / 256 % 256) 8 + pcS (X / 256 / 256 / 256 / 256 / 256 / 256 % 256) 8 + pcS (X / 256 / 256 / 256 / 256 / 256 / 256 / 256 % 256) 8 := by
  rw [pcS_8 X 56, pcS_8 X 48, pcS_8 X 40, pcS_8 X 32, pcS_8 X 24, pcS_8 X 16, pcS_8 X 8, pcS_8 X 0]
  rw [show X / 2 ^ 0 = X by omega, show X / 2 ^ 8 = X / 256 from rfl, show X / 2 ^ 16 = X / 256 / 256 by omega, show X / 2 ^ 24 = X / 256 / 256 / 256 by omega, show X / 2 ^ 32 = X / 256 / 256 / 256 / 256 by omega, show X / 2 ^ 40 = X / 256 / 256 / 256 / 256 / 256 by omega, show X / 2 ^ 48 = X / 256 / 256 / 256 / 256 / 256 / 256 by omega, show X / 2 ^ 56 = X / 256 / 256 / 256 / 256 / 256 / 256 / 256 by omega]
  show 0 + _ + _ + _ + _ + _ + _ + _ + _ = _
  omega
theorem mask7 (n : Nat) : nI n &&& 127 = nI (n % 2 ^ 7) := by
  rw [pk_and (nI n) 7 rfl]
  have e : (nI n).toBitVec.toNat = n % 2 ^ 32 := BitVec.toNat_ofNat n 32
  rw [e, Nat.mod_mod_of_dvd n (by decide)]
theorem pc64_N {X : Nat} (hX : X < 2 ^ 41) : pc64 (lN X) = nI (pcS X 41) := by
  have m5 : (6148914691236517205 : Int64) = lN (mk8 85 8) := by decide +kernel
  have m3 : (3689348814741910323 : Int64) = lN (mk8 51 8) := by decide +kernel
  have mF : (1085102592571150095 : Int64) = lN (mk8 15 8) := by decide +kernel
  have u : ∀ k : Int32, ∀ d a : Nat, (k.toInt64.toUInt64 &&& Int64.toUInt64 63).toNat % 64 = d → a < 2 ^ 62 → ((lN a).toUInt64 >>> (k.toInt64.toUInt64 &&& Int64.toUInt64 63)).toInt64 = lN (a / 2 ^ d) := fun k d a h1 h2 => pf_ushr h1 h2
  have x1 : lN X - (((lN X).toUInt64 >>> ((1 : Int32).toInt64.toUInt64 &&& Int64.toUInt64 63)).toInt64 &&& 6148914691236517205) = lN (Ln s1 8 X) := by
    have hle : (X / 2) &&& mk8 85 8 ≤ X / 2 := Nat.and_le_left
    rw [u 1 1 X (by decide +kernel) (by omega), m5, fb_andL, Nat.pow_one, lN_sub (by omega), step1 8 X (by omega)]
  have b1 : Ln s1 8 X ≤ X := by rw [← step1 8 X (by omega)]; omega
  have x2 : (lN (Ln s1 8 X) &&& 3689348814741910323) + (((lN (Ln s1 8 X)).toUInt64 >>> ((2 : Int32).toInt64.toUInt64 &&& Int64.toUInt64 63)).toInt64 &&& 3689348814741910323) = lN (Ln (fun a => s2 (s1 a)) 8 X) := by
    rw [u 2 2 _ (by decide +kernel) (by omega), m3, fb_andL, fb_andL, lN_add, show (2 : Nat) ^ 2 = 4 from rfl, step2 s1 p1 8 X]
  have b2 : Ln (fun a => s2 (s1 a)) 8 X ≤ 2 * X := by
    rw [← step2 s1 p1 8 X]
    have h1 : Ln s1 8 X &&& mk8 51 8 ≤ Ln s1 8 X := Nat.and_le_left
    have h2 : Ln s1 8 X / 4 &&& mk8 51 8 ≤ Ln s1 8 X / 4 := Nat.and_le_left
    omega
  have x3 : (lN (Ln (fun a => s2 (s1 a)) 8 X) + ((lN (Ln (fun a => s2 (s1 a)) 8 X)).toUInt64 >>> ((4 : Int32).toInt64.toUInt64 &&& Int64.toUInt64 63)).toInt64) &&& 1085102592571150095 = lN (Ln (fun a => pcS a 8) 8 X) := by
    rw [u 4 4 _ (by decide +kernel) (by omega), mF, lN_add, fb_andL, show (2 : Nat) ^ 4 = 16 from rfl, step3 (fun a => s2 (s1 a)) p2 8 X, Ln_ext (fun a h => (p3 a h).1) 8 X]
  have b3 : Ln (fun a => pcS a 8) 8 X ≤ 4 * X := by
    rw [← Ln_ext (fun a h => (p3 a h).1) 8 X, ← step3 (fun a => s2 (s1 a)) p2 8 X]
    have h1 : (Ln (fun a => s2 (s1 a)) 8 X + Ln (fun a => s2 (s1 a)) 8 X / 16) &&& mk8 15 8 ≤ Ln (fun a => s2 (s1 a)) 8 X + Ln (fun a => s2 (s1 a)) 8 X / 16 := Nat.and_le_left
    omega
  have hs := sum8 (p3 (X % 256) (by omega)).2 (p3 (X / 256 % 256) (by omega)).2 (p3 (X / 256 / 256 % 256) (by omega)).2 (p3 (X / 256 / 256 / 256 % 256) (by omega)).2 (p3 (X / 256 / 256 / 256 / 256 % 256) (by omega)).2 (p3 (X / 256 / 256 / 256 / 256 / 256 % 256) (by omega)).2 (p3 (X / 256 / 256 / 256 / 256 / 256 / 256 % 256) (by omega)).2 (p3 (X / 256 / 256 / 256 / 256 / 256 / 256 / 256 % 256) (by omega)).2 (Y0 := Ln (fun a => pcS a 8) 8 X) rfl rfl rfl rfl rfl rfl rfl rfl
  rw [← pcS_64, pcS_top hX 23] at hs
  generalize hY : Ln (fun a => pcS a 8) 8 X = Y at *
  have x4 : lN Y + ((lN Y).toUInt64 >>> ((8 : Int32).toInt64.toUInt64 &&& Int64.toUInt64 63)).toInt64 = lN (Y + Y / 2 ^ 8) := by rw [u 8 8 _ (by decide +kernel) (by omega), lN_add]
  have x5 : lN (Y + Y / 2 ^ 8) + ((lN (Y + Y / 2 ^ 8)).toUInt64 >>> ((16 : Int32).toInt64.toUInt64 &&& Int64.toUInt64 63)).toInt64 = lN (Y + Y / 2 ^ 8 + (Y + Y / 2 ^ 8) / 2 ^ 16) := by rw [u 16 16 _ (by decide +kernel) (by omega), lN_add]
  have x6 : lN (Y + Y / 2 ^ 8 + (Y + Y / 2 ^ 8) / 2 ^ 16) + ((lN (Y + Y / 2 ^ 8 + (Y + Y / 2 ^ 8) / 2 ^ 16)).toUInt64 >>> ((32 : Int32).toInt64.toUInt64 &&& Int64.toUInt64 63)).toInt64 = lN ((Y + Y / 2 ^ 8 + (Y + Y / 2 ^ 8) / 2 ^ 16) + (Y + Y / 2 ^ 8 + (Y + Y / 2 ^ 8) / 2 ^ 16) / 2 ^ 32) := by rw [u 32 32 _ (by decide +kernel) (by omega), lN_add]
  unfold pc64
  simp only []
  rw [x1, x2, x3, x4, x5, x6, lN_i, mask7, hs]
/-- bitCount of a RANGE is how many speeds it has; so is the reference's own count -/
theorem pc_ct (f : Nat → Int32) : pc64 (rg f 41) = ct f 41 := by rw [rg_N f 41 (by decide), pc64_N (rgN_lt f 41), ct_N f 41 41 (Nat.le_refl _)]
theorem mny_ct (f : Nat → Int32) : mny (rg f 41) 41 = ct f 41 := by
  have := rgN_lt f 41
  rw [rg_N f 41 (by decide), mny_N (by omega) 41 (by decide), ct_N f 41 41 (Nat.le_refl _)]
theorem pcS_le (X : Nat) : ∀ n, pcS X n ≤ n
  | 0 => Nat.le_refl _
  | n + 1 => by
    have := pcS_le X n
    show pcS X n + X / 2 ^ n % 2 ≤ n + 1
    omega
theorem ct_le (f : Nat → Int32) : ∃ m, m ≤ 41 ∧ ct f 41 = nI m := ⟨_, pcS_le _ 41, ct_N f 41 41 (Nat.le_refl _)⟩
theorem pc_on : ∀ t, t < 64 → pc32 (nI t) = onA (nI t) 6 := by decide +kernel
