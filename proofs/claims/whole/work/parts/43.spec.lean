/-! measured numbers, as the class has them -/
def cgI (c : Nat) : Nat → Int32
  | 0 => 0
  | k + 1 => if c / 3 ^ k % 3 = 0 then cgI c k else cgI c k ||| (1 <<< (nI k &&& 31))
def cgF : Nat → Int32 := fun c => cgI c 6
def dgV (c k : Nat) : Int32 := if c / 3 ^ k % 3 = 2 then 1 else -nI (c / 3 ^ k % 3)
def tdF (f : Nat → Int32) (c : Nat) : Nat → Int32 := fun k => f k + dgV c k
theorem low_bot : ∀ k, k < 6 → s_LOW k = bot (nI k) := by decide +kernel
theorem mayB_le {f : Nat → Int32} : ∀ {n k : Nat}, k ≤ n → mayB f n = true → mayB f k = true
  | 0, k, h, _ => by have e : k = 0 := by omega
                     subst e; rfl
  | n + 1, k, h, hm => by
    rcases Nat.lt_or_ge k (n + 1) with q | q
    · exact mayB_le (by omega) ((mayB_s f n).mpr hm).1
    · have e : k = n + 1 := by omega
      rw [e]; exact hm
theorem mayB_in {f : Nat → Int32} {n k : Nat} (h : k < n) (hm : mayB f n = true) : inR (f k) (bot (nI k)) 9 := ((mayB_s f k).mpr (mayB_le h hm)).2
theorem okF_may {g u : Nat → Int32} (hm : mayB g 6 = true) (h : ∀ z, z < 6 → u z = g z) : okF u := fun k hk => by rw [h k hk]; exact mayB_in hk hm
theorem upP_ext {f g : Nat → Int32} (h : ∀ z, z < 6 → f z = g z) (v k w : Int32) : upP f v k w ↔ upP g v k w := by
  have h0 := h 0 (by decide)
  have h1 := h 1 (by decide)
  have h2 := h 2 (by decide)
  have h3 := h 3 (by decide)
  have h4 := h 4 (by decide)
  have h5 := h 5 (by decide)
  have e3 : sg3 f = sg3 g := by unfold sg3; rw [h4, h5]
  have e2 : ∀ v w, sg2 f v w = sg2 g v w := fun v w => by unfold sg2; rw [h0, h1, h3, h4]
  have e1 : ∀ v k w, sg1 f v k w = sg1 g v k w := fun v k w => by unfold sg1; rw [h0, h1, h2, h3, h4, h5]
  have e0 : ∀ v k, sg0 f v k = sg0 g v k := fun v k => by unfold sg0; rw [h1, h2, h3]
  unfold upP
  rw [e3, e2, e1, e0, h4]
theorem rg_ext {f g : Nat → Int32} (h : ∀ z, z < 6 → f z = g z) : ∀ n, rg f n = rg g n
  | 0 => rfl
  | n + 1 => by
    show rg f n ||| (if upP f (nI n) 0 0 then 1 <<< ((nI n).toInt64 &&& 63) else 0) = rg g n ||| (if upP g (nI n) 0 0 then 1 <<< ((nI n).toInt64 &&& 63) else 0)
    rw [rg_ext h n]
    by_cases hu : upP f (nI n) 0 0
    · rw [if_pos hu, if_pos ((upP_ext h _ _ _).mp hu)]
    · rw [if_neg hu, if_neg (fun z => hu ((upP_ext h _ _ _).mpr z))]
def wV (f : Nat → Int32) (c : Nat) : Int32 := if mayB (tdF f c) 6 = true then pc64 (rg (tdF f c) 41) else (-1)
def wgF (f : Nat → Int32) (t : Nat) (sc : Nat → Int32) (q : Nat) : Nat → Int32 := fun c => if c < q ∧ cgF c &&& nI t = 0 then wV f c else sc c
theorem wgF_0 (f : Nat → Int32) (t : Nat) (sc : Nat → Int32) : wgF f t sc 0 = sc := funext fun c => if_neg (fun h => Nat.not_lt_zero c h.1)
theorem wgF_t {f : Nat → Int32} {t : Nat} {sc : Nat → Int32} {q : Nat} (h : cgF q &&& nI t = 0) : upd (wgF f t sc q) q (wV f q) = wgF f t sc (q + 1) := funext fun c => by
  by_cases hc : c = q
  · subst hc; rw [upd_at]; exact (if_pos ⟨Nat.lt_succ_self c, h⟩).symm
  · rw [upd_ne _ _ hc]
    by_cases h1 : c < q ∧ cgF c &&& nI t = 0
    · exact (if_pos h1).trans (if_pos ⟨by omega, h1.2⟩).symm
    · exact (if_neg h1).trans (if_neg (fun z => h1 ⟨by omega, z.2⟩)).symm
theorem wgF_f {f : Nat → Int32} {t : Nat} {sc : Nat → Int32} {q : Nat} (h : ¬ cgF q &&& nI t = 0) : wgF f t sc q = wgF f t sc (q + 1) := funext fun c => by
  by_cases h1 : c < q ∧ cgF c &&& nI t = 0
  · exact (if_pos h1).trans (if_pos ⟨by omega, h1.2⟩).symm
  · refine (if_neg h1).trans (if_neg (fun z => ?_)).symm
    by_cases hc : c = q
    · subst hc; exact h z.2
    · exact h1 ⟨by omega, z.2⟩
def mnC (sc : Nat → Int32) (t : Nat) : Nat → Int32
  | 0 => sc 0
  | n + 1 => if cgF (n + 1) &&& nI t = 0 then (if sc (n + 1) = (-1) then mnC sc t n else (if sc (n + 1) < mnC sc t n then sc (n + 1) else mnC sc t n)) else mnC sc t n
def mxC (sc : Nat → Int32) (t : Nat) : Nat → Int32
  | 0 => sc 0
  | n + 1 => if cgF (n + 1) &&& nI t = 0 then (if sc (n + 1) = (-1) then mxC sc t n else (if mxC sc t n < sc (n + 1) then sc (n + 1) else mxC sc t n)) else mxC sc t n
def spC (sc : Nat → Int32) (t : Nat) : Int32 := mxC sc t 728 - mnC sc t 728
def fwC (sc : Nat → Int32) (d : Int32) : Nat → Nat
  | 0 => 63
  | t + 1 => if pc32 (nI (fwC sc d t)) ≤ pc32 (nI t) then fwC sc d t else (if d < spC sc t then fwC sc d t else t)
