/-! the text of a RIDER: tokens, items, what is read -/
def spF (P : Int32 → Bool) (tx : Nat → Int32) : Nat → Nat → Nat
  | 0, q => q
  | k + 1, q => if P (tx q) = true then spF P tx k (q + 1) else q
/-- the first place from q on, below n, where P fails; or n -/
def sp (P : Int32 → Bool) (tx : Nat → Int32) (n q : Nat) : Nat := spF P tx (n - q) q
theorem sp_t {P : Int32 → Bool} {tx : Nat → Int32} {n q : Nat} (h : q < n) (hp : P (tx q) = true) : sp P tx n q = sp P tx n (q + 1) := by
  unfold sp
  rw [show n - q = (n - (q + 1)) + 1 by omega, spF, if_pos hp]
theorem sp_f {P : Int32 → Bool} {tx : Nat → Int32} {n q : Nat} (hp : ¬ P (tx q) = true) : sp P tx n q = q := by
  unfold sp
  rcases Nat.eq_zero_or_pos (n - q) with h | h
  · rw [h]; rfl
  · rw [show n - q = (n - q - 1) + 1 by omega, spF, if_neg hp]
theorem sp_n {P : Int32 → Bool} {tx : Nat → Int32} {n q : Nat} (h : n ≤ q) : sp P tx n q = q := by
  unfold sp
  rw [show n - q = 0 by omega]; rfl
theorem spF_in {P : Int32 → Bool} {tx : Nat → Int32} : ∀ (k q : Nat), q ≤ spF P tx k q ∧ spF P tx k q ≤ q + k
  | 0, q => ⟨Nat.le_refl _, Nat.le_refl _⟩
  | k + 1, q => by
    unfold spF
    split
    · have := spF_in (P := P) (tx := tx) k (q + 1); omega
    · omega
theorem sp_ge {P : Int32 → Bool} {tx : Nat → Int32} {n q : Nat} : q ≤ sp P tx n q := (spF_in _ _).1
theorem sp_le {P : Int32 → Bool} {tx : Nat → Int32} {n q : Nat} (h : q ≤ n) : sp P tx n q ≤ n := by
  have := (spF_in (P := P) (tx := tx) (n - q) q).2
  unfold sp; omega
theorem spF_all {P : Int32 → Bool} {tx : Nat → Int32} : ∀ (k q z : Nat), q ≤ z → z < spF P tx k q → P (tx z) = true
  | 0, q, z, h1, h2 => by unfold spF at h2; omega
  | k + 1, q, z, h1, h2 => by
    unfold spF at h2
    split at h2
    · rename_i hp
      rcases Nat.eq_or_lt_of_le h1 with e | e
      · subst e; exact hp
      · exact spF_all k (q + 1) z e h2
    · omega
theorem sp_all {P : Int32 → Bool} {tx : Nat → Int32} {n q z : Nat} (h1 : q ≤ z) (h2 : z < sp P tx n q) : P (tx z) = true := spF_all _ _ _ h1 h2
def isS (c : Int32) : Bool := decide (c = 32)
def isL (c : Int32) : Bool := decide (inR c 97 122)
def isD (c : Int32) : Bool := decide (inR c 48 57)
theorem isS_i {c : Int32} : c = 32 ↔ isS c = true := decide_eq_true_iff.symm
theorem isL_i {c : Int32} : inR c 97 122 ↔ isL c = true := decide_eq_true_iff.symm
theorem isD_i {c : Int32} : inR c 48 57 ↔ isD c = true := decide_eq_true_iff.symm
-- words
def alB (tx : Nat → Int32) (b it : Nat) : Nat → Bool
  | 0 => true
  | k + 1 => alB tx b it k && decide (s_WORDS (it * 5 + k) = tx (b + k))
theorem alB_s {tx : Nat → Int32} {b it k : Nat} (h : alB tx b it k = true) (h2 : s_WORDS (it * 5 + k) = tx (b + k)) : alB tx b it (k + 1) = true := by
  show (alB tx b it k && decide (s_WORDS (it * 5 + k) = tx (b + k))) = true
  rw [h, decide_eq_true h2]; rfl
theorem alB_g {tx : Nat → Int32} {b it : Nat} : ∀ {n : Nat}, alB tx b it n = true → ∀ k, k < n → s_WORDS (it * 5 + k) = tx (b + k)
  | n + 1, h, k, hk => by
    have h0 : (alB tx b it n && decide (s_WORDS (it * 5 + n) = tx (b + n))) = true := h
    rw [Bool.and_eq_true, decide_eq_true_iff] at h0
    rcases Nat.lt_or_ge k n with q | q
    · exact alB_g h0.1 k q
    · have e : k = n := by omega
      rw [e]; exact h0.2
def wdB (tx : Nat → Int32) (b e it : Nat) : Bool := decide (e - b < 5) && decide (s_WORDS (it * 5 + (e - b)) = 32) && alB tx b it (e - b)
theorem wd_i {tx : Nat → Int32} {b e it : Nat} : wdB tx b e it = true ↔ (e - b < 5 ∧ s_WORDS (it * 5 + (e - b)) = 32) ∧ alB tx b it (e - b) = true := by
  unfold wdB
  rw [Bool.and_eq_true, Bool.and_eq_true, decide_eq_true_iff, decide_eq_true_iff]
/-- token and value, as j words were looked at -/
def wvF (tx : Nat → Int32) (b e : Nat) (v0 : Int32) : Nat → Int32 × Int32
  | 0 => (5, v0)
  | j + 1 => if wdB tx b e j = true then (1, nI j) else wvF tx b e v0 j
theorem wv_t {tx : Nat → Int32} {b e j : Nat} {v0 : Int32} (h : wdB tx b e j = true) : wvF tx b e v0 (j + 1) = (1, nI j) := if_pos h
theorem wv_f {tx : Nat → Int32} {b e j : Nat} {v0 : Int32} (h : ¬ wdB tx b e j = true) : wvF tx b e v0 (j + 1) = wvF tx b e v0 j := if_neg h
theorem wv_or {tx : Nat → Int32} {b e : Nat} : ∀ (j : Nat) (v0 v1 : Int32), ((wvF tx b e v0 j).1 = 1 ∧ (∃ k, k < j ∧ wvF tx b e v0 j = (1, nI k)) ∧ wvF tx b e v0 j = wvF tx b e v1 j) ∨ (wvF tx b e v0 j = (5, v0) ∧ wvF tx b e v1 j = (5, v1))
  | 0, v0, v1 => Or.inr ⟨rfl, rfl⟩
  | j + 1, v0, v1 => by
    by_cases h : wdB tx b e j = true
    · rw [wv_t h, wv_t h]; exact Or.inl ⟨rfl, ⟨j, Nat.lt_succ_self j, rfl⟩, rfl⟩
    · rw [wv_f h, wv_f h]
      rcases wv_or j v0 v1 with ⟨q, ⟨k, hk, e1⟩, e2⟩ | q
      · exact Or.inl ⟨q, ⟨k, Nat.lt_succ_of_lt hk, e1⟩, e2⟩
      · exact Or.inr q
-- amounts, as the class reckons them
def amC (tx : Nat → Int32) (b : Nat) : Nat → Int32
  | 0 => 0
  | k + 1 => if 1000 < amC tx b k * 10 + tx (b + k) - 48 then 1000 else amC tx b k * 10 + tx (b + k) - 48
def amT (tx : Nat → Int32) (b k : Nat) : Int32 := if (tx b = 48) ∧ (¬ (k ≤ 1)) then 5 else (if amC tx b k ≤ 999 then 3 else 5)
-- the token at place b: what it is, its value, where it ends
def tbK (tx : Nat → Int32) (n b : Nat) : Int32 := if b < n then (if isL (tx b) = true then (wvF tx b (sp isL tx n b) 0 5).1 else if isD (tx b) = true then amT tx b (sp isD tx n b - b) else if tx b = 45 then 2 else if tx b = 59 then 4 else 5) else 0
def tbV (tx : Nat → Int32) (n b : Nat) : Int32 := if isL (tx b) = true then (wvF tx b (sp isL tx n b) 0 5).2 else amC tx b (sp isD tx n b - b)
def tbE (tx : Nat → Int32) (n b : Nat) : Nat := if b < n then (if isL (tx b) = true then sp isL tx n b else if isD (tx b) = true then sp isD tx n b else b + 1) else b
/-- where the next token from p on begins -/
def tkb (tx : Nat → Int32) (n p : Nat) : Nat := sp isS tx n p
def tkK (tx : Nat → Int32) (n p : Nat) : Int32 := tbK tx n (tkb tx n p)
def tkV (tx : Nat → Int32) (n p : Nat) : Int32 := tbV tx n (tkb tx n p)
def tkE (tx : Nat → Int32) (n p : Nat) : Nat := tbE tx n (tkb tx n p)
theorem tkb_le {tx : Nat → Int32} {n p : Nat} (h : p ≤ n) : tkb tx n p ≤ n := sp_le h
theorem tbE_le {tx : Nat → Int32} {n b : Nat} (h : b ≤ n) : tbE tx n b ≤ n := by
  unfold tbE
  split
  · split
    · exact sp_le h
    · split
      · exact sp_le h
      · omega
  · exact h
theorem tkE_le {tx : Nat → Int32} {n p : Nat} (h : p ≤ n) : tkE tx n p ≤ n := tbE_le (tkb_le h)
/-- a word is one of five -/
theorem tbV_w {tx : Nat → Int32} {n b : Nat} (h : tbK tx n b = 1) : isL (tx b) = true ∧ ∃ j, j < 5 ∧ tbV tx n b = nI j := by
  unfold tbK at h
  split at h
  · split at h
    · rename_i hl
      refine ⟨hl, ?_⟩
      rcases wv_or (tx := tx) (b := b) (e := sp isL tx n b) 5 0 0 with ⟨-, ⟨k, hk, e⟩, -⟩ | ⟨e, -⟩
      · exact ⟨k, hk, by unfold tbV; rw [if_pos hl, e]⟩
      · rw [e] at h; exact absurd h (by decide)
    · split at h
      · unfold amT at h
        split at h
        · exact absurd h (by decide)
        · split at h <;> exact absurd h (by decide)
      · split at h
        · exact absurd h (by decide)
        · split at h <;> exact absurd h (by decide)
  · exact absurd h (by decide)
theorem tkV_w {tx : Nat → Int32} {n p : Nat} (h : tkK tx n p = 1) : ∃ j, j < 5 ∧ tkV tx n p = nI j := (tbV_w h).2
-- an item from place p on
def itI (tx : Nat → Int32) (n p : Nat) : Nat := (tkV tx n p).toNatClampNeg
abbrev itL (tx : Nat → Int32) (n p : Nat) : Prop := tkK tx n (tkE tx n p) = 2 ∧ ¬ 0 ≤ s_SMALL (itI tx n p)
def it2 (tx : Nat → Int32) (n p : Nat) : Nat := if itL tx n p then tkE tx n (tkE tx n p) else tkE tx n p
def it3 (tx : Nat → Int32) (n p : Nat) : Nat := tkE tx n (it2 tx n p)
def itA (tx : Nat → Int32) (n p : Nat) : Int32 := if itL tx n p then -tkV tx n (it2 tx n p) else tkV tx n (it2 tx n p)
def itP (tx : Nat → Int32) (n p : Nat) : Nat := tkE tx n (it3 tx n p)
abbrev bitO (j : Nat) : Int32 := 1 <<< (nI j &&& 31)
/-- where its fault is, or none -/
def itF (tx : Nat → Int32) (n p : Nat) (tb : Int32) : Option Nat :=
  if tkK tx n p = 1 ∧ tb &&& bitO (itI tx n p) = 0 then
    (if tkK tx n (it2 tx n p) = 3 ∧ tkV tx n (it2 tx n p) ≤ s_LARGE (itI tx n p) then
      (if tkK tx n (it3 tx n p) = 4 then none else some (tkb tx n (it3 tx n p)))
    else some (tkb tx n (it2 tx n p)))
  else some (tkb tx n p)
theorem itI_of {tx : Nat → Int32} {n p j : Nat} (h : tkV tx n p = nI j) (hj : j < 5) : itI tx n p = j := by
  unfold itI; rw [h]; exact nI_clamp (by omega)
/-- all items from place p on: the fault or none, what is told, the law -/
def rdF (tx : Nat → Int32) (n : Nat) : Nat → Nat → Int32 → (Nat → Int32) → Option Nat × Int32 × (Nat → Int32)
  | 0, _, tb, lw => (some 0, tb, lw)
  | k + 1, p, tb, lw => if tkK tx n p = 0 then (none, tb, lw) else if itF tx n p tb = none then rdF tx n k (itP tx n p) (tb ||| bitO (itI tx n p)) (upd lw (itI tx n p) (itA tx n p)) else (itF tx n p tb, tb, lw)
def fvI : Option Nat → Int32
  | none => -1
  | some f => nI f
theorem it2_le {tx : Nat → Int32} {n p : Nat} (h : p ≤ n) : it2 tx n p ≤ n := by
  unfold it2
  split
  · exact tkE_le (tkE_le h)
  · exact tkE_le h
theorem it3_le {tx : Nat → Int32} {n p : Nat} (h : p ≤ n) : it3 tx n p ≤ n := tkE_le (it2_le h)
theorem itP_le {tx : Nat → Int32} {n p : Nat} (h : p ≤ n) : itP tx n p ≤ n := tkE_le (it3_le h)
theorem itF_le {tx : Nat → Int32} {n p f : Nat} {tb : Int32} (h : p ≤ n) (hf : itF tx n p tb = some f) : f ≤ n := by
  unfold itF at hf
  split at hf
  · split at hf
    · split at hf
      · cases hf
      · cases hf; exact tkb_le (it3_le h)
    · cases hf; exact tkb_le (it2_le h)
  · cases hf; exact tkb_le h
theorem itF_ok {tx : Nat → Int32} {n p : Nat} {tb : Int32} (h : itF tx n p tb = none) : (tkK tx n p = 1 ∧ tb &&& bitO (itI tx n p) = 0) ∧ (tkK tx n (it2 tx n p) = 3 ∧ tkV tx n (it2 tx n p) ≤ s_LARGE (itI tx n p)) ∧ tkK tx n (it3 tx n p) = 4 := by
  unfold itF at h
  split at h
  · rename_i h1
    split at h
    · rename_i h2
      split at h
      · rename_i h3; exact ⟨h1, h2, h3⟩
      · cases h
    · cases h
  · cases h
-- told items, as bits
theorem told_s : ∀ t, t < 32 → ∀ j, j < 5 → nI t &&& bitO j = 0 → ∃ u, u < 32 ∧ nI t ||| bitO j = nI u ∧ pc32 (nI u) = pc32 (nI t) + 1 := by
  have h : ∀ t, t < 32 → ∀ j, j < 5 → nI t &&& bitO j = 0 → (t ||| 2 ^ j) < 32 ∧ nI t ||| bitO j = nI (t ||| 2 ^ j) ∧ pc32 (nI (t ||| 2 ^ j)) = pc32 (nI t) + 1 := by decide +kernel
  exact fun t ht j hj hz => ⟨_, h t ht j hj hz⟩
theorem told_5 : ∀ t, t < 32 → pc32 (nI t) ≤ 5 := by decide +kernel
theorem tb_end {tx : Nat → Int32} {n b : Nat} (h : ¬ b < n) : tbK tx n b = 0 ∧ tbE tx n b = b := ⟨if_neg h, if_neg h⟩
theorem tb_let {tx : Nat → Int32} {n b : Nat} (h : b < n) (hl : isL (tx b) = true) : tbK tx n b = (wvF tx b (sp isL tx n b) 0 5).1 ∧ tbE tx n b = sp isL tx n b ∧ tbV tx n b = (wvF tx b (sp isL tx n b) 0 5).2 := by
  unfold tbK tbE tbV
  rw [if_pos h, if_pos hl, if_pos h, if_pos hl, if_pos hl]
  exact ⟨rfl, rfl, rfl⟩
theorem tb_dig {tx : Nat → Int32} {n b : Nat} (h : b < n) (hl : ¬ isL (tx b) = true) (hd : isD (tx b) = true) : tbK tx n b = amT tx b (sp isD tx n b - b) ∧ tbE tx n b = sp isD tx n b ∧ tbV tx n b = amC tx b (sp isD tx n b - b) := by
  unfold tbK tbE tbV
  rw [if_pos h, if_neg hl, if_pos hd, if_pos h, if_neg hl, if_pos hd, if_neg hl]
  exact ⟨rfl, rfl, rfl⟩
theorem tb_sgn {tx : Nat → Int32} {n b : Nat} (h : b < n) (hl : ¬ isL (tx b) = true) (hd : ¬ isD (tx b) = true) : tbK tx n b = (if tx b = 45 then 2 else if tx b = 59 then 4 else 5) ∧ tbE tx n b = b + 1 := by
  unfold tbK tbE
  rw [if_pos h, if_neg hl, if_neg hd, if_pos h, if_neg hl, if_neg hd]
  exact ⟨rfl, rfl⟩
theorem sgn_13 {c : Int32} (h : (if c = 45 then 2 else if c = 59 then 4 else 5 : Int32) = 1 ∨ (if c = 45 then 2 else if c = 59 then 4 else 5 : Int32) = 3) : False := by
  by_cases h1 : c = 45
  · rw [if_pos h1] at h; revert h; decide
  · rw [if_neg h1] at h
    by_cases h2 : c = 59
    · rw [if_pos h2] at h; revert h; decide
    · rw [if_neg h2] at h; revert h; decide
theorem wv_v {tx : Nat → Int32} {b e : Nat} (v0 : Int32) : (wvF tx b e v0 5).1 = (wvF tx b e 0 5).1 ∧ ((wvF tx b e 0 5).1 = 1 ∨ (wvF tx b e 0 5).1 = 3 → (wvF tx b e v0 5).2 = (wvF tx b e 0 5).2) := by
  rcases wv_or (tx := tx) (b := b) (e := e) 5 v0 0 with ⟨-, -, h⟩ | ⟨h1, h2⟩
  · rw [h]; exact ⟨rfl, fun _ => rfl⟩
  · rw [h1, h2]; exact ⟨rfl, fun z => absurd z (by decide)⟩
theorem v0_of {tx : Nat → Int32} {n p : Nat} {v0 : Int32} (h : tkK tx n p = 1 ∨ tkK tx n p = 3 → v0 = tkV tx n p) (h1 : tkK tx n p = 1) : ∃ it, it < 5 ∧ nI it = tkV tx n p ∧ v0 = nI it := by
  obtain ⟨j, hj, e⟩ := tkV_w h1
  exact ⟨j, hj, e.symm, (h (Or.inl h1)).trans e⟩
theorem rd_end {tx : Nat → Int32} {n k p : Nat} {tb : Int32} {lw : Nat → Int32} (h : tkK tx n p = 0) : rdF tx n (k + 1) p tb lw = (none, tb, lw) := if_pos h
theorem rd_go {tx : Nat → Int32} {n k p : Nat} {tb : Int32} {lw : Nat → Int32} (h : ¬ tkK tx n p = 0) (h2 : itF tx n p tb = none) : rdF tx n (k + 1) p tb lw = rdF tx n k (itP tx n p) (tb ||| bitO (itI tx n p)) (upd lw (itI tx n p) (itA tx n p)) := (if_neg h).trans (if_pos h2)
theorem rd_bad {tx : Nat → Int32} {n k p : Nat} {tb : Int32} {lw : Nat → Int32} (h : ¬ tkK tx n p = 0) (h2 : ¬ itF tx n p tb = none) : rdF tx n (k + 1) p tb lw = (itF tx n p tb, tb, lw) := (if_neg h).trans (if_neg h2)
theorem it_some {tx : Nat → Int32} {n p : Nat} {tb : Int32} (h : ¬ itF tx n p tb = none) : ∃ f, itF tx n p tb = some f := by
  cases hf : itF tx n p tb with
  | none => exact absurd hf h
  | some f => exact ⟨f, rfl⟩
/-- j items are told -/
def toldN (tb : Int32) (j : Nat) : Prop := ∃ t, t < 32 ∧ tb = nI t ∧ pc32 tb = nI j
theorem toldN_0 : toldN 0 0 := ⟨0, by decide, rfl, by decide +kernel⟩
theorem toldN_s {tx : Nat → Int32} {n p j : Nat} {tb : Int32} (h : toldN tb j) (hj : j ≤ 5) (h2 : itF tx n p tb = none) : toldN (tb ||| bitO (itI tx n p)) (j + 1) ∧ j + 1 ≤ 5 := by
  obtain ⟨t, ht, rfl, hc⟩ := h
  obtain ⟨⟨h1, hz⟩, -, -⟩ := itF_ok h2
  obtain ⟨i, hi, e⟩ := tkV_w h1
  have eI := itI_of e hi
  rw [eI] at hz ⊢
  obtain ⟨u, hu, e1, e2⟩ := told_s t ht i hi hz
  have h5 := told_5 u hu
  rw [e2, hc, nI_1] at h5
  have h6 : j + 1 ≤ 5 := (nI_leI (b := 5) (by omega) (by decide)).mp h5
  exact ⟨⟨u, hu, e1, by rw [e1, e2, hc, nI_1]⟩, h6⟩
theorem min_200 {n : Nat} (h : n ≤ 200) : (if (200 : Int32) < nI n then 200 else nI n) = nI n := if_neg (nI_nlt (a := 200) h (by decide))
theorem fv_ge {f : Option Nat} (h : ¬ f = none) (hb : ∀ z, f = some z → z ≤ 200) : ¬ fvI f < 0 := by
  cases f with
  | none => exact absurd rfl h
  | some z => exact nI_pos (by have := hb z rfl; omega)
theorem rd_le {tx : Nat → Int32} {n : Nat} : ∀ (k p : Nat) (tb : Int32) (lw : Nat → Int32), p ≤ n → ∀ z, (rdF tx n k p tb lw).1 = some z → z ≤ n
  | 0, p, tb, lw, hp, z, h => by have e : (0 : Nat) = z := Option.some.inj h; omega
  | k + 1, p, tb, lw, hp, z, h => by
    by_cases h0 : tkK tx n p = 0
    · rw [rd_end h0] at h; cases h
    · by_cases h1 : itF tx n p tb = none
      · rw [rd_go h0 h1] at h; exact rd_le k _ _ _ (itP_le hp) z h
      · rw [rd_bad h0 h1] at h; exact itF_le hp h
-- what rider answers, and what follows
abbrev rdA (tx : Nat → Int32) (n : Nat) : Option Nat × Int32 × (Nat → Int32) := rdF tx n 6 0 0 s_UNTOLD
def r_rider (tx : Nat → Int32) (n : Nat) : Int32 := if (rdA tx n).1 = none then pc32 (rdA tx n).2.1 else -10 - fvI (rdA tx n).1
def n_told (tx : Nat → Int32) (n : Nat) (tb : Int32) : Int32 := if (rdA tx n).1 = none then (rdA tx n).2.1 else tb
def n_law (tx : Nat → Int32) (n : Nat) (lw : Nat → Int32) : Nat → Int32 := if (rdA tx n).1 = none then (rdA tx n).2.2 else lw
def n_tl (tx : Nat → Int32) (n : Nat) : Nat := if (rdA tx n).1 = none then 0 else n
-- a byte of a long, as the class cuts it out
theorem by_bits (X : BitVec 64) {s : Nat} (hs : s ≤ 56) : (X >>> s).signExtend 32 &&& 255#32 = (X.sshiftRight s &&& 255#64).signExtend 32 := by
  refine BitVec.eq_of_getLsbD_eq (fun i hi => ?_)
  rw [BitVec.getLsbD_and, BitVec.getLsbD_signExtend, BitVec.getLsbD_signExtend, BitVec.getLsbD_and, BitVec.getLsbD_ushiftRight, BitVec.getLsbD_sshiftRight, BitVec.getLsbD_ofNat, BitVec.getLsbD_ofNat]
  have h64 : i < 64 := by omega
  by_cases h8 : i < 8
  · simp [hi, h64, show s + i < 64 by omega, show ¬ 64 ≤ i by omega]
  · have ht : Nat.testBit 255 i = false := Nat.testBit_lt_two_pow (Nat.lt_of_lt_of_le (by decide : 255 < 2 ^ 8) (Nat.pow_le_pow_right (by decide) (by omega)))
    simp [ht, hi, h64, show ¬ 64 ≤ i by omega]
theorem by_e1 : ∀ k, k < 8 → (((nI (8 * k)).toInt64.toUInt64 &&& Int64.toUInt64 63).toBitVec % 64).toNat = 8 * k := by decide +kernel
theorem by_e2 : ∀ k, k < 8 → (((nI (8 * k)).toInt64 &&& 63).toBitVec.smod 64).toNat = 8 * k := by decide +kernel
theorem byV_c (v : Int64) {k : Nat} (hk : k ≤ 7) : (v.toUInt64 >>> ((nI (8 * k)).toInt64.toUInt64 &&& Int64.toUInt64 63)).toInt64.toInt32 &&& 255 = byV v k := by
  apply Int32.toBitVec_inj.mp
  show (v.toBitVec >>> (((nI (8 * k)).toInt64.toUInt64 &&& Int64.toUInt64 63).toBitVec % 64).toNat).signExtend 32 &&& 255#32 = (v.toBitVec.sshiftRight (((nI (8 * k)).toInt64 &&& 63).toBitVec.smod 64).toNat &&& 255#64).signExtend 32
  rw [by_e1 k (by omega), by_e2 k (by omega)]
  exact by_bits _ (by omega)
theorem fv_none {f : Option Nat} (h : fvI f < 0) (hb : ∀ z, f = some z → z ≤ 200) : f = none := by
  by_cases hn : f = none
  · exact hn
  · exact absurd h (fv_ge hn hb)
theorem fv_some {f : Option Nat} (h : ¬ fvI f < 0) : ¬ f = none := fun e => by subst e; exact h (by decide)
