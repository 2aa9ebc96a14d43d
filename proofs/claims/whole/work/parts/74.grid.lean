/-! grids: the class stops at the first bicycle that stays, the reference counts on -/
abbrev G3 := Int32 × Int32 × Int32
/-- m bicycles were found, at most B -/
def KG (g : G3) (B : Nat) : Prop := ∃ m, 1 ≤ m ∧ m ≤ B ∧ g.1 = nI m
def GR (w fd : Int32) (g : G3) (B : Nat) : Prop := ∃ m, m ≤ B ∧ g.1 = nI m ∧ (w = 0 → fd = nI m) ∧ (¬ w = 0 → m = 0 ∧ g.2 = (NO, NO))
theorem KG.up {g : G3} {B C : Nat} (h : KG g B) (hB : B ≤ C) : KG g C := by
  obtain ⟨m, h1, h2, h3⟩ := h
  exact ⟨m, h1, by omega, h3⟩
theorem GR.up {w fd : Int32} {g : G3} {B C : Nat} (h : GR w fd g B) (hB : B ≤ C) : GR w fd g C := by
  obtain ⟨m, h1, h2⟩ := h
  exact ⟨m, by omega, h2⟩
theorem gst_keep {f : Nat → Int32} {o1 o2 : Nat} {a b : Int32} {g : G3} {B : Nat} (h : KG g B) (hB : B < 100000) : (gst f o1 o2 a b g).2 = g.2 ∧ KG (gst f o1 o2 a b g) (B + 1) := by
  obtain ⟨m, h1, h2, h3⟩ := h
  unfold gst
  split
  · exact ⟨rfl, m, h1, by omega, h3⟩
  · have hz : ¬ g.1 = 0 := by rw [h3]; exact nI_ne0 (by omega) (by omega)
    rw [if_neg hz, if_neg hz]
    exact ⟨rfl, m + 1, by omega, by omega, by show g.1 + 1 = nI (m + 1); rw [h3, nI_1]⟩
def gIS (f : Nat → Int32) (o1 o2 : Nat) (a : Int32) : Nat → Nat → G3 → G3
  | 0, _, g => g
  | q + 1, u, g => gIS f o1 o2 a q (u + 1) (gst f o1 o2 a (bot (nI o2) + nI u) g)
theorem gIS_eq (f : Nat → Int32) (o1 o2 : Nat) (a : Int32) (g0 : G3) : ∀ q u, gIn f o1 o2 a (u + q) g0 = gIS f o1 o2 a q u (gIn f o1 o2 a u g0)
  | 0, u => rfl
  | q + 1, u => by
    have := gIS_eq f o1 o2 a g0 q (u + 1)
    rw [show u + (q + 1) = u + 1 + q by omega, this]
    rfl
theorem gIS_keep {f : Nat → Int32} {o1 o2 : Nat} {a : Int32} : ∀ (q u : Nat) (g : G3) (B : Nat), KG g B → B + q < 100000 → (gIS f o1 o2 a q u g).2 = g.2 ∧ KG (gIS f o1 o2 a q u g) (B + q)
  | 0, _, g, B, h, _ => ⟨rfl, h⟩
  | q + 1, u, g, B, h, hB => by
    obtain ⟨k1, k2⟩ := gst_keep (f := f) (o1 := o1) (o2 := o2) (a := a) (b := bot (nI o2) + nI u) h (by omega)
    obtain ⟨j1, j2⟩ := gIS_keep (f := f) (o1 := o1) (o2 := o2) (a := a) q (u + 1) _ (B + 1) k2 (by omega)
    exact ⟨j1.trans k1, j2.up (by omega)⟩
/-- how the two stand behind some bicycles -/
def GP (w : Int32) (r : Option Int32 × Int32) (g : G3) (B : Nat) : Prop := (r.1 = none ∧ GR w r.2 g B) ∨ (∃ x, r.1 = some x ∧ ¬ w = 0 ∧ KG g B ∧ x = if w = 1 then g.2.1 else g.2.2)
theorem gI_eq {f : Nat → Int32} {o1 o2 : Nat} {a w : Int32} (ho : o2 < 6) : ∀ (q u : Nat) (fd : Int32) (g : G3) (B : Nat), GR w fd g B → B + q < 100000 → GP w (gIC f o1 o2 a w q u fd) (gIS f o1 o2 a q u g) (B + q)
  | 0, u, fd, g, B, h, _ => Or.inl ⟨rfl, h⟩
  | q + 1, u, fd, g, B, h, hB => by
    have hl := low_bot o2 ho
    have hstep : gIC f o1 o2 a w (q + 1) u fd = if rg (upd (upd f o1 a) o2 (bot (nI o2) + nI u)) 41 = 0 then gIC f o1 o2 a w q (u + 1) fd else if w = 0 then gIC f o1 o2 a w q (u + 1) (fd + 1) else (some (if w = 1 then a else bot (nI o2) + nI u), fd) := by rw [gIC, hl]
    rw [hstep]
    show GP w _ (gIS f o1 o2 a q (u + 1) (gst f o1 o2 a (bot (nI o2) + nI u) g)) (B + (q + 1))
    by_cases h0 : rg (upd (upd f o1 a) o2 (bot (nI o2) + nI u)) 41 = 0
    · have eg : gst f o1 o2 a (bot (nI o2) + nI u) g = g := if_pos h0
      rw [if_pos h0, eg]
      rcases gI_eq (f := f) (o1 := o1) (a := a) ho q (u + 1) fd g B h (by omega) with ⟨e1, e2⟩ | ⟨x, e1, e2, e3, e4⟩
      · exact Or.inl ⟨e1, e2.up (by omega)⟩
      · exact Or.inr ⟨x, e1, e2, e3.up (by omega), e4⟩
    · have eg : gst f o1 o2 a (bot (nI o2) + nI u) g = (g.1 + 1, (if g.1 = 0 then a else g.2.1), (if g.1 = 0 then bot (nI o2) + nI u else g.2.2)) := if_neg h0
      obtain ⟨m, m1, m2, m3, m4⟩ := h
      rw [if_neg h0]
      by_cases hw : w = 0
      · rw [if_pos hw]
        have hr : GR w (fd + 1) (gst f o1 o2 a (bot (nI o2) + nI u) g) (B + 1) := by
          rw [eg]
          exact ⟨m + 1, by omega, by show g.1 + 1 = nI (m + 1); rw [m2, nI_1], fun z => by rw [m3 z, nI_1], fun z => absurd hw z⟩
        rcases gI_eq (f := f) (o1 := o1) (a := a) ho q (u + 1) (fd + 1) _ (B + 1) hr (by omega) with ⟨e1, e2⟩ | ⟨x, e1, e2, e3, e4⟩
        · exact Or.inl ⟨e1, e2.up (by omega)⟩
        · exact Or.inr ⟨x, e1, e2, e3.up (by omega), e4⟩
      · rw [if_neg hw]
        obtain ⟨mz, mg⟩ := m4 hw
        subst mz
        have hz : g.1 = 0 := m2
        rw [if_pos hz, if_pos hz] at eg
        have hk : KG (gst f o1 o2 a (bot (nI o2) + nI u) g) (B + 1) := by
          rw [eg]
          exact ⟨1, by omega, by omega, by show g.1 + 1 = nI 1; rw [hz]; rfl⟩
        obtain ⟨j1, j2⟩ := gIS_keep (f := f) (o1 := o1) (o2 := o2) (a := a) q (u + 1) _ (B + 1) hk (by omega)
        refine Or.inr ⟨_, rfl, hw, j2.up (by omega), ?_⟩
        rw [j1, eg]
def gOS (f : Nat → Int32) (o1 o2 : Nat) : Nat → Nat → G3 → G3
  | 0, _, g => g
  | q + 1, t, g => gOS f o1 o2 q (t + 1) (gIn f o1 o2 (bot (nI o1) + nI t) (lenK o2) g)
theorem gOS_eq (f : Nat → Int32) (o1 o2 : Nat) : ∀ q t, gOut f o1 o2 (t + q) = gOS f o1 o2 q t (gOut f o1 o2 t)
  | 0, t => rfl
  | q + 1, t => by
    have := gOS_eq f o1 o2 q (t + 1)
    rw [show t + (q + 1) = t + 1 + q by omega, this]
    rfl
theorem gIn_S (f : Nat → Int32) (o1 o2 : Nat) (a : Int32) (g : G3) (q : Nat) : gIn f o1 o2 a q g = gIS f o1 o2 a q 0 g := by
  have := gIS_eq f o1 o2 a g q 0
  rw [Nat.zero_add] at this
  exact this
theorem gOS_keep {f : Nat → Int32} {o1 o2 : Nat} : ∀ (q t : Nat) (g : G3) (B : Nat), KG g B → B + 19 * q < 100000 → (gOS f o1 o2 q t g).2 = g.2 ∧ KG (gOS f o1 o2 q t g) (B + 19 * q)
  | 0, _, g, B, h, _ => ⟨rfl, h⟩
  | q + 1, t, g, B, h, hB => by
    have hl := lenK_le o2
    obtain ⟨k1, k2⟩ := gIS_keep (f := f) (o1 := o1) (o2 := o2) (a := bot (nI o1) + nI t) (lenK o2) 0 g B h (by omega)
    rw [← gIn_S] at k1 k2
    obtain ⟨j1, j2⟩ := gOS_keep (f := f) (o1 := o1) (o2 := o2) q (t + 1) _ (B + 19) (k2.up (by omega)) (by omega)
    exact ⟨j1.trans k1, j2.up (by omega)⟩
theorem gO_eq {f : Nat → Int32} {o1 o2 : Nat} {w : Int32} (h1 : o1 < 6) (ho : o2 < 6) : ∀ (q t : Nat) (fd : Int32) (g : G3) (B : Nat), GR w fd g B → B + 19 * q < 100000 → GP w (gOC f o1 o2 w q t fd) (gOS f o1 o2 q t g) (B + 19 * q)
  | 0, t, fd, g, B, h, _ => Or.inl ⟨rfl, h⟩
  | q + 1, t, fd, g, B, h, hB => by
    have hl := lenK_le o2
    have hin := gI_eq (f := f) (o1 := o1) (o2 := o2) (a := bot (nI o1) + nI t) (w := w) ho (lenK o2) 0 fd g B h (by omega)
    rw [← gIn_S] at hin
    have hstep : gOC f o1 o2 w (q + 1) t fd = if (gIC f o1 o2 (bot (nI o1) + nI t) w (lenK o2) 0 fd).1 = none then gOC f o1 o2 w q (t + 1) (gIC f o1 o2 (bot (nI o1) + nI t) w (lenK o2) 0 fd).2 else gIC f o1 o2 (bot (nI o1) + nI t) w (lenK o2) 0 fd := by rw [gOC, low_bot o1 h1]
    rw [hstep]
    show GP w _ (gOS f o1 o2 q (t + 1) (gIn f o1 o2 (bot (nI o1) + nI t) (lenK o2) g)) (B + 19 * (q + 1))
    rcases hin with ⟨e1, e2⟩ | ⟨x, e1, e2, e3, e4⟩
    · rw [if_pos e1]
      rcases gO_eq h1 ho q (t + 1) _ _ (B + 19) (e2.up (by omega)) (by omega) with ⟨d1, d2⟩ | ⟨x, d1, d2, d3, d4⟩
      · exact Or.inl ⟨d1, d2.up (by omega)⟩
      · exact Or.inr ⟨x, d1, d2, d3.up (by omega), d4⟩
    · rw [if_neg (fun z => by rw [e1] at z; cases z)]
      obtain ⟨j1, j2⟩ := gOS_keep (f := f) (o1 := o1) (o2 := o2) q (t + 1) _ (B + 19) (e3.up (by omega)) (by omega)
      exact Or.inr ⟨x, e1, e2, j2.up (by omega), by rw [j1]; exact e4⟩
theorem gr_eq {f : Nat → Int32} {o1 o2 : Nat} {w : Int32} (h1 : o1 < 6) (ho : o2 < 6) : grC f o1 o2 w = grN f o1 o2 w := by
  have hl := lenK_le o1
  have h := gO_eq (f := f) (w := w) h1 ho (lenK o1) 0 0 (0, NO, NO) 0 ⟨0, Nat.le_refl _, rfl, fun _ => rfl, fun _ => ⟨rfl, rfl⟩⟩ (by omega)
  have e := gOS_eq f o1 o2 (lenK o1) 0
  rw [Nat.zero_add] at e
  rw [show gOut f o1 o2 0 = (0, NO, NO) from rfl] at e
  rw [← e] at h
  unfold grC grN
  rcases h with ⟨e1, m, m1, m2, m3, m4⟩ | ⟨x, e1, e2, e3, e4⟩
  · rw [e1]
    show (if w = 0 then (gOC f o1 o2 w (lenK o1) 0 0).2 else NO) = _
    by_cases hw : w = 0
    · rw [if_pos hw, if_pos hw, m3 hw, m2]
    · rw [if_neg hw, if_neg hw, (m4 hw).2]
      split <;> rfl
  · rw [e1]
    show x = _
    rw [if_neg e2, e4]
theorem grid_eq (nb : Nat → Nat → Int32) (i o1 o2 w : Int32) : c_grid nb i o1 o2 w = r_grid nb i o1 o2 w := by
  unfold c_grid r_grid
  by_cases hok : okGrd i o1 o2 w
  · rw [if_pos hok, if_pos hok]
    obtain ⟨a, ha, rfl⟩ := inR_n 5 (by decide) rfl hok.2.1
    obtain ⟨b, hb, rfl⟩ := inR_n 5 (by decide) rfl hok.2.2.1
    rw [cl_n (by omega), cl_n (by omega)]
    exact gr_eq (by omega) (by omega)
  · rw [if_neg hok, if_neg hok]
