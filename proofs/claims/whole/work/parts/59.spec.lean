/-! the least push -/
theorem lies0 {b : Nat} (h : b ≤ 1000) : bI (liesP (0 + nI b)) = 0 := by
  rw [Int32.zero_add]
  refine bI_f (fun z => ?_)
  rcases z with y | y
  · have := Int32.lt_iff_toInt_lt.mp y; rw [nI_toInt (by omega), show (1000 : Int32).toInt = 1000 from rfl] at this; omega
  · exact y (Int32.le_iff_toInt_le.mpr (by rw [nI_toInt (by omega), show (-1000 : Int32).toInt = -1000 from rfl]; omega))
theorem setF_mid (sf : Nat → Int32) (i v r : Int32) {z : Nat} (h1 : 3 ≤ z) (h2 : z < 25) : setF sf i v r z = 0 := by
  unfold setF
  rw [upd_ne _ _ (by omega), upd_ne _ _ (by omega), upd_ne _ _ (by omega), fil_lt h2]
theorem hist_0 (sf : Nat → Int32) (i v r x : Int32) (pl pp pb : Nat → Int32) : histOK (upd (setF sf i v r) 3 x) 0 pl pp pb := fun j h1 h5 =>
  ⟨fun h => by omega, fun _ => ⟨by rw [upd_ne _ _ (by omega)]; exact setF_mid _ _ _ _ (by omega) (by omega), by rw [upd_ne _ _ (by omega)]; exact setF_mid _ _ _ _ (by omega) (by omega), by rw [upd_ne _ _ (by omega)]; exact setF_mid _ _ _ _ (by omega) (by omega)⟩⟩
theorem bI_01 (P : Prop) [Decidable P] : bI P = 0 ∨ bI P = 1 := by
  by_cases h : P
  · exact Or.inr (bI_t h)
  · exact Or.inl (bI_f h)
theorem tks8 (f lw : Nat → Int32) (d : Nat) : ∀ (n : Nat) (sf : Nat → Int32) (c : Nat), (sf 8 = 0 ∨ sf 8 = 1) → ((tks f lw d n sf c).2 8 = 0 ∨ (tks f lw d n sf c).2 8 = 1)
  | 0, _, _, h => h
  | n + 1, sf, c, h => by
    unfold tks
    split
    · exact tks8 f lw d n _ _ (bI_01 _)
    · exact h
