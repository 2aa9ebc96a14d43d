/-! tests of ranges -/
abbrev inR (v lo hi : Int32) : Prop := ¬ v < lo ∧ ¬ hi < v
theorem inR_n {v hi : Int32} (n : Nat) (hn : n < 1000000) (hhi : hi = nI n) (h : inR v 0 hi) : ∃ j : Nat, j ≤ n ∧ v = nI j := by
  obtain ⟨j, h1, h2⟩ := nI_of2 (M := nI n) (n := n) (nI_toInt (by omega)) h.1 (by rw [← hhi]; exact Int32.not_lt.mp h.2)
  exact ⟨j, h1, h2⟩
theorem inR_of {n j : Nat} {hi : Int32} (hn : n < 1000000) (hhi : hi = nI n) (h : j ≤ n) : inR (nI j) 0 hi := ⟨nI_pos (by omega), by rw [hhi]; exact nI_nlt h (by omega)⟩
def bot (k : Int32) : Int32 := if 3 ≤ k then (if 5 ≤ k then 0 else 1) else -9
abbrev rmkX9_in : Room := { frames := 0, cells := 0, slots := 0, locals := 0 }
set_option maxHeartbeats 4000000 in
set_option maxRecDepth 100000 in
theorem kX9_in {l : Launch} {D : va_G} {cy : Nat → ClassId} {sa : Nat → Nat} (v : Int32) (lo : Int32) (hi : Int32)  : CD l D cy sa yX9_in wsX9_in rmkX9_in [.int v, .int lo, .int hi] [] (some (.int (bI (inR v lo hi)))) [] := by
  refine CT.of cX9_in 3 (some .boolean) (by decide) rfl (Nat.le_of_ble_eq_true rfl) ?_
  intro p e s m args below meth c A Q ls F hmn hK hE hA hP hD hS hl RT
  obtain ⟨hx, hb, hml, hown, hts⟩ := id F
  have hl : lv_has ls 3 [(0, .int v), (1, .int lo), (2, .int hi)] := hl
  have hP : va_P D vwCl [] s.heap := hP
  have hD : va_D A [] := hD
  obtain ⟨H, hH⟩ : ∃ H0 : Heap, H0 = s.heap := ⟨_, rfl⟩
  obtain ⟨locs, hlo⟩ : ∃ L0 : List Loc, L0 = [] := ⟨_, rfl⟩
  have hS : va_S A s.heap H locs := by rw [hH, hlo]; exact hS
  rw [← hH] at hP
  show W p l e rmkX9_in s m args below meth c s.heap [] 0 0 Q (F0 m 0 ls [])
  suffices hgo : W p l e rmkX9_in s m args below meth c H locs 0 0 Q (F0 m 0 ls []) by rw [hH, hlo] at hgo; exact hgo
  clear hH hlo
  refine lv_iload_n hx hb dX9_in_0 rfl (lv_at hl 0 rfl) ?_
  refine lv_iload_n hx hb dX9_in_1 rfl (lv_at hl 1 rfl) ?_
  have J_2_12 : ∀ (H : Heap) (locs : List Loc), va_P D vwCl [] H → va_D A [] → va_S A s.heap H locs → ∀ (ls : Array Slot), lv_has ls 3 [(0, .int v), (1, .int lo), (2, .int hi)] → W p l e rmkX9_in s m args below meth c H locs 0 0 Q (F0 m 15 ls [.int (bI (¬ (v < lo) ∧ (¬ (hi < v))))]) := by
    intro H locs hP hD hS ls hl
    refine lv_eqi (y := bI (inR v lo hi)) (rfl) ?_
    exact RT _ _ () H locs 15 ls (rt_z (bI_nar _) dX9_in_15) rfl hP hD hS
  refine lv_icmp_lt (tgt := 14) hx hb dX9_in_2 (by decide) (fun c_2 => ?_) (fun c_2 => ?_)
  · refine lv_iconst (v := 0) hx hb dX9_in_14 (by decide) ?_
    refine lv_eqi (y := bI (¬ (v < lo) ∧ (¬ (hi < v)))) (bI_congr (pe_t c_2)) ?_
    exact J_2_12 H locs hP hD hS ls (lv_sub hl [0, 1, 2] rfl)
  · refine lv_iload_n hx hb dX9_in_5 rfl (lv_at hl 0 rfl) ?_
    refine lv_iload_n hx hb dX9_in_6 rfl (lv_at hl 2 rfl) ?_
    refine lv_icmp_gt (tgt := 14) hx hb dX9_in_7 (by decide) (fun c_7 => ?_) (fun c_7 => ?_)
    · refine lv_iconst (v := 0) hx hb dX9_in_14 (by decide) ?_
      refine lv_eqi (y := bI (¬ (v < lo) ∧ (¬ (hi < v)))) (bI_congr (pe_f c_2 (pn_t c_7))) ?_
      exact J_2_12 H locs hP hD hS ls (lv_sub hl [0, 1, 2] rfl)
    · refine lv_iconst (v := 1) hx hb dX9_in_10 (by decide) ?_
      refine lv_goto (tgt := 15) hx hb dX9_in_11 (by decide) ?_
      refine lv_eqi (y := bI (¬ (v < lo) ∧ (¬ (hi < v)))) (bI_congr (pe_f c_2 (pn_f c_7))) ?_
      exact J_2_12 H locs hP hD hS ls (lv_sub hl [0, 1, 2] rfl)
abbrev rmkX9_isBicycle : Room := { frames := 1, cells := 0, slots := 0, locals := 22 }
set_option maxHeartbeats 4000000 in
set_option maxRecDepth 100000 in
theorem kX9_isBicycle {l : Launch} {D : va_G} {cy : Nat → ClassId} {sa : Nat → Nat} (v : Int32)  : CD l D cy sa yX9_isBicycle wsX9_isBicycle rmkX9_isBicycle [.int v] [] (some (.int (bI (inR v 0 3)))) [] := by
  refine CT.of cX9_isBicycle 1 (some .boolean) (by decide) rfl (Nat.le_of_ble_eq_true rfl) ?_
  intro p e s m args below meth c A Q ls F hmn hK hE hA hP hD hS hl RT
  obtain ⟨hx, hb, hml, hown, hts⟩ := id F
  have hl : lv_has ls 1 [(0, .int v)] := hl
  have hP : va_P D vwCl [] s.heap := hP
  have hD : va_D A [] := hD
  obtain ⟨H, hH⟩ : ∃ H0 : Heap, H0 = s.heap := ⟨_, rfl⟩
  obtain ⟨locs, hlo⟩ : ∃ L0 : List Loc, L0 = [] := ⟨_, rfl⟩
  have hS : va_S A s.heap H locs := by rw [hH, hlo]; exact hS
  rw [← hH] at hP
  show W p l e rmkX9_isBicycle s m args below meth c s.heap [] 0 0 Q (F0 m 0 ls [])
  suffices hgo : W p l e rmkX9_isBicycle s m args below meth c H locs 0 0 Q (F0 m 0 ls []) by rw [hH, hlo] at hgo; exact hgo
  clear hH hlo
  refine lv_iload_n hx hb dX9_isBicycle_0 rfl (lv_at hl 0 rfl) ?_
  refine lv_iconst (v := 0) hx hb dX9_isBicycle_1 (by decide) ?_
  refine lv_iconst (v := 3) hx hb dX9_isBicycle_2 (by decide) ?_
  refine ca_S (n := 3) (rest := []) (wr := []) F hK hE hA hP hD hS hl.1 (kX9_in (l := l) (D := D) (cy := cy) (sa := sa) v 0 3) gX9_isBicycle_X9_in rfl rfl rfl (by decide +kernel) ⟨by decide, by decide⟩ [] [] rfl rfl rfl rfl (by decide) rfl rfl (Nat.le_of_ble_eq_true rfl) dX9_isBicycle_3 ⟨by decide, by decide⟩ (fun v u H locs hv hP hD hS => ?_)
  subst hv
  have hP : va_P D vwCl [] H := hP
  have hD : va_D A [] := hD
  refine W.eq (g2 := F0 m 6 ls [.int (bI (inR v 0 3))]) rfl ?_
  exact RT _ _ () H locs 6 ls (rt_z (bI_nar _) dX9_isBicycle_6) rfl hP hD hS
abbrev rmkX9_isNumber : Room := { frames := 1, cells := 0, slots := 0, locals := 22 }
set_option maxHeartbeats 4000000 in
set_option maxRecDepth 100000 in
theorem kX9_isNumber {l : Launch} {D : va_G} {cy : Nat → ClassId} {sa : Nat → Nat} (v : Int32)  : CD l D cy sa yX9_isNumber wsX9_isNumber rmkX9_isNumber [.int v] [] (some (.int (bI (inR v 0 5)))) [] := by
  refine CT.of cX9_isNumber 1 (some .boolean) (by decide) rfl (Nat.le_of_ble_eq_true rfl) ?_
  intro p e s m args below meth c A Q ls F hmn hK hE hA hP hD hS hl RT
  obtain ⟨hx, hb, hml, hown, hts⟩ := id F
  have hl : lv_has ls 1 [(0, .int v)] := hl
  have hP : va_P D vwCl [] s.heap := hP
  have hD : va_D A [] := hD
  obtain ⟨H, hH⟩ : ∃ H0 : Heap, H0 = s.heap := ⟨_, rfl⟩
  obtain ⟨locs, hlo⟩ : ∃ L0 : List Loc, L0 = [] := ⟨_, rfl⟩
  have hS : va_S A s.heap H locs := by rw [hH, hlo]; exact hS
  rw [← hH] at hP
  show W p l e rmkX9_isNumber s m args below meth c s.heap [] 0 0 Q (F0 m 0 ls [])
  suffices hgo : W p l e rmkX9_isNumber s m args below meth c H locs 0 0 Q (F0 m 0 ls []) by rw [hH, hlo] at hgo; exact hgo
  clear hH hlo
  refine lv_iload_n hx hb dX9_isNumber_0 rfl (lv_at hl 0 rfl) ?_
  refine lv_iconst (v := 0) hx hb dX9_isNumber_1 (by decide) ?_
  refine lv_iconst (v := 5) hx hb dX9_isNumber_2 (by decide) ?_
  refine ca_S (n := 3) (rest := []) (wr := []) F hK hE hA hP hD hS hl.1 (kX9_in (l := l) (D := D) (cy := cy) (sa := sa) v 0 5) gX9_isNumber_X9_in rfl rfl rfl (by decide +kernel) ⟨by decide, by decide⟩ [] [] rfl rfl rfl rfl (by decide) rfl rfl (Nat.le_of_ble_eq_true rfl) dX9_isNumber_3 ⟨by decide, by decide⟩ (fun v u H locs hv hP hD hS => ?_)
  subst hv
  have hP : va_P D vwCl [] H := hP
  have hD : va_D A [] := hD
  refine W.eq (g2 := F0 m 6 ls [.int (bI (inR v 0 5))]) rfl ?_
  exact RT _ _ () H locs 6 ls (rt_z (bI_nar _) dX9_isNumber_6) rfl hP hD hS
abbrev rmkX9_bottom : Room := { frames := 0, cells := 0, slots := 0, locals := 0 }
set_option maxHeartbeats 4000000 in
set_option maxRecDepth 100000 in
theorem kX9_bottom {l : Launch} {D : va_G} {cy : Nat → ClassId} {sa : Nat → Nat} (k : Int32)  : CD l D cy sa yX9_bottom wsX9_bottom rmkX9_bottom [.int k] [] (some (.int (bot k))) [] := by
  refine CT.of cX9_bottom 1 (some .int) (by decide) rfl (Nat.le_of_ble_eq_true rfl) ?_
  intro p e s m args below meth c A Q ls F hmn hK hE hA hP hD hS hl RT
  obtain ⟨hx, hb, hml, hown, hts⟩ := id F
  have hl : lv_has ls 1 [(0, .int k)] := hl
  have hP : va_P D vwCl [] s.heap := hP
  have hD : va_D A [] := hD
  obtain ⟨H, hH⟩ : ∃ H0 : Heap, H0 = s.heap := ⟨_, rfl⟩
  obtain ⟨locs, hlo⟩ : ∃ L0 : List Loc, L0 = [] := ⟨_, rfl⟩
  have hS : va_S A s.heap H locs := by rw [hH, hlo]; exact hS
  rw [← hH] at hP
  show W p l e rmkX9_bottom s m args below meth c s.heap [] 0 0 Q (F0 m 0 ls [])
  suffices hgo : W p l e rmkX9_bottom s m args below meth c H locs 0 0 Q (F0 m 0 ls []) by rw [hH, hlo] at hgo; exact hgo
  clear hH hlo
  refine lv_iload_n hx hb dX9_bottom_0 rfl (lv_at hl 0 rfl) ?_
  refine lv_iconst (v := 3) hx hb dX9_bottom_1 (by decide) ?_
  have J_2_12 : ∀ (z2 : Int32), z2 = (if 3 ≤ k then (if 5 ≤ k then 0 else 1) else (-9)) → ∀ (H : Heap) (locs : List Loc), va_P D vwCl [] H → va_D A [] → va_S A s.heap H locs → ∀ (ls : Array Slot), lv_has ls 1 [(0, .int k)] → W p l e rmkX9_bottom s m args below meth c H locs 0 0 Q (F0 m 20 ls [.int z2]) := by
    intro z2 ez2 H locs hP hD hS ls hl
    refine lv_eqi (y := bot k) (ez2) ?_
    exact RT _ _ () H locs 20 ls (rt_i dX9_bottom_20) rfl hP hD hS
  refine lv_icmp_ge (tgt := 10) hx hb dX9_bottom_2 (by decide) (fun c_2 => ?_) (fun c_2 => ?_)
  · refine lv_iload_n hx hb dX9_bottom_10 rfl (lv_at hl 0 rfl) ?_
    refine lv_iconst (v := 5) hx hb dX9_bottom_11 (by decide) ?_
    refine lv_icmp_ge (tgt := 19) hx hb dX9_bottom_12 (by decide) (fun c_12 => ?_) (fun c_12 => ?_)
    · refine lv_iconst (v := 0) hx hb dX9_bottom_19 (by decide) ?_
      exact J_2_12 _ (((if_pos c_2).trans (if_pos c_12)).symm) H locs hP hD hS ls (lv_sub hl [0] rfl)
    · refine lv_iconst (v := 1) hx hb dX9_bottom_15 (by decide) ?_
      refine lv_goto (tgt := 20) hx hb dX9_bottom_16 (by decide) ?_
      exact J_2_12 _ (((if_pos c_2).trans (if_neg c_12)).symm) H locs hP hD hS ls (lv_sub hl [0] rfl)
  · refine lv_bipush (v := (-9)) hx hb dX9_bottom_5 (by decide) ?_
    refine lv_goto (tgt := 20) hx hb dX9_bottom_7 (by decide) ?_
    exact J_2_12 _ ((if_neg c_2).symm) H locs hP hD hS ls (lv_sub hl [0] rfl)
abbrev rmkX9_mayBe : Room := { frames := 1, cells := 0, slots := 0, locals := 22 }
set_option maxHeartbeats 4000000 in
set_option maxRecDepth 100000 in
theorem kX9_mayBe {l : Launch} {D : va_G} {cy : Nat → ClassId} {sa : Nat → Nat} (k : Int32) (v : Int32)  : CD l D cy sa yX9_mayBe wsX9_mayBe rmkX9_mayBe [.int k, .int v] [] (some (.int (bI (inR v (bot k) 9)))) [] := by
  refine CT.of cX9_mayBe 2 (some .boolean) (by decide) rfl (Nat.le_of_ble_eq_true rfl) ?_
  intro p e s m args below meth c A Q ls F hmn hK hE hA hP hD hS hl RT
  obtain ⟨hx, hb, hml, hown, hts⟩ := id F
  have hl : lv_has ls 2 [(0, .int k), (1, .int v)] := hl
  have hP : va_P D vwCl [] s.heap := hP
  have hD : va_D A [] := hD
  obtain ⟨H, hH⟩ : ∃ H0 : Heap, H0 = s.heap := ⟨_, rfl⟩
  obtain ⟨locs, hlo⟩ : ∃ L0 : List Loc, L0 = [] := ⟨_, rfl⟩
  have hS : va_S A s.heap H locs := by rw [hH, hlo]; exact hS
  rw [← hH] at hP
  show W p l e rmkX9_mayBe s m args below meth c s.heap [] 0 0 Q (F0 m 0 ls [])
  suffices hgo : W p l e rmkX9_mayBe s m args below meth c H locs 0 0 Q (F0 m 0 ls []) by rw [hH, hlo] at hgo; exact hgo
  clear hH hlo
  refine lv_iload_n hx hb dX9_mayBe_0 rfl (lv_at hl 1 rfl) ?_
  refine lv_iload_n hx hb dX9_mayBe_1 rfl (lv_at hl 0 rfl) ?_
  refine ca_S (n := 1) (rest := [.int v]) (wr := []) F hK hE hA hP hD hS hl.1 (kX9_bottom (l := l) (D := D) (cy := cy) (sa := sa) k) gX9_mayBe_X9_bottom rfl rfl rfl (by decide +kernel) ⟨by decide, by decide⟩ [] [] rfl rfl rfl rfl (by decide) rfl rfl (Nat.le_of_ble_eq_true rfl) dX9_mayBe_2 ⟨by decide, by decide⟩ (fun v u H locs hv hP hD hS => ?_)
  subst hv
  have hP : va_P D vwCl [] H := hP
  have hD : va_D A [] := hD
  refine W.eq (g2 := F0 m 5 ls [.int (bot k), .int v]) rfl ?_
  refine lv_bipush (v := 9) hx hb dX9_mayBe_5 (by decide) ?_
  refine ca_S (n := 3) (rest := []) (wr := []) F hK hE hA hP hD hS hl.1 (kX9_in (l := l) (D := D) (cy := cy) (sa := sa) v (bot k) 9) gX9_mayBe_X9_in rfl rfl rfl (by decide +kernel) ⟨by decide, by decide⟩ [] [] rfl rfl rfl rfl (by decide) rfl rfl (Nat.le_of_ble_eq_true rfl) dX9_mayBe_7 ⟨by decide, by decide⟩ (fun v u H locs hv hP hD hS => ?_)
  subst hv
  have hP : va_P D vwCl [] H := hP
  have hD : va_D A [] := hD
  refine W.eq (g2 := F0 m 10 ls [.int (bI (inR v (bot k) 9))]) rfl ?_
  exact RT _ _ () H locs 10 ls (rt_z (bI_nar _) dX9_mayBe_10) rfl hP hD hS
abbrev rmkX9_isAsked : Room := { frames := 2, cells := 0, slots := 0, locals := 42 }
set_option maxHeartbeats 4000000 in
set_option maxRecDepth 100000 in
theorem kX9_isAsked {l : Launch} {D : va_G} {cy : Nat → ClassId} {sa : Nat → Nat} (i : Int32) (v : Int32) (k : Int32) (w : Int32)  : CD l D cy sa yX9_isAsked wsX9_isAsked rmkX9_isAsked [.int i, .int v, .int k, .int w] [] (some (.int (bI ((inR i 0 3) ∧ ((inR v 0 40) ∧ ((inR k (-99) 99) ∧ (inR w (-99) 99))))))) [] := by
  refine CT.of cX9_isAsked 4 (some .boolean) (by decide) rfl (Nat.le_of_ble_eq_true rfl) ?_
  intro p e s m args below meth c A Q ls F hmn hK hE hA hP hD hS hl RT
  obtain ⟨hx, hb, hml, hown, hts⟩ := id F
  have hl : lv_has ls 4 [(0, .int i), (1, .int v), (2, .int k), (3, .int w)] := hl
  have hP : va_P D vwCl [] s.heap := hP
  have hD : va_D A [] := hD
  obtain ⟨H, hH⟩ : ∃ H0 : Heap, H0 = s.heap := ⟨_, rfl⟩
  obtain ⟨locs, hlo⟩ : ∃ L0 : List Loc, L0 = [] := ⟨_, rfl⟩
  have hS : va_S A s.heap H locs := by rw [hH, hlo]; exact hS
  rw [← hH] at hP
  show W p l e rmkX9_isAsked s m args below meth c s.heap [] 0 0 Q (F0 m 0 ls [])
  suffices hgo : W p l e rmkX9_isAsked s m args below meth c H locs 0 0 Q (F0 m 0 ls []) by rw [hH, hlo] at hgo; exact hgo
  clear hH hlo
  refine lv_iload_n hx hb dX9_isAsked_0 rfl (lv_at hl 0 rfl) ?_
  refine ca_S (n := 1) (rest := []) (wr := []) F hK hE hA hP hD hS hl.1 (kX9_isBicycle (l := l) (D := D) (cy := cy) (sa := sa) i) gX9_isAsked_X9_isBicycle rfl rfl rfl (by decide +kernel) ⟨by decide, by decide⟩ [] [] rfl rfl rfl rfl (by decide) rfl rfl (Nat.le_of_ble_eq_true rfl) dX9_isAsked_1 ⟨by decide, by decide⟩ (fun v u H locs hv hP hD hS => ?_)
  subst hv
  have hP : va_P D vwCl [] H := hP
  have hD : va_D A [] := hD
  refine W.eq (g2 := F0 m 4 ls [.int (bI (inR i 0 3))]) rfl ?_
  have J_4_16 : ∀ (H : Heap) (locs : List Loc), va_P D vwCl [] H → va_D A [] → va_S A s.heap H locs → ∀ (ls : Array Slot), lv_has ls 4 [(0, .int i), (1, .int v), (2, .int k), (3, .int w)] → W p l e rmkX9_isAsked s m args below meth c H locs 0 0 Q (F0 m 44 ls [.int (bI ((inR i 0 3) ∧ ((inR v 0 40) ∧ ((inR k (-99) 99) ∧ (inR w (-99) 99)))))]) := by
    intro H locs hP hD hS ls hl
    exact RT _ _ () H locs 44 ls (rt_z (bI_nar _) dX9_isAsked_44) rfl hP hD hS
  refine bz_eq (tgt := 43) hx hb dX9_isAsked_4 (by decide) (fun c_4 => ?_) (fun c_4 => ?_)
  · refine lv_iconst (v := 0) hx hb dX9_isAsked_43 (by decide) ?_
    refine lv_eqi (y := bI ((inR i 0 3) ∧ ((inR v 0 40) ∧ ((inR k (-99) 99) ∧ (inR w (-99) 99))))) (bI_congr (pd_f c_4)) ?_
    exact J_4_16 H locs hP hD hS ls (lv_sub hl [0, 1, 2, 3] rfl)
  · refine lv_iload_n hx hb dX9_isAsked_7 rfl (lv_at hl 1 rfl) ?_
    refine lv_iconst (v := 0) hx hb dX9_isAsked_8 (by decide) ?_
    refine lv_bipush (v := 40) hx hb dX9_isAsked_9 (by decide) ?_
    refine ca_S (n := 3) (rest := []) (wr := []) F hK hE hA hP hD hS hl.1 (kX9_in (l := l) (D := D) (cy := cy) (sa := sa) v 0 40) gX9_isAsked_X9_in rfl rfl rfl (by decide +kernel) ⟨by decide, by decide⟩ [] [] rfl rfl rfl rfl (by decide) rfl rfl (Nat.le_of_ble_eq_true rfl) dX9_isAsked_11 ⟨by decide, by decide⟩ (fun v u H locs hv hP hD hS => ?_)
    subst hv
    have hP : va_P D vwCl [] H := hP
    have hD : va_D A [] := hD
    refine W.eq (g2 := F0 m 14 ls [.int (bI (inR v 0 40))]) rfl ?_
    refine bz_eq (tgt := 43) hx hb dX9_isAsked_14 (by decide) (fun c_14 => ?_) (fun c_14 => ?_)
    · refine lv_iconst (v := 0) hx hb dX9_isAsked_43 (by decide) ?_
      refine lv_eqi (y := bI ((inR i 0 3) ∧ ((inR v 0 40) ∧ ((inR k (-99) 99) ∧ (inR w (-99) 99))))) (bI_congr (pd_t c_4 (pd_f c_14))) ?_
      exact J_4_16 H locs hP hD hS ls (lv_sub hl [0, 1, 2, 3] rfl)
    · refine lv_iload_n hx hb dX9_isAsked_17 rfl (lv_at hl 2 rfl) ?_
      refine lv_bipush (v := (-99)) hx hb dX9_isAsked_18 (by decide) ?_
      refine lv_bipush (v := 99) hx hb dX9_isAsked_20 (by decide) ?_
      refine ca_S (n := 3) (rest := []) (wr := []) F hK hE hA hP hD hS hl.1 (kX9_in (l := l) (D := D) (cy := cy) (sa := sa) k (-99) 99) gX9_isAsked_X9_in rfl rfl rfl (by decide +kernel) ⟨by decide, by decide⟩ [] [] rfl rfl rfl rfl (by decide) rfl rfl (Nat.le_of_ble_eq_true rfl) dX9_isAsked_22 ⟨by decide, by decide⟩ (fun v u H locs hv hP hD hS => ?_)
      subst hv
      have hP : va_P D vwCl [] H := hP
      have hD : va_D A [] := hD
      refine W.eq (g2 := F0 m 25 ls [.int (bI (inR k (-99) 99))]) rfl ?_
      refine bz_eq (tgt := 43) hx hb dX9_isAsked_25 (by decide) (fun c_25 => ?_) (fun c_25 => ?_)
      · refine lv_iconst (v := 0) hx hb dX9_isAsked_43 (by decide) ?_
        refine lv_eqi (y := bI ((inR i 0 3) ∧ ((inR v 0 40) ∧ ((inR k (-99) 99) ∧ (inR w (-99) 99))))) (bI_congr (pd_t c_4 (pd_t c_14 (pd_f c_25)))) ?_
        exact J_4_16 H locs hP hD hS ls (lv_sub hl [0, 1, 2, 3] rfl)
      · refine lv_iload_n hx hb dX9_isAsked_28 rfl (lv_at hl 3 rfl) ?_
        refine lv_bipush (v := (-99)) hx hb dX9_isAsked_29 (by decide) ?_
        refine lv_bipush (v := 99) hx hb dX9_isAsked_31 (by decide) ?_
        refine ca_S (n := 3) (rest := []) (wr := []) F hK hE hA hP hD hS hl.1 (kX9_in (l := l) (D := D) (cy := cy) (sa := sa) w (-99) 99) gX9_isAsked_X9_in rfl rfl rfl (by decide +kernel) ⟨by decide, by decide⟩ [] [] rfl rfl rfl rfl (by decide) rfl rfl (Nat.le_of_ble_eq_true rfl) dX9_isAsked_33 ⟨by decide, by decide⟩ (fun v u H locs hv hP hD hS => ?_)
        subst hv
        have hP : va_P D vwCl [] H := hP
        have hD : va_D A [] := hD
        refine W.eq (g2 := F0 m 36 ls [.int (bI (inR w (-99) 99))]) rfl ?_
        refine bz_eq (tgt := 43) hx hb dX9_isAsked_36 (by decide) (fun c_36 => ?_) (fun c_36 => ?_)
        · refine lv_iconst (v := 0) hx hb dX9_isAsked_43 (by decide) ?_
          refine lv_eqi (y := bI ((inR i 0 3) ∧ ((inR v 0 40) ∧ ((inR k (-99) 99) ∧ (inR w (-99) 99))))) (bI_congr (pd_t c_4 (pd_t c_14 (pd_t c_25 (pa_f c_36))))) ?_
          exact J_4_16 H locs hP hD hS ls (lv_sub hl [0, 1, 2, 3] rfl)
        · refine lv_iconst (v := 1) hx hb dX9_isAsked_39 (by decide) ?_
          refine lv_goto (tgt := 44) hx hb dX9_isAsked_40 (by decide) ?_
          refine lv_eqi (y := bI ((inR i 0 3) ∧ ((inR v 0 40) ∧ ((inR k (-99) 99) ∧ (inR w (-99) 99))))) (bI_congr (pd_t c_4 (pd_t c_14 (pd_t c_25 (pa_t c_36))))) ?_
          exact J_4_16 H locs hP hD hS ls (lv_sub hl [0, 1, 2, 3] rfl)
abbrev rmkX8_within : Room := { frames := 0, cells := 0, slots := 0, locals := 0 }
set_option maxHeartbeats 4000000 in
set_option maxRecDepth 100000 in
theorem kX8_within {l : Launch} {D : va_G} {cy : Nat → ClassId} {sa : Nat → Nat} (v : Int32) (lo : Int32) (hi : Int32)  : CD l D cy sa yX8_within wsX8_within rmkX8_within [.int v, .int lo, .int hi] [] (some (.int (bI (inR v lo hi)))) [] := by
  refine CT.of cX8_within 3 (some .boolean) (by decide) rfl (Nat.le_of_ble_eq_true rfl) ?_
  intro p e s m args below meth c A Q ls F hmn hK hE hA hP hD hS hl RT
  obtain ⟨hx, hb, hml, hown, hts⟩ := id F
  have hl : lv_has ls 3 [(0, .int v), (1, .int lo), (2, .int hi)] := hl
  have hP : va_P D vwCl [] s.heap := hP
  have hD : va_D A [] := hD
  obtain ⟨H, hH⟩ : ∃ H0 : Heap, H0 = s.heap := ⟨_, rfl⟩
  obtain ⟨locs, hlo⟩ : ∃ L0 : List Loc, L0 = [] := ⟨_, rfl⟩
  have hS : va_S A s.heap H locs := by rw [hH, hlo]; exact hS
  rw [← hH] at hP
  show W p l e rmkX8_within s m args below meth c s.heap [] 0 0 Q (F0 m 0 ls [])
  suffices hgo : W p l e rmkX8_within s m args below meth c H locs 0 0 Q (F0 m 0 ls []) by rw [hH, hlo] at hgo; exact hgo
  clear hH hlo
  refine lv_iload_n hx hb dX8_within_0 rfl (lv_at hl 0 rfl) ?_
  refine lv_iload_n hx hb dX8_within_1 rfl (lv_at hl 1 rfl) ?_
  have J_2_12 : ∀ (H : Heap) (locs : List Loc), va_P D vwCl [] H → va_D A [] → va_S A s.heap H locs → ∀ (ls : Array Slot), lv_has ls 3 [(0, .int v), (1, .int lo), (2, .int hi)] → W p l e rmkX8_within s m args below meth c H locs 0 0 Q (F0 m 15 ls [.int (bI (¬ (v < lo) ∧ (¬ (hi < v))))]) := by
    intro H locs hP hD hS ls hl
    refine lv_eqi (y := bI (inR v lo hi)) (rfl) ?_
    exact RT _ _ () H locs 15 ls (rt_z (bI_nar _) dX8_within_15) rfl hP hD hS
  refine lv_icmp_lt (tgt := 14) hx hb dX8_within_2 (by decide) (fun c_2 => ?_) (fun c_2 => ?_)
  · refine lv_iconst (v := 0) hx hb dX8_within_14 (by decide) ?_
    refine lv_eqi (y := bI (¬ (v < lo) ∧ (¬ (hi < v)))) (bI_congr (pe_t c_2)) ?_
    exact J_2_12 H locs hP hD hS ls (lv_sub hl [0, 1, 2] rfl)
  · refine lv_iload_n hx hb dX8_within_5 rfl (lv_at hl 0 rfl) ?_
    refine lv_iload_n hx hb dX8_within_6 rfl (lv_at hl 2 rfl) ?_
    refine lv_icmp_gt (tgt := 14) hx hb dX8_within_7 (by decide) (fun c_7 => ?_) (fun c_7 => ?_)
    · refine lv_iconst (v := 0) hx hb dX8_within_14 (by decide) ?_
      refine lv_eqi (y := bI (¬ (v < lo) ∧ (¬ (hi < v)))) (bI_congr (pe_f c_2 (pn_t c_7))) ?_
      exact J_2_12 H locs hP hD hS ls (lv_sub hl [0, 1, 2] rfl)
    · refine lv_iconst (v := 1) hx hb dX8_within_10 (by decide) ?_
      refine lv_goto (tgt := 15) hx hb dX8_within_11 (by decide) ?_
      refine lv_eqi (y := bI (¬ (v < lo) ∧ (¬ (hi < v)))) (bI_congr (pe_f c_2 (pn_f c_7))) ?_
      exact J_2_12 H locs hP hD hS ls (lv_sub hl [0, 1, 2] rfl)
abbrev rmkX8_isBicycle : Room := { frames := 1, cells := 0, slots := 0, locals := 22 }
set_option maxHeartbeats 4000000 in
set_option maxRecDepth 100000 in
theorem kX8_isBicycle {l : Launch} {D : va_G} {cy : Nat → ClassId} {sa : Nat → Nat} (v : Int32)  : CD l D cy sa yX8_isBicycle wsX8_isBicycle rmkX8_isBicycle [.int v] [] (some (.int (bI (inR v 0 3)))) [] := by
  refine CT.of cX8_isBicycle 1 (some .boolean) (by decide) rfl (Nat.le_of_ble_eq_true rfl) ?_
  intro p e s m args below meth c A Q ls F hmn hK hE hA hP hD hS hl RT
  obtain ⟨hx, hb, hml, hown, hts⟩ := id F
  have hl : lv_has ls 1 [(0, .int v)] := hl
  have hP : va_P D vwCl [] s.heap := hP
  have hD : va_D A [] := hD
  obtain ⟨H, hH⟩ : ∃ H0 : Heap, H0 = s.heap := ⟨_, rfl⟩
  obtain ⟨locs, hlo⟩ : ∃ L0 : List Loc, L0 = [] := ⟨_, rfl⟩
  have hS : va_S A s.heap H locs := by rw [hH, hlo]; exact hS
  rw [← hH] at hP
  show W p l e rmkX8_isBicycle s m args below meth c s.heap [] 0 0 Q (F0 m 0 ls [])
  suffices hgo : W p l e rmkX8_isBicycle s m args below meth c H locs 0 0 Q (F0 m 0 ls []) by rw [hH, hlo] at hgo; exact hgo
  clear hH hlo
  refine lv_iload_n hx hb dX8_isBicycle_0 rfl (lv_at hl 0 rfl) ?_
  refine lv_iconst (v := 0) hx hb dX8_isBicycle_1 (by decide) ?_
  refine lv_iconst (v := 3) hx hb dX8_isBicycle_2 (by decide) ?_
  refine ca_S (n := 3) (rest := []) (wr := []) F hK hE hA hP hD hS hl.1 (kX8_within (l := l) (D := D) (cy := cy) (sa := sa) v 0 3) gX8_isBicycle_X8_within rfl rfl rfl (by decide +kernel) ⟨by decide, by decide⟩ [] [] rfl rfl rfl rfl (by decide) rfl rfl (Nat.le_of_ble_eq_true rfl) dX8_isBicycle_3 ⟨by decide, by decide⟩ (fun v u H locs hv hP hD hS => ?_)
  subst hv
  have hP : va_P D vwCl [] H := hP
  have hD : va_D A [] := hD
  refine W.eq (g2 := F0 m 6 ls [.int (bI (inR v 0 3))]) rfl ?_
  exact RT _ _ () H locs 6 ls (rt_z (bI_nar _) dX8_isBicycle_6) rfl hP hD hS
abbrev rmkX8_isNumber : Room := { frames := 1, cells := 0, slots := 0, locals := 22 }
set_option maxHeartbeats 4000000 in
set_option maxRecDepth 100000 in
theorem kX8_isNumber {l : Launch} {D : va_G} {cy : Nat → ClassId} {sa : Nat → Nat} (v : Int32)  : CD l D cy sa yX8_isNumber wsX8_isNumber rmkX8_isNumber [.int v] [] (some (.int (bI (inR v 0 5)))) [] := by
  refine CT.of cX8_isNumber 1 (some .boolean) (by decide) rfl (Nat.le_of_ble_eq_true rfl) ?_
  intro p e s m args below meth c A Q ls F hmn hK hE hA hP hD hS hl RT
  obtain ⟨hx, hb, hml, hown, hts⟩ := id F
  have hl : lv_has ls 1 [(0, .int v)] := hl
  have hP : va_P D vwCl [] s.heap := hP
  have hD : va_D A [] := hD
  obtain ⟨H, hH⟩ : ∃ H0 : Heap, H0 = s.heap := ⟨_, rfl⟩
  obtain ⟨locs, hlo⟩ : ∃ L0 : List Loc, L0 = [] := ⟨_, rfl⟩
  have hS : va_S A s.heap H locs := by rw [hH, hlo]; exact hS
  rw [← hH] at hP
  show W p l e rmkX8_isNumber s m args below meth c s.heap [] 0 0 Q (F0 m 0 ls [])
  suffices hgo : W p l e rmkX8_isNumber s m args below meth c H locs 0 0 Q (F0 m 0 ls []) by rw [hH, hlo] at hgo; exact hgo
  clear hH hlo
  refine lv_iload_n hx hb dX8_isNumber_0 rfl (lv_at hl 0 rfl) ?_
  refine lv_iconst (v := 0) hx hb dX8_isNumber_1 (by decide) ?_
  refine lv_iconst (v := 5) hx hb dX8_isNumber_2 (by decide) ?_
  refine ca_S (n := 3) (rest := []) (wr := []) F hK hE hA hP hD hS hl.1 (kX8_within (l := l) (D := D) (cy := cy) (sa := sa) v 0 5) gX8_isNumber_X8_within rfl rfl rfl (by decide +kernel) ⟨by decide, by decide⟩ [] [] rfl rfl rfl rfl (by decide) rfl rfl (Nat.le_of_ble_eq_true rfl) dX8_isNumber_3 ⟨by decide, by decide⟩ (fun v u H locs hv hP hD hS => ?_)
  subst hv
  have hP : va_P D vwCl [] H := hP
  have hD : va_D A [] := hD
  refine W.eq (g2 := F0 m 6 ls [.int (bI (inR v 0 5))]) rfl ?_
  exact RT _ _ () H locs 6 ls (rt_z (bI_nar _) dX8_isNumber_6) rfl hP hD hS
abbrev rmkX8_isReason : Room := { frames := 1, cells := 0, slots := 0, locals := 22 }
set_option maxHeartbeats 4000000 in
set_option maxRecDepth 100000 in
theorem kX8_isReason {l : Launch} {D : va_G} {cy : Nat → ClassId} {sa : Nat → Nat} (v : Int32)  : CD l D cy sa yX8_isReason wsX8_isReason rmkX8_isReason [.int v] [] (some (.int (bI (inR v 0 2)))) [] := by
  refine CT.of cX8_isReason 1 (some .boolean) (by decide) rfl (Nat.le_of_ble_eq_true rfl) ?_
  intro p e s m args below meth c A Q ls F hmn hK hE hA hP hD hS hl RT
  obtain ⟨hx, hb, hml, hown, hts⟩ := id F
  have hl : lv_has ls 1 [(0, .int v)] := hl
  have hP : va_P D vwCl [] s.heap := hP
  have hD : va_D A [] := hD
  obtain ⟨H, hH⟩ : ∃ H0 : Heap, H0 = s.heap := ⟨_, rfl⟩
  obtain ⟨locs, hlo⟩ : ∃ L0 : List Loc, L0 = [] := ⟨_, rfl⟩
  have hS : va_S A s.heap H locs := by rw [hH, hlo]; exact hS
  rw [← hH] at hP
  show W p l e rmkX8_isReason s m args below meth c s.heap [] 0 0 Q (F0 m 0 ls [])
  suffices hgo : W p l e rmkX8_isReason s m args below meth c H locs 0 0 Q (F0 m 0 ls []) by rw [hH, hlo] at hgo; exact hgo
  clear hH hlo
  refine lv_iload_n hx hb dX8_isReason_0 rfl (lv_at hl 0 rfl) ?_
  refine lv_iconst (v := 0) hx hb dX8_isReason_1 (by decide) ?_
  refine lv_iconst (v := 2) hx hb dX8_isReason_2 (by decide) ?_
  refine ca_S (n := 3) (rest := []) (wr := []) F hK hE hA hP hD hS hl.1 (kX8_within (l := l) (D := D) (cy := cy) (sa := sa) v 0 2) gX8_isReason_X8_within rfl rfl rfl (by decide +kernel) ⟨by decide, by decide⟩ [] [] rfl rfl rfl rfl (by decide) rfl rfl (Nat.le_of_ble_eq_true rfl) dX8_isReason_3 ⟨by decide, by decide⟩ (fun v u H locs hv hP hD hS => ?_)
  subst hv
  have hP : va_P D vwCl [] H := hP
  have hD : va_D A [] := hD
  refine W.eq (g2 := F0 m 6 ls [.int (bI (inR v 0 2))]) rfl ?_
  exact RT _ _ () H locs 6 ls (rt_z (bI_nar _) dX8_isReason_6) rfl hP hD hS
abbrev rmkX8_isSpeed : Room := { frames := 1, cells := 0, slots := 0, locals := 22 }
set_option maxHeartbeats 4000000 in
set_option maxRecDepth 100000 in
theorem kX8_isSpeed {l : Launch} {D : va_G} {cy : Nat → ClassId} {sa : Nat → Nat} (v : Int32)  : CD l D cy sa yX8_isSpeed wsX8_isSpeed rmkX8_isSpeed [.int v] [] (some (.int (bI (inR v 0 40)))) [] := by
  refine CT.of cX8_isSpeed 1 (some .boolean) (by decide) rfl (Nat.le_of_ble_eq_true rfl) ?_
  intro p e s m args below meth c A Q ls F hmn hK hE hA hP hD hS hl RT
  obtain ⟨hx, hb, hml, hown, hts⟩ := id F
  have hl : lv_has ls 1 [(0, .int v)] := hl
  have hP : va_P D vwCl [] s.heap := hP
  have hD : va_D A [] := hD
  obtain ⟨H, hH⟩ : ∃ H0 : Heap, H0 = s.heap := ⟨_, rfl⟩
  obtain ⟨locs, hlo⟩ : ∃ L0 : List Loc, L0 = [] := ⟨_, rfl⟩
  have hS : va_S A s.heap H locs := by rw [hH, hlo]; exact hS
  rw [← hH] at hP
  show W p l e rmkX8_isSpeed s m args below meth c s.heap [] 0 0 Q (F0 m 0 ls [])
  suffices hgo : W p l e rmkX8_isSpeed s m args below meth c H locs 0 0 Q (F0 m 0 ls []) by rw [hH, hlo] at hgo; exact hgo
  clear hH hlo
  refine lv_iload_n hx hb dX8_isSpeed_0 rfl (lv_at hl 0 rfl) ?_
  refine lv_iconst (v := 0) hx hb dX8_isSpeed_1 (by decide) ?_
  refine lv_bipush (v := 40) hx hb dX8_isSpeed_2 (by decide) ?_
  refine ca_S (n := 3) (rest := []) (wr := []) F hK hE hA hP hD hS hl.1 (kX8_within (l := l) (D := D) (cy := cy) (sa := sa) v 0 40) gX8_isSpeed_X8_within rfl rfl rfl (by decide +kernel) ⟨by decide, by decide⟩ [] [] rfl rfl rfl rfl (by decide) rfl rfl (Nat.le_of_ble_eq_true rfl) dX8_isSpeed_4 ⟨by decide, by decide⟩ (fun v u H locs hv hP hD hS => ?_)
  subst hv
  have hP : va_P D vwCl [] H := hP
  have hD : va_D A [] := hD
  refine W.eq (g2 := F0 m 7 ls [.int (bI (inR v 0 40))]) rfl ?_
  exact RT _ _ () H locs 7 ls (rt_z (bI_nar _) dX8_isSpeed_7) rfl hP hD hS
abbrev rmkX8_isHand : Room := { frames := 1, cells := 0, slots := 0, locals := 22 }
set_option maxHeartbeats 4000000 in
set_option maxRecDepth 100000 in
theorem kX8_isHand {l : Launch} {D : va_G} {cy : Nat → ClassId} {sa : Nat → Nat} (v : Int32)  : CD l D cy sa yX8_isHand wsX8_isHand rmkX8_isHand [.int v] [] (some (.int (bI (inR v (-99) 99)))) [] := by
  refine CT.of cX8_isHand 1 (some .boolean) (by decide) rfl (Nat.le_of_ble_eq_true rfl) ?_
  intro p e s m args below meth c A Q ls F hmn hK hE hA hP hD hS hl RT
  obtain ⟨hx, hb, hml, hown, hts⟩ := id F
  have hl : lv_has ls 1 [(0, .int v)] := hl
  have hP : va_P D vwCl [] s.heap := hP
  have hD : va_D A [] := hD
  obtain ⟨H, hH⟩ : ∃ H0 : Heap, H0 = s.heap := ⟨_, rfl⟩
  obtain ⟨locs, hlo⟩ : ∃ L0 : List Loc, L0 = [] := ⟨_, rfl⟩
  have hS : va_S A s.heap H locs := by rw [hH, hlo]; exact hS
  rw [← hH] at hP
  show W p l e rmkX8_isHand s m args below meth c s.heap [] 0 0 Q (F0 m 0 ls [])
  suffices hgo : W p l e rmkX8_isHand s m args below meth c H locs 0 0 Q (F0 m 0 ls []) by rw [hH, hlo] at hgo; exact hgo
  clear hH hlo
  refine lv_iload_n hx hb dX8_isHand_0 rfl (lv_at hl 0 rfl) ?_
  refine lv_bipush (v := (-99)) hx hb dX8_isHand_1 (by decide) ?_
  refine lv_bipush (v := 99) hx hb dX8_isHand_3 (by decide) ?_
  refine ca_S (n := 3) (rest := []) (wr := []) F hK hE hA hP hD hS hl.1 (kX8_within (l := l) (D := D) (cy := cy) (sa := sa) v (-99) 99) gX8_isHand_X8_within rfl rfl rfl (by decide +kernel) ⟨by decide, by decide⟩ [] [] rfl rfl rfl rfl (by decide) rfl rfl (Nat.le_of_ble_eq_true rfl) dX8_isHand_5 ⟨by decide, by decide⟩ (fun v u H locs hv hP hD hS => ?_)
  subst hv
  have hP : va_P D vwCl [] H := hP
  have hD : va_D A [] := hD
  refine W.eq (g2 := F0 m 8 ls [.int (bI (inR v (-99) 99))]) rfl ?_
  exact RT _ _ () H locs 8 ls (rt_z (bI_nar _) dX8_isHand_8) rfl hP hD hS
abbrev rmkX8_isFlag : Room := { frames := 1, cells := 0, slots := 0, locals := 22 }
set_option maxHeartbeats 4000000 in
set_option maxRecDepth 100000 in
theorem kX8_isFlag {l : Launch} {D : va_G} {cy : Nat → ClassId} {sa : Nat → Nat} (v : Int32)  : CD l D cy sa yX8_isFlag wsX8_isFlag rmkX8_isFlag [.int v] [] (some (.int (bI (inR v 0 1)))) [] := by
  refine CT.of cX8_isFlag 1 (some .boolean) (by decide) rfl (Nat.le_of_ble_eq_true rfl) ?_
  intro p e s m args below meth c A Q ls F hmn hK hE hA hP hD hS hl RT
  obtain ⟨hx, hb, hml, hown, hts⟩ := id F
  have hl : lv_has ls 1 [(0, .int v)] := hl
  have hP : va_P D vwCl [] s.heap := hP
  have hD : va_D A [] := hD
  obtain ⟨H, hH⟩ : ∃ H0 : Heap, H0 = s.heap := ⟨_, rfl⟩
  obtain ⟨locs, hlo⟩ : ∃ L0 : List Loc, L0 = [] := ⟨_, rfl⟩
  have hS : va_S A s.heap H locs := by rw [hH, hlo]; exact hS
  rw [← hH] at hP
  show W p l e rmkX8_isFlag s m args below meth c s.heap [] 0 0 Q (F0 m 0 ls [])
  suffices hgo : W p l e rmkX8_isFlag s m args below meth c H locs 0 0 Q (F0 m 0 ls []) by rw [hH, hlo] at hgo; exact hgo
  clear hH hlo
  refine lv_iload_n hx hb dX8_isFlag_0 rfl (lv_at hl 0 rfl) ?_
  refine lv_iconst (v := 0) hx hb dX8_isFlag_1 (by decide) ?_
  refine lv_iconst (v := 1) hx hb dX8_isFlag_2 (by decide) ?_
  refine ca_S (n := 3) (rest := []) (wr := []) F hK hE hA hP hD hS hl.1 (kX8_within (l := l) (D := D) (cy := cy) (sa := sa) v 0 1) gX8_isFlag_X8_within rfl rfl rfl (by decide +kernel) ⟨by decide, by decide⟩ [] [] rfl rfl rfl rfl (by decide) rfl rfl (Nat.le_of_ble_eq_true rfl) dX8_isFlag_3 ⟨by decide, by decide⟩ (fun v u H locs hv hP hD hS => ?_)
  subst hv
  have hP : va_P D vwCl [] H := hP
  have hD : va_D A [] := hD
  refine W.eq (g2 := F0 m 6 ls [.int (bI (inR v 0 1))]) rfl ?_
  exact RT _ _ () H locs 6 ls (rt_z (bI_nar _) dX8_isFlag_6) rfl hP hD hS
abbrev rmkX8_isBar : Room := { frames := 1, cells := 0, slots := 0, locals := 22 }
set_option maxHeartbeats 4000000 in
set_option maxRecDepth 100000 in
theorem kX8_isBar {l : Launch} {D : va_G} {cy : Nat → ClassId} {sa : Nat → Nat} (v : Int32)  : CD l D cy sa yX8_isBar wsX8_isBar rmkX8_isBar [.int v] [] (some (.int (bI (inR v 0 1)))) [] := by
  refine CT.of cX8_isBar 1 (some .boolean) (by decide) rfl (Nat.le_of_ble_eq_true rfl) ?_
  intro p e s m args below meth c A Q ls F hmn hK hE hA hP hD hS hl RT
  obtain ⟨hx, hb, hml, hown, hts⟩ := id F
  have hl : lv_has ls 1 [(0, .int v)] := hl
  have hP : va_P D vwCl [] s.heap := hP
  have hD : va_D A [] := hD
  obtain ⟨H, hH⟩ : ∃ H0 : Heap, H0 = s.heap := ⟨_, rfl⟩
  obtain ⟨locs, hlo⟩ : ∃ L0 : List Loc, L0 = [] := ⟨_, rfl⟩
  have hS : va_S A s.heap H locs := by rw [hH, hlo]; exact hS
  rw [← hH] at hP
  show W p l e rmkX8_isBar s m args below meth c s.heap [] 0 0 Q (F0 m 0 ls [])
  suffices hgo : W p l e rmkX8_isBar s m args below meth c H locs 0 0 Q (F0 m 0 ls []) by rw [hH, hlo] at hgo; exact hgo
  clear hH hlo
  refine lv_iload_n hx hb dX8_isBar_0 rfl (lv_at hl 0 rfl) ?_
  refine lv_iconst (v := 0) hx hb dX8_isBar_1 (by decide) ?_
  refine lv_iconst (v := 1) hx hb dX8_isBar_2 (by decide) ?_
  refine ca_S (n := 3) (rest := []) (wr := []) F hK hE hA hP hD hS hl.1 (kX8_within (l := l) (D := D) (cy := cy) (sa := sa) v 0 1) gX8_isBar_X8_within rfl rfl rfl (by decide +kernel) ⟨by decide, by decide⟩ [] [] rfl rfl rfl rfl (by decide) rfl rfl (Nat.le_of_ble_eq_true rfl) dX8_isBar_3 ⟨by decide, by decide⟩ (fun v u H locs hv hP hD hS => ?_)
  subst hv
  have hP : va_P D vwCl [] H := hP
  have hD : va_D A [] := hD
  refine W.eq (g2 := F0 m 6 ls [.int (bI (inR v 0 1))]) rfl ?_
  exact RT _ _ () H locs 6 ls (rt_z (bI_nar _) dX8_isBar_6) rfl hP hD hS
abbrev rmkX8_isImage : Room := { frames := 1, cells := 0, slots := 0, locals := 22 }
set_option maxHeartbeats 4000000 in
set_option maxRecDepth 100000 in
theorem kX8_isImage {l : Launch} {D : va_G} {cy : Nat → ClassId} {sa : Nat → Nat} (v : Int32)  : CD l D cy sa yX8_isImage wsX8_isImage rmkX8_isImage [.int v] [] (some (.int (bI (inR v 0 1)))) [] := by
  refine CT.of cX8_isImage 1 (some .boolean) (by decide) rfl (Nat.le_of_ble_eq_true rfl) ?_
  intro p e s m args below meth c A Q ls F hmn hK hE hA hP hD hS hl RT
  obtain ⟨hx, hb, hml, hown, hts⟩ := id F
  have hl : lv_has ls 1 [(0, .int v)] := hl
  have hP : va_P D vwCl [] s.heap := hP
  have hD : va_D A [] := hD
  obtain ⟨H, hH⟩ : ∃ H0 : Heap, H0 = s.heap := ⟨_, rfl⟩
  obtain ⟨locs, hlo⟩ : ∃ L0 : List Loc, L0 = [] := ⟨_, rfl⟩
  have hS : va_S A s.heap H locs := by rw [hH, hlo]; exact hS
  rw [← hH] at hP
  show W p l e rmkX8_isImage s m args below meth c s.heap [] 0 0 Q (F0 m 0 ls [])
  suffices hgo : W p l e rmkX8_isImage s m args below meth c H locs 0 0 Q (F0 m 0 ls []) by rw [hH, hlo] at hgo; exact hgo
  clear hH hlo
  refine lv_iload_n hx hb dX8_isImage_0 rfl (lv_at hl 0 rfl) ?_
  refine lv_iconst (v := 0) hx hb dX8_isImage_1 (by decide) ?_
  refine lv_iconst (v := 1) hx hb dX8_isImage_2 (by decide) ?_
  refine ca_S (n := 3) (rest := []) (wr := []) F hK hE hA hP hD hS hl.1 (kX8_within (l := l) (D := D) (cy := cy) (sa := sa) v 0 1) gX8_isImage_X8_within rfl rfl rfl (by decide +kernel) ⟨by decide, by decide⟩ [] [] rfl rfl rfl rfl (by decide) rfl rfl (Nat.le_of_ble_eq_true rfl) dX8_isImage_3 ⟨by decide, by decide⟩ (fun v u H locs hv hP hD hS => ?_)
  subst hv
  have hP : va_P D vwCl [] H := hP
  have hD : va_D A [] := hD
  refine W.eq (g2 := F0 m 6 ls [.int (bI (inR v 0 1))]) rfl ?_
  exact RT _ _ () H locs 6 ls (rt_z (bI_nar _) dX8_isImage_6) rfl hP hD hS
