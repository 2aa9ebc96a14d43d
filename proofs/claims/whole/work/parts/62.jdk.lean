abbrev rmkJ3_checkIndex : Room := { frames := 0, cells := 0, slots := 0, locals := 0 }
set_option maxHeartbeats 400000 in
set_option maxRecDepth 100000 in
theorem kJ3_checkIndex {l : Launch} {D : va_G} {cy : Nat → ClassId} {sa : Nat → Nat} (k_ : Nat) (f9_ : Nat) (hk : k_ < 25) : CD l D cy sa yJ3_checkIndex_8e157 wsJ3_checkIndex_8e157 rmkJ3_checkIndex [.int (nI k_), .int 25, .ref f9_] [] (some (.int (nI k_))) [] := by
  refine CT.ofF cJ3_checkIndex_8e157 3 (some .int) (by decide +kernel) rfl (Nat.le_of_ble_eq_true rfl) ?_
  intro p e s m args below meth c A Q ls F hmn hK hE hA hP hD hS hl RT
  obtain ⟨hx, hb, hml, hown, hts⟩ := id F
  have hl : lv_has ls 3 [(0, .int (nI k_)), (1, .int 25), (2, .ref f9_)] := hl
  have hP : va_P D vwCl [] s.heap := hP
  have hD : va_D A [] := hD
  obtain ⟨H, hH⟩ : ∃ H0 : Heap, H0 = s.heap := ⟨_, rfl⟩
  obtain ⟨locs, hlo⟩ : ∃ L0 : List Loc, L0 = [] := ⟨_, rfl⟩
  have hS : va_S A s.heap H locs := by rw [hH, hlo]; exact hS
  rw [← hH] at hP
  show W p l e rmkJ3_checkIndex s m args below meth c s.heap [] 0 0 Q (F0 m 0 ls [])
  suffices hgo : W p l e rmkJ3_checkIndex s m args below meth c H locs 0 0 Q (F0 m 0 ls []) by rw [hH, hlo] at hgo; exact hgo
  clear hH hlo
  refine lv_iload_n hx hb dJ3_checkIndex_8e157_0 rfl (lv_at hl 0 rfl) ?_
  refine lv_if_lt (tgt := 9) hx hb dJ3_checkIndex_8e157_1 (by decide) (fun c_1 => ?_) (fun c_1 => ?_)
  · exact absurd c_1 (nI_pos (by omega))
  · refine lv_iload_n hx hb dJ3_checkIndex_8e157_4 rfl (lv_at hl 0 rfl) ?_
    refine lv_iload_n hx hb dJ3_checkIndex_8e157_5 rfl (lv_at hl 1 rfl) ?_
    refine cn_lt (tgt := 16) hx hb k_ 25 rfl rfl (by omega) (by omega) dJ3_checkIndex_8e157_6 (by decide) (fun c_6 => ?_) (fun c_6 => ?_)
    · refine lv_iload_n hx hb dJ3_checkIndex_8e157_16 rfl (lv_at hl 0 rfl) ?_
      exact RT _ _ () H locs 17 ls (rt_i dJ3_checkIndex_8e157_17) rfl hP hD hS
    · exact absurd hk c_6
abbrev rmkJ3_checkIndex_n : Room := { frames := 0, cells := 0, slots := 0, locals := 0 }
set_option maxHeartbeats 400000 in
set_option maxRecDepth 100000 in
theorem kJ3_checkIndex_n {l : Launch} {D : va_G} {cy : Nat → ClassId} {sa : Nat → Nat} (k_ : Nat) (hk : k_ < 25) : CD l D cy sa yJ3_checkIndex_8e157 wsJ3_checkIndex_8e157 rmkJ3_checkIndex_n [.int (nI k_), .int 25, .null] [] (some (.int (nI k_))) [] := by
  refine CT.ofF cJ3_checkIndex_8e157 3 (some .int) (by decide +kernel) rfl (Nat.le_of_ble_eq_true rfl) ?_
  intro p e s m args below meth c A Q ls F hmn hK hE hA hP hD hS hl RT
  obtain ⟨hx, hb, hml, hown, hts⟩ := id F
  have hl : lv_has ls 3 [(0, .int (nI k_)), (1, .int 25), (2, .null)] := hl
  have hP : va_P D vwCl [] s.heap := hP
  have hD : va_D A [] := hD
  obtain ⟨H, hH⟩ : ∃ H0 : Heap, H0 = s.heap := ⟨_, rfl⟩
  obtain ⟨locs, hlo⟩ : ∃ L0 : List Loc, L0 = [] := ⟨_, rfl⟩
  have hS : va_S A s.heap H locs := by rw [hH, hlo]; exact hS
  rw [← hH] at hP
  show W p l e rmkJ3_checkIndex_n s m args below meth c s.heap [] 0 0 Q (F0 m 0 ls [])
  suffices hgo : W p l e rmkJ3_checkIndex_n s m args below meth c H locs 0 0 Q (F0 m 0 ls []) by rw [hH, hlo] at hgo; exact hgo
  clear hH hlo
  refine lv_iload_n hx hb dJ3_checkIndex_8e157_0 rfl (lv_at hl 0 rfl) ?_
  refine lv_if_lt (tgt := 9) hx hb dJ3_checkIndex_8e157_1 (by decide) (fun c_1 => ?_) (fun c_1 => ?_)
  · exact absurd c_1 (nI_pos (by omega))
  · refine lv_iload_n hx hb dJ3_checkIndex_8e157_4 rfl (lv_at hl 0 rfl) ?_
    refine lv_iload_n hx hb dJ3_checkIndex_8e157_5 rfl (lv_at hl 1 rfl) ?_
    refine cn_lt (tgt := 16) hx hb k_ 25 rfl rfl (by omega) (by omega) dJ3_checkIndex_8e157_6 (by decide) (fun c_6 => ?_) (fun c_6 => ?_)
    · refine lv_iload_n hx hb dJ3_checkIndex_8e157_16 rfl (lv_at hl 0 rfl) ?_
      exact RT _ _ () H locs 17 ls (rt_i dJ3_checkIndex_8e157_17) rfl hP hD hS
    · exact absurd hk c_6
abbrev rmkJ0_checkIndex : Room := { frames := 1, cells := 0, slots := 0, locals := 22 }
set_option maxHeartbeats 400000 in
set_option maxRecDepth 100000 in
theorem kJ0_checkIndex {l : Launch} {D : va_G} {cy : Nat → ClassId} {sa : Nat → Nat} (k_ : Nat) (hk : k_ < 25) : CD l D cy sa yJ0_checkIndex_df160 wsJ0_checkIndex_df160 rmkJ0_checkIndex [.int (nI k_), .int 25] [] (none) [] := by
  refine CT.ofF cJ0_checkIndex_df160 2 none (by decide +kernel) rfl (Nat.le_of_ble_eq_true rfl) ?_
  intro p e s m args below meth c A Q ls F hmn hK hE hA hP hD hS hl RT
  obtain ⟨hx, hb, hml, hown, hts⟩ := id F
  have wf1053 := hts (.fieldLink RJ0 1053 "jdk/internal/util/Preconditions" "SIOOBE_FORMATTER" "Ljava/util/function/BiFunction;") (by decide +kernel)
  have hl : lv_has ls 2 [(0, .int (nI k_)), (1, .int 25)] := hl
  have hP : va_P D vwCl [] s.heap := hP
  have hD : va_D A [] := hD
  obtain ⟨H, hH⟩ : ∃ H0 : Heap, H0 = s.heap := ⟨_, rfl⟩
  obtain ⟨locs, hlo⟩ : ∃ L0 : List Loc, L0 = [] := ⟨_, rfl⟩
  have hS : va_S A s.heap H locs := by rw [hH, hlo]; exact hS
  rw [← hH] at hP
  show W p l e rmkJ0_checkIndex s m args below meth c s.heap [] 0 0 Q (F0 m 0 ls [])
  suffices hgo : W p l e rmkJ0_checkIndex s m args below meth c H locs 0 0 Q (F0 m 0 ls []) by rw [hH, hlo] at hgo; exact hgo
  clear hH hlo
  refine lv_iload_n hx hb dJ0_checkIndex_df160_0 rfl (lv_at hl 0 rfl) ?_
  refine lv_iload_n hx hb dJ0_checkIndex_df160_1 rfl (lv_at hl 1 rfl) ?_
  rcases hE.t.2.2.2.2.2.2.1 with hz9 | ⟨t9, hz9⟩
  · refine va_gets hx hb hz9 hS hown wf1053 (fun _ h9 => h9) dJ0_checkIndex_df160_2 ?_
    refine ca_S (n := 3) (rest := []) (wr := []) F hK hE hA hP hD hS hl.1 (kJ3_checkIndex_n (l := l) (D := D) (cy := cy) (sa := sa) k_ (by first | assumption | omega | decide)) gJ0_checkIndex_df160_J3_checkIndex_8e157 rfl rfl rfl (by decide +kernel) ⟨by decide, by decide⟩ [] [] rfl rfl rfl rfl (by decide) rfl rfl (Nat.le_of_ble_eq_true rfl) dJ0_checkIndex_df160_5 ⟨by decide, by decide⟩ (fun v9 u9 H locs hv hP hD hS => ?_)
    subst hv
    have hP : va_P D vwCl [] H := hP
    have hD : va_D A [] := hD
    refine W.eq (g2 := F0 m 8 ls [.int (nI k_)]) rfl ?_
    refine lv_pop hx hb dJ0_checkIndex_df160_8 rfl ?_
    exact RT _ _ () H locs 9 ls (rt_v dJ0_checkIndex_df160_9) rfl hP hD hS
  · refine va_gets hx hb hz9 hS hown wf1053 (fun _ h9 => h9) dJ0_checkIndex_df160_2 ?_
    refine ca_S (n := 3) (rest := []) (wr := []) F hK hE hA hP hD hS hl.1 (kJ3_checkIndex (l := l) (D := D) (cy := cy) (sa := sa) k_ t9 (by first | assumption | omega | decide)) gJ0_checkIndex_df160_J3_checkIndex_8e157 rfl rfl rfl (by decide +kernel) ⟨by decide, by decide⟩ [] [] rfl rfl rfl rfl (by decide) rfl rfl (Nat.le_of_ble_eq_true rfl) dJ0_checkIndex_df160_5 ⟨by decide, by decide⟩ (fun v9 u9 H locs hv hP hD hS => ?_)
    subst hv
    have hP : va_P D vwCl [] H := hP
    have hD : va_D A [] := hD
    refine W.eq (g2 := F0 m 8 ls [.int (nI k_)]) rfl ?_
    refine lv_pop hx hb dJ0_checkIndex_df160_8 rfl ?_
    exact RT _ _ () H locs 9 ls (rt_v dJ0_checkIndex_df160_9) rfl hP hD hS
abbrev rmkJ1_charAt : Room := { frames := 2, cells := 0, slots := 0, locals := 43 }
set_option maxHeartbeats 400000 in
set_option maxRecDepth 100000 in
theorem kJ1_charAt {l : Launch} {D : va_G} {cy : Nat → ClassId} {sa : Nat → Nat} (k_ : Nat) (hk : k_ < 25) : CD l D cy sa yJ1_charAt_3b067 wsJ1_charAt_3b067 rmkJ1_charAt [.ref (sa 9), .int (nI k_)] [] (some (.int (s_WORDS k_))) [] := by
  refine CT.ofF cJ1_charAt_3b067 2 (some .char) (by decide +kernel) rfl (Nat.le_of_ble_eq_true rfl) ?_
  intro p e s m args below meth c A Q ls F hmn hK hE hA hP hD hS hl RT
  obtain ⟨hx, hb, hml, hown, hts⟩ := id F
  have hl : lv_has ls 2 [(0, .ref (sa 9)), (1, .int (nI k_))] := hl
  have hP : va_P D vwCl [] s.heap := hP
  have hD : va_D A [] := hD
  obtain ⟨H, hH⟩ : ∃ H0 : Heap, H0 = s.heap := ⟨_, rfl⟩
  obtain ⟨locs, hlo⟩ : ∃ L0 : List Loc, L0 = [] := ⟨_, rfl⟩
  have hS : va_S A s.heap H locs := by rw [hH, hlo]; exact hS
  rw [← hH] at hP
  show W p l e rmkJ1_charAt s m args below meth c s.heap [] 0 0 Q (F0 m 0 ls [])
  suffices hgo : W p l e rmkJ1_charAt s m args below meth c H locs 0 0 Q (F0 m 0 ls []) by rw [hH, hlo] at hgo; exact hgo
  clear hH hlo
  refine lv_iload_n hx hb dJ1_charAt_3b067_0 rfl (lv_at hl 1 rfl) ?_
  refine lv_aload_n hx hb dJ1_charAt_3b067_1 rfl (lv_at hl 0 rfl) ?_
  refine va_tlen (v := 25) hx hb hE.t.2.2.2.2.1 hS rfl dJ1_charAt_3b067_2 ?_
  refine ca_S (n := 2) (rest := []) (wr := []) F hK hE hA hP hD hS hl.1 (kJ0_checkIndex (l := l) (D := D) (cy := cy) (sa := sa) k_ (by first | assumption | omega | decide)) gJ1_charAt_3b067_J0_checkIndex_df160 rfl rfl rfl (by decide +kernel) ⟨by decide, by decide⟩ [] [] rfl rfl rfl rfl (by decide) rfl rfl (Nat.le_of_ble_eq_true rfl) dJ1_charAt_3b067_3 ⟨by decide, by decide⟩ (fun v9 u9 H locs hv hP hD hS => ?_)
  subst hv
  have hP : va_P D vwCl [] H := hP
  have hD : va_D A [] := hD
  refine W.eq (g2 := F0 m 6 ls []) rfl ?_
  refine lv_aload_n hx hb dJ1_charAt_3b067_6 rfl (lv_at hl 0 rfl) ?_
  refine lv_iload_n hx hb dJ1_charAt_3b067_7 rfl (lv_at hl 1 rfl) ?_
  refine al_w hx hb hE.t.2.2.2.2.1 hS k_ (rfl) (by omega) (by decide) dJ1_charAt_3b067_8 ?_
  refine lv_sipush (v := 255) hx hb dJ1_charAt_3b067_9 (by decide) ?_
  refine lv_iand hx hb dJ1_charAt_3b067_12 ?_
  refine lv_i2c (v := s_WORDS k_) hx hb dJ1_charAt_3b067_13 (ch_w k_ hk) ?_
  exact RT _ _ () H locs 14 ls (rt_c (ch_n k_ hk) dJ1_charAt_3b067_14) rfl hP hD hS
abbrev rmkJ0_isLatin1 : Room := { frames := 0, cells := 0, slots := 0, locals := 0 }
set_option maxHeartbeats 400000 in
set_option maxRecDepth 100000 in
theorem kJ0_isLatin1 {l : Launch} {D : va_G} {cy : Nat → ClassId} {sa : Nat → Nat}   : CD l D cy sa yJ0_isLatin1_aae02 wsJ0_isLatin1_aae02 rmkJ0_isLatin1 [.ref (sa 8)] [] (some (.int 1)) [] := by
  refine CT.ofF cJ0_isLatin1_aae02 1 (some .boolean) (by decide +kernel) rfl (Nat.le_of_ble_eq_true rfl) ?_
  intro p e s m args below meth c A Q ls F hmn hK hE hA hP hD hS hl RT
  obtain ⟨hx, hb, hml, hown, hts⟩ := id F
  have wf38 := hts (.fieldLink RJ0 38 "java/lang/String" "COMPACT_STRINGS" "Z") (by decide +kernel)
  have wf15 := hts (.fieldLink RJ0 15 "java/lang/String" "coder" "B") (by decide +kernel)
  have hl : lv_has ls 1 [(0, .ref (sa 8))] := hl
  have hP : va_P D vwCl [] s.heap := hP
  have hD : va_D A [] := hD
  obtain ⟨H, hH⟩ : ∃ H0 : Heap, H0 = s.heap := ⟨_, rfl⟩
  obtain ⟨locs, hlo⟩ : ∃ L0 : List Loc, L0 = [] := ⟨_, rfl⟩
  have hS : va_S A s.heap H locs := by rw [hH, hlo]; exact hS
  rw [← hH] at hP
  show W p l e rmkJ0_isLatin1 s m args below meth c s.heap [] 0 0 Q (F0 m 0 ls [])
  suffices hgo : W p l e rmkJ0_isLatin1 s m args below meth c H locs 0 0 Q (F0 m 0 ls []) by rw [hH, hlo] at hgo; exact hgo
  clear hH hlo
  refine va_gets hx hb hE.t.2.2.2.2.2.1 hS hown wf38 (fun _ h9 => h9) dJ0_isLatin1_aae02_0 ?_
  refine lv_if_eq (tgt := 17) hx hb dJ0_isLatin1_aae02_3 (by decide) (fun c_3 => ?_) (fun c_3 => ?_)
  · exact absurd c_3 (by decide)
  · refine lv_aload_n hx hb dJ0_isLatin1_aae02_6 rfl (lv_at hl 0 rfl) ?_
    refine vk_getf hx hb hE.t.2.2.1 hS hown wf15 (fun _ h9 => h9) dJ0_isLatin1_aae02_7 ?_
    refine lv_if_ne (tgt := 17) hx hb dJ0_isLatin1_aae02_10 (by decide) (fun c_10 => ?_) (fun c_10 => ?_)
    · exact absurd (by decide) c_10
    · refine lv_iconst (v := 1) hx hb dJ0_isLatin1_aae02_13 (by decide) ?_
      refine lv_goto (tgt := 18) hx hb dJ0_isLatin1_aae02_14 (by decide) ?_
      exact RT _ _ () H locs 18 ls (rt_z rfl dJ0_isLatin1_aae02_18) rfl hP hD hS
abbrev rmkJ0_charAt : Room := { frames := 3, cells := 0, slots := 0, locals := 64 }
set_option maxHeartbeats 400000 in
set_option maxRecDepth 100000 in
theorem kJ0_charAt {l : Launch} {D : va_G} {cy : Nat → ClassId} {sa : Nat → Nat} (k_ : Nat) (hk : k_ < 25) : CD l D cy sa yJ0_charAt_5068e wsJ0_charAt_5068e rmkJ0_charAt [.ref (sa 8), .int (nI k_)] [] (some (.int (s_WORDS k_))) [] := by
  refine CT.ofF cJ0_charAt_5068e 2 (some .char) (by decide +kernel) rfl (Nat.le_of_ble_eq_true rfl) ?_
  intro p e s m args below meth c A Q ls F hmn hK hE hA hP hD hS hl RT
  obtain ⟨hx, hb, hml, hown, hts⟩ := id F
  have wf9 := hts (.fieldLink RJ0 9 "java/lang/String" "value" "[B") (by decide +kernel)
  have hl : lv_has ls 2 [(0, .ref (sa 8)), (1, .int (nI k_))] := hl
  have hP : va_P D vwCl [] s.heap := hP
  have hD : va_D A [] := hD
  obtain ⟨H, hH⟩ : ∃ H0 : Heap, H0 = s.heap := ⟨_, rfl⟩
  obtain ⟨locs, hlo⟩ : ∃ L0 : List Loc, L0 = [] := ⟨_, rfl⟩
  have hS : va_S A s.heap H locs := by rw [hH, hlo]; exact hS
  rw [← hH] at hP
  show W p l e rmkJ0_charAt s m args below meth c s.heap [] 0 0 Q (F0 m 0 ls [])
  suffices hgo : W p l e rmkJ0_charAt s m args below meth c H locs 0 0 Q (F0 m 0 ls []) by rw [hH, hlo] at hgo; exact hgo
  clear hH hlo
  refine lv_aload_n hx hb dJ0_charAt_5068e_0 rfl (lv_at hl 0 rfl) ?_
  refine ca_VS (n := 0) (rest := []) (wr := []) F hK hE hA hP hD hS hl.1 (kJ0_isLatin1 (l := l) (D := D) (cy := cy) (sa := sa) ) gJ0_charAt_5068e_J0_isLatin1_aae02 (EVt.recv hE.t hS) rfl rfl rfl (by decide +kernel) ⟨by decide, by decide⟩ [] [] rfl rfl rfl rfl (by decide) rfl rfl (Nat.le_of_ble_eq_true rfl) dJ0_charAt_5068e_1 ⟨by decide, by decide⟩ (fun v9 u9 H locs hv hP hD hS => ?_)
  subst hv
  have hP : va_P D vwCl [] H := hP
  have hD : va_D A [] := hD
  refine W.eq (g2 := F0 m 4 ls [.int 1]) rfl ?_
  refine lv_if_eq (tgt := 16) hx hb dJ0_charAt_5068e_4 (by decide) (fun c_4 => ?_) (fun c_4 => ?_)
  · exact absurd c_4 (by decide)
  · refine lv_aload_n hx hb dJ0_charAt_5068e_7 rfl (lv_at hl 0 rfl) ?_
    refine vk_getf hx hb hE.t.2.2.2.1 hS hown wf9 (fun _ h9 => h9) dJ0_charAt_5068e_8 ?_
    refine lv_iload_n hx hb dJ0_charAt_5068e_11 rfl (lv_at hl 1 rfl) ?_
    refine ca_S (n := 2) (rest := []) (wr := []) F hK hE hA hP hD hS hl.1 (kJ1_charAt (l := l) (D := D) (cy := cy) (sa := sa) k_ (by first | assumption | omega | decide)) gJ0_charAt_5068e_J1_charAt_3b067 rfl rfl rfl (by decide +kernel) ⟨by decide, by decide⟩ [] [] rfl rfl rfl rfl (by decide) rfl rfl (Nat.le_of_ble_eq_true rfl) dJ0_charAt_5068e_12 ⟨by decide, by decide⟩ (fun v9 u9 H locs hv hP hD hS => ?_)
    subst hv
    have hP : va_P D vwCl [] H := hP
    have hD : va_D A [] := hD
    refine W.eq (g2 := F0 m 15 ls [.int (s_WORDS k_)]) rfl ?_
    exact RT _ _ () H locs 15 ls (rt_c (ch_n k_ hk) dJ0_charAt_5068e_15) rfl hP hD hS
