abbrev rmkX0_init : Room := { frames := 1, cells := 1, slots := 6, locals := 40 }
set_option maxHeartbeats 400000 in
set_option maxRecDepth 100000 in
theorem kX0_init {l : Launch} {D : va_G} {cy : Nat → ClassId} {sa : Nat → Nat} (a1_ : Nat)  : CT (S := (Nat)) l D cy sa yX0_init wsX0_init rmkX0_init [.ref a1_] [(a1_, .inr (0, [.null]))] (fun v9 m1 => v9 = none) (fun m1 => [(a1_, .inr (0, [.ref m1])), (m1, .inl (cy 0, 6, .inl s_FIRST))]) 1 6 := by
  refine CT.of cX0_init 1 none (by decide +kernel) rfl (Nat.le_of_ble_eq_true rfl) ?_
  intro p e s m args below meth c A Q ls F hmn hK hE hA hP hD hS hl RT
  obtain ⟨hx, hb, hml, hown, hts⟩ := id F
  have wm3 := hts (.methodLink RX0 3 objectInit) (by decide +kernel)
  have wi_obj := hts (.instanceMethod objectInit) (by decide +kernel)
  have wk_obj := hts (.code objectInit ⟨#[0xb1]⟩ 1 none) (by decide +kernel)
  have wac0 := hts (.arrayClass .int) (by decide +kernel)
  have winX0 : ∀ w ∈ u_ws RX0 TX0 1, w ∈ wsX0_init := by decide +kernel
  have wf9 := hts (.fieldLink RX0 9 "SelfSteer$Bicycle" "numbers" "[I") (by decide +kernel)
  have wm18 := hts (.methodLink RX0 18 arraycopyName) (by decide +kernel)
  have wcn := hts (.native arraycopyName) (by decide +kernel)
  have wcs := hts (.static arraycopyName) (by decide +kernel)
  have wci := hts (.initialized "java/lang/System") (by decide +kernel)
  have hl : lv_has ls 1 [(0, .ref a1_)] := hl
  have hP : va_P D vwCl [(a1_, .inr (0, [.null]))] s.heap := hP
  have hD : va_D A [(a1_, .inr (0, [.null]))] := hD
  obtain ⟨H, hH⟩ : ∃ H0 : Heap, H0 = s.heap := ⟨_, rfl⟩
  obtain ⟨locs, hlo⟩ : ∃ L0 : List Loc, L0 = [] := ⟨_, rfl⟩
  have hS : va_S A s.heap H locs := by rw [hH, hlo]; exact hS
  rw [← hH] at hP
  show W p l e rmkX0_init s m args below meth c s.heap [] 0 0 Q (F0 m 0 ls [])
  suffices hgo : W p l e rmkX0_init s m args below meth c H locs 0 0 Q (F0 m 0 ls []) by rw [hH, hlo] at hgo; exact hgo
  clear hH hlo
  refine lv_aload_n hx hb dX0_init_0 rfl (lv_at hl 0 rfl) ?_
  refine W.objInit hx hb hown wm3 wi_obj wk_obj rfl (by rw [hml]; exact hl.1) rfl dX0_init_1 (Nat.le_of_ble_eq_true rfl) (Nat.le_of_ble_eq_true rfl) ?_
  refine W.eq (g2 := F0 m 4 ls []) rfl ?_
  refine lv_aload_n hx hb dX0_init_4 rfl (lv_at hl 0 rfl) ?_
  refine lv_bipush (v := 6) hx hb dX0_init_5 (by decide) ?_
  refine nw_a (cy := cy) (N' := 6) (atype := .int) (a0 := (6, .inl (fun _ => 0))) (ty := .int) hx hb 0 rfl (fun _ _ h9 => h9) wac0 rfl hK hP hD hS hA (fun _ => rfl) (by decide) rfl (Nat.le_of_ble_eq_true rfl) (Nat.le_of_ble_eq_true rfl) (Nat.le_of_ble_eq_true rfl) dX0_init_7 (fun nw7 H hP hD hS => ?_)
  have hP : va_P D vwCl [(a1_, .inr (0, [.null])), (nw7, .inl (cy 0, 6, .inl (fun _ => 0)))] H := hP
  have hD : va_D A [(a1_, .inr (0, [.null])), (nw7, .inl (cy 0, 6, .inl (fun _ => 0)))] := hD
  refine va_putF (D := D) (ci := 0) (v := .ref nw7) (ty := .array .int) (C := RX0) (T := TX0) (N := 1) hx hb hts winX0 tyX0 tyX0_ok nmX0 hown hK hP hD hS 0 rfl rfl 0 (by decide) wf9 (fun _ h9 => h9) rfl hmn rfl (by decide +kernel) (rfl) (rfl) (Nat.le_of_ble_eq_true rfl) dX0_init_9 (fun H locs hP hD hS => ?_)
  have hP : va_P D vwCl [(a1_, .inr (0, [.ref nw7])), (nw7, .inl (cy 0, 6, .inl (fun _ => 0)))] H := hP
  have hD : va_D A [(a1_, .inr (0, [.ref nw7])), (nw7, .inl (cy 0, 6, .inl (fun _ => 0)))] := hD
  refine va_getsN hx hb hE.2.2.1.1 hS hown (hE.nestB 1 rfl) (fun _ h9 => h9) dX0_init_12 ?_
  refine lv_iconst (v := 0) hx hb dX0_init_15 (by decide) ?_
  refine lv_aload_n hx hb dX0_init_16 rfl (lv_at hl 0 rfl) ?_
  refine va_get (D := D) (ci := 0) (v := .ref nw7) (C := RX0) (T := TX0) (N := 1) hx hb hts winX0 hown hK hP 0 rfl rfl 0 (by decide) wf9 (fun _ h9 => h9) rfl dX0_init_17 ?_
  refine lv_iconst (v := 0) hx hb dX0_init_20 (by decide) ?_
  refine lv_bipush (v := 6) hx hb dX0_init_21 (by decide) ?_
  refine cp_s hx hb (hml.trans hl.1.symm) hown wm18 wcn wcs wci hK hP hD hS 1 hE.2.2.1.2 rfl rfl (by decide) (by decide) (Nat.le_of_ble_eq_true rfl) dX0_init_23 (fun H locs hP hD hS => ?_)
  have hP : va_P D vwCl [(a1_, .inr (0, [.ref nw7])), (nw7, .inl (cy 0, 6, .inl s_FIRST))] H := hP
  have hD : va_D A [(a1_, .inr (0, [.ref nw7])), (nw7, .inl (cy 0, 6, .inl s_FIRST))] := hD
  exact RT _ _ (nw7) H locs 26 ls (rt_v dX0_init_26) rfl hP hD hS
abbrev rmkX7_init : Room := { frames := 1, cells := 1, slots := 5, locals := 40 }
set_option maxHeartbeats 400000 in
set_option maxRecDepth 100000 in
theorem kX7_init {l : Launch} {D : va_G} {cy : Nat → ClassId} {sa : Nat → Nat} (a1_ : Nat)  : CT (S := (Nat)) l D cy sa yX7_init wsX7_init rmkX7_init [.ref a1_] [(a1_, .inr (7, [.null, .int 0]))] (fun v9 m1 => v9 = none) (fun m1 => [(a1_, .inr (7, [.ref m1, .int 0])), (m1, .inl (cy 0, 5, .inl s_UNTOLD))]) 1 5 := by
  refine CT.of cX7_init 1 none (by decide +kernel) rfl (Nat.le_of_ble_eq_true rfl) ?_
  intro p e s m args below meth c A Q ls F hmn hK hE hA hP hD hS hl RT
  obtain ⟨hx, hb, hml, hown, hts⟩ := id F
  have wm1 := hts (.methodLink RX7 1 objectInit) (by decide +kernel)
  have wi_obj := hts (.instanceMethod objectInit) (by decide +kernel)
  have wk_obj := hts (.code objectInit ⟨#[0xb1]⟩ 1 none) (by decide +kernel)
  have wac0 := hts (.arrayClass .int) (by decide +kernel)
  have winX7 : ∀ w ∈ u_ws RX7 TX7 2, w ∈ wsX7_init := by decide +kernel
  have wf9 := hts (.fieldLink RX7 9 "SelfSteer$Rider" "values" "[I") (by decide +kernel)
  have wf13 := hts (.fieldLink RX7 13 "SelfSteer$Rider" "toldBits" "I") (by decide +kernel)
  have wf17 := hts (.fieldLink RX7 17 "SelfSteer$Rider" "UNTOLD" "[I") (by decide +kernel)
  have wm20 := hts (.methodLink RX7 20 arraycopyName) (by decide +kernel)
  have wcn := hts (.native arraycopyName) (by decide +kernel)
  have wcs := hts (.static arraycopyName) (by decide +kernel)
  have wci := hts (.initialized "java/lang/System") (by decide +kernel)
  have hl : lv_has ls 1 [(0, .ref a1_)] := hl
  have hP : va_P D vwCl [(a1_, .inr (7, [.null, .int 0]))] s.heap := hP
  have hD : va_D A [(a1_, .inr (7, [.null, .int 0]))] := hD
  obtain ⟨H, hH⟩ : ∃ H0 : Heap, H0 = s.heap := ⟨_, rfl⟩
  obtain ⟨locs, hlo⟩ : ∃ L0 : List Loc, L0 = [] := ⟨_, rfl⟩
  have hS : va_S A s.heap H locs := by rw [hH, hlo]; exact hS
  rw [← hH] at hP
  show W p l e rmkX7_init s m args below meth c s.heap [] 0 0 Q (F0 m 0 ls [])
  suffices hgo : W p l e rmkX7_init s m args below meth c H locs 0 0 Q (F0 m 0 ls []) by rw [hH, hlo] at hgo; exact hgo
  clear hH hlo
  refine lv_aload_n hx hb dX7_init_0 rfl (lv_at hl 0 rfl) ?_
  refine W.objInit hx hb hown wm1 wi_obj wk_obj rfl (by rw [hml]; exact hl.1) rfl dX7_init_1 (Nat.le_of_ble_eq_true rfl) (Nat.le_of_ble_eq_true rfl) ?_
  refine W.eq (g2 := F0 m 4 ls []) rfl ?_
  refine lv_aload_n hx hb dX7_init_4 rfl (lv_at hl 0 rfl) ?_
  refine lv_iconst (v := 5) hx hb dX7_init_5 (by decide) ?_
  refine nw_a (cy := cy) (N' := 5) (atype := .int) (a0 := (5, .inl (fun _ => 0))) (ty := .int) hx hb 0 rfl (fun _ _ h9 => h9) wac0 rfl hK hP hD hS hA (fun _ => rfl) (by decide) rfl (Nat.le_of_ble_eq_true rfl) (Nat.le_of_ble_eq_true rfl) (Nat.le_of_ble_eq_true rfl) dX7_init_6 (fun nw6 H hP hD hS => ?_)
  have hP : va_P D vwCl [(a1_, .inr (7, [.null, .int 0])), (nw6, .inl (cy 0, 5, .inl (fun _ => 0)))] H := hP
  have hD : va_D A [(a1_, .inr (7, [.null, .int 0])), (nw6, .inl (cy 0, 5, .inl (fun _ => 0)))] := hD
  refine va_putF (D := D) (ci := 7) (v := .ref nw6) (ty := .array .int) (C := RX7) (T := TX7) (N := 2) hx hb hts winX7 tyX7 tyX7_ok nmX7 hown hK hP hD hS 0 rfl rfl 0 (by decide) wf9 (fun _ h9 => h9) rfl hmn rfl (by decide +kernel) (rfl) (rfl) (Nat.le_of_ble_eq_true rfl) dX7_init_8 (fun H locs hP hD hS => ?_)
  have hP : va_P D vwCl [(a1_, .inr (7, [.ref nw6, .int 0])), (nw6, .inl (cy 0, 5, .inl (fun _ => 0)))] H := hP
  have hD : va_D A [(a1_, .inr (7, [.ref nw6, .int 0])), (nw6, .inl (cy 0, 5, .inl (fun _ => 0)))] := hD
  refine lv_aload_n hx hb dX7_init_11 rfl (lv_at hl 0 rfl) ?_
  refine lv_iconst (v := 0) hx hb dX7_init_12 (by decide) ?_
  refine va_put (D := D) (ci := 7) (v := .int 0) (ty := .int) (C := RX7) (T := TX7) (N := 2) hx hb hts winX7 tyX7 tyX7_ok nmX7 hown hK hP hD hS 0 rfl rfl 1 (by decide) wf13 (fun _ h9 => h9) rfl (by decide +kernel) (rfl) (rfl) (Nat.le_of_ble_eq_true rfl) dX7_init_13 (fun H locs hP hD hS => ?_)
  have hP : va_P D vwCl [(a1_, .inr (7, [.ref nw6, .int 0])), (nw6, .inl (cy 0, 5, .inl (fun _ => 0)))] H := hP
  have hD : va_D A [(a1_, .inr (7, [.ref nw6, .int 0])), (nw6, .inl (cy 0, 5, .inl (fun _ => 0)))] := hD
  refine va_gets hx hb hE.2.2.2.2.2.1.1 hS hown wf17 (fun _ h9 => h9) dX7_init_16 ?_
  refine lv_iconst (v := 0) hx hb dX7_init_19 (by decide) ?_
  refine lv_aload_n hx hb dX7_init_20 rfl (lv_at hl 0 rfl) ?_
  refine va_get (D := D) (ci := 7) (v := .ref nw6) (C := RX7) (T := TX7) (N := 2) hx hb hts winX7 hown hK hP 0 rfl rfl 0 (by decide) wf9 (fun _ h9 => h9) rfl dX7_init_21 ?_
  refine lv_iconst (v := 0) hx hb dX7_init_24 (by decide) ?_
  refine lv_iconst (v := 5) hx hb dX7_init_25 (by decide) ?_
  refine cp_s hx hb (hml.trans hl.1.symm) hown wm20 wcn wcs wci hK hP hD hS 1 hE.2.2.2.2.2.1.2 rfl rfl (by decide) (by decide) (Nat.le_of_ble_eq_true rfl) dX7_init_26 (fun H locs hP hD hS => ?_)
  have hP : va_P D vwCl [(a1_, .inr (7, [.ref nw6, .int 0])), (nw6, .inl (cy 0, 5, .inl s_UNTOLD))] H := hP
  have hD : va_D A [(a1_, .inr (7, [.ref nw6, .int 0])), (nw6, .inl (cy 0, 5, .inl s_UNTOLD))] := hD
  exact RT _ _ (nw6) H locs 29 ls (rt_v dX7_init_29) rfl hP hD hS
abbrev rmkX3_init : Room := { frames := 1, cells := 2, slots := 4, locals := 30 }
set_option maxHeartbeats 400000 in
set_option maxRecDepth 100000 in
theorem kX3_init {l : Launch} {D : va_G} {cy : Nat → ClassId} {sa : Nat → Nat} (a1_ : Nat)  : CT (S := (Nat) × (Nat)) l D cy sa yX3_init wsX3_init rmkX3_init [.ref a1_] [(a1_, .inr (3, [.null, .null]))] (fun v9 u9 => match u9 with | (m1, m2) => v9 = none) (fun u9 => match u9 with | (m1, m2) => [(a1_, .inr (3, [.ref m1, .ref m2])), (m1, .inl (cy 0, 2, .inl (upd (upd (fun _ => 0) 0 100) 1 0))), (m2, .inl (cy 1, 2, .inl (upd (upd (fun _ => 0) 0 1) 1 0)))]) 2 4 := by
  refine CT.of cX3_init 1 none (by decide +kernel) rfl (Nat.le_of_ble_eq_true rfl) ?_
  intro p e s m args below meth c A Q ls F hmn hK hE hA hP hD hS hl RT
  obtain ⟨hx, hb, hml, hown, hts⟩ := id F
  have wm1 := hts (.methodLink RX3 1 objectInit) (by decide +kernel)
  have wi_obj := hts (.instanceMethod objectInit) (by decide +kernel)
  have wk_obj := hts (.code objectInit ⟨#[0xb1]⟩ 1 none) (by decide +kernel)
  have wac0 := hts (.arrayClass .int) (by decide +kernel)
  have winX3 : ∀ w ∈ u_ws RX3 TX3 2, w ∈ wsX3_init := by decide +kernel
  have wf9 := hts (.fieldLink RX3 9 "SelfSteer$Habits" "values" "[I") (by decide +kernel)
  have wac1 := hts (.arrayClass .boolean) (by decide +kernel)
  have wf13 := hts (.fieldLink RX3 13 "SelfSteer$Habits" "wasWhole" "[Z") (by decide +kernel)
  have hl : lv_has ls 1 [(0, .ref a1_)] := hl
  have hP : va_P D vwCl [(a1_, .inr (3, [.null, .null]))] s.heap := hP
  have hD : va_D A [(a1_, .inr (3, [.null, .null]))] := hD
  obtain ⟨H, hH⟩ : ∃ H0 : Heap, H0 = s.heap := ⟨_, rfl⟩
  obtain ⟨locs, hlo⟩ : ∃ L0 : List Loc, L0 = [] := ⟨_, rfl⟩
  have hS : va_S A s.heap H locs := by rw [hH, hlo]; exact hS
  rw [← hH] at hP
  show W p l e rmkX3_init s m args below meth c s.heap [] 0 0 Q (F0 m 0 ls [])
  suffices hgo : W p l e rmkX3_init s m args below meth c H locs 0 0 Q (F0 m 0 ls []) by rw [hH, hlo] at hgo; exact hgo
  clear hH hlo
  refine lv_aload_n hx hb dX3_init_0 rfl (lv_at hl 0 rfl) ?_
  refine W.objInit hx hb hown wm1 wi_obj wk_obj rfl (by rw [hml]; exact hl.1) rfl dX3_init_1 (Nat.le_of_ble_eq_true rfl) (Nat.le_of_ble_eq_true rfl) ?_
  refine W.eq (g2 := F0 m 4 ls []) rfl ?_
  refine lv_aload_n hx hb dX3_init_4 rfl (lv_at hl 0 rfl) ?_
  refine lv_iconst (v := 2) hx hb dX3_init_5 (by decide) ?_
  refine nw_a (cy := cy) (N' := 2) (atype := .int) (a0 := (2, .inl (fun _ => 0))) (ty := .int) hx hb 0 rfl (fun _ _ h9 => h9) wac0 rfl hK hP hD hS hA (fun _ => rfl) (by decide) rfl (Nat.le_of_ble_eq_true rfl) (Nat.le_of_ble_eq_true rfl) (Nat.le_of_ble_eq_true rfl) dX3_init_6 (fun nw6 H hP hD hS => ?_)
  have hP : va_P D vwCl [(a1_, .inr (3, [.null, .null])), (nw6, .inl (cy 0, 2, .inl (fun _ => 0)))] H := hP
  have hD : va_D A [(a1_, .inr (3, [.null, .null])), (nw6, .inl (cy 0, 2, .inl (fun _ => 0)))] := hD
  refine lv_dup hx hb dX3_init_8 rfl ?_
  refine lv_iconst (v := 0) hx hb dX3_init_9 (by decide) ?_
  refine lv_bipush (v := 100) hx hb dX3_init_10 (by decide) ?_
  refine as_i (x := 100) hx hb hK hP hD hS 1 rfl 0 (rfl) (by decide) (by decide) dX3_init_12 (fun H locs hP hD hS => ?_)
  have hP : va_P D vwCl [(a1_, .inr (3, [.null, .null])), (nw6, .inl (cy 0, 2, .inl (upd (fun _ => 0) 0 100)))] H := hP
  have hD : va_D A [(a1_, .inr (3, [.null, .null])), (nw6, .inl (cy 0, 2, .inl (upd (fun _ => 0) 0 100)))] := hD
  refine lv_dup hx hb dX3_init_13 rfl ?_
  refine lv_iconst (v := 1) hx hb dX3_init_14 (by decide) ?_
  refine lv_iconst (v := 0) hx hb dX3_init_15 (by decide) ?_
  refine as_i (x := 0) hx hb hK hP hD hS 1 rfl 1 (rfl) (by decide) (by decide) dX3_init_16 (fun H locs hP hD hS => ?_)
  have hP : va_P D vwCl [(a1_, .inr (3, [.null, .null])), (nw6, .inl (cy 0, 2, .inl (upd (upd (fun _ => 0) 0 100) 1 0)))] H := hP
  have hD : va_D A [(a1_, .inr (3, [.null, .null])), (nw6, .inl (cy 0, 2, .inl (upd (upd (fun _ => 0) 0 100) 1 0)))] := hD
  refine va_putF (D := D) (ci := 3) (v := .ref nw6) (ty := .array .int) (C := RX3) (T := TX3) (N := 2) hx hb hts winX3 tyX3 tyX3_ok nmX3 hown hK hP hD hS 0 rfl rfl 0 (by decide) wf9 (fun _ h9 => h9) rfl hmn rfl (by decide +kernel) (rfl) (rfl) (Nat.le_of_ble_eq_true rfl) dX3_init_17 (fun H locs hP hD hS => ?_)
  have hP : va_P D vwCl [(a1_, .inr (3, [.ref nw6, .null])), (nw6, .inl (cy 0, 2, .inl (upd (upd (fun _ => 0) 0 100) 1 0)))] H := hP
  have hD : va_D A [(a1_, .inr (3, [.ref nw6, .null])), (nw6, .inl (cy 0, 2, .inl (upd (upd (fun _ => 0) 0 100) 1 0)))] := hD
  refine lv_aload_n hx hb dX3_init_20 rfl (lv_at hl 0 rfl) ?_
  refine lv_iconst (v := 2) hx hb dX3_init_21 (by decide) ?_
  refine nw_a (cy := cy) (N' := 2) (atype := .boolean) (a0 := (2, .inl (fun _ => 0))) (ty := .boolean) hx hb 1 rfl (fun _ _ h9 => h9) wac1 rfl hK hP hD hS hA (fun _ => rfl) (by decide) rfl (Nat.le_of_ble_eq_true rfl) (Nat.le_of_ble_eq_true rfl) (Nat.le_of_ble_eq_true rfl) dX3_init_22 (fun nw22 H hP hD hS => ?_)
  have hP : va_P D vwCl [(a1_, .inr (3, [.ref nw6, .null])), (nw6, .inl (cy 0, 2, .inl (upd (upd (fun _ => 0) 0 100) 1 0))), (nw22, .inl (cy 1, 2, .inl (fun _ => 0)))] H := hP
  have hD : va_D A [(a1_, .inr (3, [.ref nw6, .null])), (nw6, .inl (cy 0, 2, .inl (upd (upd (fun _ => 0) 0 100) 1 0))), (nw22, .inl (cy 1, 2, .inl (fun _ => 0)))] := hD
  refine lv_dup hx hb dX3_init_24 rfl ?_
  refine lv_iconst (v := 0) hx hb dX3_init_25 (by decide) ?_
  refine lv_iconst (v := 1) hx hb dX3_init_26 (by decide) ?_
  refine as_z (x := 1) hx hb hK hP hD hS 2 rfl 0 (rfl) (by decide) (by decide) (rfl) dX3_init_27 (fun H locs hP hD hS => ?_)
  have hP : va_P D vwCl [(a1_, .inr (3, [.ref nw6, .null])), (nw6, .inl (cy 0, 2, .inl (upd (upd (fun _ => 0) 0 100) 1 0))), (nw22, .inl (cy 1, 2, .inl (upd (fun _ => 0) 0 1)))] H := hP
  have hD : va_D A [(a1_, .inr (3, [.ref nw6, .null])), (nw6, .inl (cy 0, 2, .inl (upd (upd (fun _ => 0) 0 100) 1 0))), (nw22, .inl (cy 1, 2, .inl (upd (fun _ => 0) 0 1)))] := hD
  refine lv_dup hx hb dX3_init_28 rfl ?_
  refine lv_iconst (v := 1) hx hb dX3_init_29 (by decide) ?_
  refine lv_iconst (v := 0) hx hb dX3_init_30 (by decide) ?_
  refine as_z (x := 0) hx hb hK hP hD hS 2 rfl 1 (rfl) (by decide) (by decide) (rfl) dX3_init_31 (fun H locs hP hD hS => ?_)
  have hP : va_P D vwCl [(a1_, .inr (3, [.ref nw6, .null])), (nw6, .inl (cy 0, 2, .inl (upd (upd (fun _ => 0) 0 100) 1 0))), (nw22, .inl (cy 1, 2, .inl (upd (upd (fun _ => 0) 0 1) 1 0)))] H := hP
  have hD : va_D A [(a1_, .inr (3, [.ref nw6, .null])), (nw6, .inl (cy 0, 2, .inl (upd (upd (fun _ => 0) 0 100) 1 0))), (nw22, .inl (cy 1, 2, .inl (upd (upd (fun _ => 0) 0 1) 1 0)))] := hD
  refine va_putF (D := D) (ci := 3) (v := .ref nw22) (ty := .array .boolean) (C := RX3) (T := TX3) (N := 2) hx hb hts winX3 tyX3 tyX3_ok nmX3 hown hK hP hD hS 0 rfl rfl 1 (by decide) wf13 (fun _ h9 => h9) rfl hmn rfl (by decide +kernel) (rfl) (rfl) (Nat.le_of_ble_eq_true rfl) dX3_init_32 (fun H locs hP hD hS => ?_)
  have hP : va_P D vwCl [(a1_, .inr (3, [.ref nw6, .ref nw22])), (nw6, .inl (cy 0, 2, .inl (upd (upd (fun _ => 0) 0 100) 1 0))), (nw22, .inl (cy 1, 2, .inl (upd (upd (fun _ => 0) 0 1) 1 0)))] H := hP
  have hD : va_D A [(a1_, .inr (3, [.ref nw6, .ref nw22])), (nw6, .inl (cy 0, 2, .inl (upd (upd (fun _ => 0) 0 100) 1 0))), (nw22, .inl (cy 1, 2, .inl (upd (upd (fun _ => 0) 0 1) 1 0)))] := hD
  exact RT _ _ (nw6, nw22) H locs 35 ls (rt_v dX3_init_35) rfl hP hD hS
abbrev rmkX6_init : Room := { frames := 1, cells := 3, slots := 18, locals := 30 }
set_option maxHeartbeats 400000 in
set_option maxRecDepth 100000 in
theorem kX6_init {l : Launch} {D : va_G} {cy : Nat → ClassId} {sa : Nat → Nat} (a1_ : Nat)  : CT (S := (Nat) × (Nat) × (Nat)) l D cy sa yX6_init wsX6_init rmkX6_init [.ref a1_] [(a1_, .inr (6, [.int 0, .int 0, .int 0, .int 0, .int 0, .int 0, .int 0, .int 0, .int 0, .int 0, .null, .null, .null]))] (fun v9 u9 => match u9 with | (m1, m2, m3) => v9 = none) (fun u9 => match u9 with | (m1, m2, m3) => [(a1_, .inr (6, [.int 0, .int 0, .int 0, .int 0, .int 0, .int 0, .int 0, .int 0, .int 0, .int 0, .ref m1, .ref m2, .ref m3])), (m1, .inl (cy 0, 6, .inl (fun _ => 0))), (m2, .inl (cy 0, 6, .inl (fun _ => 0))), (m3, .inl (cy 0, 6, .inl (fun _ => 0)))]) 3 18 := by
  refine CT.of cX6_init 1 none (by decide +kernel) rfl (Nat.le_of_ble_eq_true rfl) ?_
  intro p e s m args below meth c A Q ls F hmn hK hE hA hP hD hS hl RT
  obtain ⟨hx, hb, hml, hown, hts⟩ := id F
  have wm3 := hts (.methodLink RX6 3 objectInit) (by decide +kernel)
  have wi_obj := hts (.instanceMethod objectInit) (by decide +kernel)
  have wk_obj := hts (.code objectInit ⟨#[0xb1]⟩ 1 none) (by decide +kernel)
  have winX6 : ∀ w ∈ u_ws RX6 TX6 13, w ∈ wsX6_init := by decide +kernel
  have wf9 := hts (.fieldLink RX6 9 "SelfSteer$Ride" "bicycle" "I") (by decide +kernel)
  have wf15 := hts (.fieldLink RX6 15 "SelfSteer$Ride" "speed" "I") (by decide +kernel)
  have wf18 := hts (.fieldLink RX6 18 "SelfSteer$Ride" "reversed" "Z") (by decide +kernel)
  have wf22 := hts (.fieldLink RX6 22 "SelfSteer$Ride" "lean" "I") (by decide +kernel)
  have wf25 := hts (.fieldLink RX6 25 "SelfSteer$Ride" "bar" "I") (by decide +kernel)
  have wf28 := hts (.fieldLink RX6 28 "SelfSteer$Ride" "leanChange" "I") (by decide +kernel)
  have wf31 := hts (.fieldLink RX6 31 "SelfSteer$Ride" "barChange" "I") (by decide +kernel)
  have wf34 := hts (.fieldLink RX6 34 "SelfSteer$Ride" "hand" "I") (by decide +kernel)
  have wf37 := hts (.fieldLink RX6 37 "SelfSteer$Ride" "ticks" "I") (by decide +kernel)
  have wf40 := hts (.fieldLink RX6 40 "SelfSteer$Ride" "lies" "Z") (by decide +kernel)
  have wac0 := hts (.arrayClass .int) (by decide +kernel)
  have wf43 := hts (.fieldLink RX6 43 "SelfSteer$Ride" "pastLean" "[I") (by decide +kernel)
  have wf47 := hts (.fieldLink RX6 47 "SelfSteer$Ride" "pastLeanChange" "[I") (by decide +kernel)
  have wf50 := hts (.fieldLink RX6 50 "SelfSteer$Ride" "pastBar" "[I") (by decide +kernel)
  have hl : lv_has ls 1 [(0, .ref a1_)] := hl
  have hP : va_P D vwCl [(a1_, .inr (6, [.int 0, .int 0, .int 0, .int 0, .int 0, .int 0, .int 0, .int 0, .int 0, .int 0, .null, .null, .null]))] s.heap := hP
  have hD : va_D A [(a1_, .inr (6, [.int 0, .int 0, .int 0, .int 0, .int 0, .int 0, .int 0, .int 0, .int 0, .int 0, .null, .null, .null]))] := hD
  obtain ⟨H, hH⟩ : ∃ H0 : Heap, H0 = s.heap := ⟨_, rfl⟩
  obtain ⟨locs, hlo⟩ : ∃ L0 : List Loc, L0 = [] := ⟨_, rfl⟩
  have hS : va_S A s.heap H locs := by rw [hH, hlo]; exact hS
  rw [← hH] at hP
  show W p l e rmkX6_init s m args below meth c s.heap [] 0 0 Q (F0 m 0 ls [])
  suffices hgo : W p l e rmkX6_init s m args below meth c H locs 0 0 Q (F0 m 0 ls []) by rw [hH, hlo] at hgo; exact hgo
  clear hH hlo
  refine lv_aload_n hx hb dX6_init_0 rfl (lv_at hl 0 rfl) ?_
  refine W.objInit hx hb hown wm3 wi_obj wk_obj rfl (by rw [hml]; exact hl.1) rfl dX6_init_1 (Nat.le_of_ble_eq_true rfl) (Nat.le_of_ble_eq_true rfl) ?_
  refine W.eq (g2 := F0 m 4 ls []) rfl ?_
  refine lv_aload_n hx hb dX6_init_4 rfl (lv_at hl 0 rfl) ?_
  refine lv_iconst (v := 0) hx hb dX6_init_5 (by decide) ?_
  refine va_put (D := D) (ci := 6) (v := .int 0) (ty := .int) (C := RX6) (T := TX6) (N := 13) hx hb hts winX6 tyX6 tyX6_ok nmX6 hown hK hP hD hS 0 rfl rfl 0 (by decide) wf9 (fun _ h9 => h9) rfl (by decide +kernel) (rfl) (rfl) (Nat.le_of_ble_eq_true rfl) dX6_init_6 (fun H locs hP hD hS => ?_)
  have hP : va_P D vwCl [(a1_, .inr (6, [.int 0, .int 0, .int 0, .int 0, .int 0, .int 0, .int 0, .int 0, .int 0, .int 0, .null, .null, .null]))] H := hP
  have hD : va_D A [(a1_, .inr (6, [.int 0, .int 0, .int 0, .int 0, .int 0, .int 0, .int 0, .int 0, .int 0, .int 0, .null, .null, .null]))] := hD
  refine lv_aload_n hx hb dX6_init_9 rfl (lv_at hl 0 rfl) ?_
  refine lv_iconst (v := 0) hx hb dX6_init_10 (by decide) ?_
  refine va_put (D := D) (ci := 6) (v := .int 0) (ty := .int) (C := RX6) (T := TX6) (N := 13) hx hb hts winX6 tyX6 tyX6_ok nmX6 hown hK hP hD hS 0 rfl rfl 1 (by decide) wf15 (fun _ h9 => h9) rfl (by decide +kernel) (rfl) (rfl) (Nat.le_of_ble_eq_true rfl) dX6_init_11 (fun H locs hP hD hS => ?_)
  have hP : va_P D vwCl [(a1_, .inr (6, [.int 0, .int 0, .int 0, .int 0, .int 0, .int 0, .int 0, .int 0, .int 0, .int 0, .null, .null, .null]))] H := hP
  have hD : va_D A [(a1_, .inr (6, [.int 0, .int 0, .int 0, .int 0, .int 0, .int 0, .int 0, .int 0, .int 0, .int 0, .null, .null, .null]))] := hD
  refine lv_aload_n hx hb dX6_init_14 rfl (lv_at hl 0 rfl) ?_
  refine lv_iconst (v := 0) hx hb dX6_init_15 (by decide) ?_
  refine va_put (D := D) (ci := 6) (v := .int 0) (ty := .boolean) (C := RX6) (T := TX6) (N := 13) hx hb hts winX6 tyX6 tyX6_ok nmX6 hown hK hP hD hS 0 rfl rfl 2 (by decide) wf18 (fun _ h9 => h9) rfl (by decide +kernel) (rfl) (rfl) (Nat.le_of_ble_eq_true rfl) dX6_init_16 (fun H locs hP hD hS => ?_)
  have hP : va_P D vwCl [(a1_, .inr (6, [.int 0, .int 0, .int 0, .int 0, .int 0, .int 0, .int 0, .int 0, .int 0, .int 0, .null, .null, .null]))] H := hP
  have hD : va_D A [(a1_, .inr (6, [.int 0, .int 0, .int 0, .int 0, .int 0, .int 0, .int 0, .int 0, .int 0, .int 0, .null, .null, .null]))] := hD
  refine lv_aload_n hx hb dX6_init_19 rfl (lv_at hl 0 rfl) ?_
  refine lv_iconst (v := 0) hx hb dX6_init_20 (by decide) ?_
  refine va_put (D := D) (ci := 6) (v := .int 0) (ty := .int) (C := RX6) (T := TX6) (N := 13) hx hb hts winX6 tyX6 tyX6_ok nmX6 hown hK hP hD hS 0 rfl rfl 3 (by decide) wf22 (fun _ h9 => h9) rfl (by decide +kernel) (rfl) (rfl) (Nat.le_of_ble_eq_true rfl) dX6_init_21 (fun H locs hP hD hS => ?_)
  have hP : va_P D vwCl [(a1_, .inr (6, [.int 0, .int 0, .int 0, .int 0, .int 0, .int 0, .int 0, .int 0, .int 0, .int 0, .null, .null, .null]))] H := hP
  have hD : va_D A [(a1_, .inr (6, [.int 0, .int 0, .int 0, .int 0, .int 0, .int 0, .int 0, .int 0, .int 0, .int 0, .null, .null, .null]))] := hD
  refine lv_aload_n hx hb dX6_init_24 rfl (lv_at hl 0 rfl) ?_
  refine lv_iconst (v := 0) hx hb dX6_init_25 (by decide) ?_
  refine va_put (D := D) (ci := 6) (v := .int 0) (ty := .int) (C := RX6) (T := TX6) (N := 13) hx hb hts winX6 tyX6 tyX6_ok nmX6 hown hK hP hD hS 0 rfl rfl 4 (by decide) wf25 (fun _ h9 => h9) rfl (by decide +kernel) (rfl) (rfl) (Nat.le_of_ble_eq_true rfl) dX6_init_26 (fun H locs hP hD hS => ?_)
  have hP : va_P D vwCl [(a1_, .inr (6, [.int 0, .int 0, .int 0, .int 0, .int 0, .int 0, .int 0, .int 0, .int 0, .int 0, .null, .null, .null]))] H := hP
  have hD : va_D A [(a1_, .inr (6, [.int 0, .int 0, .int 0, .int 0, .int 0, .int 0, .int 0, .int 0, .int 0, .int 0, .null, .null, .null]))] := hD
  refine lv_aload_n hx hb dX6_init_29 rfl (lv_at hl 0 rfl) ?_
  refine lv_iconst (v := 0) hx hb dX6_init_30 (by decide) ?_
  refine va_put (D := D) (ci := 6) (v := .int 0) (ty := .int) (C := RX6) (T := TX6) (N := 13) hx hb hts winX6 tyX6 tyX6_ok nmX6 hown hK hP hD hS 0 rfl rfl 5 (by decide) wf28 (fun _ h9 => h9) rfl (by decide +kernel) (rfl) (rfl) (Nat.le_of_ble_eq_true rfl) dX6_init_31 (fun H locs hP hD hS => ?_)
  have hP : va_P D vwCl [(a1_, .inr (6, [.int 0, .int 0, .int 0, .int 0, .int 0, .int 0, .int 0, .int 0, .int 0, .int 0, .null, .null, .null]))] H := hP
  have hD : va_D A [(a1_, .inr (6, [.int 0, .int 0, .int 0, .int 0, .int 0, .int 0, .int 0, .int 0, .int 0, .int 0, .null, .null, .null]))] := hD
  refine lv_aload_n hx hb dX6_init_34 rfl (lv_at hl 0 rfl) ?_
  refine lv_iconst (v := 0) hx hb dX6_init_35 (by decide) ?_
  refine va_put (D := D) (ci := 6) (v := .int 0) (ty := .int) (C := RX6) (T := TX6) (N := 13) hx hb hts winX6 tyX6 tyX6_ok nmX6 hown hK hP hD hS 0 rfl rfl 6 (by decide) wf31 (fun _ h9 => h9) rfl (by decide +kernel) (rfl) (rfl) (Nat.le_of_ble_eq_true rfl) dX6_init_36 (fun H locs hP hD hS => ?_)
  have hP : va_P D vwCl [(a1_, .inr (6, [.int 0, .int 0, .int 0, .int 0, .int 0, .int 0, .int 0, .int 0, .int 0, .int 0, .null, .null, .null]))] H := hP
  have hD : va_D A [(a1_, .inr (6, [.int 0, .int 0, .int 0, .int 0, .int 0, .int 0, .int 0, .int 0, .int 0, .int 0, .null, .null, .null]))] := hD
  refine lv_aload_n hx hb dX6_init_39 rfl (lv_at hl 0 rfl) ?_
  refine lv_iconst (v := 0) hx hb dX6_init_40 (by decide) ?_
  refine va_put (D := D) (ci := 6) (v := .int 0) (ty := .int) (C := RX6) (T := TX6) (N := 13) hx hb hts winX6 tyX6 tyX6_ok nmX6 hown hK hP hD hS 0 rfl rfl 7 (by decide) wf34 (fun _ h9 => h9) rfl (by decide +kernel) (rfl) (rfl) (Nat.le_of_ble_eq_true rfl) dX6_init_41 (fun H locs hP hD hS => ?_)
  have hP : va_P D vwCl [(a1_, .inr (6, [.int 0, .int 0, .int 0, .int 0, .int 0, .int 0, .int 0, .int 0, .int 0, .int 0, .null, .null, .null]))] H := hP
  have hD : va_D A [(a1_, .inr (6, [.int 0, .int 0, .int 0, .int 0, .int 0, .int 0, .int 0, .int 0, .int 0, .int 0, .null, .null, .null]))] := hD
  refine lv_aload_n hx hb dX6_init_44 rfl (lv_at hl 0 rfl) ?_
  refine lv_iconst (v := 0) hx hb dX6_init_45 (by decide) ?_
  refine va_put (D := D) (ci := 6) (v := .int 0) (ty := .int) (C := RX6) (T := TX6) (N := 13) hx hb hts winX6 tyX6 tyX6_ok nmX6 hown hK hP hD hS 0 rfl rfl 8 (by decide) wf37 (fun _ h9 => h9) rfl (by decide +kernel) (rfl) (rfl) (Nat.le_of_ble_eq_true rfl) dX6_init_46 (fun H locs hP hD hS => ?_)
  have hP : va_P D vwCl [(a1_, .inr (6, [.int 0, .int 0, .int 0, .int 0, .int 0, .int 0, .int 0, .int 0, .int 0, .int 0, .null, .null, .null]))] H := hP
  have hD : va_D A [(a1_, .inr (6, [.int 0, .int 0, .int 0, .int 0, .int 0, .int 0, .int 0, .int 0, .int 0, .int 0, .null, .null, .null]))] := hD
  refine lv_aload_n hx hb dX6_init_49 rfl (lv_at hl 0 rfl) ?_
  refine lv_iconst (v := 0) hx hb dX6_init_50 (by decide) ?_
  refine va_put (D := D) (ci := 6) (v := .int 0) (ty := .boolean) (C := RX6) (T := TX6) (N := 13) hx hb hts winX6 tyX6 tyX6_ok nmX6 hown hK hP hD hS 0 rfl rfl 9 (by decide) wf40 (fun _ h9 => h9) rfl (by decide +kernel) (rfl) (rfl) (Nat.le_of_ble_eq_true rfl) dX6_init_51 (fun H locs hP hD hS => ?_)
  have hP : va_P D vwCl [(a1_, .inr (6, [.int 0, .int 0, .int 0, .int 0, .int 0, .int 0, .int 0, .int 0, .int 0, .int 0, .null, .null, .null]))] H := hP
  have hD : va_D A [(a1_, .inr (6, [.int 0, .int 0, .int 0, .int 0, .int 0, .int 0, .int 0, .int 0, .int 0, .int 0, .null, .null, .null]))] := hD
  refine lv_aload_n hx hb dX6_init_54 rfl (lv_at hl 0 rfl) ?_
  refine lv_bipush (v := 6) hx hb dX6_init_55 (by decide) ?_
  refine nw_a (cy := cy) (N' := 6) (atype := .int) (a0 := (6, .inl (fun _ => 0))) (ty := .int) hx hb 0 rfl (fun _ _ h9 => h9) wac0 rfl hK hP hD hS hA (fun _ => rfl) (by decide) rfl (Nat.le_of_ble_eq_true rfl) (Nat.le_of_ble_eq_true rfl) (Nat.le_of_ble_eq_true rfl) dX6_init_57 (fun nw57 H hP hD hS => ?_)
  have hP : va_P D vwCl [(a1_, .inr (6, [.int 0, .int 0, .int 0, .int 0, .int 0, .int 0, .int 0, .int 0, .int 0, .int 0, .null, .null, .null])), (nw57, .inl (cy 0, 6, .inl (fun _ => 0)))] H := hP
  have hD : va_D A [(a1_, .inr (6, [.int 0, .int 0, .int 0, .int 0, .int 0, .int 0, .int 0, .int 0, .int 0, .int 0, .null, .null, .null])), (nw57, .inl (cy 0, 6, .inl (fun _ => 0)))] := hD
  refine va_putF (D := D) (ci := 6) (v := .ref nw57) (ty := .array .int) (C := RX6) (T := TX6) (N := 13) hx hb hts winX6 tyX6 tyX6_ok nmX6 hown hK hP hD hS 0 rfl rfl 10 (by decide) wf43 (fun _ h9 => h9) rfl hmn rfl (by decide +kernel) (rfl) (rfl) (Nat.le_of_ble_eq_true rfl) dX6_init_59 (fun H locs hP hD hS => ?_)
  have hP : va_P D vwCl [(a1_, .inr (6, [.int 0, .int 0, .int 0, .int 0, .int 0, .int 0, .int 0, .int 0, .int 0, .int 0, .ref nw57, .null, .null])), (nw57, .inl (cy 0, 6, .inl (fun _ => 0)))] H := hP
  have hD : va_D A [(a1_, .inr (6, [.int 0, .int 0, .int 0, .int 0, .int 0, .int 0, .int 0, .int 0, .int 0, .int 0, .ref nw57, .null, .null])), (nw57, .inl (cy 0, 6, .inl (fun _ => 0)))] := hD
  refine lv_aload_n hx hb dX6_init_62 rfl (lv_at hl 0 rfl) ?_
  refine lv_bipush (v := 6) hx hb dX6_init_63 (by decide) ?_
  refine nw_a (cy := cy) (N' := 6) (atype := .int) (a0 := (6, .inl (fun _ => 0))) (ty := .int) hx hb 0 rfl (fun _ _ h9 => h9) wac0 rfl hK hP hD hS hA (fun _ => rfl) (by decide) rfl (Nat.le_of_ble_eq_true rfl) (Nat.le_of_ble_eq_true rfl) (Nat.le_of_ble_eq_true rfl) dX6_init_65 (fun nw65 H hP hD hS => ?_)
  have hP : va_P D vwCl [(a1_, .inr (6, [.int 0, .int 0, .int 0, .int 0, .int 0, .int 0, .int 0, .int 0, .int 0, .int 0, .ref nw57, .null, .null])), (nw57, .inl (cy 0, 6, .inl (fun _ => 0))), (nw65, .inl (cy 0, 6, .inl (fun _ => 0)))] H := hP
  have hD : va_D A [(a1_, .inr (6, [.int 0, .int 0, .int 0, .int 0, .int 0, .int 0, .int 0, .int 0, .int 0, .int 0, .ref nw57, .null, .null])), (nw57, .inl (cy 0, 6, .inl (fun _ => 0))), (nw65, .inl (cy 0, 6, .inl (fun _ => 0)))] := hD
  refine va_putF (D := D) (ci := 6) (v := .ref nw65) (ty := .array .int) (C := RX6) (T := TX6) (N := 13) hx hb hts winX6 tyX6 tyX6_ok nmX6 hown hK hP hD hS 0 rfl rfl 11 (by decide) wf47 (fun _ h9 => h9) rfl hmn rfl (by decide +kernel) (rfl) (rfl) (Nat.le_of_ble_eq_true rfl) dX6_init_67 (fun H locs hP hD hS => ?_)
  have hP : va_P D vwCl [(a1_, .inr (6, [.int 0, .int 0, .int 0, .int 0, .int 0, .int 0, .int 0, .int 0, .int 0, .int 0, .ref nw57, .ref nw65, .null])), (nw57, .inl (cy 0, 6, .inl (fun _ => 0))), (nw65, .inl (cy 0, 6, .inl (fun _ => 0)))] H := hP
  have hD : va_D A [(a1_, .inr (6, [.int 0, .int 0, .int 0, .int 0, .int 0, .int 0, .int 0, .int 0, .int 0, .int 0, .ref nw57, .ref nw65, .null])), (nw57, .inl (cy 0, 6, .inl (fun _ => 0))), (nw65, .inl (cy 0, 6, .inl (fun _ => 0)))] := hD
  refine lv_aload_n hx hb dX6_init_70 rfl (lv_at hl 0 rfl) ?_
  refine lv_bipush (v := 6) hx hb dX6_init_71 (by decide) ?_
  refine nw_a (cy := cy) (N' := 6) (atype := .int) (a0 := (6, .inl (fun _ => 0))) (ty := .int) hx hb 0 rfl (fun _ _ h9 => h9) wac0 rfl hK hP hD hS hA (fun _ => rfl) (by decide) rfl (Nat.le_of_ble_eq_true rfl) (Nat.le_of_ble_eq_true rfl) (Nat.le_of_ble_eq_true rfl) dX6_init_73 (fun nw73 H hP hD hS => ?_)
  have hP : va_P D vwCl [(a1_, .inr (6, [.int 0, .int 0, .int 0, .int 0, .int 0, .int 0, .int 0, .int 0, .int 0, .int 0, .ref nw57, .ref nw65, .null])), (nw57, .inl (cy 0, 6, .inl (fun _ => 0))), (nw65, .inl (cy 0, 6, .inl (fun _ => 0))), (nw73, .inl (cy 0, 6, .inl (fun _ => 0)))] H := hP
  have hD : va_D A [(a1_, .inr (6, [.int 0, .int 0, .int 0, .int 0, .int 0, .int 0, .int 0, .int 0, .int 0, .int 0, .ref nw57, .ref nw65, .null])), (nw57, .inl (cy 0, 6, .inl (fun _ => 0))), (nw65, .inl (cy 0, 6, .inl (fun _ => 0))), (nw73, .inl (cy 0, 6, .inl (fun _ => 0)))] := hD
  refine va_putF (D := D) (ci := 6) (v := .ref nw73) (ty := .array .int) (C := RX6) (T := TX6) (N := 13) hx hb hts winX6 tyX6 tyX6_ok nmX6 hown hK hP hD hS 0 rfl rfl 12 (by decide) wf50 (fun _ h9 => h9) rfl hmn rfl (by decide +kernel) (rfl) (rfl) (Nat.le_of_ble_eq_true rfl) dX6_init_75 (fun H locs hP hD hS => ?_)
  have hP : va_P D vwCl [(a1_, .inr (6, [.int 0, .int 0, .int 0, .int 0, .int 0, .int 0, .int 0, .int 0, .int 0, .int 0, .ref nw57, .ref nw65, .ref nw73])), (nw57, .inl (cy 0, 6, .inl (fun _ => 0))), (nw65, .inl (cy 0, 6, .inl (fun _ => 0))), (nw73, .inl (cy 0, 6, .inl (fun _ => 0)))] H := hP
  have hD : va_D A [(a1_, .inr (6, [.int 0, .int 0, .int 0, .int 0, .int 0, .int 0, .int 0, .int 0, .int 0, .int 0, .ref nw57, .ref nw65, .ref nw73])), (nw57, .inl (cy 0, 6, .inl (fun _ => 0))), (nw65, .inl (cy 0, 6, .inl (fun _ => 0))), (nw73, .inl (cy 0, 6, .inl (fun _ => 0)))] := hD
  exact RT _ _ (nw57, nw65, nw73) H locs 78 ls (rt_v dX6_init_78) rfl hP hD hS
