abbrev rmkX0_init : Room := { frames := 1, cells := 1, slots := 6, locals := 40 }
set_option maxHeartbeats 4000000 in
set_option maxRecDepth 100000 in
theorem kX0_init {l : Launch} {D : va_G} {cy : Nat → ClassId} {sa : Nat → Nat} (a1_ : Nat)  : CT (S := (Nat)) l D cy sa yX0_init wsX0_init rmkX0_init [.ref a1_] [(a1_, .inr (0, [.null]))] (fun v9 m1 => v9 = none) (fun m1 => [(a1_, .inr (0, [.ref m1])), (m1, .inl (cy 0, 6, .inl s_FIRST))]) 1 6 := by
  refine CT.of cX0_init 1 none (by decide +kernel) rfl (Nat.le_of_ble_eq_true rfl) ?_
  intro p e s m args below meth c A Q ls F hmn hK hE hA hP hD hS hl RT
  obtain ⟨hx, hb, hml, hown, hts⟩ := id F
  have wm3 := hts (.methodLink RX0 3 objectInit) (by decide +kernel)
  have wi_obj := hts (.instanceMethod objectInit) (by decide +kernel)
  have wk_obj := hts (.code objectInit ⟨#[0xb1]⟩ 1 none) (by decide +kernel)
  have wac0 := hts (.arrayClass .int) (by decide +kernel)
  have winX0 : ∀ w ∈ u_ws RX0 TX0 1, w ∈ wsX0_init := by decide +kernel
  have wf9 := hts (.fieldLink RX0 9 "SelfSteer$Bicycle" "numbers" "[I") (by decide +kernel)
  have wm18 := hts (.methodLink RX0 18 arraycopyName) (by decide +kernel)
  have wcn := hts (.native arraycopyName) (by decide +kernel)
  have wcs := hts (.static arraycopyName) (by decide +kernel)
  have wci := hts (.initialized "java/lang/System") (by decide +kernel)
  have hl : lv_has ls 1 [(0, .ref a1_)] := hl
  have hP : va_P D vwCl [(a1_, .inr (0, [.null]))] s.heap := hP
  have hD : va_D A [(a1_, .inr (0, [.null]))] := hD
  obtain ⟨H, hH⟩ : ∃ H0 : Heap, H0 = s.heap := ⟨_, rfl⟩
  obtain ⟨locs, hlo⟩ : ∃ L0 : List Loc, L0 = [] := ⟨_, rfl⟩
  have hS : va_S A s.heap H locs := by rw [hH, hlo]; exact hS
  rw [← hH] at hP
  show W p l e rmkX0_init s m args below meth c s.heap [] 0 0 Q (F0 m 0 ls [])
  suffices hgo : W p l e rmkX0_init s m args below meth c H locs 0 0 Q (F0 m 0 ls []) by rw [hH, hlo] at hgo; exact hgo
  clear hH hlo
  refine lv_aload_n hx hb dX0_init_0 rfl (lv_at hl 0 rfl) ?_
  refine W.objInit hx hb hown wm3 wi_obj wk_obj rfl (by rw [hml]; exact hl.1) rfl dX0_init_1 (Nat.le_of_ble_eq_true rfl) (Nat.le_of_ble_eq_true rfl) ?_
  refine W.eq (g2 := F0 m 4 ls []) rfl ?_
  refine lv_aload_n hx hb dX0_init_4 rfl (lv_at hl 0 rfl) ?_
  refine lv_bipush (v := 6) hx hb dX0_init_5 (by decide) ?_
  refine nw_a (cy := cy) (a0 := (6, .inl (fun _ => 0))) (ty := .int) hx hb 0 rfl (fun _ _ h9 => h9) wac0 rfl hK hP hD hS hA (fun _ => rfl) (by decide) rfl (by decide) (by decide) (by decide) dX0_init_7 (fun nw7 H hP hD hS => ?_)
  have hP : va_P D vwCl [(a1_, .inr (0, [.null])), (nw7, .inl (cy 0, 6, .inl (fun _ => 0)))] H := hP
  have hD : va_D A [(a1_, .inr (0, [.null])), (nw7, .inl (cy 0, 6, .inl (fun _ => 0)))] := hD
  refine va_putF (D := D) (ci := 0) (v := .ref nw7) (ty := .array .int) (C := RX0) (T := TX0) (N := 1) hx hb hts winX0 tyX0 tyX0_ok nmX0 hown hK hP hD hS 0 rfl rfl 0 (by decide) wf9 (fun _ h9 => h9) rfl hmn rfl (by decide +kernel) (rfl) (rfl) (Nat.le_of_ble_eq_true rfl) dX0_init_9 (fun H locs hP hD hS => ?_)
  have hP : va_P D vwCl [(a1_, .inr (0, [.ref nw7])), (nw7, .inl (cy 0, 6, .inl (fun _ => 0)))] H := hP
  have hD : va_D A [(a1_, .inr (0, [.ref nw7])), (nw7, .inl (cy 0, 6, .inl (fun _ => 0)))] := hD
  refine va_getsN hx hb hE.2.2.1.1 hS hown (hE.nestB 1 rfl) (fun _ h9 => h9) dX0_init_12 ?_
  refine lv_iconst (v := 0) hx hb dX0_init_15 (by decide) ?_
  refine lv_aload_n hx hb dX0_init_16 rfl (lv_at hl 0 rfl) ?_
  refine va_get (D := D) (ci := 0) (v := .ref nw7) (C := RX0) (T := TX0) (N := 1) hx hb hts winX0 hown hK hP 0 rfl rfl 0 (by decide) wf9 (fun _ h9 => h9) rfl dX0_init_17 ?_
  refine lv_iconst (v := 0) hx hb dX0_init_20 (by decide) ?_
  refine lv_bipush (v := 6) hx hb dX0_init_21 (by decide) ?_
  refine cp_s hx hb (hml.trans hl.1.symm) hown wm18 wcn wcs wci hK hP hD hS 1 hE.2.2.1.2 rfl rfl (by decide) (by decide) (Nat.le_of_ble_eq_true rfl) dX0_init_23 (fun H locs hP hD hS => ?_)
  have hP : va_P D vwCl [(a1_, .inr (0, [.ref nw7])), (nw7, .inl (cy 0, 6, .inl s_FIRST))] H := hP
  have hD : va_D A [(a1_, .inr (0, [.ref nw7])), (nw7, .inl (cy 0, 6, .inl s_FIRST))] := hD
  exact RT _ _ (nw7) H locs 26 ls (rt_v dX0_init_26) rfl hP hD hS
abbrev rmkX7_init : Room := { frames := 1, cells := 1, slots := 5, locals := 40 }
set_option maxHeartbeats 4000000 in
set_option maxRecDepth 100000 in
theorem kX7_init {l : Launch} {D : va_G} {cy : Nat → ClassId} {sa : Nat → Nat} (a1_ : Nat)  : CT (S := (Nat)) l D cy sa yX7_init wsX7_init rmkX7_init [.ref a1_] [(a1_, .inr (7, [.null, .int 0]))] (fun v9 m1 => v9 = none) (fun m1 => [(a1_, .inr (7, [.ref m1, .int 0])), (m1, .inl (cy 0, 5, .inl s_UNTOLD))]) 1 5 := by
  refine CT.of cX7_init 1 none (by decide +kernel) rfl (Nat.le_of_ble_eq_true rfl) ?_
  intro p e s m args below meth c A Q ls F hmn hK hE hA hP hD hS hl RT
  obtain ⟨hx, hb, hml, hown, hts⟩ := id F
  have wm1 := hts (.methodLink RX7 1 objectInit) (by decide +kernel)
  have wi_obj := hts (.instanceMethod objectInit) (by decide +kernel)
  have wk_obj := hts (.code objectInit ⟨#[0xb1]⟩ 1 none) (by decide +kernel)
  have wac0 := hts (.arrayClass .int) (by decide +kernel)
  have winX7 : ∀ w ∈ u_ws RX7 TX7 2, w ∈ wsX7_init := by decide +kernel
  have wf9 := hts (.fieldLink RX7 9 "SelfSteer$Rider" "values" "[I") (by decide +kernel)
  have wf13 := hts (.fieldLink RX7 13 "SelfSteer$Rider" "toldBits" "I") (by decide +kernel)
  have wf17 := hts (.fieldLink RX7 17 "SelfSteer$Rider" "UNTOLD" "[I") (by decide +kernel)
  have wm20 := hts (.methodLink RX7 20 arraycopyName) (by decide +kernel)
  have wcn := hts (.native arraycopyName) (by decide +kernel)
  have wcs := hts (.static arraycopyName) (by decide +kernel)
  have wci := hts (.initialized "java/lang/System") (by decide +kernel)
  have hl : lv_has ls 1 [(0, .ref a1_)] := hl
  have hP : va_P D vwCl [(a1_, .inr (7, [.null, .int 0]))] s.heap := hP
  have hD : va_D A [(a1_, .inr (7, [.null, .int 0]))] := hD
  obtain ⟨H, hH⟩ : ∃ H0 : Heap, H0 = s.heap := ⟨_, rfl⟩
  obtain ⟨locs, hlo⟩ : ∃ L0 : List Loc, L0 = [] := ⟨_, rfl⟩
  have hS : va_S A s.heap H locs := by rw [hH, hlo]; exact hS
  rw [← hH] at hP
  show W p l e rmkX7_init s m args below meth c s.heap [] 0 0 Q (F0 m 0 ls [])
  suffices hgo : W p l e rmkX7_init s m args below meth c H locs 0 0 Q (F0 m 0 ls []) by rw [hH, hlo] at hgo; exact hgo
  clear hH hlo
  refine lv_aload_n hx hb dX7_init_0 rfl (lv_at hl 0 rfl) ?_
  refine W.objInit hx hb hown wm1 wi_obj wk_obj rfl (by rw [hml]; exact hl.1) rfl dX7_init_1 (Nat.le_of_ble_eq_true rfl) (Nat.le_of_ble_eq_true rfl) ?_
  refine W.eq (g2 := F0 m 4 ls []) rfl ?_
  refine lv_aload_n hx hb dX7_init_4 rfl (lv_at hl 0 rfl) ?_
  refine lv_iconst (v := 5) hx hb dX7_init_5 (by decide) ?_
  refine nw_a (cy := cy) (a0 := (5, .inl (fun _ => 0))) (ty := .int) hx hb 0 rfl (fun _ _ h9 => h9) wac0 rfl hK hP hD hS hA (fun _ => rfl) (by decide) rfl (by decide) (by decide) (by decide) dX7_init_6 (fun nw6 H hP hD hS => ?_)
  have hP : va_P D vwCl [(a1_, .inr (7, [.null, .int 0])), (nw6, .inl (cy 0, 5, .inl (fun _ => 0)))] H := hP
  have hD : va_D A [(a1_, .inr (7, [.null, .int 0])), (nw6, .inl (cy 0, 5, .inl (fun _ => 0)))] := hD
  refine va_putF (D := D) (ci := 7) (v := .ref nw6) (ty := .array .int) (C := RX7) (T := TX7) (N := 2) hx hb hts winX7 tyX7 tyX7_ok nmX7 hown hK hP hD hS 0 rfl rfl 0 (by decide) wf9 (fun _ h9 => h9) rfl hmn rfl (by decide +kernel) (rfl) (rfl) (Nat.le_of_ble_eq_true rfl) dX7_init_8 (fun H locs hP hD hS => ?_)
  have hP : va_P D vwCl [(a1_, .inr (7, [.ref nw6, .int 0])), (nw6, .inl (cy 0, 5, .inl (fun _ => 0)))] H := hP
  have hD : va_D A [(a1_, .inr (7, [.ref nw6, .int 0])), (nw6, .inl (cy 0, 5, .inl (fun _ => 0)))] := hD
  refine lv_aload_n hx hb dX7_init_11 rfl (lv_at hl 0 rfl) ?_
  refine lv_iconst (v := 0) hx hb dX7_init_12 (by decide) ?_
  refine va_put (D := D) (ci := 7) (v := .int 0) (ty := .int) (C := RX7) (T := TX7) (N := 2) hx hb hts winX7 tyX7 tyX7_ok nmX7 hown hK hP hD hS 0 rfl rfl 1 (by decide) wf13 (fun _ h9 => h9) rfl (by decide +kernel) (rfl) (rfl) (Nat.le_of_ble_eq_true rfl) dX7_init_13 (fun H locs hP hD hS => ?_)
  have hP : va_P D vwCl [(a1_, .inr (7, [.ref nw6, .int 0])), (nw6, .inl (cy 0, 5, .inl (fun _ => 0)))] H := hP
  have hD : va_D A [(a1_, .inr (7, [.ref nw6, .int 0])), (nw6, .inl (cy 0, 5, .inl (fun _ => 0)))] := hD
  refine va_gets hx hb hE.2.2.2.2.2.1.1 hS hown wf17 (fun _ h9 => h9) dX7_init_16 ?_
  refine lv_iconst (v := 0) hx hb dX7_init_19 (by decide) ?_
  refine lv_aload_n hx hb dX7_init_20 rfl (lv_at hl 0 rfl) ?_
  refine va_get (D := D) (ci := 7) (v := .ref nw6) (C := RX7) (T := TX7) (N := 2) hx hb hts winX7 hown hK hP 0 rfl rfl 0 (by decide) wf9 (fun _ h9 => h9) rfl dX7_init_21 ?_
  refine lv_iconst (v := 0) hx hb dX7_init_24 (by decide) ?_
  refine lv_iconst (v := 5) hx hb dX7_init_25 (by decide) ?_
  refine cp_s hx hb (hml.trans hl.1.symm) hown wm20 wcn wcs wci hK hP hD hS 1 hE.2.2.2.2.2.1.2 rfl rfl (by decide) (by decide) (Nat.le_of_ble_eq_true rfl) dX7_init_26 (fun H locs hP hD hS => ?_)
  have hP : va_P D vwCl [(a1_, .inr (7, [.ref nw6, .int 0])), (nw6, .inl (cy 0, 5, .inl s_UNTOLD))] H := hP
  have hD : va_D A [(a1_, .inr (7, [.ref nw6, .int 0])), (nw6, .inl (cy 0, 5, .inl s_UNTOLD))] := hD
  exact RT _ _ (nw6) H locs 29 ls (rt_v dX7_init_29) rfl hP hD hS
