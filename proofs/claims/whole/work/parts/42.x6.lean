theorem tickF_7 (f lw sf : Nat → Int32) (d : Nat) : tickF f lw sf d 7 = sf 7 + 1 := rfl
theorem b01_nar {x : Int32} (h : x = 0 ∨ x = 1) : narrow .boolean (.int x) = .int x := by rcases h with e | e <;> subst e <;> rfl
theorem b01_fit {x : Int32} (h : x = 0 ∨ x = 1) : fits .boolean (.int x) = true := by rcases h with e | e <;> subst e <;> rfl
theorem b01_vpn {x : Int32} (h : x = 0 ∨ x = 1) : vp_nar .boolean x = x := by rcases h with e | e <;> subst e <;> rfl
abbrev rmkX8_clamp : Room := { frames := 1, cells := 0, slots := 0, locals := 40 }
set_option maxHeartbeats 4000000 in
set_option maxRecDepth 100000 in
theorem kX8_clamp {l : Launch} {D : va_G} {cy : Nat → ClassId} {sa : Nat → Nat} (v_ : Int32) (w_ : Int32) (hw : inR w_ 0 1000000) : CD l D cy sa yX8_clamp wsX8_clamp rmkX8_clamp [.int v_, .int w_] [] (some (.int (wth v_ w_))) [] := by
  refine CT.of cX8_clamp 2 (some .int) (by decide +kernel) rfl (Nat.le_of_ble_eq_true rfl) ?_
  intro p e s m args below meth c A Q ls F hmn hK hE hA hP hD hS hl RT
  obtain ⟨hx, hb, hml, hown, hts⟩ := id F
  have wm286 := hts (.methodLink RX8 286 Lib.Math.min.name) (by decide +kernel)
  have ws_min := hts (.static Lib.Math.min.name) (by decide +kernel)
  have wi_math := hts (.initialized "java/lang/Math") (by decide +kernel)
  have wk_min := hts (.code Lib.Math.min.name Lib.Math.min.code 2 (some .int)) (by decide +kernel)
  have wm291 := hts (.methodLink RX8 291 Lib.Math.max.name) (by decide +kernel)
  have ws_max := hts (.static Lib.Math.max.name) (by decide +kernel)
  have wk_max := hts (.code Lib.Math.max.name Lib.Math.max.code 2 (some .int)) (by decide +kernel)
  have hl : lv_has ls 2 [(0, .int v_), (1, .int w_)] := hl
  have hP : va_P D vwCl [] s.heap := hP
  have hD : va_D A [] := hD
  obtain ⟨H, hH⟩ : ∃ H0 : Heap, H0 = s.heap := ⟨_, rfl⟩
  obtain ⟨locs, hlo⟩ : ∃ L0 : List Loc, L0 = [] := ⟨_, rfl⟩
  have hS : va_S A s.heap H locs := by rw [hH, hlo]; exact hS
  rw [← hH] at hP
  show W p l e rmkX8_clamp s m args below meth c s.heap [] 0 0 Q (F0 m 0 ls [])
  suffices hgo : W p l e rmkX8_clamp s m args below meth c H locs 0 0 Q (F0 m 0 ls []) by rw [hH, hlo] at hgo; exact hgo
  clear hH hlo
  refine lv_iload_n hx hb dX8_clamp_0 rfl (lv_at hl 1 rfl) ?_
  refine lv_ineg hx hb dX8_clamp_1 ?_
  refine lv_iload_n hx hb dX8_clamp_2 rfl (lv_at hl 1 rfl) ?_
  refine lv_iload_n hx hb dX8_clamp_3 rfl (lv_at hl 0 rfl) ?_
  refine va_mmin hx hb (hml.trans hl.1.symm) hown wm286 ws_min wi_math wk_min (by decide) (Nat.le_of_ble_eq_true rfl) (Nat.zero_le _) (Nat.zero_le _) dX8_clamp_4 ?_
  refine va_mmax hx hb (hml.trans hl.1.symm) hown wm291 ws_max wi_math wk_max (by decide) (Nat.le_of_ble_eq_true rfl) (Nat.zero_le _) (Nat.zero_le _) dX8_clamp_7 ?_
  refine lv_eqi (y := wth v_ w_) (cl_wth hw) ?_
  exact RT _ _ () H locs 10 ls (rt_i dX8_clamp_10) rfl hP hD hS
abbrev rmkX3_valueOf : Room := { frames := 2, cells := 0, slots := 0, locals := 42 }
set_option maxHeartbeats 4000000 in
set_option maxRecDepth 100000 in
theorem kX3_valueOf {l : Launch} {D : va_G} {cy : Nat → ClassId} {sa : Nat → Nat} (h1_ : Nat) (h2_ : Nat) (h3_ : Nat) (hv_ : Nat → Int32) (hw_ : Nat → Int32) (k_ : Nat) (hk : k_ < 2) : CD l D cy sa yX3_valueOf wsX3_valueOf rmkX3_valueOf [.ref h1_, .int (nI k_)] [(h1_, .inr (3, [.ref h2_, .ref h3_])), (h2_, .inl (cy 0, 2, .inl hv_)), (h3_, .inl (cy 1, 2, .inl hw_))] (some (.int (hv_ k_))) [(h1_, .inr (3, [.ref h2_, .ref h3_])), (h2_, .inl (cy 0, 2, .inl hv_)), (h3_, .inl (cy 1, 2, .inl hw_))] := by
  refine CT.of cX3_valueOf 2 (some .int) (by decide +kernel) rfl (Nat.le_of_ble_eq_true rfl) ?_
  intro p e s m args below meth c A Q ls F hmn hK hE hA hP hD hS hl RT
  obtain ⟨hx, hb, hml, hown, hts⟩ := id F
  have wi_X8 := hts (.initialized RX8) (by decide +kernel)
  have ws_X8_isBar := hts (.static yX8_isBar) (by decide +kernel)
  have winX3 : ∀ w ∈ u_ws RX3 TX3 2, w ∈ wsX3_valueOf := by decide +kernel
  have wf9 := hts (.fieldLink RX3 9 "SelfSteer$Habits" "values" "[I") (by decide +kernel)
  have hl : lv_has ls 2 [(0, .ref h1_), (1, .int (nI k_))] := hl
  have hP : va_P D vwCl [(h1_, .inr (3, [.ref h2_, .ref h3_])), (h2_, .inl (cy 0, 2, .inl hv_)), (h3_, .inl (cy 1, 2, .inl hw_))] s.heap := hP
  have hD : va_D A [(h1_, .inr (3, [.ref h2_, .ref h3_])), (h2_, .inl (cy 0, 2, .inl hv_)), (h3_, .inl (cy 1, 2, .inl hw_))] := hD
  obtain ⟨H, hH⟩ : ∃ H0 : Heap, H0 = s.heap := ⟨_, rfl⟩
  obtain ⟨locs, hlo⟩ : ∃ L0 : List Loc, L0 = [] := ⟨_, rfl⟩
  have hS : va_S A s.heap H locs := by rw [hH, hlo]; exact hS
  rw [← hH] at hP
  show W p l e rmkX3_valueOf s m args below meth c s.heap [] 0 0 Q (F0 m 0 ls [])
  suffices hgo : W p l e rmkX3_valueOf s m args below meth c H locs 0 0 Q (F0 m 0 ls []) by rw [hH, hlo] at hgo; exact hgo
  clear hH hlo
  refine lv_iload_n hx hb dX3_valueOf_0 rfl (lv_at hl 1 rfl) ?_
  refine ca_SN (n := 1) (rest := []) (wr := [(h1_, .inr (3, [.ref h2_, .ref h3_])), (h2_, .inl (cy 0, 2, .inl hv_)), (h3_, .inl (cy 1, 2, .inl hw_))]) F hK hE hA hP hD hS hl.1 (kX8_isBar (l := l) (D := D) (cy := cy) (sa := sa) (nI k_)) gX3_valueOf_X8_isBar_n17 (hE.nest 68 rfl) wi_X8 ws_X8_isBar rfl rfl rfl (by decide +kernel) ⟨by decide, by decide⟩ [] [0, 1, 2] rfl rfl rfl rfl (by decide) rfl rfl (Nat.le_of_ble_eq_true rfl) dX3_valueOf_1 ⟨by decide, by decide⟩ (fun v9 u9 H locs hv_ hP hD hS => ?_)
  subst hv_
  have hP : va_P D vwCl [(h1_, .inr (3, [.ref h2_, .ref h3_])), (h2_, .inl (cy 0, 2, .inl hv_)), (h3_, .inl (cy 1, 2, .inl hw_))] H := hP
  have hD : va_D A [(h1_, .inr (3, [.ref h2_, .ref h3_])), (h2_, .inl (cy 0, 2, .inl hv_)), (h3_, .inl (cy 1, 2, .inl hw_))] := hD
  refine W.eq (g2 := F0 m 4 ls [.int (bI (inR (nI k_) 0 1))]) rfl ?_
  refine bz_eq (tgt := 16) hx hb dX3_valueOf_4 (by decide) (fun c_4 => ?_) (fun c_4 => ?_)
  · exact absurd (inR_of (n := 1) (by decide) rfl (by omega)) c_4
  · refine lv_aload_n hx hb dX3_valueOf_7 rfl (lv_at hl 0 rfl) ?_
    refine va_get (D := D) (ci := 3) (v := .ref h2_) (C := RX3) (T := TX3) (N := 2) hx hb hts winX3 hown hK hP 0 rfl rfl 0 (by decide) wf9 (fun _ h9 => h9) rfl dX3_valueOf_8 ?_
    refine lv_iload_n hx hb dX3_valueOf_11 rfl (lv_at hl 1 rfl) ?_
    refine al_i hx hb hK hP 1 rfl k_ (rfl) (by omega) (by decide) dX3_valueOf_12 ?_
    refine lv_goto (tgt := 17) hx hb dX3_valueOf_13 (by decide) ?_
    exact RT _ _ () H locs 17 ls (rt_i dX3_valueOf_17) rfl hP hD hS
abbrev rmkX3_practise : Room := { frames := 2, cells := 0, slots := 0, locals := 42 }
set_option maxHeartbeats 4000000 in
set_option maxRecDepth 100000 in
theorem kX3_practise {l : Launch} {D : va_G} {cy : Nat → ClassId} {sa : Nat → Nat} (h1_ : Nat) (h2_ : Nat) (h3_ : Nat) (hv_ : Nat → Int32) (hw_ : Nat → Int32) (k_ : Nat) (up_ : Int32) (dn_ : Int32) (hk : k_ < 2) : CD l D cy sa yX3_practise wsX3_practise rmkX3_practise [.ref h1_, .int (nI k_), .int up_, .int dn_] [(h1_, .inr (3, [.ref h2_, .ref h3_])), (h2_, .inl (cy 0, 2, .inl hv_)), (h3_, .inl (cy 1, 2, .inl hw_))] (none) [(h1_, .inr (3, [.ref h2_, .ref h3_])), (h2_, .inl (cy 0, 2, .inl (upd (upd hv_ k_ (hbU hv_ hw_ up_ k_)) (1 - k_) (hbD hv_ dn_ k_)))), (h3_, .inl (cy 1, 2, .inl (upd hw_ k_ (bI (hbU hv_ hw_ up_ k_ = 100)))))] := by
  refine CT.of cX3_practise 5 none (by decide +kernel) rfl (Nat.le_of_ble_eq_true rfl) ?_
  intro p e s m args below meth c A Q ls F hmn hK hE hA hP hD hS hl RT
  obtain ⟨hx, hb, hml, hown, hts⟩ := id F
  have wi_X8 := hts (.initialized RX8) (by decide +kernel)
  have ws_X8_isBar := hts (.static yX8_isBar) (by decide +kernel)
  have winX3 : ∀ w ∈ u_ws RX3 TX3 2, w ∈ wsX3_practise := by decide +kernel
  have wf9 := hts (.fieldLink RX3 9 "SelfSteer$Habits" "values" "[I") (by decide +kernel)
  have wf13 := hts (.fieldLink RX3 13 "SelfSteer$Habits" "wasWhole" "[Z") (by decide +kernel)
  have wm23 := hts (.methodLink RX3 23 Lib.Math.min.name) (by decide +kernel)
  have ws_min := hts (.static Lib.Math.min.name) (by decide +kernel)
  have wi_math := hts (.initialized "java/lang/Math") (by decide +kernel)
  have wk_min := hts (.code Lib.Math.min.name Lib.Math.min.code 2 (some .int)) (by decide +kernel)
  have wm29 := hts (.methodLink RX3 29 Lib.Math.max.name) (by decide +kernel)
  have ws_max := hts (.static Lib.Math.max.name) (by decide +kernel)
  have wk_max := hts (.code Lib.Math.max.name Lib.Math.max.code 2 (some .int)) (by decide +kernel)
  have hl : lv_has ls 5 [(0, .ref h1_), (1, .int (nI k_)), (2, .int up_), (3, .int dn_)] := hl
  have hP : va_P D vwCl [(h1_, .inr (3, [.ref h2_, .ref h3_])), (h2_, .inl (cy 0, 2, .inl hv_)), (h3_, .inl (cy 1, 2, .inl hw_))] s.heap := hP
  have hD : va_D A [(h1_, .inr (3, [.ref h2_, .ref h3_])), (h2_, .inl (cy 0, 2, .inl hv_)), (h3_, .inl (cy 1, 2, .inl hw_))] := hD
  obtain ⟨H, hH⟩ : ∃ H0 : Heap, H0 = s.heap := ⟨_, rfl⟩
  obtain ⟨locs, hlo⟩ : ∃ L0 : List Loc, L0 = [] := ⟨_, rfl⟩
  have hS : va_S A s.heap H locs := by rw [hH, hlo]; exact hS
  rw [← hH] at hP
  show W p l e rmkX3_practise s m args below meth c s.heap [] 0 0 Q (F0 m 0 ls [])
  suffices hgo : W p l e rmkX3_practise s m args below meth c H locs 0 0 Q (F0 m 0 ls []) by rw [hH, hlo] at hgo; exact hgo
  clear hH hlo
  refine lv_iload_n hx hb dX3_practise_0 rfl (lv_at hl 1 rfl) ?_
  refine ca_SN (n := 1) (rest := []) (wr := [(h1_, .inr (3, [.ref h2_, .ref h3_])), (h2_, .inl (cy 0, 2, .inl hv_)), (h3_, .inl (cy 1, 2, .inl hw_))]) F hK hE hA hP hD hS hl.1 (kX8_isBar (l := l) (D := D) (cy := cy) (sa := sa) (nI k_)) gX3_practise_X8_isBar_n17 (hE.nest 68 rfl) wi_X8 ws_X8_isBar rfl rfl rfl (by decide +kernel) ⟨by decide, by decide⟩ [] [0, 1, 2] rfl rfl rfl rfl (by decide) rfl rfl (Nat.le_of_ble_eq_true rfl) dX3_practise_1 ⟨by decide, by decide⟩ (fun v9 u9 H locs hv_ hP hD hS => ?_)
  subst hv_
  have hP : va_P D vwCl [(h1_, .inr (3, [.ref h2_, .ref h3_])), (h2_, .inl (cy 0, 2, .inl hv_)), (h3_, .inl (cy 1, 2, .inl hw_))] H := hP
  have hD : va_D A [(h1_, .inr (3, [.ref h2_, .ref h3_])), (h2_, .inl (cy 0, 2, .inl hv_)), (h3_, .inl (cy 1, 2, .inl hw_))] := hD
  refine W.eq (g2 := F0 m 4 ls [.int (bI (inR (nI k_) 0 1))]) rfl ?_
  refine bz_ne (tgt := 8) hx hb dX3_practise_4 (by decide) (fun c_4 => ?_) (fun c_4 => ?_)
  · refine lv_iconst (v := 1) hx hb dX3_practise_8 (by decide) ?_
    refine lv_iload_n hx hb dX3_practise_9 rfl (lv_at hl 1 rfl) ?_
    refine lv_isub hx hb dX3_practise_10 ?_
    refine lv_eqi (y := nI (1 - k_)) (pk_sub (a := 1) (b := k_) (by omega)) ?_
    refine lv_istore (lv' := [(4, .int (nI (1 - k_))), (0, .ref h1_), (1, .int (nI k_)), (2, .int up_), (3, .int dn_)]) hx hb dX3_practise_11 hl (by decide) rfl (fun ls hl => ?_)
    refine lv_aload_n hx hb dX3_practise_13 rfl (lv_at hl 1 rfl) ?_
    refine va_get (D := D) (ci := 3) (v := .ref h2_) (C := RX3) (T := TX3) (N := 2) hx hb hts winX3 hown hK hP 0 rfl rfl 0 (by decide) wf9 (fun _ h9 => h9) rfl dX3_practise_14 ?_
    refine lv_iload_n hx hb dX3_practise_17 rfl (lv_at hl 2 rfl) ?_
    refine lv_aload_n hx hb dX3_practise_18 rfl (lv_at hl 1 rfl) ?_
    refine va_get (D := D) (ci := 3) (v := .ref h3_) (C := RX3) (T := TX3) (N := 2) hx hb hts winX3 hown hK hP 0 rfl rfl 1 (by decide) wf13 (fun _ h9 => h9) rfl dX3_practise_19 ?_
    refine lv_iload_n hx hb dX3_practise_22 rfl (lv_at hl 2 rfl) ?_
    refine al_z hx hb hK hP 2 rfl k_ (rfl) (by omega) (by decide) dX3_practise_23 ?_
    have J_24_29 : ∀ (z24 : Int32), z24 = (if (hw_ k_) = 0 then (if ((hv_ k_) + up_) < 100 then ((hv_ k_) + up_) else 100) else 100) → ∀ (H : Heap) (locs : List Loc), va_P D vwCl [(h1_, .inr (3, [.ref h2_, .ref h3_])), (h2_, .inl (cy 0, 2, .inl hv_)), (h3_, .inl (cy 1, 2, .inl hw_))] H → va_D A [(h1_, .inr (3, [.ref h2_, .ref h3_])), (h2_, .inl (cy 0, 2, .inl hv_)), (h3_, .inl (cy 1, 2, .inl hw_))] → va_S A s.heap H locs → ∀ (ls : Array Slot), lv_has ls 5 [(4, .int (nI (1 - k_))), (0, .ref h1_), (1, .int (nI k_)), (2, .int up_), (3, .int dn_)] → W p l e rmkX3_practise s m args below meth c H locs 0 0 Q (F0 m 45 ls [.int z24, .int (nI k_), .ref h2_]) := by
      intro z24 ez24 H locs hP hD hS ls hl
      refine as_i (x := z24) hx hb hK hP hD hS 1 rfl k_ (rfl) (by omega) (by decide) dX3_practise_45 (fun H locs hP hD hS => ?_)
      have hP : va_P D vwCl [(h1_, .inr (3, [.ref h2_, .ref h3_])), (h2_, .inl (cy 0, 2, .inl (upd hv_ k_ z24))), (h3_, .inl (cy 1, 2, .inl hw_))] H := hP
      have hD : va_D A [(h1_, .inr (3, [.ref h2_, .ref h3_])), (h2_, .inl (cy 0, 2, .inl (upd hv_ k_ z24))), (h3_, .inl (cy 1, 2, .inl hw_))] := hD
      refine lv_aload_n hx hb dX3_practise_46 rfl (lv_at hl 1 rfl) ?_
      refine va_get (D := D) (ci := 3) (v := .ref h3_) (C := RX3) (T := TX3) (N := 2) hx hb hts winX3 hown hK hP 0 rfl rfl 1 (by decide) wf13 (fun _ h9 => h9) rfl dX3_practise_47 ?_
      refine lv_iload_n hx hb dX3_practise_50 rfl (lv_at hl 2 rfl) ?_
      refine lv_aload_n hx hb dX3_practise_51 rfl (lv_at hl 1 rfl) ?_
      refine va_get (D := D) (ci := 3) (v := .ref h2_) (C := RX3) (T := TX3) (N := 2) hx hb hts winX3 hown hK hP 0 rfl rfl 0 (by decide) wf9 (fun _ h9 => h9) rfl dX3_practise_52 ?_
      refine lv_iload_n hx hb dX3_practise_55 rfl (lv_at hl 2 rfl) ?_
      refine al_i hx hb hK hP 1 rfl k_ (rfl) (by omega) (by decide) dX3_practise_56 ?_
      refine lv_eqi (y := z24) (upd_at _ _ _) ?_
      refine lv_bipush (v := 100) hx hb dX3_practise_57 (by decide) ?_
      have J_59_43 : ∀ (H : Heap) (locs : List Loc), va_P D vwCl [(h1_, .inr (3, [.ref h2_, .ref h3_])), (h2_, .inl (cy 0, 2, .inl (upd hv_ k_ z24))), (h3_, .inl (cy 1, 2, .inl hw_))] H → va_D A [(h1_, .inr (3, [.ref h2_, .ref h3_])), (h2_, .inl (cy 0, 2, .inl (upd hv_ k_ z24))), (h3_, .inl (cy 1, 2, .inl hw_))] → va_S A s.heap H locs → ∀ (ls : Array Slot), lv_has ls 5 [(4, .int (nI (1 - k_))), (0, .ref h1_), (1, .int (nI k_)), (2, .int up_), (3, .int dn_)] → W p l e rmkX3_practise s m args below meth c H locs 0 0 Q (F0 m 67 ls [.int (bI (z24 = 100)), .int (nI k_), .ref h3_]) := by
        intro H locs hP hD hS ls hl
        refine as_z (x := bI (z24 = 100)) hx hb hK hP hD hS 2 rfl k_ (rfl) (by omega) (by decide) (bI_vpn _) dX3_practise_67 (fun H locs hP hD hS => ?_)
        have hP : va_P D vwCl [(h1_, .inr (3, [.ref h2_, .ref h3_])), (h2_, .inl (cy 0, 2, .inl (upd hv_ k_ z24))), (h3_, .inl (cy 1, 2, .inl (upd hw_ k_ (bI (z24 = 100)))))] H := hP
        have hD : va_D A [(h1_, .inr (3, [.ref h2_, .ref h3_])), (h2_, .inl (cy 0, 2, .inl (upd hv_ k_ z24))), (h3_, .inl (cy 1, 2, .inl (upd hw_ k_ (bI (z24 = 100)))))] := hD
        refine lv_aload_n hx hb dX3_practise_68 rfl (lv_at hl 1 rfl) ?_
        refine va_get (D := D) (ci := 3) (v := .ref h2_) (C := RX3) (T := TX3) (N := 2) hx hb hts winX3 hown hK hP 0 rfl rfl 0 (by decide) wf9 (fun _ h9 => h9) rfl dX3_practise_69 ?_
        refine lv_iload hx hb dX3_practise_72 (lv_at hl 0 rfl) ?_
        refine lv_iconst (v := 0) hx hb dX3_practise_74 (by decide) ?_
        refine lv_aload_n hx hb dX3_practise_75 rfl (lv_at hl 1 rfl) ?_
        refine va_get (D := D) (ci := 3) (v := .ref h2_) (C := RX3) (T := TX3) (N := 2) hx hb hts winX3 hown hK hP 0 rfl rfl 0 (by decide) wf9 (fun _ h9 => h9) rfl dX3_practise_76 ?_
        refine lv_iload hx hb dX3_practise_79 (lv_at hl 0 rfl) ?_
        refine al_i hx hb hK hP 1 rfl (1 - k_) (rfl) (by omega) (by decide) dX3_practise_81 ?_
        refine lv_eqi (y := hv_ (1 - k_)) (upd_ne _ _ (by omega)) ?_
        refine lv_iload_n hx hb dX3_practise_82 rfl (lv_at hl 4 rfl) ?_
        refine lv_isub hx hb dX3_practise_83 ?_
        refine va_mmax hx hb (hml.trans hl.1.symm) hown wm29 ws_max wi_math wk_max (by decide) (Nat.le_of_ble_eq_true rfl) (Nat.zero_le _) (Nat.zero_le _) dX3_practise_84 ?_
        refine as_i (x := if 0 < ((hv_ (1 - k_)) - dn_) then ((hv_ (1 - k_)) - dn_) else 0) hx hb hK hP hD hS 1 rfl (1 - k_) (rfl) (by omega) (by decide) dX3_practise_87 (fun H locs hP hD hS => ?_)
        have hP : va_P D vwCl [(h1_, .inr (3, [.ref h2_, .ref h3_])), (h2_, .inl (cy 0, 2, .inl (upd (upd hv_ k_ z24) (1 - k_) (if 0 < ((hv_ (1 - k_)) - dn_) then ((hv_ (1 - k_)) - dn_) else 0)))), (h3_, .inl (cy 1, 2, .inl (upd hw_ k_ (bI (z24 = 100)))))] H := hP
        have hD : va_D A [(h1_, .inr (3, [.ref h2_, .ref h3_])), (h2_, .inl (cy 0, 2, .inl (upd (upd hv_ k_ z24) (1 - k_) (if 0 < ((hv_ (1 - k_)) - dn_) then ((hv_ (1 - k_)) - dn_) else 0)))), (h3_, .inl (cy 1, 2, .inl (upd hw_ k_ (bI (z24 = 100)))))] := hD
        have hz : z24 = hbU hv_ hw_ up_ k_ := ez24
        subst hz
        exact RT _ _ () H locs 88 ls (rt_v dX3_practise_88) rfl hP hD hS
      refine lv_icmp_ne (tgt := 66) hx hb dX3_practise_59 (by decide) (fun c_59 => ?_) (fun c_59 => ?_)
      · refine lv_iconst (v := 0) hx hb dX3_practise_66 (by decide) ?_
        refine lv_eqi (y := bI (z24 = 100)) (bI_congr (pa_f c_59)) ?_
        exact J_59_43 H locs hP hD hS ls (lv_sub hl [0, 1, 2, 3, 4] rfl)
      · refine lv_iconst (v := 1) hx hb dX3_practise_62 (by decide) ?_
        refine lv_goto (tgt := 67) hx hb dX3_practise_63 (by decide) ?_
        refine lv_eqi (y := bI (z24 = 100)) (bI_congr (pa_t c_59)) ?_
        exact J_59_43 H locs hP hD hS ls (lv_sub hl [0, 1, 2, 3, 4] rfl)
    refine lv_if_eq (tgt := 32) hx hb dX3_practise_24 (by decide) (fun c_24 => ?_) (fun c_24 => ?_)
    · refine lv_bipush (v := 100) hx hb dX3_practise_32 (by decide) ?_
      refine lv_aload_n hx hb dX3_practise_34 rfl (lv_at hl 1 rfl) ?_
      refine va_get (D := D) (ci := 3) (v := .ref h2_) (C := RX3) (T := TX3) (N := 2) hx hb hts winX3 hown hK hP 0 rfl rfl 0 (by decide) wf9 (fun _ h9 => h9) rfl dX3_practise_35 ?_
      refine lv_iload_n hx hb dX3_practise_38 rfl (lv_at hl 2 rfl) ?_
      refine al_i hx hb hK hP 1 rfl k_ (rfl) (by omega) (by decide) dX3_practise_39 ?_
      refine lv_iload_n hx hb dX3_practise_40 rfl (lv_at hl 3 rfl) ?_
      refine lv_iadd hx hb dX3_practise_41 ?_
      refine va_mmin hx hb (hml.trans hl.1.symm) hown wm23 ws_min wi_math wk_min (by decide) (Nat.le_of_ble_eq_true rfl) (Nat.zero_le _) (Nat.zero_le _) dX3_practise_42 ?_
      exact J_24_29 _ ((if_pos c_24).symm) H locs hP hD hS ls (lv_sub hl [0, 1, 2, 3, 4] rfl)
    · refine lv_bipush (v := 100) hx hb dX3_practise_27 (by decide) ?_
      refine lv_goto (tgt := 45) hx hb dX3_practise_29 (by decide) ?_
      exact J_24_29 _ ((if_neg c_24).symm) H locs hP hD hS ls (lv_sub hl [0, 1, 2, 3, 4] rfl)
  · exact absurd (inR_of (n := 1) (by decide) rfl (by omega)) c_4
abbrev rmkX3_weeksTillWhole : Room := { frames := 2, cells := 0, slots := 0, locals := 42 }
set_option maxHeartbeats 4000000 in
set_option maxRecDepth 100000 in
theorem kX3_weeksTillWhole {l : Launch} {D : va_G} {cy : Nat → ClassId} {sa : Nat → Nat} (h1_ : Nat) (h2_ : Nat) (h3_ : Nat) (hv_ : Nat → Int32) (hw_ : Nat → Int32) (k_ : Nat) (up_ : Int32) (hk : k_ < 2) : CD l D cy sa yX3_weeksTillWhole wsX3_weeksTillWhole rmkX3_weeksTillWhole [.ref h1_, .int (nI k_), .int up_] [(h1_, .inr (3, [.ref h2_, .ref h3_])), (h2_, .inl (cy 0, 2, .inl hv_)), (h3_, .inl (cy 1, 2, .inl hw_))] (some (.int (twN hv_ hw_ up_ k_))) [(h1_, .inr (3, [.ref h2_, .ref h3_])), (h2_, .inl (cy 0, 2, .inl hv_)), (h3_, .inl (cy 1, 2, .inl hw_))] := by
  refine CT.of cX3_weeksTillWhole 5 (some .int) (by decide +kernel) rfl (Nat.le_of_ble_eq_true rfl) ?_
  intro p e s m args below meth c A Q ls F hmn hK hE hA hP hD hS hl RT
  obtain ⟨hx, hb, hml, hown, hts⟩ := id F
  have wi_X8 := hts (.initialized RX8) (by decide +kernel)
  have ws_X8_isBar := hts (.static yX8_isBar) (by decide +kernel)
  have winX3 : ∀ w ∈ u_ws RX3 TX3 2, w ∈ wsX3_weeksTillWhole := by decide +kernel
  have wf9 := hts (.fieldLink RX3 9 "SelfSteer$Habits" "values" "[I") (by decide +kernel)
  have wf13 := hts (.fieldLink RX3 13 "SelfSteer$Habits" "wasWhole" "[Z") (by decide +kernel)
  have wm29 := hts (.methodLink RX3 29 Lib.Math.max.name) (by decide +kernel)
  have ws_max := hts (.static Lib.Math.max.name) (by decide +kernel)
  have wi_math := hts (.initialized "java/lang/Math") (by decide +kernel)
  have wk_max := hts (.code Lib.Math.max.name Lib.Math.max.code 2 (some .int)) (by decide +kernel)
  have wm23 := hts (.methodLink RX3 23 Lib.Math.min.name) (by decide +kernel)
  have ws_min := hts (.static Lib.Math.min.name) (by decide +kernel)
  have wk_min := hts (.code Lib.Math.min.name Lib.Math.min.code 2 (some .int)) (by decide +kernel)
  have hl : lv_has ls 5 [(0, .ref h1_), (1, .int (nI k_)), (2, .int up_)] := hl
  have hP : va_P D vwCl [(h1_, .inr (3, [.ref h2_, .ref h3_])), (h2_, .inl (cy 0, 2, .inl hv_)), (h3_, .inl (cy 1, 2, .inl hw_))] s.heap := hP
  have hD : va_D A [(h1_, .inr (3, [.ref h2_, .ref h3_])), (h2_, .inl (cy 0, 2, .inl hv_)), (h3_, .inl (cy 1, 2, .inl hw_))] := hD
  obtain ⟨H, hH⟩ : ∃ H0 : Heap, H0 = s.heap := ⟨_, rfl⟩
  obtain ⟨locs, hlo⟩ : ∃ L0 : List Loc, L0 = [] := ⟨_, rfl⟩
  have hS : va_S A s.heap H locs := by rw [hH, hlo]; exact hS
  rw [← hH] at hP
  show W p l e rmkX3_weeksTillWhole s m args below meth c s.heap [] 0 0 Q (F0 m 0 ls [])
  suffices hgo : W p l e rmkX3_weeksTillWhole s m args below meth c H locs 0 0 Q (F0 m 0 ls []) by rw [hH, hlo] at hgo; exact hgo
  clear hH hlo
  refine lv_iload_n hx hb dX3_weeksTillWhole_0 rfl (lv_at hl 1 rfl) ?_
  refine ca_SN (n := 1) (rest := []) (wr := [(h1_, .inr (3, [.ref h2_, .ref h3_])), (h2_, .inl (cy 0, 2, .inl hv_)), (h3_, .inl (cy 1, 2, .inl hw_))]) F hK hE hA hP hD hS hl.1 (kX8_isBar (l := l) (D := D) (cy := cy) (sa := sa) (nI k_)) gX3_weeksTillWhole_X8_isBar_n17 (hE.nest 68 rfl) wi_X8 ws_X8_isBar rfl rfl rfl (by decide +kernel) ⟨by decide, by decide⟩ [] [0, 1, 2] rfl rfl rfl rfl (by decide) rfl rfl (Nat.le_of_ble_eq_true rfl) dX3_weeksTillWhole_1 ⟨by decide, by decide⟩ (fun v9 u9 H locs hv_ hP hD hS => ?_)
  subst hv_
  have hP : va_P D vwCl [(h1_, .inr (3, [.ref h2_, .ref h3_])), (h2_, .inl (cy 0, 2, .inl hv_)), (h3_, .inl (cy 1, 2, .inl hw_))] H := hP
  have hD : va_D A [(h1_, .inr (3, [.ref h2_, .ref h3_])), (h2_, .inl (cy 0, 2, .inl hv_)), (h3_, .inl (cy 1, 2, .inl hw_))] := hD
  refine W.eq (g2 := F0 m 4 ls [.int (bI (inR (nI k_) 0 1))]) rfl ?_
  refine bz_ne (tgt := 9) hx hb dX3_weeksTillWhole_4 (by decide) (fun c_4 => ?_) (fun c_4 => ?_)
  · refine lv_bipush (v := 100) hx hb dX3_weeksTillWhole_9 (by decide) ?_
    refine lv_aload_n hx hb dX3_weeksTillWhole_11 rfl (lv_at hl 0 rfl) ?_
    refine va_get (D := D) (ci := 3) (v := .ref h2_) (C := RX3) (T := TX3) (N := 2) hx hb hts winX3 hown hK hP 0 rfl rfl 0 (by decide) wf9 (fun _ h9 => h9) rfl dX3_weeksTillWhole_12 ?_
    refine lv_iload_n hx hb dX3_weeksTillWhole_15 rfl (lv_at hl 1 rfl) ?_
    refine al_i hx hb hK hP 1 rfl k_ (rfl) (by omega) (by decide) dX3_weeksTillWhole_16 ?_
    refine lv_isub hx hb dX3_weeksTillWhole_17 ?_
    refine lv_istore_n (lv' := [(3, .int (100 - (hv_ k_))), (0, .ref h1_), (1, .int (nI k_)), (2, .int up_)]) hx hb dX3_weeksTillWhole_18 rfl hl (by decide) rfl (fun ls hl => ?_)
    refine lv_aload_n hx hb dX3_weeksTillWhole_19 rfl (lv_at hl 1 rfl) ?_
    refine va_get (D := D) (ci := 3) (v := .ref h3_) (C := RX3) (T := TX3) (N := 2) hx hb hts winX3 hown hK hP 0 rfl rfl 1 (by decide) wf13 (fun _ h9 => h9) rfl dX3_weeksTillWhole_20 ?_
    refine lv_iload_n hx hb dX3_weeksTillWhole_23 rfl (lv_at hl 2 rfl) ?_
    refine al_z hx hb hK hP 2 rfl k_ (rfl) (by omega) (by decide) dX3_weeksTillWhole_24 ?_
    refine lv_if_eq (tgt := 34) hx hb dX3_weeksTillWhole_25 (by decide) (fun c_25 => ?_) (fun c_25 => ?_)
    · refine lv_iconst (v := 1) hx hb dX3_weeksTillWhole_34 (by decide) ?_
      refine lv_iload_n hx hb dX3_weeksTillWhole_35 rfl (lv_at hl 3 rfl) ?_
      refine va_mmax hx hb (hml.trans hl.1.symm) hown wm29 ws_max wi_math wk_max (by decide) (Nat.le_of_ble_eq_true rfl) (Nat.zero_le _) (Nat.zero_le _) dX3_weeksTillWhole_36 ?_
      refine lv_istore (lv' := [(4, .int (if 1 < up_ then up_ else 1)), (3, .int (100 - (hv_ k_))), (0, .ref h1_), (1, .int (nI k_)), (2, .int up_)]) hx hb dX3_weeksTillWhole_39 hl (by decide) rfl (fun ls hl => ?_)
      refine lv_iload_n hx hb dX3_weeksTillWhole_41 rfl (lv_at hl 1 rfl) ?_
      refine lv_iload hx hb dX3_weeksTillWhole_42 (lv_at hl 0 rfl) ?_
      refine lv_iadd hx hb dX3_weeksTillWhole_44 ?_
      refine lv_iconst (v := 1) hx hb dX3_weeksTillWhole_45 (by decide) ?_
      refine lv_isub hx hb dX3_weeksTillWhole_46 ?_
      refine lv_iload hx hb dX3_weeksTillWhole_47 (lv_at hl 0 rfl) ?_
      refine lv_idiv hx hb dX3_weeksTillWhole_49 (mx1_ne _) ?_
      refine lv_eqi (y := twN hv_ hw_ up_ k_) (by rw [twN, if_pos c_25]) ?_
      exact RT _ _ () H locs 50 ls (rt_i dX3_weeksTillWhole_50) rfl hP hD hS
    · refine lv_iconst (v := 1) hx hb dX3_weeksTillWhole_28 (by decide) ?_
      refine lv_iload_n hx hb dX3_weeksTillWhole_29 rfl (lv_at hl 0 rfl) ?_
      refine va_mmin hx hb (hml.trans hl.1.symm) hown wm23 ws_min wi_math wk_min (by decide) (Nat.le_of_ble_eq_true rfl) (Nat.zero_le _) (Nat.zero_le _) dX3_weeksTillWhole_30 ?_
      refine lv_eqi (y := twN hv_ hw_ up_ k_) (by rw [twN, if_neg c_25]) ?_
      exact RT _ _ () H locs 33 ls (rt_i dX3_weeksTillWhole_33) rfl hP hD hS
  · exact absurd (inR_of (n := 1) (by decide) rfl (by omega)) c_4
abbrev rmkX3_copyFrom : Room := { frames := 0, cells := 0, slots := 0, locals := 0 }
set_option maxHeartbeats 4000000 in
set_option maxRecDepth 100000 in
theorem kX3_copyFrom {l : Launch} {D : va_G} {cy : Nat → ClassId} {sa : Nat → Nat} (h1_ : Nat) (h2_ : Nat) (h3_ : Nat) (hv_ : Nat → Int32) (hw_ : Nat → Int32) (g1_ : Nat) (g2_ : Nat) (g3_ : Nat) (gv_ : Nat → Int32) (gw_ : Nat → Int32) (hbz : ∀ z, z < 2 → vp_nar .boolean (gw_ z) = gw_ z) : CD l D cy sa yX3_copyFrom wsX3_copyFrom rmkX3_copyFrom [.ref h1_, .ref g1_] [(h1_, .inr (3, [.ref h2_, .ref h3_])), (h2_, .inl (cy 0, 2, .inl hv_)), (h3_, .inl (cy 1, 2, .inl hw_)), (g1_, .inr (3, [.ref g2_, .ref g3_])), (g2_, .inl (cy 0, 2, .inl gv_)), (g3_, .inl (cy 1, 2, .inl gw_))] (none) [(h1_, .inr (3, [.ref h2_, .ref h3_])), (h2_, .inl (cy 0, 2, .inl gv_)), (h3_, .inl (cy 1, 2, .inl gw_)), (g1_, .inr (3, [.ref g2_, .ref g3_])), (g2_, .inl (cy 0, 2, .inl gv_)), (g3_, .inl (cy 1, 2, .inl gw_))] := by
  refine CT.of cX3_copyFrom 3 none (by decide +kernel) rfl (Nat.le_of_ble_eq_true rfl) ?_
  intro p e s m args below meth c A Q ls F hmn hK hE hA hP hD hS hl RT
  obtain ⟨hx, hb, hml, hown, hts⟩ := id F
  have winX3 : ∀ w ∈ u_ws RX3 TX3 2, w ∈ wsX3_copyFrom := by decide +kernel
  have wf9 := hts (.fieldLink RX3 9 "SelfSteer$Habits" "values" "[I") (by decide +kernel)
  have wf13 := hts (.fieldLink RX3 13 "SelfSteer$Habits" "wasWhole" "[Z") (by decide +kernel)
  have hl : lv_has ls 3 [(0, .ref h1_), (1, .ref g1_)] := hl
  have hP : va_P D vwCl [(h1_, .inr (3, [.ref h2_, .ref h3_])), (h2_, .inl (cy 0, 2, .inl hv_)), (h3_, .inl (cy 1, 2, .inl hw_)), (g1_, .inr (3, [.ref g2_, .ref g3_])), (g2_, .inl (cy 0, 2, .inl gv_)), (g3_, .inl (cy 1, 2, .inl gw_))] s.heap := hP
  have hD : va_D A [(h1_, .inr (3, [.ref h2_, .ref h3_])), (h2_, .inl (cy 0, 2, .inl hv_)), (h3_, .inl (cy 1, 2, .inl hw_)), (g1_, .inr (3, [.ref g2_, .ref g3_])), (g2_, .inl (cy 0, 2, .inl gv_)), (g3_, .inl (cy 1, 2, .inl gw_))] := hD
  obtain ⟨H, hH⟩ : ∃ H0 : Heap, H0 = s.heap := ⟨_, rfl⟩
  obtain ⟨locs, hlo⟩ : ∃ L0 : List Loc, L0 = [] := ⟨_, rfl⟩
  have hS : va_S A s.heap H locs := by rw [hH, hlo]; exact hS
  rw [← hH] at hP
  show W p l e rmkX3_copyFrom s m args below meth c s.heap [] 0 0 Q (F0 m 0 ls [])
  suffices hgo : W p l e rmkX3_copyFrom s m args below meth c H locs 0 0 Q (F0 m 0 ls []) by rw [hH, hlo] at hgo; exact hgo
  clear hH hlo
  refine lv_iconst (v := 0) hx hb dX3_copyFrom_0 (by decide) ?_
  refine lv_istore_n (lv' := [(2, .int 0), (0, .ref h1_), (1, .ref g1_)]) hx hb dX3_copyFrom_1 rfl hl (by decide) rfl (fun ls hl => ?_)
  have L_2 : ∀ (nF : Nat) (j_ : Nat), (j_ ≤ 2) → 2 - j_ < nF → ∀ (H : Heap) (locs : List Loc), va_P D vwCl [(h1_, .inr (3, [.ref h2_, .ref h3_])), (h2_, .inl (cy 0, 2, .inl (fil gv_ hv_ j_))), (h3_, .inl (cy 1, 2, .inl (fil gw_ hw_ j_))), (g1_, .inr (3, [.ref g2_, .ref g3_])), (g2_, .inl (cy 0, 2, .inl gv_)), (g3_, .inl (cy 1, 2, .inl gw_))] H → va_D A [(h1_, .inr (3, [.ref h2_, .ref h3_])), (h2_, .inl (cy 0, 2, .inl (fil gv_ hv_ j_))), (h3_, .inl (cy 1, 2, .inl (fil gw_ hw_ j_))), (g1_, .inr (3, [.ref g2_, .ref g3_])), (g2_, .inl (cy 0, 2, .inl gv_)), (g3_, .inl (cy 1, 2, .inl gw_))] → va_S A s.heap H locs → ∀ (ls : Array Slot), lv_has ls 3 [(2, .int (nI j_)), (0, .ref h1_), (1, .ref g1_)] → W p l e rmkX3_copyFrom s m args below meth c H locs 0 0 Q (F0 m 2 ls []) := by
    intro nF
    induction nF with
    | zero => intro j_ hj hnF; exact absurd hnF (Nat.not_lt_zero _)
    | succ nF ih_2 =>
      intro j_ hj hn_2 H locs hP hD hS ls hl
      refine lv_iload_n hx hb dX3_copyFrom_2 rfl (lv_at hl 0 rfl) ?_
      refine lv_iconst (v := 2) hx hb dX3_copyFrom_3 (by decide) ?_
      refine cn_ge (tgt := 37) hx hb j_ 2 rfl rfl (by omega) (by omega) dX3_copyFrom_4 (by decide) (fun c_4 => ?_) (fun c_4 => ?_)
      · obtain ⟨hP, hD⟩ := ro_ws (g := gv_) hP hD 1 rfl (fun z hz => fil_lt (by omega))
        have hP : va_P D vwCl [(h1_, .inr (3, [.ref h2_, .ref h3_])), (h2_, .inl (cy 0, 2, .inl gv_)), (h3_, .inl (cy 1, 2, .inl (fil gw_ hw_ j_))), (g1_, .inr (3, [.ref g2_, .ref g3_])), (g2_, .inl (cy 0, 2, .inl gv_)), (g3_, .inl (cy 1, 2, .inl gw_))] H := hP
        have hD : va_D A [(h1_, .inr (3, [.ref h2_, .ref h3_])), (h2_, .inl (cy 0, 2, .inl gv_)), (h3_, .inl (cy 1, 2, .inl (fil gw_ hw_ j_))), (g1_, .inr (3, [.ref g2_, .ref g3_])), (g2_, .inl (cy 0, 2, .inl gv_)), (g3_, .inl (cy 1, 2, .inl gw_))] := hD
        obtain ⟨hP, hD⟩ := ro_ws (g := gw_) hP hD 2 rfl (fun z hz => fil_lt (by omega))
        have hP : va_P D vwCl [(h1_, .inr (3, [.ref h2_, .ref h3_])), (h2_, .inl (cy 0, 2, .inl gv_)), (h3_, .inl (cy 1, 2, .inl gw_)), (g1_, .inr (3, [.ref g2_, .ref g3_])), (g2_, .inl (cy 0, 2, .inl gv_)), (g3_, .inl (cy 1, 2, .inl gw_))] H := hP
        have hD : va_D A [(h1_, .inr (3, [.ref h2_, .ref h3_])), (h2_, .inl (cy 0, 2, .inl gv_)), (h3_, .inl (cy 1, 2, .inl gw_)), (g1_, .inr (3, [.ref g2_, .ref g3_])), (g2_, .inl (cy 0, 2, .inl gv_)), (g3_, .inl (cy 1, 2, .inl gw_))] := hD
        exact RT _ _ () H locs 37 ls (rt_v dX3_copyFrom_37) rfl hP hD hS
      · refine lv_aload_n hx hb dX3_copyFrom_7 rfl (lv_at hl 1 rfl) ?_
        refine va_get (D := D) (ci := 3) (v := .ref h2_) (C := RX3) (T := TX3) (N := 2) hx hb hts winX3 hown hK hP 0 rfl rfl 0 (by decide) wf9 (fun _ h9 => h9) rfl dX3_copyFrom_8 ?_
        refine lv_iload_n hx hb dX3_copyFrom_11 rfl (lv_at hl 0 rfl) ?_
        refine lv_aload_n hx hb dX3_copyFrom_12 rfl (lv_at hl 2 rfl) ?_
        refine va_get (D := D) (ci := 3) (v := .ref g2_) (C := RX3) (T := TX3) (N := 2) hx hb hts winX3 hown hK hP 3 rfl rfl 0 (by decide) wf9 (fun _ h9 => h9) rfl dX3_copyFrom_13 ?_
        refine lv_iload_n hx hb dX3_copyFrom_16 rfl (lv_at hl 0 rfl) ?_
        refine al_i hx hb hK hP 4 rfl j_ (rfl) (by omega) (by decide) dX3_copyFrom_17 ?_
        refine as_i (x := gv_ j_) hx hb hK hP hD hS 1 rfl j_ (rfl) (by omega) (by decide) dX3_copyFrom_18 (fun H locs hP hD hS => ?_)
        have hP : va_P D vwCl [(h1_, .inr (3, [.ref h2_, .ref h3_])), (h2_, .inl (cy 0, 2, .inl (upd (fil gv_ hv_ j_) j_ (gv_ j_)))), (h3_, .inl (cy 1, 2, .inl (fil gw_ hw_ j_))), (g1_, .inr (3, [.ref g2_, .ref g3_])), (g2_, .inl (cy 0, 2, .inl gv_)), (g3_, .inl (cy 1, 2, .inl gw_))] H := hP
        have hD : va_D A [(h1_, .inr (3, [.ref h2_, .ref h3_])), (h2_, .inl (cy 0, 2, .inl (upd (fil gv_ hv_ j_) j_ (gv_ j_)))), (h3_, .inl (cy 1, 2, .inl (fil gw_ hw_ j_))), (g1_, .inr (3, [.ref g2_, .ref g3_])), (g2_, .inl (cy 0, 2, .inl gv_)), (g3_, .inl (cy 1, 2, .inl gw_))] := hD
        refine lv_aload_n hx hb dX3_copyFrom_19 rfl (lv_at hl 1 rfl) ?_
        refine va_get (D := D) (ci := 3) (v := .ref h3_) (C := RX3) (T := TX3) (N := 2) hx hb hts winX3 hown hK hP 0 rfl rfl 1 (by decide) wf13 (fun _ h9 => h9) rfl dX3_copyFrom_20 ?_
        refine lv_iload_n hx hb dX3_copyFrom_23 rfl (lv_at hl 0 rfl) ?_
        refine lv_aload_n hx hb dX3_copyFrom_24 rfl (lv_at hl 2 rfl) ?_
        refine va_get (D := D) (ci := 3) (v := .ref g3_) (C := RX3) (T := TX3) (N := 2) hx hb hts winX3 hown hK hP 3 rfl rfl 1 (by decide) wf13 (fun _ h9 => h9) rfl dX3_copyFrom_25 ?_
        refine lv_iload_n hx hb dX3_copyFrom_28 rfl (lv_at hl 0 rfl) ?_
        refine al_z hx hb hK hP 5 rfl j_ (rfl) (by omega) (by decide) dX3_copyFrom_29 ?_
        refine as_z (x := gw_ j_) hx hb hK hP hD hS 2 rfl j_ (rfl) (by omega) (by decide) (hbz _ (by omega)) dX3_copyFrom_30 (fun H locs hP hD hS => ?_)
        have hP : va_P D vwCl [(h1_, .inr (3, [.ref h2_, .ref h3_])), (h2_, .inl (cy 0, 2, .inl (upd (fil gv_ hv_ j_) j_ (gv_ j_)))), (h3_, .inl (cy 1, 2, .inl (upd (fil gw_ hw_ j_) j_ (gw_ j_)))), (g1_, .inr (3, [.ref g2_, .ref g3_])), (g2_, .inl (cy 0, 2, .inl gv_)), (g3_, .inl (cy 1, 2, .inl gw_))] H := hP
        have hD : va_D A [(h1_, .inr (3, [.ref h2_, .ref h3_])), (h2_, .inl (cy 0, 2, .inl (upd (fil gv_ hv_ j_) j_ (gv_ j_)))), (h3_, .inl (cy 1, 2, .inl (upd (fil gw_ hw_ j_) j_ (gw_ j_)))), (g1_, .inr (3, [.ref g2_, .ref g3_])), (g2_, .inl (cy 0, 2, .inl gv_)), (g3_, .inl (cy 1, 2, .inl gw_))] := hD
        refine lv_iinc (v := nI (j_ + 1)) (lv' := [(2, .int (nI (j_ + 1))), (0, .ref h1_), (1, .ref g1_)]) hx hb dX3_copyFrom_31 hl (k := 0) rfl (nI_add j_ 1) (by decide) rfl (fun ls hl => ?_)
        refine lv_goto (tgt := 2) hx hb dX3_copyFrom_34 (by decide) ?_
        obtain ⟨hP, hD⟩ := ro_ws (g := fil gv_ hv_ (j_ + 1)) hP hD 1 rfl (fun z9 _ => congrFun (show upd (fil gv_ hv_ j_) j_ (gv_ j_) = fil gv_ hv_ (j_ + 1) from fil_s _ _ _) z9)
        have hP : va_P D vwCl [(h1_, .inr (3, [.ref h2_, .ref h3_])), (h2_, .inl (cy 0, 2, .inl (fil gv_ hv_ (j_ + 1)))), (h3_, .inl (cy 1, 2, .inl (upd (fil gw_ hw_ j_) j_ (gw_ j_)))), (g1_, .inr (3, [.ref g2_, .ref g3_])), (g2_, .inl (cy 0, 2, .inl gv_)), (g3_, .inl (cy 1, 2, .inl gw_))] H := hP
        have hD : va_D A [(h1_, .inr (3, [.ref h2_, .ref h3_])), (h2_, .inl (cy 0, 2, .inl (fil gv_ hv_ (j_ + 1)))), (h3_, .inl (cy 1, 2, .inl (upd (fil gw_ hw_ j_) j_ (gw_ j_)))), (g1_, .inr (3, [.ref g2_, .ref g3_])), (g2_, .inl (cy 0, 2, .inl gv_)), (g3_, .inl (cy 1, 2, .inl gw_))] := hD
        obtain ⟨hP, hD⟩ := ro_ws (g := fil gw_ hw_ (j_ + 1)) hP hD 2 rfl (fun z9 _ => congrFun (show upd (fil gw_ hw_ j_) j_ (gw_ j_) = fil gw_ hw_ (j_ + 1) from fil_s _ _ _) z9)
        have hP : va_P D vwCl [(h1_, .inr (3, [.ref h2_, .ref h3_])), (h2_, .inl (cy 0, 2, .inl (fil gv_ hv_ (j_ + 1)))), (h3_, .inl (cy 1, 2, .inl (fil gw_ hw_ (j_ + 1)))), (g1_, .inr (3, [.ref g2_, .ref g3_])), (g2_, .inl (cy 0, 2, .inl gv_)), (g3_, .inl (cy 1, 2, .inl gw_))] H := hP
        have hD : va_D A [(h1_, .inr (3, [.ref h2_, .ref h3_])), (h2_, .inl (cy 0, 2, .inl (fil gv_ hv_ (j_ + 1)))), (h3_, .inl (cy 1, 2, .inl (fil gw_ hw_ (j_ + 1)))), (g1_, .inr (3, [.ref g2_, .ref g3_])), (g2_, .inl (cy 0, 2, .inl gv_)), (g3_, .inl (cy 1, 2, .inl gw_))] := hD
        exact ih_2 (j_ + 1) (by first | assumption | omega | decide) (by omega) H locs hP hD hS ls (lv_sub hl [0, 1, 2] rfl)
  obtain ⟨hP, hD⟩ := ro_ws (g := fil gv_ hv_ 0) hP hD 1 rfl (fun z9 _ => congrFun (show hv_ = fil gv_ hv_ 0 from (fil_0 _ _).symm) z9)
  have hP : va_P D vwCl [(h1_, .inr (3, [.ref h2_, .ref h3_])), (h2_, .inl (cy 0, 2, .inl (fil gv_ hv_ 0))), (h3_, .inl (cy 1, 2, .inl hw_)), (g1_, .inr (3, [.ref g2_, .ref g3_])), (g2_, .inl (cy 0, 2, .inl gv_)), (g3_, .inl (cy 1, 2, .inl gw_))] H := hP
  have hD : va_D A [(h1_, .inr (3, [.ref h2_, .ref h3_])), (h2_, .inl (cy 0, 2, .inl (fil gv_ hv_ 0))), (h3_, .inl (cy 1, 2, .inl hw_)), (g1_, .inr (3, [.ref g2_, .ref g3_])), (g2_, .inl (cy 0, 2, .inl gv_)), (g3_, .inl (cy 1, 2, .inl gw_))] := hD
  obtain ⟨hP, hD⟩ := ro_ws (g := fil gw_ hw_ 0) hP hD 2 rfl (fun z9 _ => congrFun (show hw_ = fil gw_ hw_ 0 from (fil_0 _ _).symm) z9)
  have hP : va_P D vwCl [(h1_, .inr (3, [.ref h2_, .ref h3_])), (h2_, .inl (cy 0, 2, .inl (fil gv_ hv_ 0))), (h3_, .inl (cy 1, 2, .inl (fil gw_ hw_ 0))), (g1_, .inr (3, [.ref g2_, .ref g3_])), (g2_, .inl (cy 0, 2, .inl gv_)), (g3_, .inl (cy 1, 2, .inl gw_))] H := hP
  have hD : va_D A [(h1_, .inr (3, [.ref h2_, .ref h3_])), (h2_, .inl (cy 0, 2, .inl (fil gv_ hv_ 0))), (h3_, .inl (cy 1, 2, .inl (fil gw_ hw_ 0))), (g1_, .inr (3, [.ref g2_, .ref g3_])), (g2_, .inl (cy 0, 2, .inl gv_)), (g3_, .inl (cy 1, 2, .inl gw_))] := hD
  exact L_2 _ 0 (by first | assumption | omega | decide) (Nat.lt_succ_self _) H locs hP hD hS ls (lv_sub hl [0, 1, 2] rfl)
abbrev rmkX7_forget : Room := { frames := 1, cells := 0, slots := 0, locals := 40 }
set_option maxHeartbeats 4000000 in
set_option maxRecDepth 100000 in
theorem kX7_forget {l : Launch} {D : va_G} {cy : Nat → ClassId} {sa : Nat → Nat} (r1_ : Nat) (r2_ : Nat) (lw_ : Nat → Int32) (tb_ : Int32)  : CD l D cy sa yX7_forget wsX7_forget rmkX7_forget [.ref r1_] [(r1_, .inr (7, [.ref r2_, .int tb_])), (r2_, .inl (cy 0, 5, .inl lw_))] (none) [(r1_, .inr (7, [.ref r2_, .int 0])), (r2_, .inl (cy 0, 5, .inl s_UNTOLD))] := by
  refine CT.of cX7_forget 1 none (by decide +kernel) rfl (Nat.le_of_ble_eq_true rfl) ?_
  intro p e s m args below meth c A Q ls F hmn hK hE hA hP hD hS hl RT
  obtain ⟨hx, hb, hml, hown, hts⟩ := id F
  have wf17 := hts (.fieldLink RX7 17 "SelfSteer$Rider" "UNTOLD" "[I") (by decide +kernel)
  have winX7 : ∀ w ∈ u_ws RX7 TX7 2, w ∈ wsX7_forget := by decide +kernel
  have wf9 := hts (.fieldLink RX7 9 "SelfSteer$Rider" "values" "[I") (by decide +kernel)
  have wm20 := hts (.methodLink RX7 20 arraycopyName) (by decide +kernel)
  have wcn := hts (.native arraycopyName) (by decide +kernel)
  have wcs := hts (.static arraycopyName) (by decide +kernel)
  have wci := hts (.initialized "java/lang/System") (by decide +kernel)
  have wf13 := hts (.fieldLink RX7 13 "SelfSteer$Rider" "toldBits" "I") (by decide +kernel)
  have hl : lv_has ls 1 [(0, .ref r1_)] := hl
  have hP : va_P D vwCl [(r1_, .inr (7, [.ref r2_, .int tb_])), (r2_, .inl (cy 0, 5, .inl lw_))] s.heap := hP
  have hD : va_D A [(r1_, .inr (7, [.ref r2_, .int tb_])), (r2_, .inl (cy 0, 5, .inl lw_))] := hD
  obtain ⟨H, hH⟩ : ∃ H0 : Heap, H0 = s.heap := ⟨_, rfl⟩
  obtain ⟨locs, hlo⟩ : ∃ L0 : List Loc, L0 = [] := ⟨_, rfl⟩
  have hS : va_S A s.heap H locs := by rw [hH, hlo]; exact hS
  rw [← hH] at hP
  show W p l e rmkX7_forget s m args below meth c s.heap [] 0 0 Q (F0 m 0 ls [])
  suffices hgo : W p l e rmkX7_forget s m args below meth c H locs 0 0 Q (F0 m 0 ls []) by rw [hH, hlo] at hgo; exact hgo
  clear hH hlo
  refine va_gets hx hb hE.2.2.2.2.2.1.1 hS hown wf17 (fun _ h9 => h9) dX7_forget_0 ?_
  refine lv_iconst (v := 0) hx hb dX7_forget_3 (by decide) ?_
  refine lv_aload_n hx hb dX7_forget_4 rfl (lv_at hl 0 rfl) ?_
  refine va_get (D := D) (ci := 7) (v := .ref r2_) (C := RX7) (T := TX7) (N := 2) hx hb hts winX7 hown hK hP 0 rfl rfl 0 (by decide) wf9 (fun _ h9 => h9) rfl dX7_forget_5 ?_
  refine lv_iconst (v := 0) hx hb dX7_forget_8 (by decide) ?_
  refine lv_iconst (v := 5) hx hb dX7_forget_9 (by decide) ?_
  refine cp_s hx hb (hml.trans hl.1.symm) hown wm20 wcn wcs wci hK hP hD hS 1 hE.2.2.2.2.2.1.2 rfl rfl (by decide) (by decide) (Nat.le_of_ble_eq_true rfl) dX7_forget_10 (fun H locs hP hD hS => ?_)
  have hP : va_P D vwCl [(r1_, .inr (7, [.ref r2_, .int tb_])), (r2_, .inl (cy 0, 5, .inl s_UNTOLD))] H := hP
  have hD : va_D A [(r1_, .inr (7, [.ref r2_, .int tb_])), (r2_, .inl (cy 0, 5, .inl s_UNTOLD))] := hD
  refine lv_aload_n hx hb dX7_forget_13 rfl (lv_at hl 0 rfl) ?_
  refine lv_iconst (v := 0) hx hb dX7_forget_14 (by decide) ?_
  refine va_put (D := D) (ci := 7) (v := .int 0) (ty := .int) (C := RX7) (T := TX7) (N := 2) hx hb hts winX7 tyX7 tyX7_ok nmX7 hown hK hP hD hS 0 rfl rfl 1 (by decide) wf13 (fun _ h9 => h9) rfl (by decide +kernel) (rfl) (rfl) (Nat.le_of_ble_eq_true rfl) dX7_forget_15 (fun H locs hP hD hS => ?_)
  have hP : va_P D vwCl [(r1_, .inr (7, [.ref r2_, .int 0])), (r2_, .inl (cy 0, 5, .inl s_UNTOLD))] H := hP
  have hD : va_D A [(r1_, .inr (7, [.ref r2_, .int 0])), (r2_, .inl (cy 0, 5, .inl s_UNTOLD))] := hD
  exact RT _ _ () H locs 18 ls (rt_v dX7_forget_18) rfl hP hD hS
abbrev rmkX7_copyFrom : Room := { frames := 1, cells := 0, slots := 0, locals := 40 }
set_option maxHeartbeats 4000000 in
set_option maxRecDepth 100000 in
theorem kX7_copyFrom {l : Launch} {D : va_G} {cy : Nat → ClassId} {sa : Nat → Nat} (r1_ : Nat) (r2_ : Nat) (lw_ : Nat → Int32) (tb_ : Int32) (w1_ : Nat) (w2_ : Nat) (lv_ : Nat → Int32) (tc_ : Int32)  : CD l D cy sa yX7_copyFrom wsX7_copyFrom rmkX7_copyFrom [.ref r1_, .ref w1_] [(r1_, .inr (7, [.ref r2_, .int tb_])), (r2_, .inl (cy 0, 5, .inl lw_)), (w1_, .inr (7, [.ref w2_, .int tc_])), (w2_, .inl (cy 0, 5, .inl lv_))] (none) [(r1_, .inr (7, [.ref r2_, .int tc_])), (r2_, .inl (cy 0, 5, .inl lv_)), (w1_, .inr (7, [.ref w2_, .int tc_])), (w2_, .inl (cy 0, 5, .inl lv_))] := by
  refine CT.of cX7_copyFrom 2 none (by decide +kernel) rfl (Nat.le_of_ble_eq_true rfl) ?_
  intro p e s m args below meth c A Q ls F hmn hK hE hA hP hD hS hl RT
  obtain ⟨hx, hb, hml, hown, hts⟩ := id F
  have winX7 : ∀ w ∈ u_ws RX7 TX7 2, w ∈ wsX7_copyFrom := by decide +kernel
  have wf9 := hts (.fieldLink RX7 9 "SelfSteer$Rider" "values" "[I") (by decide +kernel)
  have wm20 := hts (.methodLink RX7 20 arraycopyName) (by decide +kernel)
  have wcn := hts (.native arraycopyName) (by decide +kernel)
  have wcs := hts (.static arraycopyName) (by decide +kernel)
  have wci := hts (.initialized "java/lang/System") (by decide +kernel)
  have wf13 := hts (.fieldLink RX7 13 "SelfSteer$Rider" "toldBits" "I") (by decide +kernel)
  have hl : lv_has ls 2 [(0, .ref r1_), (1, .ref w1_)] := hl
  have hP : va_P D vwCl [(r1_, .inr (7, [.ref r2_, .int tb_])), (r2_, .inl (cy 0, 5, .inl lw_)), (w1_, .inr (7, [.ref w2_, .int tc_])), (w2_, .inl (cy 0, 5, .inl lv_))] s.heap := hP
  have hD : va_D A [(r1_, .inr (7, [.ref r2_, .int tb_])), (r2_, .inl (cy 0, 5, .inl lw_)), (w1_, .inr (7, [.ref w2_, .int tc_])), (w2_, .inl (cy 0, 5, .inl lv_))] := hD
  obtain ⟨H, hH⟩ : ∃ H0 : Heap, H0 = s.heap := ⟨_, rfl⟩
  obtain ⟨locs, hlo⟩ : ∃ L0 : List Loc, L0 = [] := ⟨_, rfl⟩
  have hS : va_S A s.heap H locs := by rw [hH, hlo]; exact hS
  rw [← hH] at hP
  show W p l e rmkX7_copyFrom s m args below meth c s.heap [] 0 0 Q (F0 m 0 ls [])
  suffices hgo : W p l e rmkX7_copyFrom s m args below meth c H locs 0 0 Q (F0 m 0 ls []) by rw [hH, hlo] at hgo; exact hgo
  clear hH hlo
  refine lv_aload_n hx hb dX7_copyFrom_0 rfl (lv_at hl 1 rfl) ?_
  refine va_get (D := D) (ci := 7) (v := .ref w2_) (C := RX7) (T := TX7) (N := 2) hx hb hts winX7 hown hK hP 2 rfl rfl 0 (by decide) wf9 (fun _ h9 => h9) rfl dX7_copyFrom_1 ?_
  refine lv_iconst (v := 0) hx hb dX7_copyFrom_4 (by decide) ?_
  refine lv_aload_n hx hb dX7_copyFrom_5 rfl (lv_at hl 0 rfl) ?_
  refine va_get (D := D) (ci := 7) (v := .ref r2_) (C := RX7) (T := TX7) (N := 2) hx hb hts winX7 hown hK hP 0 rfl rfl 0 (by decide) wf9 (fun _ h9 => h9) rfl dX7_copyFrom_6 ?_
  refine lv_iconst (v := 0) hx hb dX7_copyFrom_9 (by decide) ?_
  refine lv_iconst (v := 5) hx hb dX7_copyFrom_10 (by decide) ?_
  refine cp_i hx hb (hml.trans hl.1.symm) hown wm20 wcn wcs wci hK hP hD hS 3 1 rfl rfl rfl (by decide) (by decide) (Nat.le_of_ble_eq_true rfl) dX7_copyFrom_11 (fun H locs hP hD hS => ?_)
  have hP : va_P D vwCl [(r1_, .inr (7, [.ref r2_, .int tb_])), (r2_, .inl (cy 0, 5, .inl lv_)), (w1_, .inr (7, [.ref w2_, .int tc_])), (w2_, .inl (cy 0, 5, .inl lv_))] H := hP
  have hD : va_D A [(r1_, .inr (7, [.ref r2_, .int tb_])), (r2_, .inl (cy 0, 5, .inl lv_)), (w1_, .inr (7, [.ref w2_, .int tc_])), (w2_, .inl (cy 0, 5, .inl lv_))] := hD
  refine lv_aload_n hx hb dX7_copyFrom_14 rfl (lv_at hl 0 rfl) ?_
  refine lv_aload_n hx hb dX7_copyFrom_15 rfl (lv_at hl 1 rfl) ?_
  refine va_get (D := D) (ci := 7) (v := .int tc_) (C := RX7) (T := TX7) (N := 2) hx hb hts winX7 hown hK hP 2 rfl rfl 1 (by decide) wf13 (fun _ h9 => h9) rfl dX7_copyFrom_16 ?_
  refine va_put (D := D) (ci := 7) (v := .int tc_) (ty := .int) (C := RX7) (T := TX7) (N := 2) hx hb hts winX7 tyX7 tyX7_ok nmX7 hown hK hP hD hS 0 rfl rfl 1 (by decide) wf13 (fun _ h9 => h9) rfl (by decide +kernel) (rfl) (rfl) (Nat.le_of_ble_eq_true rfl) dX7_copyFrom_19 (fun H locs hP hD hS => ?_)
  have hP : va_P D vwCl [(r1_, .inr (7, [.ref r2_, .int tc_])), (r2_, .inl (cy 0, 5, .inl lv_)), (w1_, .inr (7, [.ref w2_, .int tc_])), (w2_, .inl (cy 0, 5, .inl lv_))] H := hP
  have hD : va_D A [(r1_, .inr (7, [.ref r2_, .int tc_])), (r2_, .inl (cy 0, 5, .inl lv_)), (w1_, .inr (7, [.ref w2_, .int tc_])), (w2_, .inl (cy 0, 5, .inl lv_))] := hD
  exact RT _ _ () H locs 22 ls (rt_v dX7_copyFrom_22) rfl hP hD hS
abbrev rmkX7_wasTold : Room := { frames := 0, cells := 0, slots := 0, locals := 0 }
set_option maxHeartbeats 4000000 in
set_option maxRecDepth 100000 in
theorem kX7_wasTold {l : Launch} {D : va_G} {cy : Nat → ClassId} {sa : Nat → Nat} (r1_ : Nat) (r2_ : Nat) (lw_ : Nat → Int32) (tb_ : Int32) (k_ : Nat)  : CD l D cy sa yX7_wasTold wsX7_wasTold rmkX7_wasTold [.ref r1_, .int (nI k_)] [(r1_, .inr (7, [.ref r2_, .int tb_])), (r2_, .inl (cy 0, 5, .inl lw_))] (some (.int (bI (¬ (tb_ &&& (1 <<< (nI k_ &&& 31)) = 0))))) [(r1_, .inr (7, [.ref r2_, .int tb_])), (r2_, .inl (cy 0, 5, .inl lw_))] := by
  refine CT.of cX7_wasTold 2 (some .boolean) (by decide +kernel) rfl (Nat.le_of_ble_eq_true rfl) ?_
  intro p e s m args below meth c A Q ls F hmn hK hE hA hP hD hS hl RT
  obtain ⟨hx, hb, hml, hown, hts⟩ := id F
  have winX7 : ∀ w ∈ u_ws RX7 TX7 2, w ∈ wsX7_wasTold := by decide +kernel
  have wf13 := hts (.fieldLink RX7 13 "SelfSteer$Rider" "toldBits" "I") (by decide +kernel)
  have hl : lv_has ls 2 [(0, .ref r1_), (1, .int (nI k_))] := hl
  have hP : va_P D vwCl [(r1_, .inr (7, [.ref r2_, .int tb_])), (r2_, .inl (cy 0, 5, .inl lw_))] s.heap := hP
  have hD : va_D A [(r1_, .inr (7, [.ref r2_, .int tb_])), (r2_, .inl (cy 0, 5, .inl lw_))] := hD
  obtain ⟨H, hH⟩ : ∃ H0 : Heap, H0 = s.heap := ⟨_, rfl⟩
  obtain ⟨locs, hlo⟩ : ∃ L0 : List Loc, L0 = [] := ⟨_, rfl⟩
  have hS : va_S A s.heap H locs := by rw [hH, hlo]; exact hS
  rw [← hH] at hP
  show W p l e rmkX7_wasTold s m args below meth c s.heap [] 0 0 Q (F0 m 0 ls [])
  suffices hgo : W p l e rmkX7_wasTold s m args below meth c H locs 0 0 Q (F0 m 0 ls []) by rw [hH, hlo] at hgo; exact hgo
  clear hH hlo
  refine lv_aload_n hx hb dX7_wasTold_0 rfl (lv_at hl 0 rfl) ?_
  refine va_get (D := D) (ci := 7) (v := .int tb_) (C := RX7) (T := TX7) (N := 2) hx hb hts winX7 hown hK hP 0 rfl rfl 1 (by decide) wf13 (fun _ h9 => h9) rfl dX7_wasTold_1 ?_
  refine lv_iconst (v := 1) hx hb dX7_wasTold_4 (by decide) ?_
  refine lv_iload_n hx hb dX7_wasTold_5 rfl (lv_at hl 1 rfl) ?_
  refine lv_ishl hx hb dX7_wasTold_6 ?_
  refine lv_iand hx hb dX7_wasTold_7 ?_
  have J_8_16 : ∀ (H : Heap) (locs : List Loc), va_P D vwCl [(r1_, .inr (7, [.ref r2_, .int tb_])), (r2_, .inl (cy 0, 5, .inl lw_))] H → va_D A [(r1_, .inr (7, [.ref r2_, .int tb_])), (r2_, .inl (cy 0, 5, .inl lw_))] → va_S A s.heap H locs → ∀ (ls : Array Slot), lv_has ls 2 [(0, .ref r1_), (1, .int (nI k_))] → W p l e rmkX7_wasTold s m args below meth c H locs 0 0 Q (F0 m 16 ls [.int (bI (¬ ((tb_ &&& (1 <<< ((nI k_) &&& 31))) = 0)))]) := by
    intro H locs hP hD hS ls hl
    refine lv_eqi (y := bI (¬ (tb_ &&& (1 <<< (nI k_ &&& 31)) = 0))) (rfl) ?_
    exact RT _ _ () H locs 16 ls (rt_z (bI_nar _) dX7_wasTold_16) rfl hP hD hS
  refine lv_if_eq (tgt := 15) hx hb dX7_wasTold_8 (by decide) (fun c_8 => ?_) (fun c_8 => ?_)
  · refine lv_iconst (v := 0) hx hb dX7_wasTold_15 (by decide) ?_
    refine lv_eqi (y := bI (¬ ((tb_ &&& (1 <<< ((nI k_) &&& 31))) = 0))) (bI_congr (pn_t c_8)) ?_
    exact J_8_16 H locs hP hD hS ls (lv_sub hl [0, 1] rfl)
  · refine lv_iconst (v := 1) hx hb dX7_wasTold_11 (by decide) ?_
    refine lv_goto (tgt := 16) hx hb dX7_wasTold_12 (by decide) ?_
    refine lv_eqi (y := bI (¬ ((tb_ &&& (1 <<< ((nI k_) &&& 31))) = 0))) (bI_congr (pn_f c_8)) ?_
    exact J_8_16 H locs hP hD hS ls (lv_sub hl [0, 1] rfl)
abbrev rmkX7_tell : Room := { frames := 1, cells := 0, slots := 0, locals := 22 }
set_option maxHeartbeats 4000000 in
set_option maxRecDepth 100000 in
theorem kX7_tell {l : Launch} {D : va_G} {cy : Nat → ClassId} {sa : Nat → Nat} (r1_ : Nat) (r2_ : Nat) (lw_ : Nat → Int32) (tb_ : Int32) (k_ : Nat) (v_ : Int32) (hk : k_ < 5) : CD l D cy sa yX7_tell wsX7_tell rmkX7_tell [.ref r1_, .int (nI k_), .int v_] [(r1_, .inr (7, [.ref r2_, .int tb_])), (r2_, .inl (cy 0, 5, .inl lw_))] (none) [(r1_, .inr (7, [.ref r2_, .int (tb_ ||| (1 <<< (nI k_ &&& 31)))])), (r2_, .inl (cy 0, 5, .inl (upd lw_ k_ v_)))] := by
  refine CT.of cX7_tell 3 none (by decide +kernel) rfl (Nat.le_of_ble_eq_true rfl) ?_
  intro p e s m args below meth c A Q ls F hmn hK hE hA hP hD hS hl RT
  obtain ⟨hx, hb, hml, hown, hts⟩ := id F
  have wi_X8 := hts (.initialized RX8) (by decide +kernel)
  have ws_X8_within := hts (.static yX8_within) (by decide +kernel)
  have winX7 : ∀ w ∈ u_ws RX7 TX7 2, w ∈ wsX7_tell := by decide +kernel
  have wf9 := hts (.fieldLink RX7 9 "SelfSteer$Rider" "values" "[I") (by decide +kernel)
  have wf13 := hts (.fieldLink RX7 13 "SelfSteer$Rider" "toldBits" "I") (by decide +kernel)
  have hl : lv_has ls 3 [(0, .ref r1_), (1, .int (nI k_)), (2, .int v_)] := hl
  have hP : va_P D vwCl [(r1_, .inr (7, [.ref r2_, .int tb_])), (r2_, .inl (cy 0, 5, .inl lw_))] s.heap := hP
  have hD : va_D A [(r1_, .inr (7, [.ref r2_, .int tb_])), (r2_, .inl (cy 0, 5, .inl lw_))] := hD
  obtain ⟨H, hH⟩ : ∃ H0 : Heap, H0 = s.heap := ⟨_, rfl⟩
  obtain ⟨locs, hlo⟩ : ∃ L0 : List Loc, L0 = [] := ⟨_, rfl⟩
  have hS : va_S A s.heap H locs := by rw [hH, hlo]; exact hS
  rw [← hH] at hP
  show W p l e rmkX7_tell s m args below meth c s.heap [] 0 0 Q (F0 m 0 ls [])
  suffices hgo : W p l e rmkX7_tell s m args below meth c H locs 0 0 Q (F0 m 0 ls []) by rw [hH, hlo] at hgo; exact hgo
  clear hH hlo
  refine lv_iload_n hx hb dX7_tell_0 rfl (lv_at hl 1 rfl) ?_
  refine lv_iconst (v := 0) hx hb dX7_tell_1 (by decide) ?_
  refine lv_iconst (v := 4) hx hb dX7_tell_2 (by decide) ?_
  refine ca_SN (n := 3) (rest := []) (wr := [(r1_, .inr (7, [.ref r2_, .int tb_])), (r2_, .inl (cy 0, 5, .inl lw_))]) F hK hE hA hP hD hS hl.1 (kX8_within (l := l) (D := D) (cy := cy) (sa := sa) (nI k_) 0 4) gX7_tell_X8_within_n26 (hE.nest 60 rfl) wi_X8 ws_X8_within rfl rfl rfl (by decide +kernel) ⟨by decide, by decide⟩ [] [0, 1] rfl rfl rfl rfl (by decide) rfl rfl (Nat.le_of_ble_eq_true rfl) dX7_tell_3 ⟨by decide, by decide⟩ (fun v9 u9 H locs hv hP hD hS => ?_)
  subst hv
  have hP : va_P D vwCl [(r1_, .inr (7, [.ref r2_, .int tb_])), (r2_, .inl (cy 0, 5, .inl lw_))] H := hP
  have hD : va_D A [(r1_, .inr (7, [.ref r2_, .int tb_])), (r2_, .inl (cy 0, 5, .inl lw_))] := hD
  refine W.eq (g2 := F0 m 6 ls [.int (bI (inR (nI k_) 0 4))]) rfl ?_
  refine bz_eq (tgt := 28) hx hb dX7_tell_6 (by decide) (fun c_6 => ?_) (fun c_6 => ?_)
  · exact absurd (inR_of (n := 4) (by decide) rfl (by omega)) c_6
  · refine lv_aload_n hx hb dX7_tell_9 rfl (lv_at hl 0 rfl) ?_
    refine va_get (D := D) (ci := 7) (v := .ref r2_) (C := RX7) (T := TX7) (N := 2) hx hb hts winX7 hown hK hP 0 rfl rfl 0 (by decide) wf9 (fun _ h9 => h9) rfl dX7_tell_10 ?_
    refine lv_iload_n hx hb dX7_tell_13 rfl (lv_at hl 1 rfl) ?_
    refine lv_iload_n hx hb dX7_tell_14 rfl (lv_at hl 2 rfl) ?_
    refine as_i (x := v_) hx hb hK hP hD hS 1 rfl k_ (rfl) (by omega) (by decide) dX7_tell_15 (fun H locs hP hD hS => ?_)
    have hP : va_P D vwCl [(r1_, .inr (7, [.ref r2_, .int tb_])), (r2_, .inl (cy 0, 5, .inl (upd lw_ k_ v_)))] H := hP
    have hD : va_D A [(r1_, .inr (7, [.ref r2_, .int tb_])), (r2_, .inl (cy 0, 5, .inl (upd lw_ k_ v_)))] := hD
    refine lv_aload_n hx hb dX7_tell_16 rfl (lv_at hl 0 rfl) ?_
    refine lv_dup hx hb dX7_tell_17 rfl ?_
    refine va_get (D := D) (ci := 7) (v := .int tb_) (C := RX7) (T := TX7) (N := 2) hx hb hts winX7 hown hK hP 0 rfl rfl 1 (by decide) wf13 (fun _ h9 => h9) rfl dX7_tell_18 ?_
    refine lv_iconst (v := 1) hx hb dX7_tell_21 (by decide) ?_
    refine lv_iload_n hx hb dX7_tell_22 rfl (lv_at hl 1 rfl) ?_
    refine lv_ishl hx hb dX7_tell_23 ?_
    refine lv_ior hx hb dX7_tell_24 ?_
    refine va_put (D := D) (ci := 7) (v := .int (tb_ ||| (1 <<< ((nI k_) &&& 31)))) (ty := .int) (C := RX7) (T := TX7) (N := 2) hx hb hts winX7 tyX7 tyX7_ok nmX7 hown hK hP hD hS 0 rfl rfl 1 (by decide) wf13 (fun _ h9 => h9) rfl (by decide +kernel) (rfl) (rfl) (Nat.le_of_ble_eq_true rfl) dX7_tell_25 (fun H locs hP hD hS => ?_)
    have hP : va_P D vwCl [(r1_, .inr (7, [.ref r2_, .int (tb_ ||| (1 <<< ((nI k_) &&& 31)))])), (r2_, .inl (cy 0, 5, .inl (upd lw_ k_ v_)))] H := hP
    have hD : va_D A [(r1_, .inr (7, [.ref r2_, .int (tb_ ||| (1 <<< ((nI k_) &&& 31)))])), (r2_, .inl (cy 0, 5, .inl (upd lw_ k_ v_)))] := hD
    skip
    exact RT _ _ () H locs 28 ls (rt_v dX7_tell_28) rfl hP hD hS
abbrev rmkX7_itemCount : Room := { frames := 1, cells := 0, slots := 0, locals := 20 }
set_option maxHeartbeats 4000000 in
set_option maxRecDepth 100000 in
theorem kX7_itemCount {l : Launch} {D : va_G} {cy : Nat → ClassId} {sa : Nat → Nat} (r1_ : Nat) (r2_ : Nat) (lw_ : Nat → Int32) (tb_ : Int32)  : CD l D cy sa yX7_itemCount wsX7_itemCount rmkX7_itemCount [.ref r1_] [(r1_, .inr (7, [.ref r2_, .int tb_])), (r2_, .inl (cy 0, 5, .inl lw_))] (some (.int (pc32 tb_))) [(r1_, .inr (7, [.ref r2_, .int tb_])), (r2_, .inl (cy 0, 5, .inl lw_))] := by
  refine CT.of cX7_itemCount 1 (some .int) (by decide +kernel) rfl (Nat.le_of_ble_eq_true rfl) ?_
  intro p e s m args below meth c A Q ls F hmn hK hE hA hP hD hS hl RT
  obtain ⟨hx, hb, hml, hown, hts⟩ := id F
  have winX7 : ∀ w ∈ u_ws RX7 TX7 2, w ∈ wsX7_itemCount := by decide +kernel
  have wf13 := hts (.fieldLink RX7 13 "SelfSteer$Rider" "toldBits" "I") (by decide +kernel)
  have hl : lv_has ls 1 [(0, .ref r1_)] := hl
  have hP : va_P D vwCl [(r1_, .inr (7, [.ref r2_, .int tb_])), (r2_, .inl (cy 0, 5, .inl lw_))] s.heap := hP
  have hD : va_D A [(r1_, .inr (7, [.ref r2_, .int tb_])), (r2_, .inl (cy 0, 5, .inl lw_))] := hD
  obtain ⟨H, hH⟩ : ∃ H0 : Heap, H0 = s.heap := ⟨_, rfl⟩
  obtain ⟨locs, hlo⟩ : ∃ L0 : List Loc, L0 = [] := ⟨_, rfl⟩
  have hS : va_S A s.heap H locs := by rw [hH, hlo]; exact hS
  rw [← hH] at hP
  show W p l e rmkX7_itemCount s m args below meth c s.heap [] 0 0 Q (F0 m 0 ls [])
  suffices hgo : W p l e rmkX7_itemCount s m args below meth c H locs 0 0 Q (F0 m 0 ls []) by rw [hH, hlo] at hgo; exact hgo
  clear hH hlo
  refine lv_aload_n hx hb dX7_itemCount_0 rfl (lv_at hl 0 rfl) ?_
  refine va_get (D := D) (ci := 7) (v := .int tb_) (C := RX7) (T := TX7) (N := 2) hx hb hts winX7 hown hK hP 0 rfl rfl 1 (by decide) wf13 (fun _ h9 => h9) rfl dX7_itemCount_1 ?_
  refine ca_S (n := 1) (rest := []) (wr := [(r1_, .inr (7, [.ref r2_, .int tb_])), (r2_, .inl (cy 0, 5, .inl lw_))]) F hK hE hA hP hD hS hl.1 (kJ6_bitCount (l := l) (D := D) (cy := cy) (sa := sa) tb_) gX7_itemCount_J6_bitCount_0f7a4 rfl rfl rfl (by decide +kernel) ⟨by decide, by decide⟩ [] [0, 1] rfl rfl rfl rfl (by decide) rfl rfl (Nat.le_of_ble_eq_true rfl) dX7_itemCount_4 ⟨by decide, by decide⟩ (fun v9 u9 H locs hv hP hD hS => ?_)
  subst hv
  have hP : va_P D vwCl [(r1_, .inr (7, [.ref r2_, .int tb_])), (r2_, .inl (cy 0, 5, .inl lw_))] H := hP
  have hD : va_D A [(r1_, .inr (7, [.ref r2_, .int tb_])), (r2_, .inl (cy 0, 5, .inl lw_))] := hD
  refine W.eq (g2 := F0 m 7 ls [.int (pc32 tb_)]) rfl ?_
  exact RT _ _ () H locs 7 ls (rt_i dX7_itemCount_7) rfl hP hD hS
abbrev rmkX6_look : Room := { frames := 0, cells := 0, slots := 0, locals := 0 }
set_option maxHeartbeats 4000000 in
set_option maxRecDepth 100000 in
theorem kX6_look {l : Launch} {D : va_G} {cy : Nat → ClassId} {sa : Nat → Nat} (q1_ : Nat) (q2_ : Nat) (q3_ : Nat) (q4_ : Nat) (rb_ : Int32) (rs_ : Int32) (rr_ : Int32) (rl_ : Int32) (ra_ : Int32) (rp_ : Int32) (rq_ : Int32) (rh_ : Int32) (rt_ : Int32) (rz_ : Int32)  : CD l D cy sa yX6_lookWhetherItFalls wsX6_lookWhetherItFalls rmkX6_look [.ref q1_] [(q1_, .inr (6, [.int rb_, .int rs_, .int rr_, .int rl_, .int ra_, .int rp_, .int rq_, .int rh_, .int rt_, .int rz_, .ref q2_, .ref q3_, .ref q4_]))] (none) [(q1_, .inr (6, [.int rb_, .int rs_, .int rr_, .int rl_, .int ra_, .int rp_, .int rq_, .int rh_, .int rt_, .int (bI (liesP rl_)), .ref q2_, .ref q3_, .ref q4_]))] := by
  refine CT.of cX6_lookWhetherItFalls 1 none (by decide +kernel) rfl (Nat.le_of_ble_eq_true rfl) ?_
  intro p e s m args below meth c A Q ls F hmn hK hE hA hP hD hS hl RT
  obtain ⟨hx, hb, hml, hown, hts⟩ := id F
  have winX6 : ∀ w ∈ u_ws RX6 TX6 13, w ∈ wsX6_lookWhetherItFalls := by decide +kernel
  have wf22 := hts (.fieldLink RX6 22 "SelfSteer$Ride" "lean" "I") (by decide +kernel)
  have wf40 := hts (.fieldLink RX6 40 "SelfSteer$Ride" "lies" "Z") (by decide +kernel)
  have hl : lv_has ls 1 [(0, .ref q1_)] := hl
  have hP : va_P D vwCl [(q1_, .inr (6, [.int rb_, .int rs_, .int rr_, .int rl_, .int ra_, .int rp_, .int rq_, .int rh_, .int rt_, .int rz_, .ref q2_, .ref q3_, .ref q4_]))] s.heap := hP
  have hD : va_D A [(q1_, .inr (6, [.int rb_, .int rs_, .int rr_, .int rl_, .int ra_, .int rp_, .int rq_, .int rh_, .int rt_, .int rz_, .ref q2_, .ref q3_, .ref q4_]))] := hD
  obtain ⟨H, hH⟩ : ∃ H0 : Heap, H0 = s.heap := ⟨_, rfl⟩
  obtain ⟨locs, hlo⟩ : ∃ L0 : List Loc, L0 = [] := ⟨_, rfl⟩
  have hS : va_S A s.heap H locs := by rw [hH, hlo]; exact hS
  rw [← hH] at hP
  show W p l e rmkX6_look s m args below meth c s.heap [] 0 0 Q (F0 m 0 ls [])
  suffices hgo : W p l e rmkX6_look s m args below meth c H locs 0 0 Q (F0 m 0 ls []) by rw [hH, hlo] at hgo; exact hgo
  clear hH hlo
  refine lv_aload_n hx hb dX6_lookWhetherItFalls_0 rfl (lv_at hl 0 rfl) ?_
  refine lv_aload_n hx hb dX6_lookWhetherItFalls_1 rfl (lv_at hl 0 rfl) ?_
  refine va_get (D := D) (ci := 6) (v := .int rl_) (C := RX6) (T := TX6) (N := 13) hx hb hts winX6 hown hK hP 0 rfl rfl 3 (by decide) wf22 (fun _ h9 => h9) rfl dX6_lookWhetherItFalls_2 ?_
  refine lv_sipush (v := 1000) hx hb dX6_lookWhetherItFalls_5 (by decide) ?_
  have J_8_14 : ∀ (H : Heap) (locs : List Loc), va_P D vwCl [(q1_, .inr (6, [.int rb_, .int rs_, .int rr_, .int rl_, .int ra_, .int rp_, .int rq_, .int rh_, .int rt_, .int rz_, .ref q2_, .ref q3_, .ref q4_]))] H → va_D A [(q1_, .inr (6, [.int rb_, .int rs_, .int rr_, .int rl_, .int ra_, .int rp_, .int rq_, .int rh_, .int rt_, .int rz_, .ref q2_, .ref q3_, .ref q4_]))] → va_S A s.heap H locs → ∀ (ls : Array Slot), lv_has ls 1 [(0, .ref q1_)] → W p l e rmkX6_look s m args below meth c H locs 0 0 Q (F0 m 26 ls [.int (bI ((1000 < rl_) ∨ (¬ ((-1000) ≤ rl_)))), .ref q1_]) := by
    intro H locs hP hD hS ls hl
    refine va_put (D := D) (ci := 6) (v := .int (bI ((1000 < rl_) ∨ (¬ ((-1000) ≤ rl_))))) (ty := .boolean) (C := RX6) (T := TX6) (N := 13) hx hb hts winX6 tyX6 tyX6_ok nmX6 hown hK hP hD hS 0 rfl rfl 9 (by decide) wf40 (fun _ h9 => h9) rfl (by decide +kernel) (bI_nar _) (bI_fit _) (Nat.le_of_ble_eq_true rfl) dX6_lookWhetherItFalls_26 (fun H locs hP hD hS => ?_)
    have hP : va_P D vwCl [(q1_, .inr (6, [.int rb_, .int rs_, .int rr_, .int rl_, .int ra_, .int rp_, .int rq_, .int rh_, .int rt_, .int (bI ((1000 < rl_) ∨ (¬ ((-1000) ≤ rl_)))), .ref q2_, .ref q3_, .ref q4_]))] H := hP
    have hD : va_D A [(q1_, .inr (6, [.int rb_, .int rs_, .int rr_, .int rl_, .int ra_, .int rp_, .int rq_, .int rh_, .int rt_, .int (bI ((1000 < rl_) ∨ (¬ ((-1000) ≤ rl_)))), .ref q2_, .ref q3_, .ref q4_]))] := hD
    skip
    exact RT _ _ () H locs 29 ls (rt_v dX6_lookWhetherItFalls_29) rfl hP hD hS
  refine lv_icmp_gt (tgt := 21) hx hb dX6_lookWhetherItFalls_8 (by decide) (fun c_8 => ?_) (fun c_8 => ?_)
  · refine lv_iconst (v := 1) hx hb dX6_lookWhetherItFalls_21 (by decide) ?_
    refine lv_goto (tgt := 26) hx hb dX6_lookWhetherItFalls_22 (by decide) ?_
    refine lv_eqi (y := bI ((1000 < rl_) ∨ (¬ ((-1000) ≤ rl_)))) (bI_congr (po_t c_8)) ?_
    exact J_8_14 H locs hP hD hS ls (lv_sub hl [0] rfl)
  · refine lv_aload_n hx hb dX6_lookWhetherItFalls_11 rfl (lv_at hl 0 rfl) ?_
    refine va_get (D := D) (ci := 6) (v := .int rl_) (C := RX6) (T := TX6) (N := 13) hx hb hts winX6 hown hK hP 0 rfl rfl 3 (by decide) wf22 (fun _ h9 => h9) rfl dX6_lookWhetherItFalls_12 ?_
    refine lv_sipush (v := (-1000)) hx hb dX6_lookWhetherItFalls_15 (by decide) ?_
    refine lv_icmp_ge (tgt := 25) hx hb dX6_lookWhetherItFalls_18 (by decide) (fun c_18 => ?_) (fun c_18 => ?_)
    · refine lv_iconst (v := 0) hx hb dX6_lookWhetherItFalls_25 (by decide) ?_
      refine lv_eqi (y := bI ((1000 < rl_) ∨ (¬ ((-1000) ≤ rl_)))) (bI_congr (po_f c_8 (pn_t c_18))) ?_
      exact J_8_14 H locs hP hD hS ls (lv_sub hl [0] rfl)
    · refine lv_iconst (v := 1) hx hb dX6_lookWhetherItFalls_21 (by decide) ?_
      refine lv_goto (tgt := 26) hx hb dX6_lookWhetherItFalls_22 (by decide) ?_
      refine lv_eqi (y := bI ((1000 < rl_) ∨ (¬ ((-1000) ≤ rl_)))) (bI_congr (po_f c_8 (pn_f c_18))) ?_
      exact J_8_14 H locs hP hD hS ls (lv_sub hl [0] rfl)
abbrev rmkX6_takePush : Room := { frames := 1, cells := 0, slots := 0, locals := 20 }
set_option maxHeartbeats 4000000 in
set_option maxRecDepth 100000 in
theorem kX6_takePush {l : Launch} {D : va_G} {cy : Nat → ClassId} {sa : Nat → Nat} (q1_ : Nat) (q2_ : Nat) (q3_ : Nat) (q4_ : Nat) (rb_ : Int32) (rs_ : Int32) (rr_ : Int32) (rl_ : Int32) (ra_ : Int32) (rp_ : Int32) (rq_ : Int32) (rh_ : Int32) (rt_ : Int32) (rz_ : Int32) (pu_ : Int32)  : CD l D cy sa yX6_takePush wsX6_takePush rmkX6_takePush [.ref q1_, .int pu_] [(q1_, .inr (6, [.int rb_, .int rs_, .int rr_, .int rl_, .int ra_, .int rp_, .int rq_, .int rh_, .int rt_, .int rz_, .ref q2_, .ref q3_, .ref q4_]))] (none) [(q1_, .inr (6, [.int rb_, .int rs_, .int rr_, .int (rl_ + pu_), .int ra_, .int rp_, .int rq_, .int rh_, .int rt_, .int (bI (liesP (rl_ + pu_))), .ref q2_, .ref q3_, .ref q4_]))] := by
  refine CT.of cX6_takePush 2 none (by decide +kernel) rfl (Nat.le_of_ble_eq_true rfl) ?_
  intro p e s m args below meth c A Q ls F hmn hK hE hA hP hD hS hl RT
  obtain ⟨hx, hb, hml, hown, hts⟩ := id F
  have winX6 : ∀ w ∈ u_ws RX6 TX6 13, w ∈ wsX6_takePush := by decide +kernel
  have wf22 := hts (.fieldLink RX6 22 "SelfSteer$Ride" "lean" "I") (by decide +kernel)
  have hl : lv_has ls 2 [(0, .ref q1_), (1, .int pu_)] := hl
  have hP : va_P D vwCl [(q1_, .inr (6, [.int rb_, .int rs_, .int rr_, .int rl_, .int ra_, .int rp_, .int rq_, .int rh_, .int rt_, .int rz_, .ref q2_, .ref q3_, .ref q4_]))] s.heap := hP
  have hD : va_D A [(q1_, .inr (6, [.int rb_, .int rs_, .int rr_, .int rl_, .int ra_, .int rp_, .int rq_, .int rh_, .int rt_, .int rz_, .ref q2_, .ref q3_, .ref q4_]))] := hD
  obtain ⟨H, hH⟩ : ∃ H0 : Heap, H0 = s.heap := ⟨_, rfl⟩
  obtain ⟨locs, hlo⟩ : ∃ L0 : List Loc, L0 = [] := ⟨_, rfl⟩
  have hS : va_S A s.heap H locs := by rw [hH, hlo]; exact hS
  rw [← hH] at hP
  show W p l e rmkX6_takePush s m args below meth c s.heap [] 0 0 Q (F0 m 0 ls [])
  suffices hgo : W p l e rmkX6_takePush s m args below meth c H locs 0 0 Q (F0 m 0 ls []) by rw [hH, hlo] at hgo; exact hgo
  clear hH hlo
  refine lv_aload_n hx hb dX6_takePush_0 rfl (lv_at hl 0 rfl) ?_
  refine lv_dup hx hb dX6_takePush_1 rfl ?_
  refine va_get (D := D) (ci := 6) (v := .int rl_) (C := RX6) (T := TX6) (N := 13) hx hb hts winX6 hown hK hP 0 rfl rfl 3 (by decide) wf22 (fun _ h9 => h9) rfl dX6_takePush_2 ?_
  refine lv_iload_n hx hb dX6_takePush_5 rfl (lv_at hl 1 rfl) ?_
  refine lv_iadd hx hb dX6_takePush_6 ?_
  refine va_put (D := D) (ci := 6) (v := .int (rl_ + pu_)) (ty := .int) (C := RX6) (T := TX6) (N := 13) hx hb hts winX6 tyX6 tyX6_ok nmX6 hown hK hP hD hS 0 rfl rfl 3 (by decide) wf22 (fun _ h9 => h9) rfl (by decide +kernel) (rfl) (rfl) (Nat.le_of_ble_eq_true rfl) dX6_takePush_7 (fun H locs hP hD hS => ?_)
  have hP : va_P D vwCl [(q1_, .inr (6, [.int rb_, .int rs_, .int rr_, .int (rl_ + pu_), .int ra_, .int rp_, .int rq_, .int rh_, .int rt_, .int rz_, .ref q2_, .ref q3_, .ref q4_]))] H := hP
  have hD : va_D A [(q1_, .inr (6, [.int rb_, .int rs_, .int rr_, .int (rl_ + pu_), .int ra_, .int rp_, .int rq_, .int rh_, .int rt_, .int rz_, .ref q2_, .ref q3_, .ref q4_]))] := hD
  refine lv_aload_n hx hb dX6_takePush_10 rfl (lv_at hl 0 rfl) ?_
  refine ca_V (q0 := 0) (n := 0) (rest := []) (wr := []) F hK hE hA hP hD hS hl.1 (kX6_look (l := l) (D := D) (cy := cy) (sa := sa) q1_ q2_ q3_ q4_ rb_ rs_ rr_ (rl_ + pu_) ra_ rp_ rq_ rh_ rt_ rz_) gX6_takePush_X6_lookWhetherItFalls rfl rfl rfl rfl rfl rfl (by decide +kernel) ⟨by decide, by decide⟩ [0] [] rfl rfl rfl rfl (by decide) rfl rfl (Nat.le_of_ble_eq_true rfl) dX6_takePush_11 ⟨by decide, by decide⟩ (fun v9 u9 H locs hv hP hD hS => ?_)
  subst hv
  obtain ⟨hP, hD⟩ := re_ws (ws' := [(q1_, .inr (6, [.int rb_, .int rs_, .int rr_, .int (rl_ + pu_), .int ra_, .int rp_, .int rq_, .int rh_, .int rt_, .int (bI (liesP (rl_ + pu_))), .ref q2_, .ref q3_, .ref q4_]))]) hP hD [0] rfl rfl
  refine W.eq (g2 := F0 m 14 ls []) rfl ?_
  exact RT _ _ () H locs 14 ls (rt_v dX6_takePush_14) rfl hP hD hS
abbrev rmkX6_begin : Room := { frames := 0, cells := 0, slots := 0, locals := 0 }
set_option maxHeartbeats 4000000 in
set_option maxRecDepth 100000 in
theorem kX6_begin {l : Launch} {D : va_G} {cy : Nat → ClassId} {sa : Nat → Nat} (q1_ : Nat) (q2_ : Nat) (q3_ : Nat) (q4_ : Nat) (rb_ : Int32) (rs_ : Int32) (rr_ : Int32) (rl_ : Int32) (ra_ : Int32) (rp_ : Int32) (rq_ : Int32) (rh_ : Int32) (rt_ : Int32) (rz_ : Int32) (i_ : Int32) (v_ : Int32) (r_ : Int32) (hr : narrow .boolean (.int r_) = .int r_) (hf : fits .boolean (.int r_) = true) : CD l D cy sa yX6_begin wsX6_begin rmkX6_begin [.ref q1_, .int i_, .int v_, .int r_] [(q1_, .inr (6, [.int rb_, .int rs_, .int rr_, .int rl_, .int ra_, .int rp_, .int rq_, .int rh_, .int rt_, .int rz_, .ref q2_, .ref q3_, .ref q4_]))] (none) [(q1_, .inr (6, [.int i_, .int v_, .int r_, .int 0, .int 0, .int 0, .int 0, .int 0, .int 0, .int 0, .ref q2_, .ref q3_, .ref q4_]))] := by
  refine CT.of cX6_begin 4 none (by decide +kernel) rfl (Nat.le_of_ble_eq_true rfl) ?_
  intro p e s m args below meth c A Q ls F hmn hK hE hA hP hD hS hl RT
  obtain ⟨hx, hb, hml, hown, hts⟩ := id F
  have winX6 : ∀ w ∈ u_ws RX6 TX6 13, w ∈ wsX6_begin := by decide +kernel
  have wf9 := hts (.fieldLink RX6 9 "SelfSteer$Ride" "bicycle" "I") (by decide +kernel)
  have wf15 := hts (.fieldLink RX6 15 "SelfSteer$Ride" "speed" "I") (by decide +kernel)
  have wf18 := hts (.fieldLink RX6 18 "SelfSteer$Ride" "reversed" "Z") (by decide +kernel)
  have wf22 := hts (.fieldLink RX6 22 "SelfSteer$Ride" "lean" "I") (by decide +kernel)
  have wf25 := hts (.fieldLink RX6 25 "SelfSteer$Ride" "bar" "I") (by decide +kernel)
  have wf28 := hts (.fieldLink RX6 28 "SelfSteer$Ride" "leanChange" "I") (by decide +kernel)
  have wf31 := hts (.fieldLink RX6 31 "SelfSteer$Ride" "barChange" "I") (by decide +kernel)
  have wf34 := hts (.fieldLink RX6 34 "SelfSteer$Ride" "hand" "I") (by decide +kernel)
  have wf37 := hts (.fieldLink RX6 37 "SelfSteer$Ride" "ticks" "I") (by decide +kernel)
  have wf40 := hts (.fieldLink RX6 40 "SelfSteer$Ride" "lies" "Z") (by decide +kernel)
  have hl : lv_has ls 4 [(0, .ref q1_), (1, .int i_), (2, .int v_), (3, .int r_)] := hl
  have hP : va_P D vwCl [(q1_, .inr (6, [.int rb_, .int rs_, .int rr_, .int rl_, .int ra_, .int rp_, .int rq_, .int rh_, .int rt_, .int rz_, .ref q2_, .ref q3_, .ref q4_]))] s.heap := hP
  have hD : va_D A [(q1_, .inr (6, [.int rb_, .int rs_, .int rr_, .int rl_, .int ra_, .int rp_, .int rq_, .int rh_, .int rt_, .int rz_, .ref q2_, .ref q3_, .ref q4_]))] := hD
  obtain ⟨H, hH⟩ : ∃ H0 : Heap, H0 = s.heap := ⟨_, rfl⟩
  obtain ⟨locs, hlo⟩ : ∃ L0 : List Loc, L0 = [] := ⟨_, rfl⟩
  have hS : va_S A s.heap H locs := by rw [hH, hlo]; exact hS
  rw [← hH] at hP
  show W p l e rmkX6_begin s m args below meth c s.heap [] 0 0 Q (F0 m 0 ls [])
  suffices hgo : W p l e rmkX6_begin s m args below meth c H locs 0 0 Q (F0 m 0 ls []) by rw [hH, hlo] at hgo; exact hgo
  clear hH hlo
  refine lv_aload_n hx hb dX6_begin_0 rfl (lv_at hl 0 rfl) ?_
  refine lv_iload_n hx hb dX6_begin_1 rfl (lv_at hl 1 rfl) ?_
  refine va_put (D := D) (ci := 6) (v := .int i_) (ty := .int) (C := RX6) (T := TX6) (N := 13) hx hb hts winX6 tyX6 tyX6_ok nmX6 hown hK hP hD hS 0 rfl rfl 0 (by decide) wf9 (fun _ h9 => h9) rfl (by decide +kernel) (rfl) (rfl) (Nat.le_of_ble_eq_true rfl) dX6_begin_2 (fun H locs hP hD hS => ?_)
  have hP : va_P D vwCl [(q1_, .inr (6, [.int i_, .int rs_, .int rr_, .int rl_, .int ra_, .int rp_, .int rq_, .int rh_, .int rt_, .int rz_, .ref q2_, .ref q3_, .ref q4_]))] H := hP
  have hD : va_D A [(q1_, .inr (6, [.int i_, .int rs_, .int rr_, .int rl_, .int ra_, .int rp_, .int rq_, .int rh_, .int rt_, .int rz_, .ref q2_, .ref q3_, .ref q4_]))] := hD
  refine lv_aload_n hx hb dX6_begin_5 rfl (lv_at hl 0 rfl) ?_
  refine lv_iload_n hx hb dX6_begin_6 rfl (lv_at hl 2 rfl) ?_
  refine va_put (D := D) (ci := 6) (v := .int v_) (ty := .int) (C := RX6) (T := TX6) (N := 13) hx hb hts winX6 tyX6 tyX6_ok nmX6 hown hK hP hD hS 0 rfl rfl 1 (by decide) wf15 (fun _ h9 => h9) rfl (by decide +kernel) (rfl) (rfl) (Nat.le_of_ble_eq_true rfl) dX6_begin_7 (fun H locs hP hD hS => ?_)
  have hP : va_P D vwCl [(q1_, .inr (6, [.int i_, .int v_, .int rr_, .int rl_, .int ra_, .int rp_, .int rq_, .int rh_, .int rt_, .int rz_, .ref q2_, .ref q3_, .ref q4_]))] H := hP
  have hD : va_D A [(q1_, .inr (6, [.int i_, .int v_, .int rr_, .int rl_, .int ra_, .int rp_, .int rq_, .int rh_, .int rt_, .int rz_, .ref q2_, .ref q3_, .ref q4_]))] := hD
  refine lv_aload_n hx hb dX6_begin_10 rfl (lv_at hl 0 rfl) ?_
  refine lv_iload_n hx hb dX6_begin_11 rfl (lv_at hl 3 rfl) ?_
  refine va_put (D := D) (ci := 6) (v := .int r_) (ty := .boolean) (C := RX6) (T := TX6) (N := 13) hx hb hts winX6 tyX6 tyX6_ok nmX6 hown hK hP hD hS 0 rfl rfl 2 (by decide) wf18 (fun _ h9 => h9) rfl (by decide +kernel) (hr) (hf) (Nat.le_of_ble_eq_true rfl) dX6_begin_12 (fun H locs hP hD hS => ?_)
  have hP : va_P D vwCl [(q1_, .inr (6, [.int i_, .int v_, .int r_, .int rl_, .int ra_, .int rp_, .int rq_, .int rh_, .int rt_, .int rz_, .ref q2_, .ref q3_, .ref q4_]))] H := hP
  have hD : va_D A [(q1_, .inr (6, [.int i_, .int v_, .int r_, .int rl_, .int ra_, .int rp_, .int rq_, .int rh_, .int rt_, .int rz_, .ref q2_, .ref q3_, .ref q4_]))] := hD
  refine lv_aload_n hx hb dX6_begin_15 rfl (lv_at hl 0 rfl) ?_
  refine lv_iconst (v := 0) hx hb dX6_begin_16 (by decide) ?_
  refine va_put (D := D) (ci := 6) (v := .int 0) (ty := .int) (C := RX6) (T := TX6) (N := 13) hx hb hts winX6 tyX6 tyX6_ok nmX6 hown hK hP hD hS 0 rfl rfl 3 (by decide) wf22 (fun _ h9 => h9) rfl (by decide +kernel) (rfl) (rfl) (Nat.le_of_ble_eq_true rfl) dX6_begin_17 (fun H locs hP hD hS => ?_)
  have hP : va_P D vwCl [(q1_, .inr (6, [.int i_, .int v_, .int r_, .int 0, .int ra_, .int rp_, .int rq_, .int rh_, .int rt_, .int rz_, .ref q2_, .ref q3_, .ref q4_]))] H := hP
  have hD : va_D A [(q1_, .inr (6, [.int i_, .int v_, .int r_, .int 0, .int ra_, .int rp_, .int rq_, .int rh_, .int rt_, .int rz_, .ref q2_, .ref q3_, .ref q4_]))] := hD
  refine lv_aload_n hx hb dX6_begin_20 rfl (lv_at hl 0 rfl) ?_
  refine lv_iconst (v := 0) hx hb dX6_begin_21 (by decide) ?_
  refine va_put (D := D) (ci := 6) (v := .int 0) (ty := .int) (C := RX6) (T := TX6) (N := 13) hx hb hts winX6 tyX6 tyX6_ok nmX6 hown hK hP hD hS 0 rfl rfl 4 (by decide) wf25 (fun _ h9 => h9) rfl (by decide +kernel) (rfl) (rfl) (Nat.le_of_ble_eq_true rfl) dX6_begin_22 (fun H locs hP hD hS => ?_)
  have hP : va_P D vwCl [(q1_, .inr (6, [.int i_, .int v_, .int r_, .int 0, .int 0, .int rp_, .int rq_, .int rh_, .int rt_, .int rz_, .ref q2_, .ref q3_, .ref q4_]))] H := hP
  have hD : va_D A [(q1_, .inr (6, [.int i_, .int v_, .int r_, .int 0, .int 0, .int rp_, .int rq_, .int rh_, .int rt_, .int rz_, .ref q2_, .ref q3_, .ref q4_]))] := hD
  refine lv_aload_n hx hb dX6_begin_25 rfl (lv_at hl 0 rfl) ?_
  refine lv_iconst (v := 0) hx hb dX6_begin_26 (by decide) ?_
  refine va_put (D := D) (ci := 6) (v := .int 0) (ty := .int) (C := RX6) (T := TX6) (N := 13) hx hb hts winX6 tyX6 tyX6_ok nmX6 hown hK hP hD hS 0 rfl rfl 5 (by decide) wf28 (fun _ h9 => h9) rfl (by decide +kernel) (rfl) (rfl) (Nat.le_of_ble_eq_true rfl) dX6_begin_27 (fun H locs hP hD hS => ?_)
  have hP : va_P D vwCl [(q1_, .inr (6, [.int i_, .int v_, .int r_, .int 0, .int 0, .int 0, .int rq_, .int rh_, .int rt_, .int rz_, .ref q2_, .ref q3_, .ref q4_]))] H := hP
  have hD : va_D A [(q1_, .inr (6, [.int i_, .int v_, .int r_, .int 0, .int 0, .int 0, .int rq_, .int rh_, .int rt_, .int rz_, .ref q2_, .ref q3_, .ref q4_]))] := hD
  refine lv_aload_n hx hb dX6_begin_30 rfl (lv_at hl 0 rfl) ?_
  refine lv_iconst (v := 0) hx hb dX6_begin_31 (by decide) ?_
  refine va_put (D := D) (ci := 6) (v := .int 0) (ty := .int) (C := RX6) (T := TX6) (N := 13) hx hb hts winX6 tyX6 tyX6_ok nmX6 hown hK hP hD hS 0 rfl rfl 6 (by decide) wf31 (fun _ h9 => h9) rfl (by decide +kernel) (rfl) (rfl) (Nat.le_of_ble_eq_true rfl) dX6_begin_32 (fun H locs hP hD hS => ?_)
  have hP : va_P D vwCl [(q1_, .inr (6, [.int i_, .int v_, .int r_, .int 0, .int 0, .int 0, .int 0, .int rh_, .int rt_, .int rz_, .ref q2_, .ref q3_, .ref q4_]))] H := hP
  have hD : va_D A [(q1_, .inr (6, [.int i_, .int v_, .int r_, .int 0, .int 0, .int 0, .int 0, .int rh_, .int rt_, .int rz_, .ref q2_, .ref q3_, .ref q4_]))] := hD
  refine lv_aload_n hx hb dX6_begin_35 rfl (lv_at hl 0 rfl) ?_
  refine lv_iconst (v := 0) hx hb dX6_begin_36 (by decide) ?_
  refine va_put (D := D) (ci := 6) (v := .int 0) (ty := .int) (C := RX6) (T := TX6) (N := 13) hx hb hts winX6 tyX6 tyX6_ok nmX6 hown hK hP hD hS 0 rfl rfl 7 (by decide) wf34 (fun _ h9 => h9) rfl (by decide +kernel) (rfl) (rfl) (Nat.le_of_ble_eq_true rfl) dX6_begin_37 (fun H locs hP hD hS => ?_)
  have hP : va_P D vwCl [(q1_, .inr (6, [.int i_, .int v_, .int r_, .int 0, .int 0, .int 0, .int 0, .int 0, .int rt_, .int rz_, .ref q2_, .ref q3_, .ref q4_]))] H := hP
  have hD : va_D A [(q1_, .inr (6, [.int i_, .int v_, .int r_, .int 0, .int 0, .int 0, .int 0, .int 0, .int rt_, .int rz_, .ref q2_, .ref q3_, .ref q4_]))] := hD
  refine lv_aload_n hx hb dX6_begin_40 rfl (lv_at hl 0 rfl) ?_
  refine lv_iconst (v := 0) hx hb dX6_begin_41 (by decide) ?_
  refine va_put (D := D) (ci := 6) (v := .int 0) (ty := .int) (C := RX6) (T := TX6) (N := 13) hx hb hts winX6 tyX6 tyX6_ok nmX6 hown hK hP hD hS 0 rfl rfl 8 (by decide) wf37 (fun _ h9 => h9) rfl (by decide +kernel) (rfl) (rfl) (Nat.le_of_ble_eq_true rfl) dX6_begin_42 (fun H locs hP hD hS => ?_)
  have hP : va_P D vwCl [(q1_, .inr (6, [.int i_, .int v_, .int r_, .int 0, .int 0, .int 0, .int 0, .int 0, .int 0, .int rz_, .ref q2_, .ref q3_, .ref q4_]))] H := hP
  have hD : va_D A [(q1_, .inr (6, [.int i_, .int v_, .int r_, .int 0, .int 0, .int 0, .int 0, .int 0, .int 0, .int rz_, .ref q2_, .ref q3_, .ref q4_]))] := hD
  refine lv_aload_n hx hb dX6_begin_45 rfl (lv_at hl 0 rfl) ?_
  refine lv_iconst (v := 0) hx hb dX6_begin_46 (by decide) ?_
  refine va_put (D := D) (ci := 6) (v := .int 0) (ty := .boolean) (C := RX6) (T := TX6) (N := 13) hx hb hts winX6 tyX6 tyX6_ok nmX6 hown hK hP hD hS 0 rfl rfl 9 (by decide) wf40 (fun _ h9 => h9) rfl (by decide +kernel) (rfl) (rfl) (Nat.le_of_ble_eq_true rfl) dX6_begin_47 (fun H locs hP hD hS => ?_)
  have hP : va_P D vwCl [(q1_, .inr (6, [.int i_, .int v_, .int r_, .int 0, .int 0, .int 0, .int 0, .int 0, .int 0, .int 0, .ref q2_, .ref q3_, .ref q4_]))] H := hP
  have hD : va_D A [(q1_, .inr (6, [.int i_, .int v_, .int r_, .int 0, .int 0, .int 0, .int 0, .int 0, .int 0, .int 0, .ref q2_, .ref q3_, .ref q4_]))] := hD
  exact RT _ _ () H locs 50 ls (rt_v dX6_begin_50) rfl hP hD hS
abbrev rmkX6_remember : Room := { frames := 1, cells := 0, slots := 0, locals := 22 }
set_option maxHeartbeats 4000000 in
set_option maxRecDepth 100000 in
theorem kX6_remember {l : Launch} {D : va_G} {cy : Nat → ClassId} {sa : Nat → Nat} (q1_ : Nat) (q2_ : Nat) (q3_ : Nat) (q4_ : Nat) (rb_ : Int32) (rs_ : Int32) (rr_ : Int32) (rl_ : Int32) (ra_ : Int32) (rp_ : Int32) (rq_ : Int32) (rh_ : Int32) (rz_ : Int32) (pl_ : Nat → Int32) (pp_ : Nat → Int32) (pb_ : Nat → Int32) (tn_ : Nat) (ht : tn_ < 1000000) : CD l D cy sa yX6_remember wsX6_remember rmkX6_remember [.ref q1_] [(q1_, .inr (6, [.int rb_, .int rs_, .int rr_, .int rl_, .int ra_, .int rp_, .int rq_, .int rh_, .int (nI tn_), .int rz_, .ref q2_, .ref q3_, .ref q4_])), (q2_, .inl (cy 0, 6, .inl pl_)), (q3_, .inl (cy 0, 6, .inl pp_)), (q4_, .inl (cy 0, 6, .inl pb_))] (none) [(q1_, .inr (6, [.int rb_, .int rs_, .int rr_, .int rl_, .int ra_, .int rp_, .int rq_, .int rh_, .int (nI tn_), .int rz_, .ref q2_, .ref q3_, .ref q4_])), (q2_, .inl (cy 0, 6, .inl (upd pl_ (tn_ % 6) rl_))), (q3_, .inl (cy 0, 6, .inl (upd pp_ (tn_ % 6) rp_))), (q4_, .inl (cy 0, 6, .inl (upd pb_ (tn_ % 6) ra_)))] := by
  refine CT.of cX6_remember 2 none (by decide +kernel) rfl (Nat.le_of_ble_eq_true rfl) ?_
  intro p e s m args below meth c A Q ls F hmn hK hE hA hP hD hS hl RT
  obtain ⟨hx, hb, hml, hown, hts⟩ := id F
  have winX6 : ∀ w ∈ u_ws RX6 TX6 13, w ∈ wsX6_remember := by decide +kernel
  have wf37 := hts (.fieldLink RX6 37 "SelfSteer$Ride" "ticks" "I") (by decide +kernel)
  have wf43 := hts (.fieldLink RX6 43 "SelfSteer$Ride" "pastLean" "[I") (by decide +kernel)
  have wf22 := hts (.fieldLink RX6 22 "SelfSteer$Ride" "lean" "I") (by decide +kernel)
  have wf47 := hts (.fieldLink RX6 47 "SelfSteer$Ride" "pastLeanChange" "[I") (by decide +kernel)
  have wf28 := hts (.fieldLink RX6 28 "SelfSteer$Ride" "leanChange" "I") (by decide +kernel)
  have wf50 := hts (.fieldLink RX6 50 "SelfSteer$Ride" "pastBar" "[I") (by decide +kernel)
  have wf25 := hts (.fieldLink RX6 25 "SelfSteer$Ride" "bar" "I") (by decide +kernel)
  have hl : lv_has ls 2 [(0, .ref q1_)] := hl
  have hP : va_P D vwCl [(q1_, .inr (6, [.int rb_, .int rs_, .int rr_, .int rl_, .int ra_, .int rp_, .int rq_, .int rh_, .int (nI tn_), .int rz_, .ref q2_, .ref q3_, .ref q4_])), (q2_, .inl (cy 0, 6, .inl pl_)), (q3_, .inl (cy 0, 6, .inl pp_)), (q4_, .inl (cy 0, 6, .inl pb_))] s.heap := hP
  have hD : va_D A [(q1_, .inr (6, [.int rb_, .int rs_, .int rr_, .int rl_, .int ra_, .int rp_, .int rq_, .int rh_, .int (nI tn_), .int rz_, .ref q2_, .ref q3_, .ref q4_])), (q2_, .inl (cy 0, 6, .inl pl_)), (q3_, .inl (cy 0, 6, .inl pp_)), (q4_, .inl (cy 0, 6, .inl pb_))] := hD
  obtain ⟨H, hH⟩ : ∃ H0 : Heap, H0 = s.heap := ⟨_, rfl⟩
  obtain ⟨locs, hlo⟩ : ∃ L0 : List Loc, L0 = [] := ⟨_, rfl⟩
  have hS : va_S A s.heap H locs := by rw [hH, hlo]; exact hS
  rw [← hH] at hP
  show W p l e rmkX6_remember s m args below meth c s.heap [] 0 0 Q (F0 m 0 ls [])
  suffices hgo : W p l e rmkX6_remember s m args below meth c H locs 0 0 Q (F0 m 0 ls []) by rw [hH, hlo] at hgo; exact hgo
  clear hH hlo
  refine lv_aload_n hx hb dX6_remember_0 rfl (lv_at hl 0 rfl) ?_
  refine va_get (D := D) (ci := 6) (v := .int (nI tn_)) (C := RX6) (T := TX6) (N := 13) hx hb hts winX6 hown hK hP 0 rfl rfl 8 (by decide) wf37 (fun _ h9 => h9) rfl dX6_remember_1 ?_
  refine lv_bipush (v := 6) hx hb dX6_remember_4 (by decide) ?_
  refine ca_S (n := 2) (rest := []) (wr := [(q1_, .inr (6, [.int rb_, .int rs_, .int rr_, .int rl_, .int ra_, .int rp_, .int rq_, .int rh_, .int (nI tn_), .int rz_, .ref q2_, .ref q3_, .ref q4_])), (q2_, .inl (cy 0, 6, .inl pl_)), (q3_, .inl (cy 0, 6, .inl pp_)), (q4_, .inl (cy 0, 6, .inl pb_))]) F hK hE hA hP hD hS hl.1 (kJ9_floorMod (l := l) (D := D) (cy := cy) (sa := sa) tn_ (by first | assumption | omega | decide)) gX6_remember_J9_floorMod_7cf53 rfl rfl rfl (by decide +kernel) ⟨by decide, by decide⟩ [] [0, 1, 2, 3] rfl rfl rfl rfl (by decide) rfl rfl (Nat.le_of_ble_eq_true rfl) dX6_remember_6 ⟨by decide, by decide⟩ (fun v9 u9 H locs hv hP hD hS => ?_)
  subst hv
  have hP : va_P D vwCl [(q1_, .inr (6, [.int rb_, .int rs_, .int rr_, .int rl_, .int ra_, .int rp_, .int rq_, .int rh_, .int (nI tn_), .int rz_, .ref q2_, .ref q3_, .ref q4_])), (q2_, .inl (cy 0, 6, .inl pl_)), (q3_, .inl (cy 0, 6, .inl pp_)), (q4_, .inl (cy 0, 6, .inl pb_))] H := hP
  have hD : va_D A [(q1_, .inr (6, [.int rb_, .int rs_, .int rr_, .int rl_, .int ra_, .int rp_, .int rq_, .int rh_, .int (nI tn_), .int rz_, .ref q2_, .ref q3_, .ref q4_])), (q2_, .inl (cy 0, 6, .inl pl_)), (q3_, .inl (cy 0, 6, .inl pp_)), (q4_, .inl (cy 0, 6, .inl pb_))] := hD
  refine W.eq (g2 := F0 m 9 ls [.int (nI (tn_ % 6))]) rfl ?_
  refine lv_istore_n (lv' := [(1, .int (nI (tn_ % 6))), (0, .ref q1_)]) hx hb dX6_remember_9 rfl hl (by decide) rfl (fun ls hl => ?_)
  refine lv_aload_n hx hb dX6_remember_10 rfl (lv_at hl 1 rfl) ?_
  refine va_get (D := D) (ci := 6) (v := .ref q2_) (C := RX6) (T := TX6) (N := 13) hx hb hts winX6 hown hK hP 0 rfl rfl 10 (by decide) wf43 (fun _ h9 => h9) rfl dX6_remember_11 ?_
  refine lv_iload_n hx hb dX6_remember_14 rfl (lv_at hl 0 rfl) ?_
  refine lv_aload_n hx hb dX6_remember_15 rfl (lv_at hl 1 rfl) ?_
  refine va_get (D := D) (ci := 6) (v := .int rl_) (C := RX6) (T := TX6) (N := 13) hx hb hts winX6 hown hK hP 0 rfl rfl 3 (by decide) wf22 (fun _ h9 => h9) rfl dX6_remember_16 ?_
  refine as_i (x := rl_) hx hb hK hP hD hS 1 rfl (tn_ % 6) (rfl) (Nat.mod_lt _ (by decide)) (by decide) dX6_remember_19 (fun H locs hP hD hS => ?_)
  have hP : va_P D vwCl [(q1_, .inr (6, [.int rb_, .int rs_, .int rr_, .int rl_, .int ra_, .int rp_, .int rq_, .int rh_, .int (nI tn_), .int rz_, .ref q2_, .ref q3_, .ref q4_])), (q2_, .inl (cy 0, 6, .inl (upd pl_ (tn_ % 6) rl_))), (q3_, .inl (cy 0, 6, .inl pp_)), (q4_, .inl (cy 0, 6, .inl pb_))] H := hP
  have hD : va_D A [(q1_, .inr (6, [.int rb_, .int rs_, .int rr_, .int rl_, .int ra_, .int rp_, .int rq_, .int rh_, .int (nI tn_), .int rz_, .ref q2_, .ref q3_, .ref q4_])), (q2_, .inl (cy 0, 6, .inl (upd pl_ (tn_ % 6) rl_))), (q3_, .inl (cy 0, 6, .inl pp_)), (q4_, .inl (cy 0, 6, .inl pb_))] := hD
  refine lv_aload_n hx hb dX6_remember_20 rfl (lv_at hl 1 rfl) ?_
  refine va_get (D := D) (ci := 6) (v := .ref q3_) (C := RX6) (T := TX6) (N := 13) hx hb hts winX6 hown hK hP 0 rfl rfl 11 (by decide) wf47 (fun _ h9 => h9) rfl dX6_remember_21 ?_
  refine lv_iload_n hx hb dX6_remember_24 rfl (lv_at hl 0 rfl) ?_
  refine lv_aload_n hx hb dX6_remember_25 rfl (lv_at hl 1 rfl) ?_
  refine va_get (D := D) (ci := 6) (v := .int rp_) (C := RX6) (T := TX6) (N := 13) hx hb hts winX6 hown hK hP 0 rfl rfl 5 (by decide) wf28 (fun _ h9 => h9) rfl dX6_remember_26 ?_
  refine as_i (x := rp_) hx hb hK hP hD hS 2 rfl (tn_ % 6) (rfl) (Nat.mod_lt _ (by decide)) (by decide) dX6_remember_29 (fun H locs hP hD hS => ?_)
  have hP : va_P D vwCl [(q1_, .inr (6, [.int rb_, .int rs_, .int rr_, .int rl_, .int ra_, .int rp_, .int rq_, .int rh_, .int (nI tn_), .int rz_, .ref q2_, .ref q3_, .ref q4_])), (q2_, .inl (cy 0, 6, .inl (upd pl_ (tn_ % 6) rl_))), (q3_, .inl (cy 0, 6, .inl (upd pp_ (tn_ % 6) rp_))), (q4_, .inl (cy 0, 6, .inl pb_))] H := hP
  have hD : va_D A [(q1_, .inr (6, [.int rb_, .int rs_, .int rr_, .int rl_, .int ra_, .int rp_, .int rq_, .int rh_, .int (nI tn_), .int rz_, .ref q2_, .ref q3_, .ref q4_])), (q2_, .inl (cy 0, 6, .inl (upd pl_ (tn_ % 6) rl_))), (q3_, .inl (cy 0, 6, .inl (upd pp_ (tn_ % 6) rp_))), (q4_, .inl (cy 0, 6, .inl pb_))] := hD
  refine lv_aload_n hx hb dX6_remember_30 rfl (lv_at hl 1 rfl) ?_
  refine va_get (D := D) (ci := 6) (v := .ref q4_) (C := RX6) (T := TX6) (N := 13) hx hb hts winX6 hown hK hP 0 rfl rfl 12 (by decide) wf50 (fun _ h9 => h9) rfl dX6_remember_31 ?_
  refine lv_iload_n hx hb dX6_remember_34 rfl (lv_at hl 0 rfl) ?_
  refine lv_aload_n hx hb dX6_remember_35 rfl (lv_at hl 1 rfl) ?_
  refine va_get (D := D) (ci := 6) (v := .int ra_) (C := RX6) (T := TX6) (N := 13) hx hb hts winX6 hown hK hP 0 rfl rfl 4 (by decide) wf25 (fun _ h9 => h9) rfl dX6_remember_36 ?_
  refine as_i (x := ra_) hx hb hK hP hD hS 3 rfl (tn_ % 6) (rfl) (Nat.mod_lt _ (by decide)) (by decide) dX6_remember_39 (fun H locs hP hD hS => ?_)
  have hP : va_P D vwCl [(q1_, .inr (6, [.int rb_, .int rs_, .int rr_, .int rl_, .int ra_, .int rp_, .int rq_, .int rh_, .int (nI tn_), .int rz_, .ref q2_, .ref q3_, .ref q4_])), (q2_, .inl (cy 0, 6, .inl (upd pl_ (tn_ % 6) rl_))), (q3_, .inl (cy 0, 6, .inl (upd pp_ (tn_ % 6) rp_))), (q4_, .inl (cy 0, 6, .inl (upd pb_ (tn_ % 6) ra_)))] H := hP
  have hD : va_D A [(q1_, .inr (6, [.int rb_, .int rs_, .int rr_, .int rl_, .int ra_, .int rp_, .int rq_, .int rh_, .int (nI tn_), .int rz_, .ref q2_, .ref q3_, .ref q4_])), (q2_, .inl (cy 0, 6, .inl (upd pl_ (tn_ % 6) rl_))), (q3_, .inl (cy 0, 6, .inl (upd pp_ (tn_ % 6) rp_))), (q4_, .inl (cy 0, 6, .inl (upd pb_ (tn_ % 6) ra_)))] := hD
  exact RT _ _ () H locs 40 ls (rt_v dX6_remember_40) rfl hP hD hS
abbrev rmkX6_handOf : Room := { frames := 2, cells := 0, slots := 0, locals := 61 }
set_option maxHeartbeats 4000000 in
set_option maxRecDepth 100000 in
theorem kX6_handOf {l : Launch} {D : va_G} {cy : Nat → ClassId} {sa : Nat → Nat} (q1_ : Nat) (q2_ : Nat) (q3_ : Nat) (q4_ : Nat) (rb_ : Int32) (rs_ : Int32) (rr_ : Int32) (rl_ : Int32) (ra_ : Int32) (rp_ : Int32) (rq_ : Int32) (rh_ : Int32) (rz_ : Int32) (pl_ : Nat → Int32) (pp_ : Nat → Int32) (pb_ : Nat → Int32) (tn_ : Nat) (r1_ : Nat) (r2_ : Nat) (lw_ : Nat → Int32) (tb_ : Int32) (d_ : Nat) (ht : tn_ < 1000000) (hd : lw_ 3 = nI d_) (hd5 : d_ ≤ 5) (hm : inR (lw_ 4) 0 1000000) : CD l D cy sa yX6_handOf wsX6_handOf rmkX6_handOf [.ref q1_, .ref r1_] [(q1_, .inr (6, [.int rb_, .int rs_, .int rr_, .int rl_, .int ra_, .int rp_, .int rq_, .int rh_, .int (nI tn_), .int rz_, .ref q2_, .ref q3_, .ref q4_])), (q2_, .inl (cy 0, 6, .inl pl_)), (q3_, .inl (cy 0, 6, .inl pp_)), (q4_, .inl (cy 0, 6, .inl pb_)), (r1_, .inr (7, [.ref r2_, .int tb_])), (r2_, .inl (cy 0, 5, .inl lw_))] (some (.int (if d_ ≤ tn_ then hC lw_ rr_ (pl_ ((tn_ - d_) % 6)) (pp_ ((tn_ - d_) % 6)) (pb_ ((tn_ - d_) % 6)) else 0))) [(q1_, .inr (6, [.int rb_, .int rs_, .int rr_, .int rl_, .int ra_, .int rp_, .int rq_, .int rh_, .int (nI tn_), .int rz_, .ref q2_, .ref q3_, .ref q4_])), (q2_, .inl (cy 0, 6, .inl pl_)), (q3_, .inl (cy 0, 6, .inl pp_)), (q4_, .inl (cy 0, 6, .inl pb_)), (r1_, .inr (7, [.ref r2_, .int tb_])), (r2_, .inl (cy 0, 5, .inl lw_))] := by
  refine CT.of cX6_handOf 6 (some .int) (by decide +kernel) rfl (Nat.le_of_ble_eq_true rfl) ?_
  intro p e s m args below meth c A Q ls F hmn hK hE hA hP hD hS hl RT
  obtain ⟨hx, hb, hml, hown, hts⟩ := id F
  have winX6 : ∀ w ∈ u_ws RX6 TX6 13, w ∈ wsX6_handOf := by decide +kernel
  have wf37 := hts (.fieldLink RX6 37 "SelfSteer$Ride" "ticks" "I") (by decide +kernel)
  have winX7 : ∀ w ∈ u_ws RX7 TX7 2, w ∈ wsX6_handOf := by decide +kernel
  have wf43 := hts (.fieldLink RX6 43 "SelfSteer$Ride" "pastLean" "[I") (by decide +kernel)
  have wf47 := hts (.fieldLink RX6 47 "SelfSteer$Ride" "pastLeanChange" "[I") (by decide +kernel)
  have wf50 := hts (.fieldLink RX6 50 "SelfSteer$Ride" "pastBar" "[I") (by decide +kernel)
  have wi_X8 := hts (.initialized RX8) (by decide +kernel)
  have ws_X8_clamp := hts (.static yX8_clamp) (by decide +kernel)
  have wf18 := hts (.fieldLink RX6 18 "SelfSteer$Ride" "reversed" "Z") (by decide +kernel)
  have hl : lv_has ls 6 [(0, .ref q1_), (1, .ref r1_)] := hl
  have hP : va_P D vwCl [(q1_, .inr (6, [.int rb_, .int rs_, .int rr_, .int rl_, .int ra_, .int rp_, .int rq_, .int rh_, .int (nI tn_), .int rz_, .ref q2_, .ref q3_, .ref q4_])), (q2_, .inl (cy 0, 6, .inl pl_)), (q3_, .inl (cy 0, 6, .inl pp_)), (q4_, .inl (cy 0, 6, .inl pb_)), (r1_, .inr (7, [.ref r2_, .int tb_])), (r2_, .inl (cy 0, 5, .inl lw_))] s.heap := hP
  have hD : va_D A [(q1_, .inr (6, [.int rb_, .int rs_, .int rr_, .int rl_, .int ra_, .int rp_, .int rq_, .int rh_, .int (nI tn_), .int rz_, .ref q2_, .ref q3_, .ref q4_])), (q2_, .inl (cy 0, 6, .inl pl_)), (q3_, .inl (cy 0, 6, .inl pp_)), (q4_, .inl (cy 0, 6, .inl pb_)), (r1_, .inr (7, [.ref r2_, .int tb_])), (r2_, .inl (cy 0, 5, .inl lw_))] := hD
  obtain ⟨H, hH⟩ : ∃ H0 : Heap, H0 = s.heap := ⟨_, rfl⟩
  obtain ⟨locs, hlo⟩ : ∃ L0 : List Loc, L0 = [] := ⟨_, rfl⟩
  have hS : va_S A s.heap H locs := by rw [hH, hlo]; exact hS
  rw [← hH] at hP
  show W p l e rmkX6_handOf s m args below meth c s.heap [] 0 0 Q (F0 m 0 ls [])
  suffices hgo : W p l e rmkX6_handOf s m args below meth c H locs 0 0 Q (F0 m 0 ls []) by rw [hH, hlo] at hgo; exact hgo
  clear hH hlo
  refine lv_aload_n hx hb dX6_handOf_0 rfl (lv_at hl 0 rfl) ?_
  refine va_get (D := D) (ci := 6) (v := .int (nI tn_)) (C := RX6) (T := TX6) (N := 13) hx hb hts winX6 hown hK hP 0 rfl rfl 8 (by decide) wf37 (fun _ h9 => h9) rfl dX6_handOf_1 ?_
  refine lv_aload_n hx hb dX6_handOf_4 rfl (lv_at hl 1 rfl) ?_
  refine va_getN (D := D) (ci := 7) (v := .ref r2_) (C := RX7) (T := TX7) (N := 2) hx hb hts winX7 hown hK hP 4 rfl rfl 0 (by decide) (hE.nestB 9 rfl) (fun _ h9 => h9) rfl dX6_handOf_5 ?_
  refine lv_iconst (v := 3) hx hb dX6_handOf_8 (by decide) ?_
  refine al_i hx hb hK hP 5 rfl 3 (rfl) (by decide) (by decide) dX6_handOf_9 ?_
  refine lv_eqi (y := nI d_) (hd) ?_
  refine lv_isub hx hb dX6_handOf_10 ?_
  refine lv_istore_n (lv' := [(2, .int ((nI tn_) - (nI d_))), (0, .ref q1_), (1, .ref r1_)]) hx hb dX6_handOf_11 rfl hl (by decide) rfl (fun ls hl => ?_)
  refine lv_iload_n hx hb dX6_handOf_12 rfl (lv_at hl 0 rfl) ?_
  refine lv_if_ge (tgt := 18) hx hb dX6_handOf_13 (by decide) (fun c_13 => ?_) (fun c_13 => ?_)
  · have hdt : d_ ≤ tn_ := (sub_ge0 (by omega) (by omega)).mp c_13
    rw [show nI tn_ - nI d_ = nI (tn_ - d_) from pk_sub hdt] at hl
    refine lv_iload_n hx hb dX6_handOf_18 rfl (lv_at hl 0 rfl) ?_
    refine lv_bipush (v := 6) hx hb dX6_handOf_19 (by decide) ?_
    refine ca_S (n := 2) (rest := []) (wr := [(q1_, .inr (6, [.int rb_, .int rs_, .int rr_, .int rl_, .int ra_, .int rp_, .int rq_, .int rh_, .int (nI tn_), .int rz_, .ref q2_, .ref q3_, .ref q4_])), (q2_, .inl (cy 0, 6, .inl pl_)), (q3_, .inl (cy 0, 6, .inl pp_)), (q4_, .inl (cy 0, 6, .inl pb_)), (r1_, .inr (7, [.ref r2_, .int tb_])), (r2_, .inl (cy 0, 5, .inl lw_))]) F hK hE hA hP hD hS hl.1 (kJ9_floorMod (l := l) (D := D) (cy := cy) (sa := sa) (tn_ - d_) (by first | assumption | omega | decide)) gX6_handOf_J9_floorMod_7cf53 rfl rfl rfl (by decide +kernel) ⟨by decide, by decide⟩ [] [0, 1, 2, 3, 4, 5] rfl rfl rfl rfl (by decide) rfl rfl (Nat.le_of_ble_eq_true rfl) dX6_handOf_21 ⟨by decide, by decide⟩ (fun v9 u9 H locs hv hP hD hS => ?_)
    subst hv
    have hP : va_P D vwCl [(q1_, .inr (6, [.int rb_, .int rs_, .int rr_, .int rl_, .int ra_, .int rp_, .int rq_, .int rh_, .int (nI tn_), .int rz_, .ref q2_, .ref q3_, .ref q4_])), (q2_, .inl (cy 0, 6, .inl pl_)), (q3_, .inl (cy 0, 6, .inl pp_)), (q4_, .inl (cy 0, 6, .inl pb_)), (r1_, .inr (7, [.ref r2_, .int tb_])), (r2_, .inl (cy 0, 5, .inl lw_))] H := hP
    have hD : va_D A [(q1_, .inr (6, [.int rb_, .int rs_, .int rr_, .int rl_, .int ra_, .int rp_, .int rq_, .int rh_, .int (nI tn_), .int rz_, .ref q2_, .ref q3_, .ref q4_])), (q2_, .inl (cy 0, 6, .inl pl_)), (q3_, .inl (cy 0, 6, .inl pp_)), (q4_, .inl (cy 0, 6, .inl pb_)), (r1_, .inr (7, [.ref r2_, .int tb_])), (r2_, .inl (cy 0, 5, .inl lw_))] := hD
    refine W.eq (g2 := F0 m 24 ls [.int (nI ((tn_ - d_) % 6))]) rfl ?_
    refine lv_istore_n (lv' := [(3, .int (nI ((tn_ - d_) % 6))), (2, .int (nI (tn_ - d_))), (0, .ref q1_), (1, .ref r1_)]) hx hb dX6_handOf_24 rfl hl (by decide) rfl (fun ls hl => ?_)
    refine lv_aload_n hx hb dX6_handOf_25 rfl (lv_at hl 3 rfl) ?_
    refine va_getN (D := D) (ci := 7) (v := .ref r2_) (C := RX7) (T := TX7) (N := 2) hx hb hts winX7 hown hK hP 4 rfl rfl 0 (by decide) (hE.nestB 9 rfl) (fun _ h9 => h9) rfl dX6_handOf_26 ?_
    refine lv_iconst (v := 0) hx hb dX6_handOf_29 (by decide) ?_
    refine al_i hx hb hK hP 5 rfl 0 (rfl) (by decide) (by decide) dX6_handOf_30 ?_
    refine lv_aload_n hx hb dX6_handOf_31 rfl (lv_at hl 2 rfl) ?_
    refine va_get (D := D) (ci := 6) (v := .ref q2_) (C := RX6) (T := TX6) (N := 13) hx hb hts winX6 hown hK hP 0 rfl rfl 10 (by decide) wf43 (fun _ h9 => h9) rfl dX6_handOf_32 ?_
    refine lv_iload_n hx hb dX6_handOf_35 rfl (lv_at hl 0 rfl) ?_
    refine al_i hx hb hK hP 1 rfl ((tn_ - d_) % 6) (rfl) (Nat.mod_lt _ (by decide)) (by decide) dX6_handOf_36 ?_
    refine lv_imul hx hb dX6_handOf_37 ?_
    refine lv_aload_n hx hb dX6_handOf_38 rfl (lv_at hl 3 rfl) ?_
    refine va_getN (D := D) (ci := 7) (v := .ref r2_) (C := RX7) (T := TX7) (N := 2) hx hb hts winX7 hown hK hP 4 rfl rfl 0 (by decide) (hE.nestB 9 rfl) (fun _ h9 => h9) rfl dX6_handOf_39 ?_
    refine lv_iconst (v := 1) hx hb dX6_handOf_42 (by decide) ?_
    refine al_i hx hb hK hP 5 rfl 1 (rfl) (by decide) (by decide) dX6_handOf_43 ?_
    refine lv_aload_n hx hb dX6_handOf_44 rfl (lv_at hl 2 rfl) ?_
    refine va_get (D := D) (ci := 6) (v := .ref q3_) (C := RX6) (T := TX6) (N := 13) hx hb hts winX6 hown hK hP 0 rfl rfl 11 (by decide) wf47 (fun _ h9 => h9) rfl dX6_handOf_45 ?_
    refine lv_iload_n hx hb dX6_handOf_48 rfl (lv_at hl 0 rfl) ?_
    refine al_i hx hb hK hP 2 rfl ((tn_ - d_) % 6) (rfl) (Nat.mod_lt _ (by decide)) (by decide) dX6_handOf_49 ?_
    refine lv_imul hx hb dX6_handOf_50 ?_
    refine lv_iadd hx hb dX6_handOf_51 ?_
    refine lv_aload_n hx hb dX6_handOf_52 rfl (lv_at hl 3 rfl) ?_
    refine va_getN (D := D) (ci := 7) (v := .ref r2_) (C := RX7) (T := TX7) (N := 2) hx hb hts winX7 hown hK hP 4 rfl rfl 0 (by decide) (hE.nestB 9 rfl) (fun _ h9 => h9) rfl dX6_handOf_53 ?_
    refine lv_iconst (v := 2) hx hb dX6_handOf_56 (by decide) ?_
    refine al_i hx hb hK hP 5 rfl 2 (rfl) (by decide) (by decide) dX6_handOf_57 ?_
    refine lv_aload_n hx hb dX6_handOf_58 rfl (lv_at hl 2 rfl) ?_
    refine va_get (D := D) (ci := 6) (v := .ref q4_) (C := RX6) (T := TX6) (N := 13) hx hb hts winX6 hown hK hP 0 rfl rfl 12 (by decide) wf50 (fun _ h9 => h9) rfl dX6_handOf_59 ?_
    refine lv_iload_n hx hb dX6_handOf_62 rfl (lv_at hl 0 rfl) ?_
    refine al_i hx hb hK hP 3 rfl ((tn_ - d_) % 6) (rfl) (Nat.mod_lt _ (by decide)) (by decide) dX6_handOf_63 ?_
    refine lv_imul hx hb dX6_handOf_64 ?_
    refine lv_iadd hx hb dX6_handOf_65 ?_
    refine lv_istore (lv' := [(4, .int ((((lw_ 0) * (pl_ ((tn_ - d_) % 6))) + ((lw_ 1) * (pp_ ((tn_ - d_) % 6)))) + ((lw_ 2) * (pb_ ((tn_ - d_) % 6))))), (3, .int (nI ((tn_ - d_) % 6))), (2, .int (nI (tn_ - d_))), (0, .ref q1_), (1, .ref r1_)]) hx hb dX6_handOf_66 hl (by decide) rfl (fun ls hl => ?_)
    refine lv_iload hx hb dX6_handOf_68 (lv_at hl 0 rfl) ?_
    refine lv_bipush (v := 10) hx hb dX6_handOf_70 (by decide) ?_
    refine lv_idiv hx hb dX6_handOf_72 (by decide) ?_
    refine lv_aload_n hx hb dX6_handOf_73 rfl (lv_at hl 4 rfl) ?_
    refine va_getN (D := D) (ci := 7) (v := .ref r2_) (C := RX7) (T := TX7) (N := 2) hx hb hts winX7 hown hK hP 4 rfl rfl 0 (by decide) (hE.nestB 9 rfl) (fun _ h9 => h9) rfl dX6_handOf_74 ?_
    refine lv_iconst (v := 4) hx hb dX6_handOf_77 (by decide) ?_
    refine al_i hx hb hK hP 5 rfl 4 (rfl) (by decide) (by decide) dX6_handOf_78 ?_
    refine ca_SN (n := 2) (rest := []) (wr := [(q1_, .inr (6, [.int rb_, .int rs_, .int rr_, .int rl_, .int ra_, .int rp_, .int rq_, .int rh_, .int (nI tn_), .int rz_, .ref q2_, .ref q3_, .ref q4_])), (q2_, .inl (cy 0, 6, .inl pl_)), (q3_, .inl (cy 0, 6, .inl pp_)), (q4_, .inl (cy 0, 6, .inl pb_)), (r1_, .inr (7, [.ref r2_, .int tb_])), (r2_, .inl (cy 0, 5, .inl lw_))]) F hK hE hA hP hD hS hl.1 (kX8_clamp (l := l) (D := D) (cy := cy) (sa := sa) (((((lw_ 0) * (pl_ ((tn_ - d_) % 6))) + ((lw_ 1) * (pp_ ((tn_ - d_) % 6)))) + ((lw_ 2) * (pb_ ((tn_ - d_) % 6)))) / 10) (lw_ 4) (by first | assumption | omega | decide)) gX6_handOf_X8_clamp_n85 (hE.nest 66 rfl) wi_X8 ws_X8_clamp rfl rfl rfl (by decide +kernel) ⟨by decide, by decide⟩ [] [0, 1, 2, 3, 4, 5] rfl rfl rfl rfl (by decide) rfl rfl (Nat.le_of_ble_eq_true rfl) dX6_handOf_79 ⟨by decide, by decide⟩ (fun v9 u9 H locs hv hP hD hS => ?_)
    subst hv
    have hP : va_P D vwCl [(q1_, .inr (6, [.int rb_, .int rs_, .int rr_, .int rl_, .int ra_, .int rp_, .int rq_, .int rh_, .int (nI tn_), .int rz_, .ref q2_, .ref q3_, .ref q4_])), (q2_, .inl (cy 0, 6, .inl pl_)), (q3_, .inl (cy 0, 6, .inl pp_)), (q4_, .inl (cy 0, 6, .inl pb_)), (r1_, .inr (7, [.ref r2_, .int tb_])), (r2_, .inl (cy 0, 5, .inl lw_))] H := hP
    have hD : va_D A [(q1_, .inr (6, [.int rb_, .int rs_, .int rr_, .int rl_, .int ra_, .int rp_, .int rq_, .int rh_, .int (nI tn_), .int rz_, .ref q2_, .ref q3_, .ref q4_])), (q2_, .inl (cy 0, 6, .inl pl_)), (q3_, .inl (cy 0, 6, .inl pp_)), (q4_, .inl (cy 0, 6, .inl pb_)), (r1_, .inr (7, [.ref r2_, .int tb_])), (r2_, .inl (cy 0, 5, .inl lw_))] := hD
    refine W.eq (g2 := F0 m 82 ls [.int (wth (((((lw_ 0) * (pl_ ((tn_ - d_) % 6))) + ((lw_ 1) * (pp_ ((tn_ - d_) % 6)))) + ((lw_ 2) * (pb_ ((tn_ - d_) % 6)))) / 10) (lw_ 4))]) rfl ?_
    refine lv_istore (lv' := [(5, .int (wth (((((lw_ 0) * (pl_ ((tn_ - d_) % 6))) + ((lw_ 1) * (pp_ ((tn_ - d_) % 6)))) + ((lw_ 2) * (pb_ ((tn_ - d_) % 6)))) / 10) (lw_ 4))), (4, .int ((((lw_ 0) * (pl_ ((tn_ - d_) % 6))) + ((lw_ 1) * (pp_ ((tn_ - d_) % 6)))) + ((lw_ 2) * (pb_ ((tn_ - d_) % 6))))), (3, .int (nI ((tn_ - d_) % 6))), (2, .int (nI (tn_ - d_))), (0, .ref q1_), (1, .ref r1_)]) hx hb dX6_handOf_82 hl (by decide) rfl (fun ls hl => ?_)
    refine lv_aload_n hx hb dX6_handOf_84 rfl (lv_at hl 4 rfl) ?_
    refine va_get (D := D) (ci := 6) (v := .int rr_) (C := RX6) (T := TX6) (N := 13) hx hb hts winX6 hown hK hP 0 rfl rfl 2 (by decide) wf18 (fun _ h9 => h9) rfl dX6_handOf_85 ?_
    refine lv_if_eq (tgt := 97) hx hb dX6_handOf_88 (by decide) (fun c_88 => ?_) (fun c_88 => ?_)
    · refine lv_iload hx hb dX6_handOf_97 (lv_at hl 0 rfl) ?_
      refine lv_eqi (y := if d_ ≤ tn_ then hC lw_ rr_ (pl_ ((tn_ - d_) % 6)) (pp_ ((tn_ - d_) % 6)) (pb_ ((tn_ - d_) % 6)) else 0) (by rw [if_pos hdt, hC]; first | rw [if_pos c_88] | rw [if_neg c_88]) ?_
      exact RT _ _ () H locs 99 ls (rt_i dX6_handOf_99) rfl hP hD hS
    · refine lv_iload hx hb dX6_handOf_91 (lv_at hl 0 rfl) ?_
      refine lv_ineg hx hb dX6_handOf_93 ?_
      refine lv_goto (tgt := 99) hx hb dX6_handOf_94 (by decide) ?_
      refine lv_eqi (y := if d_ ≤ tn_ then hC lw_ rr_ (pl_ ((tn_ - d_) % 6)) (pp_ ((tn_ - d_) % 6)) (pb_ ((tn_ - d_) % 6)) else 0) (by rw [if_pos hdt, hC]; first | rw [if_pos c_88] | rw [if_neg c_88]) ?_
      exact RT _ _ () H locs 99 ls (rt_i dX6_handOf_99) rfl hP hD hS
  · refine lv_iconst (v := 0) hx hb dX6_handOf_16 (by decide) ?_
    refine lv_eqi (y := if d_ ≤ tn_ then hC lw_ rr_ (pl_ ((tn_ - d_) % 6)) (pp_ ((tn_ - d_) % 6)) (pb_ ((tn_ - d_) % 6)) else 0) ((if_neg (fun z => c_13 ((sub_ge0 (by omega) (by omega)).mpr z))).symm) ?_
    exact RT _ _ () H locs 17 ls (rt_i dX6_handOf_17) rfl hP hD hS
abbrev rmkX6_doTick : Room := { frames := 3, cells := 0, slots := 0, locals := 86 }
set_option maxHeartbeats 4000000 in
set_option maxRecDepth 100000 in
theorem kX6_doTick {l : Launch} {D : va_G} {cy : Nat → ClassId} {sa : Nat → Nat} (q1_ : Nat) (q2_ : Nat) (q3_ : Nat) (q4_ : Nat) (sf_ : Nat → Int32) (tn_ : Nat) (pl_ : Nat → Int32) (pp_ : Nat → Int32) (pb_ : Nat → Int32) (a1_ : Nat) (n1_ : Nat) (f_ : Nat → Int32) (r1_ : Nat) (r2_ : Nat) (lw_ : Nat → Int32) (tb_ : Int32) (d_ : Nat) (ht : tn_ < 1000000) (h7 : sf_ 7 = nI tn_) (hd : lw_ 3 = nI d_) (hd5 : d_ ≤ 5) (hm : inR (lw_ 4) 0 1000000) (h2 : sf_ 2 = 0 ∨ sf_ 2 = 1) (hh : histOK sf_ tn_ pl_ pp_ pb_) (hlong : (if 1 < f_ 4 then f_ 4 else 1) = f_ 4) (h4 : ¬ f_ 4 = 0) (h40 : ¬ 10 * f_ 4 = 0) : CD l D cy sa yX6_doTick wsX6_doTick rmkX6_doTick [.ref q1_, .ref a1_, .ref r1_] [(q1_, .inr (6, [.int (sf_ 0), .int (sf_ 1), .int (sf_ 2), .int (sf_ 3), .int (sf_ 4), .int (sf_ 5), .int (sf_ 6), .int (sf_ 9), .int (nI tn_), .int (sf_ 8), .ref q2_, .ref q3_, .ref q4_])), (q2_, .inl (cy 0, 6, .inl pl_)), (q3_, .inl (cy 0, 6, .inl pp_)), (q4_, .inl (cy 0, 6, .inl pb_)), (a1_, .inr (0, [.ref n1_])), (n1_, .inl (cy 0, 6, .inl f_)), (r1_, .inr (7, [.ref r2_, .int tb_])), (r2_, .inl (cy 0, 5, .inl lw_))] (none) [(q1_, .inr (6, [.int ((tickF f_ lw_ sf_ d_) 0), .int ((tickF f_ lw_ sf_ d_) 1), .int ((tickF f_ lw_ sf_ d_) 2), .int ((tickF f_ lw_ sf_ d_) 3), .int ((tickF f_ lw_ sf_ d_) 4), .int ((tickF f_ lw_ sf_ d_) 5), .int ((tickF f_ lw_ sf_ d_) 6), .int ((tickF f_ lw_ sf_ d_) 9), .int (nI (tn_ + 1)), .int ((tickF f_ lw_ sf_ d_) 8), .ref q2_, .ref q3_, .ref q4_])), (q2_, .inl (cy 0, 6, .inl (upd pl_ (tn_ % 6) (sf_ 3)))), (q3_, .inl (cy 0, 6, .inl (upd pp_ (tn_ % 6) (sf_ 5)))), (q4_, .inl (cy 0, 6, .inl (upd pb_ (tn_ % 6) (sf_ 4)))), (a1_, .inr (0, [.ref n1_])), (n1_, .inl (cy 0, 6, .inl f_)), (r1_, .inr (7, [.ref r2_, .int tb_])), (r2_, .inl (cy 0, 5, .inl lw_))] := by
  refine CT.of cX6_doTick 10 none (by decide +kernel) rfl (Nat.le_of_ble_eq_true rfl) ?_
  intro p e s m args below meth c A Q ls F hmn hK hE hA hP hD hS hl RT
  obtain ⟨hx, hb, hml, hown, hts⟩ := id F
  have winX6 : ∀ w ∈ u_ws RX6 TX6 13, w ∈ wsX6_doTick := by decide +kernel
  have wf34 := hts (.fieldLink RX6 34 "SelfSteer$Ride" "hand" "I") (by decide +kernel)
  have winX0 : ∀ w ∈ u_ws RX0 TX0 1, w ∈ wsX6_doTick := by decide +kernel
  have wm78 := hts (.methodLink RX6 78 Lib.Math.max.name) (by decide +kernel)
  have ws_max := hts (.static Lib.Math.max.name) (by decide +kernel)
  have wi_math := hts (.initialized "java/lang/Math") (by decide +kernel)
  have wk_max := hts (.code Lib.Math.max.name Lib.Math.max.code 2 (some .int)) (by decide +kernel)
  have wf15 := hts (.fieldLink RX6 15 "SelfSteer$Ride" "speed" "I") (by decide +kernel)
  have wf22 := hts (.fieldLink RX6 22 "SelfSteer$Ride" "lean" "I") (by decide +kernel)
  have wf25 := hts (.fieldLink RX6 25 "SelfSteer$Ride" "bar" "I") (by decide +kernel)
  have wf31 := hts (.fieldLink RX6 31 "SelfSteer$Ride" "barChange" "I") (by decide +kernel)
  have wf28 := hts (.fieldLink RX6 28 "SelfSteer$Ride" "leanChange" "I") (by decide +kernel)
  have wc84 := hts (.constant RX6 84 (100000)) (by decide +kernel)
  have wi_X8 := hts (.initialized RX8) (by decide +kernel)
  have ws_X8_clamp := hts (.static yX8_clamp) (by decide +kernel)
  have wf37 := hts (.fieldLink RX6 37 "SelfSteer$Ride" "ticks" "I") (by decide +kernel)
  have hl : lv_has ls 10 [(0, .ref q1_), (1, .ref a1_), (2, .ref r1_)] := hl
  have hP : va_P D vwCl [(q1_, .inr (6, [.int (sf_ 0), .int (sf_ 1), .int (sf_ 2), .int (sf_ 3), .int (sf_ 4), .int (sf_ 5), .int (sf_ 6), .int (sf_ 9), .int (nI tn_), .int (sf_ 8), .ref q2_, .ref q3_, .ref q4_])), (q2_, .inl (cy 0, 6, .inl pl_)), (q3_, .inl (cy 0, 6, .inl pp_)), (q4_, .inl (cy 0, 6, .inl pb_)), (a1_, .inr (0, [.ref n1_])), (n1_, .inl (cy 0, 6, .inl f_)), (r1_, .inr (7, [.ref r2_, .int tb_])), (r2_, .inl (cy 0, 5, .inl lw_))] s.heap := hP
  have hD : va_D A [(q1_, .inr (6, [.int (sf_ 0), .int (sf_ 1), .int (sf_ 2), .int (sf_ 3), .int (sf_ 4), .int (sf_ 5), .int (sf_ 6), .int (sf_ 9), .int (nI tn_), .int (sf_ 8), .ref q2_, .ref q3_, .ref q4_])), (q2_, .inl (cy 0, 6, .inl pl_)), (q3_, .inl (cy 0, 6, .inl pp_)), (q4_, .inl (cy 0, 6, .inl pb_)), (a1_, .inr (0, [.ref n1_])), (n1_, .inl (cy 0, 6, .inl f_)), (r1_, .inr (7, [.ref r2_, .int tb_])), (r2_, .inl (cy 0, 5, .inl lw_))] := hD
  obtain ⟨H, hH⟩ : ∃ H0 : Heap, H0 = s.heap := ⟨_, rfl⟩
  obtain ⟨locs, hlo⟩ : ∃ L0 : List Loc, L0 = [] := ⟨_, rfl⟩
  have hS : va_S A s.heap H locs := by rw [hH, hlo]; exact hS
  rw [← hH] at hP
  show W p l e rmkX6_doTick s m args below meth c s.heap [] 0 0 Q (F0 m 0 ls [])
  suffices hgo : W p l e rmkX6_doTick s m args below meth c H locs 0 0 Q (F0 m 0 ls []) by rw [hH, hlo] at hgo; exact hgo
  clear hH hlo
  refine lv_aload_n hx hb dX6_doTick_0 rfl (lv_at hl 0 rfl) ?_
  refine ca_V (q0 := 0) (n := 0) (rest := []) (wr := [(a1_, .inr (0, [.ref n1_])), (n1_, .inl (cy 0, 6, .inl f_)), (r1_, .inr (7, [.ref r2_, .int tb_])), (r2_, .inl (cy 0, 5, .inl lw_))]) F hK hE hA hP hD hS hl.1 (kX6_remember (l := l) (D := D) (cy := cy) (sa := sa) q1_ q2_ q3_ q4_ (sf_ 0) (sf_ 1) (sf_ 2) (sf_ 3) (sf_ 4) (sf_ 5) (sf_ 6) (sf_ 9) (sf_ 8) pl_ pp_ pb_ tn_ (by first | assumption | omega | decide)) gX6_doTick_X6_remember rfl rfl rfl rfl rfl rfl (by decide +kernel) ⟨by decide, by decide⟩ [0, 1, 2, 3] [4, 5, 6, 7] rfl rfl rfl rfl (by decide) rfl rfl (Nat.le_of_ble_eq_true rfl) dX6_doTick_1 ⟨by decide, by decide⟩ (fun v9 u9 H locs hv hP hD hS => ?_)
  subst hv
  obtain ⟨hP, hD⟩ := re_ws (ws' := [(q1_, .inr (6, [.int (sf_ 0), .int (sf_ 1), .int (sf_ 2), .int (sf_ 3), .int (sf_ 4), .int (sf_ 5), .int (sf_ 6), .int (sf_ 9), .int (nI tn_), .int (sf_ 8), .ref q2_, .ref q3_, .ref q4_])), (q2_, .inl (cy 0, 6, .inl (upd pl_ (tn_ % 6) (sf_ 3)))), (q3_, .inl (cy 0, 6, .inl (upd pp_ (tn_ % 6) (sf_ 5)))), (q4_, .inl (cy 0, 6, .inl (upd pb_ (tn_ % 6) (sf_ 4)))), (a1_, .inr (0, [.ref n1_])), (n1_, .inl (cy 0, 6, .inl f_)), (r1_, .inr (7, [.ref r2_, .int tb_])), (r2_, .inl (cy 0, 5, .inl lw_))]) hP hD [4, 5, 6, 7, 0, 1, 2, 3] rfl rfl
  refine W.eq (g2 := F0 m 4 ls []) rfl ?_
  refine lv_aload_n hx hb dX6_doTick_4 rfl (lv_at hl 0 rfl) ?_
  refine lv_aload_n hx hb dX6_doTick_5 rfl (lv_at hl 0 rfl) ?_
  refine lv_aload_n hx hb dX6_doTick_6 rfl (lv_at hl 2 rfl) ?_
  refine ca_V (q0 := 0) (n := 1) (rest := [.ref q1_]) (wr := [(a1_, .inr (0, [.ref n1_])), (n1_, .inl (cy 0, 6, .inl f_))]) F hK hE hA hP hD hS hl.1 (kX6_handOf (l := l) (D := D) (cy := cy) (sa := sa) q1_ q2_ q3_ q4_ (sf_ 0) (sf_ 1) (sf_ 2) (sf_ 3) (sf_ 4) (sf_ 5) (sf_ 6) (sf_ 9) (sf_ 8) (upd pl_ (tn_ % 6) (sf_ 3)) (upd pp_ (tn_ % 6) (sf_ 5)) (upd pb_ (tn_ % 6) (sf_ 4)) tn_ r1_ r2_ lw_ tb_ d_ (by first | assumption | omega | decide) (by first | assumption | omega | decide) (by first | assumption | omega | decide) (by first | assumption | omega | decide)) gX6_doTick_X6_handOf rfl rfl rfl rfl rfl rfl (by decide +kernel) ⟨by decide, by decide⟩ [0, 1, 2, 3, 6, 7] [4, 5] rfl rfl rfl rfl (by decide) rfl rfl (Nat.le_of_ble_eq_true rfl) dX6_doTick_7 ⟨by decide, by decide⟩ (fun v9 u9 H locs hv hP hD hS => ?_)
  subst hv
  obtain ⟨hP, hD⟩ := re_ws (ws' := [(q1_, .inr (6, [.int (sf_ 0), .int (sf_ 1), .int (sf_ 2), .int (sf_ 3), .int (sf_ 4), .int (sf_ 5), .int (sf_ 6), .int (sf_ 9), .int (nI tn_), .int (sf_ 8), .ref q2_, .ref q3_, .ref q4_])), (q2_, .inl (cy 0, 6, .inl (upd pl_ (tn_ % 6) (sf_ 3)))), (q3_, .inl (cy 0, 6, .inl (upd pp_ (tn_ % 6) (sf_ 5)))), (q4_, .inl (cy 0, 6, .inl (upd pb_ (tn_ % 6) (sf_ 4)))), (a1_, .inr (0, [.ref n1_])), (n1_, .inl (cy 0, 6, .inl f_)), (r1_, .inr (7, [.ref r2_, .int tb_])), (r2_, .inl (cy 0, 5, .inl lw_))]) hP hD [2, 3, 4, 5, 0, 1, 6, 7] rfl rfl
  refine W.eq (g2 := F0 m 10 ls [.int (if d_ ≤ tn_ then hC lw_ (sf_ 2) ((upd pl_ (tn_ % 6) (sf_ 3)) ((tn_ - d_) % 6)) ((upd pp_ (tn_ % 6) (sf_ 5)) ((tn_ - d_) % 6)) ((upd pb_ (tn_ % 6) (sf_ 4)) ((tn_ - d_) % 6)) else 0), .ref q1_]) rfl ?_
  refine lv_eqi (y := hnR lw_ sf_ d_) (hand_eq hd5 hm h2 hh) ?_
  refine va_put (D := D) (ci := 6) (v := .int (hnR lw_ sf_ d_)) (ty := .int) (C := RX6) (T := TX6) (N := 13) hx hb hts winX6 tyX6 tyX6_ok nmX6 hown hK hP hD hS 0 rfl rfl 7 (by decide) wf34 (fun _ h9 => h9) rfl (by decide +kernel) (rfl) (rfl) (Nat.le_of_ble_eq_true rfl) dX6_doTick_10 (fun H locs hP hD hS => ?_)
  have hP : va_P D vwCl [(q1_, .inr (6, [.int (sf_ 0), .int (sf_ 1), .int (sf_ 2), .int (sf_ 3), .int (sf_ 4), .int (sf_ 5), .int (sf_ 6), .int (hnR lw_ sf_ d_), .int (nI tn_), .int (sf_ 8), .ref q2_, .ref q3_, .ref q4_])), (q2_, .inl (cy 0, 6, .inl (upd pl_ (tn_ % 6) (sf_ 3)))), (q3_, .inl (cy 0, 6, .inl (upd pp_ (tn_ % 6) (sf_ 5)))), (q4_, .inl (cy 0, 6, .inl (upd pb_ (tn_ % 6) (sf_ 4)))), (a1_, .inr (0, [.ref n1_])), (n1_, .inl (cy 0, 6, .inl f_)), (r1_, .inr (7, [.ref r2_, .int tb_])), (r2_, .inl (cy 0, 5, .inl lw_))] H := hP
  have hD : va_D A [(q1_, .inr (6, [.int (sf_ 0), .int (sf_ 1), .int (sf_ 2), .int (sf_ 3), .int (sf_ 4), .int (sf_ 5), .int (sf_ 6), .int (hnR lw_ sf_ d_), .int (nI tn_), .int (sf_ 8), .ref q2_, .ref q3_, .ref q4_])), (q2_, .inl (cy 0, 6, .inl (upd pl_ (tn_ % 6) (sf_ 3)))), (q3_, .inl (cy 0, 6, .inl (upd pp_ (tn_ % 6) (sf_ 5)))), (q4_, .inl (cy 0, 6, .inl (upd pb_ (tn_ % 6) (sf_ 4)))), (a1_, .inr (0, [.ref n1_])), (n1_, .inl (cy 0, 6, .inl f_)), (r1_, .inr (7, [.ref r2_, .int tb_])), (r2_, .inl (cy 0, 5, .inl lw_))] := hD
  refine lv_aload_n hx hb dX6_doTick_13 rfl (lv_at hl 1 rfl) ?_
  refine va_getN (D := D) (ci := 0) (v := .ref n1_) (C := RX0) (T := TX0) (N := 1) hx hb hts winX0 hown hK hP 4 rfl rfl 0 (by decide) (hE.nestB 2 rfl) (fun _ h9 => h9) rfl dX6_doTick_14 ?_
  refine lv_astore_n (lv' := [(3, .ref n1_), (0, .ref q1_), (1, .ref a1_), (2, .ref r1_)]) hx hb dX6_doTick_17 rfl hl (by decide) rfl (fun ls hl => ?_)
  refine lv_iconst (v := 1) hx hb dX6_doTick_18 (by decide) ?_
  refine lv_aload_n hx hb dX6_doTick_19 rfl (lv_at hl 0 rfl) ?_
  refine lv_iconst (v := 4) hx hb dX6_doTick_20 (by decide) ?_
  refine al_i hx hb hK hP 5 rfl 4 (rfl) (by decide) (by decide) dX6_doTick_21 ?_
  refine va_mmax hx hb (hml.trans hl.1.symm) hown wm78 ws_max wi_math wk_max (by decide) (Nat.le_of_ble_eq_true rfl) (Nat.zero_le _) (Nat.zero_le _) dX6_doTick_22 ?_
  refine lv_eqi (y := f_ 4) (hlong) ?_
  refine lv_istore (lv' := [(4, .int (f_ 4)), (3, .ref n1_), (0, .ref q1_), (1, .ref a1_), (2, .ref r1_)]) hx hb dX6_doTick_25 hl (by decide) rfl (fun ls hl => ?_)
  refine lv_aload_n hx hb dX6_doTick_27 rfl (lv_at hl 2 rfl) ?_
  refine va_get (D := D) (ci := 6) (v := .int (sf_ 1)) (C := RX6) (T := TX6) (N := 13) hx hb hts winX6 hown hK hP 0 rfl rfl 1 (by decide) wf15 (fun _ h9 => h9) rfl dX6_doTick_28 ?_
  refine lv_aload_n hx hb dX6_doTick_31 rfl (lv_at hl 2 rfl) ?_
  refine va_get (D := D) (ci := 6) (v := .int (sf_ 1)) (C := RX6) (T := TX6) (N := 13) hx hb hts winX6 hown hK hP 0 rfl rfl 1 (by decide) wf15 (fun _ h9 => h9) rfl dX6_doTick_32 ?_
  refine lv_imul hx hb dX6_doTick_35 ?_
  refine lv_istore (lv' := [(5, .int ((sf_ 1) * (sf_ 1))), (4, .int (f_ 4)), (3, .ref n1_), (0, .ref q1_), (1, .ref a1_), (2, .ref r1_)]) hx hb dX6_doTick_36 hl (by decide) rfl (fun ls hl => ?_)
  refine lv_aload_n hx hb dX6_doTick_38 rfl (lv_at hl 2 rfl) ?_
  refine lv_iconst (v := 0) hx hb dX6_doTick_39 (by decide) ?_
  refine al_i hx hb hK hP 5 rfl 0 (rfl) (by decide) (by decide) dX6_doTick_40 ?_
  refine lv_aload_n hx hb dX6_doTick_41 rfl (lv_at hl 3 rfl) ?_
  refine va_get (D := D) (ci := 6) (v := .int (sf_ 1)) (C := RX6) (T := TX6) (N := 13) hx hb hts winX6 hown hK hP 0 rfl rfl 1 (by decide) wf15 (fun _ h9 => h9) rfl dX6_doTick_42 ?_
  refine lv_imul hx hb dX6_doTick_45 ?_
  refine lv_istore (lv' := [(6, .int ((f_ 0) * (sf_ 1))), (5, .int ((sf_ 1) * (sf_ 1))), (4, .int (f_ 4)), (3, .ref n1_), (0, .ref q1_), (1, .ref a1_), (2, .ref r1_)]) hx hb dX6_doTick_46 hl (by decide) rfl (fun ls hl => ?_)
  refine lv_aload_n hx hb dX6_doTick_48 rfl (lv_at hl 3 rfl) ?_
  refine lv_iconst (v := 1) hx hb dX6_doTick_49 (by decide) ?_
  refine al_i hx hb hK hP 5 rfl 1 (rfl) (by decide) (by decide) dX6_doTick_50 ?_
  refine lv_istore (lv' := [(7, .int (f_ 1)), (6, .int ((f_ 0) * (sf_ 1))), (5, .int ((sf_ 1) * (sf_ 1))), (4, .int (f_ 4)), (3, .ref n1_), (0, .ref q1_), (1, .ref a1_), (2, .ref r1_)]) hx hb dX6_doTick_51 hl (by decide) rfl (fun ls hl => ?_)
  refine lv_aload_n hx hb dX6_doTick_53 rfl (lv_at hl 4 rfl) ?_
  refine lv_iconst (v := 3) hx hb dX6_doTick_54 (by decide) ?_
  refine al_i hx hb hK hP 5 rfl 3 (rfl) (by decide) (by decide) dX6_doTick_55 ?_
  refine lv_aload_n hx hb dX6_doTick_56 rfl (lv_at hl 5 rfl) ?_
  refine va_get (D := D) (ci := 6) (v := .int (sf_ 3)) (C := RX6) (T := TX6) (N := 13) hx hb hts winX6 hown hK hP 0 rfl rfl 3 (by decide) wf22 (fun _ h9 => h9) rfl dX6_doTick_57 ?_
  refine lv_imul hx hb dX6_doTick_60 ?_
  refine lv_iload hx hb dX6_doTick_61 (lv_at hl 2 rfl) ?_
  refine lv_aload_n hx hb dX6_doTick_63 rfl (lv_at hl 5 rfl) ?_
  refine va_get (D := D) (ci := 6) (v := .int (sf_ 4)) (C := RX6) (T := TX6) (N := 13) hx hb hts winX6 hown hK hP 0 rfl rfl 4 (by decide) wf25 (fun _ h9 => h9) rfl dX6_doTick_64 ?_
  refine lv_imul hx hb dX6_doTick_67 ?_
  refine lv_iload hx hb dX6_doTick_68 (lv_at hl 3 rfl) ?_
  refine lv_idiv hx hb dX6_doTick_70 (h4) ?_
  refine lv_isub hx hb dX6_doTick_71 ?_
  refine lv_iload hx hb dX6_doTick_72 (lv_at hl 1 rfl) ?_
  refine lv_aload_n hx hb dX6_doTick_74 rfl (lv_at hl 5 rfl) ?_
  refine va_get (D := D) (ci := 6) (v := .int (sf_ 6)) (C := RX6) (T := TX6) (N := 13) hx hb hts winX6 hown hK hP 0 rfl rfl 6 (by decide) wf31 (fun _ h9 => h9) rfl dX6_doTick_75 ?_
  refine lv_imul hx hb dX6_doTick_78 ?_
  refine lv_bipush (v := 10) hx hb dX6_doTick_79 (by decide) ?_
  refine lv_idiv hx hb dX6_doTick_81 (by decide) ?_
  refine lv_isub hx hb dX6_doTick_82 ?_
  refine lv_eqi (y := byL f_ sf_) (rfl) ?_
  refine lv_istore (lv' := [(8, .int (byL f_ sf_)), (7, .int (f_ 1)), (6, .int ((f_ 0) * (sf_ 1))), (5, .int ((sf_ 1) * (sf_ 1))), (4, .int (f_ 4)), (3, .ref n1_), (0, .ref q1_), (1, .ref a1_), (2, .ref r1_)]) hx hb dX6_doTick_83 hl (by decide) rfl (fun ls hl => ?_)
  refine lv_iload hx hb dX6_doTick_85 (lv_at hl 1 rfl) ?_
  refine lv_aload_n hx hb dX6_doTick_87 rfl (lv_at hl 5 rfl) ?_
  refine lv_iconst (v := 2) hx hb dX6_doTick_88 (by decide) ?_
  refine al_i hx hb hK hP 5 rfl 2 (rfl) (by decide) (by decide) dX6_doTick_89 ?_
  refine lv_iadd hx hb dX6_doTick_90 ?_
  refine lv_aload_n hx hb dX6_doTick_91 rfl (lv_at hl 6 rfl) ?_
  refine va_get (D := D) (ci := 6) (v := .int (sf_ 3)) (C := RX6) (T := TX6) (N := 13) hx hb hts winX6 hown hK hP 0 rfl rfl 3 (by decide) wf22 (fun _ h9 => h9) rfl dX6_doTick_92 ?_
  refine lv_imul hx hb dX6_doTick_95 ?_
  refine lv_iload hx hb dX6_doTick_96 (lv_at hl 2 rfl) ?_
  refine lv_aload_n hx hb dX6_doTick_98 rfl (lv_at hl 6 rfl) ?_
  refine va_get (D := D) (ci := 6) (v := .int (sf_ 5)) (C := RX6) (T := TX6) (N := 13) hx hb hts winX6 hown hK hP 0 rfl rfl 5 (by decide) wf28 (fun _ h9 => h9) rfl dX6_doTick_99 ?_
  refine lv_imul hx hb dX6_doTick_102 ?_
  refine lv_bipush (v := 10) hx hb dX6_doTick_103 (by decide) ?_
  refine lv_idiv hx hb dX6_doTick_105 (by decide) ?_
  refine lv_iadd hx hb dX6_doTick_106 ?_
  refine lv_iload hx hb dX6_doTick_107 (lv_at hl 1 rfl) ?_
  refine lv_iload hx hb dX6_doTick_109 (lv_at hl 3 rfl) ?_
  refine lv_imul hx hb dX6_doTick_111 ?_
  refine lv_aload_n hx hb dX6_doTick_112 rfl (lv_at hl 6 rfl) ?_
  refine va_get (D := D) (ci := 6) (v := .int (sf_ 4)) (C := RX6) (T := TX6) (N := 13) hx hb hts winX6 hown hK hP 0 rfl rfl 4 (by decide) wf25 (fun _ h9 => h9) rfl dX6_doTick_113 ?_
  refine lv_imul hx hb dX6_doTick_116 ?_
  refine lv_bipush (v := 10) hx hb dX6_doTick_117 (by decide) ?_
  refine lv_iload hx hb dX6_doTick_119 (lv_at hl 4 rfl) ?_
  refine lv_imul hx hb dX6_doTick_121 ?_
  refine lv_idiv hx hb dX6_doTick_122 (h40) ?_
  refine lv_isub hx hb dX6_doTick_123 ?_
  refine lv_aload_n hx hb dX6_doTick_124 rfl (lv_at hl 5 rfl) ?_
  refine lv_iconst (v := 5) hx hb dX6_doTick_125 (by decide) ?_
  refine al_i hx hb hK hP 5 rfl 5 (rfl) (by decide) (by decide) dX6_doTick_126 ?_
  refine lv_aload_n hx hb dX6_doTick_127 rfl (lv_at hl 6 rfl) ?_
  refine va_get (D := D) (ci := 6) (v := .int (sf_ 6)) (C := RX6) (T := TX6) (N := 13) hx hb hts winX6 hown hK hP 0 rfl rfl 6 (by decide) wf31 (fun _ h9 => h9) rfl dX6_doTick_128 ?_
  refine lv_imul hx hb dX6_doTick_131 ?_
  refine lv_isub hx hb dX6_doTick_132 ?_
  refine lv_aload_n hx hb dX6_doTick_133 rfl (lv_at hl 6 rfl) ?_
  refine va_get (D := D) (ci := 6) (v := .int (hnR lw_ sf_ d_)) (C := RX6) (T := TX6) (N := 13) hx hb hts winX6 hown hK hP 0 rfl rfl 7 (by decide) wf34 (fun _ h9 => h9) rfl dX6_doTick_134 ?_
  refine lv_iadd hx hb dX6_doTick_137 ?_
  refine lv_eqi (y := byB f_ sf_ (hnR lw_ sf_ d_)) (by rw [byB, Int32.mul_assoc (f_ 1) (sf_ 1) (sf_ 1)]) ?_
  refine lv_istore (lv' := [(9, .int (byB f_ sf_ (hnR lw_ sf_ d_))), (8, .int (byL f_ sf_)), (7, .int (f_ 1)), (6, .int ((f_ 0) * (sf_ 1))), (5, .int ((sf_ 1) * (sf_ 1))), (4, .int (f_ 4)), (3, .ref n1_), (0, .ref q1_), (1, .ref a1_), (2, .ref r1_)]) hx hb dX6_doTick_138 hl (by decide) rfl (fun ls hl => ?_)
  refine lv_aload_n hx hb dX6_doTick_140 rfl (lv_at hl 7 rfl) ?_
  refine lv_aload_n hx hb dX6_doTick_141 rfl (lv_at hl 7 rfl) ?_
  refine va_get (D := D) (ci := 6) (v := .int (sf_ 5)) (C := RX6) (T := TX6) (N := 13) hx hb hts winX6 hown hK hP 0 rfl rfl 5 (by decide) wf28 (fun _ h9 => h9) rfl dX6_doTick_142 ?_
  refine lv_iload hx hb dX6_doTick_145 (lv_at hl 1 rfl) ?_
  refine lv_bipush (v := 20) hx hb dX6_doTick_147 (by decide) ?_
  refine lv_idiv hx hb dX6_doTick_149 (by decide) ?_
  refine lv_iadd hx hb dX6_doTick_150 ?_
  refine lv_ldc (v := 100000) hx hb hown wc84 dX6_doTick_151 ?_
  refine ca_SN (n := 2) (rest := [.ref q1_]) (wr := [(q1_, .inr (6, [.int (sf_ 0), .int (sf_ 1), .int (sf_ 2), .int (sf_ 3), .int (sf_ 4), .int (sf_ 5), .int (sf_ 6), .int (hnR lw_ sf_ d_), .int (nI tn_), .int (sf_ 8), .ref q2_, .ref q3_, .ref q4_])), (q2_, .inl (cy 0, 6, .inl (upd pl_ (tn_ % 6) (sf_ 3)))), (q3_, .inl (cy 0, 6, .inl (upd pp_ (tn_ % 6) (sf_ 5)))), (q4_, .inl (cy 0, 6, .inl (upd pb_ (tn_ % 6) (sf_ 4)))), (a1_, .inr (0, [.ref n1_])), (n1_, .inl (cy 0, 6, .inl f_)), (r1_, .inr (7, [.ref r2_, .int tb_])), (r2_, .inl (cy 0, 5, .inl lw_))]) F hK hE hA hP hD hS hl.1 (kX8_clamp (l := l) (D := D) (cy := cy) (sa := sa) ((sf_ 5) + ((byL f_ sf_) / 20)) 100000 (by first | assumption | omega | decide)) gX6_doTick_X8_clamp_n85 (hE.nest 66 rfl) wi_X8 ws_X8_clamp rfl rfl rfl (by decide +kernel) ⟨by decide, by decide⟩ [] [0, 1, 2, 3, 4, 5, 6, 7] rfl rfl rfl rfl (by decide) rfl rfl (Nat.le_of_ble_eq_true rfl) dX6_doTick_153 ⟨by decide, by decide⟩ (fun v9 u9 H locs hv hP hD hS => ?_)
  subst hv
  have hP : va_P D vwCl [(q1_, .inr (6, [.int (sf_ 0), .int (sf_ 1), .int (sf_ 2), .int (sf_ 3), .int (sf_ 4), .int (sf_ 5), .int (sf_ 6), .int (hnR lw_ sf_ d_), .int (nI tn_), .int (sf_ 8), .ref q2_, .ref q3_, .ref q4_])), (q2_, .inl (cy 0, 6, .inl (upd pl_ (tn_ % 6) (sf_ 3)))), (q3_, .inl (cy 0, 6, .inl (upd pp_ (tn_ % 6) (sf_ 5)))), (q4_, .inl (cy 0, 6, .inl (upd pb_ (tn_ % 6) (sf_ 4)))), (a1_, .inr (0, [.ref n1_])), (n1_, .inl (cy 0, 6, .inl f_)), (r1_, .inr (7, [.ref r2_, .int tb_])), (r2_, .inl (cy 0, 5, .inl lw_))] H := hP
  have hD : va_D A [(q1_, .inr (6, [.int (sf_ 0), .int (sf_ 1), .int (sf_ 2), .int (sf_ 3), .int (sf_ 4), .int (sf_ 5), .int (sf_ 6), .int (hnR lw_ sf_ d_), .int (nI tn_), .int (sf_ 8), .ref q2_, .ref q3_, .ref q4_])), (q2_, .inl (cy 0, 6, .inl (upd pl_ (tn_ % 6) (sf_ 3)))), (q3_, .inl (cy 0, 6, .inl (upd pp_ (tn_ % 6) (sf_ 5)))), (q4_, .inl (cy 0, 6, .inl (upd pb_ (tn_ % 6) (sf_ 4)))), (a1_, .inr (0, [.ref n1_])), (n1_, .inl (cy 0, 6, .inl f_)), (r1_, .inr (7, [.ref r2_, .int tb_])), (r2_, .inl (cy 0, 5, .inl lw_))] := hD
  refine W.eq (g2 := F0 m 156 ls [.int (wth ((sf_ 5) + ((byL f_ sf_) / 20)) 100000), .ref q1_]) rfl ?_
  refine lv_eqi (y := tkP f_ sf_) (rfl) ?_
  refine va_put (D := D) (ci := 6) (v := .int (tkP f_ sf_)) (ty := .int) (C := RX6) (T := TX6) (N := 13) hx hb hts winX6 tyX6 tyX6_ok nmX6 hown hK hP hD hS 0 rfl rfl 5 (by decide) wf28 (fun _ h9 => h9) rfl (by decide +kernel) (rfl) (rfl) (Nat.le_of_ble_eq_true rfl) dX6_doTick_156 (fun H locs hP hD hS => ?_)
  have hP : va_P D vwCl [(q1_, .inr (6, [.int (sf_ 0), .int (sf_ 1), .int (sf_ 2), .int (sf_ 3), .int (sf_ 4), .int (tkP f_ sf_), .int (sf_ 6), .int (hnR lw_ sf_ d_), .int (nI tn_), .int (sf_ 8), .ref q2_, .ref q3_, .ref q4_])), (q2_, .inl (cy 0, 6, .inl (upd pl_ (tn_ % 6) (sf_ 3)))), (q3_, .inl (cy 0, 6, .inl (upd pp_ (tn_ % 6) (sf_ 5)))), (q4_, .inl (cy 0, 6, .inl (upd pb_ (tn_ % 6) (sf_ 4)))), (a1_, .inr (0, [.ref n1_])), (n1_, .inl (cy 0, 6, .inl f_)), (r1_, .inr (7, [.ref r2_, .int tb_])), (r2_, .inl (cy 0, 5, .inl lw_))] H := hP
  have hD : va_D A [(q1_, .inr (6, [.int (sf_ 0), .int (sf_ 1), .int (sf_ 2), .int (sf_ 3), .int (sf_ 4), .int (tkP f_ sf_), .int (sf_ 6), .int (hnR lw_ sf_ d_), .int (nI tn_), .int (sf_ 8), .ref q2_, .ref q3_, .ref q4_])), (q2_, .inl (cy 0, 6, .inl (upd pl_ (tn_ % 6) (sf_ 3)))), (q3_, .inl (cy 0, 6, .inl (upd pp_ (tn_ % 6) (sf_ 5)))), (q4_, .inl (cy 0, 6, .inl (upd pb_ (tn_ % 6) (sf_ 4)))), (a1_, .inr (0, [.ref n1_])), (n1_, .inl (cy 0, 6, .inl f_)), (r1_, .inr (7, [.ref r2_, .int tb_])), (r2_, .inl (cy 0, 5, .inl lw_))] := hD
  refine lv_aload_n hx hb dX6_doTick_159 rfl (lv_at hl 7 rfl) ?_
  refine lv_aload_n hx hb dX6_doTick_160 rfl (lv_at hl 7 rfl) ?_
  refine va_get (D := D) (ci := 6) (v := .int (sf_ 6)) (C := RX6) (T := TX6) (N := 13) hx hb hts winX6 hown hK hP 0 rfl rfl 6 (by decide) wf31 (fun _ h9 => h9) rfl dX6_doTick_161 ?_
  refine lv_iload hx hb dX6_doTick_164 (lv_at hl 0 rfl) ?_
  refine lv_bipush (v := 20) hx hb dX6_doTick_166 (by decide) ?_
  refine lv_idiv hx hb dX6_doTick_168 (by decide) ?_
  refine lv_iadd hx hb dX6_doTick_169 ?_
  refine lv_ldc (v := 100000) hx hb hown wc84 dX6_doTick_170 ?_
  refine ca_SN (n := 2) (rest := [.ref q1_]) (wr := [(q1_, .inr (6, [.int (sf_ 0), .int (sf_ 1), .int (sf_ 2), .int (sf_ 3), .int (sf_ 4), .int (tkP f_ sf_), .int (sf_ 6), .int (hnR lw_ sf_ d_), .int (nI tn_), .int (sf_ 8), .ref q2_, .ref q3_, .ref q4_])), (q2_, .inl (cy 0, 6, .inl (upd pl_ (tn_ % 6) (sf_ 3)))), (q3_, .inl (cy 0, 6, .inl (upd pp_ (tn_ % 6) (sf_ 5)))), (q4_, .inl (cy 0, 6, .inl (upd pb_ (tn_ % 6) (sf_ 4)))), (a1_, .inr (0, [.ref n1_])), (n1_, .inl (cy 0, 6, .inl f_)), (r1_, .inr (7, [.ref r2_, .int tb_])), (r2_, .inl (cy 0, 5, .inl lw_))]) F hK hE hA hP hD hS hl.1 (kX8_clamp (l := l) (D := D) (cy := cy) (sa := sa) ((sf_ 6) + ((byB f_ sf_ (hnR lw_ sf_ d_)) / 20)) 100000 (by first | assumption | omega | decide)) gX6_doTick_X8_clamp_n85 (hE.nest 66 rfl) wi_X8 ws_X8_clamp rfl rfl rfl (by decide +kernel) ⟨by decide, by decide⟩ [] [0, 1, 2, 3, 4, 5, 6, 7] rfl rfl rfl rfl (by decide) rfl rfl (Nat.le_of_ble_eq_true rfl) dX6_doTick_172 ⟨by decide, by decide⟩ (fun v9 u9 H locs hv hP hD hS => ?_)
  subst hv
  have hP : va_P D vwCl [(q1_, .inr (6, [.int (sf_ 0), .int (sf_ 1), .int (sf_ 2), .int (sf_ 3), .int (sf_ 4), .int (tkP f_ sf_), .int (sf_ 6), .int (hnR lw_ sf_ d_), .int (nI tn_), .int (sf_ 8), .ref q2_, .ref q3_, .ref q4_])), (q2_, .inl (cy 0, 6, .inl (upd pl_ (tn_ % 6) (sf_ 3)))), (q3_, .inl (cy 0, 6, .inl (upd pp_ (tn_ % 6) (sf_ 5)))), (q4_, .inl (cy 0, 6, .inl (upd pb_ (tn_ % 6) (sf_ 4)))), (a1_, .inr (0, [.ref n1_])), (n1_, .inl (cy 0, 6, .inl f_)), (r1_, .inr (7, [.ref r2_, .int tb_])), (r2_, .inl (cy 0, 5, .inl lw_))] H := hP
  have hD : va_D A [(q1_, .inr (6, [.int (sf_ 0), .int (sf_ 1), .int (sf_ 2), .int (sf_ 3), .int (sf_ 4), .int (tkP f_ sf_), .int (sf_ 6), .int (hnR lw_ sf_ d_), .int (nI tn_), .int (sf_ 8), .ref q2_, .ref q3_, .ref q4_])), (q2_, .inl (cy 0, 6, .inl (upd pl_ (tn_ % 6) (sf_ 3)))), (q3_, .inl (cy 0, 6, .inl (upd pp_ (tn_ % 6) (sf_ 5)))), (q4_, .inl (cy 0, 6, .inl (upd pb_ (tn_ % 6) (sf_ 4)))), (a1_, .inr (0, [.ref n1_])), (n1_, .inl (cy 0, 6, .inl f_)), (r1_, .inr (7, [.ref r2_, .int tb_])), (r2_, .inl (cy 0, 5, .inl lw_))] := hD
  refine W.eq (g2 := F0 m 175 ls [.int (wth ((sf_ 6) + ((byB f_ sf_ (hnR lw_ sf_ d_)) / 20)) 100000), .ref q1_]) rfl ?_
  refine lv_eqi (y := tkQ f_ sf_ (hnR lw_ sf_ d_)) (rfl) ?_
  refine va_put (D := D) (ci := 6) (v := .int (tkQ f_ sf_ (hnR lw_ sf_ d_))) (ty := .int) (C := RX6) (T := TX6) (N := 13) hx hb hts winX6 tyX6 tyX6_ok nmX6 hown hK hP hD hS 0 rfl rfl 6 (by decide) wf31 (fun _ h9 => h9) rfl (by decide +kernel) (rfl) (rfl) (Nat.le_of_ble_eq_true rfl) dX6_doTick_175 (fun H locs hP hD hS => ?_)
  have hP : va_P D vwCl [(q1_, .inr (6, [.int (sf_ 0), .int (sf_ 1), .int (sf_ 2), .int (sf_ 3), .int (sf_ 4), .int (tkP f_ sf_), .int (tkQ f_ sf_ (hnR lw_ sf_ d_)), .int (hnR lw_ sf_ d_), .int (nI tn_), .int (sf_ 8), .ref q2_, .ref q3_, .ref q4_])), (q2_, .inl (cy 0, 6, .inl (upd pl_ (tn_ % 6) (sf_ 3)))), (q3_, .inl (cy 0, 6, .inl (upd pp_ (tn_ % 6) (sf_ 5)))), (q4_, .inl (cy 0, 6, .inl (upd pb_ (tn_ % 6) (sf_ 4)))), (a1_, .inr (0, [.ref n1_])), (n1_, .inl (cy 0, 6, .inl f_)), (r1_, .inr (7, [.ref r2_, .int tb_])), (r2_, .inl (cy 0, 5, .inl lw_))] H := hP
  have hD : va_D A [(q1_, .inr (6, [.int (sf_ 0), .int (sf_ 1), .int (sf_ 2), .int (sf_ 3), .int (sf_ 4), .int (tkP f_ sf_), .int (tkQ f_ sf_ (hnR lw_ sf_ d_)), .int (hnR lw_ sf_ d_), .int (nI tn_), .int (sf_ 8), .ref q2_, .ref q3_, .ref q4_])), (q2_, .inl (cy 0, 6, .inl (upd pl_ (tn_ % 6) (sf_ 3)))), (q3_, .inl (cy 0, 6, .inl (upd pp_ (tn_ % 6) (sf_ 5)))), (q4_, .inl (cy 0, 6, .inl (upd pb_ (tn_ % 6) (sf_ 4)))), (a1_, .inr (0, [.ref n1_])), (n1_, .inl (cy 0, 6, .inl f_)), (r1_, .inr (7, [.ref r2_, .int tb_])), (r2_, .inl (cy 0, 5, .inl lw_))] := hD
  refine lv_aload_n hx hb dX6_doTick_178 rfl (lv_at hl 7 rfl) ?_
  refine lv_dup hx hb dX6_doTick_179 rfl ?_
  refine va_get (D := D) (ci := 6) (v := .int (sf_ 3)) (C := RX6) (T := TX6) (N := 13) hx hb hts winX6 hown hK hP 0 rfl rfl 3 (by decide) wf22 (fun _ h9 => h9) rfl dX6_doTick_180 ?_
  refine lv_aload_n hx hb dX6_doTick_183 rfl (lv_at hl 7 rfl) ?_
  refine va_get (D := D) (ci := 6) (v := .int (tkP f_ sf_)) (C := RX6) (T := TX6) (N := 13) hx hb hts winX6 hown hK hP 0 rfl rfl 5 (by decide) wf28 (fun _ h9 => h9) rfl dX6_doTick_184 ?_
  refine lv_bipush (v := 20) hx hb dX6_doTick_187 (by decide) ?_
  refine lv_idiv hx hb dX6_doTick_189 (by decide) ?_
  refine lv_iadd hx hb dX6_doTick_190 ?_
  refine lv_eqi (y := tkA f_ sf_) (rfl) ?_
  refine va_put (D := D) (ci := 6) (v := .int (tkA f_ sf_)) (ty := .int) (C := RX6) (T := TX6) (N := 13) hx hb hts winX6 tyX6 tyX6_ok nmX6 hown hK hP hD hS 0 rfl rfl 3 (by decide) wf22 (fun _ h9 => h9) rfl (by decide +kernel) (rfl) (rfl) (Nat.le_of_ble_eq_true rfl) dX6_doTick_191 (fun H locs hP hD hS => ?_)
  have hP : va_P D vwCl [(q1_, .inr (6, [.int (sf_ 0), .int (sf_ 1), .int (sf_ 2), .int (tkA f_ sf_), .int (sf_ 4), .int (tkP f_ sf_), .int (tkQ f_ sf_ (hnR lw_ sf_ d_)), .int (hnR lw_ sf_ d_), .int (nI tn_), .int (sf_ 8), .ref q2_, .ref q3_, .ref q4_])), (q2_, .inl (cy 0, 6, .inl (upd pl_ (tn_ % 6) (sf_ 3)))), (q3_, .inl (cy 0, 6, .inl (upd pp_ (tn_ % 6) (sf_ 5)))), (q4_, .inl (cy 0, 6, .inl (upd pb_ (tn_ % 6) (sf_ 4)))), (a1_, .inr (0, [.ref n1_])), (n1_, .inl (cy 0, 6, .inl f_)), (r1_, .inr (7, [.ref r2_, .int tb_])), (r2_, .inl (cy 0, 5, .inl lw_))] H := hP
  have hD : va_D A [(q1_, .inr (6, [.int (sf_ 0), .int (sf_ 1), .int (sf_ 2), .int (tkA f_ sf_), .int (sf_ 4), .int (tkP f_ sf_), .int (tkQ f_ sf_ (hnR lw_ sf_ d_)), .int (hnR lw_ sf_ d_), .int (nI tn_), .int (sf_ 8), .ref q2_, .ref q3_, .ref q4_])), (q2_, .inl (cy 0, 6, .inl (upd pl_ (tn_ % 6) (sf_ 3)))), (q3_, .inl (cy 0, 6, .inl (upd pp_ (tn_ % 6) (sf_ 5)))), (q4_, .inl (cy 0, 6, .inl (upd pb_ (tn_ % 6) (sf_ 4)))), (a1_, .inr (0, [.ref n1_])), (n1_, .inl (cy 0, 6, .inl f_)), (r1_, .inr (7, [.ref r2_, .int tb_])), (r2_, .inl (cy 0, 5, .inl lw_))] := hD
  refine lv_aload_n hx hb dX6_doTick_194 rfl (lv_at hl 7 rfl) ?_
  refine lv_aload_n hx hb dX6_doTick_195 rfl (lv_at hl 7 rfl) ?_
  refine va_get (D := D) (ci := 6) (v := .int (sf_ 4)) (C := RX6) (T := TX6) (N := 13) hx hb hts winX6 hown hK hP 0 rfl rfl 4 (by decide) wf25 (fun _ h9 => h9) rfl dX6_doTick_196 ?_
  refine lv_aload_n hx hb dX6_doTick_199 rfl (lv_at hl 7 rfl) ?_
  refine va_get (D := D) (ci := 6) (v := .int (tkQ f_ sf_ (hnR lw_ sf_ d_))) (C := RX6) (T := TX6) (N := 13) hx hb hts winX6 hown hK hP 0 rfl rfl 6 (by decide) wf31 (fun _ h9 => h9) rfl dX6_doTick_200 ?_
  refine lv_bipush (v := 20) hx hb dX6_doTick_203 (by decide) ?_
  refine lv_idiv hx hb dX6_doTick_205 (by decide) ?_
  refine lv_iadd hx hb dX6_doTick_206 ?_
  refine lv_sipush (v := 10000) hx hb dX6_doTick_207 (by decide) ?_
  refine ca_SN (n := 2) (rest := [.ref q1_]) (wr := [(q1_, .inr (6, [.int (sf_ 0), .int (sf_ 1), .int (sf_ 2), .int (tkA f_ sf_), .int (sf_ 4), .int (tkP f_ sf_), .int (tkQ f_ sf_ (hnR lw_ sf_ d_)), .int (hnR lw_ sf_ d_), .int (nI tn_), .int (sf_ 8), .ref q2_, .ref q3_, .ref q4_])), (q2_, .inl (cy 0, 6, .inl (upd pl_ (tn_ % 6) (sf_ 3)))), (q3_, .inl (cy 0, 6, .inl (upd pp_ (tn_ % 6) (sf_ 5)))), (q4_, .inl (cy 0, 6, .inl (upd pb_ (tn_ % 6) (sf_ 4)))), (a1_, .inr (0, [.ref n1_])), (n1_, .inl (cy 0, 6, .inl f_)), (r1_, .inr (7, [.ref r2_, .int tb_])), (r2_, .inl (cy 0, 5, .inl lw_))]) F hK hE hA hP hD hS hl.1 (kX8_clamp (l := l) (D := D) (cy := cy) (sa := sa) ((sf_ 4) + ((tkQ f_ sf_ (hnR lw_ sf_ d_)) / 20)) 10000 (by first | assumption | omega | decide)) gX6_doTick_X8_clamp_n85 (hE.nest 66 rfl) wi_X8 ws_X8_clamp rfl rfl rfl (by decide +kernel) ⟨by decide, by decide⟩ [] [0, 1, 2, 3, 4, 5, 6, 7] rfl rfl rfl rfl (by decide) rfl rfl (Nat.le_of_ble_eq_true rfl) dX6_doTick_210 ⟨by decide, by decide⟩ (fun v9 u9 H locs hv hP hD hS => ?_)
  subst hv
  have hP : va_P D vwCl [(q1_, .inr (6, [.int (sf_ 0), .int (sf_ 1), .int (sf_ 2), .int (tkA f_ sf_), .int (sf_ 4), .int (tkP f_ sf_), .int (tkQ f_ sf_ (hnR lw_ sf_ d_)), .int (hnR lw_ sf_ d_), .int (nI tn_), .int (sf_ 8), .ref q2_, .ref q3_, .ref q4_])), (q2_, .inl (cy 0, 6, .inl (upd pl_ (tn_ % 6) (sf_ 3)))), (q3_, .inl (cy 0, 6, .inl (upd pp_ (tn_ % 6) (sf_ 5)))), (q4_, .inl (cy 0, 6, .inl (upd pb_ (tn_ % 6) (sf_ 4)))), (a1_, .inr (0, [.ref n1_])), (n1_, .inl (cy 0, 6, .inl f_)), (r1_, .inr (7, [.ref r2_, .int tb_])), (r2_, .inl (cy 0, 5, .inl lw_))] H := hP
  have hD : va_D A [(q1_, .inr (6, [.int (sf_ 0), .int (sf_ 1), .int (sf_ 2), .int (tkA f_ sf_), .int (sf_ 4), .int (tkP f_ sf_), .int (tkQ f_ sf_ (hnR lw_ sf_ d_)), .int (hnR lw_ sf_ d_), .int (nI tn_), .int (sf_ 8), .ref q2_, .ref q3_, .ref q4_])), (q2_, .inl (cy 0, 6, .inl (upd pl_ (tn_ % 6) (sf_ 3)))), (q3_, .inl (cy 0, 6, .inl (upd pp_ (tn_ % 6) (sf_ 5)))), (q4_, .inl (cy 0, 6, .inl (upd pb_ (tn_ % 6) (sf_ 4)))), (a1_, .inr (0, [.ref n1_])), (n1_, .inl (cy 0, 6, .inl f_)), (r1_, .inr (7, [.ref r2_, .int tb_])), (r2_, .inl (cy 0, 5, .inl lw_))] := hD
  refine W.eq (g2 := F0 m 213 ls [.int (wth ((sf_ 4) + ((tkQ f_ sf_ (hnR lw_ sf_ d_)) / 20)) 10000), .ref q1_]) rfl ?_
  refine lv_eqi (y := tkB f_ sf_ (hnR lw_ sf_ d_)) (rfl) ?_
  refine va_put (D := D) (ci := 6) (v := .int (tkB f_ sf_ (hnR lw_ sf_ d_))) (ty := .int) (C := RX6) (T := TX6) (N := 13) hx hb hts winX6 tyX6 tyX6_ok nmX6 hown hK hP hD hS 0 rfl rfl 4 (by decide) wf25 (fun _ h9 => h9) rfl (by decide +kernel) (rfl) (rfl) (Nat.le_of_ble_eq_true rfl) dX6_doTick_213 (fun H locs hP hD hS => ?_)
  have hP : va_P D vwCl [(q1_, .inr (6, [.int (sf_ 0), .int (sf_ 1), .int (sf_ 2), .int (tkA f_ sf_), .int (tkB f_ sf_ (hnR lw_ sf_ d_)), .int (tkP f_ sf_), .int (tkQ f_ sf_ (hnR lw_ sf_ d_)), .int (hnR lw_ sf_ d_), .int (nI tn_), .int (sf_ 8), .ref q2_, .ref q3_, .ref q4_])), (q2_, .inl (cy 0, 6, .inl (upd pl_ (tn_ % 6) (sf_ 3)))), (q3_, .inl (cy 0, 6, .inl (upd pp_ (tn_ % 6) (sf_ 5)))), (q4_, .inl (cy 0, 6, .inl (upd pb_ (tn_ % 6) (sf_ 4)))), (a1_, .inr (0, [.ref n1_])), (n1_, .inl (cy 0, 6, .inl f_)), (r1_, .inr (7, [.ref r2_, .int tb_])), (r2_, .inl (cy 0, 5, .inl lw_))] H := hP
  have hD : va_D A [(q1_, .inr (6, [.int (sf_ 0), .int (sf_ 1), .int (sf_ 2), .int (tkA f_ sf_), .int (tkB f_ sf_ (hnR lw_ sf_ d_)), .int (tkP f_ sf_), .int (tkQ f_ sf_ (hnR lw_ sf_ d_)), .int (hnR lw_ sf_ d_), .int (nI tn_), .int (sf_ 8), .ref q2_, .ref q3_, .ref q4_])), (q2_, .inl (cy 0, 6, .inl (upd pl_ (tn_ % 6) (sf_ 3)))), (q3_, .inl (cy 0, 6, .inl (upd pp_ (tn_ % 6) (sf_ 5)))), (q4_, .inl (cy 0, 6, .inl (upd pb_ (tn_ % 6) (sf_ 4)))), (a1_, .inr (0, [.ref n1_])), (n1_, .inl (cy 0, 6, .inl f_)), (r1_, .inr (7, [.ref r2_, .int tb_])), (r2_, .inl (cy 0, 5, .inl lw_))] := hD
  refine lv_aload_n hx hb dX6_doTick_216 rfl (lv_at hl 7 rfl) ?_
  refine lv_dup hx hb dX6_doTick_217 rfl ?_
  refine va_get (D := D) (ci := 6) (v := .int (nI tn_)) (C := RX6) (T := TX6) (N := 13) hx hb hts winX6 hown hK hP 0 rfl rfl 8 (by decide) wf37 (fun _ h9 => h9) rfl dX6_doTick_218 ?_
  refine lv_iconst (v := 1) hx hb dX6_doTick_221 (by decide) ?_
  refine lv_iadd hx hb dX6_doTick_222 ?_
  refine lv_eqi (y := nI (tn_ + 1)) (nI_add tn_ 1) ?_
  refine va_put (D := D) (ci := 6) (v := .int (nI (tn_ + 1))) (ty := .int) (C := RX6) (T := TX6) (N := 13) hx hb hts winX6 tyX6 tyX6_ok nmX6 hown hK hP hD hS 0 rfl rfl 8 (by decide) wf37 (fun _ h9 => h9) rfl (by decide +kernel) (rfl) (rfl) (Nat.le_of_ble_eq_true rfl) dX6_doTick_223 (fun H locs hP hD hS => ?_)
  have hP : va_P D vwCl [(q1_, .inr (6, [.int (sf_ 0), .int (sf_ 1), .int (sf_ 2), .int (tkA f_ sf_), .int (tkB f_ sf_ (hnR lw_ sf_ d_)), .int (tkP f_ sf_), .int (tkQ f_ sf_ (hnR lw_ sf_ d_)), .int (hnR lw_ sf_ d_), .int (nI (tn_ + 1)), .int (sf_ 8), .ref q2_, .ref q3_, .ref q4_])), (q2_, .inl (cy 0, 6, .inl (upd pl_ (tn_ % 6) (sf_ 3)))), (q3_, .inl (cy 0, 6, .inl (upd pp_ (tn_ % 6) (sf_ 5)))), (q4_, .inl (cy 0, 6, .inl (upd pb_ (tn_ % 6) (sf_ 4)))), (a1_, .inr (0, [.ref n1_])), (n1_, .inl (cy 0, 6, .inl f_)), (r1_, .inr (7, [.ref r2_, .int tb_])), (r2_, .inl (cy 0, 5, .inl lw_))] H := hP
  have hD : va_D A [(q1_, .inr (6, [.int (sf_ 0), .int (sf_ 1), .int (sf_ 2), .int (tkA f_ sf_), .int (tkB f_ sf_ (hnR lw_ sf_ d_)), .int (tkP f_ sf_), .int (tkQ f_ sf_ (hnR lw_ sf_ d_)), .int (hnR lw_ sf_ d_), .int (nI (tn_ + 1)), .int (sf_ 8), .ref q2_, .ref q3_, .ref q4_])), (q2_, .inl (cy 0, 6, .inl (upd pl_ (tn_ % 6) (sf_ 3)))), (q3_, .inl (cy 0, 6, .inl (upd pp_ (tn_ % 6) (sf_ 5)))), (q4_, .inl (cy 0, 6, .inl (upd pb_ (tn_ % 6) (sf_ 4)))), (a1_, .inr (0, [.ref n1_])), (n1_, .inl (cy 0, 6, .inl f_)), (r1_, .inr (7, [.ref r2_, .int tb_])), (r2_, .inl (cy 0, 5, .inl lw_))] := hD
  refine lv_aload_n hx hb dX6_doTick_226 rfl (lv_at hl 7 rfl) ?_
  refine ca_V (q0 := 0) (n := 0) (rest := []) (wr := [(q2_, .inl (cy 0, 6, .inl (upd pl_ (tn_ % 6) (sf_ 3)))), (q3_, .inl (cy 0, 6, .inl (upd pp_ (tn_ % 6) (sf_ 5)))), (q4_, .inl (cy 0, 6, .inl (upd pb_ (tn_ % 6) (sf_ 4)))), (a1_, .inr (0, [.ref n1_])), (n1_, .inl (cy 0, 6, .inl f_)), (r1_, .inr (7, [.ref r2_, .int tb_])), (r2_, .inl (cy 0, 5, .inl lw_))]) F hK hE hA hP hD hS hl.1 (kX6_look (l := l) (D := D) (cy := cy) (sa := sa) q1_ q2_ q3_ q4_ (sf_ 0) (sf_ 1) (sf_ 2) (tkA f_ sf_) (tkB f_ sf_ (hnR lw_ sf_ d_)) (tkP f_ sf_) (tkQ f_ sf_ (hnR lw_ sf_ d_)) (hnR lw_ sf_ d_) (nI (tn_ + 1)) (sf_ 8)) gX6_doTick_X6_lookWhetherItFalls rfl rfl rfl rfl rfl rfl (by decide +kernel) ⟨by decide, by decide⟩ [0] [1, 2, 3, 4, 5, 6, 7] rfl rfl rfl rfl (by decide) rfl rfl (Nat.le_of_ble_eq_true rfl) dX6_doTick_227 ⟨by decide, by decide⟩ (fun v9 u9 H locs hv hP hD hS => ?_)
  subst hv
  obtain ⟨hP, hD⟩ := re_ws (ws' := [(q1_, .inr (6, [.int (sf_ 0), .int (sf_ 1), .int (sf_ 2), .int (tkA f_ sf_), .int (tkB f_ sf_ (hnR lw_ sf_ d_)), .int (tkP f_ sf_), .int (tkQ f_ sf_ (hnR lw_ sf_ d_)), .int (hnR lw_ sf_ d_), .int (nI (tn_ + 1)), .int (bI (liesP (tkA f_ sf_))), .ref q2_, .ref q3_, .ref q4_])), (q2_, .inl (cy 0, 6, .inl (upd pl_ (tn_ % 6) (sf_ 3)))), (q3_, .inl (cy 0, 6, .inl (upd pp_ (tn_ % 6) (sf_ 5)))), (q4_, .inl (cy 0, 6, .inl (upd pb_ (tn_ % 6) (sf_ 4)))), (a1_, .inr (0, [.ref n1_])), (n1_, .inl (cy 0, 6, .inl f_)), (r1_, .inr (7, [.ref r2_, .int tb_])), (r2_, .inl (cy 0, 5, .inl lw_))]) hP hD [7, 0, 1, 2, 3, 4, 5, 6] rfl rfl
  refine W.eq (g2 := F0 m 230 ls []) rfl ?_
  skip
  skip
  skip
  skip
  skip
  skip
  skip
  skip
  skip
  skip
  exact RT _ _ () H locs 230 ls (rt_v dX6_doTick_230) rfl hP hD hS
abbrev rmkX6_goOn : Room := { frames := 4, cells := 0, slots := 0, locals := 115 }
set_option maxHeartbeats 4000000 in
set_option maxRecDepth 100000 in
theorem kX6_goOn {l : Launch} {D : va_G} {cy : Nat → ClassId} {sa : Nat → Nat} (q1_ : Nat) (q2_ : Nat) (q3_ : Nat) (q4_ : Nat) (sf_ : Nat → Int32) (tn_ : Nat) (pl_ : Nat → Int32) (pp_ : Nat → Int32) (pb_ : Nat → Int32) (a1_ : Nat) (n1_ : Nat) (f_ : Nat → Int32) (r1_ : Nat) (r2_ : Nat) (lw_ : Nat → Int32) (tb_ : Int32) (d_ : Nat) (n_ : Nat) (ht : tn_ + n_ < 1000000) (h7 : sf_ 7 = nI tn_) (hd : lw_ 3 = nI d_) (hd5 : d_ ≤ 5) (hm : inR (lw_ 4) 0 1000000) (h2 : sf_ 2 = 0 ∨ sf_ 2 = 1) (hh : histOK sf_ tn_ pl_ pp_ pb_) (hlong : (if 1 < f_ 4 then f_ 4 else 1) = f_ 4) (h4 : ¬ f_ 4 = 0) (h40 : ¬ 10 * f_ 4 = 0) : CT (S := (Nat → Int32) × (Nat → Int32) × (Nat → Int32) × (Nat)) l D cy sa yX6_goOn wsX6_goOn rmkX6_goOn [.ref q1_, .int (nI n_), .ref a1_, .ref r1_] [(q1_, .inr (6, [.int (sf_ 0), .int (sf_ 1), .int (sf_ 2), .int (sf_ 3), .int (sf_ 4), .int (sf_ 5), .int (sf_ 6), .int (sf_ 9), .int (nI tn_), .int (sf_ 8), .ref q2_, .ref q3_, .ref q4_])), (q2_, .inl (cy 0, 6, .inl pl_)), (q3_, .inl (cy 0, 6, .inl pp_)), (q4_, .inl (cy 0, 6, .inl pb_)), (a1_, .inr (0, [.ref n1_])), (n1_, .inl (cy 0, 6, .inl f_)), (r1_, .inr (7, [.ref r2_, .int tb_])), (r2_, .inl (cy 0, 5, .inl lw_))] (fun v9 u9 => match u9 with | (pl2, pp2, pb2, tn2) => v9 = some (.int (nI ((tks f_ lw_ d_ n_ sf_ 0).1))) ∧ (tn2 ≤ tn_ + n_) ∧ ((tks f_ lw_ d_ n_ sf_ 0).2 7 = nI tn2) ∧ (histOK (tks f_ lw_ d_ n_ sf_ 0).2 tn2 pl2 pp2 pb2) ∧ ((tks f_ lw_ d_ n_ sf_ 0).2 2 = sf_ 2)) (fun u9 => match u9 with | (pl2, pp2, pb2, tn2) => [(q1_, .inr (6, [.int (((tks f_ lw_ d_ n_ sf_ 0).2) 0), .int (((tks f_ lw_ d_ n_ sf_ 0).2) 1), .int (((tks f_ lw_ d_ n_ sf_ 0).2) 2), .int (((tks f_ lw_ d_ n_ sf_ 0).2) 3), .int (((tks f_ lw_ d_ n_ sf_ 0).2) 4), .int (((tks f_ lw_ d_ n_ sf_ 0).2) 5), .int (((tks f_ lw_ d_ n_ sf_ 0).2) 6), .int (((tks f_ lw_ d_ n_ sf_ 0).2) 9), .int (nI tn2), .int (((tks f_ lw_ d_ n_ sf_ 0).2) 8), .ref q2_, .ref q3_, .ref q4_])), (q2_, .inl (cy 0, 6, .inl pl2)), (q3_, .inl (cy 0, 6, .inl pp2)), (q4_, .inl (cy 0, 6, .inl pb2)), (a1_, .inr (0, [.ref n1_])), (n1_, .inl (cy 0, 6, .inl f_)), (r1_, .inr (7, [.ref r2_, .int tb_])), (r2_, .inl (cy 0, 5, .inl lw_))]) 0 0 := by
  refine CT.of cX6_goOn 5 (some .int) (by decide +kernel) rfl (Nat.le_of_ble_eq_true rfl) ?_
  intro p e s m args below meth c A Q ls F hmn hK hE hA hP hD hS hl RT
  obtain ⟨hx, hb, hml, hown, hts⟩ := id F
  have winX6 : ∀ w ∈ u_ws RX6 TX6 13, w ∈ wsX6_goOn := by decide +kernel
  have wf40 := hts (.fieldLink RX6 40 "SelfSteer$Ride" "lies" "Z") (by decide +kernel)
  have hl : lv_has ls 5 [(0, .ref q1_), (1, .int (nI n_)), (2, .ref a1_), (3, .ref r1_)] := hl
  have hP : va_P D vwCl [(q1_, .inr (6, [.int (sf_ 0), .int (sf_ 1), .int (sf_ 2), .int (sf_ 3), .int (sf_ 4), .int (sf_ 5), .int (sf_ 6), .int (sf_ 9), .int (nI tn_), .int (sf_ 8), .ref q2_, .ref q3_, .ref q4_])), (q2_, .inl (cy 0, 6, .inl pl_)), (q3_, .inl (cy 0, 6, .inl pp_)), (q4_, .inl (cy 0, 6, .inl pb_)), (a1_, .inr (0, [.ref n1_])), (n1_, .inl (cy 0, 6, .inl f_)), (r1_, .inr (7, [.ref r2_, .int tb_])), (r2_, .inl (cy 0, 5, .inl lw_))] s.heap := hP
  have hD : va_D A [(q1_, .inr (6, [.int (sf_ 0), .int (sf_ 1), .int (sf_ 2), .int (sf_ 3), .int (sf_ 4), .int (sf_ 5), .int (sf_ 6), .int (sf_ 9), .int (nI tn_), .int (sf_ 8), .ref q2_, .ref q3_, .ref q4_])), (q2_, .inl (cy 0, 6, .inl pl_)), (q3_, .inl (cy 0, 6, .inl pp_)), (q4_, .inl (cy 0, 6, .inl pb_)), (a1_, .inr (0, [.ref n1_])), (n1_, .inl (cy 0, 6, .inl f_)), (r1_, .inr (7, [.ref r2_, .int tb_])), (r2_, .inl (cy 0, 5, .inl lw_))] := hD
  obtain ⟨H, hH⟩ : ∃ H0 : Heap, H0 = s.heap := ⟨_, rfl⟩
  obtain ⟨locs, hlo⟩ : ∃ L0 : List Loc, L0 = [] := ⟨_, rfl⟩
  have hS : va_S A s.heap H locs := by rw [hH, hlo]; exact hS
  rw [← hH] at hP
  show W p l e rmkX6_goOn s m args below meth c s.heap [] 0 0 Q (F0 m 0 ls [])
  suffices hgo : W p l e rmkX6_goOn s m args below meth c H locs 0 0 Q (F0 m 0 ls []) by rw [hH, hlo] at hgo; exact hgo
  clear hH hlo
  refine lv_iconst (v := 0) hx hb dX6_goOn_0 (by decide) ?_
  refine lv_istore (lv' := [(4, .int 0), (0, .ref q1_), (1, .int (nI n_)), (2, .ref a1_), (3, .ref r1_)]) hx hb dX6_goOn_1 hl (by decide) rfl (fun ls hl => ?_)
  have L_3 : ∀ (nF : Nat) (c1_ : Nat) (q_ : Nat) (sfc_ : Nat → Int32) (tnc_ : Nat) (plc_ : Nat → Int32) (ppc_ : Nat → Int32) (pbc_ : Nat → Int32), (c1_ + q_ = n_) → (tks f_ lw_ d_ q_ sfc_ c1_ = tks f_ lw_ d_ n_ sf_ 0) → (tnc_ = tn_ + c1_) → (sfc_ 7 = nI tnc_) → (sfc_ 2 = 0 ∨ sfc_ 2 = 1) → (sfc_ 2 = sf_ 2) → (histOK sfc_ tnc_ plc_ ppc_ pbc_) → q_ < nF → ∀ (H : Heap) (locs : List Loc), va_P D vwCl [(q1_, .inr (6, [.int (sfc_ 0), .int (sfc_ 1), .int (sfc_ 2), .int (sfc_ 3), .int (sfc_ 4), .int (sfc_ 5), .int (sfc_ 6), .int (sfc_ 9), .int (nI tnc_), .int (sfc_ 8), .ref q2_, .ref q3_, .ref q4_])), (q2_, .inl (cy 0, 6, .inl plc_)), (q3_, .inl (cy 0, 6, .inl ppc_)), (q4_, .inl (cy 0, 6, .inl pbc_)), (a1_, .inr (0, [.ref n1_])), (n1_, .inl (cy 0, 6, .inl f_)), (r1_, .inr (7, [.ref r2_, .int tb_])), (r2_, .inl (cy 0, 5, .inl lw_))] H → va_D A [(q1_, .inr (6, [.int (sfc_ 0), .int (sfc_ 1), .int (sfc_ 2), .int (sfc_ 3), .int (sfc_ 4), .int (sfc_ 5), .int (sfc_ 6), .int (sfc_ 9), .int (nI tnc_), .int (sfc_ 8), .ref q2_, .ref q3_, .ref q4_])), (q2_, .inl (cy 0, 6, .inl plc_)), (q3_, .inl (cy 0, 6, .inl ppc_)), (q4_, .inl (cy 0, 6, .inl pbc_)), (a1_, .inr (0, [.ref n1_])), (n1_, .inl (cy 0, 6, .inl f_)), (r1_, .inr (7, [.ref r2_, .int tb_])), (r2_, .inl (cy 0, 5, .inl lw_))] → va_S A s.heap H locs → ∀ (ls : Array Slot), lv_has ls 5 [(4, .int (nI c1_)), (0, .ref q1_), (1, .int (nI n_)), (2, .ref a1_), (3, .ref r1_)] → W p l e rmkX6_goOn s m args below meth c H locs 0 0 Q (F0 m 3 ls []) := by
    intro nF
    induction nF with
    | zero => intro c1_ q_ sfc_ tnc_ plc_ ppc_ pbc_ hcq hR htc h7c h2c h22 hhc hnF; exact absurd hnF (Nat.not_lt_zero _)
    | succ nF ih_3 =>
      intro c1_ q_ sfc_ tnc_ plc_ ppc_ pbc_ hcq hR htc h7c h2c h22 hhc hn_3 H locs hP hD hS ls hl
      refine lv_iload hx hb dX6_goOn_3 (lv_at hl 0 rfl) ?_
      refine lv_iload_n hx hb dX6_goOn_5 rfl (lv_at hl 2 rfl) ?_
      refine cn_ge (tgt := 28) hx hb c1_ n_ rfl rfl (by omega) (by omega) dX6_goOn_6 (by decide) (fun c_6 => ?_) (fun c_6 => ?_)
      · refine lv_iload hx hb dX6_goOn_28 (lv_at hl 0 rfl) ?_
        have hfin : tks f_ lw_ d_ n_ sf_ 0 = (c1_, sfc_) := by rw [← hR]; first | (rw [show q_ = 0 by omega]; rfl) | rw [show q_ = (q_ - 1) + 1 by omega, tks, if_neg c_13]
        have hc9 : Value.int (sfc_ 0) = Value.int (((tks f_ lw_ d_ n_ sf_ 0).2) 0) := congrArg _ (show sfc_ 0 = ((tks f_ lw_ d_ n_ sf_ 0).2) 0 from by rw [hfin])
        rw [hc9] at hP hD
        have hc9 : Value.int (sfc_ 1) = Value.int (((tks f_ lw_ d_ n_ sf_ 0).2) 1) := congrArg _ (show sfc_ 1 = ((tks f_ lw_ d_ n_ sf_ 0).2) 1 from by rw [hfin])
        rw [hc9] at hP hD
        have hc9 : Value.int (sfc_ 2) = Value.int (((tks f_ lw_ d_ n_ sf_ 0).2) 2) := congrArg _ (show sfc_ 2 = ((tks f_ lw_ d_ n_ sf_ 0).2) 2 from by rw [hfin])
        rw [hc9] at hP hD
        have hc9 : Value.int (sfc_ 3) = Value.int (((tks f_ lw_ d_ n_ sf_ 0).2) 3) := congrArg _ (show sfc_ 3 = ((tks f_ lw_ d_ n_ sf_ 0).2) 3 from by rw [hfin])
        rw [hc9] at hP hD
        have hc9 : Value.int (sfc_ 4) = Value.int (((tks f_ lw_ d_ n_ sf_ 0).2) 4) := congrArg _ (show sfc_ 4 = ((tks f_ lw_ d_ n_ sf_ 0).2) 4 from by rw [hfin])
        rw [hc9] at hP hD
        have hc9 : Value.int (sfc_ 5) = Value.int (((tks f_ lw_ d_ n_ sf_ 0).2) 5) := congrArg _ (show sfc_ 5 = ((tks f_ lw_ d_ n_ sf_ 0).2) 5 from by rw [hfin])
        rw [hc9] at hP hD
        have hc9 : Value.int (sfc_ 6) = Value.int (((tks f_ lw_ d_ n_ sf_ 0).2) 6) := congrArg _ (show sfc_ 6 = ((tks f_ lw_ d_ n_ sf_ 0).2) 6 from by rw [hfin])
        rw [hc9] at hP hD
        have hc9 : Value.int (sfc_ 9) = Value.int (((tks f_ lw_ d_ n_ sf_ 0).2) 9) := congrArg _ (show sfc_ 9 = ((tks f_ lw_ d_ n_ sf_ 0).2) 9 from by rw [hfin])
        rw [hc9] at hP hD
        have hc9 : Value.int (sfc_ 8) = Value.int (((tks f_ lw_ d_ n_ sf_ 0).2) 8) := congrArg _ (show sfc_ 8 = ((tks f_ lw_ d_ n_ sf_ 0).2) 8 from by rw [hfin])
        rw [hc9] at hP hD
        refine lv_eqi (y := nI ((tks f_ lw_ d_ n_ sf_ 0).1)) (by rw [hfin]) ?_
        exact RT _ _ (plc_, ppc_, pbc_, tnc_) H locs 30 ls (rt_i dX6_goOn_30) ⟨rfl, (by omega), (by rw [hfin]; exact h7c), (by rw [hfin]; exact hhc), (by rw [hfin]; exact h22)⟩ hP hD hS
      · refine lv_aload_n hx hb dX6_goOn_9 rfl (lv_at hl 1 rfl) ?_
        refine va_get (D := D) (ci := 6) (v := .int (sfc_ 8)) (C := RX6) (T := TX6) (N := 13) hx hb hts winX6 hown hK hP 0 rfl rfl 9 (by decide) wf40 (fun _ h9 => h9) rfl dX6_goOn_10 ?_
        refine lv_if_ne (tgt := 28) hx hb dX6_goOn_13 (by decide) (fun c_13 => ?_) (fun c_13 => ?_)
        · refine lv_iload hx hb dX6_goOn_28 (lv_at hl 0 rfl) ?_
          have hfin : tks f_ lw_ d_ n_ sf_ 0 = (c1_, sfc_) := by rw [← hR]; first | (rw [show q_ = 0 by omega]; rfl) | rw [show q_ = (q_ - 1) + 1 by omega, tks, if_neg c_13]
          have hc9 : Value.int (sfc_ 0) = Value.int (((tks f_ lw_ d_ n_ sf_ 0).2) 0) := congrArg _ (show sfc_ 0 = ((tks f_ lw_ d_ n_ sf_ 0).2) 0 from by rw [hfin])
          rw [hc9] at hP hD
          have hc9 : Value.int (sfc_ 1) = Value.int (((tks f_ lw_ d_ n_ sf_ 0).2) 1) := congrArg _ (show sfc_ 1 = ((tks f_ lw_ d_ n_ sf_ 0).2) 1 from by rw [hfin])
          rw [hc9] at hP hD
          have hc9 : Value.int (sfc_ 2) = Value.int (((tks f_ lw_ d_ n_ sf_ 0).2) 2) := congrArg _ (show sfc_ 2 = ((tks f_ lw_ d_ n_ sf_ 0).2) 2 from by rw [hfin])
          rw [hc9] at hP hD
          have hc9 : Value.int (sfc_ 3) = Value.int (((tks f_ lw_ d_ n_ sf_ 0).2) 3) := congrArg _ (show sfc_ 3 = ((tks f_ lw_ d_ n_ sf_ 0).2) 3 from by rw [hfin])
          rw [hc9] at hP hD
          have hc9 : Value.int (sfc_ 4) = Value.int (((tks f_ lw_ d_ n_ sf_ 0).2) 4) := congrArg _ (show sfc_ 4 = ((tks f_ lw_ d_ n_ sf_ 0).2) 4 from by rw [hfin])
          rw [hc9] at hP hD
          have hc9 : Value.int (sfc_ 5) = Value.int (((tks f_ lw_ d_ n_ sf_ 0).2) 5) := congrArg _ (show sfc_ 5 = ((tks f_ lw_ d_ n_ sf_ 0).2) 5 from by rw [hfin])
          rw [hc9] at hP hD
          have hc9 : Value.int (sfc_ 6) = Value.int (((tks f_ lw_ d_ n_ sf_ 0).2) 6) := congrArg _ (show sfc_ 6 = ((tks f_ lw_ d_ n_ sf_ 0).2) 6 from by rw [hfin])
          rw [hc9] at hP hD
          have hc9 : Value.int (sfc_ 9) = Value.int (((tks f_ lw_ d_ n_ sf_ 0).2) 9) := congrArg _ (show sfc_ 9 = ((tks f_ lw_ d_ n_ sf_ 0).2) 9 from by rw [hfin])
          rw [hc9] at hP hD
          have hc9 : Value.int (sfc_ 8) = Value.int (((tks f_ lw_ d_ n_ sf_ 0).2) 8) := congrArg _ (show sfc_ 8 = ((tks f_ lw_ d_ n_ sf_ 0).2) 8 from by rw [hfin])
          rw [hc9] at hP hD
          refine lv_eqi (y := nI ((tks f_ lw_ d_ n_ sf_ 0).1)) (by rw [hfin]) ?_
          exact RT _ _ (plc_, ppc_, pbc_, tnc_) H locs 30 ls (rt_i dX6_goOn_30) ⟨rfl, (by omega), (by rw [hfin]; exact h7c), (by rw [hfin]; exact hhc), (by rw [hfin]; exact h22)⟩ hP hD hS
        · refine lv_aload_n hx hb dX6_goOn_16 rfl (lv_at hl 1 rfl) ?_
          refine lv_aload_n hx hb dX6_goOn_17 rfl (lv_at hl 3 rfl) ?_
          refine lv_aload_n hx hb dX6_goOn_18 rfl (lv_at hl 4 rfl) ?_
          refine ca_V (q0 := 0) (n := 2) (rest := []) (wr := []) F hK hE hA hP hD hS hl.1 (kX6_doTick (l := l) (D := D) (cy := cy) (sa := sa) q1_ q2_ q3_ q4_ sfc_ tnc_ plc_ ppc_ pbc_ a1_ n1_ f_ r1_ r2_ lw_ tb_ d_ (by omega) (h7c) (by first | assumption | omega | decide) (by first | assumption | omega | decide) (by first | assumption | omega | decide) (h2c) (hhc) (by first | assumption | omega | decide) (by first | assumption | omega | decide) (by first | assumption | omega | decide)) gX6_goOn_X6_doTick rfl rfl rfl rfl rfl rfl (by decide +kernel) ⟨by decide, by decide⟩ [0, 1, 2, 3, 4, 5, 6, 7] [] rfl rfl rfl rfl (by decide) rfl rfl (Nat.le_of_ble_eq_true rfl) dX6_goOn_19 ⟨by decide, by decide⟩ (fun v9 u9 H locs hv hP hD hS => ?_)
          subst hv
          obtain ⟨hP, hD⟩ := re_ws (ws' := [(q1_, .inr (6, [.int ((tickF f_ lw_ sfc_ d_) 0), .int ((tickF f_ lw_ sfc_ d_) 1), .int ((tickF f_ lw_ sfc_ d_) 2), .int ((tickF f_ lw_ sfc_ d_) 3), .int ((tickF f_ lw_ sfc_ d_) 4), .int ((tickF f_ lw_ sfc_ d_) 5), .int ((tickF f_ lw_ sfc_ d_) 6), .int ((tickF f_ lw_ sfc_ d_) 9), .int (nI (tnc_ + 1)), .int ((tickF f_ lw_ sfc_ d_) 8), .ref q2_, .ref q3_, .ref q4_])), (q2_, .inl (cy 0, 6, .inl (upd plc_ (tnc_ % 6) (sfc_ 3)))), (q3_, .inl (cy 0, 6, .inl (upd ppc_ (tnc_ % 6) (sfc_ 5)))), (q4_, .inl (cy 0, 6, .inl (upd pbc_ (tnc_ % 6) (sfc_ 4)))), (a1_, .inr (0, [.ref n1_])), (n1_, .inl (cy 0, 6, .inl f_)), (r1_, .inr (7, [.ref r2_, .int tb_])), (r2_, .inl (cy 0, 5, .inl lw_))]) hP hD [0, 1, 2, 3, 4, 5, 6, 7] rfl rfl
          refine W.eq (g2 := F0 m 22 ls []) rfl ?_
          refine lv_iinc (v := nI (c1_ + 1)) (lv' := [(4, .int (nI (c1_ + 1))), (0, .ref q1_), (1, .int (nI n_)), (2, .ref a1_), (3, .ref r1_)]) hx hb dX6_goOn_22 hl (k := 0) rfl (nI_add c1_ 1) (by decide) rfl (fun ls hl => ?_)
          refine lv_goto (tgt := 3) hx hb dX6_goOn_25 (by decide) ?_
          exact ih_3 (c1_ + 1) (q_ - 1) (tickF f_ lw_ sfc_ d_) (tnc_ + 1) (upd plc_ (tnc_ % 6) (sfc_ 3)) (upd ppc_ (tnc_ % 6) (sfc_ 5)) (upd pbc_ (tnc_ % 6) (sfc_ 4)) (by first | assumption | omega | decide) (by rw [show q_ = (q_ - 1) + 1 by omega, tks, if_pos c_13] at hR; exact hR) (by first | assumption | omega | decide) (by rw [tickF_7, h7c, nI_1]) (h2c) (h22) (hist_tick hhc) (by omega) H locs hP hD hS ls (lv_sub hl [0, 1, 2, 3, 4] rfl)
  exact L_3 _ 0 n_ sf_ tn_ pl_ pp_ pb_ (Nat.zero_add _) (rfl) (rfl) (h7) (h2) (rfl) (hh) (Nat.lt_succ_self _) H locs hP hD hS ls (lv_sub hl [0, 1, 2, 3, 4] rfl)
abbrev rmkX6_copyFrom : Room := { frames := 1, cells := 0, slots := 0, locals := 40 }
set_option maxHeartbeats 4000000 in
set_option maxRecDepth 100000 in
theorem kX6_copyFrom {l : Launch} {D : va_G} {cy : Nat → ClassId} {sa : Nat → Nat} (q1_ : Nat) (q2_ : Nat) (q3_ : Nat) (q4_ : Nat) (rb_ : Int32) (rs_ : Int32) (rr_ : Int32) (rl_ : Int32) (ra_ : Int32) (rp_ : Int32) (rq_ : Int32) (rh_ : Int32) (rt_ : Int32) (rz_ : Int32) (pl_ : Nat → Int32) (pp_ : Nat → Int32) (pb_ : Nat → Int32) (w1_ : Nat) (w2_ : Nat) (w3_ : Nat) (w4_ : Nat) (sg_ : Nat → Int32) (tm_ : Nat) (ql_ : Nat → Int32) (qp_ : Nat → Int32) (qb_ : Nat → Int32) (h2 : sg_ 2 = 0 ∨ sg_ 2 = 1) (h8 : sg_ 8 = 0 ∨ sg_ 8 = 1) : CD l D cy sa yX6_copyFrom wsX6_copyFrom rmkX6_copyFrom [.ref q1_, .ref w1_] [(q1_, .inr (6, [.int rb_, .int rs_, .int rr_, .int rl_, .int ra_, .int rp_, .int rq_, .int rh_, .int rt_, .int rz_, .ref q2_, .ref q3_, .ref q4_])), (q2_, .inl (cy 0, 6, .inl pl_)), (q3_, .inl (cy 0, 6, .inl pp_)), (q4_, .inl (cy 0, 6, .inl pb_)), (w1_, .inr (6, [.int (sg_ 0), .int (sg_ 1), .int (sg_ 2), .int (sg_ 3), .int (sg_ 4), .int (sg_ 5), .int (sg_ 6), .int (sg_ 9), .int (nI tm_), .int (sg_ 8), .ref w2_, .ref w3_, .ref w4_])), (w2_, .inl (cy 0, 6, .inl ql_)), (w3_, .inl (cy 0, 6, .inl qp_)), (w4_, .inl (cy 0, 6, .inl qb_))] (none) [(q1_, .inr (6, [.int (sg_ 0), .int (sg_ 1), .int (sg_ 2), .int (sg_ 3), .int (sg_ 4), .int (sg_ 5), .int (sg_ 6), .int (sg_ 9), .int (nI tm_), .int (sg_ 8), .ref q2_, .ref q3_, .ref q4_])), (q2_, .inl (cy 0, 6, .inl ql_)), (q3_, .inl (cy 0, 6, .inl qp_)), (q4_, .inl (cy 0, 6, .inl qb_)), (w1_, .inr (6, [.int (sg_ 0), .int (sg_ 1), .int (sg_ 2), .int (sg_ 3), .int (sg_ 4), .int (sg_ 5), .int (sg_ 6), .int (sg_ 9), .int (nI tm_), .int (sg_ 8), .ref w2_, .ref w3_, .ref w4_])), (w2_, .inl (cy 0, 6, .inl ql_)), (w3_, .inl (cy 0, 6, .inl qp_)), (w4_, .inl (cy 0, 6, .inl qb_))] := by
  refine CT.of cX6_copyFrom 2 none (by decide +kernel) rfl (Nat.le_of_ble_eq_true rfl) ?_
  intro p e s m args below meth c A Q ls F hmn hK hE hA hP hD hS hl RT
  obtain ⟨hx, hb, hml, hown, hts⟩ := id F
  have winX6 : ∀ w ∈ u_ws RX6 TX6 13, w ∈ wsX6_copyFrom := by decide +kernel
  have wf9 := hts (.fieldLink RX6 9 "SelfSteer$Ride" "bicycle" "I") (by decide +kernel)
  have wf15 := hts (.fieldLink RX6 15 "SelfSteer$Ride" "speed" "I") (by decide +kernel)
  have wf18 := hts (.fieldLink RX6 18 "SelfSteer$Ride" "reversed" "Z") (by decide +kernel)
  have wf22 := hts (.fieldLink RX6 22 "SelfSteer$Ride" "lean" "I") (by decide +kernel)
  have wf25 := hts (.fieldLink RX6 25 "SelfSteer$Ride" "bar" "I") (by decide +kernel)
  have wf28 := hts (.fieldLink RX6 28 "SelfSteer$Ride" "leanChange" "I") (by decide +kernel)
  have wf31 := hts (.fieldLink RX6 31 "SelfSteer$Ride" "barChange" "I") (by decide +kernel)
  have wf34 := hts (.fieldLink RX6 34 "SelfSteer$Ride" "hand" "I") (by decide +kernel)
  have wf37 := hts (.fieldLink RX6 37 "SelfSteer$Ride" "ticks" "I") (by decide +kernel)
  have wf40 := hts (.fieldLink RX6 40 "SelfSteer$Ride" "lies" "Z") (by decide +kernel)
  have wf43 := hts (.fieldLink RX6 43 "SelfSteer$Ride" "pastLean" "[I") (by decide +kernel)
  have wm53 := hts (.methodLink RX6 53 arraycopyName) (by decide +kernel)
  have wcn := hts (.native arraycopyName) (by decide +kernel)
  have wcs := hts (.static arraycopyName) (by decide +kernel)
  have wci := hts (.initialized "java/lang/System") (by decide +kernel)
  have wf47 := hts (.fieldLink RX6 47 "SelfSteer$Ride" "pastLeanChange" "[I") (by decide +kernel)
  have wf50 := hts (.fieldLink RX6 50 "SelfSteer$Ride" "pastBar" "[I") (by decide +kernel)
  have hl : lv_has ls 2 [(0, .ref q1_), (1, .ref w1_)] := hl
  have hP : va_P D vwCl [(q1_, .inr (6, [.int rb_, .int rs_, .int rr_, .int rl_, .int ra_, .int rp_, .int rq_, .int rh_, .int rt_, .int rz_, .ref q2_, .ref q3_, .ref q4_])), (q2_, .inl (cy 0, 6, .inl pl_)), (q3_, .inl (cy 0, 6, .inl pp_)), (q4_, .inl (cy 0, 6, .inl pb_)), (w1_, .inr (6, [.int (sg_ 0), .int (sg_ 1), .int (sg_ 2), .int (sg_ 3), .int (sg_ 4), .int (sg_ 5), .int (sg_ 6), .int (sg_ 9), .int (nI tm_), .int (sg_ 8), .ref w2_, .ref w3_, .ref w4_])), (w2_, .inl (cy 0, 6, .inl ql_)), (w3_, .inl (cy 0, 6, .inl qp_)), (w4_, .inl (cy 0, 6, .inl qb_))] s.heap := hP
  have hD : va_D A [(q1_, .inr (6, [.int rb_, .int rs_, .int rr_, .int rl_, .int ra_, .int rp_, .int rq_, .int rh_, .int rt_, .int rz_, .ref q2_, .ref q3_, .ref q4_])), (q2_, .inl (cy 0, 6, .inl pl_)), (q3_, .inl (cy 0, 6, .inl pp_)), (q4_, .inl (cy 0, 6, .inl pb_)), (w1_, .inr (6, [.int (sg_ 0), .int (sg_ 1), .int (sg_ 2), .int (sg_ 3), .int (sg_ 4), .int (sg_ 5), .int (sg_ 6), .int (sg_ 9), .int (nI tm_), .int (sg_ 8), .ref w2_, .ref w3_, .ref w4_])), (w2_, .inl (cy 0, 6, .inl ql_)), (w3_, .inl (cy 0, 6, .inl qp_)), (w4_, .inl (cy 0, 6, .inl qb_))] := hD
  obtain ⟨H, hH⟩ : ∃ H0 : Heap, H0 = s.heap := ⟨_, rfl⟩
  obtain ⟨locs, hlo⟩ : ∃ L0 : List Loc, L0 = [] := ⟨_, rfl⟩
  have hS : va_S A s.heap H locs := by rw [hH, hlo]; exact hS
  rw [← hH] at hP
  show W p l e rmkX6_copyFrom s m args below meth c s.heap [] 0 0 Q (F0 m 0 ls [])
  suffices hgo : W p l e rmkX6_copyFrom s m args below meth c H locs 0 0 Q (F0 m 0 ls []) by rw [hH, hlo] at hgo; exact hgo
  clear hH hlo
  refine lv_aload_n hx hb dX6_copyFrom_0 rfl (lv_at hl 0 rfl) ?_
  refine lv_aload_n hx hb dX6_copyFrom_1 rfl (lv_at hl 1 rfl) ?_
  refine va_get (D := D) (ci := 6) (v := .int (sg_ 0)) (C := RX6) (T := TX6) (N := 13) hx hb hts winX6 hown hK hP 4 rfl rfl 0 (by decide) wf9 (fun _ h9 => h9) rfl dX6_copyFrom_2 ?_
  refine va_put (D := D) (ci := 6) (v := .int (sg_ 0)) (ty := .int) (C := RX6) (T := TX6) (N := 13) hx hb hts winX6 tyX6 tyX6_ok nmX6 hown hK hP hD hS 0 rfl rfl 0 (by decide) wf9 (fun _ h9 => h9) rfl (by decide +kernel) (rfl) (rfl) (Nat.le_of_ble_eq_true rfl) dX6_copyFrom_5 (fun H locs hP hD hS => ?_)
  have hP : va_P D vwCl [(q1_, .inr (6, [.int (sg_ 0), .int rs_, .int rr_, .int rl_, .int ra_, .int rp_, .int rq_, .int rh_, .int rt_, .int rz_, .ref q2_, .ref q3_, .ref q4_])), (q2_, .inl (cy 0, 6, .inl pl_)), (q3_, .inl (cy 0, 6, .inl pp_)), (q4_, .inl (cy 0, 6, .inl pb_)), (w1_, .inr (6, [.int (sg_ 0), .int (sg_ 1), .int (sg_ 2), .int (sg_ 3), .int (sg_ 4), .int (sg_ 5), .int (sg_ 6), .int (sg_ 9), .int (nI tm_), .int (sg_ 8), .ref w2_, .ref w3_, .ref w4_])), (w2_, .inl (cy 0, 6, .inl ql_)), (w3_, .inl (cy 0, 6, .inl qp_)), (w4_, .inl (cy 0, 6, .inl qb_))] H := hP
  have hD : va_D A [(q1_, .inr (6, [.int (sg_ 0), .int rs_, .int rr_, .int rl_, .int ra_, .int rp_, .int rq_, .int rh_, .int rt_, .int rz_, .ref q2_, .ref q3_, .ref q4_])), (q2_, .inl (cy 0, 6, .inl pl_)), (q3_, .inl (cy 0, 6, .inl pp_)), (q4_, .inl (cy 0, 6, .inl pb_)), (w1_, .inr (6, [.int (sg_ 0), .int (sg_ 1), .int (sg_ 2), .int (sg_ 3), .int (sg_ 4), .int (sg_ 5), .int (sg_ 6), .int (sg_ 9), .int (nI tm_), .int (sg_ 8), .ref w2_, .ref w3_, .ref w4_])), (w2_, .inl (cy 0, 6, .inl ql_)), (w3_, .inl (cy 0, 6, .inl qp_)), (w4_, .inl (cy 0, 6, .inl qb_))] := hD
  refine lv_aload_n hx hb dX6_copyFrom_8 rfl (lv_at hl 0 rfl) ?_
  refine lv_aload_n hx hb dX6_copyFrom_9 rfl (lv_at hl 1 rfl) ?_
  refine va_get (D := D) (ci := 6) (v := .int (sg_ 1)) (C := RX6) (T := TX6) (N := 13) hx hb hts winX6 hown hK hP 4 rfl rfl 1 (by decide) wf15 (fun _ h9 => h9) rfl dX6_copyFrom_10 ?_
  refine va_put (D := D) (ci := 6) (v := .int (sg_ 1)) (ty := .int) (C := RX6) (T := TX6) (N := 13) hx hb hts winX6 tyX6 tyX6_ok nmX6 hown hK hP hD hS 0 rfl rfl 1 (by decide) wf15 (fun _ h9 => h9) rfl (by decide +kernel) (rfl) (rfl) (Nat.le_of_ble_eq_true rfl) dX6_copyFrom_13 (fun H locs hP hD hS => ?_)
  have hP : va_P D vwCl [(q1_, .inr (6, [.int (sg_ 0), .int (sg_ 1), .int rr_, .int rl_, .int ra_, .int rp_, .int rq_, .int rh_, .int rt_, .int rz_, .ref q2_, .ref q3_, .ref q4_])), (q2_, .inl (cy 0, 6, .inl pl_)), (q3_, .inl (cy 0, 6, .inl pp_)), (q4_, .inl (cy 0, 6, .inl pb_)), (w1_, .inr (6, [.int (sg_ 0), .int (sg_ 1), .int (sg_ 2), .int (sg_ 3), .int (sg_ 4), .int (sg_ 5), .int (sg_ 6), .int (sg_ 9), .int (nI tm_), .int (sg_ 8), .ref w2_, .ref w3_, .ref w4_])), (w2_, .inl (cy 0, 6, .inl ql_)), (w3_, .inl (cy 0, 6, .inl qp_)), (w4_, .inl (cy 0, 6, .inl qb_))] H := hP
  have hD : va_D A [(q1_, .inr (6, [.int (sg_ 0), .int (sg_ 1), .int rr_, .int rl_, .int ra_, .int rp_, .int rq_, .int rh_, .int rt_, .int rz_, .ref q2_, .ref q3_, .ref q4_])), (q2_, .inl (cy 0, 6, .inl pl_)), (q3_, .inl (cy 0, 6, .inl pp_)), (q4_, .inl (cy 0, 6, .inl pb_)), (w1_, .inr (6, [.int (sg_ 0), .int (sg_ 1), .int (sg_ 2), .int (sg_ 3), .int (sg_ 4), .int (sg_ 5), .int (sg_ 6), .int (sg_ 9), .int (nI tm_), .int (sg_ 8), .ref w2_, .ref w3_, .ref w4_])), (w2_, .inl (cy 0, 6, .inl ql_)), (w3_, .inl (cy 0, 6, .inl qp_)), (w4_, .inl (cy 0, 6, .inl qb_))] := hD
  refine lv_aload_n hx hb dX6_copyFrom_16 rfl (lv_at hl 0 rfl) ?_
  refine lv_aload_n hx hb dX6_copyFrom_17 rfl (lv_at hl 1 rfl) ?_
  refine va_get (D := D) (ci := 6) (v := .int (sg_ 2)) (C := RX6) (T := TX6) (N := 13) hx hb hts winX6 hown hK hP 4 rfl rfl 2 (by decide) wf18 (fun _ h9 => h9) rfl dX6_copyFrom_18 ?_
  refine va_put (D := D) (ci := 6) (v := .int (sg_ 2)) (ty := .boolean) (C := RX6) (T := TX6) (N := 13) hx hb hts winX6 tyX6 tyX6_ok nmX6 hown hK hP hD hS 0 rfl rfl 2 (by decide) wf18 (fun _ h9 => h9) rfl (by decide +kernel) (b01_nar h2) (b01_fit h2) (Nat.le_of_ble_eq_true rfl) dX6_copyFrom_21 (fun H locs hP hD hS => ?_)
  have hP : va_P D vwCl [(q1_, .inr (6, [.int (sg_ 0), .int (sg_ 1), .int (sg_ 2), .int rl_, .int ra_, .int rp_, .int rq_, .int rh_, .int rt_, .int rz_, .ref q2_, .ref q3_, .ref q4_])), (q2_, .inl (cy 0, 6, .inl pl_)), (q3_, .inl (cy 0, 6, .inl pp_)), (q4_, .inl (cy 0, 6, .inl pb_)), (w1_, .inr (6, [.int (sg_ 0), .int (sg_ 1), .int (sg_ 2), .int (sg_ 3), .int (sg_ 4), .int (sg_ 5), .int (sg_ 6), .int (sg_ 9), .int (nI tm_), .int (sg_ 8), .ref w2_, .ref w3_, .ref w4_])), (w2_, .inl (cy 0, 6, .inl ql_)), (w3_, .inl (cy 0, 6, .inl qp_)), (w4_, .inl (cy 0, 6, .inl qb_))] H := hP
  have hD : va_D A [(q1_, .inr (6, [.int (sg_ 0), .int (sg_ 1), .int (sg_ 2), .int rl_, .int ra_, .int rp_, .int rq_, .int rh_, .int rt_, .int rz_, .ref q2_, .ref q3_, .ref q4_])), (q2_, .inl (cy 0, 6, .inl pl_)), (q3_, .inl (cy 0, 6, .inl pp_)), (q4_, .inl (cy 0, 6, .inl pb_)), (w1_, .inr (6, [.int (sg_ 0), .int (sg_ 1), .int (sg_ 2), .int (sg_ 3), .int (sg_ 4), .int (sg_ 5), .int (sg_ 6), .int (sg_ 9), .int (nI tm_), .int (sg_ 8), .ref w2_, .ref w3_, .ref w4_])), (w2_, .inl (cy 0, 6, .inl ql_)), (w3_, .inl (cy 0, 6, .inl qp_)), (w4_, .inl (cy 0, 6, .inl qb_))] := hD
  refine lv_aload_n hx hb dX6_copyFrom_24 rfl (lv_at hl 0 rfl) ?_
  refine lv_aload_n hx hb dX6_copyFrom_25 rfl (lv_at hl 1 rfl) ?_
  refine va_get (D := D) (ci := 6) (v := .int (sg_ 3)) (C := RX6) (T := TX6) (N := 13) hx hb hts winX6 hown hK hP 4 rfl rfl 3 (by decide) wf22 (fun _ h9 => h9) rfl dX6_copyFrom_26 ?_
  refine va_put (D := D) (ci := 6) (v := .int (sg_ 3)) (ty := .int) (C := RX6) (T := TX6) (N := 13) hx hb hts winX6 tyX6 tyX6_ok nmX6 hown hK hP hD hS 0 rfl rfl 3 (by decide) wf22 (fun _ h9 => h9) rfl (by decide +kernel) (rfl) (rfl) (Nat.le_of_ble_eq_true rfl) dX6_copyFrom_29 (fun H locs hP hD hS => ?_)
  have hP : va_P D vwCl [(q1_, .inr (6, [.int (sg_ 0), .int (sg_ 1), .int (sg_ 2), .int (sg_ 3), .int ra_, .int rp_, .int rq_, .int rh_, .int rt_, .int rz_, .ref q2_, .ref q3_, .ref q4_])), (q2_, .inl (cy 0, 6, .inl pl_)), (q3_, .inl (cy 0, 6, .inl pp_)), (q4_, .inl (cy 0, 6, .inl pb_)), (w1_, .inr (6, [.int (sg_ 0), .int (sg_ 1), .int (sg_ 2), .int (sg_ 3), .int (sg_ 4), .int (sg_ 5), .int (sg_ 6), .int (sg_ 9), .int (nI tm_), .int (sg_ 8), .ref w2_, .ref w3_, .ref w4_])), (w2_, .inl (cy 0, 6, .inl ql_)), (w3_, .inl (cy 0, 6, .inl qp_)), (w4_, .inl (cy 0, 6, .inl qb_))] H := hP
  have hD : va_D A [(q1_, .inr (6, [.int (sg_ 0), .int (sg_ 1), .int (sg_ 2), .int (sg_ 3), .int ra_, .int rp_, .int rq_, .int rh_, .int rt_, .int rz_, .ref q2_, .ref q3_, .ref q4_])), (q2_, .inl (cy 0, 6, .inl pl_)), (q3_, .inl (cy 0, 6, .inl pp_)), (q4_, .inl (cy 0, 6, .inl pb_)), (w1_, .inr (6, [.int (sg_ 0), .int (sg_ 1), .int (sg_ 2), .int (sg_ 3), .int (sg_ 4), .int (sg_ 5), .int (sg_ 6), .int (sg_ 9), .int (nI tm_), .int (sg_ 8), .ref w2_, .ref w3_, .ref w4_])), (w2_, .inl (cy 0, 6, .inl ql_)), (w3_, .inl (cy 0, 6, .inl qp_)), (w4_, .inl (cy 0, 6, .inl qb_))] := hD
  refine lv_aload_n hx hb dX6_copyFrom_32 rfl (lv_at hl 0 rfl) ?_
  refine lv_aload_n hx hb dX6_copyFrom_33 rfl (lv_at hl 1 rfl) ?_
  refine va_get (D := D) (ci := 6) (v := .int (sg_ 4)) (C := RX6) (T := TX6) (N := 13) hx hb hts winX6 hown hK hP 4 rfl rfl 4 (by decide) wf25 (fun _ h9 => h9) rfl dX6_copyFrom_34 ?_
  refine va_put (D := D) (ci := 6) (v := .int (sg_ 4)) (ty := .int) (C := RX6) (T := TX6) (N := 13) hx hb hts winX6 tyX6 tyX6_ok nmX6 hown hK hP hD hS 0 rfl rfl 4 (by decide) wf25 (fun _ h9 => h9) rfl (by decide +kernel) (rfl) (rfl) (Nat.le_of_ble_eq_true rfl) dX6_copyFrom_37 (fun H locs hP hD hS => ?_)
  have hP : va_P D vwCl [(q1_, .inr (6, [.int (sg_ 0), .int (sg_ 1), .int (sg_ 2), .int (sg_ 3), .int (sg_ 4), .int rp_, .int rq_, .int rh_, .int rt_, .int rz_, .ref q2_, .ref q3_, .ref q4_])), (q2_, .inl (cy 0, 6, .inl pl_)), (q3_, .inl (cy 0, 6, .inl pp_)), (q4_, .inl (cy 0, 6, .inl pb_)), (w1_, .inr (6, [.int (sg_ 0), .int (sg_ 1), .int (sg_ 2), .int (sg_ 3), .int (sg_ 4), .int (sg_ 5), .int (sg_ 6), .int (sg_ 9), .int (nI tm_), .int (sg_ 8), .ref w2_, .ref w3_, .ref w4_])), (w2_, .inl (cy 0, 6, .inl ql_)), (w3_, .inl (cy 0, 6, .inl qp_)), (w4_, .inl (cy 0, 6, .inl qb_))] H := hP
  have hD : va_D A [(q1_, .inr (6, [.int (sg_ 0), .int (sg_ 1), .int (sg_ 2), .int (sg_ 3), .int (sg_ 4), .int rp_, .int rq_, .int rh_, .int rt_, .int rz_, .ref q2_, .ref q3_, .ref q4_])), (q2_, .inl (cy 0, 6, .inl pl_)), (q3_, .inl (cy 0, 6, .inl pp_)), (q4_, .inl (cy 0, 6, .inl pb_)), (w1_, .inr (6, [.int (sg_ 0), .int (sg_ 1), .int (sg_ 2), .int (sg_ 3), .int (sg_ 4), .int (sg_ 5), .int (sg_ 6), .int (sg_ 9), .int (nI tm_), .int (sg_ 8), .ref w2_, .ref w3_, .ref w4_])), (w2_, .inl (cy 0, 6, .inl ql_)), (w3_, .inl (cy 0, 6, .inl qp_)), (w4_, .inl (cy 0, 6, .inl qb_))] := hD
  refine lv_aload_n hx hb dX6_copyFrom_40 rfl (lv_at hl 0 rfl) ?_
  refine lv_aload_n hx hb dX6_copyFrom_41 rfl (lv_at hl 1 rfl) ?_
  refine va_get (D := D) (ci := 6) (v := .int (sg_ 5)) (C := RX6) (T := TX6) (N := 13) hx hb hts winX6 hown hK hP 4 rfl rfl 5 (by decide) wf28 (fun _ h9 => h9) rfl dX6_copyFrom_42 ?_
  refine va_put (D := D) (ci := 6) (v := .int (sg_ 5)) (ty := .int) (C := RX6) (T := TX6) (N := 13) hx hb hts winX6 tyX6 tyX6_ok nmX6 hown hK hP hD hS 0 rfl rfl 5 (by decide) wf28 (fun _ h9 => h9) rfl (by decide +kernel) (rfl) (rfl) (Nat.le_of_ble_eq_true rfl) dX6_copyFrom_45 (fun H locs hP hD hS => ?_)
  have hP : va_P D vwCl [(q1_, .inr (6, [.int (sg_ 0), .int (sg_ 1), .int (sg_ 2), .int (sg_ 3), .int (sg_ 4), .int (sg_ 5), .int rq_, .int rh_, .int rt_, .int rz_, .ref q2_, .ref q3_, .ref q4_])), (q2_, .inl (cy 0, 6, .inl pl_)), (q3_, .inl (cy 0, 6, .inl pp_)), (q4_, .inl (cy 0, 6, .inl pb_)), (w1_, .inr (6, [.int (sg_ 0), .int (sg_ 1), .int (sg_ 2), .int (sg_ 3), .int (sg_ 4), .int (sg_ 5), .int (sg_ 6), .int (sg_ 9), .int (nI tm_), .int (sg_ 8), .ref w2_, .ref w3_, .ref w4_])), (w2_, .inl (cy 0, 6, .inl ql_)), (w3_, .inl (cy 0, 6, .inl qp_)), (w4_, .inl (cy 0, 6, .inl qb_))] H := hP
  have hD : va_D A [(q1_, .inr (6, [.int (sg_ 0), .int (sg_ 1), .int (sg_ 2), .int (sg_ 3), .int (sg_ 4), .int (sg_ 5), .int rq_, .int rh_, .int rt_, .int rz_, .ref q2_, .ref q3_, .ref q4_])), (q2_, .inl (cy 0, 6, .inl pl_)), (q3_, .inl (cy 0, 6, .inl pp_)), (q4_, .inl (cy 0, 6, .inl pb_)), (w1_, .inr (6, [.int (sg_ 0), .int (sg_ 1), .int (sg_ 2), .int (sg_ 3), .int (sg_ 4), .int (sg_ 5), .int (sg_ 6), .int (sg_ 9), .int (nI tm_), .int (sg_ 8), .ref w2_, .ref w3_, .ref w4_])), (w2_, .inl (cy 0, 6, .inl ql_)), (w3_, .inl (cy 0, 6, .inl qp_)), (w4_, .inl (cy 0, 6, .inl qb_))] := hD
  refine lv_aload_n hx hb dX6_copyFrom_48 rfl (lv_at hl 0 rfl) ?_
  refine lv_aload_n hx hb dX6_copyFrom_49 rfl (lv_at hl 1 rfl) ?_
  refine va_get (D := D) (ci := 6) (v := .int (sg_ 6)) (C := RX6) (T := TX6) (N := 13) hx hb hts winX6 hown hK hP 4 rfl rfl 6 (by decide) wf31 (fun _ h9 => h9) rfl dX6_copyFrom_50 ?_
  refine va_put (D := D) (ci := 6) (v := .int (sg_ 6)) (ty := .int) (C := RX6) (T := TX6) (N := 13) hx hb hts winX6 tyX6 tyX6_ok nmX6 hown hK hP hD hS 0 rfl rfl 6 (by decide) wf31 (fun _ h9 => h9) rfl (by decide +kernel) (rfl) (rfl) (Nat.le_of_ble_eq_true rfl) dX6_copyFrom_53 (fun H locs hP hD hS => ?_)
  have hP : va_P D vwCl [(q1_, .inr (6, [.int (sg_ 0), .int (sg_ 1), .int (sg_ 2), .int (sg_ 3), .int (sg_ 4), .int (sg_ 5), .int (sg_ 6), .int rh_, .int rt_, .int rz_, .ref q2_, .ref q3_, .ref q4_])), (q2_, .inl (cy 0, 6, .inl pl_)), (q3_, .inl (cy 0, 6, .inl pp_)), (q4_, .inl (cy 0, 6, .inl pb_)), (w1_, .inr (6, [.int (sg_ 0), .int (sg_ 1), .int (sg_ 2), .int (sg_ 3), .int (sg_ 4), .int (sg_ 5), .int (sg_ 6), .int (sg_ 9), .int (nI tm_), .int (sg_ 8), .ref w2_, .ref w3_, .ref w4_])), (w2_, .inl (cy 0, 6, .inl ql_)), (w3_, .inl (cy 0, 6, .inl qp_)), (w4_, .inl (cy 0, 6, .inl qb_))] H := hP
  have hD : va_D A [(q1_, .inr (6, [.int (sg_ 0), .int (sg_ 1), .int (sg_ 2), .int (sg_ 3), .int (sg_ 4), .int (sg_ 5), .int (sg_ 6), .int rh_, .int rt_, .int rz_, .ref q2_, .ref q3_, .ref q4_])), (q2_, .inl (cy 0, 6, .inl pl_)), (q3_, .inl (cy 0, 6, .inl pp_)), (q4_, .inl (cy 0, 6, .inl pb_)), (w1_, .inr (6, [.int (sg_ 0), .int (sg_ 1), .int (sg_ 2), .int (sg_ 3), .int (sg_ 4), .int (sg_ 5), .int (sg_ 6), .int (sg_ 9), .int (nI tm_), .int (sg_ 8), .ref w2_, .ref w3_, .ref w4_])), (w2_, .inl (cy 0, 6, .inl ql_)), (w3_, .inl (cy 0, 6, .inl qp_)), (w4_, .inl (cy 0, 6, .inl qb_))] := hD
  refine lv_aload_n hx hb dX6_copyFrom_56 rfl (lv_at hl 0 rfl) ?_
  refine lv_aload_n hx hb dX6_copyFrom_57 rfl (lv_at hl 1 rfl) ?_
  refine va_get (D := D) (ci := 6) (v := .int (sg_ 9)) (C := RX6) (T := TX6) (N := 13) hx hb hts winX6 hown hK hP 4 rfl rfl 7 (by decide) wf34 (fun _ h9 => h9) rfl dX6_copyFrom_58 ?_
  refine va_put (D := D) (ci := 6) (v := .int (sg_ 9)) (ty := .int) (C := RX6) (T := TX6) (N := 13) hx hb hts winX6 tyX6 tyX6_ok nmX6 hown hK hP hD hS 0 rfl rfl 7 (by decide) wf34 (fun _ h9 => h9) rfl (by decide +kernel) (rfl) (rfl) (Nat.le_of_ble_eq_true rfl) dX6_copyFrom_61 (fun H locs hP hD hS => ?_)
  have hP : va_P D vwCl [(q1_, .inr (6, [.int (sg_ 0), .int (sg_ 1), .int (sg_ 2), .int (sg_ 3), .int (sg_ 4), .int (sg_ 5), .int (sg_ 6), .int (sg_ 9), .int rt_, .int rz_, .ref q2_, .ref q3_, .ref q4_])), (q2_, .inl (cy 0, 6, .inl pl_)), (q3_, .inl (cy 0, 6, .inl pp_)), (q4_, .inl (cy 0, 6, .inl pb_)), (w1_, .inr (6, [.int (sg_ 0), .int (sg_ 1), .int (sg_ 2), .int (sg_ 3), .int (sg_ 4), .int (sg_ 5), .int (sg_ 6), .int (sg_ 9), .int (nI tm_), .int (sg_ 8), .ref w2_, .ref w3_, .ref w4_])), (w2_, .inl (cy 0, 6, .inl ql_)), (w3_, .inl (cy 0, 6, .inl qp_)), (w4_, .inl (cy 0, 6, .inl qb_))] H := hP
  have hD : va_D A [(q1_, .inr (6, [.int (sg_ 0), .int (sg_ 1), .int (sg_ 2), .int (sg_ 3), .int (sg_ 4), .int (sg_ 5), .int (sg_ 6), .int (sg_ 9), .int rt_, .int rz_, .ref q2_, .ref q3_, .ref q4_])), (q2_, .inl (cy 0, 6, .inl pl_)), (q3_, .inl (cy 0, 6, .inl pp_)), (q4_, .inl (cy 0, 6, .inl pb_)), (w1_, .inr (6, [.int (sg_ 0), .int (sg_ 1), .int (sg_ 2), .int (sg_ 3), .int (sg_ 4), .int (sg_ 5), .int (sg_ 6), .int (sg_ 9), .int (nI tm_), .int (sg_ 8), .ref w2_, .ref w3_, .ref w4_])), (w2_, .inl (cy 0, 6, .inl ql_)), (w3_, .inl (cy 0, 6, .inl qp_)), (w4_, .inl (cy 0, 6, .inl qb_))] := hD
  refine lv_aload_n hx hb dX6_copyFrom_64 rfl (lv_at hl 0 rfl) ?_
  refine lv_aload_n hx hb dX6_copyFrom_65 rfl (lv_at hl 1 rfl) ?_
  refine va_get (D := D) (ci := 6) (v := .int (nI tm_)) (C := RX6) (T := TX6) (N := 13) hx hb hts winX6 hown hK hP 4 rfl rfl 8 (by decide) wf37 (fun _ h9 => h9) rfl dX6_copyFrom_66 ?_
  refine va_put (D := D) (ci := 6) (v := .int (nI tm_)) (ty := .int) (C := RX6) (T := TX6) (N := 13) hx hb hts winX6 tyX6 tyX6_ok nmX6 hown hK hP hD hS 0 rfl rfl 8 (by decide) wf37 (fun _ h9 => h9) rfl (by decide +kernel) (rfl) (rfl) (Nat.le_of_ble_eq_true rfl) dX6_copyFrom_69 (fun H locs hP hD hS => ?_)
  have hP : va_P D vwCl [(q1_, .inr (6, [.int (sg_ 0), .int (sg_ 1), .int (sg_ 2), .int (sg_ 3), .int (sg_ 4), .int (sg_ 5), .int (sg_ 6), .int (sg_ 9), .int (nI tm_), .int rz_, .ref q2_, .ref q3_, .ref q4_])), (q2_, .inl (cy 0, 6, .inl pl_)), (q3_, .inl (cy 0, 6, .inl pp_)), (q4_, .inl (cy 0, 6, .inl pb_)), (w1_, .inr (6, [.int (sg_ 0), .int (sg_ 1), .int (sg_ 2), .int (sg_ 3), .int (sg_ 4), .int (sg_ 5), .int (sg_ 6), .int (sg_ 9), .int (nI tm_), .int (sg_ 8), .ref w2_, .ref w3_, .ref w4_])), (w2_, .inl (cy 0, 6, .inl ql_)), (w3_, .inl (cy 0, 6, .inl qp_)), (w4_, .inl (cy 0, 6, .inl qb_))] H := hP
  have hD : va_D A [(q1_, .inr (6, [.int (sg_ 0), .int (sg_ 1), .int (sg_ 2), .int (sg_ 3), .int (sg_ 4), .int (sg_ 5), .int (sg_ 6), .int (sg_ 9), .int (nI tm_), .int rz_, .ref q2_, .ref q3_, .ref q4_])), (q2_, .inl (cy 0, 6, .inl pl_)), (q3_, .inl (cy 0, 6, .inl pp_)), (q4_, .inl (cy 0, 6, .inl pb_)), (w1_, .inr (6, [.int (sg_ 0), .int (sg_ 1), .int (sg_ 2), .int (sg_ 3), .int (sg_ 4), .int (sg_ 5), .int (sg_ 6), .int (sg_ 9), .int (nI tm_), .int (sg_ 8), .ref w2_, .ref w3_, .ref w4_])), (w2_, .inl (cy 0, 6, .inl ql_)), (w3_, .inl (cy 0, 6, .inl qp_)), (w4_, .inl (cy 0, 6, .inl qb_))] := hD
  refine lv_aload_n hx hb dX6_copyFrom_72 rfl (lv_at hl 0 rfl) ?_
  refine lv_aload_n hx hb dX6_copyFrom_73 rfl (lv_at hl 1 rfl) ?_
  refine va_get (D := D) (ci := 6) (v := .int (sg_ 8)) (C := RX6) (T := TX6) (N := 13) hx hb hts winX6 hown hK hP 4 rfl rfl 9 (by decide) wf40 (fun _ h9 => h9) rfl dX6_copyFrom_74 ?_
  refine va_put (D := D) (ci := 6) (v := .int (sg_ 8)) (ty := .boolean) (C := RX6) (T := TX6) (N := 13) hx hb hts winX6 tyX6 tyX6_ok nmX6 hown hK hP hD hS 0 rfl rfl 9 (by decide) wf40 (fun _ h9 => h9) rfl (by decide +kernel) (b01_nar h8) (b01_fit h8) (Nat.le_of_ble_eq_true rfl) dX6_copyFrom_77 (fun H locs hP hD hS => ?_)
  have hP : va_P D vwCl [(q1_, .inr (6, [.int (sg_ 0), .int (sg_ 1), .int (sg_ 2), .int (sg_ 3), .int (sg_ 4), .int (sg_ 5), .int (sg_ 6), .int (sg_ 9), .int (nI tm_), .int (sg_ 8), .ref q2_, .ref q3_, .ref q4_])), (q2_, .inl (cy 0, 6, .inl pl_)), (q3_, .inl (cy 0, 6, .inl pp_)), (q4_, .inl (cy 0, 6, .inl pb_)), (w1_, .inr (6, [.int (sg_ 0), .int (sg_ 1), .int (sg_ 2), .int (sg_ 3), .int (sg_ 4), .int (sg_ 5), .int (sg_ 6), .int (sg_ 9), .int (nI tm_), .int (sg_ 8), .ref w2_, .ref w3_, .ref w4_])), (w2_, .inl (cy 0, 6, .inl ql_)), (w3_, .inl (cy 0, 6, .inl qp_)), (w4_, .inl (cy 0, 6, .inl qb_))] H := hP
  have hD : va_D A [(q1_, .inr (6, [.int (sg_ 0), .int (sg_ 1), .int (sg_ 2), .int (sg_ 3), .int (sg_ 4), .int (sg_ 5), .int (sg_ 6), .int (sg_ 9), .int (nI tm_), .int (sg_ 8), .ref q2_, .ref q3_, .ref q4_])), (q2_, .inl (cy 0, 6, .inl pl_)), (q3_, .inl (cy 0, 6, .inl pp_)), (q4_, .inl (cy 0, 6, .inl pb_)), (w1_, .inr (6, [.int (sg_ 0), .int (sg_ 1), .int (sg_ 2), .int (sg_ 3), .int (sg_ 4), .int (sg_ 5), .int (sg_ 6), .int (sg_ 9), .int (nI tm_), .int (sg_ 8), .ref w2_, .ref w3_, .ref w4_])), (w2_, .inl (cy 0, 6, .inl ql_)), (w3_, .inl (cy 0, 6, .inl qp_)), (w4_, .inl (cy 0, 6, .inl qb_))] := hD
  refine lv_aload_n hx hb dX6_copyFrom_80 rfl (lv_at hl 1 rfl) ?_
  refine va_get (D := D) (ci := 6) (v := .ref w2_) (C := RX6) (T := TX6) (N := 13) hx hb hts winX6 hown hK hP 4 rfl rfl 10 (by decide) wf43 (fun _ h9 => h9) rfl dX6_copyFrom_81 ?_
  refine lv_iconst (v := 0) hx hb dX6_copyFrom_84 (by decide) ?_
  refine lv_aload_n hx hb dX6_copyFrom_85 rfl (lv_at hl 0 rfl) ?_
  refine va_get (D := D) (ci := 6) (v := .ref q2_) (C := RX6) (T := TX6) (N := 13) hx hb hts winX6 hown hK hP 0 rfl rfl 10 (by decide) wf43 (fun _ h9 => h9) rfl dX6_copyFrom_86 ?_
  refine lv_iconst (v := 0) hx hb dX6_copyFrom_89 (by decide) ?_
  refine lv_bipush (v := 6) hx hb dX6_copyFrom_90 (by decide) ?_
  refine cp_i hx hb (hml.trans hl.1.symm) hown wm53 wcn wcs wci hK hP hD hS 5 1 rfl rfl rfl (by decide) (by decide) (Nat.le_of_ble_eq_true rfl) dX6_copyFrom_92 (fun H locs hP hD hS => ?_)
  have hP : va_P D vwCl [(q1_, .inr (6, [.int (sg_ 0), .int (sg_ 1), .int (sg_ 2), .int (sg_ 3), .int (sg_ 4), .int (sg_ 5), .int (sg_ 6), .int (sg_ 9), .int (nI tm_), .int (sg_ 8), .ref q2_, .ref q3_, .ref q4_])), (q2_, .inl (cy 0, 6, .inl ql_)), (q3_, .inl (cy 0, 6, .inl pp_)), (q4_, .inl (cy 0, 6, .inl pb_)), (w1_, .inr (6, [.int (sg_ 0), .int (sg_ 1), .int (sg_ 2), .int (sg_ 3), .int (sg_ 4), .int (sg_ 5), .int (sg_ 6), .int (sg_ 9), .int (nI tm_), .int (sg_ 8), .ref w2_, .ref w3_, .ref w4_])), (w2_, .inl (cy 0, 6, .inl ql_)), (w3_, .inl (cy 0, 6, .inl qp_)), (w4_, .inl (cy 0, 6, .inl qb_))] H := hP
  have hD : va_D A [(q1_, .inr (6, [.int (sg_ 0), .int (sg_ 1), .int (sg_ 2), .int (sg_ 3), .int (sg_ 4), .int (sg_ 5), .int (sg_ 6), .int (sg_ 9), .int (nI tm_), .int (sg_ 8), .ref q2_, .ref q3_, .ref q4_])), (q2_, .inl (cy 0, 6, .inl ql_)), (q3_, .inl (cy 0, 6, .inl pp_)), (q4_, .inl (cy 0, 6, .inl pb_)), (w1_, .inr (6, [.int (sg_ 0), .int (sg_ 1), .int (sg_ 2), .int (sg_ 3), .int (sg_ 4), .int (sg_ 5), .int (sg_ 6), .int (sg_ 9), .int (nI tm_), .int (sg_ 8), .ref w2_, .ref w3_, .ref w4_])), (w2_, .inl (cy 0, 6, .inl ql_)), (w3_, .inl (cy 0, 6, .inl qp_)), (w4_, .inl (cy 0, 6, .inl qb_))] := hD
  refine lv_aload_n hx hb dX6_copyFrom_95 rfl (lv_at hl 1 rfl) ?_
  refine va_get (D := D) (ci := 6) (v := .ref w3_) (C := RX6) (T := TX6) (N := 13) hx hb hts winX6 hown hK hP 4 rfl rfl 11 (by decide) wf47 (fun _ h9 => h9) rfl dX6_copyFrom_96 ?_
  refine lv_iconst (v := 0) hx hb dX6_copyFrom_99 (by decide) ?_
  refine lv_aload_n hx hb dX6_copyFrom_100 rfl (lv_at hl 0 rfl) ?_
  refine va_get (D := D) (ci := 6) (v := .ref q3_) (C := RX6) (T := TX6) (N := 13) hx hb hts winX6 hown hK hP 0 rfl rfl 11 (by decide) wf47 (fun _ h9 => h9) rfl dX6_copyFrom_101 ?_
  refine lv_iconst (v := 0) hx hb dX6_copyFrom_104 (by decide) ?_
  refine lv_bipush (v := 6) hx hb dX6_copyFrom_105 (by decide) ?_
  refine cp_i hx hb (hml.trans hl.1.symm) hown wm53 wcn wcs wci hK hP hD hS 6 2 rfl rfl rfl (by decide) (by decide) (Nat.le_of_ble_eq_true rfl) dX6_copyFrom_107 (fun H locs hP hD hS => ?_)
  have hP : va_P D vwCl [(q1_, .inr (6, [.int (sg_ 0), .int (sg_ 1), .int (sg_ 2), .int (sg_ 3), .int (sg_ 4), .int (sg_ 5), .int (sg_ 6), .int (sg_ 9), .int (nI tm_), .int (sg_ 8), .ref q2_, .ref q3_, .ref q4_])), (q2_, .inl (cy 0, 6, .inl ql_)), (q3_, .inl (cy 0, 6, .inl qp_)), (q4_, .inl (cy 0, 6, .inl pb_)), (w1_, .inr (6, [.int (sg_ 0), .int (sg_ 1), .int (sg_ 2), .int (sg_ 3), .int (sg_ 4), .int (sg_ 5), .int (sg_ 6), .int (sg_ 9), .int (nI tm_), .int (sg_ 8), .ref w2_, .ref w3_, .ref w4_])), (w2_, .inl (cy 0, 6, .inl ql_)), (w3_, .inl (cy 0, 6, .inl qp_)), (w4_, .inl (cy 0, 6, .inl qb_))] H := hP
  have hD : va_D A [(q1_, .inr (6, [.int (sg_ 0), .int (sg_ 1), .int (sg_ 2), .int (sg_ 3), .int (sg_ 4), .int (sg_ 5), .int (sg_ 6), .int (sg_ 9), .int (nI tm_), .int (sg_ 8), .ref q2_, .ref q3_, .ref q4_])), (q2_, .inl (cy 0, 6, .inl ql_)), (q3_, .inl (cy 0, 6, .inl qp_)), (q4_, .inl (cy 0, 6, .inl pb_)), (w1_, .inr (6, [.int (sg_ 0), .int (sg_ 1), .int (sg_ 2), .int (sg_ 3), .int (sg_ 4), .int (sg_ 5), .int (sg_ 6), .int (sg_ 9), .int (nI tm_), .int (sg_ 8), .ref w2_, .ref w3_, .ref w4_])), (w2_, .inl (cy 0, 6, .inl ql_)), (w3_, .inl (cy 0, 6, .inl qp_)), (w4_, .inl (cy 0, 6, .inl qb_))] := hD
  refine lv_aload_n hx hb dX6_copyFrom_110 rfl (lv_at hl 1 rfl) ?_
  refine va_get (D := D) (ci := 6) (v := .ref w4_) (C := RX6) (T := TX6) (N := 13) hx hb hts winX6 hown hK hP 4 rfl rfl 12 (by decide) wf50 (fun _ h9 => h9) rfl dX6_copyFrom_111 ?_
  refine lv_iconst (v := 0) hx hb dX6_copyFrom_114 (by decide) ?_
  refine lv_aload_n hx hb dX6_copyFrom_115 rfl (lv_at hl 0 rfl) ?_
  refine va_get (D := D) (ci := 6) (v := .ref q4_) (C := RX6) (T := TX6) (N := 13) hx hb hts winX6 hown hK hP 0 rfl rfl 12 (by decide) wf50 (fun _ h9 => h9) rfl dX6_copyFrom_116 ?_
  refine lv_iconst (v := 0) hx hb dX6_copyFrom_119 (by decide) ?_
  refine lv_bipush (v := 6) hx hb dX6_copyFrom_120 (by decide) ?_
  refine cp_i hx hb (hml.trans hl.1.symm) hown wm53 wcn wcs wci hK hP hD hS 7 3 rfl rfl rfl (by decide) (by decide) (Nat.le_of_ble_eq_true rfl) dX6_copyFrom_122 (fun H locs hP hD hS => ?_)
  have hP : va_P D vwCl [(q1_, .inr (6, [.int (sg_ 0), .int (sg_ 1), .int (sg_ 2), .int (sg_ 3), .int (sg_ 4), .int (sg_ 5), .int (sg_ 6), .int (sg_ 9), .int (nI tm_), .int (sg_ 8), .ref q2_, .ref q3_, .ref q4_])), (q2_, .inl (cy 0, 6, .inl ql_)), (q3_, .inl (cy 0, 6, .inl qp_)), (q4_, .inl (cy 0, 6, .inl qb_)), (w1_, .inr (6, [.int (sg_ 0), .int (sg_ 1), .int (sg_ 2), .int (sg_ 3), .int (sg_ 4), .int (sg_ 5), .int (sg_ 6), .int (sg_ 9), .int (nI tm_), .int (sg_ 8), .ref w2_, .ref w3_, .ref w4_])), (w2_, .inl (cy 0, 6, .inl ql_)), (w3_, .inl (cy 0, 6, .inl qp_)), (w4_, .inl (cy 0, 6, .inl qb_))] H := hP
  have hD : va_D A [(q1_, .inr (6, [.int (sg_ 0), .int (sg_ 1), .int (sg_ 2), .int (sg_ 3), .int (sg_ 4), .int (sg_ 5), .int (sg_ 6), .int (sg_ 9), .int (nI tm_), .int (sg_ 8), .ref q2_, .ref q3_, .ref q4_])), (q2_, .inl (cy 0, 6, .inl ql_)), (q3_, .inl (cy 0, 6, .inl qp_)), (q4_, .inl (cy 0, 6, .inl qb_)), (w1_, .inr (6, [.int (sg_ 0), .int (sg_ 1), .int (sg_ 2), .int (sg_ 3), .int (sg_ 4), .int (sg_ 5), .int (sg_ 6), .int (sg_ 9), .int (nI tm_), .int (sg_ 8), .ref w2_, .ref w3_, .ref w4_])), (w2_, .inl (cy 0, 6, .inl ql_)), (w3_, .inl (cy 0, 6, .inl qp_)), (w4_, .inl (cy 0, 6, .inl qb_))] := hD
  exact RT _ _ () H locs 125 ls (rt_v dX6_copyFrom_125) rfl hP hD hS
