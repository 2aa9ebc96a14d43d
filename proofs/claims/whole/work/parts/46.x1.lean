abbrev rmkX1_findsFrom_6 : Room := { frames := 3, cells := 0, slots := 0, locals := 81 }
set_option maxHeartbeats 4000000 in
set_option maxRecDepth 100000 in
theorem kX1_findsFrom_6 {l : Launch} {D : va_G} {cy : Nat → ClassId} {sa : Nat → Nat} (c1_ : Nat) (a2_ : Nat) (n2_ : Nat) (ft_ : Nat → Int32) (a1_ : Nat) (n1_ : Nat) (f_ : Nat → Int32) (z_ : Nat) (k_ : Nat) (hok : okF f_) (hk : k_ < 3) (hz : z_ ≤ 6) (hft : ∀ y, y < 6 → inR (ft_ y) (bot (nI y)) 9) : CD l D cy sa yX1_findsFrom wsX1_findsFrom rmkX1_findsFrom_6 [.ref c1_, .int 6, .int (nI z_), .ref a1_, .int (nI k_)] [(c1_, .inr (1, [.ref a2_])), (a2_, .inr (0, [.ref n2_])), (n2_, .inl (cy 0, 6, .inl ft_)), (a1_, .inr (0, [.ref n1_])), (n1_, .inl (cy 0, 6, .inl f_))] (some (.int (bI ((ffR f_ k_ 0 z_ ft_).1 = true)))) [(c1_, .inr (1, [.ref a2_])), (a2_, .inr (0, [.ref n2_])), (n2_, .inl (cy 0, 6, .inl ((ffR f_ k_ 0 z_ ft_).2))), (a1_, .inr (0, [.ref n1_])), (n1_, .inl (cy 0, 6, .inl f_))] := by
  refine CT.of cX1_findsFrom 8 (some .boolean) (by decide +kernel) rfl (Nat.le_of_ble_eq_true rfl) ?_
  intro p e s m args below meth c A Q ls F hmn hK hE hA hP hD hS hl RT
  obtain ⟨hx, hb, hml, hown, hts⟩ := id F
  have winX1 : ∀ w ∈ u_ws RX1 TX1 1, w ∈ wsX1_findsFrom := by decide +kernel
  have wf12 := hts (.fieldLink RX1 12 "SelfSteer$Change" "tried" "LSelfSteer$Bicycle;") (by decide +kernel)
  have wi_X0 := hts (.initialized RX0) (by decide +kernel)
  have wn_X0_speeds := hts (.instanceMethod yX0_speeds) (by decide +kernel)
  have we_X0_speeds := hts (.selects RX0 yX0_speeds yX0_speeds) (by decide +kernel)
  have hl : lv_has ls 8 [(0, .ref c1_), (1, .int 6), (2, .int (nI z_)), (3, .ref a1_), (4, .int (nI k_))] := hl
  have hP : va_P D vwCl [(c1_, .inr (1, [.ref a2_])), (a2_, .inr (0, [.ref n2_])), (n2_, .inl (cy 0, 6, .inl ft_)), (a1_, .inr (0, [.ref n1_])), (n1_, .inl (cy 0, 6, .inl f_))] s.heap := hP
  have hD : va_D A [(c1_, .inr (1, [.ref a2_])), (a2_, .inr (0, [.ref n2_])), (n2_, .inl (cy 0, 6, .inl ft_)), (a1_, .inr (0, [.ref n1_])), (n1_, .inl (cy 0, 6, .inl f_))] := hD
  obtain ⟨H, hH⟩ : ∃ H0 : Heap, H0 = s.heap := ⟨_, rfl⟩
  obtain ⟨locs, hlo⟩ : ∃ L0 : List Loc, L0 = [] := ⟨_, rfl⟩
  have hS : va_S A s.heap H locs := by rw [hH, hlo]; exact hS
  rw [← hH] at hP
  show W p l e rmkX1_findsFrom_6 s m args below meth c s.heap [] 0 0 Q (F0 m 0 ls [])
  suffices hgo : W p l e rmkX1_findsFrom_6 s m args below meth c H locs 0 0 Q (F0 m 0 ls []) by rw [hH, hlo] at hgo; exact hgo
  clear hH hlo
  refine lv_iload_n hx hb dX1_findsFrom_0 rfl (lv_at hl 1 rfl) ?_
  refine lv_bipush (v := 6) hx hb dX1_findsFrom_1 (by decide) ?_
  refine lv_icmp_lt (tgt := 28) hx hb dX1_findsFrom_3 (by decide) (fun c_3 => ?_) (fun c_3 => ?_)
  · exact absurd c_3 (by decide)
  · refine lv_iload_n hx hb dX1_findsFrom_6 rfl (lv_at hl 2 rfl) ?_
    have J_7_15 : ∀ (H : Heap) (locs : List Loc), va_P D vwCl [(c1_, .inr (1, [.ref a2_])), (a2_, .inr (0, [.ref n2_])), (n2_, .inl (cy 0, 6, .inl ft_)), (a1_, .inr (0, [.ref n1_])), (n1_, .inl (cy 0, 6, .inl f_))] H → va_D A [(c1_, .inr (1, [.ref a2_])), (a2_, .inr (0, [.ref n2_])), (n2_, .inl (cy 0, 6, .inl ft_)), (a1_, .inr (0, [.ref n1_])), (n1_, .inl (cy 0, 6, .inl f_))] → va_S A s.heap H locs → ∀ (ls : Array Slot), lv_has ls 8 [(0, .ref c1_), (1, .int 6), (2, .int (nI z_)), (3, .ref a1_), (4, .int (nI k_))] → W p l e rmkX1_findsFrom_6 s m args below meth c H locs 0 0 Q (F0 m 27 ls [.int (bI ((z_ = 0) ∧ (¬ ((rg ft_ 41) = 0))))]) := by
      intro H locs hP hD hS ls hl
      refine lv_eqi (y := bI ((ffR f_ k_ 0 z_ ft_).1 = true)) (bI_congr (ff0_iff z_ ft_ f_ k_)) ?_
      exact RT _ _ () H locs 27 ls (rt_z (bI_nar _) dX1_findsFrom_27) rfl hP hD hS
    refine cz_ne (tgt := 26) hx hb z_ rfl (by omega) dX1_findsFrom_7 (by decide) (fun c_7 => ?_) (fun c_7 => ?_)
    · refine lv_iconst (v := 0) hx hb dX1_findsFrom_26 (by decide) ?_
      refine lv_eqi (y := bI ((z_ = 0) ∧ (¬ ((rg ft_ 41) = 0)))) (bI_congr (pd_f c_7)) ?_
      exact J_7_15 H locs hP hD hS ls (lv_sub hl [0, 1, 2, 3, 4] rfl)
    · refine lv_aload_n hx hb dX1_findsFrom_10 rfl (lv_at hl 0 rfl) ?_
      refine va_get (D := D) (ci := 1) (v := .ref a2_) (C := RX1) (T := TX1) (N := 1) hx hb hts winX1 hown hK hP 0 rfl rfl 0 (by decide) wf12 (fun _ h9 => h9) rfl dX1_findsFrom_11 ?_
      refine ca_VN (C := RX0) (q0 := 1) (n := 0) (rest := []) (wr := [(c1_, .inr (1, [.ref a2_])), (a1_, .inr (0, [.ref n1_])), (n1_, .inl (cy 0, 6, .inl f_))]) F hK hE hA hP hD hS hl.1 (kX0_speeds (l := l) (D := D) (cy := cy) (sa := sa) a2_ n2_ ft_ (hft)) gX1_findsFrom_X0_speeds_n26 (hE.nest 37 rfl) wi_X0 wn_X0_speeds we_X0_speeds rfl rfl rfl rfl rfl rfl (by decide +kernel) ⟨by decide, by decide⟩ [1, 2] [0, 3, 4] rfl rfl rfl rfl (by decide) rfl rfl (Nat.le_of_ble_eq_true rfl) dX1_findsFrom_14 ⟨by decide, by decide⟩ (fun v9 u9 H locs hv hP hD hS => ?_)
      subst hv
      obtain ⟨hP, hD⟩ := re_ws (ws' := [(c1_, .inr (1, [.ref a2_])), (a2_, .inr (0, [.ref n2_])), (n2_, .inl (cy 0, 6, .inl ft_)), (a1_, .inr (0, [.ref n1_])), (n1_, .inl (cy 0, 6, .inl f_))]) hP hD [0, 3, 4, 1, 2] rfl rfl
      refine W.eq (g2 := F0 m 17 ls [.long (rg ft_ 41)]) rfl ?_
      refine lv_lconst (v := 0) hx hb dX1_findsFrom_17 (by decide) ?_
      refine W.lcmp hx hb dX1_findsFrom_18 ?_
      refine lc_eq (tgt := 26) hx hb dX1_findsFrom_19 (by decide) (fun c_19 => ?_) (fun c_19 => ?_)
      · refine lv_iconst (v := 0) hx hb dX1_findsFrom_26 (by decide) ?_
        refine lv_eqi (y := bI ((z_ = 0) ∧ (¬ ((rg ft_ 41) = 0)))) (bI_congr (pd_t c_7 (pn_t c_19))) ?_
        exact J_7_15 H locs hP hD hS ls (lv_sub hl [0, 1, 2, 3, 4] rfl)
      · refine lv_iconst (v := 1) hx hb dX1_findsFrom_22 (by decide) ?_
        refine lv_goto (tgt := 27) hx hb dX1_findsFrom_23 (by decide) ?_
        refine lv_eqi (y := bI ((z_ = 0) ∧ (¬ ((rg ft_ 41) = 0)))) (bI_congr (pd_t c_7 (pn_f c_19))) ?_
        exact J_7_15 H locs hP hD hS ls (lv_sub hl [0, 1, 2, 3, 4] rfl)
abbrev rmkX1_findsFrom_5 : Room := { frames := 4, cells := 0, slots := 0, locals := 108 }
set_option maxHeartbeats 4000000 in
set_option maxRecDepth 100000 in
theorem kX1_findsFrom_5 {l : Launch} {D : va_G} {cy : Nat → ClassId} {sa : Nat → Nat} (c1_ : Nat) (a2_ : Nat) (n2_ : Nat) (ft_ : Nat → Int32) (a1_ : Nat) (n1_ : Nat) (f_ : Nat → Int32) (z_ : Nat) (k_ : Nat) (hok : okF f_) (hk : k_ < 3) (hz : z_ ≤ 6) (hft : ∀ y, y < 5 → inR (ft_ y) (bot (nI y)) 9) : CD l D cy sa yX1_findsFrom wsX1_findsFrom rmkX1_findsFrom_5 [.ref c1_, .int 5, .int (nI z_), .ref a1_, .int (nI k_)] [(c1_, .inr (1, [.ref a2_])), (a2_, .inr (0, [.ref n2_])), (n2_, .inl (cy 0, 6, .inl ft_)), (a1_, .inr (0, [.ref n1_])), (n1_, .inl (cy 0, 6, .inl f_))] (some (.int (bI ((ffR f_ k_ 1 z_ ft_).1 = true)))) [(c1_, .inr (1, [.ref a2_])), (a2_, .inr (0, [.ref n2_])), (n2_, .inl (cy 0, 6, .inl ((ffR f_ k_ 1 z_ ft_).2))), (a1_, .inr (0, [.ref n1_])), (n1_, .inl (cy 0, 6, .inl f_))] := by
  refine CT.of cX1_findsFrom 8 (some .boolean) (by decide +kernel) rfl (Nat.le_of_ble_eq_true rfl) ?_
  intro p e s m args below meth c A Q ls F hmn hK hE hA hP hD hS hl RT
  obtain ⟨hx, hb, hml, hown, hts⟩ := id F
  have wi_X0 := hts (.initialized RX0) (by decide +kernel)
  have wn_X0_valueOf := hts (.instanceMethod yX0_valueOf) (by decide +kernel)
  have we_X0_valueOf := hts (.selects RX0 yX0_valueOf yX0_valueOf) (by decide +kernel)
  have wm38 := hts (.methodLink RX1 38 Lib.Math.min.name) (by decide +kernel)
  have ws_min := hts (.static Lib.Math.min.name) (by decide +kernel)
  have wi_math := hts (.initialized "java/lang/Math") (by decide +kernel)
  have wk_min := hts (.code Lib.Math.min.name Lib.Math.min.code 2 (some .int)) (by decide +kernel)
  have wm47 := hts (.methodLink RX1 47 Lib.Math.max.name) (by decide +kernel)
  have ws_max := hts (.static Lib.Math.max.name) (by decide +kernel)
  have wk_max := hts (.code Lib.Math.max.name Lib.Math.max.code 2 (some .int)) (by decide +kernel)
  have winX1 : ∀ w_ ∈ u_ws RX1 TX1 1, w_ ∈ wsX1_findsFrom := by decide +kernel
  have wf12 := hts (.fieldLink RX1 12 "SelfSteer$Change" "tried" "LSelfSteer$Bicycle;") (by decide +kernel)
  have wn_X0_put := hts (.instanceMethod yX0_put) (by decide +kernel)
  have we_X0_put := hts (.selects RX0 yX0_put yX0_put) (by decide +kernel)
  have wm50 := hts (.methodLink RX1 50 Lib.Math.abs.name) (by decide +kernel)
  have ws_abs := hts (.static Lib.Math.abs.name) (by decide +kernel)
  have wk_abs := hts (.code Lib.Math.abs.name Lib.Math.abs.code 1 (some .int)) (by decide +kernel)
  have hl : lv_has ls 8 [(0, .ref c1_), (1, .int 5), (2, .int (nI z_)), (3, .ref a1_), (4, .int (nI k_))] := hl
  have hP : va_P D vwCl [(c1_, .inr (1, [.ref a2_])), (a2_, .inr (0, [.ref n2_])), (n2_, .inl (cy 0, 6, .inl ft_)), (a1_, .inr (0, [.ref n1_])), (n1_, .inl (cy 0, 6, .inl f_))] s.heap := hP
  have hD : va_D A [(c1_, .inr (1, [.ref a2_])), (a2_, .inr (0, [.ref n2_])), (n2_, .inl (cy 0, 6, .inl ft_)), (a1_, .inr (0, [.ref n1_])), (n1_, .inl (cy 0, 6, .inl f_))] := hD
  obtain ⟨H, hH⟩ : ∃ H0 : Heap, H0 = s.heap := ⟨_, rfl⟩
  obtain ⟨locs, hlo⟩ : ∃ L0 : List Loc, L0 = [] := ⟨_, rfl⟩
  have hS : va_S A s.heap H locs := by rw [hH, hlo]; exact hS
  rw [← hH] at hP
  show W p l e rmkX1_findsFrom_5 s m args below meth c s.heap [] 0 0 Q (F0 m 0 ls [])
  suffices hgo : W p l e rmkX1_findsFrom_5 s m args below meth c H locs 0 0 Q (F0 m 0 ls []) by rw [hH, hlo] at hgo; exact hgo
  clear hH hlo
  refine lv_iload_n hx hb dX1_findsFrom_0 rfl (lv_at hl 1 rfl) ?_
  refine lv_bipush (v := 6) hx hb dX1_findsFrom_1 (by decide) ?_
  refine lv_icmp_lt (tgt := 28) hx hb dX1_findsFrom_3 (by decide) (fun c_3 => ?_) (fun c_3 => ?_)
  · refine lv_iload_n hx hb dX1_findsFrom_28 rfl (lv_at hl 1 rfl) ?_
    refine lv_iload hx hb dX1_findsFrom_29 (lv_at hl 4 rfl) ?_
    refine cn_ne (tgt := 55) hx hb 5 k_ rfl rfl (by omega) (by omega) dX1_findsFrom_31 (by decide) (fun c_31 => ?_) (fun c_31 => ?_)
    · refine lv_aload_n hx hb dX1_findsFrom_55 rfl (lv_at hl 3 rfl) ?_
      refine lv_iload_n hx hb dX1_findsFrom_56 rfl (lv_at hl 1 rfl) ?_
      refine ca_VN (C := RX0) (q0 := 3) (n := 1) (rest := []) (wr := [(c1_, .inr (1, [.ref a2_])), (a2_, .inr (0, [.ref n2_])), (n2_, .inl (cy 0, 6, .inl ft_))]) F hK hE hA hP hD hS hl.1 (kX0_valueOf (l := l) (D := D) (cy := cy) (sa := sa) a1_ n1_ f_ 5 (by decide)) gX1_findsFrom_X0_valueOf_n22 (hE.nest 39 rfl) wi_X0 wn_X0_valueOf we_X0_valueOf rfl rfl rfl rfl rfl rfl (by decide +kernel) ⟨by decide, by decide⟩ [3, 4] [0, 1, 2] rfl rfl rfl rfl (by decide) rfl rfl (Nat.le_of_ble_eq_true rfl) dX1_findsFrom_57 ⟨by decide, by decide⟩ (fun v9 u9 H locs hv hP hD hS => ?_)
      subst hv
      obtain ⟨hP, hD⟩ := re_ws (ws' := [(c1_, .inr (1, [.ref a2_])), (a2_, .inr (0, [.ref n2_])), (n2_, .inl (cy 0, 6, .inl ft_)), (a1_, .inr (0, [.ref n1_])), (n1_, .inl (cy 0, 6, .inl f_))]) hP hD [0, 1, 2, 3, 4] rfl rfl
      refine W.eq (g2 := F0 m 60 ls [.int (f_ 5)]) rfl ?_
      refine lv_istore (lv' := [(5, .int (f_ 5)), (0, .ref c1_), (1, .int 5), (2, .int (nI z_)), (3, .ref a1_), (4, .int (nI k_))]) hx hb dX1_findsFrom_60 hl (by decide) rfl (fun ls hl => ?_)
      have hb1 := loZ_in hok (show 5 < 6 by decide) hz
      have hb2 := okF_low hok (show 5 < 6 by decide)
      have hb3 := lowZ_in 5 (by decide)
      refine va_getsN hx hb hE.2.1.1 hS hown (hE.nestB 40 rfl) (fun _ h9 => h9) dX1_findsFrom_62 ?_
      refine lv_iload_n hx hb dX1_findsFrom_65 rfl (lv_at hl 2 rfl) ?_
      refine al_s hx hb hE.2.1.2 hS 5 (rfl) (by decide) (by decide) dX1_findsFrom_66 ?_
      refine lv_iload hx hb dX1_findsFrom_67 (lv_at hl 0 rfl) ?_
      refine lv_iload_n hx hb dX1_findsFrom_69 rfl (lv_at hl 3 rfl) ?_
      refine lv_iadd hx hb dX1_findsFrom_70 ?_
      refine va_mmin hx hb (hml.trans hl.1.symm) hown wm38 ws_min wi_math wk_min (by decide) (Nat.le_of_ble_eq_true rfl) (Nat.zero_le _) (Nat.zero_le _) dX1_findsFrom_71 ?_
      refine lv_eqi (y := iZ (hiZ f_ 5 z_)) (hi_c hok (by decide) hz) ?_
      refine lv_istore (lv' := [(6, .int (iZ (hiZ f_ 5 z_))), (5, .int (f_ 5)), (0, .ref c1_), (1, .int 5), (2, .int (nI z_)), (3, .ref a1_), (4, .int (nI k_))]) hx hb dX1_findsFrom_74 hl (by decide) rfl (fun ls hl => ?_)
      refine va_getsN hx hb hE.1.1 hS hown (hE.nestB 41 rfl) (fun _ h9 => h9) dX1_findsFrom_76 ?_
      refine lv_iload_n hx hb dX1_findsFrom_79 rfl (lv_at hl 3 rfl) ?_
      refine al_s hx hb hE.1.2 hS 5 (rfl) (by decide) (by decide) dX1_findsFrom_80 ?_
      refine lv_iload hx hb dX1_findsFrom_81 (lv_at hl 1 rfl) ?_
      refine lv_iload_n hx hb dX1_findsFrom_83 rfl (lv_at hl 4 rfl) ?_
      refine lv_isub hx hb dX1_findsFrom_84 ?_
      refine va_mmax hx hb (hml.trans hl.1.symm) hown wm47 ws_max wi_math wk_max (by decide) (Nat.le_of_ble_eq_true rfl) (Nat.zero_le _) (Nat.zero_le _) dX1_findsFrom_85 ?_
      refine lv_eqi (y := iZ (loZ f_ 5 z_)) (lo_c hok (by decide) hz) ?_
      refine lv_istore (lv' := [(7, .int (iZ (loZ f_ 5 z_))), (6, .int (iZ (hiZ f_ 5 z_))), (5, .int (f_ 5)), (0, .ref c1_), (1, .int 5), (2, .int (nI z_)), (3, .ref a1_), (4, .int (nI k_))]) hx hb dX1_findsFrom_88 hl (by decide) rfl (fun ls hl => ?_)
      have L_90 : ∀ (nF : Nat) (w_ : Int) (q_ : Nat) (ftc_ : Nat → Int32), (w_ + q_ = hiZ f_ 5 z_ + 1) → (loZ f_ 5 z_ ≤ w_) → (ffL (ffR f_ k_ 0) (f_ 5).toInt 5 z_ q_ w_ ftc_ = ffR f_ k_ 1 z_ ft_) → (∀ y, y < 5 → ftc_ y = ft_ y) → q_ < nF → ∀ (H : Heap) (locs : List Loc), va_P D vwCl [(c1_, .inr (1, [.ref a2_])), (a2_, .inr (0, [.ref n2_])), (n2_, .inl (cy 0, 6, .inl ftc_)), (a1_, .inr (0, [.ref n1_])), (n1_, .inl (cy 0, 6, .inl f_))] H → va_D A [(c1_, .inr (1, [.ref a2_])), (a2_, .inr (0, [.ref n2_])), (n2_, .inl (cy 0, 6, .inl ftc_)), (a1_, .inr (0, [.ref n1_])), (n1_, .inl (cy 0, 6, .inl f_))] → va_S A s.heap H locs → ∀ (ls : Array Slot), lv_has ls 8 [(7, .int (iZ w_)), (6, .int (iZ (hiZ f_ 5 z_))), (5, .int (f_ 5)), (0, .ref c1_), (1, .int 5), (2, .int (nI z_)), (3, .ref a1_), (4, .int (nI k_))] → W p l e rmkX1_findsFrom_5 s m args below meth c H locs 0 0 Q (F0 m 90 ls []) := by
        intro nF
        induction nF with
        | zero => intro w_ q_ ftc_ hwq hlo hR hkp hnF; exact absurd hnF (Nat.not_lt_zero _)
        | succ nF ih_90 =>
          intro w_ q_ ftc_ hwq hlo hR hkp hn_90 H locs hP hD hS ls hl
          refine lv_iload hx hb dX1_findsFrom_90 (lv_at hl 0 rfl) ?_
          refine lv_iload hx hb dX1_findsFrom_92 (lv_at hl 1 rfl) ?_
          refine lv_icmp_gt (tgt := 138) hx hb dX1_findsFrom_94 (by decide) (fun c_94 => ?_) (fun c_94 => ?_)
          · have hgt : hiZ f_ 5 z_ < w_ := (iZ_lt (by omega) (by omega) (by omega) (by omega)).mp c_94
            refine lv_iconst (v := 0) hx hb dX1_findsFrom_138 (by decide) ?_
            have hfin : ffR f_ k_ 1 z_ ft_ = (false, ftc_) := by rw [← hR, show q_ = 0 by omega]; rfl
            obtain ⟨hP, hD⟩ := ro_ws (g := (ffR f_ k_ 1 z_ ft_).2) hP hD 2 rfl (fun z9 _ => congrFun (show ftc_ = (ffR f_ k_ 1 z_ ft_).2 from by rw [hfin]) z9)
            have hP : va_P D vwCl [(c1_, .inr (1, [.ref a2_])), (a2_, .inr (0, [.ref n2_])), (n2_, .inl (cy 0, 6, .inl ((ffR f_ k_ 1 z_ ft_).2))), (a1_, .inr (0, [.ref n1_])), (n1_, .inl (cy 0, 6, .inl f_))] H := hP
            have hD : va_D A [(c1_, .inr (1, [.ref a2_])), (a2_, .inr (0, [.ref n2_])), (n2_, .inl (cy 0, 6, .inl ((ffR f_ k_ 1 z_ ft_).2))), (a1_, .inr (0, [.ref n1_])), (n1_, .inl (cy 0, 6, .inl f_))] := hD
            refine lv_eqi (y := bI ((ffR f_ k_ 1 z_ ft_).1 = true)) ((bI_f (by rw [hfin]; exact Bool.false_ne_true)).symm) ?_
            exact RT _ _ () H locs 139 ls (rt_z (bI_nar _) dX1_findsFrom_139) rfl hP hD hS
          · have hle : w_ ≤ hiZ f_ 5 z_ := by rcases Int.lt_or_le (hiZ f_ 5 z_) w_ with y | y; exact absurd ((iZ_lt (by omega) (by omega) (by omega) (by omega)).mpr y) c_94; exact y
            refine lv_aload_n hx hb dX1_findsFrom_97 rfl (lv_at hl 3 rfl) ?_
            refine va_get (D := D) (ci := 1) (v := .ref a2_) (C := RX1) (T := TX1) (N := 1) hx hb hts winX1 hown hK hP 0 rfl rfl 0 (by decide) wf12 (fun _ h9 => h9) rfl dX1_findsFrom_98 ?_
            refine lv_iload_n hx hb dX1_findsFrom_101 rfl (lv_at hl 4 rfl) ?_
            refine lv_iload hx hb dX1_findsFrom_102 (lv_at hl 0 rfl) ?_
            refine ca_VN (C := RX0) (q0 := 1) (n := 2) (rest := []) (wr := [(c1_, .inr (1, [.ref a2_])), (a1_, .inr (0, [.ref n1_])), (n1_, .inl (cy 0, 6, .inl f_))]) F hK hE hA hP hD hS hl.1 (kX0_put (l := l) (D := D) (cy := cy) (sa := sa) a2_ n2_ ftc_ 5 (iZ w_) (by decide)) gX1_findsFrom_X0_put_n30 (hE.nest 38 rfl) wi_X0 wn_X0_put we_X0_put rfl rfl rfl rfl rfl rfl (by decide +kernel) ⟨by decide, by decide⟩ [1, 2] [0, 3, 4] rfl rfl rfl rfl (by decide) rfl rfl (Nat.le_of_ble_eq_true rfl) dX1_findsFrom_104 ⟨by decide, by decide⟩ (fun v9 u9 H locs hv hP hD hS => ?_)
            subst hv
            obtain ⟨hP, hD⟩ := re_ws (ws' := [(c1_, .inr (1, [.ref a2_])), (a2_, .inr (0, [.ref n2_])), (n2_, .inl (cy 0, 6, .inl (upd ftc_ 5 (iZ w_)))), (a1_, .inr (0, [.ref n1_])), (n1_, .inl (cy 0, 6, .inl f_))]) hP hD [0, 3, 4, 1, 2] rfl rfl
            refine W.eq (g2 := F0 m 107 ls []) rfl ?_
            refine lv_aload_n hx hb dX1_findsFrom_107 rfl (lv_at hl 3 rfl) ?_
            refine lv_iload_n hx hb dX1_findsFrom_108 rfl (lv_at hl 4 rfl) ?_
            refine lv_iconst (v := 1) hx hb dX1_findsFrom_109 (by decide) ?_
            refine lv_iadd hx hb dX1_findsFrom_110 ?_
            refine lv_eqi (y := 6) rfl ?_
            refine lv_iload_n hx hb dX1_findsFrom_111 rfl (lv_at hl 5 rfl) ?_
            refine lv_iload hx hb dX1_findsFrom_112 (lv_at hl 0 rfl) ?_
            refine lv_iload hx hb dX1_findsFrom_114 (lv_at hl 2 rfl) ?_
            refine lv_isub hx hb dX1_findsFrom_116 ?_
            refine va_mabs hx hb (hml.trans hl.1.symm) hown wm50 ws_abs wi_math wk_abs (by decide) (Nat.le_of_ble_eq_true rfl) (Nat.zero_le _) (Nat.zero_le _) dX1_findsFrom_117 ?_
            refine lv_eqi (y := nI ((w_ - (f_ 5).toInt).natAbs)) (abs_c (by omega) (by omega) (by omega) (by omega)) ?_
            refine lv_isub hx hb dX1_findsFrom_120 ?_
            refine lv_eqi (y := nI (z_ - (w_ - (f_ 5).toInt).natAbs)) (pk_sub (by omega)) ?_
            refine lv_aload_n hx hb dX1_findsFrom_121 rfl (lv_at hl 6 rfl) ?_
            refine lv_iload hx hb dX1_findsFrom_122 (lv_at hl 7 rfl) ?_
            refine ca_V (q0 := 0) (n := 4) (rest := []) (wr := []) F hK hE hA hP hD hS hl.1 (kX1_findsFrom_6 (l := l) (D := D) (cy := cy) (sa := sa) c1_ a2_ n2_ (upd ftc_ 5 (iZ w_)) a1_ n1_ f_ (z_ - (w_ - (f_ 5).toInt).natAbs) k_ (by first | assumption | omega | decide) (by first | assumption | omega | decide) (by omega) (fun y hy => by by_cases hy2 : y = 5 <;> first | (rw [hy2, upd_at]; exact iZ_in (by decide) (by omega) (by omega)) | (rw [upd_ne _ _ hy2, hkp y (by omega)]; exact hft y (by omega)))) gX1_findsFrom_X1_findsFrom rfl rfl rfl rfl rfl rfl (by decide +kernel) ⟨by decide, by decide⟩ [0, 1, 2, 3, 4] [] rfl rfl rfl rfl (by decide) rfl rfl (Nat.le_of_ble_eq_true rfl) dX1_findsFrom_124 ⟨by decide, by decide⟩ (fun v9 u9 H locs hv hP hD hS => ?_)
            subst hv
            obtain ⟨hP, hD⟩ := re_ws (ws' := [(c1_, .inr (1, [.ref a2_])), (a2_, .inr (0, [.ref n2_])), (n2_, .inl (cy 0, 6, .inl ((ffR f_ k_ 0 (z_ - (w_ - (f_ 5).toInt).natAbs) (upd ftc_ 5 (iZ w_))).2))), (a1_, .inr (0, [.ref n1_])), (n1_, .inl (cy 0, 6, .inl f_))]) hP hD [0, 1, 2, 3, 4] rfl rfl
            refine W.eq (g2 := F0 m 127 ls [.int (bI ((ffR f_ k_ 0 (z_ - (w_ - (f_ 5).toInt).natAbs) (upd ftc_ 5 (iZ w_))).1 = true))]) rfl ?_
            refine bz_eq (tgt := 132) hx hb dX1_findsFrom_127 (by decide) (fun c_127 => ?_) (fun c_127 => ?_)
            · refine lv_iinc (v := iZ (w_ + 1)) (lv' := [(7, .int (iZ (w_ + 1))), (6, .int (iZ (hiZ f_ 5 z_))), (5, .int (f_ 5)), (0, .ref c1_), (1, .int 5), (2, .int (nI z_)), (3, .ref a1_), (4, .int (nI k_))]) hx hb dX1_findsFrom_132 hl (k := 0) rfl (iZ_s (by omega) (by omega)) (by decide) rfl (fun ls hl => ?_)
              refine lv_goto (tgt := 90) hx hb dX1_findsFrom_135 (by decide) ?_
              exact ih_90 (w_ + 1) (q_ - 1) ((ffR f_ k_ 0 (z_ - (w_ - (f_ 5).toInt).natAbs) (upd ftc_ 5 (iZ w_))).2) (by omega) (by omega) (by rw [show q_ = (q_ - 1) + 1 by omega, ffL, if_neg c_127] at hR; exact hR) (fun y hy => by rw [ffR_keep f_ k_ 0 (by decide) _ _ _ (by omega), upd_ne _ _ (by omega)]; exact hkp y hy) (by omega) H locs hP hD hS ls (lv_sub hl [0, 1, 2, 3, 4, 5, 6, 7] rfl)
            · refine lv_iconst (v := 1) hx hb dX1_findsFrom_130 (by decide) ?_
              have hfin : ffR f_ k_ 1 z_ ft_ = ffR f_ k_ 0 (z_ - (w_ - (f_ 5).toInt).natAbs) (upd ftc_ 5 (iZ w_)) := by rw [← hR, show q_ = (q_ - 1) + 1 by omega, ffL, if_pos c_127]
              obtain ⟨hP, hD⟩ := ro_ws (g := (ffR f_ k_ 1 z_ ft_).2) hP hD 2 rfl (fun z9 _ => congrFun (show (ffR f_ k_ 0 (z_ - (w_ - (f_ 5).toInt).natAbs) (upd ftc_ 5 (iZ w_))).2 = (ffR f_ k_ 1 z_ ft_).2 from by rw [hfin]) z9)
              have hP : va_P D vwCl [(c1_, .inr (1, [.ref a2_])), (a2_, .inr (0, [.ref n2_])), (n2_, .inl (cy 0, 6, .inl ((ffR f_ k_ 1 z_ ft_).2))), (a1_, .inr (0, [.ref n1_])), (n1_, .inl (cy 0, 6, .inl f_))] H := hP
              have hD : va_D A [(c1_, .inr (1, [.ref a2_])), (a2_, .inr (0, [.ref n2_])), (n2_, .inl (cy 0, 6, .inl ((ffR f_ k_ 1 z_ ft_).2))), (a1_, .inr (0, [.ref n1_])), (n1_, .inl (cy 0, 6, .inl f_))] := hD
              refine lv_eqi (y := bI ((ffR f_ k_ 1 z_ ft_).1 = true)) ((bI_t (by rw [hfin]; exact c_127)).symm) ?_
              exact RT _ _ () H locs 131 ls (rt_z (bI_nar _) dX1_findsFrom_131) rfl hP hD hS
      exact L_90 _ (loZ f_ 5 z_) ((hiZ f_ 5 z_ + 1 - loZ f_ 5 z_).toNat) ft_ (by omega) (Int.le_refl _) ((if_neg c_31).symm) (fun _ _ => rfl) (Nat.lt_succ_self _) H locs hP hD hS ls (lv_sub hl [0, 1, 2, 3, 4, 5, 6, 7] rfl)
    · refine lv_aload_n hx hb dX1_findsFrom_34 rfl (lv_at hl 0 rfl) ?_
      refine va_get (D := D) (ci := 1) (v := .ref a2_) (C := RX1) (T := TX1) (N := 1) hx hb hts winX1 hown hK hP 0 rfl rfl 0 (by decide) wf12 (fun _ h9 => h9) rfl dX1_findsFrom_35 ?_
      refine lv_iload_n hx hb dX1_findsFrom_38 rfl (lv_at hl 1 rfl) ?_
      refine lv_iconst (v := 0) hx hb dX1_findsFrom_39 (by decide) ?_
      refine ca_VN (C := RX0) (q0 := 1) (n := 2) (rest := []) (wr := [(c1_, .inr (1, [.ref a2_])), (a1_, .inr (0, [.ref n1_])), (n1_, .inl (cy 0, 6, .inl f_))]) F hK hE hA hP hD hS hl.1 (kX0_put (l := l) (D := D) (cy := cy) (sa := sa) a2_ n2_ ft_ 5 0 (by decide)) gX1_findsFrom_X0_put_n30 (hE.nest 38 rfl) wi_X0 wn_X0_put we_X0_put rfl rfl rfl rfl rfl rfl (by decide +kernel) ⟨by decide, by decide⟩ [1, 2] [0, 3, 4] rfl rfl rfl rfl (by decide) rfl rfl (Nat.le_of_ble_eq_true rfl) dX1_findsFrom_40 ⟨by decide, by decide⟩ (fun v9 u9 H locs hv hP hD hS => ?_)
      subst hv
      obtain ⟨hP, hD⟩ := re_ws (ws' := [(c1_, .inr (1, [.ref a2_])), (a2_, .inr (0, [.ref n2_])), (n2_, .inl (cy 0, 6, .inl (upd ft_ 5 0))), (a1_, .inr (0, [.ref n1_])), (n1_, .inl (cy 0, 6, .inl f_))]) hP hD [0, 3, 4, 1, 2] rfl rfl
      refine W.eq (g2 := F0 m 43 ls []) rfl ?_
      refine lv_aload_n hx hb dX1_findsFrom_43 rfl (lv_at hl 0 rfl) ?_
      refine lv_iload_n hx hb dX1_findsFrom_44 rfl (lv_at hl 1 rfl) ?_
      refine lv_iconst (v := 1) hx hb dX1_findsFrom_45 (by decide) ?_
      refine lv_iadd hx hb dX1_findsFrom_46 ?_
      refine lv_eqi (y := 6) rfl ?_
      refine lv_iload_n hx hb dX1_findsFrom_47 rfl (lv_at hl 2 rfl) ?_
      refine lv_aload_n hx hb dX1_findsFrom_48 rfl (lv_at hl 3 rfl) ?_
      refine lv_iload hx hb dX1_findsFrom_49 (lv_at hl 4 rfl) ?_
      refine ca_V (q0 := 0) (n := 4) (rest := []) (wr := []) F hK hE hA hP hD hS hl.1 (kX1_findsFrom_6 (l := l) (D := D) (cy := cy) (sa := sa) c1_ a2_ n2_ (upd ft_ 5 0) a1_ n1_ f_ z_ k_ (by first | assumption | omega | decide) (by first | assumption | omega | decide) (by first | assumption | omega | decide) (fun y hy => by by_cases hy2 : y = 5 <;> first | (rw [hy2, upd_at, c_31]; exact zero_in k_ hk) | (rw [upd_ne _ _ hy2]; exact hft y (by omega)))) gX1_findsFrom_X1_findsFrom rfl rfl rfl rfl rfl rfl (by decide +kernel) ⟨by decide, by decide⟩ [0, 1, 2, 3, 4] [] rfl rfl rfl rfl (by decide) rfl rfl (Nat.le_of_ble_eq_true rfl) dX1_findsFrom_51 ⟨by decide, by decide⟩ (fun v9 u9 H locs hv hP hD hS => ?_)
      subst hv
      obtain ⟨hP, hD⟩ := re_ws (ws' := [(c1_, .inr (1, [.ref a2_])), (a2_, .inr (0, [.ref n2_])), (n2_, .inl (cy 0, 6, .inl ((ffR f_ k_ 0 z_ (upd ft_ 5 0)).2))), (a1_, .inr (0, [.ref n1_])), (n1_, .inl (cy 0, 6, .inl f_))]) hP hD [0, 1, 2, 3, 4] rfl rfl
      refine W.eq (g2 := F0 m 54 ls [.int (bI ((ffR f_ k_ 0 z_ (upd ft_ 5 0)).1 = true))]) rfl ?_
      obtain ⟨hP, hD⟩ := ro_ws (g := (ffR f_ k_ 1 z_ ft_).2) hP hD 2 rfl (fun z9 _ => congrFun (show (ffR f_ k_ 0 z_ (upd ft_ 5 0)).2 = (ffR f_ k_ 1 z_ ft_).2 from congrArg (fun g => g.2) (show ffR f_ k_ 0 z_ (upd ft_ 5 0) = ffR f_ k_ 1 z_ ft_ from (if_pos c_31).symm)) z9)
      have hP : va_P D vwCl [(c1_, .inr (1, [.ref a2_])), (a2_, .inr (0, [.ref n2_])), (n2_, .inl (cy 0, 6, .inl ((ffR f_ k_ 1 z_ ft_).2))), (a1_, .inr (0, [.ref n1_])), (n1_, .inl (cy 0, 6, .inl f_))] H := hP
      have hD : va_D A [(c1_, .inr (1, [.ref a2_])), (a2_, .inr (0, [.ref n2_])), (n2_, .inl (cy 0, 6, .inl ((ffR f_ k_ 1 z_ ft_).2))), (a1_, .inr (0, [.ref n1_])), (n1_, .inl (cy 0, 6, .inl f_))] := hD
      refine lv_eqi (y := bI ((ffR f_ k_ 1 z_ ft_).1 = true)) (bI_congr (by rw [show ffR f_ k_ 1 z_ ft_ = ffR f_ k_ 0 z_ (upd ft_ 5 0) from if_pos c_31])) ?_
      exact RT _ _ () H locs 54 ls (rt_z (bI_nar _) dX1_findsFrom_54) rfl hP hD hS
  · exact absurd (by decide) c_3
abbrev rmkX1_findsFrom_4 : Room := { frames := 5, cells := 0, slots := 0, locals := 135 }
set_option maxHeartbeats 4000000 in
set_option maxRecDepth 100000 in
theorem kX1_findsFrom_4 {l : Launch} {D : va_G} {cy : Nat → ClassId} {sa : Nat → Nat} (c1_ : Nat) (a2_ : Nat) (n2_ : Nat) (ft_ : Nat → Int32) (a1_ : Nat) (n1_ : Nat) (f_ : Nat → Int32) (z_ : Nat) (k_ : Nat) (hok : okF f_) (hk : k_ < 3) (hz : z_ ≤ 6) (hft : ∀ y, y < 4 → inR (ft_ y) (bot (nI y)) 9) : CD l D cy sa yX1_findsFrom wsX1_findsFrom rmkX1_findsFrom_4 [.ref c1_, .int 4, .int (nI z_), .ref a1_, .int (nI k_)] [(c1_, .inr (1, [.ref a2_])), (a2_, .inr (0, [.ref n2_])), (n2_, .inl (cy 0, 6, .inl ft_)), (a1_, .inr (0, [.ref n1_])), (n1_, .inl (cy 0, 6, .inl f_))] (some (.int (bI ((ffR f_ k_ 2 z_ ft_).1 = true)))) [(c1_, .inr (1, [.ref a2_])), (a2_, .inr (0, [.ref n2_])), (n2_, .inl (cy 0, 6, .inl ((ffR f_ k_ 2 z_ ft_).2))), (a1_, .inr (0, [.ref n1_])), (n1_, .inl (cy 0, 6, .inl f_))] := by
  refine CT.of cX1_findsFrom 8 (some .boolean) (by decide +kernel) rfl (Nat.le_of_ble_eq_true rfl) ?_
  intro p e s m args below meth c A Q ls F hmn hK hE hA hP hD hS hl RT
  obtain ⟨hx, hb, hml, hown, hts⟩ := id F
  have wi_X0 := hts (.initialized RX0) (by decide +kernel)
  have wn_X0_valueOf := hts (.instanceMethod yX0_valueOf) (by decide +kernel)
  have we_X0_valueOf := hts (.selects RX0 yX0_valueOf yX0_valueOf) (by decide +kernel)
  have wm38 := hts (.methodLink RX1 38 Lib.Math.min.name) (by decide +kernel)
  have ws_min := hts (.static Lib.Math.min.name) (by decide +kernel)
  have wi_math := hts (.initialized "java/lang/Math") (by decide +kernel)
  have wk_min := hts (.code Lib.Math.min.name Lib.Math.min.code 2 (some .int)) (by decide +kernel)
  have wm47 := hts (.methodLink RX1 47 Lib.Math.max.name) (by decide +kernel)
  have ws_max := hts (.static Lib.Math.max.name) (by decide +kernel)
  have wk_max := hts (.code Lib.Math.max.name Lib.Math.max.code 2 (some .int)) (by decide +kernel)
  have winX1 : ∀ w_ ∈ u_ws RX1 TX1 1, w_ ∈ wsX1_findsFrom := by decide +kernel
  have wf12 := hts (.fieldLink RX1 12 "SelfSteer$Change" "tried" "LSelfSteer$Bicycle;") (by decide +kernel)
  have wn_X0_put := hts (.instanceMethod yX0_put) (by decide +kernel)
  have we_X0_put := hts (.selects RX0 yX0_put yX0_put) (by decide +kernel)
  have wm50 := hts (.methodLink RX1 50 Lib.Math.abs.name) (by decide +kernel)
  have ws_abs := hts (.static Lib.Math.abs.name) (by decide +kernel)
  have wk_abs := hts (.code Lib.Math.abs.name Lib.Math.abs.code 1 (some .int)) (by decide +kernel)
  have hl : lv_has ls 8 [(0, .ref c1_), (1, .int 4), (2, .int (nI z_)), (3, .ref a1_), (4, .int (nI k_))] := hl
  have hP : va_P D vwCl [(c1_, .inr (1, [.ref a2_])), (a2_, .inr (0, [.ref n2_])), (n2_, .inl (cy 0, 6, .inl ft_)), (a1_, .inr (0, [.ref n1_])), (n1_, .inl (cy 0, 6, .inl f_))] s.heap := hP
  have hD : va_D A [(c1_, .inr (1, [.ref a2_])), (a2_, .inr (0, [.ref n2_])), (n2_, .inl (cy 0, 6, .inl ft_)), (a1_, .inr (0, [.ref n1_])), (n1_, .inl (cy 0, 6, .inl f_))] := hD
  obtain ⟨H, hH⟩ : ∃ H0 : Heap, H0 = s.heap := ⟨_, rfl⟩
  obtain ⟨locs, hlo⟩ : ∃ L0 : List Loc, L0 = [] := ⟨_, rfl⟩
  have hS : va_S A s.heap H locs := by rw [hH, hlo]; exact hS
  rw [← hH] at hP
  show W p l e rmkX1_findsFrom_4 s m args below meth c s.heap [] 0 0 Q (F0 m 0 ls [])
  suffices hgo : W p l e rmkX1_findsFrom_4 s m args below meth c H locs 0 0 Q (F0 m 0 ls []) by rw [hH, hlo] at hgo; exact hgo
  clear hH hlo
  refine lv_iload_n hx hb dX1_findsFrom_0 rfl (lv_at hl 1 rfl) ?_
  refine lv_bipush (v := 6) hx hb dX1_findsFrom_1 (by decide) ?_
  refine lv_icmp_lt (tgt := 28) hx hb dX1_findsFrom_3 (by decide) (fun c_3 => ?_) (fun c_3 => ?_)
  · refine lv_iload_n hx hb dX1_findsFrom_28 rfl (lv_at hl 1 rfl) ?_
    refine lv_iload hx hb dX1_findsFrom_29 (lv_at hl 4 rfl) ?_
    refine cn_ne (tgt := 55) hx hb 4 k_ rfl rfl (by omega) (by omega) dX1_findsFrom_31 (by decide) (fun c_31 => ?_) (fun c_31 => ?_)
    · refine lv_aload_n hx hb dX1_findsFrom_55 rfl (lv_at hl 3 rfl) ?_
      refine lv_iload_n hx hb dX1_findsFrom_56 rfl (lv_at hl 1 rfl) ?_
      refine ca_VN (C := RX0) (q0 := 3) (n := 1) (rest := []) (wr := [(c1_, .inr (1, [.ref a2_])), (a2_, .inr (0, [.ref n2_])), (n2_, .inl (cy 0, 6, .inl ft_))]) F hK hE hA hP hD hS hl.1 (kX0_valueOf (l := l) (D := D) (cy := cy) (sa := sa) a1_ n1_ f_ 4 (by decide)) gX1_findsFrom_X0_valueOf_n22 (hE.nest 39 rfl) wi_X0 wn_X0_valueOf we_X0_valueOf rfl rfl rfl rfl rfl rfl (by decide +kernel) ⟨by decide, by decide⟩ [3, 4] [0, 1, 2] rfl rfl rfl rfl (by decide) rfl rfl (Nat.le_of_ble_eq_true rfl) dX1_findsFrom_57 ⟨by decide, by decide⟩ (fun v9 u9 H locs hv hP hD hS => ?_)
      subst hv
      obtain ⟨hP, hD⟩ := re_ws (ws' := [(c1_, .inr (1, [.ref a2_])), (a2_, .inr (0, [.ref n2_])), (n2_, .inl (cy 0, 6, .inl ft_)), (a1_, .inr (0, [.ref n1_])), (n1_, .inl (cy 0, 6, .inl f_))]) hP hD [0, 1, 2, 3, 4] rfl rfl
      refine W.eq (g2 := F0 m 60 ls [.int (f_ 4)]) rfl ?_
      refine lv_istore (lv' := [(5, .int (f_ 4)), (0, .ref c1_), (1, .int 4), (2, .int (nI z_)), (3, .ref a1_), (4, .int (nI k_))]) hx hb dX1_findsFrom_60 hl (by decide) rfl (fun ls hl => ?_)
      have hb1 := loZ_in hok (show 4 < 6 by decide) hz
      have hb2 := okF_low hok (show 4 < 6 by decide)
      have hb3 := lowZ_in 4 (by decide)
      refine va_getsN hx hb hE.2.1.1 hS hown (hE.nestB 40 rfl) (fun _ h9 => h9) dX1_findsFrom_62 ?_
      refine lv_iload_n hx hb dX1_findsFrom_65 rfl (lv_at hl 2 rfl) ?_
      refine al_s hx hb hE.2.1.2 hS 4 (rfl) (by decide) (by decide) dX1_findsFrom_66 ?_
      refine lv_iload hx hb dX1_findsFrom_67 (lv_at hl 0 rfl) ?_
      refine lv_iload_n hx hb dX1_findsFrom_69 rfl (lv_at hl 3 rfl) ?_
      refine lv_iadd hx hb dX1_findsFrom_70 ?_
      refine va_mmin hx hb (hml.trans hl.1.symm) hown wm38 ws_min wi_math wk_min (by decide) (Nat.le_of_ble_eq_true rfl) (Nat.zero_le _) (Nat.zero_le _) dX1_findsFrom_71 ?_
      refine lv_eqi (y := iZ (hiZ f_ 4 z_)) (hi_c hok (by decide) hz) ?_
      refine lv_istore (lv' := [(6, .int (iZ (hiZ f_ 4 z_))), (5, .int (f_ 4)), (0, .ref c1_), (1, .int 4), (2, .int (nI z_)), (3, .ref a1_), (4, .int (nI k_))]) hx hb dX1_findsFrom_74 hl (by decide) rfl (fun ls hl => ?_)
      refine va_getsN hx hb hE.1.1 hS hown (hE.nestB 41 rfl) (fun _ h9 => h9) dX1_findsFrom_76 ?_
      refine lv_iload_n hx hb dX1_findsFrom_79 rfl (lv_at hl 3 rfl) ?_
      refine al_s hx hb hE.1.2 hS 4 (rfl) (by decide) (by decide) dX1_findsFrom_80 ?_
      refine lv_iload hx hb dX1_findsFrom_81 (lv_at hl 1 rfl) ?_
      refine lv_iload_n hx hb dX1_findsFrom_83 rfl (lv_at hl 4 rfl) ?_
      refine lv_isub hx hb dX1_findsFrom_84 ?_
      refine va_mmax hx hb (hml.trans hl.1.symm) hown wm47 ws_max wi_math wk_max (by decide) (Nat.le_of_ble_eq_true rfl) (Nat.zero_le _) (Nat.zero_le _) dX1_findsFrom_85 ?_
      refine lv_eqi (y := iZ (loZ f_ 4 z_)) (lo_c hok (by decide) hz) ?_
      refine lv_istore (lv' := [(7, .int (iZ (loZ f_ 4 z_))), (6, .int (iZ (hiZ f_ 4 z_))), (5, .int (f_ 4)), (0, .ref c1_), (1, .int 4), (2, .int (nI z_)), (3, .ref a1_), (4, .int (nI k_))]) hx hb dX1_findsFrom_88 hl (by decide) rfl (fun ls hl => ?_)
      have L_90 : ∀ (nF : Nat) (w_ : Int) (q_ : Nat) (ftc_ : Nat → Int32), (w_ + q_ = hiZ f_ 4 z_ + 1) → (loZ f_ 4 z_ ≤ w_) → (ffL (ffR f_ k_ 1) (f_ 4).toInt 4 z_ q_ w_ ftc_ = ffR f_ k_ 2 z_ ft_) → (∀ y, y < 4 → ftc_ y = ft_ y) → q_ < nF → ∀ (H : Heap) (locs : List Loc), va_P D vwCl [(c1_, .inr (1, [.ref a2_])), (a2_, .inr (0, [.ref n2_])), (n2_, .inl (cy 0, 6, .inl ftc_)), (a1_, .inr (0, [.ref n1_])), (n1_, .inl (cy 0, 6, .inl f_))] H → va_D A [(c1_, .inr (1, [.ref a2_])), (a2_, .inr (0, [.ref n2_])), (n2_, .inl (cy 0, 6, .inl ftc_)), (a1_, .inr (0, [.ref n1_])), (n1_, .inl (cy 0, 6, .inl f_))] → va_S A s.heap H locs → ∀ (ls : Array Slot), lv_has ls 8 [(7, .int (iZ w_)), (6, .int (iZ (hiZ f_ 4 z_))), (5, .int (f_ 4)), (0, .ref c1_), (1, .int 4), (2, .int (nI z_)), (3, .ref a1_), (4, .int (nI k_))] → W p l e rmkX1_findsFrom_4 s m args below meth c H locs 0 0 Q (F0 m 90 ls []) := by
        intro nF
        induction nF with
        | zero => intro w_ q_ ftc_ hwq hlo hR hkp hnF; exact absurd hnF (Nat.not_lt_zero _)
        | succ nF ih_90 =>
          intro w_ q_ ftc_ hwq hlo hR hkp hn_90 H locs hP hD hS ls hl
          refine lv_iload hx hb dX1_findsFrom_90 (lv_at hl 0 rfl) ?_
          refine lv_iload hx hb dX1_findsFrom_92 (lv_at hl 1 rfl) ?_
          refine lv_icmp_gt (tgt := 138) hx hb dX1_findsFrom_94 (by decide) (fun c_94 => ?_) (fun c_94 => ?_)
          · have hgt : hiZ f_ 4 z_ < w_ := (iZ_lt (by omega) (by omega) (by omega) (by omega)).mp c_94
            refine lv_iconst (v := 0) hx hb dX1_findsFrom_138 (by decide) ?_
            have hfin : ffR f_ k_ 2 z_ ft_ = (false, ftc_) := by rw [← hR, show q_ = 0 by omega]; rfl
            obtain ⟨hP, hD⟩ := ro_ws (g := (ffR f_ k_ 2 z_ ft_).2) hP hD 2 rfl (fun z9 _ => congrFun (show ftc_ = (ffR f_ k_ 2 z_ ft_).2 from by rw [hfin]) z9)
            have hP : va_P D vwCl [(c1_, .inr (1, [.ref a2_])), (a2_, .inr (0, [.ref n2_])), (n2_, .inl (cy 0, 6, .inl ((ffR f_ k_ 2 z_ ft_).2))), (a1_, .inr (0, [.ref n1_])), (n1_, .inl (cy 0, 6, .inl f_))] H := hP
            have hD : va_D A [(c1_, .inr (1, [.ref a2_])), (a2_, .inr (0, [.ref n2_])), (n2_, .inl (cy 0, 6, .inl ((ffR f_ k_ 2 z_ ft_).2))), (a1_, .inr (0, [.ref n1_])), (n1_, .inl (cy 0, 6, .inl f_))] := hD
            refine lv_eqi (y := bI ((ffR f_ k_ 2 z_ ft_).1 = true)) ((bI_f (by rw [hfin]; exact Bool.false_ne_true)).symm) ?_
            exact RT _ _ () H locs 139 ls (rt_z (bI_nar _) dX1_findsFrom_139) rfl hP hD hS
          · have hle : w_ ≤ hiZ f_ 4 z_ := by rcases Int.lt_or_le (hiZ f_ 4 z_) w_ with y | y; exact absurd ((iZ_lt (by omega) (by omega) (by omega) (by omega)).mpr y) c_94; exact y
            refine lv_aload_n hx hb dX1_findsFrom_97 rfl (lv_at hl 3 rfl) ?_
            refine va_get (D := D) (ci := 1) (v := .ref a2_) (C := RX1) (T := TX1) (N := 1) hx hb hts winX1 hown hK hP 0 rfl rfl 0 (by decide) wf12 (fun _ h9 => h9) rfl dX1_findsFrom_98 ?_
            refine lv_iload_n hx hb dX1_findsFrom_101 rfl (lv_at hl 4 rfl) ?_
            refine lv_iload hx hb dX1_findsFrom_102 (lv_at hl 0 rfl) ?_
            refine ca_VN (C := RX0) (q0 := 1) (n := 2) (rest := []) (wr := [(c1_, .inr (1, [.ref a2_])), (a1_, .inr (0, [.ref n1_])), (n1_, .inl (cy 0, 6, .inl f_))]) F hK hE hA hP hD hS hl.1 (kX0_put (l := l) (D := D) (cy := cy) (sa := sa) a2_ n2_ ftc_ 4 (iZ w_) (by decide)) gX1_findsFrom_X0_put_n30 (hE.nest 38 rfl) wi_X0 wn_X0_put we_X0_put rfl rfl rfl rfl rfl rfl (by decide +kernel) ⟨by decide, by decide⟩ [1, 2] [0, 3, 4] rfl rfl rfl rfl (by decide) rfl rfl (Nat.le_of_ble_eq_true rfl) dX1_findsFrom_104 ⟨by decide, by decide⟩ (fun v9 u9 H locs hv hP hD hS => ?_)
            subst hv
            obtain ⟨hP, hD⟩ := re_ws (ws' := [(c1_, .inr (1, [.ref a2_])), (a2_, .inr (0, [.ref n2_])), (n2_, .inl (cy 0, 6, .inl (upd ftc_ 4 (iZ w_)))), (a1_, .inr (0, [.ref n1_])), (n1_, .inl (cy 0, 6, .inl f_))]) hP hD [0, 3, 4, 1, 2] rfl rfl
            refine W.eq (g2 := F0 m 107 ls []) rfl ?_
            refine lv_aload_n hx hb dX1_findsFrom_107 rfl (lv_at hl 3 rfl) ?_
            refine lv_iload_n hx hb dX1_findsFrom_108 rfl (lv_at hl 4 rfl) ?_
            refine lv_iconst (v := 1) hx hb dX1_findsFrom_109 (by decide) ?_
            refine lv_iadd hx hb dX1_findsFrom_110 ?_
            refine lv_eqi (y := 5) rfl ?_
            refine lv_iload_n hx hb dX1_findsFrom_111 rfl (lv_at hl 5 rfl) ?_
            refine lv_iload hx hb dX1_findsFrom_112 (lv_at hl 0 rfl) ?_
            refine lv_iload hx hb dX1_findsFrom_114 (lv_at hl 2 rfl) ?_
            refine lv_isub hx hb dX1_findsFrom_116 ?_
            refine va_mabs hx hb (hml.trans hl.1.symm) hown wm50 ws_abs wi_math wk_abs (by decide) (Nat.le_of_ble_eq_true rfl) (Nat.zero_le _) (Nat.zero_le _) dX1_findsFrom_117 ?_
            refine lv_eqi (y := nI ((w_ - (f_ 4).toInt).natAbs)) (abs_c (by omega) (by omega) (by omega) (by omega)) ?_
            refine lv_isub hx hb dX1_findsFrom_120 ?_
            refine lv_eqi (y := nI (z_ - (w_ - (f_ 4).toInt).natAbs)) (pk_sub (by omega)) ?_
            refine lv_aload_n hx hb dX1_findsFrom_121 rfl (lv_at hl 6 rfl) ?_
            refine lv_iload hx hb dX1_findsFrom_122 (lv_at hl 7 rfl) ?_
            refine ca_V (q0 := 0) (n := 4) (rest := []) (wr := []) F hK hE hA hP hD hS hl.1 (kX1_findsFrom_5 (l := l) (D := D) (cy := cy) (sa := sa) c1_ a2_ n2_ (upd ftc_ 4 (iZ w_)) a1_ n1_ f_ (z_ - (w_ - (f_ 4).toInt).natAbs) k_ (by first | assumption | omega | decide) (by first | assumption | omega | decide) (by omega) (fun y hy => by by_cases hy2 : y = 4 <;> first | (rw [hy2, upd_at]; exact iZ_in (by decide) (by omega) (by omega)) | (rw [upd_ne _ _ hy2, hkp y (by omega)]; exact hft y (by omega)))) gX1_findsFrom_X1_findsFrom rfl rfl rfl rfl rfl rfl (by decide +kernel) ⟨by decide, by decide⟩ [0, 1, 2, 3, 4] [] rfl rfl rfl rfl (by decide) rfl rfl (Nat.le_of_ble_eq_true rfl) dX1_findsFrom_124 ⟨by decide, by decide⟩ (fun v9 u9 H locs hv hP hD hS => ?_)
            subst hv
            obtain ⟨hP, hD⟩ := re_ws (ws' := [(c1_, .inr (1, [.ref a2_])), (a2_, .inr (0, [.ref n2_])), (n2_, .inl (cy 0, 6, .inl ((ffR f_ k_ 1 (z_ - (w_ - (f_ 4).toInt).natAbs) (upd ftc_ 4 (iZ w_))).2))), (a1_, .inr (0, [.ref n1_])), (n1_, .inl (cy 0, 6, .inl f_))]) hP hD [0, 1, 2, 3, 4] rfl rfl
            refine W.eq (g2 := F0 m 127 ls [.int (bI ((ffR f_ k_ 1 (z_ - (w_ - (f_ 4).toInt).natAbs) (upd ftc_ 4 (iZ w_))).1 = true))]) rfl ?_
            refine bz_eq (tgt := 132) hx hb dX1_findsFrom_127 (by decide) (fun c_127 => ?_) (fun c_127 => ?_)
            · refine lv_iinc (v := iZ (w_ + 1)) (lv' := [(7, .int (iZ (w_ + 1))), (6, .int (iZ (hiZ f_ 4 z_))), (5, .int (f_ 4)), (0, .ref c1_), (1, .int 4), (2, .int (nI z_)), (3, .ref a1_), (4, .int (nI k_))]) hx hb dX1_findsFrom_132 hl (k := 0) rfl (iZ_s (by omega) (by omega)) (by decide) rfl (fun ls hl => ?_)
              refine lv_goto (tgt := 90) hx hb dX1_findsFrom_135 (by decide) ?_
              exact ih_90 (w_ + 1) (q_ - 1) ((ffR f_ k_ 1 (z_ - (w_ - (f_ 4).toInt).natAbs) (upd ftc_ 4 (iZ w_))).2) (by omega) (by omega) (by rw [show q_ = (q_ - 1) + 1 by omega, ffL, if_neg c_127] at hR; exact hR) (fun y hy => by rw [ffR_keep f_ k_ 1 (by decide) _ _ _ (by omega), upd_ne _ _ (by omega)]; exact hkp y hy) (by omega) H locs hP hD hS ls (lv_sub hl [0, 1, 2, 3, 4, 5, 6, 7] rfl)
            · refine lv_iconst (v := 1) hx hb dX1_findsFrom_130 (by decide) ?_
              have hfin : ffR f_ k_ 2 z_ ft_ = ffR f_ k_ 1 (z_ - (w_ - (f_ 4).toInt).natAbs) (upd ftc_ 4 (iZ w_)) := by rw [← hR, show q_ = (q_ - 1) + 1 by omega, ffL, if_pos c_127]
              obtain ⟨hP, hD⟩ := ro_ws (g := (ffR f_ k_ 2 z_ ft_).2) hP hD 2 rfl (fun z9 _ => congrFun (show (ffR f_ k_ 1 (z_ - (w_ - (f_ 4).toInt).natAbs) (upd ftc_ 4 (iZ w_))).2 = (ffR f_ k_ 2 z_ ft_).2 from by rw [hfin]) z9)
              have hP : va_P D vwCl [(c1_, .inr (1, [.ref a2_])), (a2_, .inr (0, [.ref n2_])), (n2_, .inl (cy 0, 6, .inl ((ffR f_ k_ 2 z_ ft_).2))), (a1_, .inr (0, [.ref n1_])), (n1_, .inl (cy 0, 6, .inl f_))] H := hP
              have hD : va_D A [(c1_, .inr (1, [.ref a2_])), (a2_, .inr (0, [.ref n2_])), (n2_, .inl (cy 0, 6, .inl ((ffR f_ k_ 2 z_ ft_).2))), (a1_, .inr (0, [.ref n1_])), (n1_, .inl (cy 0, 6, .inl f_))] := hD
              refine lv_eqi (y := bI ((ffR f_ k_ 2 z_ ft_).1 = true)) ((bI_t (by rw [hfin]; exact c_127)).symm) ?_
              exact RT _ _ () H locs 131 ls (rt_z (bI_nar _) dX1_findsFrom_131) rfl hP hD hS
      exact L_90 _ (loZ f_ 4 z_) ((hiZ f_ 4 z_ + 1 - loZ f_ 4 z_).toNat) ft_ (by omega) (Int.le_refl _) ((if_neg c_31).symm) (fun _ _ => rfl) (Nat.lt_succ_self _) H locs hP hD hS ls (lv_sub hl [0, 1, 2, 3, 4, 5, 6, 7] rfl)
    · refine lv_aload_n hx hb dX1_findsFrom_34 rfl (lv_at hl 0 rfl) ?_
      refine va_get (D := D) (ci := 1) (v := .ref a2_) (C := RX1) (T := TX1) (N := 1) hx hb hts winX1 hown hK hP 0 rfl rfl 0 (by decide) wf12 (fun _ h9 => h9) rfl dX1_findsFrom_35 ?_
      refine lv_iload_n hx hb dX1_findsFrom_38 rfl (lv_at hl 1 rfl) ?_
      refine lv_iconst (v := 0) hx hb dX1_findsFrom_39 (by decide) ?_
      refine ca_VN (C := RX0) (q0 := 1) (n := 2) (rest := []) (wr := [(c1_, .inr (1, [.ref a2_])), (a1_, .inr (0, [.ref n1_])), (n1_, .inl (cy 0, 6, .inl f_))]) F hK hE hA hP hD hS hl.1 (kX0_put (l := l) (D := D) (cy := cy) (sa := sa) a2_ n2_ ft_ 4 0 (by decide)) gX1_findsFrom_X0_put_n30 (hE.nest 38 rfl) wi_X0 wn_X0_put we_X0_put rfl rfl rfl rfl rfl rfl (by decide +kernel) ⟨by decide, by decide⟩ [1, 2] [0, 3, 4] rfl rfl rfl rfl (by decide) rfl rfl (Nat.le_of_ble_eq_true rfl) dX1_findsFrom_40 ⟨by decide, by decide⟩ (fun v9 u9 H locs hv hP hD hS => ?_)
      subst hv
      obtain ⟨hP, hD⟩ := re_ws (ws' := [(c1_, .inr (1, [.ref a2_])), (a2_, .inr (0, [.ref n2_])), (n2_, .inl (cy 0, 6, .inl (upd ft_ 4 0))), (a1_, .inr (0, [.ref n1_])), (n1_, .inl (cy 0, 6, .inl f_))]) hP hD [0, 3, 4, 1, 2] rfl rfl
      refine W.eq (g2 := F0 m 43 ls []) rfl ?_
      refine lv_aload_n hx hb dX1_findsFrom_43 rfl (lv_at hl 0 rfl) ?_
      refine lv_iload_n hx hb dX1_findsFrom_44 rfl (lv_at hl 1 rfl) ?_
      refine lv_iconst (v := 1) hx hb dX1_findsFrom_45 (by decide) ?_
      refine lv_iadd hx hb dX1_findsFrom_46 ?_
      refine lv_eqi (y := 5) rfl ?_
      refine lv_iload_n hx hb dX1_findsFrom_47 rfl (lv_at hl 2 rfl) ?_
      refine lv_aload_n hx hb dX1_findsFrom_48 rfl (lv_at hl 3 rfl) ?_
      refine lv_iload hx hb dX1_findsFrom_49 (lv_at hl 4 rfl) ?_
      refine ca_V (q0 := 0) (n := 4) (rest := []) (wr := []) F hK hE hA hP hD hS hl.1 (kX1_findsFrom_5 (l := l) (D := D) (cy := cy) (sa := sa) c1_ a2_ n2_ (upd ft_ 4 0) a1_ n1_ f_ z_ k_ (by first | assumption | omega | decide) (by first | assumption | omega | decide) (by first | assumption | omega | decide) (fun y hy => by by_cases hy2 : y = 4 <;> first | (rw [hy2, upd_at, c_31]; exact zero_in k_ hk) | (rw [upd_ne _ _ hy2]; exact hft y (by omega)))) gX1_findsFrom_X1_findsFrom rfl rfl rfl rfl rfl rfl (by decide +kernel) ⟨by decide, by decide⟩ [0, 1, 2, 3, 4] [] rfl rfl rfl rfl (by decide) rfl rfl (Nat.le_of_ble_eq_true rfl) dX1_findsFrom_51 ⟨by decide, by decide⟩ (fun v9 u9 H locs hv hP hD hS => ?_)
      subst hv
      obtain ⟨hP, hD⟩ := re_ws (ws' := [(c1_, .inr (1, [.ref a2_])), (a2_, .inr (0, [.ref n2_])), (n2_, .inl (cy 0, 6, .inl ((ffR f_ k_ 1 z_ (upd ft_ 4 0)).2))), (a1_, .inr (0, [.ref n1_])), (n1_, .inl (cy 0, 6, .inl f_))]) hP hD [0, 1, 2, 3, 4] rfl rfl
      refine W.eq (g2 := F0 m 54 ls [.int (bI ((ffR f_ k_ 1 z_ (upd ft_ 4 0)).1 = true))]) rfl ?_
      obtain ⟨hP, hD⟩ := ro_ws (g := (ffR f_ k_ 2 z_ ft_).2) hP hD 2 rfl (fun z9 _ => congrFun (show (ffR f_ k_ 1 z_ (upd ft_ 4 0)).2 = (ffR f_ k_ 2 z_ ft_).2 from congrArg (fun g => g.2) (show ffR f_ k_ 1 z_ (upd ft_ 4 0) = ffR f_ k_ 2 z_ ft_ from (if_pos c_31).symm)) z9)
      have hP : va_P D vwCl [(c1_, .inr (1, [.ref a2_])), (a2_, .inr (0, [.ref n2_])), (n2_, .inl (cy 0, 6, .inl ((ffR f_ k_ 2 z_ ft_).2))), (a1_, .inr (0, [.ref n1_])), (n1_, .inl (cy 0, 6, .inl f_))] H := hP
      have hD : va_D A [(c1_, .inr (1, [.ref a2_])), (a2_, .inr (0, [.ref n2_])), (n2_, .inl (cy 0, 6, .inl ((ffR f_ k_ 2 z_ ft_).2))), (a1_, .inr (0, [.ref n1_])), (n1_, .inl (cy 0, 6, .inl f_))] := hD
      refine lv_eqi (y := bI ((ffR f_ k_ 2 z_ ft_).1 = true)) (bI_congr (by rw [show ffR f_ k_ 2 z_ ft_ = ffR f_ k_ 1 z_ (upd ft_ 4 0) from if_pos c_31])) ?_
      exact RT _ _ () H locs 54 ls (rt_z (bI_nar _) dX1_findsFrom_54) rfl hP hD hS
  · exact absurd (by decide) c_3
abbrev rmkX1_findsFrom_3 : Room := { frames := 6, cells := 0, slots := 0, locals := 162 }
set_option maxHeartbeats 4000000 in
set_option maxRecDepth 100000 in
theorem kX1_findsFrom_3 {l : Launch} {D : va_G} {cy : Nat → ClassId} {sa : Nat → Nat} (c1_ : Nat) (a2_ : Nat) (n2_ : Nat) (ft_ : Nat → Int32) (a1_ : Nat) (n1_ : Nat) (f_ : Nat → Int32) (z_ : Nat) (k_ : Nat) (hok : okF f_) (hk : k_ < 3) (hz : z_ ≤ 6) (hft : ∀ y, y < 3 → inR (ft_ y) (bot (nI y)) 9) : CD l D cy sa yX1_findsFrom wsX1_findsFrom rmkX1_findsFrom_3 [.ref c1_, .int 3, .int (nI z_), .ref a1_, .int (nI k_)] [(c1_, .inr (1, [.ref a2_])), (a2_, .inr (0, [.ref n2_])), (n2_, .inl (cy 0, 6, .inl ft_)), (a1_, .inr (0, [.ref n1_])), (n1_, .inl (cy 0, 6, .inl f_))] (some (.int (bI ((ffR f_ k_ 3 z_ ft_).1 = true)))) [(c1_, .inr (1, [.ref a2_])), (a2_, .inr (0, [.ref n2_])), (n2_, .inl (cy 0, 6, .inl ((ffR f_ k_ 3 z_ ft_).2))), (a1_, .inr (0, [.ref n1_])), (n1_, .inl (cy 0, 6, .inl f_))] := by
  refine CT.of cX1_findsFrom 8 (some .boolean) (by decide +kernel) rfl (Nat.le_of_ble_eq_true rfl) ?_
  intro p e s m args below meth c A Q ls F hmn hK hE hA hP hD hS hl RT
  obtain ⟨hx, hb, hml, hown, hts⟩ := id F
  have wi_X0 := hts (.initialized RX0) (by decide +kernel)
  have wn_X0_valueOf := hts (.instanceMethod yX0_valueOf) (by decide +kernel)
  have we_X0_valueOf := hts (.selects RX0 yX0_valueOf yX0_valueOf) (by decide +kernel)
  have wm38 := hts (.methodLink RX1 38 Lib.Math.min.name) (by decide +kernel)
  have ws_min := hts (.static Lib.Math.min.name) (by decide +kernel)
  have wi_math := hts (.initialized "java/lang/Math") (by decide +kernel)
  have wk_min := hts (.code Lib.Math.min.name Lib.Math.min.code 2 (some .int)) (by decide +kernel)
  have wm47 := hts (.methodLink RX1 47 Lib.Math.max.name) (by decide +kernel)
  have ws_max := hts (.static Lib.Math.max.name) (by decide +kernel)
  have wk_max := hts (.code Lib.Math.max.name Lib.Math.max.code 2 (some .int)) (by decide +kernel)
  have winX1 : ∀ w_ ∈ u_ws RX1 TX1 1, w_ ∈ wsX1_findsFrom := by decide +kernel
  have wf12 := hts (.fieldLink RX1 12 "SelfSteer$Change" "tried" "LSelfSteer$Bicycle;") (by decide +kernel)
  have wn_X0_put := hts (.instanceMethod yX0_put) (by decide +kernel)
  have we_X0_put := hts (.selects RX0 yX0_put yX0_put) (by decide +kernel)
  have wm50 := hts (.methodLink RX1 50 Lib.Math.abs.name) (by decide +kernel)
  have ws_abs := hts (.static Lib.Math.abs.name) (by decide +kernel)
  have wk_abs := hts (.code Lib.Math.abs.name Lib.Math.abs.code 1 (some .int)) (by decide +kernel)
  have hl : lv_has ls 8 [(0, .ref c1_), (1, .int 3), (2, .int (nI z_)), (3, .ref a1_), (4, .int (nI k_))] := hl
  have hP : va_P D vwCl [(c1_, .inr (1, [.ref a2_])), (a2_, .inr (0, [.ref n2_])), (n2_, .inl (cy 0, 6, .inl ft_)), (a1_, .inr (0, [.ref n1_])), (n1_, .inl (cy 0, 6, .inl f_))] s.heap := hP
  have hD : va_D A [(c1_, .inr (1, [.ref a2_])), (a2_, .inr (0, [.ref n2_])), (n2_, .inl (cy 0, 6, .inl ft_)), (a1_, .inr (0, [.ref n1_])), (n1_, .inl (cy 0, 6, .inl f_))] := hD
  obtain ⟨H, hH⟩ : ∃ H0 : Heap, H0 = s.heap := ⟨_, rfl⟩
  obtain ⟨locs, hlo⟩ : ∃ L0 : List Loc, L0 = [] := ⟨_, rfl⟩
  have hS : va_S A s.heap H locs := by rw [hH, hlo]; exact hS
  rw [← hH] at hP
  show W p l e rmkX1_findsFrom_3 s m args below meth c s.heap [] 0 0 Q (F0 m 0 ls [])
  suffices hgo : W p l e rmkX1_findsFrom_3 s m args below meth c H locs 0 0 Q (F0 m 0 ls []) by rw [hH, hlo] at hgo; exact hgo
  clear hH hlo
  refine lv_iload_n hx hb dX1_findsFrom_0 rfl (lv_at hl 1 rfl) ?_
  refine lv_bipush (v := 6) hx hb dX1_findsFrom_1 (by decide) ?_
  refine lv_icmp_lt (tgt := 28) hx hb dX1_findsFrom_3 (by decide) (fun c_3 => ?_) (fun c_3 => ?_)
  · refine lv_iload_n hx hb dX1_findsFrom_28 rfl (lv_at hl 1 rfl) ?_
    refine lv_iload hx hb dX1_findsFrom_29 (lv_at hl 4 rfl) ?_
    refine cn_ne (tgt := 55) hx hb 3 k_ rfl rfl (by omega) (by omega) dX1_findsFrom_31 (by decide) (fun c_31 => ?_) (fun c_31 => ?_)
    · refine lv_aload_n hx hb dX1_findsFrom_55 rfl (lv_at hl 3 rfl) ?_
      refine lv_iload_n hx hb dX1_findsFrom_56 rfl (lv_at hl 1 rfl) ?_
      refine ca_VN (C := RX0) (q0 := 3) (n := 1) (rest := []) (wr := [(c1_, .inr (1, [.ref a2_])), (a2_, .inr (0, [.ref n2_])), (n2_, .inl (cy 0, 6, .inl ft_))]) F hK hE hA hP hD hS hl.1 (kX0_valueOf (l := l) (D := D) (cy := cy) (sa := sa) a1_ n1_ f_ 3 (by decide)) gX1_findsFrom_X0_valueOf_n22 (hE.nest 39 rfl) wi_X0 wn_X0_valueOf we_X0_valueOf rfl rfl rfl rfl rfl rfl (by decide +kernel) ⟨by decide, by decide⟩ [3, 4] [0, 1, 2] rfl rfl rfl rfl (by decide) rfl rfl (Nat.le_of_ble_eq_true rfl) dX1_findsFrom_57 ⟨by decide, by decide⟩ (fun v9 u9 H locs hv hP hD hS => ?_)
      subst hv
      obtain ⟨hP, hD⟩ := re_ws (ws' := [(c1_, .inr (1, [.ref a2_])), (a2_, .inr (0, [.ref n2_])), (n2_, .inl (cy 0, 6, .inl ft_)), (a1_, .inr (0, [.ref n1_])), (n1_, .inl (cy 0, 6, .inl f_))]) hP hD [0, 1, 2, 3, 4] rfl rfl
      refine W.eq (g2 := F0 m 60 ls [.int (f_ 3)]) rfl ?_
      refine lv_istore (lv' := [(5, .int (f_ 3)), (0, .ref c1_), (1, .int 3), (2, .int (nI z_)), (3, .ref a1_), (4, .int (nI k_))]) hx hb dX1_findsFrom_60 hl (by decide) rfl (fun ls hl => ?_)
      have hb1 := loZ_in hok (show 3 < 6 by decide) hz
      have hb2 := okF_low hok (show 3 < 6 by decide)
      have hb3 := lowZ_in 3 (by decide)
      refine va_getsN hx hb hE.2.1.1 hS hown (hE.nestB 40 rfl) (fun _ h9 => h9) dX1_findsFrom_62 ?_
      refine lv_iload_n hx hb dX1_findsFrom_65 rfl (lv_at hl 2 rfl) ?_
      refine al_s hx hb hE.2.1.2 hS 3 (rfl) (by decide) (by decide) dX1_findsFrom_66 ?_
      refine lv_iload hx hb dX1_findsFrom_67 (lv_at hl 0 rfl) ?_
      refine lv_iload_n hx hb dX1_findsFrom_69 rfl (lv_at hl 3 rfl) ?_
      refine lv_iadd hx hb dX1_findsFrom_70 ?_
      refine va_mmin hx hb (hml.trans hl.1.symm) hown wm38 ws_min wi_math wk_min (by decide) (Nat.le_of_ble_eq_true rfl) (Nat.zero_le _) (Nat.zero_le _) dX1_findsFrom_71 ?_
      refine lv_eqi (y := iZ (hiZ f_ 3 z_)) (hi_c hok (by decide) hz) ?_
      refine lv_istore (lv' := [(6, .int (iZ (hiZ f_ 3 z_))), (5, .int (f_ 3)), (0, .ref c1_), (1, .int 3), (2, .int (nI z_)), (3, .ref a1_), (4, .int (nI k_))]) hx hb dX1_findsFrom_74 hl (by decide) rfl (fun ls hl => ?_)
      refine va_getsN hx hb hE.1.1 hS hown (hE.nestB 41 rfl) (fun _ h9 => h9) dX1_findsFrom_76 ?_
      refine lv_iload_n hx hb dX1_findsFrom_79 rfl (lv_at hl 3 rfl) ?_
      refine al_s hx hb hE.1.2 hS 3 (rfl) (by decide) (by decide) dX1_findsFrom_80 ?_
      refine lv_iload hx hb dX1_findsFrom_81 (lv_at hl 1 rfl) ?_
      refine lv_iload_n hx hb dX1_findsFrom_83 rfl (lv_at hl 4 rfl) ?_
      refine lv_isub hx hb dX1_findsFrom_84 ?_
      refine va_mmax hx hb (hml.trans hl.1.symm) hown wm47 ws_max wi_math wk_max (by decide) (Nat.le_of_ble_eq_true rfl) (Nat.zero_le _) (Nat.zero_le _) dX1_findsFrom_85 ?_
      refine lv_eqi (y := iZ (loZ f_ 3 z_)) (lo_c hok (by decide) hz) ?_
      refine lv_istore (lv' := [(7, .int (iZ (loZ f_ 3 z_))), (6, .int (iZ (hiZ f_ 3 z_))), (5, .int (f_ 3)), (0, .ref c1_), (1, .int 3), (2, .int (nI z_)), (3, .ref a1_), (4, .int (nI k_))]) hx hb dX1_findsFrom_88 hl (by decide) rfl (fun ls hl => ?_)
      have L_90 : ∀ (nF : Nat) (w_ : Int) (q_ : Nat) (ftc_ : Nat → Int32), (w_ + q_ = hiZ f_ 3 z_ + 1) → (loZ f_ 3 z_ ≤ w_) → (ffL (ffR f_ k_ 2) (f_ 3).toInt 3 z_ q_ w_ ftc_ = ffR f_ k_ 3 z_ ft_) → (∀ y, y < 3 → ftc_ y = ft_ y) → q_ < nF → ∀ (H : Heap) (locs : List Loc), va_P D vwCl [(c1_, .inr (1, [.ref a2_])), (a2_, .inr (0, [.ref n2_])), (n2_, .inl (cy 0, 6, .inl ftc_)), (a1_, .inr (0, [.ref n1_])), (n1_, .inl (cy 0, 6, .inl f_))] H → va_D A [(c1_, .inr (1, [.ref a2_])), (a2_, .inr (0, [.ref n2_])), (n2_, .inl (cy 0, 6, .inl ftc_)), (a1_, .inr (0, [.ref n1_])), (n1_, .inl (cy 0, 6, .inl f_))] → va_S A s.heap H locs → ∀ (ls : Array Slot), lv_has ls 8 [(7, .int (iZ w_)), (6, .int (iZ (hiZ f_ 3 z_))), (5, .int (f_ 3)), (0, .ref c1_), (1, .int 3), (2, .int (nI z_)), (3, .ref a1_), (4, .int (nI k_))] → W p l e rmkX1_findsFrom_3 s m args below meth c H locs 0 0 Q (F0 m 90 ls []) := by
        intro nF
        induction nF with
        | zero => intro w_ q_ ftc_ hwq hlo hR hkp hnF; exact absurd hnF (Nat.not_lt_zero _)
        | succ nF ih_90 =>
          intro w_ q_ ftc_ hwq hlo hR hkp hn_90 H locs hP hD hS ls hl
          refine lv_iload hx hb dX1_findsFrom_90 (lv_at hl 0 rfl) ?_
          refine lv_iload hx hb dX1_findsFrom_92 (lv_at hl 1 rfl) ?_
          refine lv_icmp_gt (tgt := 138) hx hb dX1_findsFrom_94 (by decide) (fun c_94 => ?_) (fun c_94 => ?_)
          · have hgt : hiZ f_ 3 z_ < w_ := (iZ_lt (by omega) (by omega) (by omega) (by omega)).mp c_94
            refine lv_iconst (v := 0) hx hb dX1_findsFrom_138 (by decide) ?_
            have hfin : ffR f_ k_ 3 z_ ft_ = (false, ftc_) := by rw [← hR, show q_ = 0 by omega]; rfl
            obtain ⟨hP, hD⟩ := ro_ws (g := (ffR f_ k_ 3 z_ ft_).2) hP hD 2 rfl (fun z9 _ => congrFun (show ftc_ = (ffR f_ k_ 3 z_ ft_).2 from by rw [hfin]) z9)
            have hP : va_P D vwCl [(c1_, .inr (1, [.ref a2_])), (a2_, .inr (0, [.ref n2_])), (n2_, .inl (cy 0, 6, .inl ((ffR f_ k_ 3 z_ ft_).2))), (a1_, .inr (0, [.ref n1_])), (n1_, .inl (cy 0, 6, .inl f_))] H := hP
            have hD : va_D A [(c1_, .inr (1, [.ref a2_])), (a2_, .inr (0, [.ref n2_])), (n2_, .inl (cy 0, 6, .inl ((ffR f_ k_ 3 z_ ft_).2))), (a1_, .inr (0, [.ref n1_])), (n1_, .inl (cy 0, 6, .inl f_))] := hD
            refine lv_eqi (y := bI ((ffR f_ k_ 3 z_ ft_).1 = true)) ((bI_f (by rw [hfin]; exact Bool.false_ne_true)).symm) ?_
            exact RT _ _ () H locs 139 ls (rt_z (bI_nar _) dX1_findsFrom_139) rfl hP hD hS
          · have hle : w_ ≤ hiZ f_ 3 z_ := by rcases Int.lt_or_le (hiZ f_ 3 z_) w_ with y | y; exact absurd ((iZ_lt (by omega) (by omega) (by omega) (by omega)).mpr y) c_94; exact y
            refine lv_aload_n hx hb dX1_findsFrom_97 rfl (lv_at hl 3 rfl) ?_
            refine va_get (D := D) (ci := 1) (v := .ref a2_) (C := RX1) (T := TX1) (N := 1) hx hb hts winX1 hown hK hP 0 rfl rfl 0 (by decide) wf12 (fun _ h9 => h9) rfl dX1_findsFrom_98 ?_
            refine lv_iload_n hx hb dX1_findsFrom_101 rfl (lv_at hl 4 rfl) ?_
            refine lv_iload hx hb dX1_findsFrom_102 (lv_at hl 0 rfl) ?_
            refine ca_VN (C := RX0) (q0 := 1) (n := 2) (rest := []) (wr := [(c1_, .inr (1, [.ref a2_])), (a1_, .inr (0, [.ref n1_])), (n1_, .inl (cy 0, 6, .inl f_))]) F hK hE hA hP hD hS hl.1 (kX0_put (l := l) (D := D) (cy := cy) (sa := sa) a2_ n2_ ftc_ 3 (iZ w_) (by decide)) gX1_findsFrom_X0_put_n30 (hE.nest 38 rfl) wi_X0 wn_X0_put we_X0_put rfl rfl rfl rfl rfl rfl (by decide +kernel) ⟨by decide, by decide⟩ [1, 2] [0, 3, 4] rfl rfl rfl rfl (by decide) rfl rfl (Nat.le_of_ble_eq_true rfl) dX1_findsFrom_104 ⟨by decide, by decide⟩ (fun v9 u9 H locs hv hP hD hS => ?_)
            subst hv
            obtain ⟨hP, hD⟩ := re_ws (ws' := [(c1_, .inr (1, [.ref a2_])), (a2_, .inr (0, [.ref n2_])), (n2_, .inl (cy 0, 6, .inl (upd ftc_ 3 (iZ w_)))), (a1_, .inr (0, [.ref n1_])), (n1_, .inl (cy 0, 6, .inl f_))]) hP hD [0, 3, 4, 1, 2] rfl rfl
            refine W.eq (g2 := F0 m 107 ls []) rfl ?_
            refine lv_aload_n hx hb dX1_findsFrom_107 rfl (lv_at hl 3 rfl) ?_
            refine lv_iload_n hx hb dX1_findsFrom_108 rfl (lv_at hl 4 rfl) ?_
            refine lv_iconst (v := 1) hx hb dX1_findsFrom_109 (by decide) ?_
            refine lv_iadd hx hb dX1_findsFrom_110 ?_
            refine lv_eqi (y := 4) rfl ?_
            refine lv_iload_n hx hb dX1_findsFrom_111 rfl (lv_at hl 5 rfl) ?_
            refine lv_iload hx hb dX1_findsFrom_112 (lv_at hl 0 rfl) ?_
            refine lv_iload hx hb dX1_findsFrom_114 (lv_at hl 2 rfl) ?_
            refine lv_isub hx hb dX1_findsFrom_116 ?_
            refine va_mabs hx hb (hml.trans hl.1.symm) hown wm50 ws_abs wi_math wk_abs (by decide) (Nat.le_of_ble_eq_true rfl) (Nat.zero_le _) (Nat.zero_le _) dX1_findsFrom_117 ?_
            refine lv_eqi (y := nI ((w_ - (f_ 3).toInt).natAbs)) (abs_c (by omega) (by omega) (by omega) (by omega)) ?_
            refine lv_isub hx hb dX1_findsFrom_120 ?_
            refine lv_eqi (y := nI (z_ - (w_ - (f_ 3).toInt).natAbs)) (pk_sub (by omega)) ?_
            refine lv_aload_n hx hb dX1_findsFrom_121 rfl (lv_at hl 6 rfl) ?_
            refine lv_iload hx hb dX1_findsFrom_122 (lv_at hl 7 rfl) ?_
            refine ca_V (q0 := 0) (n := 4) (rest := []) (wr := []) F hK hE hA hP hD hS hl.1 (kX1_findsFrom_4 (l := l) (D := D) (cy := cy) (sa := sa) c1_ a2_ n2_ (upd ftc_ 3 (iZ w_)) a1_ n1_ f_ (z_ - (w_ - (f_ 3).toInt).natAbs) k_ (by first | assumption | omega | decide) (by first | assumption | omega | decide) (by omega) (fun y hy => by by_cases hy2 : y = 3 <;> first | (rw [hy2, upd_at]; exact iZ_in (by decide) (by omega) (by omega)) | (rw [upd_ne _ _ hy2, hkp y (by omega)]; exact hft y (by omega)))) gX1_findsFrom_X1_findsFrom rfl rfl rfl rfl rfl rfl (by decide +kernel) ⟨by decide, by decide⟩ [0, 1, 2, 3, 4] [] rfl rfl rfl rfl (by decide) rfl rfl (Nat.le_of_ble_eq_true rfl) dX1_findsFrom_124 ⟨by decide, by decide⟩ (fun v9 u9 H locs hv hP hD hS => ?_)
            subst hv
            obtain ⟨hP, hD⟩ := re_ws (ws' := [(c1_, .inr (1, [.ref a2_])), (a2_, .inr (0, [.ref n2_])), (n2_, .inl (cy 0, 6, .inl ((ffR f_ k_ 2 (z_ - (w_ - (f_ 3).toInt).natAbs) (upd ftc_ 3 (iZ w_))).2))), (a1_, .inr (0, [.ref n1_])), (n1_, .inl (cy 0, 6, .inl f_))]) hP hD [0, 1, 2, 3, 4] rfl rfl
            refine W.eq (g2 := F0 m 127 ls [.int (bI ((ffR f_ k_ 2 (z_ - (w_ - (f_ 3).toInt).natAbs) (upd ftc_ 3 (iZ w_))).1 = true))]) rfl ?_
            refine bz_eq (tgt := 132) hx hb dX1_findsFrom_127 (by decide) (fun c_127 => ?_) (fun c_127 => ?_)
            · refine lv_iinc (v := iZ (w_ + 1)) (lv' := [(7, .int (iZ (w_ + 1))), (6, .int (iZ (hiZ f_ 3 z_))), (5, .int (f_ 3)), (0, .ref c1_), (1, .int 3), (2, .int (nI z_)), (3, .ref a1_), (4, .int (nI k_))]) hx hb dX1_findsFrom_132 hl (k := 0) rfl (iZ_s (by omega) (by omega)) (by decide) rfl (fun ls hl => ?_)
              refine lv_goto (tgt := 90) hx hb dX1_findsFrom_135 (by decide) ?_
              exact ih_90 (w_ + 1) (q_ - 1) ((ffR f_ k_ 2 (z_ - (w_ - (f_ 3).toInt).natAbs) (upd ftc_ 3 (iZ w_))).2) (by omega) (by omega) (by rw [show q_ = (q_ - 1) + 1 by omega, ffL, if_neg c_127] at hR; exact hR) (fun y hy => by rw [ffR_keep f_ k_ 2 (by decide) _ _ _ (by omega), upd_ne _ _ (by omega)]; exact hkp y hy) (by omega) H locs hP hD hS ls (lv_sub hl [0, 1, 2, 3, 4, 5, 6, 7] rfl)
            · refine lv_iconst (v := 1) hx hb dX1_findsFrom_130 (by decide) ?_
              have hfin : ffR f_ k_ 3 z_ ft_ = ffR f_ k_ 2 (z_ - (w_ - (f_ 3).toInt).natAbs) (upd ftc_ 3 (iZ w_)) := by rw [← hR, show q_ = (q_ - 1) + 1 by omega, ffL, if_pos c_127]
              obtain ⟨hP, hD⟩ := ro_ws (g := (ffR f_ k_ 3 z_ ft_).2) hP hD 2 rfl (fun z9 _ => congrFun (show (ffR f_ k_ 2 (z_ - (w_ - (f_ 3).toInt).natAbs) (upd ftc_ 3 (iZ w_))).2 = (ffR f_ k_ 3 z_ ft_).2 from by rw [hfin]) z9)
              have hP : va_P D vwCl [(c1_, .inr (1, [.ref a2_])), (a2_, .inr (0, [.ref n2_])), (n2_, .inl (cy 0, 6, .inl ((ffR f_ k_ 3 z_ ft_).2))), (a1_, .inr (0, [.ref n1_])), (n1_, .inl (cy 0, 6, .inl f_))] H := hP
              have hD : va_D A [(c1_, .inr (1, [.ref a2_])), (a2_, .inr (0, [.ref n2_])), (n2_, .inl (cy 0, 6, .inl ((ffR f_ k_ 3 z_ ft_).2))), (a1_, .inr (0, [.ref n1_])), (n1_, .inl (cy 0, 6, .inl f_))] := hD
              refine lv_eqi (y := bI ((ffR f_ k_ 3 z_ ft_).1 = true)) ((bI_t (by rw [hfin]; exact c_127)).symm) ?_
              exact RT _ _ () H locs 131 ls (rt_z (bI_nar _) dX1_findsFrom_131) rfl hP hD hS
      exact L_90 _ (loZ f_ 3 z_) ((hiZ f_ 3 z_ + 1 - loZ f_ 3 z_).toNat) ft_ (by omega) (Int.le_refl _) ((if_neg c_31).symm) (fun _ _ => rfl) (Nat.lt_succ_self _) H locs hP hD hS ls (lv_sub hl [0, 1, 2, 3, 4, 5, 6, 7] rfl)
    · refine lv_aload_n hx hb dX1_findsFrom_34 rfl (lv_at hl 0 rfl) ?_
      refine va_get (D := D) (ci := 1) (v := .ref a2_) (C := RX1) (T := TX1) (N := 1) hx hb hts winX1 hown hK hP 0 rfl rfl 0 (by decide) wf12 (fun _ h9 => h9) rfl dX1_findsFrom_35 ?_
      refine lv_iload_n hx hb dX1_findsFrom_38 rfl (lv_at hl 1 rfl) ?_
      refine lv_iconst (v := 0) hx hb dX1_findsFrom_39 (by decide) ?_
      refine ca_VN (C := RX0) (q0 := 1) (n := 2) (rest := []) (wr := [(c1_, .inr (1, [.ref a2_])), (a1_, .inr (0, [.ref n1_])), (n1_, .inl (cy 0, 6, .inl f_))]) F hK hE hA hP hD hS hl.1 (kX0_put (l := l) (D := D) (cy := cy) (sa := sa) a2_ n2_ ft_ 3 0 (by decide)) gX1_findsFrom_X0_put_n30 (hE.nest 38 rfl) wi_X0 wn_X0_put we_X0_put rfl rfl rfl rfl rfl rfl (by decide +kernel) ⟨by decide, by decide⟩ [1, 2] [0, 3, 4] rfl rfl rfl rfl (by decide) rfl rfl (Nat.le_of_ble_eq_true rfl) dX1_findsFrom_40 ⟨by decide, by decide⟩ (fun v9 u9 H locs hv hP hD hS => ?_)
      subst hv
      obtain ⟨hP, hD⟩ := re_ws (ws' := [(c1_, .inr (1, [.ref a2_])), (a2_, .inr (0, [.ref n2_])), (n2_, .inl (cy 0, 6, .inl (upd ft_ 3 0))), (a1_, .inr (0, [.ref n1_])), (n1_, .inl (cy 0, 6, .inl f_))]) hP hD [0, 3, 4, 1, 2] rfl rfl
      refine W.eq (g2 := F0 m 43 ls []) rfl ?_
      refine lv_aload_n hx hb dX1_findsFrom_43 rfl (lv_at hl 0 rfl) ?_
      refine lv_iload_n hx hb dX1_findsFrom_44 rfl (lv_at hl 1 rfl) ?_
      refine lv_iconst (v := 1) hx hb dX1_findsFrom_45 (by decide) ?_
      refine lv_iadd hx hb dX1_findsFrom_46 ?_
      refine lv_eqi (y := 4) rfl ?_
      refine lv_iload_n hx hb dX1_findsFrom_47 rfl (lv_at hl 2 rfl) ?_
      refine lv_aload_n hx hb dX1_findsFrom_48 rfl (lv_at hl 3 rfl) ?_
      refine lv_iload hx hb dX1_findsFrom_49 (lv_at hl 4 rfl) ?_
      refine ca_V (q0 := 0) (n := 4) (rest := []) (wr := []) F hK hE hA hP hD hS hl.1 (kX1_findsFrom_4 (l := l) (D := D) (cy := cy) (sa := sa) c1_ a2_ n2_ (upd ft_ 3 0) a1_ n1_ f_ z_ k_ (by first | assumption | omega | decide) (by first | assumption | omega | decide) (by first | assumption | omega | decide) (fun y hy => by by_cases hy2 : y = 3 <;> first | (rw [hy2, upd_at, c_31]; exact zero_in k_ hk) | (rw [upd_ne _ _ hy2]; exact hft y (by omega)))) gX1_findsFrom_X1_findsFrom rfl rfl rfl rfl rfl rfl (by decide +kernel) ⟨by decide, by decide⟩ [0, 1, 2, 3, 4] [] rfl rfl rfl rfl (by decide) rfl rfl (Nat.le_of_ble_eq_true rfl) dX1_findsFrom_51 ⟨by decide, by decide⟩ (fun v9 u9 H locs hv hP hD hS => ?_)
      subst hv
      obtain ⟨hP, hD⟩ := re_ws (ws' := [(c1_, .inr (1, [.ref a2_])), (a2_, .inr (0, [.ref n2_])), (n2_, .inl (cy 0, 6, .inl ((ffR f_ k_ 2 z_ (upd ft_ 3 0)).2))), (a1_, .inr (0, [.ref n1_])), (n1_, .inl (cy 0, 6, .inl f_))]) hP hD [0, 1, 2, 3, 4] rfl rfl
      refine W.eq (g2 := F0 m 54 ls [.int (bI ((ffR f_ k_ 2 z_ (upd ft_ 3 0)).1 = true))]) rfl ?_
      obtain ⟨hP, hD⟩ := ro_ws (g := (ffR f_ k_ 3 z_ ft_).2) hP hD 2 rfl (fun z9 _ => congrFun (show (ffR f_ k_ 2 z_ (upd ft_ 3 0)).2 = (ffR f_ k_ 3 z_ ft_).2 from congrArg (fun g => g.2) (show ffR f_ k_ 2 z_ (upd ft_ 3 0) = ffR f_ k_ 3 z_ ft_ from (if_pos c_31).symm)) z9)
      have hP : va_P D vwCl [(c1_, .inr (1, [.ref a2_])), (a2_, .inr (0, [.ref n2_])), (n2_, .inl (cy 0, 6, .inl ((ffR f_ k_ 3 z_ ft_).2))), (a1_, .inr (0, [.ref n1_])), (n1_, .inl (cy 0, 6, .inl f_))] H := hP
      have hD : va_D A [(c1_, .inr (1, [.ref a2_])), (a2_, .inr (0, [.ref n2_])), (n2_, .inl (cy 0, 6, .inl ((ffR f_ k_ 3 z_ ft_).2))), (a1_, .inr (0, [.ref n1_])), (n1_, .inl (cy 0, 6, .inl f_))] := hD
      refine lv_eqi (y := bI ((ffR f_ k_ 3 z_ ft_).1 = true)) (bI_congr (by rw [show ffR f_ k_ 3 z_ ft_ = ffR f_ k_ 2 z_ (upd ft_ 3 0) from if_pos c_31])) ?_
      exact RT _ _ () H locs 54 ls (rt_z (bI_nar _) dX1_findsFrom_54) rfl hP hD hS
  · exact absurd (by decide) c_3
abbrev rmkX1_findsFrom_2 : Room := { frames := 7, cells := 0, slots := 0, locals := 189 }
set_option maxHeartbeats 4000000 in
set_option maxRecDepth 100000 in
theorem kX1_findsFrom_2 {l : Launch} {D : va_G} {cy : Nat → ClassId} {sa : Nat → Nat} (c1_ : Nat) (a2_ : Nat) (n2_ : Nat) (ft_ : Nat → Int32) (a1_ : Nat) (n1_ : Nat) (f_ : Nat → Int32) (z_ : Nat) (k_ : Nat) (hok : okF f_) (hk : k_ < 3) (hz : z_ ≤ 6) (hft : ∀ y, y < 2 → inR (ft_ y) (bot (nI y)) 9) : CD l D cy sa yX1_findsFrom wsX1_findsFrom rmkX1_findsFrom_2 [.ref c1_, .int 2, .int (nI z_), .ref a1_, .int (nI k_)] [(c1_, .inr (1, [.ref a2_])), (a2_, .inr (0, [.ref n2_])), (n2_, .inl (cy 0, 6, .inl ft_)), (a1_, .inr (0, [.ref n1_])), (n1_, .inl (cy 0, 6, .inl f_))] (some (.int (bI ((ffR f_ k_ 4 z_ ft_).1 = true)))) [(c1_, .inr (1, [.ref a2_])), (a2_, .inr (0, [.ref n2_])), (n2_, .inl (cy 0, 6, .inl ((ffR f_ k_ 4 z_ ft_).2))), (a1_, .inr (0, [.ref n1_])), (n1_, .inl (cy 0, 6, .inl f_))] := by
  refine CT.of cX1_findsFrom 8 (some .boolean) (by decide +kernel) rfl (Nat.le_of_ble_eq_true rfl) ?_
  intro p e s m args below meth c A Q ls F hmn hK hE hA hP hD hS hl RT
  obtain ⟨hx, hb, hml, hown, hts⟩ := id F
  have wi_X0 := hts (.initialized RX0) (by decide +kernel)
  have wn_X0_valueOf := hts (.instanceMethod yX0_valueOf) (by decide +kernel)
  have we_X0_valueOf := hts (.selects RX0 yX0_valueOf yX0_valueOf) (by decide +kernel)
  have wm38 := hts (.methodLink RX1 38 Lib.Math.min.name) (by decide +kernel)
  have ws_min := hts (.static Lib.Math.min.name) (by decide +kernel)
  have wi_math := hts (.initialized "java/lang/Math") (by decide +kernel)
  have wk_min := hts (.code Lib.Math.min.name Lib.Math.min.code 2 (some .int)) (by decide +kernel)
  have wm47 := hts (.methodLink RX1 47 Lib.Math.max.name) (by decide +kernel)
  have ws_max := hts (.static Lib.Math.max.name) (by decide +kernel)
  have wk_max := hts (.code Lib.Math.max.name Lib.Math.max.code 2 (some .int)) (by decide +kernel)
  have winX1 : ∀ w_ ∈ u_ws RX1 TX1 1, w_ ∈ wsX1_findsFrom := by decide +kernel
  have wf12 := hts (.fieldLink RX1 12 "SelfSteer$Change" "tried" "LSelfSteer$Bicycle;") (by decide +kernel)
  have wn_X0_put := hts (.instanceMethod yX0_put) (by decide +kernel)
  have we_X0_put := hts (.selects RX0 yX0_put yX0_put) (by decide +kernel)
  have wm50 := hts (.methodLink RX1 50 Lib.Math.abs.name) (by decide +kernel)
  have ws_abs := hts (.static Lib.Math.abs.name) (by decide +kernel)
  have wk_abs := hts (.code Lib.Math.abs.name Lib.Math.abs.code 1 (some .int)) (by decide +kernel)
  have hl : lv_has ls 8 [(0, .ref c1_), (1, .int 2), (2, .int (nI z_)), (3, .ref a1_), (4, .int (nI k_))] := hl
  have hP : va_P D vwCl [(c1_, .inr (1, [.ref a2_])), (a2_, .inr (0, [.ref n2_])), (n2_, .inl (cy 0, 6, .inl ft_)), (a1_, .inr (0, [.ref n1_])), (n1_, .inl (cy 0, 6, .inl f_))] s.heap := hP
  have hD : va_D A [(c1_, .inr (1, [.ref a2_])), (a2_, .inr (0, [.ref n2_])), (n2_, .inl (cy 0, 6, .inl ft_)), (a1_, .inr (0, [.ref n1_])), (n1_, .inl (cy 0, 6, .inl f_))] := hD
  obtain ⟨H, hH⟩ : ∃ H0 : Heap, H0 = s.heap := ⟨_, rfl⟩
  obtain ⟨locs, hlo⟩ : ∃ L0 : List Loc, L0 = [] := ⟨_, rfl⟩
  have hS : va_S A s.heap H locs := by rw [hH, hlo]; exact hS
  rw [← hH] at hP
  show W p l e rmkX1_findsFrom_2 s m args below meth c s.heap [] 0 0 Q (F0 m 0 ls [])
  suffices hgo : W p l e rmkX1_findsFrom_2 s m args below meth c H locs 0 0 Q (F0 m 0 ls []) by rw [hH, hlo] at hgo; exact hgo
  clear hH hlo
  refine lv_iload_n hx hb dX1_findsFrom_0 rfl (lv_at hl 1 rfl) ?_
  refine lv_bipush (v := 6) hx hb dX1_findsFrom_1 (by decide) ?_
  refine lv_icmp_lt (tgt := 28) hx hb dX1_findsFrom_3 (by decide) (fun c_3 => ?_) (fun c_3 => ?_)
  · refine lv_iload_n hx hb dX1_findsFrom_28 rfl (lv_at hl 1 rfl) ?_
    refine lv_iload hx hb dX1_findsFrom_29 (lv_at hl 4 rfl) ?_
    refine cn_ne (tgt := 55) hx hb 2 k_ rfl rfl (by omega) (by omega) dX1_findsFrom_31 (by decide) (fun c_31 => ?_) (fun c_31 => ?_)
    · refine lv_aload_n hx hb dX1_findsFrom_55 rfl (lv_at hl 3 rfl) ?_
      refine lv_iload_n hx hb dX1_findsFrom_56 rfl (lv_at hl 1 rfl) ?_
      refine ca_VN (C := RX0) (q0 := 3) (n := 1) (rest := []) (wr := [(c1_, .inr (1, [.ref a2_])), (a2_, .inr (0, [.ref n2_])), (n2_, .inl (cy 0, 6, .inl ft_))]) F hK hE hA hP hD hS hl.1 (kX0_valueOf (l := l) (D := D) (cy := cy) (sa := sa) a1_ n1_ f_ 2 (by decide)) gX1_findsFrom_X0_valueOf_n22 (hE.nest 39 rfl) wi_X0 wn_X0_valueOf we_X0_valueOf rfl rfl rfl rfl rfl rfl (by decide +kernel) ⟨by decide, by decide⟩ [3, 4] [0, 1, 2] rfl rfl rfl rfl (by decide) rfl rfl (Nat.le_of_ble_eq_true rfl) dX1_findsFrom_57 ⟨by decide, by decide⟩ (fun v9 u9 H locs hv hP hD hS => ?_)
      subst hv
      obtain ⟨hP, hD⟩ := re_ws (ws' := [(c1_, .inr (1, [.ref a2_])), (a2_, .inr (0, [.ref n2_])), (n2_, .inl (cy 0, 6, .inl ft_)), (a1_, .inr (0, [.ref n1_])), (n1_, .inl (cy 0, 6, .inl f_))]) hP hD [0, 1, 2, 3, 4] rfl rfl
      refine W.eq (g2 := F0 m 60 ls [.int (f_ 2)]) rfl ?_
      refine lv_istore (lv' := [(5, .int (f_ 2)), (0, .ref c1_), (1, .int 2), (2, .int (nI z_)), (3, .ref a1_), (4, .int (nI k_))]) hx hb dX1_findsFrom_60 hl (by decide) rfl (fun ls hl => ?_)
      have hb1 := loZ_in hok (show 2 < 6 by decide) hz
      have hb2 := okF_low hok (show 2 < 6 by decide)
      have hb3 := lowZ_in 2 (by decide)
      refine va_getsN hx hb hE.2.1.1 hS hown (hE.nestB 40 rfl) (fun _ h9 => h9) dX1_findsFrom_62 ?_
      refine lv_iload_n hx hb dX1_findsFrom_65 rfl (lv_at hl 2 rfl) ?_
      refine al_s hx hb hE.2.1.2 hS 2 (rfl) (by decide) (by decide) dX1_findsFrom_66 ?_
      refine lv_iload hx hb dX1_findsFrom_67 (lv_at hl 0 rfl) ?_
      refine lv_iload_n hx hb dX1_findsFrom_69 rfl (lv_at hl 3 rfl) ?_
      refine lv_iadd hx hb dX1_findsFrom_70 ?_
      refine va_mmin hx hb (hml.trans hl.1.symm) hown wm38 ws_min wi_math wk_min (by decide) (Nat.le_of_ble_eq_true rfl) (Nat.zero_le _) (Nat.zero_le _) dX1_findsFrom_71 ?_
      refine lv_eqi (y := iZ (hiZ f_ 2 z_)) (hi_c hok (by decide) hz) ?_
      refine lv_istore (lv' := [(6, .int (iZ (hiZ f_ 2 z_))), (5, .int (f_ 2)), (0, .ref c1_), (1, .int 2), (2, .int (nI z_)), (3, .ref a1_), (4, .int (nI k_))]) hx hb dX1_findsFrom_74 hl (by decide) rfl (fun ls hl => ?_)
      refine va_getsN hx hb hE.1.1 hS hown (hE.nestB 41 rfl) (fun _ h9 => h9) dX1_findsFrom_76 ?_
      refine lv_iload_n hx hb dX1_findsFrom_79 rfl (lv_at hl 3 rfl) ?_
      refine al_s hx hb hE.1.2 hS 2 (rfl) (by decide) (by decide) dX1_findsFrom_80 ?_
      refine lv_iload hx hb dX1_findsFrom_81 (lv_at hl 1 rfl) ?_
      refine lv_iload_n hx hb dX1_findsFrom_83 rfl (lv_at hl 4 rfl) ?_
      refine lv_isub hx hb dX1_findsFrom_84 ?_
      refine va_mmax hx hb (hml.trans hl.1.symm) hown wm47 ws_max wi_math wk_max (by decide) (Nat.le_of_ble_eq_true rfl) (Nat.zero_le _) (Nat.zero_le _) dX1_findsFrom_85 ?_
      refine lv_eqi (y := iZ (loZ f_ 2 z_)) (lo_c hok (by decide) hz) ?_
      refine lv_istore (lv' := [(7, .int (iZ (loZ f_ 2 z_))), (6, .int (iZ (hiZ f_ 2 z_))), (5, .int (f_ 2)), (0, .ref c1_), (1, .int 2), (2, .int (nI z_)), (3, .ref a1_), (4, .int (nI k_))]) hx hb dX1_findsFrom_88 hl (by decide) rfl (fun ls hl => ?_)
      have L_90 : ∀ (nF : Nat) (w_ : Int) (q_ : Nat) (ftc_ : Nat → Int32), (w_ + q_ = hiZ f_ 2 z_ + 1) → (loZ f_ 2 z_ ≤ w_) → (ffL (ffR f_ k_ 3) (f_ 2).toInt 2 z_ q_ w_ ftc_ = ffR f_ k_ 4 z_ ft_) → (∀ y, y < 2 → ftc_ y = ft_ y) → q_ < nF → ∀ (H : Heap) (locs : List Loc), va_P D vwCl [(c1_, .inr (1, [.ref a2_])), (a2_, .inr (0, [.ref n2_])), (n2_, .inl (cy 0, 6, .inl ftc_)), (a1_, .inr (0, [.ref n1_])), (n1_, .inl (cy 0, 6, .inl f_))] H → va_D A [(c1_, .inr (1, [.ref a2_])), (a2_, .inr (0, [.ref n2_])), (n2_, .inl (cy 0, 6, .inl ftc_)), (a1_, .inr (0, [.ref n1_])), (n1_, .inl (cy 0, 6, .inl f_))] → va_S A s.heap H locs → ∀ (ls : Array Slot), lv_has ls 8 [(7, .int (iZ w_)), (6, .int (iZ (hiZ f_ 2 z_))), (5, .int (f_ 2)), (0, .ref c1_), (1, .int 2), (2, .int (nI z_)), (3, .ref a1_), (4, .int (nI k_))] → W p l e rmkX1_findsFrom_2 s m args below meth c H locs 0 0 Q (F0 m 90 ls []) := by
        intro nF
        induction nF with
        | zero => intro w_ q_ ftc_ hwq hlo hR hkp hnF; exact absurd hnF (Nat.not_lt_zero _)
        | succ nF ih_90 =>
          intro w_ q_ ftc_ hwq hlo hR hkp hn_90 H locs hP hD hS ls hl
          refine lv_iload hx hb dX1_findsFrom_90 (lv_at hl 0 rfl) ?_
          refine lv_iload hx hb dX1_findsFrom_92 (lv_at hl 1 rfl) ?_
          refine lv_icmp_gt (tgt := 138) hx hb dX1_findsFrom_94 (by decide) (fun c_94 => ?_) (fun c_94 => ?_)
          · have hgt : hiZ f_ 2 z_ < w_ := (iZ_lt (by omega) (by omega) (by omega) (by omega)).mp c_94
            refine lv_iconst (v := 0) hx hb dX1_findsFrom_138 (by decide) ?_
            have hfin : ffR f_ k_ 4 z_ ft_ = (false, ftc_) := by rw [← hR, show q_ = 0 by omega]; rfl
            obtain ⟨hP, hD⟩ := ro_ws (g := (ffR f_ k_ 4 z_ ft_).2) hP hD 2 rfl (fun z9 _ => congrFun (show ftc_ = (ffR f_ k_ 4 z_ ft_).2 from by rw [hfin]) z9)
            have hP : va_P D vwCl [(c1_, .inr (1, [.ref a2_])), (a2_, .inr (0, [.ref n2_])), (n2_, .inl (cy 0, 6, .inl ((ffR f_ k_ 4 z_ ft_).2))), (a1_, .inr (0, [.ref n1_])), (n1_, .inl (cy 0, 6, .inl f_))] H := hP
            have hD : va_D A [(c1_, .inr (1, [.ref a2_])), (a2_, .inr (0, [.ref n2_])), (n2_, .inl (cy 0, 6, .inl ((ffR f_ k_ 4 z_ ft_).2))), (a1_, .inr (0, [.ref n1_])), (n1_, .inl (cy 0, 6, .inl f_))] := hD
            refine lv_eqi (y := bI ((ffR f_ k_ 4 z_ ft_).1 = true)) ((bI_f (by rw [hfin]; exact Bool.false_ne_true)).symm) ?_
            exact RT _ _ () H locs 139 ls (rt_z (bI_nar _) dX1_findsFrom_139) rfl hP hD hS
          · have hle : w_ ≤ hiZ f_ 2 z_ := by rcases Int.lt_or_le (hiZ f_ 2 z_) w_ with y | y; exact absurd ((iZ_lt (by omega) (by omega) (by omega) (by omega)).mpr y) c_94; exact y
            refine lv_aload_n hx hb dX1_findsFrom_97 rfl (lv_at hl 3 rfl) ?_
            refine va_get (D := D) (ci := 1) (v := .ref a2_) (C := RX1) (T := TX1) (N := 1) hx hb hts winX1 hown hK hP 0 rfl rfl 0 (by decide) wf12 (fun _ h9 => h9) rfl dX1_findsFrom_98 ?_
            refine lv_iload_n hx hb dX1_findsFrom_101 rfl (lv_at hl 4 rfl) ?_
            refine lv_iload hx hb dX1_findsFrom_102 (lv_at hl 0 rfl) ?_
            refine ca_VN (C := RX0) (q0 := 1) (n := 2) (rest := []) (wr := [(c1_, .inr (1, [.ref a2_])), (a1_, .inr (0, [.ref n1_])), (n1_, .inl (cy 0, 6, .inl f_))]) F hK hE hA hP hD hS hl.1 (kX0_put (l := l) (D := D) (cy := cy) (sa := sa) a2_ n2_ ftc_ 2 (iZ w_) (by decide)) gX1_findsFrom_X0_put_n30 (hE.nest 38 rfl) wi_X0 wn_X0_put we_X0_put rfl rfl rfl rfl rfl rfl (by decide +kernel) ⟨by decide, by decide⟩ [1, 2] [0, 3, 4] rfl rfl rfl rfl (by decide) rfl rfl (Nat.le_of_ble_eq_true rfl) dX1_findsFrom_104 ⟨by decide, by decide⟩ (fun v9 u9 H locs hv hP hD hS => ?_)
            subst hv
            obtain ⟨hP, hD⟩ := re_ws (ws' := [(c1_, .inr (1, [.ref a2_])), (a2_, .inr (0, [.ref n2_])), (n2_, .inl (cy 0, 6, .inl (upd ftc_ 2 (iZ w_)))), (a1_, .inr (0, [.ref n1_])), (n1_, .inl (cy 0, 6, .inl f_))]) hP hD [0, 3, 4, 1, 2] rfl rfl
            refine W.eq (g2 := F0 m 107 ls []) rfl ?_
            refine lv_aload_n hx hb dX1_findsFrom_107 rfl (lv_at hl 3 rfl) ?_
            refine lv_iload_n hx hb dX1_findsFrom_108 rfl (lv_at hl 4 rfl) ?_
            refine lv_iconst (v := 1) hx hb dX1_findsFrom_109 (by decide) ?_
            refine lv_iadd hx hb dX1_findsFrom_110 ?_
            refine lv_eqi (y := 3) rfl ?_
            refine lv_iload_n hx hb dX1_findsFrom_111 rfl (lv_at hl 5 rfl) ?_
            refine lv_iload hx hb dX1_findsFrom_112 (lv_at hl 0 rfl) ?_
            refine lv_iload hx hb dX1_findsFrom_114 (lv_at hl 2 rfl) ?_
            refine lv_isub hx hb dX1_findsFrom_116 ?_
            refine va_mabs hx hb (hml.trans hl.1.symm) hown wm50 ws_abs wi_math wk_abs (by decide) (Nat.le_of_ble_eq_true rfl) (Nat.zero_le _) (Nat.zero_le _) dX1_findsFrom_117 ?_
            refine lv_eqi (y := nI ((w_ - (f_ 2).toInt).natAbs)) (abs_c (by omega) (by omega) (by omega) (by omega)) ?_
            refine lv_isub hx hb dX1_findsFrom_120 ?_
            refine lv_eqi (y := nI (z_ - (w_ - (f_ 2).toInt).natAbs)) (pk_sub (by omega)) ?_
            refine lv_aload_n hx hb dX1_findsFrom_121 rfl (lv_at hl 6 rfl) ?_
            refine lv_iload hx hb dX1_findsFrom_122 (lv_at hl 7 rfl) ?_
            refine ca_V (q0 := 0) (n := 4) (rest := []) (wr := []) F hK hE hA hP hD hS hl.1 (kX1_findsFrom_3 (l := l) (D := D) (cy := cy) (sa := sa) c1_ a2_ n2_ (upd ftc_ 2 (iZ w_)) a1_ n1_ f_ (z_ - (w_ - (f_ 2).toInt).natAbs) k_ (by first | assumption | omega | decide) (by first | assumption | omega | decide) (by omega) (fun y hy => by by_cases hy2 : y = 2 <;> first | (rw [hy2, upd_at]; exact iZ_in (by decide) (by omega) (by omega)) | (rw [upd_ne _ _ hy2, hkp y (by omega)]; exact hft y (by omega)))) gX1_findsFrom_X1_findsFrom rfl rfl rfl rfl rfl rfl (by decide +kernel) ⟨by decide, by decide⟩ [0, 1, 2, 3, 4] [] rfl rfl rfl rfl (by decide) rfl rfl (Nat.le_of_ble_eq_true rfl) dX1_findsFrom_124 ⟨by decide, by decide⟩ (fun v9 u9 H locs hv hP hD hS => ?_)
            subst hv
            obtain ⟨hP, hD⟩ := re_ws (ws' := [(c1_, .inr (1, [.ref a2_])), (a2_, .inr (0, [.ref n2_])), (n2_, .inl (cy 0, 6, .inl ((ffR f_ k_ 3 (z_ - (w_ - (f_ 2).toInt).natAbs) (upd ftc_ 2 (iZ w_))).2))), (a1_, .inr (0, [.ref n1_])), (n1_, .inl (cy 0, 6, .inl f_))]) hP hD [0, 1, 2, 3, 4] rfl rfl
            refine W.eq (g2 := F0 m 127 ls [.int (bI ((ffR f_ k_ 3 (z_ - (w_ - (f_ 2).toInt).natAbs) (upd ftc_ 2 (iZ w_))).1 = true))]) rfl ?_
            refine bz_eq (tgt := 132) hx hb dX1_findsFrom_127 (by decide) (fun c_127 => ?_) (fun c_127 => ?_)
            · refine lv_iinc (v := iZ (w_ + 1)) (lv' := [(7, .int (iZ (w_ + 1))), (6, .int (iZ (hiZ f_ 2 z_))), (5, .int (f_ 2)), (0, .ref c1_), (1, .int 2), (2, .int (nI z_)), (3, .ref a1_), (4, .int (nI k_))]) hx hb dX1_findsFrom_132 hl (k := 0) rfl (iZ_s (by omega) (by omega)) (by decide) rfl (fun ls hl => ?_)
              refine lv_goto (tgt := 90) hx hb dX1_findsFrom_135 (by decide) ?_
              exact ih_90 (w_ + 1) (q_ - 1) ((ffR f_ k_ 3 (z_ - (w_ - (f_ 2).toInt).natAbs) (upd ftc_ 2 (iZ w_))).2) (by omega) (by omega) (by rw [show q_ = (q_ - 1) + 1 by omega, ffL, if_neg c_127] at hR; exact hR) (fun y hy => by rw [ffR_keep f_ k_ 3 (by decide) _ _ _ (by omega), upd_ne _ _ (by omega)]; exact hkp y hy) (by omega) H locs hP hD hS ls (lv_sub hl [0, 1, 2, 3, 4, 5, 6, 7] rfl)
            · refine lv_iconst (v := 1) hx hb dX1_findsFrom_130 (by decide) ?_
              have hfin : ffR f_ k_ 4 z_ ft_ = ffR f_ k_ 3 (z_ - (w_ - (f_ 2).toInt).natAbs) (upd ftc_ 2 (iZ w_)) := by rw [← hR, show q_ = (q_ - 1) + 1 by omega, ffL, if_pos c_127]
              obtain ⟨hP, hD⟩ := ro_ws (g := (ffR f_ k_ 4 z_ ft_).2) hP hD 2 rfl (fun z9 _ => congrFun (show (ffR f_ k_ 3 (z_ - (w_ - (f_ 2).toInt).natAbs) (upd ftc_ 2 (iZ w_))).2 = (ffR f_ k_ 4 z_ ft_).2 from by rw [hfin]) z9)
              have hP : va_P D vwCl [(c1_, .inr (1, [.ref a2_])), (a2_, .inr (0, [.ref n2_])), (n2_, .inl (cy 0, 6, .inl ((ffR f_ k_ 4 z_ ft_).2))), (a1_, .inr (0, [.ref n1_])), (n1_, .inl (cy 0, 6, .inl f_))] H := hP
              have hD : va_D A [(c1_, .inr (1, [.ref a2_])), (a2_, .inr (0, [.ref n2_])), (n2_, .inl (cy 0, 6, .inl ((ffR f_ k_ 4 z_ ft_).2))), (a1_, .inr (0, [.ref n1_])), (n1_, .inl (cy 0, 6, .inl f_))] := hD
              refine lv_eqi (y := bI ((ffR f_ k_ 4 z_ ft_).1 = true)) ((bI_t (by rw [hfin]; exact c_127)).symm) ?_
              exact RT _ _ () H locs 131 ls (rt_z (bI_nar _) dX1_findsFrom_131) rfl hP hD hS
      exact L_90 _ (loZ f_ 2 z_) ((hiZ f_ 2 z_ + 1 - loZ f_ 2 z_).toNat) ft_ (by omega) (Int.le_refl _) ((if_neg c_31).symm) (fun _ _ => rfl) (Nat.lt_succ_self _) H locs hP hD hS ls (lv_sub hl [0, 1, 2, 3, 4, 5, 6, 7] rfl)
    · refine lv_aload_n hx hb dX1_findsFrom_34 rfl (lv_at hl 0 rfl) ?_
      refine va_get (D := D) (ci := 1) (v := .ref a2_) (C := RX1) (T := TX1) (N := 1) hx hb hts winX1 hown hK hP 0 rfl rfl 0 (by decide) wf12 (fun _ h9 => h9) rfl dX1_findsFrom_35 ?_
      refine lv_iload_n hx hb dX1_findsFrom_38 rfl (lv_at hl 1 rfl) ?_
      refine lv_iconst (v := 0) hx hb dX1_findsFrom_39 (by decide) ?_
      refine ca_VN (C := RX0) (q0 := 1) (n := 2) (rest := []) (wr := [(c1_, .inr (1, [.ref a2_])), (a1_, .inr (0, [.ref n1_])), (n1_, .inl (cy 0, 6, .inl f_))]) F hK hE hA hP hD hS hl.1 (kX0_put (l := l) (D := D) (cy := cy) (sa := sa) a2_ n2_ ft_ 2 0 (by decide)) gX1_findsFrom_X0_put_n30 (hE.nest 38 rfl) wi_X0 wn_X0_put we_X0_put rfl rfl rfl rfl rfl rfl (by decide +kernel) ⟨by decide, by decide⟩ [1, 2] [0, 3, 4] rfl rfl rfl rfl (by decide) rfl rfl (Nat.le_of_ble_eq_true rfl) dX1_findsFrom_40 ⟨by decide, by decide⟩ (fun v9 u9 H locs hv hP hD hS => ?_)
      subst hv
      obtain ⟨hP, hD⟩ := re_ws (ws' := [(c1_, .inr (1, [.ref a2_])), (a2_, .inr (0, [.ref n2_])), (n2_, .inl (cy 0, 6, .inl (upd ft_ 2 0))), (a1_, .inr (0, [.ref n1_])), (n1_, .inl (cy 0, 6, .inl f_))]) hP hD [0, 3, 4, 1, 2] rfl rfl
      refine W.eq (g2 := F0 m 43 ls []) rfl ?_
      refine lv_aload_n hx hb dX1_findsFrom_43 rfl (lv_at hl 0 rfl) ?_
      refine lv_iload_n hx hb dX1_findsFrom_44 rfl (lv_at hl 1 rfl) ?_
      refine lv_iconst (v := 1) hx hb dX1_findsFrom_45 (by decide) ?_
      refine lv_iadd hx hb dX1_findsFrom_46 ?_
      refine lv_eqi (y := 3) rfl ?_
      refine lv_iload_n hx hb dX1_findsFrom_47 rfl (lv_at hl 2 rfl) ?_
      refine lv_aload_n hx hb dX1_findsFrom_48 rfl (lv_at hl 3 rfl) ?_
      refine lv_iload hx hb dX1_findsFrom_49 (lv_at hl 4 rfl) ?_
      refine ca_V (q0 := 0) (n := 4) (rest := []) (wr := []) F hK hE hA hP hD hS hl.1 (kX1_findsFrom_3 (l := l) (D := D) (cy := cy) (sa := sa) c1_ a2_ n2_ (upd ft_ 2 0) a1_ n1_ f_ z_ k_ (by first | assumption | omega | decide) (by first | assumption | omega | decide) (by first | assumption | omega | decide) (fun y hy => by by_cases hy2 : y = 2 <;> first | (rw [hy2, upd_at, c_31]; exact zero_in k_ hk) | (rw [upd_ne _ _ hy2]; exact hft y (by omega)))) gX1_findsFrom_X1_findsFrom rfl rfl rfl rfl rfl rfl (by decide +kernel) ⟨by decide, by decide⟩ [0, 1, 2, 3, 4] [] rfl rfl rfl rfl (by decide) rfl rfl (Nat.le_of_ble_eq_true rfl) dX1_findsFrom_51 ⟨by decide, by decide⟩ (fun v9 u9 H locs hv hP hD hS => ?_)
      subst hv
      obtain ⟨hP, hD⟩ := re_ws (ws' := [(c1_, .inr (1, [.ref a2_])), (a2_, .inr (0, [.ref n2_])), (n2_, .inl (cy 0, 6, .inl ((ffR f_ k_ 3 z_ (upd ft_ 2 0)).2))), (a1_, .inr (0, [.ref n1_])), (n1_, .inl (cy 0, 6, .inl f_))]) hP hD [0, 1, 2, 3, 4] rfl rfl
      refine W.eq (g2 := F0 m 54 ls [.int (bI ((ffR f_ k_ 3 z_ (upd ft_ 2 0)).1 = true))]) rfl ?_
      obtain ⟨hP, hD⟩ := ro_ws (g := (ffR f_ k_ 4 z_ ft_).2) hP hD 2 rfl (fun z9 _ => congrFun (show (ffR f_ k_ 3 z_ (upd ft_ 2 0)).2 = (ffR f_ k_ 4 z_ ft_).2 from congrArg (fun g => g.2) (show ffR f_ k_ 3 z_ (upd ft_ 2 0) = ffR f_ k_ 4 z_ ft_ from (if_pos c_31).symm)) z9)
      have hP : va_P D vwCl [(c1_, .inr (1, [.ref a2_])), (a2_, .inr (0, [.ref n2_])), (n2_, .inl (cy 0, 6, .inl ((ffR f_ k_ 4 z_ ft_).2))), (a1_, .inr (0, [.ref n1_])), (n1_, .inl (cy 0, 6, .inl f_))] H := hP
      have hD : va_D A [(c1_, .inr (1, [.ref a2_])), (a2_, .inr (0, [.ref n2_])), (n2_, .inl (cy 0, 6, .inl ((ffR f_ k_ 4 z_ ft_).2))), (a1_, .inr (0, [.ref n1_])), (n1_, .inl (cy 0, 6, .inl f_))] := hD
      refine lv_eqi (y := bI ((ffR f_ k_ 4 z_ ft_).1 = true)) (bI_congr (by rw [show ffR f_ k_ 4 z_ ft_ = ffR f_ k_ 3 z_ (upd ft_ 2 0) from if_pos c_31])) ?_
      exact RT _ _ () H locs 54 ls (rt_z (bI_nar _) dX1_findsFrom_54) rfl hP hD hS
  · exact absurd (by decide) c_3
abbrev rmkX1_findsFrom_1 : Room := { frames := 8, cells := 0, slots := 0, locals := 216 }
set_option maxHeartbeats 4000000 in
set_option maxRecDepth 100000 in
theorem kX1_findsFrom_1 {l : Launch} {D : va_G} {cy : Nat → ClassId} {sa : Nat → Nat} (c1_ : Nat) (a2_ : Nat) (n2_ : Nat) (ft_ : Nat → Int32) (a1_ : Nat) (n1_ : Nat) (f_ : Nat → Int32) (z_ : Nat) (k_ : Nat) (hok : okF f_) (hk : k_ < 3) (hz : z_ ≤ 6) (hft : ∀ y, y < 1 → inR (ft_ y) (bot (nI y)) 9) : CD l D cy sa yX1_findsFrom wsX1_findsFrom rmkX1_findsFrom_1 [.ref c1_, .int 1, .int (nI z_), .ref a1_, .int (nI k_)] [(c1_, .inr (1, [.ref a2_])), (a2_, .inr (0, [.ref n2_])), (n2_, .inl (cy 0, 6, .inl ft_)), (a1_, .inr (0, [.ref n1_])), (n1_, .inl (cy 0, 6, .inl f_))] (some (.int (bI ((ffR f_ k_ 5 z_ ft_).1 = true)))) [(c1_, .inr (1, [.ref a2_])), (a2_, .inr (0, [.ref n2_])), (n2_, .inl (cy 0, 6, .inl ((ffR f_ k_ 5 z_ ft_).2))), (a1_, .inr (0, [.ref n1_])), (n1_, .inl (cy 0, 6, .inl f_))] := by
  refine CT.of cX1_findsFrom 8 (some .boolean) (by decide +kernel) rfl (Nat.le_of_ble_eq_true rfl) ?_
  intro p e s m args below meth c A Q ls F hmn hK hE hA hP hD hS hl RT
  obtain ⟨hx, hb, hml, hown, hts⟩ := id F
  have wi_X0 := hts (.initialized RX0) (by decide +kernel)
  have wn_X0_valueOf := hts (.instanceMethod yX0_valueOf) (by decide +kernel)
  have we_X0_valueOf := hts (.selects RX0 yX0_valueOf yX0_valueOf) (by decide +kernel)
  have wm38 := hts (.methodLink RX1 38 Lib.Math.min.name) (by decide +kernel)
  have ws_min := hts (.static Lib.Math.min.name) (by decide +kernel)
  have wi_math := hts (.initialized "java/lang/Math") (by decide +kernel)
  have wk_min := hts (.code Lib.Math.min.name Lib.Math.min.code 2 (some .int)) (by decide +kernel)
  have wm47 := hts (.methodLink RX1 47 Lib.Math.max.name) (by decide +kernel)
  have ws_max := hts (.static Lib.Math.max.name) (by decide +kernel)
  have wk_max := hts (.code Lib.Math.max.name Lib.Math.max.code 2 (some .int)) (by decide +kernel)
  have winX1 : ∀ w_ ∈ u_ws RX1 TX1 1, w_ ∈ wsX1_findsFrom := by decide +kernel
  have wf12 := hts (.fieldLink RX1 12 "SelfSteer$Change" "tried" "LSelfSteer$Bicycle;") (by decide +kernel)
  have wn_X0_put := hts (.instanceMethod yX0_put) (by decide +kernel)
  have we_X0_put := hts (.selects RX0 yX0_put yX0_put) (by decide +kernel)
  have wm50 := hts (.methodLink RX1 50 Lib.Math.abs.name) (by decide +kernel)
  have ws_abs := hts (.static Lib.Math.abs.name) (by decide +kernel)
  have wk_abs := hts (.code Lib.Math.abs.name Lib.Math.abs.code 1 (some .int)) (by decide +kernel)
  have hl : lv_has ls 8 [(0, .ref c1_), (1, .int 1), (2, .int (nI z_)), (3, .ref a1_), (4, .int (nI k_))] := hl
  have hP : va_P D vwCl [(c1_, .inr (1, [.ref a2_])), (a2_, .inr (0, [.ref n2_])), (n2_, .inl (cy 0, 6, .inl ft_)), (a1_, .inr (0, [.ref n1_])), (n1_, .inl (cy 0, 6, .inl f_))] s.heap := hP
  have hD : va_D A [(c1_, .inr (1, [.ref a2_])), (a2_, .inr (0, [.ref n2_])), (n2_, .inl (cy 0, 6, .inl ft_)), (a1_, .inr (0, [.ref n1_])), (n1_, .inl (cy 0, 6, .inl f_))] := hD
  obtain ⟨H, hH⟩ : ∃ H0 : Heap, H0 = s.heap := ⟨_, rfl⟩
  obtain ⟨locs, hlo⟩ : ∃ L0 : List Loc, L0 = [] := ⟨_, rfl⟩
  have hS : va_S A s.heap H locs := by rw [hH, hlo]; exact hS
  rw [← hH] at hP
  show W p l e rmkX1_findsFrom_1 s m args below meth c s.heap [] 0 0 Q (F0 m 0 ls [])
  suffices hgo : W p l e rmkX1_findsFrom_1 s m args below meth c H locs 0 0 Q (F0 m 0 ls []) by rw [hH, hlo] at hgo; exact hgo
  clear hH hlo
  refine lv_iload_n hx hb dX1_findsFrom_0 rfl (lv_at hl 1 rfl) ?_
  refine lv_bipush (v := 6) hx hb dX1_findsFrom_1 (by decide) ?_
  refine lv_icmp_lt (tgt := 28) hx hb dX1_findsFrom_3 (by decide) (fun c_3 => ?_) (fun c_3 => ?_)
  · refine lv_iload_n hx hb dX1_findsFrom_28 rfl (lv_at hl 1 rfl) ?_
    refine lv_iload hx hb dX1_findsFrom_29 (lv_at hl 4 rfl) ?_
    refine cn_ne (tgt := 55) hx hb 1 k_ rfl rfl (by omega) (by omega) dX1_findsFrom_31 (by decide) (fun c_31 => ?_) (fun c_31 => ?_)
    · refine lv_aload_n hx hb dX1_findsFrom_55 rfl (lv_at hl 3 rfl) ?_
      refine lv_iload_n hx hb dX1_findsFrom_56 rfl (lv_at hl 1 rfl) ?_
      refine ca_VN (C := RX0) (q0 := 3) (n := 1) (rest := []) (wr := [(c1_, .inr (1, [.ref a2_])), (a2_, .inr (0, [.ref n2_])), (n2_, .inl (cy 0, 6, .inl ft_))]) F hK hE hA hP hD hS hl.1 (kX0_valueOf (l := l) (D := D) (cy := cy) (sa := sa) a1_ n1_ f_ 1 (by decide)) gX1_findsFrom_X0_valueOf_n22 (hE.nest 39 rfl) wi_X0 wn_X0_valueOf we_X0_valueOf rfl rfl rfl rfl rfl rfl (by decide +kernel) ⟨by decide, by decide⟩ [3, 4] [0, 1, 2] rfl rfl rfl rfl (by decide) rfl rfl (Nat.le_of_ble_eq_true rfl) dX1_findsFrom_57 ⟨by decide, by decide⟩ (fun v9 u9 H locs hv hP hD hS => ?_)
      subst hv
      obtain ⟨hP, hD⟩ := re_ws (ws' := [(c1_, .inr (1, [.ref a2_])), (a2_, .inr (0, [.ref n2_])), (n2_, .inl (cy 0, 6, .inl ft_)), (a1_, .inr (0, [.ref n1_])), (n1_, .inl (cy 0, 6, .inl f_))]) hP hD [0, 1, 2, 3, 4] rfl rfl
      refine W.eq (g2 := F0 m 60 ls [.int (f_ 1)]) rfl ?_
      refine lv_istore (lv' := [(5, .int (f_ 1)), (0, .ref c1_), (1, .int 1), (2, .int (nI z_)), (3, .ref a1_), (4, .int (nI k_))]) hx hb dX1_findsFrom_60 hl (by decide) rfl (fun ls hl => ?_)
      have hb1 := loZ_in hok (show 1 < 6 by decide) hz
      have hb2 := okF_low hok (show 1 < 6 by decide)
      have hb3 := lowZ_in 1 (by decide)
      refine va_getsN hx hb hE.2.1.1 hS hown (hE.nestB 40 rfl) (fun _ h9 => h9) dX1_findsFrom_62 ?_
      refine lv_iload_n hx hb dX1_findsFrom_65 rfl (lv_at hl 2 rfl) ?_
      refine al_s hx hb hE.2.1.2 hS 1 (rfl) (by decide) (by decide) dX1_findsFrom_66 ?_
      refine lv_iload hx hb dX1_findsFrom_67 (lv_at hl 0 rfl) ?_
      refine lv_iload_n hx hb dX1_findsFrom_69 rfl (lv_at hl 3 rfl) ?_
      refine lv_iadd hx hb dX1_findsFrom_70 ?_
      refine va_mmin hx hb (hml.trans hl.1.symm) hown wm38 ws_min wi_math wk_min (by decide) (Nat.le_of_ble_eq_true rfl) (Nat.zero_le _) (Nat.zero_le _) dX1_findsFrom_71 ?_
      refine lv_eqi (y := iZ (hiZ f_ 1 z_)) (hi_c hok (by decide) hz) ?_
      refine lv_istore (lv' := [(6, .int (iZ (hiZ f_ 1 z_))), (5, .int (f_ 1)), (0, .ref c1_), (1, .int 1), (2, .int (nI z_)), (3, .ref a1_), (4, .int (nI k_))]) hx hb dX1_findsFrom_74 hl (by decide) rfl (fun ls hl => ?_)
      refine va_getsN hx hb hE.1.1 hS hown (hE.nestB 41 rfl) (fun _ h9 => h9) dX1_findsFrom_76 ?_
      refine lv_iload_n hx hb dX1_findsFrom_79 rfl (lv_at hl 3 rfl) ?_
      refine al_s hx hb hE.1.2 hS 1 (rfl) (by decide) (by decide) dX1_findsFrom_80 ?_
      refine lv_iload hx hb dX1_findsFrom_81 (lv_at hl 1 rfl) ?_
      refine lv_iload_n hx hb dX1_findsFrom_83 rfl (lv_at hl 4 rfl) ?_
      refine lv_isub hx hb dX1_findsFrom_84 ?_
      refine va_mmax hx hb (hml.trans hl.1.symm) hown wm47 ws_max wi_math wk_max (by decide) (Nat.le_of_ble_eq_true rfl) (Nat.zero_le _) (Nat.zero_le _) dX1_findsFrom_85 ?_
      refine lv_eqi (y := iZ (loZ f_ 1 z_)) (lo_c hok (by decide) hz) ?_
      refine lv_istore (lv' := [(7, .int (iZ (loZ f_ 1 z_))), (6, .int (iZ (hiZ f_ 1 z_))), (5, .int (f_ 1)), (0, .ref c1_), (1, .int 1), (2, .int (nI z_)), (3, .ref a1_), (4, .int (nI k_))]) hx hb dX1_findsFrom_88 hl (by decide) rfl (fun ls hl => ?_)
      have L_90 : ∀ (nF : Nat) (w_ : Int) (q_ : Nat) (ftc_ : Nat → Int32), (w_ + q_ = hiZ f_ 1 z_ + 1) → (loZ f_ 1 z_ ≤ w_) → (ffL (ffR f_ k_ 4) (f_ 1).toInt 1 z_ q_ w_ ftc_ = ffR f_ k_ 5 z_ ft_) → (∀ y, y < 1 → ftc_ y = ft_ y) → q_ < nF → ∀ (H : Heap) (locs : List Loc), va_P D vwCl [(c1_, .inr (1, [.ref a2_])), (a2_, .inr (0, [.ref n2_])), (n2_, .inl (cy 0, 6, .inl ftc_)), (a1_, .inr (0, [.ref n1_])), (n1_, .inl (cy 0, 6, .inl f_))] H → va_D A [(c1_, .inr (1, [.ref a2_])), (a2_, .inr (0, [.ref n2_])), (n2_, .inl (cy 0, 6, .inl ftc_)), (a1_, .inr (0, [.ref n1_])), (n1_, .inl (cy 0, 6, .inl f_))] → va_S A s.heap H locs → ∀ (ls : Array Slot), lv_has ls 8 [(7, .int (iZ w_)), (6, .int (iZ (hiZ f_ 1 z_))), (5, .int (f_ 1)), (0, .ref c1_), (1, .int 1), (2, .int (nI z_)), (3, .ref a1_), (4, .int (nI k_))] → W p l e rmkX1_findsFrom_1 s m args below meth c H locs 0 0 Q (F0 m 90 ls []) := by
        intro nF
        induction nF with
        | zero => intro w_ q_ ftc_ hwq hlo hR hkp hnF; exact absurd hnF (Nat.not_lt_zero _)
        | succ nF ih_90 =>
          intro w_ q_ ftc_ hwq hlo hR hkp hn_90 H locs hP hD hS ls hl
          refine lv_iload hx hb dX1_findsFrom_90 (lv_at hl 0 rfl) ?_
          refine lv_iload hx hb dX1_findsFrom_92 (lv_at hl 1 rfl) ?_
          refine lv_icmp_gt (tgt := 138) hx hb dX1_findsFrom_94 (by decide) (fun c_94 => ?_) (fun c_94 => ?_)
          · have hgt : hiZ f_ 1 z_ < w_ := (iZ_lt (by omega) (by omega) (by omega) (by omega)).mp c_94
            refine lv_iconst (v := 0) hx hb dX1_findsFrom_138 (by decide) ?_
            have hfin : ffR f_ k_ 5 z_ ft_ = (false, ftc_) := by rw [← hR, show q_ = 0 by omega]; rfl
            obtain ⟨hP, hD⟩ := ro_ws (g := (ffR f_ k_ 5 z_ ft_).2) hP hD 2 rfl (fun z9 _ => congrFun (show ftc_ = (ffR f_ k_ 5 z_ ft_).2 from by rw [hfin]) z9)
            have hP : va_P D vwCl [(c1_, .inr (1, [.ref a2_])), (a2_, .inr (0, [.ref n2_])), (n2_, .inl (cy 0, 6, .inl ((ffR f_ k_ 5 z_ ft_).2))), (a1_, .inr (0, [.ref n1_])), (n1_, .inl (cy 0, 6, .inl f_))] H := hP
            have hD : va_D A [(c1_, .inr (1, [.ref a2_])), (a2_, .inr (0, [.ref n2_])), (n2_, .inl (cy 0, 6, .inl ((ffR f_ k_ 5 z_ ft_).2))), (a1_, .inr (0, [.ref n1_])), (n1_, .inl (cy 0, 6, .inl f_))] := hD
            refine lv_eqi (y := bI ((ffR f_ k_ 5 z_ ft_).1 = true)) ((bI_f (by rw [hfin]; exact Bool.false_ne_true)).symm) ?_
            exact RT _ _ () H locs 139 ls (rt_z (bI_nar _) dX1_findsFrom_139) rfl hP hD hS
          · have hle : w_ ≤ hiZ f_ 1 z_ := by rcases Int.lt_or_le (hiZ f_ 1 z_) w_ with y | y; exact absurd ((iZ_lt (by omega) (by omega) (by omega) (by omega)).mpr y) c_94; exact y
            refine lv_aload_n hx hb dX1_findsFrom_97 rfl (lv_at hl 3 rfl) ?_
            refine va_get (D := D) (ci := 1) (v := .ref a2_) (C := RX1) (T := TX1) (N := 1) hx hb hts winX1 hown hK hP 0 rfl rfl 0 (by decide) wf12 (fun _ h9 => h9) rfl dX1_findsFrom_98 ?_
            refine lv_iload_n hx hb dX1_findsFrom_101 rfl (lv_at hl 4 rfl) ?_
            refine lv_iload hx hb dX1_findsFrom_102 (lv_at hl 0 rfl) ?_
            refine ca_VN (C := RX0) (q0 := 1) (n := 2) (rest := []) (wr := [(c1_, .inr (1, [.ref a2_])), (a1_, .inr (0, [.ref n1_])), (n1_, .inl (cy 0, 6, .inl f_))]) F hK hE hA hP hD hS hl.1 (kX0_put (l := l) (D := D) (cy := cy) (sa := sa) a2_ n2_ ftc_ 1 (iZ w_) (by decide)) gX1_findsFrom_X0_put_n30 (hE.nest 38 rfl) wi_X0 wn_X0_put we_X0_put rfl rfl rfl rfl rfl rfl (by decide +kernel) ⟨by decide, by decide⟩ [1, 2] [0, 3, 4] rfl rfl rfl rfl (by decide) rfl rfl (Nat.le_of_ble_eq_true rfl) dX1_findsFrom_104 ⟨by decide, by decide⟩ (fun v9 u9 H locs hv hP hD hS => ?_)
            subst hv
            obtain ⟨hP, hD⟩ := re_ws (ws' := [(c1_, .inr (1, [.ref a2_])), (a2_, .inr (0, [.ref n2_])), (n2_, .inl (cy 0, 6, .inl (upd ftc_ 1 (iZ w_)))), (a1_, .inr (0, [.ref n1_])), (n1_, .inl (cy 0, 6, .inl f_))]) hP hD [0, 3, 4, 1, 2] rfl rfl
            refine W.eq (g2 := F0 m 107 ls []) rfl ?_
            refine lv_aload_n hx hb dX1_findsFrom_107 rfl (lv_at hl 3 rfl) ?_
            refine lv_iload_n hx hb dX1_findsFrom_108 rfl (lv_at hl 4 rfl) ?_
            refine lv_iconst (v := 1) hx hb dX1_findsFrom_109 (by decide) ?_
            refine lv_iadd hx hb dX1_findsFrom_110 ?_
            refine lv_eqi (y := 2) rfl ?_
            refine lv_iload_n hx hb dX1_findsFrom_111 rfl (lv_at hl 5 rfl) ?_
            refine lv_iload hx hb dX1_findsFrom_112 (lv_at hl 0 rfl) ?_
            refine lv_iload hx hb dX1_findsFrom_114 (lv_at hl 2 rfl) ?_
            refine lv_isub hx hb dX1_findsFrom_116 ?_
            refine va_mabs hx hb (hml.trans hl.1.symm) hown wm50 ws_abs wi_math wk_abs (by decide) (Nat.le_of_ble_eq_true rfl) (Nat.zero_le _) (Nat.zero_le _) dX1_findsFrom_117 ?_
            refine lv_eqi (y := nI ((w_ - (f_ 1).toInt).natAbs)) (abs_c (by omega) (by omega) (by omega) (by omega)) ?_
            refine lv_isub hx hb dX1_findsFrom_120 ?_
            refine lv_eqi (y := nI (z_ - (w_ - (f_ 1).toInt).natAbs)) (pk_sub (by omega)) ?_
            refine lv_aload_n hx hb dX1_findsFrom_121 rfl (lv_at hl 6 rfl) ?_
            refine lv_iload hx hb dX1_findsFrom_122 (lv_at hl 7 rfl) ?_
            refine ca_V (q0 := 0) (n := 4) (rest := []) (wr := []) F hK hE hA hP hD hS hl.1 (kX1_findsFrom_2 (l := l) (D := D) (cy := cy) (sa := sa) c1_ a2_ n2_ (upd ftc_ 1 (iZ w_)) a1_ n1_ f_ (z_ - (w_ - (f_ 1).toInt).natAbs) k_ (by first | assumption | omega | decide) (by first | assumption | omega | decide) (by omega) (fun y hy => by by_cases hy2 : y = 1 <;> first | (rw [hy2, upd_at]; exact iZ_in (by decide) (by omega) (by omega)) | (rw [upd_ne _ _ hy2, hkp y (by omega)]; exact hft y (by omega)))) gX1_findsFrom_X1_findsFrom rfl rfl rfl rfl rfl rfl (by decide +kernel) ⟨by decide, by decide⟩ [0, 1, 2, 3, 4] [] rfl rfl rfl rfl (by decide) rfl rfl (Nat.le_of_ble_eq_true rfl) dX1_findsFrom_124 ⟨by decide, by decide⟩ (fun v9 u9 H locs hv hP hD hS => ?_)
            subst hv
            obtain ⟨hP, hD⟩ := re_ws (ws' := [(c1_, .inr (1, [.ref a2_])), (a2_, .inr (0, [.ref n2_])), (n2_, .inl (cy 0, 6, .inl ((ffR f_ k_ 4 (z_ - (w_ - (f_ 1).toInt).natAbs) (upd ftc_ 1 (iZ w_))).2))), (a1_, .inr (0, [.ref n1_])), (n1_, .inl (cy 0, 6, .inl f_))]) hP hD [0, 1, 2, 3, 4] rfl rfl
            refine W.eq (g2 := F0 m 127 ls [.int (bI ((ffR f_ k_ 4 (z_ - (w_ - (f_ 1).toInt).natAbs) (upd ftc_ 1 (iZ w_))).1 = true))]) rfl ?_
            refine bz_eq (tgt := 132) hx hb dX1_findsFrom_127 (by decide) (fun c_127 => ?_) (fun c_127 => ?_)
            · refine lv_iinc (v := iZ (w_ + 1)) (lv' := [(7, .int (iZ (w_ + 1))), (6, .int (iZ (hiZ f_ 1 z_))), (5, .int (f_ 1)), (0, .ref c1_), (1, .int 1), (2, .int (nI z_)), (3, .ref a1_), (4, .int (nI k_))]) hx hb dX1_findsFrom_132 hl (k := 0) rfl (iZ_s (by omega) (by omega)) (by decide) rfl (fun ls hl => ?_)
              refine lv_goto (tgt := 90) hx hb dX1_findsFrom_135 (by decide) ?_
              exact ih_90 (w_ + 1) (q_ - 1) ((ffR f_ k_ 4 (z_ - (w_ - (f_ 1).toInt).natAbs) (upd ftc_ 1 (iZ w_))).2) (by omega) (by omega) (by rw [show q_ = (q_ - 1) + 1 by omega, ffL, if_neg c_127] at hR; exact hR) (fun y hy => by rw [ffR_keep f_ k_ 4 (by decide) _ _ _ (by omega), upd_ne _ _ (by omega)]; exact hkp y hy) (by omega) H locs hP hD hS ls (lv_sub hl [0, 1, 2, 3, 4, 5, 6, 7] rfl)
            · refine lv_iconst (v := 1) hx hb dX1_findsFrom_130 (by decide) ?_
              have hfin : ffR f_ k_ 5 z_ ft_ = ffR f_ k_ 4 (z_ - (w_ - (f_ 1).toInt).natAbs) (upd ftc_ 1 (iZ w_)) := by rw [← hR, show q_ = (q_ - 1) + 1 by omega, ffL, if_pos c_127]
              obtain ⟨hP, hD⟩ := ro_ws (g := (ffR f_ k_ 5 z_ ft_).2) hP hD 2 rfl (fun z9 _ => congrFun (show (ffR f_ k_ 4 (z_ - (w_ - (f_ 1).toInt).natAbs) (upd ftc_ 1 (iZ w_))).2 = (ffR f_ k_ 5 z_ ft_).2 from by rw [hfin]) z9)
              have hP : va_P D vwCl [(c1_, .inr (1, [.ref a2_])), (a2_, .inr (0, [.ref n2_])), (n2_, .inl (cy 0, 6, .inl ((ffR f_ k_ 5 z_ ft_).2))), (a1_, .inr (0, [.ref n1_])), (n1_, .inl (cy 0, 6, .inl f_))] H := hP
              have hD : va_D A [(c1_, .inr (1, [.ref a2_])), (a2_, .inr (0, [.ref n2_])), (n2_, .inl (cy 0, 6, .inl ((ffR f_ k_ 5 z_ ft_).2))), (a1_, .inr (0, [.ref n1_])), (n1_, .inl (cy 0, 6, .inl f_))] := hD
              refine lv_eqi (y := bI ((ffR f_ k_ 5 z_ ft_).1 = true)) ((bI_t (by rw [hfin]; exact c_127)).symm) ?_
              exact RT _ _ () H locs 131 ls (rt_z (bI_nar _) dX1_findsFrom_131) rfl hP hD hS
      exact L_90 _ (loZ f_ 1 z_) ((hiZ f_ 1 z_ + 1 - loZ f_ 1 z_).toNat) ft_ (by omega) (Int.le_refl _) ((if_neg c_31).symm) (fun _ _ => rfl) (Nat.lt_succ_self _) H locs hP hD hS ls (lv_sub hl [0, 1, 2, 3, 4, 5, 6, 7] rfl)
    · refine lv_aload_n hx hb dX1_findsFrom_34 rfl (lv_at hl 0 rfl) ?_
      refine va_get (D := D) (ci := 1) (v := .ref a2_) (C := RX1) (T := TX1) (N := 1) hx hb hts winX1 hown hK hP 0 rfl rfl 0 (by decide) wf12 (fun _ h9 => h9) rfl dX1_findsFrom_35 ?_
      refine lv_iload_n hx hb dX1_findsFrom_38 rfl (lv_at hl 1 rfl) ?_
      refine lv_iconst (v := 0) hx hb dX1_findsFrom_39 (by decide) ?_
      refine ca_VN (C := RX0) (q0 := 1) (n := 2) (rest := []) (wr := [(c1_, .inr (1, [.ref a2_])), (a1_, .inr (0, [.ref n1_])), (n1_, .inl (cy 0, 6, .inl f_))]) F hK hE hA hP hD hS hl.1 (kX0_put (l := l) (D := D) (cy := cy) (sa := sa) a2_ n2_ ft_ 1 0 (by decide)) gX1_findsFrom_X0_put_n30 (hE.nest 38 rfl) wi_X0 wn_X0_put we_X0_put rfl rfl rfl rfl rfl rfl (by decide +kernel) ⟨by decide, by decide⟩ [1, 2] [0, 3, 4] rfl rfl rfl rfl (by decide) rfl rfl (Nat.le_of_ble_eq_true rfl) dX1_findsFrom_40 ⟨by decide, by decide⟩ (fun v9 u9 H locs hv hP hD hS => ?_)
      subst hv
      obtain ⟨hP, hD⟩ := re_ws (ws' := [(c1_, .inr (1, [.ref a2_])), (a2_, .inr (0, [.ref n2_])), (n2_, .inl (cy 0, 6, .inl (upd ft_ 1 0))), (a1_, .inr (0, [.ref n1_])), (n1_, .inl (cy 0, 6, .inl f_))]) hP hD [0, 3, 4, 1, 2] rfl rfl
      refine W.eq (g2 := F0 m 43 ls []) rfl ?_
      refine lv_aload_n hx hb dX1_findsFrom_43 rfl (lv_at hl 0 rfl) ?_
      refine lv_iload_n hx hb dX1_findsFrom_44 rfl (lv_at hl 1 rfl) ?_
      refine lv_iconst (v := 1) hx hb dX1_findsFrom_45 (by decide) ?_
      refine lv_iadd hx hb dX1_findsFrom_46 ?_
      refine lv_eqi (y := 2) rfl ?_
      refine lv_iload_n hx hb dX1_findsFrom_47 rfl (lv_at hl 2 rfl) ?_
      refine lv_aload_n hx hb dX1_findsFrom_48 rfl (lv_at hl 3 rfl) ?_
      refine lv_iload hx hb dX1_findsFrom_49 (lv_at hl 4 rfl) ?_
      refine ca_V (q0 := 0) (n := 4) (rest := []) (wr := []) F hK hE hA hP hD hS hl.1 (kX1_findsFrom_2 (l := l) (D := D) (cy := cy) (sa := sa) c1_ a2_ n2_ (upd ft_ 1 0) a1_ n1_ f_ z_ k_ (by first | assumption | omega | decide) (by first | assumption | omega | decide) (by first | assumption | omega | decide) (fun y hy => by by_cases hy2 : y = 1 <;> first | (rw [hy2, upd_at, c_31]; exact zero_in k_ hk) | (rw [upd_ne _ _ hy2]; exact hft y (by omega)))) gX1_findsFrom_X1_findsFrom rfl rfl rfl rfl rfl rfl (by decide +kernel) ⟨by decide, by decide⟩ [0, 1, 2, 3, 4] [] rfl rfl rfl rfl (by decide) rfl rfl (Nat.le_of_ble_eq_true rfl) dX1_findsFrom_51 ⟨by decide, by decide⟩ (fun v9 u9 H locs hv hP hD hS => ?_)
      subst hv
      obtain ⟨hP, hD⟩ := re_ws (ws' := [(c1_, .inr (1, [.ref a2_])), (a2_, .inr (0, [.ref n2_])), (n2_, .inl (cy 0, 6, .inl ((ffR f_ k_ 4 z_ (upd ft_ 1 0)).2))), (a1_, .inr (0, [.ref n1_])), (n1_, .inl (cy 0, 6, .inl f_))]) hP hD [0, 1, 2, 3, 4] rfl rfl
      refine W.eq (g2 := F0 m 54 ls [.int (bI ((ffR f_ k_ 4 z_ (upd ft_ 1 0)).1 = true))]) rfl ?_
      obtain ⟨hP, hD⟩ := ro_ws (g := (ffR f_ k_ 5 z_ ft_).2) hP hD 2 rfl (fun z9 _ => congrFun (show (ffR f_ k_ 4 z_ (upd ft_ 1 0)).2 = (ffR f_ k_ 5 z_ ft_).2 from congrArg (fun g => g.2) (show ffR f_ k_ 4 z_ (upd ft_ 1 0) = ffR f_ k_ 5 z_ ft_ from (if_pos c_31).symm)) z9)
      have hP : va_P D vwCl [(c1_, .inr (1, [.ref a2_])), (a2_, .inr (0, [.ref n2_])), (n2_, .inl (cy 0, 6, .inl ((ffR f_ k_ 5 z_ ft_).2))), (a1_, .inr (0, [.ref n1_])), (n1_, .inl (cy 0, 6, .inl f_))] H := hP
      have hD : va_D A [(c1_, .inr (1, [.ref a2_])), (a2_, .inr (0, [.ref n2_])), (n2_, .inl (cy 0, 6, .inl ((ffR f_ k_ 5 z_ ft_).2))), (a1_, .inr (0, [.ref n1_])), (n1_, .inl (cy 0, 6, .inl f_))] := hD
      refine lv_eqi (y := bI ((ffR f_ k_ 5 z_ ft_).1 = true)) (bI_congr (by rw [show ffR f_ k_ 5 z_ ft_ = ffR f_ k_ 4 z_ (upd ft_ 1 0) from if_pos c_31])) ?_
      exact RT _ _ () H locs 54 ls (rt_z (bI_nar _) dX1_findsFrom_54) rfl hP hD hS
  · exact absurd (by decide) c_3
abbrev rmkX1_findsFrom_0 : Room := { frames := 9, cells := 0, slots := 0, locals := 243 }
set_option maxHeartbeats 4000000 in
set_option maxRecDepth 100000 in
theorem kX1_findsFrom_0 {l : Launch} {D : va_G} {cy : Nat → ClassId} {sa : Nat → Nat} (c1_ : Nat) (a2_ : Nat) (n2_ : Nat) (ft_ : Nat → Int32) (a1_ : Nat) (n1_ : Nat) (f_ : Nat → Int32) (z_ : Nat) (k_ : Nat) (hok : okF f_) (hk : k_ < 3) (hz : z_ ≤ 6) (hft : ∀ y, y < 0 → inR (ft_ y) (bot (nI y)) 9) : CD l D cy sa yX1_findsFrom wsX1_findsFrom rmkX1_findsFrom_0 [.ref c1_, .int 0, .int (nI z_), .ref a1_, .int (nI k_)] [(c1_, .inr (1, [.ref a2_])), (a2_, .inr (0, [.ref n2_])), (n2_, .inl (cy 0, 6, .inl ft_)), (a1_, .inr (0, [.ref n1_])), (n1_, .inl (cy 0, 6, .inl f_))] (some (.int (bI ((ffR f_ k_ 6 z_ ft_).1 = true)))) [(c1_, .inr (1, [.ref a2_])), (a2_, .inr (0, [.ref n2_])), (n2_, .inl (cy 0, 6, .inl ((ffR f_ k_ 6 z_ ft_).2))), (a1_, .inr (0, [.ref n1_])), (n1_, .inl (cy 0, 6, .inl f_))] := by
  refine CT.of cX1_findsFrom 8 (some .boolean) (by decide +kernel) rfl (Nat.le_of_ble_eq_true rfl) ?_
  intro p e s m args below meth c A Q ls F hmn hK hE hA hP hD hS hl RT
  obtain ⟨hx, hb, hml, hown, hts⟩ := id F
  have wi_X0 := hts (.initialized RX0) (by decide +kernel)
  have wn_X0_valueOf := hts (.instanceMethod yX0_valueOf) (by decide +kernel)
  have we_X0_valueOf := hts (.selects RX0 yX0_valueOf yX0_valueOf) (by decide +kernel)
  have wm38 := hts (.methodLink RX1 38 Lib.Math.min.name) (by decide +kernel)
  have ws_min := hts (.static Lib.Math.min.name) (by decide +kernel)
  have wi_math := hts (.initialized "java/lang/Math") (by decide +kernel)
  have wk_min := hts (.code Lib.Math.min.name Lib.Math.min.code 2 (some .int)) (by decide +kernel)
  have wm47 := hts (.methodLink RX1 47 Lib.Math.max.name) (by decide +kernel)
  have ws_max := hts (.static Lib.Math.max.name) (by decide +kernel)
  have wk_max := hts (.code Lib.Math.max.name Lib.Math.max.code 2 (some .int)) (by decide +kernel)
  have winX1 : ∀ w_ ∈ u_ws RX1 TX1 1, w_ ∈ wsX1_findsFrom := by decide +kernel
  have wf12 := hts (.fieldLink RX1 12 "SelfSteer$Change" "tried" "LSelfSteer$Bicycle;") (by decide +kernel)
  have wn_X0_put := hts (.instanceMethod yX0_put) (by decide +kernel)
  have we_X0_put := hts (.selects RX0 yX0_put yX0_put) (by decide +kernel)
  have wm50 := hts (.methodLink RX1 50 Lib.Math.abs.name) (by decide +kernel)
  have ws_abs := hts (.static Lib.Math.abs.name) (by decide +kernel)
  have wk_abs := hts (.code Lib.Math.abs.name Lib.Math.abs.code 1 (some .int)) (by decide +kernel)
  have hl : lv_has ls 8 [(0, .ref c1_), (1, .int 0), (2, .int (nI z_)), (3, .ref a1_), (4, .int (nI k_))] := hl
  have hP : va_P D vwCl [(c1_, .inr (1, [.ref a2_])), (a2_, .inr (0, [.ref n2_])), (n2_, .inl (cy 0, 6, .inl ft_)), (a1_, .inr (0, [.ref n1_])), (n1_, .inl (cy 0, 6, .inl f_))] s.heap := hP
  have hD : va_D A [(c1_, .inr (1, [.ref a2_])), (a2_, .inr (0, [.ref n2_])), (n2_, .inl (cy 0, 6, .inl ft_)), (a1_, .inr (0, [.ref n1_])), (n1_, .inl (cy 0, 6, .inl f_))] := hD
  obtain ⟨H, hH⟩ : ∃ H0 : Heap, H0 = s.heap := ⟨_, rfl⟩
  obtain ⟨locs, hlo⟩ : ∃ L0 : List Loc, L0 = [] := ⟨_, rfl⟩
  have hS : va_S A s.heap H locs := by rw [hH, hlo]; exact hS
  rw [← hH] at hP
  show W p l e rmkX1_findsFrom_0 s m args below meth c s.heap [] 0 0 Q (F0 m 0 ls [])
  suffices hgo : W p l e rmkX1_findsFrom_0 s m args below meth c H locs 0 0 Q (F0 m 0 ls []) by rw [hH, hlo] at hgo; exact hgo
  clear hH hlo
  refine lv_iload_n hx hb dX1_findsFrom_0 rfl (lv_at hl 1 rfl) ?_
  refine lv_bipush (v := 6) hx hb dX1_findsFrom_1 (by decide) ?_
  refine lv_icmp_lt (tgt := 28) hx hb dX1_findsFrom_3 (by decide) (fun c_3 => ?_) (fun c_3 => ?_)
  · refine lv_iload_n hx hb dX1_findsFrom_28 rfl (lv_at hl 1 rfl) ?_
    refine lv_iload hx hb dX1_findsFrom_29 (lv_at hl 4 rfl) ?_
    refine cn_ne (tgt := 55) hx hb 0 k_ rfl rfl (by omega) (by omega) dX1_findsFrom_31 (by decide) (fun c_31 => ?_) (fun c_31 => ?_)
    · refine lv_aload_n hx hb dX1_findsFrom_55 rfl (lv_at hl 3 rfl) ?_
      refine lv_iload_n hx hb dX1_findsFrom_56 rfl (lv_at hl 1 rfl) ?_
      refine ca_VN (C := RX0) (q0 := 3) (n := 1) (rest := []) (wr := [(c1_, .inr (1, [.ref a2_])), (a2_, .inr (0, [.ref n2_])), (n2_, .inl (cy 0, 6, .inl ft_))]) F hK hE hA hP hD hS hl.1 (kX0_valueOf (l := l) (D := D) (cy := cy) (sa := sa) a1_ n1_ f_ 0 (by decide)) gX1_findsFrom_X0_valueOf_n22 (hE.nest 39 rfl) wi_X0 wn_X0_valueOf we_X0_valueOf rfl rfl rfl rfl rfl rfl (by decide +kernel) ⟨by decide, by decide⟩ [3, 4] [0, 1, 2] rfl rfl rfl rfl (by decide) rfl rfl (Nat.le_of_ble_eq_true rfl) dX1_findsFrom_57 ⟨by decide, by decide⟩ (fun v9 u9 H locs hv hP hD hS => ?_)
      subst hv
      obtain ⟨hP, hD⟩ := re_ws (ws' := [(c1_, .inr (1, [.ref a2_])), (a2_, .inr (0, [.ref n2_])), (n2_, .inl (cy 0, 6, .inl ft_)), (a1_, .inr (0, [.ref n1_])), (n1_, .inl (cy 0, 6, .inl f_))]) hP hD [0, 1, 2, 3, 4] rfl rfl
      refine W.eq (g2 := F0 m 60 ls [.int (f_ 0)]) rfl ?_
      refine lv_istore (lv' := [(5, .int (f_ 0)), (0, .ref c1_), (1, .int 0), (2, .int (nI z_)), (3, .ref a1_), (4, .int (nI k_))]) hx hb dX1_findsFrom_60 hl (by decide) rfl (fun ls hl => ?_)
      have hb1 := loZ_in hok (show 0 < 6 by decide) hz
      have hb2 := okF_low hok (show 0 < 6 by decide)
      have hb3 := lowZ_in 0 (by decide)
      refine va_getsN hx hb hE.2.1.1 hS hown (hE.nestB 40 rfl) (fun _ h9 => h9) dX1_findsFrom_62 ?_
      refine lv_iload_n hx hb dX1_findsFrom_65 rfl (lv_at hl 2 rfl) ?_
      refine al_s hx hb hE.2.1.2 hS 0 (rfl) (by decide) (by decide) dX1_findsFrom_66 ?_
      refine lv_iload hx hb dX1_findsFrom_67 (lv_at hl 0 rfl) ?_
      refine lv_iload_n hx hb dX1_findsFrom_69 rfl (lv_at hl 3 rfl) ?_
      refine lv_iadd hx hb dX1_findsFrom_70 ?_
      refine va_mmin hx hb (hml.trans hl.1.symm) hown wm38 ws_min wi_math wk_min (by decide) (Nat.le_of_ble_eq_true rfl) (Nat.zero_le _) (Nat.zero_le _) dX1_findsFrom_71 ?_
      refine lv_eqi (y := iZ (hiZ f_ 0 z_)) (hi_c hok (by decide) hz) ?_
      refine lv_istore (lv' := [(6, .int (iZ (hiZ f_ 0 z_))), (5, .int (f_ 0)), (0, .ref c1_), (1, .int 0), (2, .int (nI z_)), (3, .ref a1_), (4, .int (nI k_))]) hx hb dX1_findsFrom_74 hl (by decide) rfl (fun ls hl => ?_)
      refine va_getsN hx hb hE.1.1 hS hown (hE.nestB 41 rfl) (fun _ h9 => h9) dX1_findsFrom_76 ?_
      refine lv_iload_n hx hb dX1_findsFrom_79 rfl (lv_at hl 3 rfl) ?_
      refine al_s hx hb hE.1.2 hS 0 (rfl) (by decide) (by decide) dX1_findsFrom_80 ?_
      refine lv_iload hx hb dX1_findsFrom_81 (lv_at hl 1 rfl) ?_
      refine lv_iload_n hx hb dX1_findsFrom_83 rfl (lv_at hl 4 rfl) ?_
      refine lv_isub hx hb dX1_findsFrom_84 ?_
      refine va_mmax hx hb (hml.trans hl.1.symm) hown wm47 ws_max wi_math wk_max (by decide) (Nat.le_of_ble_eq_true rfl) (Nat.zero_le _) (Nat.zero_le _) dX1_findsFrom_85 ?_
      refine lv_eqi (y := iZ (loZ f_ 0 z_)) (lo_c hok (by decide) hz) ?_
      refine lv_istore (lv' := [(7, .int (iZ (loZ f_ 0 z_))), (6, .int (iZ (hiZ f_ 0 z_))), (5, .int (f_ 0)), (0, .ref c1_), (1, .int 0), (2, .int (nI z_)), (3, .ref a1_), (4, .int (nI k_))]) hx hb dX1_findsFrom_88 hl (by decide) rfl (fun ls hl => ?_)
      have L_90 : ∀ (nF : Nat) (w_ : Int) (q_ : Nat) (ftc_ : Nat → Int32), (w_ + q_ = hiZ f_ 0 z_ + 1) → (loZ f_ 0 z_ ≤ w_) → (ffL (ffR f_ k_ 5) (f_ 0).toInt 0 z_ q_ w_ ftc_ = ffR f_ k_ 6 z_ ft_) → (∀ y, y < 0 → ftc_ y = ft_ y) → q_ < nF → ∀ (H : Heap) (locs : List Loc), va_P D vwCl [(c1_, .inr (1, [.ref a2_])), (a2_, .inr (0, [.ref n2_])), (n2_, .inl (cy 0, 6, .inl ftc_)), (a1_, .inr (0, [.ref n1_])), (n1_, .inl (cy 0, 6, .inl f_))] H → va_D A [(c1_, .inr (1, [.ref a2_])), (a2_, .inr (0, [.ref n2_])), (n2_, .inl (cy 0, 6, .inl ftc_)), (a1_, .inr (0, [.ref n1_])), (n1_, .inl (cy 0, 6, .inl f_))] → va_S A s.heap H locs → ∀ (ls : Array Slot), lv_has ls 8 [(7, .int (iZ w_)), (6, .int (iZ (hiZ f_ 0 z_))), (5, .int (f_ 0)), (0, .ref c1_), (1, .int 0), (2, .int (nI z_)), (3, .ref a1_), (4, .int (nI k_))] → W p l e rmkX1_findsFrom_0 s m args below meth c H locs 0 0 Q (F0 m 90 ls []) := by
        intro nF
        induction nF with
        | zero => intro w_ q_ ftc_ hwq hlo hR hkp hnF; exact absurd hnF (Nat.not_lt_zero _)
        | succ nF ih_90 =>
          intro w_ q_ ftc_ hwq hlo hR hkp hn_90 H locs hP hD hS ls hl
          refine lv_iload hx hb dX1_findsFrom_90 (lv_at hl 0 rfl) ?_
          refine lv_iload hx hb dX1_findsFrom_92 (lv_at hl 1 rfl) ?_
          refine lv_icmp_gt (tgt := 138) hx hb dX1_findsFrom_94 (by decide) (fun c_94 => ?_) (fun c_94 => ?_)
          · have hgt : hiZ f_ 0 z_ < w_ := (iZ_lt (by omega) (by omega) (by omega) (by omega)).mp c_94
            refine lv_iconst (v := 0) hx hb dX1_findsFrom_138 (by decide) ?_
            have hfin : ffR f_ k_ 6 z_ ft_ = (false, ftc_) := by rw [← hR, show q_ = 0 by omega]; rfl
            obtain ⟨hP, hD⟩ := ro_ws (g := (ffR f_ k_ 6 z_ ft_).2) hP hD 2 rfl (fun z9 _ => congrFun (show ftc_ = (ffR f_ k_ 6 z_ ft_).2 from by rw [hfin]) z9)
            have hP : va_P D vwCl [(c1_, .inr (1, [.ref a2_])), (a2_, .inr (0, [.ref n2_])), (n2_, .inl (cy 0, 6, .inl ((ffR f_ k_ 6 z_ ft_).2))), (a1_, .inr (0, [.ref n1_])), (n1_, .inl (cy 0, 6, .inl f_))] H := hP
            have hD : va_D A [(c1_, .inr (1, [.ref a2_])), (a2_, .inr (0, [.ref n2_])), (n2_, .inl (cy 0, 6, .inl ((ffR f_ k_ 6 z_ ft_).2))), (a1_, .inr (0, [.ref n1_])), (n1_, .inl (cy 0, 6, .inl f_))] := hD
            refine lv_eqi (y := bI ((ffR f_ k_ 6 z_ ft_).1 = true)) ((bI_f (by rw [hfin]; exact Bool.false_ne_true)).symm) ?_
            exact RT _ _ () H locs 139 ls (rt_z (bI_nar _) dX1_findsFrom_139) rfl hP hD hS
          · have hle : w_ ≤ hiZ f_ 0 z_ := by rcases Int.lt_or_le (hiZ f_ 0 z_) w_ with y | y; exact absurd ((iZ_lt (by omega) (by omega) (by omega) (by omega)).mpr y) c_94; exact y
            refine lv_aload_n hx hb dX1_findsFrom_97 rfl (lv_at hl 3 rfl) ?_
            refine va_get (D := D) (ci := 1) (v := .ref a2_) (C := RX1) (T := TX1) (N := 1) hx hb hts winX1 hown hK hP 0 rfl rfl 0 (by decide) wf12 (fun _ h9 => h9) rfl dX1_findsFrom_98 ?_
            refine lv_iload_n hx hb dX1_findsFrom_101 rfl (lv_at hl 4 rfl) ?_
            refine lv_iload hx hb dX1_findsFrom_102 (lv_at hl 0 rfl) ?_
            refine ca_VN (C := RX0) (q0 := 1) (n := 2) (rest := []) (wr := [(c1_, .inr (1, [.ref a2_])), (a1_, .inr (0, [.ref n1_])), (n1_, .inl (cy 0, 6, .inl f_))]) F hK hE hA hP hD hS hl.1 (kX0_put (l := l) (D := D) (cy := cy) (sa := sa) a2_ n2_ ftc_ 0 (iZ w_) (by decide)) gX1_findsFrom_X0_put_n30 (hE.nest 38 rfl) wi_X0 wn_X0_put we_X0_put rfl rfl rfl rfl rfl rfl (by decide +kernel) ⟨by decide, by decide⟩ [1, 2] [0, 3, 4] rfl rfl rfl rfl (by decide) rfl rfl (Nat.le_of_ble_eq_true rfl) dX1_findsFrom_104 ⟨by decide, by decide⟩ (fun v9 u9 H locs hv hP hD hS => ?_)
            subst hv
            obtain ⟨hP, hD⟩ := re_ws (ws' := [(c1_, .inr (1, [.ref a2_])), (a2_, .inr (0, [.ref n2_])), (n2_, .inl (cy 0, 6, .inl (upd ftc_ 0 (iZ w_)))), (a1_, .inr (0, [.ref n1_])), (n1_, .inl (cy 0, 6, .inl f_))]) hP hD [0, 3, 4, 1, 2] rfl rfl
            refine W.eq (g2 := F0 m 107 ls []) rfl ?_
            refine lv_aload_n hx hb dX1_findsFrom_107 rfl (lv_at hl 3 rfl) ?_
            refine lv_iload_n hx hb dX1_findsFrom_108 rfl (lv_at hl 4 rfl) ?_
            refine lv_iconst (v := 1) hx hb dX1_findsFrom_109 (by decide) ?_
            refine lv_iadd hx hb dX1_findsFrom_110 ?_
            refine lv_eqi (y := 1) rfl ?_
            refine lv_iload_n hx hb dX1_findsFrom_111 rfl (lv_at hl 5 rfl) ?_
            refine lv_iload hx hb dX1_findsFrom_112 (lv_at hl 0 rfl) ?_
            refine lv_iload hx hb dX1_findsFrom_114 (lv_at hl 2 rfl) ?_
            refine lv_isub hx hb dX1_findsFrom_116 ?_
            refine va_mabs hx hb (hml.trans hl.1.symm) hown wm50 ws_abs wi_math wk_abs (by decide) (Nat.le_of_ble_eq_true rfl) (Nat.zero_le _) (Nat.zero_le _) dX1_findsFrom_117 ?_
            refine lv_eqi (y := nI ((w_ - (f_ 0).toInt).natAbs)) (abs_c (by omega) (by omega) (by omega) (by omega)) ?_
            refine lv_isub hx hb dX1_findsFrom_120 ?_
            refine lv_eqi (y := nI (z_ - (w_ - (f_ 0).toInt).natAbs)) (pk_sub (by omega)) ?_
            refine lv_aload_n hx hb dX1_findsFrom_121 rfl (lv_at hl 6 rfl) ?_
            refine lv_iload hx hb dX1_findsFrom_122 (lv_at hl 7 rfl) ?_
            refine ca_V (q0 := 0) (n := 4) (rest := []) (wr := []) F hK hE hA hP hD hS hl.1 (kX1_findsFrom_1 (l := l) (D := D) (cy := cy) (sa := sa) c1_ a2_ n2_ (upd ftc_ 0 (iZ w_)) a1_ n1_ f_ (z_ - (w_ - (f_ 0).toInt).natAbs) k_ (by first | assumption | omega | decide) (by first | assumption | omega | decide) (by omega) (fun y hy => by by_cases hy2 : y = 0 <;> first | (rw [hy2, upd_at]; exact iZ_in (by decide) (by omega) (by omega)) | (rw [upd_ne _ _ hy2, hkp y (by omega)]; exact hft y (by omega)))) gX1_findsFrom_X1_findsFrom rfl rfl rfl rfl rfl rfl (by decide +kernel) ⟨by decide, by decide⟩ [0, 1, 2, 3, 4] [] rfl rfl rfl rfl (by decide) rfl rfl (Nat.le_of_ble_eq_true rfl) dX1_findsFrom_124 ⟨by decide, by decide⟩ (fun v9 u9 H locs hv hP hD hS => ?_)
            subst hv
            obtain ⟨hP, hD⟩ := re_ws (ws' := [(c1_, .inr (1, [.ref a2_])), (a2_, .inr (0, [.ref n2_])), (n2_, .inl (cy 0, 6, .inl ((ffR f_ k_ 5 (z_ - (w_ - (f_ 0).toInt).natAbs) (upd ftc_ 0 (iZ w_))).2))), (a1_, .inr (0, [.ref n1_])), (n1_, .inl (cy 0, 6, .inl f_))]) hP hD [0, 1, 2, 3, 4] rfl rfl
            refine W.eq (g2 := F0 m 127 ls [.int (bI ((ffR f_ k_ 5 (z_ - (w_ - (f_ 0).toInt).natAbs) (upd ftc_ 0 (iZ w_))).1 = true))]) rfl ?_
            refine bz_eq (tgt := 132) hx hb dX1_findsFrom_127 (by decide) (fun c_127 => ?_) (fun c_127 => ?_)
            · refine lv_iinc (v := iZ (w_ + 1)) (lv' := [(7, .int (iZ (w_ + 1))), (6, .int (iZ (hiZ f_ 0 z_))), (5, .int (f_ 0)), (0, .ref c1_), (1, .int 0), (2, .int (nI z_)), (3, .ref a1_), (4, .int (nI k_))]) hx hb dX1_findsFrom_132 hl (k := 0) rfl (iZ_s (by omega) (by omega)) (by decide) rfl (fun ls hl => ?_)
              refine lv_goto (tgt := 90) hx hb dX1_findsFrom_135 (by decide) ?_
              exact ih_90 (w_ + 1) (q_ - 1) ((ffR f_ k_ 5 (z_ - (w_ - (f_ 0).toInt).natAbs) (upd ftc_ 0 (iZ w_))).2) (by omega) (by omega) (by rw [show q_ = (q_ - 1) + 1 by omega, ffL, if_neg c_127] at hR; exact hR) (fun y hy => by rw [ffR_keep f_ k_ 5 (by decide) _ _ _ (by omega), upd_ne _ _ (by omega)]; exact hkp y hy) (by omega) H locs hP hD hS ls (lv_sub hl [0, 1, 2, 3, 4, 5, 6, 7] rfl)
            · refine lv_iconst (v := 1) hx hb dX1_findsFrom_130 (by decide) ?_
              have hfin : ffR f_ k_ 6 z_ ft_ = ffR f_ k_ 5 (z_ - (w_ - (f_ 0).toInt).natAbs) (upd ftc_ 0 (iZ w_)) := by rw [← hR, show q_ = (q_ - 1) + 1 by omega, ffL, if_pos c_127]
              obtain ⟨hP, hD⟩ := ro_ws (g := (ffR f_ k_ 6 z_ ft_).2) hP hD 2 rfl (fun z9 _ => congrFun (show (ffR f_ k_ 5 (z_ - (w_ - (f_ 0).toInt).natAbs) (upd ftc_ 0 (iZ w_))).2 = (ffR f_ k_ 6 z_ ft_).2 from by rw [hfin]) z9)
              have hP : va_P D vwCl [(c1_, .inr (1, [.ref a2_])), (a2_, .inr (0, [.ref n2_])), (n2_, .inl (cy 0, 6, .inl ((ffR f_ k_ 6 z_ ft_).2))), (a1_, .inr (0, [.ref n1_])), (n1_, .inl (cy 0, 6, .inl f_))] H := hP
              have hD : va_D A [(c1_, .inr (1, [.ref a2_])), (a2_, .inr (0, [.ref n2_])), (n2_, .inl (cy 0, 6, .inl ((ffR f_ k_ 6 z_ ft_).2))), (a1_, .inr (0, [.ref n1_])), (n1_, .inl (cy 0, 6, .inl f_))] := hD
              refine lv_eqi (y := bI ((ffR f_ k_ 6 z_ ft_).1 = true)) ((bI_t (by rw [hfin]; exact c_127)).symm) ?_
              exact RT _ _ () H locs 131 ls (rt_z (bI_nar _) dX1_findsFrom_131) rfl hP hD hS
      exact L_90 _ (loZ f_ 0 z_) ((hiZ f_ 0 z_ + 1 - loZ f_ 0 z_).toNat) ft_ (by omega) (Int.le_refl _) ((if_neg c_31).symm) (fun _ _ => rfl) (Nat.lt_succ_self _) H locs hP hD hS ls (lv_sub hl [0, 1, 2, 3, 4, 5, 6, 7] rfl)
    · refine lv_aload_n hx hb dX1_findsFrom_34 rfl (lv_at hl 0 rfl) ?_
      refine va_get (D := D) (ci := 1) (v := .ref a2_) (C := RX1) (T := TX1) (N := 1) hx hb hts winX1 hown hK hP 0 rfl rfl 0 (by decide) wf12 (fun _ h9 => h9) rfl dX1_findsFrom_35 ?_
      refine lv_iload_n hx hb dX1_findsFrom_38 rfl (lv_at hl 1 rfl) ?_
      refine lv_iconst (v := 0) hx hb dX1_findsFrom_39 (by decide) ?_
      refine ca_VN (C := RX0) (q0 := 1) (n := 2) (rest := []) (wr := [(c1_, .inr (1, [.ref a2_])), (a1_, .inr (0, [.ref n1_])), (n1_, .inl (cy 0, 6, .inl f_))]) F hK hE hA hP hD hS hl.1 (kX0_put (l := l) (D := D) (cy := cy) (sa := sa) a2_ n2_ ft_ 0 0 (by decide)) gX1_findsFrom_X0_put_n30 (hE.nest 38 rfl) wi_X0 wn_X0_put we_X0_put rfl rfl rfl rfl rfl rfl (by decide +kernel) ⟨by decide, by decide⟩ [1, 2] [0, 3, 4] rfl rfl rfl rfl (by decide) rfl rfl (Nat.le_of_ble_eq_true rfl) dX1_findsFrom_40 ⟨by decide, by decide⟩ (fun v9 u9 H locs hv hP hD hS => ?_)
      subst hv
      obtain ⟨hP, hD⟩ := re_ws (ws' := [(c1_, .inr (1, [.ref a2_])), (a2_, .inr (0, [.ref n2_])), (n2_, .inl (cy 0, 6, .inl (upd ft_ 0 0))), (a1_, .inr (0, [.ref n1_])), (n1_, .inl (cy 0, 6, .inl f_))]) hP hD [0, 3, 4, 1, 2] rfl rfl
      refine W.eq (g2 := F0 m 43 ls []) rfl ?_
      refine lv_aload_n hx hb dX1_findsFrom_43 rfl (lv_at hl 0 rfl) ?_
      refine lv_iload_n hx hb dX1_findsFrom_44 rfl (lv_at hl 1 rfl) ?_
      refine lv_iconst (v := 1) hx hb dX1_findsFrom_45 (by decide) ?_
      refine lv_iadd hx hb dX1_findsFrom_46 ?_
      refine lv_eqi (y := 1) rfl ?_
      refine lv_iload_n hx hb dX1_findsFrom_47 rfl (lv_at hl 2 rfl) ?_
      refine lv_aload_n hx hb dX1_findsFrom_48 rfl (lv_at hl 3 rfl) ?_
      refine lv_iload hx hb dX1_findsFrom_49 (lv_at hl 4 rfl) ?_
      refine ca_V (q0 := 0) (n := 4) (rest := []) (wr := []) F hK hE hA hP hD hS hl.1 (kX1_findsFrom_1 (l := l) (D := D) (cy := cy) (sa := sa) c1_ a2_ n2_ (upd ft_ 0 0) a1_ n1_ f_ z_ k_ (by first | assumption | omega | decide) (by first | assumption | omega | decide) (by first | assumption | omega | decide) (fun y hy => by by_cases hy2 : y = 0 <;> first | (rw [hy2, upd_at, c_31]; exact zero_in k_ hk) | (rw [upd_ne _ _ hy2]; exact hft y (by omega)))) gX1_findsFrom_X1_findsFrom rfl rfl rfl rfl rfl rfl (by decide +kernel) ⟨by decide, by decide⟩ [0, 1, 2, 3, 4] [] rfl rfl rfl rfl (by decide) rfl rfl (Nat.le_of_ble_eq_true rfl) dX1_findsFrom_51 ⟨by decide, by decide⟩ (fun v9 u9 H locs hv hP hD hS => ?_)
      subst hv
      obtain ⟨hP, hD⟩ := re_ws (ws' := [(c1_, .inr (1, [.ref a2_])), (a2_, .inr (0, [.ref n2_])), (n2_, .inl (cy 0, 6, .inl ((ffR f_ k_ 5 z_ (upd ft_ 0 0)).2))), (a1_, .inr (0, [.ref n1_])), (n1_, .inl (cy 0, 6, .inl f_))]) hP hD [0, 1, 2, 3, 4] rfl rfl
      refine W.eq (g2 := F0 m 54 ls [.int (bI ((ffR f_ k_ 5 z_ (upd ft_ 0 0)).1 = true))]) rfl ?_
      obtain ⟨hP, hD⟩ := ro_ws (g := (ffR f_ k_ 6 z_ ft_).2) hP hD 2 rfl (fun z9 _ => congrFun (show (ffR f_ k_ 5 z_ (upd ft_ 0 0)).2 = (ffR f_ k_ 6 z_ ft_).2 from congrArg (fun g => g.2) (show ffR f_ k_ 5 z_ (upd ft_ 0 0) = ffR f_ k_ 6 z_ ft_ from (if_pos c_31).symm)) z9)
      have hP : va_P D vwCl [(c1_, .inr (1, [.ref a2_])), (a2_, .inr (0, [.ref n2_])), (n2_, .inl (cy 0, 6, .inl ((ffR f_ k_ 6 z_ ft_).2))), (a1_, .inr (0, [.ref n1_])), (n1_, .inl (cy 0, 6, .inl f_))] H := hP
      have hD : va_D A [(c1_, .inr (1, [.ref a2_])), (a2_, .inr (0, [.ref n2_])), (n2_, .inl (cy 0, 6, .inl ((ffR f_ k_ 6 z_ ft_).2))), (a1_, .inr (0, [.ref n1_])), (n1_, .inl (cy 0, 6, .inl f_))] := hD
      refine lv_eqi (y := bI ((ffR f_ k_ 6 z_ ft_).1 = true)) (bI_congr (by rw [show ffR f_ k_ 6 z_ ft_ = ffR f_ k_ 5 z_ (upd ft_ 0 0) from if_pos c_31])) ?_
      exact RT _ _ () H locs 54 ls (rt_z (bI_nar _) dX1_findsFrom_54) rfl hP hD hS
  · exact absurd (by decide) c_3
abbrev rmkX1_leastWithout : Room := { frames := 10, cells := 0, slots := 0, locals := 270 }
set_option maxHeartbeats 4000000 in
set_option maxRecDepth 100000 in
theorem kX1_leastWithout {l : Launch} {D : va_G} {cy : Nat → ClassId} {sa : Nat → Nat} (c1_ : Nat) (a2_ : Nat) (n2_ : Nat) (ft_ : Nat → Int32) (a1_ : Nat) (n1_ : Nat) (f_ : Nat → Int32) (k_ : Nat) (hok : okF f_) (hk : k_ < 3) : CD l D cy sa yX1_leastWithout wsX1_leastWithout rmkX1_leastWithout [.ref c1_, .ref a1_, .int (nI k_)] [(c1_, .inr (1, [.ref a2_])), (a2_, .inr (0, [.ref n2_])), (n2_, .inl (cy 0, 6, .inl ft_)), (a1_, .inr (0, [.ref n1_])), (n1_, .inl (cy 0, 6, .inl f_))] (some (.int ((lwF f_ k_ 7 0 ft_).1))) [(c1_, .inr (1, [.ref a2_])), (a2_, .inr (0, [.ref n2_])), (n2_, .inl (cy 0, 6, .inl ((lwF f_ k_ 7 0 ft_).2))), (a1_, .inr (0, [.ref n1_])), (n1_, .inl (cy 0, 6, .inl f_))] := by
  refine CT.of cX1_leastWithout 4 (some .int) (by decide +kernel) rfl (Nat.le_of_ble_eq_true rfl) ?_
  intro p e s m args below meth c A Q ls F hmn hK hE hA hP hD hS hl RT
  obtain ⟨hx, hb, hml, hown, hts⟩ := id F
  have hl : lv_has ls 4 [(0, .ref c1_), (1, .ref a1_), (2, .int (nI k_))] := hl
  have hP : va_P D vwCl [(c1_, .inr (1, [.ref a2_])), (a2_, .inr (0, [.ref n2_])), (n2_, .inl (cy 0, 6, .inl ft_)), (a1_, .inr (0, [.ref n1_])), (n1_, .inl (cy 0, 6, .inl f_))] s.heap := hP
  have hD : va_D A [(c1_, .inr (1, [.ref a2_])), (a2_, .inr (0, [.ref n2_])), (n2_, .inl (cy 0, 6, .inl ft_)), (a1_, .inr (0, [.ref n1_])), (n1_, .inl (cy 0, 6, .inl f_))] := hD
  obtain ⟨H, hH⟩ : ∃ H0 : Heap, H0 = s.heap := ⟨_, rfl⟩
  obtain ⟨locs, hlo⟩ : ∃ L0 : List Loc, L0 = [] := ⟨_, rfl⟩
  have hS : va_S A s.heap H locs := by rw [hH, hlo]; exact hS
  rw [← hH] at hP
  show W p l e rmkX1_leastWithout s m args below meth c s.heap [] 0 0 Q (F0 m 0 ls [])
  suffices hgo : W p l e rmkX1_leastWithout s m args below meth c H locs 0 0 Q (F0 m 0 ls []) by rw [hH, hlo] at hgo; exact hgo
  clear hH hlo
  refine lv_iconst (v := 0) hx hb dX1_leastWithout_0 (by decide) ?_
  refine lv_istore_n (lv' := [(3, .int 0), (0, .ref c1_), (1, .ref a1_), (2, .int (nI k_))]) hx hb dX1_leastWithout_1 rfl hl (by decide) rfl (fun ls hl => ?_)
  have L_2 : ∀ (nF : Nat) (z_ : Nat) (q_ : Nat) (ftc_ : Nat → Int32), (z_ + q_ = 7) → (lwF f_ k_ q_ z_ ftc_ = lwF f_ k_ 7 0 ft_) → q_ < nF → ∀ (H : Heap) (locs : List Loc), va_P D vwCl [(c1_, .inr (1, [.ref a2_])), (a2_, .inr (0, [.ref n2_])), (n2_, .inl (cy 0, 6, .inl ftc_)), (a1_, .inr (0, [.ref n1_])), (n1_, .inl (cy 0, 6, .inl f_))] H → va_D A [(c1_, .inr (1, [.ref a2_])), (a2_, .inr (0, [.ref n2_])), (n2_, .inl (cy 0, 6, .inl ftc_)), (a1_, .inr (0, [.ref n1_])), (n1_, .inl (cy 0, 6, .inl f_))] → va_S A s.heap H locs → ∀ (ls : Array Slot), lv_has ls 4 [(3, .int (nI z_)), (0, .ref c1_), (1, .ref a1_), (2, .int (nI k_))] → W p l e rmkX1_leastWithout s m args below meth c H locs 0 0 Q (F0 m 2 ls []) := by
    intro nF
    induction nF with
    | zero => intro z_ q_ ftc_ hzq hR hnF; exact absurd hnF (Nat.not_lt_zero _)
    | succ nF ih_2 =>
      intro z_ q_ ftc_ hzq hR hn_2 H locs hP hD hS ls hl
      refine lv_iload_n hx hb dX1_leastWithout_2 rfl (lv_at hl 0 rfl) ?_
      refine lv_bipush (v := 6) hx hb dX1_leastWithout_3 (by decide) ?_
      refine cn_gt (tgt := 27) hx hb z_ 6 rfl rfl (by omega) (by omega) dX1_leastWithout_5 (by decide) (fun c_5 => ?_) (fun c_5 => ?_)
      · refine lv_bipush (v := (-9)) hx hb dX1_leastWithout_27 (by decide) ?_
        have hfin : lwF f_ k_ 7 0 ft_ = (-9, ftc_) := by rw [← hR, show q_ = 0 by omega]; rfl
        obtain ⟨hP, hD⟩ := ro_ws (g := (lwF f_ k_ 7 0 ft_).2) hP hD 2 rfl (fun z9 _ => congrFun (show ftc_ = (lwF f_ k_ 7 0 ft_).2 from by rw [hfin]) z9)
        have hP : va_P D vwCl [(c1_, .inr (1, [.ref a2_])), (a2_, .inr (0, [.ref n2_])), (n2_, .inl (cy 0, 6, .inl ((lwF f_ k_ 7 0 ft_).2))), (a1_, .inr (0, [.ref n1_])), (n1_, .inl (cy 0, 6, .inl f_))] H := hP
        have hD : va_D A [(c1_, .inr (1, [.ref a2_])), (a2_, .inr (0, [.ref n2_])), (n2_, .inl (cy 0, 6, .inl ((lwF f_ k_ 7 0 ft_).2))), (a1_, .inr (0, [.ref n1_])), (n1_, .inl (cy 0, 6, .inl f_))] := hD
        refine lv_eqi (y := (lwF f_ k_ 7 0 ft_).1) (by rw [hfin]) ?_
        exact RT _ _ () H locs 29 ls (rt_i dX1_leastWithout_29) rfl hP hD hS
      · refine lv_aload_n hx hb dX1_leastWithout_8 rfl (lv_at hl 1 rfl) ?_
        refine lv_iconst (v := 0) hx hb dX1_leastWithout_9 (by decide) ?_
        refine lv_iload_n hx hb dX1_leastWithout_10 rfl (lv_at hl 0 rfl) ?_
        refine lv_aload_n hx hb dX1_leastWithout_11 rfl (lv_at hl 2 rfl) ?_
        refine lv_iload_n hx hb dX1_leastWithout_12 rfl (lv_at hl 3 rfl) ?_
        refine ca_V (q0 := 0) (n := 4) (rest := []) (wr := []) F hK hE hA hP hD hS hl.1 (kX1_findsFrom_0 (l := l) (D := D) (cy := cy) (sa := sa) c1_ a2_ n2_ ftc_ a1_ n1_ f_ z_ k_ (by first | assumption | omega | decide) (by first | assumption | omega | decide) (by omega) (fun y hy => absurd hy (Nat.not_lt_zero y))) gX1_leastWithout_X1_findsFrom rfl rfl rfl rfl rfl rfl (by decide +kernel) ⟨by decide, by decide⟩ [0, 1, 2, 3, 4] [] rfl rfl rfl rfl (by decide) rfl rfl (Nat.le_of_ble_eq_true rfl) dX1_leastWithout_13 ⟨by decide, by decide⟩ (fun v9 u9 H locs hv hP hD hS => ?_)
        subst hv
        obtain ⟨hP, hD⟩ := re_ws (ws' := [(c1_, .inr (1, [.ref a2_])), (a2_, .inr (0, [.ref n2_])), (n2_, .inl (cy 0, 6, .inl ((ffR f_ k_ 6 z_ ftc_).2))), (a1_, .inr (0, [.ref n1_])), (n1_, .inl (cy 0, 6, .inl f_))]) hP hD [0, 1, 2, 3, 4] rfl rfl
        refine W.eq (g2 := F0 m 16 ls [.int (bI ((ffR f_ k_ 6 z_ ftc_).1 = true))]) rfl ?_
        refine bz_eq (tgt := 21) hx hb dX1_leastWithout_16 (by decide) (fun c_16 => ?_) (fun c_16 => ?_)
        · refine lv_iinc (v := nI (z_ + 1)) (lv' := [(3, .int (nI (z_ + 1))), (0, .ref c1_), (1, .ref a1_), (2, .int (nI k_))]) hx hb dX1_leastWithout_21 hl (k := 0) rfl (nI_add z_ 1) (by decide) rfl (fun ls hl => ?_)
          refine lv_goto (tgt := 2) hx hb dX1_leastWithout_24 (by decide) ?_
          exact ih_2 (z_ + 1) (q_ - 1) ((ffR f_ k_ 6 z_ ftc_).2) (by first | assumption | omega | decide) (by rw [show q_ = (q_ - 1) + 1 by omega, lwF, if_neg c_16] at hR; exact hR) (by omega) H locs hP hD hS ls (lv_sub hl [0, 1, 2, 3] rfl)
        · refine lv_iload_n hx hb dX1_leastWithout_19 rfl (lv_at hl 0 rfl) ?_
          have hfin : lwF f_ k_ 7 0 ft_ = (nI z_, (ffR f_ k_ 6 z_ ftc_).2) := by rw [← hR, show q_ = (q_ - 1) + 1 by omega, lwF, if_pos c_16]
          obtain ⟨hP, hD⟩ := ro_ws (g := (lwF f_ k_ 7 0 ft_).2) hP hD 2 rfl (fun z9 _ => congrFun (show (ffR f_ k_ 6 z_ ftc_).2 = (lwF f_ k_ 7 0 ft_).2 from by rw [hfin]) z9)
          have hP : va_P D vwCl [(c1_, .inr (1, [.ref a2_])), (a2_, .inr (0, [.ref n2_])), (n2_, .inl (cy 0, 6, .inl ((lwF f_ k_ 7 0 ft_).2))), (a1_, .inr (0, [.ref n1_])), (n1_, .inl (cy 0, 6, .inl f_))] H := hP
          have hD : va_D A [(c1_, .inr (1, [.ref a2_])), (a2_, .inr (0, [.ref n2_])), (n2_, .inl (cy 0, 6, .inl ((lwF f_ k_ 7 0 ft_).2))), (a1_, .inr (0, [.ref n1_])), (n1_, .inl (cy 0, 6, .inl f_))] := hD
          refine lv_eqi (y := (lwF f_ k_ 7 0 ft_).1) (by rw [hfin]) ?_
          exact RT _ _ () H locs 20 ls (rt_i dX1_leastWithout_20) rfl hP hD hS
  exact L_2 _ 0 7 ft_ (rfl) (rfl) (Nat.lt_succ_self _) H locs hP hD hS ls (lv_sub hl [0, 1, 2, 3] rfl)
abbrev rmkX1_valueFound : Room := { frames := 3, cells := 0, slots := 0, locals := 63 }
set_option maxHeartbeats 4000000 in
set_option maxRecDepth 100000 in
theorem kX1_valueFound {l : Launch} {D : va_G} {cy : Nat → ClassId} {sa : Nat → Nat} (c1_ : Nat) (a2_ : Nat) (n2_ : Nat) (ft_ : Nat → Int32) (k_ : Nat) (hk : k_ < 6) : CD l D cy sa yX1_valueFound wsX1_valueFound rmkX1_valueFound [.ref c1_, .int (nI k_)] [(c1_, .inr (1, [.ref a2_])), (a2_, .inr (0, [.ref n2_])), (n2_, .inl (cy 0, 6, .inl ft_))] (some (.int (ft_ k_))) [(c1_, .inr (1, [.ref a2_])), (a2_, .inr (0, [.ref n2_])), (n2_, .inl (cy 0, 6, .inl ft_))] := by
  refine CT.of cX1_valueFound 2 (some .int) (by decide +kernel) rfl (Nat.le_of_ble_eq_true rfl) ?_
  intro p e s m args below meth c A Q ls F hmn hK hE hA hP hD hS hl RT
  obtain ⟨hx, hb, hml, hown, hts⟩ := id F
  have winX1 : ∀ w ∈ u_ws RX1 TX1 1, w ∈ wsX1_valueFound := by decide +kernel
  have wf12 := hts (.fieldLink RX1 12 "SelfSteer$Change" "tried" "LSelfSteer$Bicycle;") (by decide +kernel)
  have wi_X0 := hts (.initialized RX0) (by decide +kernel)
  have wn_X0_valueOf := hts (.instanceMethod yX0_valueOf) (by decide +kernel)
  have we_X0_valueOf := hts (.selects RX0 yX0_valueOf yX0_valueOf) (by decide +kernel)
  have hl : lv_has ls 2 [(0, .ref c1_), (1, .int (nI k_))] := hl
  have hP : va_P D vwCl [(c1_, .inr (1, [.ref a2_])), (a2_, .inr (0, [.ref n2_])), (n2_, .inl (cy 0, 6, .inl ft_))] s.heap := hP
  have hD : va_D A [(c1_, .inr (1, [.ref a2_])), (a2_, .inr (0, [.ref n2_])), (n2_, .inl (cy 0, 6, .inl ft_))] := hD
  obtain ⟨H, hH⟩ : ∃ H0 : Heap, H0 = s.heap := ⟨_, rfl⟩
  obtain ⟨locs, hlo⟩ : ∃ L0 : List Loc, L0 = [] := ⟨_, rfl⟩
  have hS : va_S A s.heap H locs := by rw [hH, hlo]; exact hS
  rw [← hH] at hP
  show W p l e rmkX1_valueFound s m args below meth c s.heap [] 0 0 Q (F0 m 0 ls [])
  suffices hgo : W p l e rmkX1_valueFound s m args below meth c H locs 0 0 Q (F0 m 0 ls []) by rw [hH, hlo] at hgo; exact hgo
  clear hH hlo
  refine lv_aload_n hx hb dX1_valueFound_0 rfl (lv_at hl 0 rfl) ?_
  refine va_get (D := D) (ci := 1) (v := .ref a2_) (C := RX1) (T := TX1) (N := 1) hx hb hts winX1 hown hK hP 0 rfl rfl 0 (by decide) wf12 (fun _ h9 => h9) rfl dX1_valueFound_1 ?_
  refine lv_iload_n hx hb dX1_valueFound_4 rfl (lv_at hl 1 rfl) ?_
  refine ca_VN (C := RX0) (q0 := 1) (n := 1) (rest := []) (wr := [(c1_, .inr (1, [.ref a2_]))]) F hK hE hA hP hD hS hl.1 (kX0_valueOf (l := l) (D := D) (cy := cy) (sa := sa) a2_ n2_ ft_ k_ (by first | assumption | omega | decide)) gX1_valueFound_X0_valueOf_n22 (hE.nest 39 rfl) wi_X0 wn_X0_valueOf we_X0_valueOf rfl rfl rfl rfl rfl rfl (by decide +kernel) ⟨by decide, by decide⟩ [1, 2] [0] rfl rfl rfl rfl (by decide) rfl rfl (Nat.le_of_ble_eq_true rfl) dX1_valueFound_5 ⟨by decide, by decide⟩ (fun v9 u9 H locs hv hP hD hS => ?_)
  subst hv
  obtain ⟨hP, hD⟩ := re_ws (ws' := [(c1_, .inr (1, [.ref a2_])), (a2_, .inr (0, [.ref n2_])), (n2_, .inl (cy 0, 6, .inl ft_))]) hP hD [0, 1, 2] rfl rfl
  refine W.eq (g2 := F0 m 8 ls [.int (ft_ k_)]) rfl ?_
  exact RT _ _ () H locs 8 ls (rt_i dX1_valueFound_8) rfl hP hD hS
