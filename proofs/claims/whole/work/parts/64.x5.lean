abbrev rmkX5_isLetter : Room := { frames := 1, cells := 0, slots := 0, locals := 22 }
set_option maxHeartbeats 4000000 in
set_option maxRecDepth 100000 in
theorem kX5_isLetter {l : Launch} {D : va_G} {cy : Nat → ClassId} {sa : Nat → Nat} (v_ : Int32)  : CD l D cy sa yX5_isLetter wsX5_isLetter rmkX5_isLetter [.int v_] [] (some (.int (bI (inR v_ 97 122)))) [] := by
  refine CT.of cX5_isLetter 1 (some .boolean) (by decide +kernel) rfl (Nat.le_of_ble_eq_true rfl) ?_
  intro p e s m args below meth c A Q ls F hmn hK hE hA hP hD hS hl RT
  obtain ⟨hx, hb, hml, hown, hts⟩ := id F
  have wi_X8 := hts (.initialized RX8) (by decide +kernel)
  have ws_X8_within := hts (.static yX8_within) (by decide +kernel)
  have hl : lv_has ls 1 [(0, .int v_)] := hl
  have hP : va_P D vwCl [] s.heap := hP
  have hD : va_D A [] := hD
  obtain ⟨H, hH⟩ : ∃ H0 : Heap, H0 = s.heap := ⟨_, rfl⟩
  obtain ⟨locs, hlo⟩ : ∃ L0 : List Loc, L0 = [] := ⟨_, rfl⟩
  have hS : va_S A s.heap H locs := by rw [hH, hlo]; exact hS
  rw [← hH] at hP
  show W p l e rmkX5_isLetter s m args below meth c s.heap [] 0 0 Q (F0 m 0 ls [])
  suffices hgo : W p l e rmkX5_isLetter s m args below meth c H locs 0 0 Q (F0 m 0 ls []) by rw [hH, hlo] at hgo; exact hgo
  clear hH hlo
  refine lv_iload_n hx hb dX5_isLetter_0 rfl (lv_at hl 0 rfl) ?_
  refine lv_bipush (v := 97) hx hb dX5_isLetter_1 (by decide) ?_
  refine lv_bipush (v := 122) hx hb dX5_isLetter_3 (by decide) ?_
  refine ca_SN (n := 3) (rest := []) (wr := []) F hK hE hA hP hD hS hl.1 (kX8_within (l := l) (D := D) (cy := cy) (sa := sa) v_ 97 122) gX5_isLetter_X8_within_n84 (hE.nest 55 rfl) wi_X8 ws_X8_within rfl rfl rfl (by decide +kernel) ⟨by decide, by decide⟩ [] [] rfl rfl rfl rfl (by decide) rfl rfl (Nat.le_of_ble_eq_true rfl) dX5_isLetter_5 ⟨by decide, by decide⟩ (fun v9 u9 H locs hv hP hD hS => ?_)
  subst hv
  have hP : va_P D vwCl [] H := hP
  have hD : va_D A [] := hD
  refine W.eq (g2 := F0 m 8 ls [.int (bI (inR v_ 97 122))]) rfl ?_
  exact RT _ _ () H locs 8 ls (rt_z (bI_nar _) dX5_isLetter_8) rfl hP hD hS
abbrev rmkX5_isDigit : Room := { frames := 1, cells := 0, slots := 0, locals := 22 }
set_option maxHeartbeats 4000000 in
set_option maxRecDepth 100000 in
theorem kX5_isDigit {l : Launch} {D : va_G} {cy : Nat → ClassId} {sa : Nat → Nat} (v_ : Int32)  : CD l D cy sa yX5_isDigit wsX5_isDigit rmkX5_isDigit [.int v_] [] (some (.int (bI (inR v_ 48 57)))) [] := by
  refine CT.of cX5_isDigit 1 (some .boolean) (by decide +kernel) rfl (Nat.le_of_ble_eq_true rfl) ?_
  intro p e s m args below meth c A Q ls F hmn hK hE hA hP hD hS hl RT
  obtain ⟨hx, hb, hml, hown, hts⟩ := id F
  have wi_X8 := hts (.initialized RX8) (by decide +kernel)
  have ws_X8_within := hts (.static yX8_within) (by decide +kernel)
  have hl : lv_has ls 1 [(0, .int v_)] := hl
  have hP : va_P D vwCl [] s.heap := hP
  have hD : va_D A [] := hD
  obtain ⟨H, hH⟩ : ∃ H0 : Heap, H0 = s.heap := ⟨_, rfl⟩
  obtain ⟨locs, hlo⟩ : ∃ L0 : List Loc, L0 = [] := ⟨_, rfl⟩
  have hS : va_S A s.heap H locs := by rw [hH, hlo]; exact hS
  rw [← hH] at hP
  show W p l e rmkX5_isDigit s m args below meth c s.heap [] 0 0 Q (F0 m 0 ls [])
  suffices hgo : W p l e rmkX5_isDigit s m args below meth c H locs 0 0 Q (F0 m 0 ls []) by rw [hH, hlo] at hgo; exact hgo
  clear hH hlo
  refine lv_iload_n hx hb dX5_isDigit_0 rfl (lv_at hl 0 rfl) ?_
  refine lv_bipush (v := 48) hx hb dX5_isDigit_1 (by decide) ?_
  refine lv_bipush (v := 57) hx hb dX5_isDigit_3 (by decide) ?_
  refine ca_SN (n := 3) (rest := []) (wr := []) F hK hE hA hP hD hS hl.1 (kX8_within (l := l) (D := D) (cy := cy) (sa := sa) v_ 48 57) gX5_isDigit_X8_within_n84 (hE.nest 55 rfl) wi_X8 ws_X8_within rfl rfl rfl (by decide +kernel) ⟨by decide, by decide⟩ [] [] rfl rfl rfl rfl (by decide) rfl rfl (Nat.le_of_ble_eq_true rfl) dX5_isDigit_5 ⟨by decide, by decide⟩ (fun v9 u9 H locs hv hP hD hS => ?_)
  subst hv
  have hP : va_P D vwCl [] H := hP
  have hD : va_D A [] := hD
  refine W.eq (g2 := F0 m 8 ls [.int (bI (inR v_ 48 57))]) rfl ?_
  exact RT _ _ () H locs 8 ls (rt_z (bI_nar _) dX5_isDigit_8) rfl hP hD hS
abbrev rmkX5_isWord : Room := { frames := 4, cells := 0, slots := 0, locals := 85 }
set_option maxHeartbeats 4000000 in
set_option maxRecDepth 100000 in
theorem kX5_isWord {l : Launch} {D : va_G} {cy : Nat → ClassId} {sa : Nat → Nat} (e1_ : Nat) (xt_ : Nat) (n_ : Nat) (tx_ : Nat → Int32) (b_ : Nat) (e9_ : Nat) (tk_ : Int32) (vl_ : Int32) (it_ : Nat) (hn : n_ ≤ 200) (hbe : b_ ≤ e9_) (hen : e9_ ≤ n_) (hit : it_ < 5) : CD l D cy sa yX5_isWord wsX5_isWord rmkX5_isWord [.ref e1_, .int (nI it_)] [(e1_, .inr (5, [.ref xt_, .int (nI n_), .int (nI e9_), .int (nI b_), .int tk_, .int vl_])), (xt_, .inl (cy 0, 200, .inl tx_))] (some (.int (bI (wdB tx_ b_ e9_ it_ = true)))) [(e1_, .inr (5, [.ref xt_, .int (nI n_), .int (nI e9_), .int (nI b_), .int tk_, .int vl_])), (xt_, .inl (cy 0, 200, .inl tx_))] := by
  refine CT.of cX5_isWord 4 (some .boolean) (by decide +kernel) rfl (Nat.le_of_ble_eq_true rfl) ?_
  intro p e s m args below meth c A Q ls F hmn hK hE hA hP hD hS hl RT
  obtain ⟨hx, hb, hml, hown, hts⟩ := id F
  have winX5 : ∀ w ∈ u_ws RX5 TX5 6, w ∈ wsX5_isWord := by decide +kernel
  have wf17 := hts (.fieldLink RX5 17 "SelfSteer$Reader" "place" "I") (by decide +kernel)
  have wf20 := hts (.fieldLink RX5 20 "SelfSteer$Reader" "begin" "I") (by decide +kernel)
  have wf7 := hts (.fieldLink RX5 7 "SelfSteer$Reader" "bytes" "[I") (by decide +kernel)
  have hl : lv_has ls 4 [(0, .ref e1_), (1, .int (nI it_))] := hl
  have hP : va_P D vwCl [(e1_, .inr (5, [.ref xt_, .int (nI n_), .int (nI e9_), .int (nI b_), .int tk_, .int vl_])), (xt_, .inl (cy 0, 200, .inl tx_))] s.heap := hP
  have hD : va_D A [(e1_, .inr (5, [.ref xt_, .int (nI n_), .int (nI e9_), .int (nI b_), .int tk_, .int vl_])), (xt_, .inl (cy 0, 200, .inl tx_))] := hD
  obtain ⟨H, hH⟩ : ∃ H0 : Heap, H0 = s.heap := ⟨_, rfl⟩
  obtain ⟨locs, hlo⟩ : ∃ L0 : List Loc, L0 = [] := ⟨_, rfl⟩
  have hS : va_S A s.heap H locs := by rw [hH, hlo]; exact hS
  rw [← hH] at hP
  show W p l e rmkX5_isWord s m args below meth c s.heap [] 0 0 Q (F0 m 0 ls [])
  suffices hgo : W p l e rmkX5_isWord s m args below meth c H locs 0 0 Q (F0 m 0 ls []) by rw [hH, hlo] at hgo; exact hgo
  clear hH hlo
  refine lv_aload_n hx hb dX5_isWord_0 rfl (lv_at hl 0 rfl) ?_
  refine va_get (D := D) (ci := 5) (v := .int (nI e9_)) (C := RX5) (T := TX5) (N := 6) hx hb hts winX5 hown hK hP 0 rfl rfl 2 (by decide) wf17 (fun _ h9 => h9) rfl dX5_isWord_1 ?_
  refine lv_aload_n hx hb dX5_isWord_4 rfl (lv_at hl 0 rfl) ?_
  refine va_get (D := D) (ci := 5) (v := .int (nI b_)) (C := RX5) (T := TX5) (N := 6) hx hb hts winX5 hown hK hP 0 rfl rfl 3 (by decide) wf20 (fun _ h9 => h9) rfl dX5_isWord_5 ?_
  refine lv_isub hx hb dX5_isWord_8 ?_
  refine lv_eqi (y := nI (e9_ - b_)) (pk_sub hbe) ?_
  refine lv_istore_n (lv' := [(2, .int (nI (e9_ - b_))), (0, .ref e1_), (1, .int (nI it_))]) hx hb dX5_isWord_9 rfl hl (by decide) rfl (fun ls hl => ?_)
  refine lv_iload_n hx hb dX5_isWord_10 rfl (lv_at hl 0 rfl) ?_
  refine lv_iconst (v := 5) hx hb dX5_isWord_11 (by decide) ?_
  refine cn_ge (tgt := 30) hx hb (e9_ - b_) 5 rfl rfl (by omega) (by omega) dX5_isWord_12 (by decide) (fun c_12 => ?_) (fun c_12 => ?_)
  · refine lv_iconst (v := 0) hx hb dX5_isWord_30 (by decide) ?_
    have hno : ¬ wdB tx_ b_ e9_ it_ = true := by first | exact fun z => absurd (wd_i.mp z).1.1 (by omega) | exact fun z => c_27 (wd_i.mp z).1.2
    refine lv_eqi (y := bI (wdB tx_ b_ e9_ it_ = true)) ((bI_f hno).symm) ?_
    exact RT _ _ () H locs 31 ls (rt_z (bI_nar _) dX5_isWord_31) rfl hP hD hS
  · refine va_ldcS hx hb hown hE.t.1 dX5_isWord_15 ?_
    refine lv_iload_n hx hb dX5_isWord_17 rfl (lv_at hl 2 rfl) ?_
    refine lv_iconst (v := 5) hx hb dX5_isWord_18 (by decide) ?_
    refine lv_imul hx hb dX5_isWord_19 ?_
    refine lv_eqi (y := nI (it_ * 5)) (pk_mul it_ 5) ?_
    refine lv_iload_n hx hb dX5_isWord_20 rfl (lv_at hl 0 rfl) ?_
    refine lv_iadd hx hb dX5_isWord_21 ?_
    refine lv_eqi (y := nI ((it_ * 5) + (e9_ - b_))) (nI_add (it_ * 5) (e9_ - b_)) ?_
    refine ca_VS (n := 1) (rest := []) (wr := [(e1_, .inr (5, [.ref xt_, .int (nI n_), .int (nI e9_), .int (nI b_), .int tk_, .int vl_])), (xt_, .inl (cy 0, 200, .inl tx_))]) F hK hE hA hP hD hS hl.1 (kJ0_charAt (l := l) (D := D) (cy := cy) (sa := sa) ((it_ * 5) + (e9_ - b_)) (by first | assumption | omega | decide)) gX5_isWord_J0_charAt_5068e (EVt.recv hE.t hS) rfl rfl rfl (by decide +kernel) ⟨by decide, by decide⟩ [] [0, 1] rfl rfl rfl rfl (by decide) rfl rfl (Nat.le_of_ble_eq_true rfl) dX5_isWord_22 ⟨by decide, by decide⟩ (fun v9 u9 H locs hv hP hD hS => ?_)
    subst hv
    have hP : va_P D vwCl [(e1_, .inr (5, [.ref xt_, .int (nI n_), .int (nI e9_), .int (nI b_), .int tk_, .int vl_])), (xt_, .inl (cy 0, 200, .inl tx_))] H := hP
    have hD : va_D A [(e1_, .inr (5, [.ref xt_, .int (nI n_), .int (nI e9_), .int (nI b_), .int tk_, .int vl_])), (xt_, .inl (cy 0, 200, .inl tx_))] := hD
    refine W.eq (g2 := F0 m 25 ls [.int (s_WORDS ((it_ * 5) + (e9_ - b_)))]) rfl ?_
    refine lv_bipush (v := 32) hx hb dX5_isWord_25 (by decide) ?_
    refine lv_icmp_eq (tgt := 32) hx hb dX5_isWord_27 (by decide) (fun c_27 => ?_) (fun c_27 => ?_)
    · refine lv_iconst (v := 0) hx hb dX5_isWord_32 (by decide) ?_
      refine lv_istore_n (lv' := [(3, .int 0), (2, .int (nI (e9_ - b_))), (0, .ref e1_), (1, .int (nI it_))]) hx hb dX5_isWord_33 rfl hl (by decide) rfl (fun ls hl => ?_)
      have L_34 : ∀ (nF : Nat) (j_ : Nat), (j_ ≤ e9_ - b_) → (alB tx_ b_ it_ j_ = true) → e9_ - b_ - j_ < nF → ∀ (H : Heap) (locs : List Loc), va_P D vwCl [(e1_, .inr (5, [.ref xt_, .int (nI n_), .int (nI e9_), .int (nI b_), .int tk_, .int vl_])), (xt_, .inl (cy 0, 200, .inl tx_))] H → va_D A [(e1_, .inr (5, [.ref xt_, .int (nI n_), .int (nI e9_), .int (nI b_), .int tk_, .int vl_])), (xt_, .inl (cy 0, 200, .inl tx_))] → va_S A s.heap H locs → ∀ (ls : Array Slot), lv_has ls 4 [(3, .int (nI j_)), (2, .int (nI (e9_ - b_))), (0, .ref e1_), (1, .int (nI it_))] → W p l e rmkX5_isWord s m args below meth c H locs 0 0 Q (F0 m 34 ls []) := by
        intro nF
        induction nF with
        | zero => intro j_ hj hR hnF; exact absurd hnF (Nat.not_lt_zero _)
        | succ nF ih_34 =>
          intro j_ hj hR hn_34 H locs hP hD hS ls hl
          refine lv_iload_n hx hb dX5_isWord_34 rfl (lv_at hl 0 rfl) ?_
          refine lv_iload_n hx hb dX5_isWord_35 rfl (lv_at hl 1 rfl) ?_
          refine cn_ge (tgt := 71) hx hb j_ (e9_ - b_) rfl rfl (by omega) (by omega) dX5_isWord_36 (by decide) (fun c_36 => ?_) (fun c_36 => ?_)
          · refine lv_iconst (v := 1) hx hb dX5_isWord_71 (by decide) ?_
            have hyes : wdB tx_ b_ e9_ it_ = true := wd_i.mpr ⟨⟨by omega, c_27⟩, by rw [show e9_ - b_ = j_ by omega]; exact hR⟩
            refine lv_eqi (y := bI (wdB tx_ b_ e9_ it_ = true)) ((bI_t hyes).symm) ?_
            exact RT _ _ () H locs 72 ls (rt_z (bI_nar _) dX5_isWord_72) rfl hP hD hS
          · refine va_ldcS hx hb hown hE.t.1 dX5_isWord_39 ?_
            refine lv_iload_n hx hb dX5_isWord_41 rfl (lv_at hl 3 rfl) ?_
            refine lv_iconst (v := 5) hx hb dX5_isWord_42 (by decide) ?_
            refine lv_imul hx hb dX5_isWord_43 ?_
            refine lv_eqi (y := nI (it_ * 5)) (pk_mul it_ 5) ?_
            refine lv_iload_n hx hb dX5_isWord_44 rfl (lv_at hl 0 rfl) ?_
            refine lv_iadd hx hb dX5_isWord_45 ?_
            refine lv_eqi (y := nI ((it_ * 5) + j_)) (nI_add (it_ * 5) j_) ?_
            refine ca_VS (n := 1) (rest := []) (wr := [(e1_, .inr (5, [.ref xt_, .int (nI n_), .int (nI e9_), .int (nI b_), .int tk_, .int vl_])), (xt_, .inl (cy 0, 200, .inl tx_))]) F hK hE hA hP hD hS hl.1 (kJ0_charAt (l := l) (D := D) (cy := cy) (sa := sa) ((it_ * 5) + j_) (by first | assumption | omega | decide)) gX5_isWord_J0_charAt_5068e (EVt.recv hE.t hS) rfl rfl rfl (by decide +kernel) ⟨by decide, by decide⟩ [] [0, 1] rfl rfl rfl rfl (by decide) rfl rfl (Nat.le_of_ble_eq_true rfl) dX5_isWord_46 ⟨by decide, by decide⟩ (fun v9 u9 H locs hv hP hD hS => ?_)
            subst hv
            have hP : va_P D vwCl [(e1_, .inr (5, [.ref xt_, .int (nI n_), .int (nI e9_), .int (nI b_), .int tk_, .int vl_])), (xt_, .inl (cy 0, 200, .inl tx_))] H := hP
            have hD : va_D A [(e1_, .inr (5, [.ref xt_, .int (nI n_), .int (nI e9_), .int (nI b_), .int tk_, .int vl_])), (xt_, .inl (cy 0, 200, .inl tx_))] := hD
            refine W.eq (g2 := F0 m 49 ls [.int (s_WORDS ((it_ * 5) + j_))]) rfl ?_
            refine lv_aload_n hx hb dX5_isWord_49 rfl (lv_at hl 2 rfl) ?_
            refine va_get (D := D) (ci := 5) (v := .ref xt_) (C := RX5) (T := TX5) (N := 6) hx hb hts winX5 hown hK hP 0 rfl rfl 0 (by decide) wf7 (fun _ h9 => h9) rfl dX5_isWord_50 ?_
            refine lv_aload_n hx hb dX5_isWord_53 rfl (lv_at hl 2 rfl) ?_
            refine va_get (D := D) (ci := 5) (v := .int (nI b_)) (C := RX5) (T := TX5) (N := 6) hx hb hts winX5 hown hK hP 0 rfl rfl 3 (by decide) wf20 (fun _ h9 => h9) rfl dX5_isWord_54 ?_
            refine lv_iload_n hx hb dX5_isWord_57 rfl (lv_at hl 0 rfl) ?_
            refine lv_iadd hx hb dX5_isWord_58 ?_
            refine lv_eqi (y := nI (b_ + j_)) (nI_add b_ j_) ?_
            refine al_i hx hb hK hP 1 rfl (b_ + j_) (rfl) (by omega) (by decide) dX5_isWord_59 ?_
            refine lv_icmp_eq (tgt := 65) hx hb dX5_isWord_60 (by decide) (fun c_60 => ?_) (fun c_60 => ?_)
            · refine lv_iinc (v := nI (j_ + 1)) (lv' := [(3, .int (nI (j_ + 1))), (2, .int (nI (e9_ - b_))), (0, .ref e1_), (1, .int (nI it_))]) hx hb dX5_isWord_65 hl (k := 0) rfl (nI_add j_ 1) (by decide) rfl (fun ls hl => ?_)
              refine lv_goto (tgt := 34) hx hb dX5_isWord_68 (by decide) ?_
              exact ih_34 (j_ + 1) (by omega) (alB_s hR c_60) (by omega) H locs hP hD hS ls (lv_sub hl [0, 1, 2, 3] rfl)
            · refine lv_iconst (v := 0) hx hb dX5_isWord_63 (by decide) ?_
              have hno : ¬ wdB tx_ b_ e9_ it_ = true := fun z => c_60 (alB_g (wd_i.mp z).2 j_ (by omega))
              refine lv_eqi (y := bI (wdB tx_ b_ e9_ it_ = true)) ((bI_f hno).symm) ?_
              exact RT _ _ () H locs 64 ls (rt_z (bI_nar _) dX5_isWord_64) rfl hP hD hS
      exact L_34 _ 0 (Nat.zero_le _) (rfl) (Nat.lt_succ_self _) H locs hP hD hS ls (lv_sub hl [0, 1, 2, 3] rfl)
    · refine lv_iconst (v := 0) hx hb dX5_isWord_30 (by decide) ?_
      have hno : ¬ wdB tx_ b_ e9_ it_ = true := by first | exact fun z => absurd (wd_i.mp z).1.1 (by omega) | exact fun z => c_27 (wd_i.mp z).1.2
      refine lv_eqi (y := bI (wdB tx_ b_ e9_ it_ = true)) ((bI_f hno).symm) ?_
      exact RT _ _ () H locs 31 ls (rt_z (bI_nar _) dX5_isWord_31) rfl hP hD hS
abbrev rmkX5_readWord : Room := { frames := 5, cells := 0, slots := 0, locals := 108 }
set_option maxHeartbeats 4000000 in
set_option maxRecDepth 100000 in
theorem kX5_readWord {l : Launch} {D : va_G} {cy : Nat → ClassId} {sa : Nat → Nat} (e1_ : Nat) (xt_ : Nat) (n_ : Nat) (tx_ : Nat → Int32) (b_ : Nat) (tk_ : Int32) (vl_ : Int32) (hn : n_ ≤ 200) (hb0 : b_ ≤ n_) : CD l D cy sa yX5_readWord wsX5_readWord rmkX5_readWord [.ref e1_] [(e1_, .inr (5, [.ref xt_, .int (nI n_), .int (nI b_), .int (nI b_), .int tk_, .int vl_])), (xt_, .inl (cy 0, 200, .inl tx_))] (none) [(e1_, .inr (5, [.ref xt_, .int (nI n_), .int (nI (sp isL tx_ n_ b_)), .int (nI b_), .int ((wvF tx_ b_ (sp isL tx_ n_ b_) vl_ 5).1), .int ((wvF tx_ b_ (sp isL tx_ n_ b_) vl_ 5).2)])), (xt_, .inl (cy 0, 200, .inl tx_))] := by
  refine CT.of cX5_readWord 2 none (by decide +kernel) rfl (Nat.le_of_ble_eq_true rfl) ?_
  intro p e s m args below meth c A Q ls F hmn hK hE hA hP hD hS hl RT
  obtain ⟨hx, hb, hml, hown, hts⟩ := id F
  have winX5 : ∀ w ∈ u_ws RX5 TX5 6, w ∈ wsX5_readWord := by decide +kernel
  have wf17 := hts (.fieldLink RX5 17 "SelfSteer$Reader" "place" "I") (by decide +kernel)
  have wf13 := hts (.fieldLink RX5 13 "SelfSteer$Reader" "length" "I") (by decide +kernel)
  have wf23 := hts (.fieldLink RX5 23 "SelfSteer$Reader" "token" "I") (by decide +kernel)
  have wf26 := hts (.fieldLink RX5 26 "SelfSteer$Reader" "value" "I") (by decide +kernel)
  have wf7 := hts (.fieldLink RX5 7 "SelfSteer$Reader" "bytes" "[I") (by decide +kernel)
  have hl : lv_has ls 2 [(0, .ref e1_)] := hl
  have hP : va_P D vwCl [(e1_, .inr (5, [.ref xt_, .int (nI n_), .int (nI b_), .int (nI b_), .int tk_, .int vl_])), (xt_, .inl (cy 0, 200, .inl tx_))] s.heap := hP
  have hD : va_D A [(e1_, .inr (5, [.ref xt_, .int (nI n_), .int (nI b_), .int (nI b_), .int tk_, .int vl_])), (xt_, .inl (cy 0, 200, .inl tx_))] := hD
  obtain ⟨H, hH⟩ : ∃ H0 : Heap, H0 = s.heap := ⟨_, rfl⟩
  obtain ⟨locs, hlo⟩ : ∃ L0 : List Loc, L0 = [] := ⟨_, rfl⟩
  have hS : va_S A s.heap H locs := by rw [hH, hlo]; exact hS
  rw [← hH] at hP
  show W p l e rmkX5_readWord s m args below meth c s.heap [] 0 0 Q (F0 m 0 ls [])
  suffices hgo : W p l e rmkX5_readWord s m args below meth c H locs 0 0 Q (F0 m 0 ls []) by rw [hH, hlo] at hgo; exact hgo
  clear hH hlo
  have L_0 : ∀ (nF : Nat) (q_ : Nat), (b_ ≤ q_) → (q_ ≤ n_) → (sp isL tx_ n_ q_ = sp isL tx_ n_ b_) → n_ - q_ < nF → ∀ (H : Heap) (locs : List Loc), va_P D vwCl [(e1_, .inr (5, [.ref xt_, .int (nI n_), .int (nI q_), .int (nI b_), .int tk_, .int vl_])), (xt_, .inl (cy 0, 200, .inl tx_))] H → va_D A [(e1_, .inr (5, [.ref xt_, .int (nI n_), .int (nI q_), .int (nI b_), .int tk_, .int vl_])), (xt_, .inl (cy 0, 200, .inl tx_))] → va_S A s.heap H locs → ∀ (ls : Array Slot), lv_has ls 2 [(0, .ref e1_)] → W p l e rmkX5_readWord s m args below meth c H locs 0 0 Q (F0 m 0 ls []) := by
    intro nF
    induction nF with
    | zero => intro q_ hbq hqn hR hnF; exact absurd hnF (Nat.not_lt_zero _)
    | succ nF ih_0 =>
      intro q_ hbq hqn hR hn_0 H locs hP hD hS ls hl
      refine lv_aload_n hx hb dX5_readWord_0 rfl (lv_at hl 0 rfl) ?_
      refine va_get (D := D) (ci := 5) (v := .int (nI q_)) (C := RX5) (T := TX5) (N := 6) hx hb hts winX5 hown hK hP 0 rfl rfl 2 (by decide) wf17 (fun _ h9 => h9) rfl dX5_readWord_1 ?_
      refine lv_aload_n hx hb dX5_readWord_4 rfl (lv_at hl 0 rfl) ?_
      refine va_get (D := D) (ci := 5) (v := .int (nI n_)) (C := RX5) (T := TX5) (N := 6) hx hb hts winX5 hown hK hP 0 rfl rfl 1 (by decide) wf13 (fun _ h9 => h9) rfl dX5_readWord_5 ?_
      refine cn_ge (tgt := 39) hx hb q_ n_ rfl rfl (by omega) (by omega) dX5_readWord_8 (by decide) (fun c_8 => ?_) (fun c_8 => ?_)
      · have hq9 : q_ = sp isL tx_ n_ b_ := by first | exact (sp_n c_8).symm.trans hR | exact (sp_f (fun z => c_23 (isL_i.mpr z))).symm.trans hR
        refine lv_aload_n hx hb dX5_readWord_39 rfl (lv_at hl 0 rfl) ?_
        refine lv_iconst (v := 5) hx hb dX5_readWord_40 (by decide) ?_
        refine va_put (D := D) (ci := 5) (v := .int 5) (ty := .int) (C := RX5) (T := TX5) (N := 6) hx hb hts winX5 tyX5 tyX5_ok nmX5 hown hK hP hD hS 0 rfl rfl 4 (by decide) wf23 (fun _ h9 => h9) rfl (by decide +kernel) (rfl) (rfl) (Nat.le_of_ble_eq_true rfl) dX5_readWord_41 (fun H locs hP hD hS => ?_)
        have hP : va_P D vwCl [(e1_, .inr (5, [.ref xt_, .int (nI n_), .int (nI q_), .int (nI b_), .int 5, .int vl_])), (xt_, .inl (cy 0, 200, .inl tx_))] H := hP
        have hD : va_D A [(e1_, .inr (5, [.ref xt_, .int (nI n_), .int (nI q_), .int (nI b_), .int 5, .int vl_])), (xt_, .inl (cy 0, 200, .inl tx_))] := hD
        refine lv_iconst (v := 0) hx hb dX5_readWord_44 (by decide) ?_
        refine lv_istore_n (lv' := [(1, .int 0), (0, .ref e1_)]) hx hb dX5_readWord_45 rfl hl (by decide) rfl (fun ls hl => ?_)
        have L_46 : ∀ (nF : Nat) (j_ : Nat), (j_ ≤ 5) → 5 - j_ < nF → ∀ (H : Heap) (locs : List Loc), va_P D vwCl [(e1_, .inr (5, [.ref xt_, .int (nI n_), .int (nI q_), .int (nI b_), .int ((wvF tx_ b_ q_ vl_ j_).1), .int ((wvF tx_ b_ q_ vl_ j_).2)])), (xt_, .inl (cy 0, 200, .inl tx_))] H → va_D A [(e1_, .inr (5, [.ref xt_, .int (nI n_), .int (nI q_), .int (nI b_), .int ((wvF tx_ b_ q_ vl_ j_).1), .int ((wvF tx_ b_ q_ vl_ j_).2)])), (xt_, .inl (cy 0, 200, .inl tx_))] → va_S A s.heap H locs → ∀ (ls : Array Slot), lv_has ls 2 [(1, .int (nI j_)), (0, .ref e1_)] → W p l e rmkX5_readWord s m args below meth c H locs 0 0 Q (F0 m 46 ls []) := by
          intro nF
          induction nF with
          | zero => intro j_ hj hnF; exact absurd hnF (Nat.not_lt_zero _)
          | succ nF ih_46 =>
            intro j_ hj hn_46 H locs hP hD hS ls hl
            refine lv_iload_n hx hb dX5_readWord_46 rfl (lv_at hl 0 rfl) ?_
            refine lv_iconst (v := 5) hx hb dX5_readWord_47 (by decide) ?_
            refine cn_ge (tgt := 75) hx hb j_ 5 rfl rfl (by omega) (by omega) dX5_readWord_48 (by decide) (fun c_48 => ?_) (fun c_48 => ?_)
            · obtain ⟨hP, hD⟩ := ob_ws (gs := [.ref xt_, .int (nI n_), .int (nI (sp isL tx_ n_ b_)), .int (nI b_), .int ((wvF tx_ b_ (sp isL tx_ n_ b_) vl_ 5).1), .int ((wvF tx_ b_ (sp isL tx_ n_ b_) vl_ 5).2)]) hP hD 0 rfl (cons_eq2 (rfl) (cons_eq2 (rfl) (cons_eq2 (congrArg Value.int (show nI q_ = nI (sp isL tx_ n_ b_) from by rw [← hq9])) (cons_eq2 (rfl) (cons_eq2 (congrArg Value.int (show (wvF tx_ b_ q_ vl_ j_).1 = (wvF tx_ b_ (sp isL tx_ n_ b_) vl_ 5).1 from by rw [← hq9, show j_ = 5 by omega])) (cons_eq2 (congrArg Value.int (show (wvF tx_ b_ q_ vl_ j_).2 = (wvF tx_ b_ (sp isL tx_ n_ b_) vl_ 5).2 from by rw [← hq9, show j_ = 5 by omega])) (rfl)))))))
              have hP : va_P D vwCl [(e1_, .inr (5, [.ref xt_, .int (nI n_), .int (nI (sp isL tx_ n_ b_)), .int (nI b_), .int ((wvF tx_ b_ (sp isL tx_ n_ b_) vl_ 5).1), .int ((wvF tx_ b_ (sp isL tx_ n_ b_) vl_ 5).2)])), (xt_, .inl (cy 0, 200, .inl tx_))] H := hP
              have hD : va_D A [(e1_, .inr (5, [.ref xt_, .int (nI n_), .int (nI (sp isL tx_ n_ b_)), .int (nI b_), .int ((wvF tx_ b_ (sp isL tx_ n_ b_) vl_ 5).1), .int ((wvF tx_ b_ (sp isL tx_ n_ b_) vl_ 5).2)])), (xt_, .inl (cy 0, 200, .inl tx_))] := hD
              exact RT _ _ () H locs 75 ls (rt_v dX5_readWord_75) rfl hP hD hS
            · refine lv_aload_n hx hb dX5_readWord_51 rfl (lv_at hl 1 rfl) ?_
              refine lv_iload_n hx hb dX5_readWord_52 rfl (lv_at hl 0 rfl) ?_
              refine ca_V (q0 := 0) (n := 1) (rest := []) (wr := []) F hK hE hA hP hD hS hl.1 (kX5_isWord (l := l) (D := D) (cy := cy) (sa := sa) e1_ xt_ n_ tx_ b_ q_ ((wvF tx_ b_ q_ vl_ j_).1) ((wvF tx_ b_ q_ vl_ j_).2) j_ (by first | assumption | omega | decide) (by first | assumption | omega | decide) (by first | assumption | omega | decide) (by first | assumption | omega | decide)) gX5_readWord_X5_isWord rfl rfl rfl rfl rfl rfl (by decide +kernel) ⟨by decide, by decide⟩ [0, 1] [] rfl rfl rfl rfl (by decide) rfl rfl (Nat.le_of_ble_eq_true rfl) dX5_readWord_53 ⟨by decide, by decide⟩ (fun v9 u9 H locs hv hP hD hS => ?_)
              subst hv
              obtain ⟨hP, hD⟩ := re_ws (ws' := [(e1_, .inr (5, [.ref xt_, .int (nI n_), .int (nI q_), .int (nI b_), .int ((wvF tx_ b_ q_ vl_ j_).1), .int ((wvF tx_ b_ q_ vl_ j_).2)])), (xt_, .inl (cy 0, 200, .inl tx_))]) hP hD [0, 1] rfl rfl
              refine W.eq (g2 := F0 m 56 ls [.int (bI (wdB tx_ b_ q_ j_ = true))]) rfl ?_
              refine bz_eq (tgt := 69) hx hb dX5_readWord_56 (by decide) (fun c_56 => ?_) (fun c_56 => ?_)
              · refine lv_iinc (v := nI (j_ + 1)) (lv' := [(1, .int (nI (j_ + 1))), (0, .ref e1_)]) hx hb dX5_readWord_69 hl (k := 0) rfl (nI_add j_ 1) (by decide) rfl (fun ls hl => ?_)
                refine lv_goto (tgt := 46) hx hb dX5_readWord_72 (by decide) ?_
                have hc9 : Value.int ((wvF tx_ b_ q_ vl_ j_).1) = Value.int ((wvF tx_ b_ q_ vl_ (j_ + 1)).1) := congrArg _ (show ((wvF tx_ b_ q_ vl_ j_).1) = (wvF tx_ b_ q_ vl_ (j_ + 1)).1 from by first | (rw [wv_t c_56]) | (rw [wv_f c_56]))
                rw [hc9] at hP hD
                have hc9 : Value.int ((wvF tx_ b_ q_ vl_ j_).2) = Value.int ((wvF tx_ b_ q_ vl_ (j_ + 1)).2) := congrArg _ (show ((wvF tx_ b_ q_ vl_ j_).2) = (wvF tx_ b_ q_ vl_ (j_ + 1)).2 from by first | (rw [wv_t c_56]) | (rw [wv_f c_56]))
                rw [hc9] at hP hD
                exact ih_46 (j_ + 1) (by omega) (by omega) H locs hP hD hS ls (lv_sub hl [0, 1] rfl)
              · refine lv_aload_n hx hb dX5_readWord_59 rfl (lv_at hl 1 rfl) ?_
                refine lv_iconst (v := 1) hx hb dX5_readWord_60 (by decide) ?_
                refine va_put (D := D) (ci := 5) (v := .int 1) (ty := .int) (C := RX5) (T := TX5) (N := 6) hx hb hts winX5 tyX5 tyX5_ok nmX5 hown hK hP hD hS 0 rfl rfl 4 (by decide) wf23 (fun _ h9 => h9) rfl (by decide +kernel) (rfl) (rfl) (Nat.le_of_ble_eq_true rfl) dX5_readWord_61 (fun H locs hP hD hS => ?_)
                have hP : va_P D vwCl [(e1_, .inr (5, [.ref xt_, .int (nI n_), .int (nI q_), .int (nI b_), .int 1, .int ((wvF tx_ b_ q_ vl_ j_).2)])), (xt_, .inl (cy 0, 200, .inl tx_))] H := hP
                have hD : va_D A [(e1_, .inr (5, [.ref xt_, .int (nI n_), .int (nI q_), .int (nI b_), .int 1, .int ((wvF tx_ b_ q_ vl_ j_).2)])), (xt_, .inl (cy 0, 200, .inl tx_))] := hD
                refine lv_aload_n hx hb dX5_readWord_64 rfl (lv_at hl 1 rfl) ?_
                refine lv_iload_n hx hb dX5_readWord_65 rfl (lv_at hl 0 rfl) ?_
                refine va_put (D := D) (ci := 5) (v := .int (nI j_)) (ty := .int) (C := RX5) (T := TX5) (N := 6) hx hb hts winX5 tyX5 tyX5_ok nmX5 hown hK hP hD hS 0 rfl rfl 5 (by decide) wf26 (fun _ h9 => h9) rfl (by decide +kernel) (rfl) (rfl) (Nat.le_of_ble_eq_true rfl) dX5_readWord_66 (fun H locs hP hD hS => ?_)
                have hP : va_P D vwCl [(e1_, .inr (5, [.ref xt_, .int (nI n_), .int (nI q_), .int (nI b_), .int 1, .int (nI j_)])), (xt_, .inl (cy 0, 200, .inl tx_))] H := hP
                have hD : va_D A [(e1_, .inr (5, [.ref xt_, .int (nI n_), .int (nI q_), .int (nI b_), .int 1, .int (nI j_)])), (xt_, .inl (cy 0, 200, .inl tx_))] := hD
                refine lv_iinc (v := nI (j_ + 1)) (lv' := [(1, .int (nI (j_ + 1))), (0, .ref e1_)]) hx hb dX5_readWord_69 hl (k := 0) rfl (nI_add j_ 1) (by decide) rfl (fun ls hl => ?_)
                refine lv_goto (tgt := 46) hx hb dX5_readWord_72 (by decide) ?_
                have hc9 : Value.int 1 = Value.int ((wvF tx_ b_ q_ vl_ (j_ + 1)).1) := congrArg _ (show 1 = (wvF tx_ b_ q_ vl_ (j_ + 1)).1 from by first | (rw [wv_t c_56]) | (rw [wv_f c_56]))
                rw [hc9] at hP hD
                have hc9 : Value.int (nI j_) = Value.int ((wvF tx_ b_ q_ vl_ (j_ + 1)).2) := congrArg _ (show nI j_ = (wvF tx_ b_ q_ vl_ (j_ + 1)).2 from by first | (rw [wv_t c_56]) | (rw [wv_f c_56]))
                rw [hc9] at hP hD
                exact ih_46 (j_ + 1) (by omega) (by omega) H locs hP hD hS ls (lv_sub hl [0, 1] rfl)
        skip
        skip
        exact L_46 _ 0 (by omega) (Nat.lt_succ_self _) H locs hP hD hS ls (lv_sub hl [0, 1] rfl)
      · refine lv_aload_n hx hb dX5_readWord_11 rfl (lv_at hl 0 rfl) ?_
        refine va_get (D := D) (ci := 5) (v := .ref xt_) (C := RX5) (T := TX5) (N := 6) hx hb hts winX5 hown hK hP 0 rfl rfl 0 (by decide) wf7 (fun _ h9 => h9) rfl dX5_readWord_12 ?_
        refine lv_aload_n hx hb dX5_readWord_15 rfl (lv_at hl 0 rfl) ?_
        refine va_get (D := D) (ci := 5) (v := .int (nI q_)) (C := RX5) (T := TX5) (N := 6) hx hb hts winX5 hown hK hP 0 rfl rfl 2 (by decide) wf17 (fun _ h9 => h9) rfl dX5_readWord_16 ?_
        refine al_i hx hb hK hP 1 rfl q_ (rfl) (by omega) (by decide) dX5_readWord_19 ?_
        refine ca_S (n := 1) (rest := []) (wr := [(e1_, .inr (5, [.ref xt_, .int (nI n_), .int (nI q_), .int (nI b_), .int tk_, .int vl_])), (xt_, .inl (cy 0, 200, .inl tx_))]) F hK hE hA hP hD hS hl.1 (kX5_isLetter (l := l) (D := D) (cy := cy) (sa := sa) (tx_ q_)) gX5_readWord_X5_isLetter rfl rfl rfl (by decide +kernel) ⟨by decide, by decide⟩ [] [0, 1] rfl rfl rfl rfl (by decide) rfl rfl (Nat.le_of_ble_eq_true rfl) dX5_readWord_20 ⟨by decide, by decide⟩ (fun v9 u9 H locs hv hP hD hS => ?_)
        subst hv
        have hP : va_P D vwCl [(e1_, .inr (5, [.ref xt_, .int (nI n_), .int (nI q_), .int (nI b_), .int tk_, .int vl_])), (xt_, .inl (cy 0, 200, .inl tx_))] H := hP
        have hD : va_D A [(e1_, .inr (5, [.ref xt_, .int (nI n_), .int (nI q_), .int (nI b_), .int tk_, .int vl_])), (xt_, .inl (cy 0, 200, .inl tx_))] := hD
        refine W.eq (g2 := F0 m 23 ls [.int (bI (inR (tx_ q_) 97 122))]) rfl ?_
        refine bz_eq (tgt := 39) hx hb dX5_readWord_23 (by decide) (fun c_23 => ?_) (fun c_23 => ?_)
        · have hq9 : q_ = sp isL tx_ n_ b_ := by first | exact (sp_n c_8).symm.trans hR | exact (sp_f (fun z => c_23 (isL_i.mpr z))).symm.trans hR
          refine lv_aload_n hx hb dX5_readWord_39 rfl (lv_at hl 0 rfl) ?_
          refine lv_iconst (v := 5) hx hb dX5_readWord_40 (by decide) ?_
          refine va_put (D := D) (ci := 5) (v := .int 5) (ty := .int) (C := RX5) (T := TX5) (N := 6) hx hb hts winX5 tyX5 tyX5_ok nmX5 hown hK hP hD hS 0 rfl rfl 4 (by decide) wf23 (fun _ h9 => h9) rfl (by decide +kernel) (rfl) (rfl) (Nat.le_of_ble_eq_true rfl) dX5_readWord_41 (fun H locs hP hD hS => ?_)
          have hP : va_P D vwCl [(e1_, .inr (5, [.ref xt_, .int (nI n_), .int (nI q_), .int (nI b_), .int 5, .int vl_])), (xt_, .inl (cy 0, 200, .inl tx_))] H := hP
          have hD : va_D A [(e1_, .inr (5, [.ref xt_, .int (nI n_), .int (nI q_), .int (nI b_), .int 5, .int vl_])), (xt_, .inl (cy 0, 200, .inl tx_))] := hD
          refine lv_iconst (v := 0) hx hb dX5_readWord_44 (by decide) ?_
          refine lv_istore_n (lv' := [(1, .int 0), (0, .ref e1_)]) hx hb dX5_readWord_45 rfl hl (by decide) rfl (fun ls hl => ?_)
          have L_46 : ∀ (nF : Nat) (j_ : Nat), (j_ ≤ 5) → 5 - j_ < nF → ∀ (H : Heap) (locs : List Loc), va_P D vwCl [(e1_, .inr (5, [.ref xt_, .int (nI n_), .int (nI q_), .int (nI b_), .int ((wvF tx_ b_ q_ vl_ j_).1), .int ((wvF tx_ b_ q_ vl_ j_).2)])), (xt_, .inl (cy 0, 200, .inl tx_))] H → va_D A [(e1_, .inr (5, [.ref xt_, .int (nI n_), .int (nI q_), .int (nI b_), .int ((wvF tx_ b_ q_ vl_ j_).1), .int ((wvF tx_ b_ q_ vl_ j_).2)])), (xt_, .inl (cy 0, 200, .inl tx_))] → va_S A s.heap H locs → ∀ (ls : Array Slot), lv_has ls 2 [(1, .int (nI j_)), (0, .ref e1_)] → W p l e rmkX5_readWord s m args below meth c H locs 0 0 Q (F0 m 46 ls []) := by
            intro nF
            induction nF with
            | zero => intro j_ hj hnF; exact absurd hnF (Nat.not_lt_zero _)
            | succ nF ih_46 =>
              intro j_ hj hn_46 H locs hP hD hS ls hl
              refine lv_iload_n hx hb dX5_readWord_46 rfl (lv_at hl 0 rfl) ?_
              refine lv_iconst (v := 5) hx hb dX5_readWord_47 (by decide) ?_
              refine cn_ge (tgt := 75) hx hb j_ 5 rfl rfl (by omega) (by omega) dX5_readWord_48 (by decide) (fun c_48 => ?_) (fun c_48 => ?_)
              · obtain ⟨hP, hD⟩ := ob_ws (gs := [.ref xt_, .int (nI n_), .int (nI (sp isL tx_ n_ b_)), .int (nI b_), .int ((wvF tx_ b_ (sp isL tx_ n_ b_) vl_ 5).1), .int ((wvF tx_ b_ (sp isL tx_ n_ b_) vl_ 5).2)]) hP hD 0 rfl (cons_eq2 (rfl) (cons_eq2 (rfl) (cons_eq2 (congrArg Value.int (show nI q_ = nI (sp isL tx_ n_ b_) from by rw [← hq9])) (cons_eq2 (rfl) (cons_eq2 (congrArg Value.int (show (wvF tx_ b_ q_ vl_ j_).1 = (wvF tx_ b_ (sp isL tx_ n_ b_) vl_ 5).1 from by rw [← hq9, show j_ = 5 by omega])) (cons_eq2 (congrArg Value.int (show (wvF tx_ b_ q_ vl_ j_).2 = (wvF tx_ b_ (sp isL tx_ n_ b_) vl_ 5).2 from by rw [← hq9, show j_ = 5 by omega])) (rfl)))))))
                have hP : va_P D vwCl [(e1_, .inr (5, [.ref xt_, .int (nI n_), .int (nI (sp isL tx_ n_ b_)), .int (nI b_), .int ((wvF tx_ b_ (sp isL tx_ n_ b_) vl_ 5).1), .int ((wvF tx_ b_ (sp isL tx_ n_ b_) vl_ 5).2)])), (xt_, .inl (cy 0, 200, .inl tx_))] H := hP
                have hD : va_D A [(e1_, .inr (5, [.ref xt_, .int (nI n_), .int (nI (sp isL tx_ n_ b_)), .int (nI b_), .int ((wvF tx_ b_ (sp isL tx_ n_ b_) vl_ 5).1), .int ((wvF tx_ b_ (sp isL tx_ n_ b_) vl_ 5).2)])), (xt_, .inl (cy 0, 200, .inl tx_))] := hD
                exact RT _ _ () H locs 75 ls (rt_v dX5_readWord_75) rfl hP hD hS
              · refine lv_aload_n hx hb dX5_readWord_51 rfl (lv_at hl 1 rfl) ?_
                refine lv_iload_n hx hb dX5_readWord_52 rfl (lv_at hl 0 rfl) ?_
                refine ca_V (q0 := 0) (n := 1) (rest := []) (wr := []) F hK hE hA hP hD hS hl.1 (kX5_isWord (l := l) (D := D) (cy := cy) (sa := sa) e1_ xt_ n_ tx_ b_ q_ ((wvF tx_ b_ q_ vl_ j_).1) ((wvF tx_ b_ q_ vl_ j_).2) j_ (by first | assumption | omega | decide) (by first | assumption | omega | decide) (by first | assumption | omega | decide) (by first | assumption | omega | decide)) gX5_readWord_X5_isWord rfl rfl rfl rfl rfl rfl (by decide +kernel) ⟨by decide, by decide⟩ [0, 1] [] rfl rfl rfl rfl (by decide) rfl rfl (Nat.le_of_ble_eq_true rfl) dX5_readWord_53 ⟨by decide, by decide⟩ (fun v9 u9 H locs hv hP hD hS => ?_)
                subst hv
                obtain ⟨hP, hD⟩ := re_ws (ws' := [(e1_, .inr (5, [.ref xt_, .int (nI n_), .int (nI q_), .int (nI b_), .int ((wvF tx_ b_ q_ vl_ j_).1), .int ((wvF tx_ b_ q_ vl_ j_).2)])), (xt_, .inl (cy 0, 200, .inl tx_))]) hP hD [0, 1] rfl rfl
                refine W.eq (g2 := F0 m 56 ls [.int (bI (wdB tx_ b_ q_ j_ = true))]) rfl ?_
                refine bz_eq (tgt := 69) hx hb dX5_readWord_56 (by decide) (fun c_56 => ?_) (fun c_56 => ?_)
                · refine lv_iinc (v := nI (j_ + 1)) (lv' := [(1, .int (nI (j_ + 1))), (0, .ref e1_)]) hx hb dX5_readWord_69 hl (k := 0) rfl (nI_add j_ 1) (by decide) rfl (fun ls hl => ?_)
                  refine lv_goto (tgt := 46) hx hb dX5_readWord_72 (by decide) ?_
                  have hc9 : Value.int ((wvF tx_ b_ q_ vl_ j_).1) = Value.int ((wvF tx_ b_ q_ vl_ (j_ + 1)).1) := congrArg _ (show ((wvF tx_ b_ q_ vl_ j_).1) = (wvF tx_ b_ q_ vl_ (j_ + 1)).1 from by first | (rw [wv_t c_56]) | (rw [wv_f c_56]))
                  rw [hc9] at hP hD
                  have hc9 : Value.int ((wvF tx_ b_ q_ vl_ j_).2) = Value.int ((wvF tx_ b_ q_ vl_ (j_ + 1)).2) := congrArg _ (show ((wvF tx_ b_ q_ vl_ j_).2) = (wvF tx_ b_ q_ vl_ (j_ + 1)).2 from by first | (rw [wv_t c_56]) | (rw [wv_f c_56]))
                  rw [hc9] at hP hD
                  exact ih_46 (j_ + 1) (by omega) (by omega) H locs hP hD hS ls (lv_sub hl [0, 1] rfl)
                · refine lv_aload_n hx hb dX5_readWord_59 rfl (lv_at hl 1 rfl) ?_
                  refine lv_iconst (v := 1) hx hb dX5_readWord_60 (by decide) ?_
                  refine va_put (D := D) (ci := 5) (v := .int 1) (ty := .int) (C := RX5) (T := TX5) (N := 6) hx hb hts winX5 tyX5 tyX5_ok nmX5 hown hK hP hD hS 0 rfl rfl 4 (by decide) wf23 (fun _ h9 => h9) rfl (by decide +kernel) (rfl) (rfl) (Nat.le_of_ble_eq_true rfl) dX5_readWord_61 (fun H locs hP hD hS => ?_)
                  have hP : va_P D vwCl [(e1_, .inr (5, [.ref xt_, .int (nI n_), .int (nI q_), .int (nI b_), .int 1, .int ((wvF tx_ b_ q_ vl_ j_).2)])), (xt_, .inl (cy 0, 200, .inl tx_))] H := hP
                  have hD : va_D A [(e1_, .inr (5, [.ref xt_, .int (nI n_), .int (nI q_), .int (nI b_), .int 1, .int ((wvF tx_ b_ q_ vl_ j_).2)])), (xt_, .inl (cy 0, 200, .inl tx_))] := hD
                  refine lv_aload_n hx hb dX5_readWord_64 rfl (lv_at hl 1 rfl) ?_
                  refine lv_iload_n hx hb dX5_readWord_65 rfl (lv_at hl 0 rfl) ?_
                  refine va_put (D := D) (ci := 5) (v := .int (nI j_)) (ty := .int) (C := RX5) (T := TX5) (N := 6) hx hb hts winX5 tyX5 tyX5_ok nmX5 hown hK hP hD hS 0 rfl rfl 5 (by decide) wf26 (fun _ h9 => h9) rfl (by decide +kernel) (rfl) (rfl) (Nat.le_of_ble_eq_true rfl) dX5_readWord_66 (fun H locs hP hD hS => ?_)
                  have hP : va_P D vwCl [(e1_, .inr (5, [.ref xt_, .int (nI n_), .int (nI q_), .int (nI b_), .int 1, .int (nI j_)])), (xt_, .inl (cy 0, 200, .inl tx_))] H := hP
                  have hD : va_D A [(e1_, .inr (5, [.ref xt_, .int (nI n_), .int (nI q_), .int (nI b_), .int 1, .int (nI j_)])), (xt_, .inl (cy 0, 200, .inl tx_))] := hD
                  refine lv_iinc (v := nI (j_ + 1)) (lv' := [(1, .int (nI (j_ + 1))), (0, .ref e1_)]) hx hb dX5_readWord_69 hl (k := 0) rfl (nI_add j_ 1) (by decide) rfl (fun ls hl => ?_)
                  refine lv_goto (tgt := 46) hx hb dX5_readWord_72 (by decide) ?_
                  have hc9 : Value.int 1 = Value.int ((wvF tx_ b_ q_ vl_ (j_ + 1)).1) := congrArg _ (show 1 = (wvF tx_ b_ q_ vl_ (j_ + 1)).1 from by first | (rw [wv_t c_56]) | (rw [wv_f c_56]))
                  rw [hc9] at hP hD
                  have hc9 : Value.int (nI j_) = Value.int ((wvF tx_ b_ q_ vl_ (j_ + 1)).2) := congrArg _ (show nI j_ = (wvF tx_ b_ q_ vl_ (j_ + 1)).2 from by first | (rw [wv_t c_56]) | (rw [wv_f c_56]))
                  rw [hc9] at hP hD
                  exact ih_46 (j_ + 1) (by omega) (by omega) H locs hP hD hS ls (lv_sub hl [0, 1] rfl)
          skip
          skip
          exact L_46 _ 0 (by omega) (Nat.lt_succ_self _) H locs hP hD hS ls (lv_sub hl [0, 1] rfl)
        · refine lv_aload_n hx hb dX5_readWord_26 rfl (lv_at hl 0 rfl) ?_
          refine lv_dup hx hb dX5_readWord_27 rfl ?_
          refine va_get (D := D) (ci := 5) (v := .int (nI q_)) (C := RX5) (T := TX5) (N := 6) hx hb hts winX5 hown hK hP 0 rfl rfl 2 (by decide) wf17 (fun _ h9 => h9) rfl dX5_readWord_28 ?_
          refine lv_iconst (v := 1) hx hb dX5_readWord_31 (by decide) ?_
          refine lv_iadd hx hb dX5_readWord_32 ?_
          refine lv_eqi (y := nI (q_ + 1)) (nI_add q_ 1) ?_
          refine va_put (D := D) (ci := 5) (v := .int (nI (q_ + 1))) (ty := .int) (C := RX5) (T := TX5) (N := 6) hx hb hts winX5 tyX5 tyX5_ok nmX5 hown hK hP hD hS 0 rfl rfl 2 (by decide) wf17 (fun _ h9 => h9) rfl (by decide +kernel) (rfl) (rfl) (Nat.le_of_ble_eq_true rfl) dX5_readWord_33 (fun H locs hP hD hS => ?_)
          have hP : va_P D vwCl [(e1_, .inr (5, [.ref xt_, .int (nI n_), .int (nI (q_ + 1)), .int (nI b_), .int tk_, .int vl_])), (xt_, .inl (cy 0, 200, .inl tx_))] H := hP
          have hD : va_D A [(e1_, .inr (5, [.ref xt_, .int (nI n_), .int (nI (q_ + 1)), .int (nI b_), .int tk_, .int vl_])), (xt_, .inl (cy 0, 200, .inl tx_))] := hD
          refine lv_goto (tgt := 0) hx hb dX5_readWord_36 (by decide) ?_
          exact ih_0 (q_ + 1) (by omega) (by omega) ((sp_t (by omega) (isL_i.mp c_23)).symm.trans hR) (by omega) H locs hP hD hS ls (lv_sub hl [0] rfl)
  exact L_0 _ b_ (Nat.le_refl _) (by first | assumption | omega | decide) (rfl) (Nat.lt_succ_self _) H locs hP hD hS ls (lv_sub hl [0] rfl)
abbrev rmkX5_readAmount : Room := { frames := 2, cells := 0, slots := 0, locals := 42 }
set_option maxHeartbeats 4000000 in
set_option maxRecDepth 100000 in
theorem kX5_readAmount {l : Launch} {D : va_G} {cy : Nat → ClassId} {sa : Nat → Nat} (e1_ : Nat) (xt_ : Nat) (n_ : Nat) (tx_ : Nat → Int32) (b_ : Nat) (tk_ : Int32) (vl_ : Int32) (hn : n_ ≤ 200) (hb0 : b_ < n_) : CD l D cy sa yX5_readAmount wsX5_readAmount rmkX5_readAmount [.ref e1_] [(e1_, .inr (5, [.ref xt_, .int (nI n_), .int (nI b_), .int (nI b_), .int tk_, .int vl_])), (xt_, .inl (cy 0, 200, .inl tx_))] (none) [(e1_, .inr (5, [.ref xt_, .int (nI n_), .int (nI (sp isD tx_ n_ b_)), .int (nI b_), .int (amT tx_ b_ (sp isD tx_ n_ b_ - b_)), .int (amC tx_ b_ (sp isD tx_ n_ b_ - b_))])), (xt_, .inl (cy 0, 200, .inl tx_))] := by
  refine CT.of cX5_readAmount 2 none (by decide +kernel) rfl (Nat.le_of_ble_eq_true rfl) ?_
  intro p e s m args below meth c A Q ls F hmn hK hE hA hP hD hS hl RT
  obtain ⟨hx, hb, hml, hown, hts⟩ := id F
  have winX5 : ∀ w ∈ u_ws RX5 TX5 6, w ∈ wsX5_readAmount := by decide +kernel
  have wf26 := hts (.fieldLink RX5 26 "SelfSteer$Reader" "value" "I") (by decide +kernel)
  have wf17 := hts (.fieldLink RX5 17 "SelfSteer$Reader" "place" "I") (by decide +kernel)
  have wf13 := hts (.fieldLink RX5 13 "SelfSteer$Reader" "length" "I") (by decide +kernel)
  have wf7 := hts (.fieldLink RX5 7 "SelfSteer$Reader" "bytes" "[I") (by decide +kernel)
  have wf20 := hts (.fieldLink RX5 20 "SelfSteer$Reader" "begin" "I") (by decide +kernel)
  have wf23 := hts (.fieldLink RX5 23 "SelfSteer$Reader" "token" "I") (by decide +kernel)
  have wm29 := hts (.methodLink RX5 29 Lib.Math.min.name) (by decide +kernel)
  have ws_min := hts (.static Lib.Math.min.name) (by decide +kernel)
  have wi_math := hts (.initialized "java/lang/Math") (by decide +kernel)
  have wk_min := hts (.code Lib.Math.min.name Lib.Math.min.code 2 (some .int)) (by decide +kernel)
  have hl : lv_has ls 2 [(0, .ref e1_)] := hl
  have hP : va_P D vwCl [(e1_, .inr (5, [.ref xt_, .int (nI n_), .int (nI b_), .int (nI b_), .int tk_, .int vl_])), (xt_, .inl (cy 0, 200, .inl tx_))] s.heap := hP
  have hD : va_D A [(e1_, .inr (5, [.ref xt_, .int (nI n_), .int (nI b_), .int (nI b_), .int tk_, .int vl_])), (xt_, .inl (cy 0, 200, .inl tx_))] := hD
  obtain ⟨H, hH⟩ : ∃ H0 : Heap, H0 = s.heap := ⟨_, rfl⟩
  obtain ⟨locs, hlo⟩ : ∃ L0 : List Loc, L0 = [] := ⟨_, rfl⟩
  have hS : va_S A s.heap H locs := by rw [hH, hlo]; exact hS
  rw [← hH] at hP
  show W p l e rmkX5_readAmount s m args below meth c s.heap [] 0 0 Q (F0 m 0 ls [])
  suffices hgo : W p l e rmkX5_readAmount s m args below meth c H locs 0 0 Q (F0 m 0 ls []) by rw [hH, hlo] at hgo; exact hgo
  clear hH hlo
  refine lv_aload_n hx hb dX5_readAmount_0 rfl (lv_at hl 0 rfl) ?_
  refine lv_iconst (v := 0) hx hb dX5_readAmount_1 (by decide) ?_
  refine va_put (D := D) (ci := 5) (v := .int 0) (ty := .int) (C := RX5) (T := TX5) (N := 6) hx hb hts winX5 tyX5 tyX5_ok nmX5 hown hK hP hD hS 0 rfl rfl 5 (by decide) wf26 (fun _ h9 => h9) rfl (by decide +kernel) (rfl) (rfl) (Nat.le_of_ble_eq_true rfl) dX5_readAmount_2 (fun H locs hP hD hS => ?_)
  have hP : va_P D vwCl [(e1_, .inr (5, [.ref xt_, .int (nI n_), .int (nI b_), .int (nI b_), .int tk_, .int 0])), (xt_, .inl (cy 0, 200, .inl tx_))] H := hP
  have hD : va_D A [(e1_, .inr (5, [.ref xt_, .int (nI n_), .int (nI b_), .int (nI b_), .int tk_, .int 0])), (xt_, .inl (cy 0, 200, .inl tx_))] := hD
  have L_5 : ∀ (nF : Nat) (j_ : Nat), (b_ + j_ ≤ n_) → (sp isD tx_ n_ (b_ + j_) = sp isD tx_ n_ b_) → n_ - (b_ + j_) < nF → ∀ (H : Heap) (locs : List Loc), va_P D vwCl [(e1_, .inr (5, [.ref xt_, .int (nI n_), .int (nI (b_ + j_)), .int (nI b_), .int tk_, .int (amC tx_ b_ j_)])), (xt_, .inl (cy 0, 200, .inl tx_))] H → va_D A [(e1_, .inr (5, [.ref xt_, .int (nI n_), .int (nI (b_ + j_)), .int (nI b_), .int tk_, .int (amC tx_ b_ j_)])), (xt_, .inl (cy 0, 200, .inl tx_))] → va_S A s.heap H locs → ∀ (ls : Array Slot), lv_has ls 2 [(0, .ref e1_)] → W p l e rmkX5_readAmount s m args below meth c H locs 0 0 Q (F0 m 5 ls []) := by
    intro nF
    induction nF with
    | zero => intro j_ hjn hR hnF; exact absurd hnF (Nat.not_lt_zero _)
    | succ nF ih_5 =>
      intro j_ hjn hR hn_5 H locs hP hD hS ls hl
      refine lv_aload_n hx hb dX5_readAmount_5 rfl (lv_at hl 0 rfl) ?_
      refine va_get (D := D) (ci := 5) (v := .int (nI (b_ + j_))) (C := RX5) (T := TX5) (N := 6) hx hb hts winX5 hown hK hP 0 rfl rfl 2 (by decide) wf17 (fun _ h9 => h9) rfl dX5_readAmount_6 ?_
      refine lv_aload_n hx hb dX5_readAmount_9 rfl (lv_at hl 0 rfl) ?_
      refine va_get (D := D) (ci := 5) (v := .int (nI n_)) (C := RX5) (T := TX5) (N := 6) hx hb hts winX5 hown hK hP 0 rfl rfl 1 (by decide) wf13 (fun _ h9 => h9) rfl dX5_readAmount_10 ?_
      refine cn_ge (tgt := 74) hx hb (b_ + j_) n_ rfl rfl (by omega) (by omega) dX5_readAmount_13 (by decide) (fun c_13 => ?_) (fun c_13 => ?_)
      · have hq9 : b_ + j_ = sp isD tx_ n_ b_ := by first | exact (sp_n c_13).symm.trans hR | exact (sp_f (fun z => c_28 (isD_i.mpr z))).symm.trans hR
        have hj9 : j_ = sp isD tx_ n_ b_ - b_ := by omega
        refine lv_aload_n hx hb dX5_readAmount_74 rfl (lv_at hl 0 rfl) ?_
        refine va_get (D := D) (ci := 5) (v := .ref xt_) (C := RX5) (T := TX5) (N := 6) hx hb hts winX5 hown hK hP 0 rfl rfl 0 (by decide) wf7 (fun _ h9 => h9) rfl dX5_readAmount_75 ?_
        refine lv_aload_n hx hb dX5_readAmount_78 rfl (lv_at hl 0 rfl) ?_
        refine va_get (D := D) (ci := 5) (v := .int (nI b_)) (C := RX5) (T := TX5) (N := 6) hx hb hts winX5 hown hK hP 0 rfl rfl 3 (by decide) wf20 (fun _ h9 => h9) rfl dX5_readAmount_79 ?_
        refine al_i hx hb hK hP 1 rfl b_ (rfl) (by omega) (by decide) dX5_readAmount_82 ?_
        refine lv_bipush (v := 48) hx hb dX5_readAmount_83 (by decide) ?_
        have J_85_34 : ∀ (H : Heap) (locs : List Loc), va_P D vwCl [(e1_, .inr (5, [.ref xt_, .int (nI n_), .int (nI (b_ + j_)), .int (nI b_), .int tk_, .int (amC tx_ b_ j_)])), (xt_, .inl (cy 0, 200, .inl tx_))] H → va_D A [(e1_, .inr (5, [.ref xt_, .int (nI n_), .int (nI (b_ + j_)), .int (nI b_), .int tk_, .int (amC tx_ b_ j_)])), (xt_, .inl (cy 0, 200, .inl tx_))] → va_S A s.heap H locs → ∀ (ls : Array Slot), lv_has ls 2 [(0, .ref e1_)] → W p l e rmkX5_readAmount s m args below meth c H locs 0 0 Q (F0 m 106 ls [.int (bI (((tx_ b_) = 48) ∧ (¬ (j_ ≤ 1))))]) := by
          intro H locs hP hD hS ls hl
          refine lv_istore_n (lv' := [(1, .int (bI (((tx_ b_) = 48) ∧ (¬ (j_ ≤ 1))))), (0, .ref e1_)]) hx hb dX5_readAmount_106 rfl hl (by decide) rfl (fun ls hl => ?_)
          refine lv_aload_n hx hb dX5_readAmount_107 rfl (lv_at hl 1 rfl) ?_
          refine lv_iload_n hx hb dX5_readAmount_108 rfl (lv_at hl 0 rfl) ?_
          have J_109_39 : ∀ (z109 : Int32), z109 = (if ((tx_ b_) = 48) ∧ (¬ (j_ ≤ 1)) then 5 else (if (amC tx_ b_ j_) ≤ 999 then 3 else 5)) → ∀ (H : Heap) (locs : List Loc), va_P D vwCl [(e1_, .inr (5, [.ref xt_, .int (nI n_), .int (nI (b_ + j_)), .int (nI b_), .int tk_, .int (amC tx_ b_ j_)])), (xt_, .inl (cy 0, 200, .inl tx_))] H → va_D A [(e1_, .inr (5, [.ref xt_, .int (nI n_), .int (nI (b_ + j_)), .int (nI b_), .int tk_, .int (amC tx_ b_ j_)])), (xt_, .inl (cy 0, 200, .inl tx_))] → va_S A s.heap H locs → ∀ (ls : Array Slot), lv_has ls 2 [(1, .int (bI (((tx_ b_) = 48) ∧ (¬ (j_ ≤ 1))))), (0, .ref e1_)] → W p l e rmkX5_readAmount s m args below meth c H locs 0 0 Q (F0 m 127 ls [.int z109, .ref e1_]) := by
            intro z109 ez109 H locs hP hD hS ls hl
            refine va_put (D := D) (ci := 5) (v := .int z109) (ty := .int) (C := RX5) (T := TX5) (N := 6) hx hb hts winX5 tyX5 tyX5_ok nmX5 hown hK hP hD hS 0 rfl rfl 4 (by decide) wf23 (fun _ h9 => h9) rfl (by decide +kernel) (rfl) (rfl) (Nat.le_of_ble_eq_true rfl) dX5_readAmount_127 (fun H locs hP hD hS => ?_)
            have hP : va_P D vwCl [(e1_, .inr (5, [.ref xt_, .int (nI n_), .int (nI (b_ + j_)), .int (nI b_), .int z109, .int (amC tx_ b_ j_)])), (xt_, .inl (cy 0, 200, .inl tx_))] H := hP
            have hD : va_D A [(e1_, .inr (5, [.ref xt_, .int (nI n_), .int (nI (b_ + j_)), .int (nI b_), .int z109, .int (amC tx_ b_ j_)])), (xt_, .inl (cy 0, 200, .inl tx_))] := hD
            obtain ⟨hP, hD⟩ := ob_ws (gs := [.ref xt_, .int (nI n_), .int (nI (sp isD tx_ n_ b_)), .int (nI b_), .int (amT tx_ b_ (sp isD tx_ n_ b_ - b_)), .int (amC tx_ b_ (sp isD tx_ n_ b_ - b_))]) hP hD 0 rfl (cons_eq2 (rfl) (cons_eq2 (rfl) (cons_eq2 (congrArg Value.int (show nI (b_ + j_) = nI (sp isD tx_ n_ b_) from by rw [hq9])) (cons_eq2 (rfl) (cons_eq2 (congrArg Value.int (show z109 = amT tx_ b_ (sp isD tx_ n_ b_ - b_) from by rw [← hj9]; exact ez109)) (cons_eq2 (congrArg Value.int (show amC tx_ b_ j_ = amC tx_ b_ (sp isD tx_ n_ b_ - b_) from by rw [← hj9])) (rfl)))))))
            have hP : va_P D vwCl [(e1_, .inr (5, [.ref xt_, .int (nI n_), .int (nI (sp isD tx_ n_ b_)), .int (nI b_), .int (amT tx_ b_ (sp isD tx_ n_ b_ - b_)), .int (amC tx_ b_ (sp isD tx_ n_ b_ - b_))])), (xt_, .inl (cy 0, 200, .inl tx_))] H := hP
            have hD : va_D A [(e1_, .inr (5, [.ref xt_, .int (nI n_), .int (nI (sp isD tx_ n_ b_)), .int (nI b_), .int (amT tx_ b_ (sp isD tx_ n_ b_ - b_)), .int (amC tx_ b_ (sp isD tx_ n_ b_ - b_))])), (xt_, .inl (cy 0, 200, .inl tx_))] := hD
            exact RT _ _ () H locs 130 ls (rt_v dX5_readAmount_130) rfl hP hD hS
          refine bz_ne (tgt := 122) hx hb dX5_readAmount_109 (by decide) (fun c_109 => ?_) (fun c_109 => ?_)
          · refine lv_iconst (v := 5) hx hb dX5_readAmount_122 (by decide) ?_
            refine lv_goto (tgt := 127) hx hb dX5_readAmount_123 (by decide) ?_
            exact J_109_39 _ ((if_pos c_109).symm) H locs hP hD hS ls (lv_sub hl [0, 1] rfl)
          · refine lv_aload_n hx hb dX5_readAmount_112 rfl (lv_at hl 1 rfl) ?_
            refine va_get (D := D) (ci := 5) (v := .int (amC tx_ b_ j_)) (C := RX5) (T := TX5) (N := 6) hx hb hts winX5 hown hK hP 0 rfl rfl 5 (by decide) wf26 (fun _ h9 => h9) rfl dX5_readAmount_113 ?_
            refine lv_sipush (v := 999) hx hb dX5_readAmount_116 (by decide) ?_
            refine lv_icmp_le (tgt := 126) hx hb dX5_readAmount_119 (by decide) (fun c_119 => ?_) (fun c_119 => ?_)
            · refine lv_iconst (v := 3) hx hb dX5_readAmount_126 (by decide) ?_
              exact J_109_39 _ (((if_neg c_109).trans (if_pos c_119)).symm) H locs hP hD hS ls (lv_sub hl [0, 1] rfl)
            · refine lv_iconst (v := 5) hx hb dX5_readAmount_122 (by decide) ?_
              refine lv_goto (tgt := 127) hx hb dX5_readAmount_123 (by decide) ?_
              exact J_109_39 _ (((if_neg c_109).trans (if_neg c_119)).symm) H locs hP hD hS ls (lv_sub hl [0, 1] rfl)
        refine lv_icmp_ne (tgt := 105) hx hb dX5_readAmount_85 (by decide) (fun c_85 => ?_) (fun c_85 => ?_)
        · refine lv_iconst (v := 0) hx hb dX5_readAmount_105 (by decide) ?_
          refine lv_eqi (y := bI (((tx_ b_) = 48) ∧ (¬ (j_ ≤ 1)))) (bI_congr (pd_f c_85)) ?_
          exact J_85_34 H locs hP hD hS ls (lv_sub hl [0] rfl)
        · refine lv_aload_n hx hb dX5_readAmount_88 rfl (lv_at hl 0 rfl) ?_
          refine va_get (D := D) (ci := 5) (v := .int (nI (b_ + j_))) (C := RX5) (T := TX5) (N := 6) hx hb hts winX5 hown hK hP 0 rfl rfl 2 (by decide) wf17 (fun _ h9 => h9) rfl dX5_readAmount_89 ?_
          refine lv_aload_n hx hb dX5_readAmount_92 rfl (lv_at hl 0 rfl) ?_
          refine va_get (D := D) (ci := 5) (v := .int (nI b_)) (C := RX5) (T := TX5) (N := 6) hx hb hts winX5 hown hK hP 0 rfl rfl 3 (by decide) wf20 (fun _ h9 => h9) rfl dX5_readAmount_93 ?_
          refine lv_isub hx hb dX5_readAmount_96 ?_
          refine lv_eqi (y := nI j_) ((pk_sub (by omega)).trans (by rw [Nat.add_sub_cancel_left])) ?_
          refine lv_iconst (v := 1) hx hb dX5_readAmount_97 (by decide) ?_
          refine cn_le (tgt := 105) hx hb j_ 1 rfl rfl (by omega) (by omega) dX5_readAmount_98 (by decide) (fun c_98 => ?_) (fun c_98 => ?_)
          · refine lv_iconst (v := 0) hx hb dX5_readAmount_105 (by decide) ?_
            refine lv_eqi (y := bI (((tx_ b_) = 48) ∧ (¬ (j_ ≤ 1)))) (bI_congr (pd_t c_85 (pn_t c_98))) ?_
            exact J_85_34 H locs hP hD hS ls (lv_sub hl [0] rfl)
          · refine lv_iconst (v := 1) hx hb dX5_readAmount_101 (by decide) ?_
            refine lv_goto (tgt := 106) hx hb dX5_readAmount_102 (by decide) ?_
            refine lv_eqi (y := bI (((tx_ b_) = 48) ∧ (¬ (j_ ≤ 1)))) (bI_congr (pd_t c_85 (pn_f c_98))) ?_
            exact J_85_34 H locs hP hD hS ls (lv_sub hl [0] rfl)
      · refine lv_aload_n hx hb dX5_readAmount_16 rfl (lv_at hl 0 rfl) ?_
        refine va_get (D := D) (ci := 5) (v := .ref xt_) (C := RX5) (T := TX5) (N := 6) hx hb hts winX5 hown hK hP 0 rfl rfl 0 (by decide) wf7 (fun _ h9 => h9) rfl dX5_readAmount_17 ?_
        refine lv_aload_n hx hb dX5_readAmount_20 rfl (lv_at hl 0 rfl) ?_
        refine va_get (D := D) (ci := 5) (v := .int (nI (b_ + j_))) (C := RX5) (T := TX5) (N := 6) hx hb hts winX5 hown hK hP 0 rfl rfl 2 (by decide) wf17 (fun _ h9 => h9) rfl dX5_readAmount_21 ?_
        refine al_i hx hb hK hP 1 rfl (b_ + j_) (rfl) (by omega) (by decide) dX5_readAmount_24 ?_
        refine ca_S (n := 1) (rest := []) (wr := [(e1_, .inr (5, [.ref xt_, .int (nI n_), .int (nI (b_ + j_)), .int (nI b_), .int tk_, .int (amC tx_ b_ j_)])), (xt_, .inl (cy 0, 200, .inl tx_))]) F hK hE hA hP hD hS hl.1 (kX5_isDigit (l := l) (D := D) (cy := cy) (sa := sa) (tx_ (b_ + j_))) gX5_readAmount_X5_isDigit rfl rfl rfl (by decide +kernel) ⟨by decide, by decide⟩ [] [0, 1] rfl rfl rfl rfl (by decide) rfl rfl (Nat.le_of_ble_eq_true rfl) dX5_readAmount_25 ⟨by decide, by decide⟩ (fun v9 u9 H locs hv hP hD hS => ?_)
        subst hv
        have hP : va_P D vwCl [(e1_, .inr (5, [.ref xt_, .int (nI n_), .int (nI (b_ + j_)), .int (nI b_), .int tk_, .int (amC tx_ b_ j_)])), (xt_, .inl (cy 0, 200, .inl tx_))] H := hP
        have hD : va_D A [(e1_, .inr (5, [.ref xt_, .int (nI n_), .int (nI (b_ + j_)), .int (nI b_), .int tk_, .int (amC tx_ b_ j_)])), (xt_, .inl (cy 0, 200, .inl tx_))] := hD
        refine W.eq (g2 := F0 m 28 ls [.int (bI (inR (tx_ (b_ + j_)) 48 57))]) rfl ?_
        refine bz_eq (tgt := 74) hx hb dX5_readAmount_28 (by decide) (fun c_28 => ?_) (fun c_28 => ?_)
        · have hq9 : b_ + j_ = sp isD tx_ n_ b_ := by first | exact (sp_n c_13).symm.trans hR | exact (sp_f (fun z => c_28 (isD_i.mpr z))).symm.trans hR
          have hj9 : j_ = sp isD tx_ n_ b_ - b_ := by omega
          refine lv_aload_n hx hb dX5_readAmount_74 rfl (lv_at hl 0 rfl) ?_
          refine va_get (D := D) (ci := 5) (v := .ref xt_) (C := RX5) (T := TX5) (N := 6) hx hb hts winX5 hown hK hP 0 rfl rfl 0 (by decide) wf7 (fun _ h9 => h9) rfl dX5_readAmount_75 ?_
          refine lv_aload_n hx hb dX5_readAmount_78 rfl (lv_at hl 0 rfl) ?_
          refine va_get (D := D) (ci := 5) (v := .int (nI b_)) (C := RX5) (T := TX5) (N := 6) hx hb hts winX5 hown hK hP 0 rfl rfl 3 (by decide) wf20 (fun _ h9 => h9) rfl dX5_readAmount_79 ?_
          refine al_i hx hb hK hP 1 rfl b_ (rfl) (by omega) (by decide) dX5_readAmount_82 ?_
          refine lv_bipush (v := 48) hx hb dX5_readAmount_83 (by decide) ?_
          have J_85_99 : ∀ (H : Heap) (locs : List Loc), va_P D vwCl [(e1_, .inr (5, [.ref xt_, .int (nI n_), .int (nI (b_ + j_)), .int (nI b_), .int tk_, .int (amC tx_ b_ j_)])), (xt_, .inl (cy 0, 200, .inl tx_))] H → va_D A [(e1_, .inr (5, [.ref xt_, .int (nI n_), .int (nI (b_ + j_)), .int (nI b_), .int tk_, .int (amC tx_ b_ j_)])), (xt_, .inl (cy 0, 200, .inl tx_))] → va_S A s.heap H locs → ∀ (ls : Array Slot), lv_has ls 2 [(0, .ref e1_)] → W p l e rmkX5_readAmount s m args below meth c H locs 0 0 Q (F0 m 106 ls [.int (bI (((tx_ b_) = 48) ∧ (¬ (j_ ≤ 1))))]) := by
            intro H locs hP hD hS ls hl
            refine lv_istore_n (lv' := [(1, .int (bI (((tx_ b_) = 48) ∧ (¬ (j_ ≤ 1))))), (0, .ref e1_)]) hx hb dX5_readAmount_106 rfl hl (by decide) rfl (fun ls hl => ?_)
            refine lv_aload_n hx hb dX5_readAmount_107 rfl (lv_at hl 1 rfl) ?_
            refine lv_iload_n hx hb dX5_readAmount_108 rfl (lv_at hl 0 rfl) ?_
            have J_109_104 : ∀ (z109 : Int32), z109 = (if ((tx_ b_) = 48) ∧ (¬ (j_ ≤ 1)) then 5 else (if (amC tx_ b_ j_) ≤ 999 then 3 else 5)) → ∀ (H : Heap) (locs : List Loc), va_P D vwCl [(e1_, .inr (5, [.ref xt_, .int (nI n_), .int (nI (b_ + j_)), .int (nI b_), .int tk_, .int (amC tx_ b_ j_)])), (xt_, .inl (cy 0, 200, .inl tx_))] H → va_D A [(e1_, .inr (5, [.ref xt_, .int (nI n_), .int (nI (b_ + j_)), .int (nI b_), .int tk_, .int (amC tx_ b_ j_)])), (xt_, .inl (cy 0, 200, .inl tx_))] → va_S A s.heap H locs → ∀ (ls : Array Slot), lv_has ls 2 [(1, .int (bI (((tx_ b_) = 48) ∧ (¬ (j_ ≤ 1))))), (0, .ref e1_)] → W p l e rmkX5_readAmount s m args below meth c H locs 0 0 Q (F0 m 127 ls [.int z109, .ref e1_]) := by
              intro z109 ez109 H locs hP hD hS ls hl
              refine va_put (D := D) (ci := 5) (v := .int z109) (ty := .int) (C := RX5) (T := TX5) (N := 6) hx hb hts winX5 tyX5 tyX5_ok nmX5 hown hK hP hD hS 0 rfl rfl 4 (by decide) wf23 (fun _ h9 => h9) rfl (by decide +kernel) (rfl) (rfl) (Nat.le_of_ble_eq_true rfl) dX5_readAmount_127 (fun H locs hP hD hS => ?_)
              have hP : va_P D vwCl [(e1_, .inr (5, [.ref xt_, .int (nI n_), .int (nI (b_ + j_)), .int (nI b_), .int z109, .int (amC tx_ b_ j_)])), (xt_, .inl (cy 0, 200, .inl tx_))] H := hP
              have hD : va_D A [(e1_, .inr (5, [.ref xt_, .int (nI n_), .int (nI (b_ + j_)), .int (nI b_), .int z109, .int (amC tx_ b_ j_)])), (xt_, .inl (cy 0, 200, .inl tx_))] := hD
              obtain ⟨hP, hD⟩ := ob_ws (gs := [.ref xt_, .int (nI n_), .int (nI (sp isD tx_ n_ b_)), .int (nI b_), .int (amT tx_ b_ (sp isD tx_ n_ b_ - b_)), .int (amC tx_ b_ (sp isD tx_ n_ b_ - b_))]) hP hD 0 rfl (cons_eq2 (rfl) (cons_eq2 (rfl) (cons_eq2 (congrArg Value.int (show nI (b_ + j_) = nI (sp isD tx_ n_ b_) from by rw [hq9])) (cons_eq2 (rfl) (cons_eq2 (congrArg Value.int (show z109 = amT tx_ b_ (sp isD tx_ n_ b_ - b_) from by rw [← hj9]; exact ez109)) (cons_eq2 (congrArg Value.int (show amC tx_ b_ j_ = amC tx_ b_ (sp isD tx_ n_ b_ - b_) from by rw [← hj9])) (rfl)))))))
              have hP : va_P D vwCl [(e1_, .inr (5, [.ref xt_, .int (nI n_), .int (nI (sp isD tx_ n_ b_)), .int (nI b_), .int (amT tx_ b_ (sp isD tx_ n_ b_ - b_)), .int (amC tx_ b_ (sp isD tx_ n_ b_ - b_))])), (xt_, .inl (cy 0, 200, .inl tx_))] H := hP
              have hD : va_D A [(e1_, .inr (5, [.ref xt_, .int (nI n_), .int (nI (sp isD tx_ n_ b_)), .int (nI b_), .int (amT tx_ b_ (sp isD tx_ n_ b_ - b_)), .int (amC tx_ b_ (sp isD tx_ n_ b_ - b_))])), (xt_, .inl (cy 0, 200, .inl tx_))] := hD
              exact RT _ _ () H locs 130 ls (rt_v dX5_readAmount_130) rfl hP hD hS
            refine bz_ne (tgt := 122) hx hb dX5_readAmount_109 (by decide) (fun c_109 => ?_) (fun c_109 => ?_)
            · refine lv_iconst (v := 5) hx hb dX5_readAmount_122 (by decide) ?_
              refine lv_goto (tgt := 127) hx hb dX5_readAmount_123 (by decide) ?_
              exact J_109_104 _ ((if_pos c_109).symm) H locs hP hD hS ls (lv_sub hl [0, 1] rfl)
            · refine lv_aload_n hx hb dX5_readAmount_112 rfl (lv_at hl 1 rfl) ?_
              refine va_get (D := D) (ci := 5) (v := .int (amC tx_ b_ j_)) (C := RX5) (T := TX5) (N := 6) hx hb hts winX5 hown hK hP 0 rfl rfl 5 (by decide) wf26 (fun _ h9 => h9) rfl dX5_readAmount_113 ?_
              refine lv_sipush (v := 999) hx hb dX5_readAmount_116 (by decide) ?_
              refine lv_icmp_le (tgt := 126) hx hb dX5_readAmount_119 (by decide) (fun c_119 => ?_) (fun c_119 => ?_)
              · refine lv_iconst (v := 3) hx hb dX5_readAmount_126 (by decide) ?_
                exact J_109_104 _ (((if_neg c_109).trans (if_pos c_119)).symm) H locs hP hD hS ls (lv_sub hl [0, 1] rfl)
              · refine lv_iconst (v := 5) hx hb dX5_readAmount_122 (by decide) ?_
                refine lv_goto (tgt := 127) hx hb dX5_readAmount_123 (by decide) ?_
                exact J_109_104 _ (((if_neg c_109).trans (if_neg c_119)).symm) H locs hP hD hS ls (lv_sub hl [0, 1] rfl)
          refine lv_icmp_ne (tgt := 105) hx hb dX5_readAmount_85 (by decide) (fun c_85 => ?_) (fun c_85 => ?_)
          · refine lv_iconst (v := 0) hx hb dX5_readAmount_105 (by decide) ?_
            refine lv_eqi (y := bI (((tx_ b_) = 48) ∧ (¬ (j_ ≤ 1)))) (bI_congr (pd_f c_85)) ?_
            exact J_85_99 H locs hP hD hS ls (lv_sub hl [0] rfl)
          · refine lv_aload_n hx hb dX5_readAmount_88 rfl (lv_at hl 0 rfl) ?_
            refine va_get (D := D) (ci := 5) (v := .int (nI (b_ + j_))) (C := RX5) (T := TX5) (N := 6) hx hb hts winX5 hown hK hP 0 rfl rfl 2 (by decide) wf17 (fun _ h9 => h9) rfl dX5_readAmount_89 ?_
            refine lv_aload_n hx hb dX5_readAmount_92 rfl (lv_at hl 0 rfl) ?_
            refine va_get (D := D) (ci := 5) (v := .int (nI b_)) (C := RX5) (T := TX5) (N := 6) hx hb hts winX5 hown hK hP 0 rfl rfl 3 (by decide) wf20 (fun _ h9 => h9) rfl dX5_readAmount_93 ?_
            refine lv_isub hx hb dX5_readAmount_96 ?_
            refine lv_eqi (y := nI j_) ((pk_sub (by omega)).trans (by rw [Nat.add_sub_cancel_left])) ?_
            refine lv_iconst (v := 1) hx hb dX5_readAmount_97 (by decide) ?_
            refine cn_le (tgt := 105) hx hb j_ 1 rfl rfl (by omega) (by omega) dX5_readAmount_98 (by decide) (fun c_98 => ?_) (fun c_98 => ?_)
            · refine lv_iconst (v := 0) hx hb dX5_readAmount_105 (by decide) ?_
              refine lv_eqi (y := bI (((tx_ b_) = 48) ∧ (¬ (j_ ≤ 1)))) (bI_congr (pd_t c_85 (pn_t c_98))) ?_
              exact J_85_99 H locs hP hD hS ls (lv_sub hl [0] rfl)
            · refine lv_iconst (v := 1) hx hb dX5_readAmount_101 (by decide) ?_
              refine lv_goto (tgt := 106) hx hb dX5_readAmount_102 (by decide) ?_
              refine lv_eqi (y := bI (((tx_ b_) = 48) ∧ (¬ (j_ ≤ 1)))) (bI_congr (pd_t c_85 (pn_f c_98))) ?_
              exact J_85_99 H locs hP hD hS ls (lv_sub hl [0] rfl)
        · refine lv_aload_n hx hb dX5_readAmount_31 rfl (lv_at hl 0 rfl) ?_
          refine lv_aload_n hx hb dX5_readAmount_32 rfl (lv_at hl 0 rfl) ?_
          refine va_get (D := D) (ci := 5) (v := .int (amC tx_ b_ j_)) (C := RX5) (T := TX5) (N := 6) hx hb hts winX5 hown hK hP 0 rfl rfl 5 (by decide) wf26 (fun _ h9 => h9) rfl dX5_readAmount_33 ?_
          refine lv_bipush (v := 10) hx hb dX5_readAmount_36 (by decide) ?_
          refine lv_imul hx hb dX5_readAmount_38 ?_
          refine lv_aload_n hx hb dX5_readAmount_39 rfl (lv_at hl 0 rfl) ?_
          refine va_get (D := D) (ci := 5) (v := .ref xt_) (C := RX5) (T := TX5) (N := 6) hx hb hts winX5 hown hK hP 0 rfl rfl 0 (by decide) wf7 (fun _ h9 => h9) rfl dX5_readAmount_40 ?_
          refine lv_aload_n hx hb dX5_readAmount_43 rfl (lv_at hl 0 rfl) ?_
          refine va_get (D := D) (ci := 5) (v := .int (nI (b_ + j_))) (C := RX5) (T := TX5) (N := 6) hx hb hts winX5 hown hK hP 0 rfl rfl 2 (by decide) wf17 (fun _ h9 => h9) rfl dX5_readAmount_44 ?_
          refine al_i hx hb hK hP 1 rfl (b_ + j_) (rfl) (by omega) (by decide) dX5_readAmount_47 ?_
          refine lv_iadd hx hb dX5_readAmount_48 ?_
          refine lv_bipush (v := 48) hx hb dX5_readAmount_49 (by decide) ?_
          refine lv_isub hx hb dX5_readAmount_51 ?_
          refine lv_sipush (v := 1000) hx hb dX5_readAmount_52 (by decide) ?_
          refine va_mmin hx hb (hml.trans hl.1.symm) hown wm29 ws_min wi_math wk_min (by decide) (Nat.le_of_ble_eq_true rfl) (Nat.zero_le _) (Nat.zero_le _) dX5_readAmount_55 ?_
          refine va_put (D := D) (ci := 5) (v := .int (if 1000 < ((((amC tx_ b_ j_) * 10) + (tx_ (b_ + j_))) - 48) then 1000 else ((((amC tx_ b_ j_) * 10) + (tx_ (b_ + j_))) - 48))) (ty := .int) (C := RX5) (T := TX5) (N := 6) hx hb hts winX5 tyX5 tyX5_ok nmX5 hown hK hP hD hS 0 rfl rfl 5 (by decide) wf26 (fun _ h9 => h9) rfl (by decide +kernel) (rfl) (rfl) (Nat.le_of_ble_eq_true rfl) dX5_readAmount_58 (fun H locs hP hD hS => ?_)
          have hP : va_P D vwCl [(e1_, .inr (5, [.ref xt_, .int (nI n_), .int (nI (b_ + j_)), .int (nI b_), .int tk_, .int (if 1000 < ((((amC tx_ b_ j_) * 10) + (tx_ (b_ + j_))) - 48) then 1000 else ((((amC tx_ b_ j_) * 10) + (tx_ (b_ + j_))) - 48))])), (xt_, .inl (cy 0, 200, .inl tx_))] H := hP
          have hD : va_D A [(e1_, .inr (5, [.ref xt_, .int (nI n_), .int (nI (b_ + j_)), .int (nI b_), .int tk_, .int (if 1000 < ((((amC tx_ b_ j_) * 10) + (tx_ (b_ + j_))) - 48) then 1000 else ((((amC tx_ b_ j_) * 10) + (tx_ (b_ + j_))) - 48))])), (xt_, .inl (cy 0, 200, .inl tx_))] := hD
          refine lv_aload_n hx hb dX5_readAmount_61 rfl (lv_at hl 0 rfl) ?_
          refine lv_dup hx hb dX5_readAmount_62 rfl ?_
          refine va_get (D := D) (ci := 5) (v := .int (nI (b_ + j_))) (C := RX5) (T := TX5) (N := 6) hx hb hts winX5 hown hK hP 0 rfl rfl 2 (by decide) wf17 (fun _ h9 => h9) rfl dX5_readAmount_63 ?_
          refine lv_iconst (v := 1) hx hb dX5_readAmount_66 (by decide) ?_
          refine lv_iadd hx hb dX5_readAmount_67 ?_
          refine lv_eqi (y := nI ((b_ + j_) + 1)) (nI_add (b_ + j_) 1) ?_
          refine va_put (D := D) (ci := 5) (v := .int (nI ((b_ + j_) + 1))) (ty := .int) (C := RX5) (T := TX5) (N := 6) hx hb hts winX5 tyX5 tyX5_ok nmX5 hown hK hP hD hS 0 rfl rfl 2 (by decide) wf17 (fun _ h9 => h9) rfl (by decide +kernel) (rfl) (rfl) (Nat.le_of_ble_eq_true rfl) dX5_readAmount_68 (fun H locs hP hD hS => ?_)
          have hP : va_P D vwCl [(e1_, .inr (5, [.ref xt_, .int (nI n_), .int (nI ((b_ + j_) + 1)), .int (nI b_), .int tk_, .int (if 1000 < ((((amC tx_ b_ j_) * 10) + (tx_ (b_ + j_))) - 48) then 1000 else ((((amC tx_ b_ j_) * 10) + (tx_ (b_ + j_))) - 48))])), (xt_, .inl (cy 0, 200, .inl tx_))] H := hP
          have hD : va_D A [(e1_, .inr (5, [.ref xt_, .int (nI n_), .int (nI ((b_ + j_) + 1)), .int (nI b_), .int tk_, .int (if 1000 < ((((amC tx_ b_ j_) * 10) + (tx_ (b_ + j_))) - 48) then 1000 else ((((amC tx_ b_ j_) * 10) + (tx_ (b_ + j_))) - 48))])), (xt_, .inl (cy 0, 200, .inl tx_))] := hD
          refine lv_goto (tgt := 5) hx hb dX5_readAmount_71 (by decide) ?_
          skip
          skip
          exact ih_5 (j_ + 1) (by omega) ((sp_t (by omega) (isD_i.mp c_28)).symm.trans hR) (by omega) H locs hP hD hS ls (lv_sub hl [0] rfl)
  skip
  skip
  exact L_5 _ 0 (by omega) (rfl) (Nat.lt_succ_self _) H locs hP hD hS ls (lv_sub hl [0] rfl)
abbrev rmkX5_next : Room := { frames := 6, cells := 0, slots := 0, locals := 129 }
set_option maxHeartbeats 4000000 in
set_option maxRecDepth 100000 in
theorem kX5_next {l : Launch} {D : va_G} {cy : Nat → ClassId} {sa : Nat → Nat} (e1_ : Nat) (xt_ : Nat) (n_ : Nat) (tx_ : Nat → Int32) (p9_ : Nat) (bg_ : Int32) (tk_ : Int32) (vl_ : Int32) (hn : n_ ≤ 200) (hp : p9_ ≤ n_) : CT (S := (Int32)) l D cy sa yX5_next wsX5_next rmkX5_next [.ref e1_] [(e1_, .inr (5, [.ref xt_, .int (nI n_), .int (nI p9_), .int bg_, .int tk_, .int vl_])), (xt_, .inl (cy 0, 200, .inl tx_))] (fun v9 vl2 => v9 = none ∧ (tkK tx_ n_ p9_ = 1 ∨ tkK tx_ n_ p9_ = 3 → vl2 = tkV tx_ n_ p9_)) (fun vl2 => [(e1_, .inr (5, [.ref xt_, .int (nI n_), .int (nI (tkE tx_ n_ p9_)), .int (nI (tkb tx_ n_ p9_)), .int (tkK tx_ n_ p9_), .int vl2])), (xt_, .inl (cy 0, 200, .inl tx_))]) 0 0 := by
  refine CT.of cX5_next 2 none (by decide +kernel) rfl (Nat.le_of_ble_eq_true rfl) ?_
  intro p e s m args below meth c A Q ls F hmn hK hE hA hP hD hS hl RT
  obtain ⟨hx, hb, hml, hown, hts⟩ := id F
  have winX5 : ∀ w ∈ u_ws RX5 TX5 6, w ∈ wsX5_next := by decide +kernel
  have wf17 := hts (.fieldLink RX5 17 "SelfSteer$Reader" "place" "I") (by decide +kernel)
  have wf13 := hts (.fieldLink RX5 13 "SelfSteer$Reader" "length" "I") (by decide +kernel)
  have wf20 := hts (.fieldLink RX5 20 "SelfSteer$Reader" "begin" "I") (by decide +kernel)
  have wf7 := hts (.fieldLink RX5 7 "SelfSteer$Reader" "bytes" "[I") (by decide +kernel)
  have wf23 := hts (.fieldLink RX5 23 "SelfSteer$Reader" "token" "I") (by decide +kernel)
  have hl : lv_has ls 2 [(0, .ref e1_)] := hl
  have hP : va_P D vwCl [(e1_, .inr (5, [.ref xt_, .int (nI n_), .int (nI p9_), .int bg_, .int tk_, .int vl_])), (xt_, .inl (cy 0, 200, .inl tx_))] s.heap := hP
  have hD : va_D A [(e1_, .inr (5, [.ref xt_, .int (nI n_), .int (nI p9_), .int bg_, .int tk_, .int vl_])), (xt_, .inl (cy 0, 200, .inl tx_))] := hD
  obtain ⟨H, hH⟩ : ∃ H0 : Heap, H0 = s.heap := ⟨_, rfl⟩
  obtain ⟨locs, hlo⟩ : ∃ L0 : List Loc, L0 = [] := ⟨_, rfl⟩
  have hS : va_S A s.heap H locs := by rw [hH, hlo]; exact hS
  rw [← hH] at hP
  show W p l e rmkX5_next s m args below meth c s.heap [] 0 0 Q (F0 m 0 ls [])
  suffices hgo : W p l e rmkX5_next s m args below meth c H locs 0 0 Q (F0 m 0 ls []) by rw [hH, hlo] at hgo; exact hgo
  clear hH hlo
  have L_0 : ∀ (nF : Nat) (q_ : Nat), (p9_ ≤ q_) → (q_ ≤ n_) → (sp isS tx_ n_ q_ = tkb tx_ n_ p9_) → n_ - q_ < nF → ∀ (H : Heap) (locs : List Loc), va_P D vwCl [(e1_, .inr (5, [.ref xt_, .int (nI n_), .int (nI q_), .int bg_, .int tk_, .int vl_])), (xt_, .inl (cy 0, 200, .inl tx_))] H → va_D A [(e1_, .inr (5, [.ref xt_, .int (nI n_), .int (nI q_), .int bg_, .int tk_, .int vl_])), (xt_, .inl (cy 0, 200, .inl tx_))] → va_S A s.heap H locs → ∀ (ls : Array Slot), lv_has ls 2 [(0, .ref e1_)] → W p l e rmkX5_next s m args below meth c H locs 0 0 Q (F0 m 0 ls []) := by
    intro nF
    induction nF with
    | zero => intro q_ hpq hqn hR hnF; exact absurd hnF (Nat.not_lt_zero _)
    | succ nF ih_0 =>
      intro q_ hpq hqn hR hn_0 H locs hP hD hS ls hl
      refine lv_aload_n hx hb dX5_next_0 rfl (lv_at hl 0 rfl) ?_
      refine va_get (D := D) (ci := 5) (v := .int (nI q_)) (C := RX5) (T := TX5) (N := 6) hx hb hts winX5 hown hK hP 0 rfl rfl 2 (by decide) wf17 (fun _ h9 => h9) rfl dX5_next_1 ?_
      refine lv_aload_n hx hb dX5_next_4 rfl (lv_at hl 0 rfl) ?_
      refine va_get (D := D) (ci := 5) (v := .int (nI n_)) (C := RX5) (T := TX5) (N := 6) hx hb hts winX5 hown hK hP 0 rfl rfl 1 (by decide) wf13 (fun _ h9 => h9) rfl dX5_next_5 ?_
      refine cn_ge (tgt := 38) hx hb q_ n_ rfl rfl (by omega) (by omega) dX5_next_8 (by decide) (fun c_8 => ?_) (fun c_8 => ?_)
      · have hq9 : tkb tx_ n_ p9_ = q_ := by first | exact hR.symm.trans (sp_n c_8) | exact hR.symm.trans (sp_f (fun z => c_22 (isS_i.mpr z)))
        refine lv_aload_n hx hb dX5_next_38 rfl (lv_at hl 0 rfl) ?_
        refine lv_aload_n hx hb dX5_next_39 rfl (lv_at hl 0 rfl) ?_
        refine va_get (D := D) (ci := 5) (v := .int (nI q_)) (C := RX5) (T := TX5) (N := 6) hx hb hts winX5 hown hK hP 0 rfl rfl 2 (by decide) wf17 (fun _ h9 => h9) rfl dX5_next_40 ?_
        refine va_put (D := D) (ci := 5) (v := .int (nI q_)) (ty := .int) (C := RX5) (T := TX5) (N := 6) hx hb hts winX5 tyX5 tyX5_ok nmX5 hown hK hP hD hS 0 rfl rfl 3 (by decide) wf20 (fun _ h9 => h9) rfl (by decide +kernel) (rfl) (rfl) (Nat.le_of_ble_eq_true rfl) dX5_next_43 (fun H locs hP hD hS => ?_)
        have hP : va_P D vwCl [(e1_, .inr (5, [.ref xt_, .int (nI n_), .int (nI q_), .int (nI q_), .int tk_, .int vl_])), (xt_, .inl (cy 0, 200, .inl tx_))] H := hP
        have hD : va_D A [(e1_, .inr (5, [.ref xt_, .int (nI n_), .int (nI q_), .int (nI q_), .int tk_, .int vl_])), (xt_, .inl (cy 0, 200, .inl tx_))] := hD
        refine lv_aload_n hx hb dX5_next_46 rfl (lv_at hl 0 rfl) ?_
        refine va_get (D := D) (ci := 5) (v := .int (nI q_)) (C := RX5) (T := TX5) (N := 6) hx hb hts winX5 hown hK hP 0 rfl rfl 2 (by decide) wf17 (fun _ h9 => h9) rfl dX5_next_47 ?_
        refine lv_aload_n hx hb dX5_next_50 rfl (lv_at hl 0 rfl) ?_
        refine va_get (D := D) (ci := 5) (v := .int (nI n_)) (C := RX5) (T := TX5) (N := 6) hx hb hts winX5 hown hK hP 0 rfl rfl 1 (by decide) wf13 (fun _ h9 => h9) rfl dX5_next_51 ?_
        refine cn_lt (tgt := 65) hx hb q_ n_ rfl rfl (by omega) (by omega) dX5_next_54 (by decide) (fun c_54 => ?_) (fun c_54 => ?_)
        · refine lv_aload_n hx hb dX5_next_65 rfl (lv_at hl 0 rfl) ?_
          refine va_get (D := D) (ci := 5) (v := .ref xt_) (C := RX5) (T := TX5) (N := 6) hx hb hts winX5 hown hK hP 0 rfl rfl 0 (by decide) wf7 (fun _ h9 => h9) rfl dX5_next_66 ?_
          refine lv_aload_n hx hb dX5_next_69 rfl (lv_at hl 0 rfl) ?_
          refine va_get (D := D) (ci := 5) (v := .int (nI q_)) (C := RX5) (T := TX5) (N := 6) hx hb hts winX5 hown hK hP 0 rfl rfl 2 (by decide) wf17 (fun _ h9 => h9) rfl dX5_next_70 ?_
          refine al_i hx hb hK hP 1 rfl q_ (rfl) (by omega) (by decide) dX5_next_73 ?_
          refine ca_S (n := 1) (rest := []) (wr := [(e1_, .inr (5, [.ref xt_, .int (nI n_), .int (nI q_), .int (nI q_), .int tk_, .int vl_])), (xt_, .inl (cy 0, 200, .inl tx_))]) F hK hE hA hP hD hS hl.1 (kX5_isLetter (l := l) (D := D) (cy := cy) (sa := sa) (tx_ q_)) gX5_next_X5_isLetter rfl rfl rfl (by decide +kernel) ⟨by decide, by decide⟩ [] [0, 1] rfl rfl rfl rfl (by decide) rfl rfl (Nat.le_of_ble_eq_true rfl) dX5_next_74 ⟨by decide, by decide⟩ (fun v9 u9 H locs hv hP hD hS => ?_)
          subst hv
          have hP : va_P D vwCl [(e1_, .inr (5, [.ref xt_, .int (nI n_), .int (nI q_), .int (nI q_), .int tk_, .int vl_])), (xt_, .inl (cy 0, 200, .inl tx_))] H := hP
          have hD : va_D A [(e1_, .inr (5, [.ref xt_, .int (nI n_), .int (nI q_), .int (nI q_), .int tk_, .int vl_])), (xt_, .inl (cy 0, 200, .inl tx_))] := hD
          refine W.eq (g2 := F0 m 77 ls [.int (bI (inR (tx_ q_) 97 122))]) rfl ?_
          refine bz_eq (tgt := 87) hx hb dX5_next_77 (by decide) (fun c_77 => ?_) (fun c_77 => ?_)
          · refine lv_aload_n hx hb dX5_next_87 rfl (lv_at hl 0 rfl) ?_
            refine va_get (D := D) (ci := 5) (v := .ref xt_) (C := RX5) (T := TX5) (N := 6) hx hb hts winX5 hown hK hP 0 rfl rfl 0 (by decide) wf7 (fun _ h9 => h9) rfl dX5_next_88 ?_
            refine lv_aload_n hx hb dX5_next_91 rfl (lv_at hl 0 rfl) ?_
            refine va_get (D := D) (ci := 5) (v := .int (nI q_)) (C := RX5) (T := TX5) (N := 6) hx hb hts winX5 hown hK hP 0 rfl rfl 2 (by decide) wf17 (fun _ h9 => h9) rfl dX5_next_92 ?_
            refine al_i hx hb hK hP 1 rfl q_ (rfl) (by omega) (by decide) dX5_next_95 ?_
            refine ca_S (n := 1) (rest := []) (wr := [(e1_, .inr (5, [.ref xt_, .int (nI n_), .int (nI q_), .int (nI q_), .int tk_, .int vl_])), (xt_, .inl (cy 0, 200, .inl tx_))]) F hK hE hA hP hD hS hl.1 (kX5_isDigit (l := l) (D := D) (cy := cy) (sa := sa) (tx_ q_)) gX5_next_X5_isDigit rfl rfl rfl (by decide +kernel) ⟨by decide, by decide⟩ [] [0, 1] rfl rfl rfl rfl (by decide) rfl rfl (Nat.le_of_ble_eq_true rfl) dX5_next_96 ⟨by decide, by decide⟩ (fun v9 u9 H locs hv hP hD hS => ?_)
            subst hv
            have hP : va_P D vwCl [(e1_, .inr (5, [.ref xt_, .int (nI n_), .int (nI q_), .int (nI q_), .int tk_, .int vl_])), (xt_, .inl (cy 0, 200, .inl tx_))] H := hP
            have hD : va_D A [(e1_, .inr (5, [.ref xt_, .int (nI n_), .int (nI q_), .int (nI q_), .int tk_, .int vl_])), (xt_, .inl (cy 0, 200, .inl tx_))] := hD
            refine W.eq (g2 := F0 m 99 ls [.int (bI (inR (tx_ q_) 48 57))]) rfl ?_
            refine bz_eq (tgt := 109) hx hb dX5_next_99 (by decide) (fun c_99 => ?_) (fun c_99 => ?_)
            · refine lv_aload_n hx hb dX5_next_109 rfl (lv_at hl 0 rfl) ?_
              refine va_get (D := D) (ci := 5) (v := .ref xt_) (C := RX5) (T := TX5) (N := 6) hx hb hts winX5 hown hK hP 0 rfl rfl 0 (by decide) wf7 (fun _ h9 => h9) rfl dX5_next_110 ?_
              refine lv_aload_n hx hb dX5_next_113 rfl (lv_at hl 0 rfl) ?_
              refine va_get (D := D) (ci := 5) (v := .int (nI q_)) (C := RX5) (T := TX5) (N := 6) hx hb hts winX5 hown hK hP 0 rfl rfl 2 (by decide) wf17 (fun _ h9 => h9) rfl dX5_next_114 ?_
              refine al_i hx hb hK hP 1 rfl q_ (rfl) (by omega) (by decide) dX5_next_117 ?_
              refine lv_istore_n (lv' := [(1, .int (tx_ q_)), (0, .ref e1_)]) hx hb dX5_next_118 rfl hl (by decide) rfl (fun ls hl => ?_)
              refine lv_aload_n hx hb dX5_next_119 rfl (lv_at hl 1 rfl) ?_
              refine lv_iload_n hx hb dX5_next_120 rfl (lv_at hl 0 rfl) ?_
              refine lv_bipush (v := 45) hx hb dX5_next_121 (by decide) ?_
              have J_123_64 : ∀ (z123 : Int32), z123 = (if (tx_ q_) = 45 then 2 else (if (tx_ q_) = 59 then 4 else 5)) → ∀ (H : Heap) (locs : List Loc), va_P D vwCl [(e1_, .inr (5, [.ref xt_, .int (nI n_), .int (nI q_), .int (nI q_), .int tk_, .int vl_])), (xt_, .inl (cy 0, 200, .inl tx_))] H → va_D A [(e1_, .inr (5, [.ref xt_, .int (nI n_), .int (nI q_), .int (nI q_), .int tk_, .int vl_])), (xt_, .inl (cy 0, 200, .inl tx_))] → va_S A s.heap H locs → ∀ (ls : Array Slot), lv_has ls 2 [(1, .int (tx_ q_)), (0, .ref e1_)] → W p l e rmkX5_next s m args below meth c H locs 0 0 Q (F0 m 141 ls [.int z123, .ref e1_]) := by
                intro z123 ez123 H locs hP hD hS ls hl
                refine va_put (D := D) (ci := 5) (v := .int z123) (ty := .int) (C := RX5) (T := TX5) (N := 6) hx hb hts winX5 tyX5 tyX5_ok nmX5 hown hK hP hD hS 0 rfl rfl 4 (by decide) wf23 (fun _ h9 => h9) rfl (by decide +kernel) (rfl) (rfl) (Nat.le_of_ble_eq_true rfl) dX5_next_141 (fun H locs hP hD hS => ?_)
                have hP : va_P D vwCl [(e1_, .inr (5, [.ref xt_, .int (nI n_), .int (nI q_), .int (nI q_), .int z123, .int vl_])), (xt_, .inl (cy 0, 200, .inl tx_))] H := hP
                have hD : va_D A [(e1_, .inr (5, [.ref xt_, .int (nI n_), .int (nI q_), .int (nI q_), .int z123, .int vl_])), (xt_, .inl (cy 0, 200, .inl tx_))] := hD
                refine lv_aload_n hx hb dX5_next_144 rfl (lv_at hl 1 rfl) ?_
                refine lv_dup hx hb dX5_next_145 rfl ?_
                refine va_get (D := D) (ci := 5) (v := .int (nI q_)) (C := RX5) (T := TX5) (N := 6) hx hb hts winX5 hown hK hP 0 rfl rfl 2 (by decide) wf17 (fun _ h9 => h9) rfl dX5_next_146 ?_
                refine lv_iconst (v := 1) hx hb dX5_next_149 (by decide) ?_
                refine lv_iadd hx hb dX5_next_150 ?_
                refine lv_eqi (y := nI (q_ + 1)) (nI_add q_ 1) ?_
                refine va_put (D := D) (ci := 5) (v := .int (nI (q_ + 1))) (ty := .int) (C := RX5) (T := TX5) (N := 6) hx hb hts winX5 tyX5 tyX5_ok nmX5 hown hK hP hD hS 0 rfl rfl 2 (by decide) wf17 (fun _ h9 => h9) rfl (by decide +kernel) (rfl) (rfl) (Nat.le_of_ble_eq_true rfl) dX5_next_151 (fun H locs hP hD hS => ?_)
                have hP : va_P D vwCl [(e1_, .inr (5, [.ref xt_, .int (nI n_), .int (nI (q_ + 1)), .int (nI q_), .int z123, .int vl_])), (xt_, .inl (cy 0, 200, .inl tx_))] H := hP
                have hD : va_D A [(e1_, .inr (5, [.ref xt_, .int (nI n_), .int (nI (q_ + 1)), .int (nI q_), .int z123, .int vl_])), (xt_, .inl (cy 0, 200, .inl tx_))] := hD
                have h7 := tb_sgn c_54 (fun z => c_77 (isL_i.mpr z)) (fun z => c_99 (isD_i.mpr z))
                obtain ⟨hP, hD⟩ := ob_ws (gs := [.ref xt_, .int (nI n_), .int (nI (tkE tx_ n_ p9_)), .int (nI (tkb tx_ n_ p9_)), .int (tkK tx_ n_ p9_), .int vl_]) hP hD 0 rfl (cons_eq2 (rfl) (cons_eq2 (rfl) (cons_eq2 (congrArg Value.int (show nI (q_ + 1) = nI (tkE tx_ n_ p9_) from by unfold tkE; rw [hq9, h7.2])) (cons_eq2 (congrArg Value.int (show nI q_ = nI (tkb tx_ n_ p9_) from by rw [hq9])) (cons_eq2 (congrArg Value.int (show z123 = tkK tx_ n_ p9_ from by unfold tkK; rw [hq9, h7.1, ez123])) (rfl))))))
                have hP : va_P D vwCl [(e1_, .inr (5, [.ref xt_, .int (nI n_), .int (nI (tkE tx_ n_ p9_)), .int (nI (tkb tx_ n_ p9_)), .int (tkK tx_ n_ p9_), .int vl_])), (xt_, .inl (cy 0, 200, .inl tx_))] H := hP
                have hD : va_D A [(e1_, .inr (5, [.ref xt_, .int (nI n_), .int (nI (tkE tx_ n_ p9_)), .int (nI (tkb tx_ n_ p9_)), .int (tkK tx_ n_ p9_), .int vl_])), (xt_, .inl (cy 0, 200, .inl tx_))] := hD
                exact RT _ _ (vl_) H locs 154 ls (rt_v dX5_next_154) ⟨rfl, (by unfold tkK; rw [hq9, h7.1]; exact fun z => (sgn_13 z).elim)⟩ hP hD hS
              refine lv_icmp_ne (tgt := 130) hx hb dX5_next_123 (by decide) (fun c_123 => ?_) (fun c_123 => ?_)
              · refine lv_iload_n hx hb dX5_next_130 rfl (lv_at hl 0 rfl) ?_
                refine lv_bipush (v := 59) hx hb dX5_next_131 (by decide) ?_
                refine lv_icmp_ne (tgt := 140) hx hb dX5_next_133 (by decide) (fun c_133 => ?_) (fun c_133 => ?_)
                · refine lv_iconst (v := 5) hx hb dX5_next_140 (by decide) ?_
                  exact J_123_64 _ (((if_neg c_123).trans (if_neg c_133)).symm) H locs hP hD hS ls (lv_sub hl [0, 1] rfl)
                · refine lv_iconst (v := 4) hx hb dX5_next_136 (by decide) ?_
                  refine lv_goto (tgt := 141) hx hb dX5_next_137 (by decide) ?_
                  exact J_123_64 _ (((if_neg c_123).trans (if_pos c_133)).symm) H locs hP hD hS ls (lv_sub hl [0, 1] rfl)
              · refine lv_iconst (v := 2) hx hb dX5_next_126 (by decide) ?_
                refine lv_goto (tgt := 141) hx hb dX5_next_127 (by decide) ?_
                exact J_123_64 _ ((if_pos c_123).symm) H locs hP hD hS ls (lv_sub hl [0, 1] rfl)
            · refine lv_aload_n hx hb dX5_next_102 rfl (lv_at hl 0 rfl) ?_
              refine ca_V (q0 := 0) (n := 0) (rest := []) (wr := []) F hK hE hA hP hD hS hl.1 (kX5_readAmount (l := l) (D := D) (cy := cy) (sa := sa) e1_ xt_ n_ tx_ q_ tk_ vl_ (by first | assumption | omega | decide) (by first | assumption | omega | decide)) gX5_next_X5_readAmount rfl rfl rfl rfl rfl rfl (by decide +kernel) ⟨by decide, by decide⟩ [0, 1] [] rfl rfl rfl rfl (by decide) rfl rfl (Nat.le_of_ble_eq_true rfl) dX5_next_103 ⟨by decide, by decide⟩ (fun v9 u9 H locs hv hP hD hS => ?_)
              subst hv
              obtain ⟨hP, hD⟩ := re_ws (ws' := [(e1_, .inr (5, [.ref xt_, .int (nI n_), .int (nI (sp isD tx_ n_ q_)), .int (nI q_), .int (amT tx_ q_ (sp isD tx_ n_ q_ - q_)), .int (amC tx_ q_ (sp isD tx_ n_ q_ - q_))])), (xt_, .inl (cy 0, 200, .inl tx_))]) hP hD [0, 1] rfl rfl
              refine W.eq (g2 := F0 m 106 ls []) rfl ?_
              refine lv_goto (tgt := 154) hx hb dX5_next_106 (by decide) ?_
              have h7 := tb_dig c_54 (fun z => c_77 (isL_i.mpr z)) (isD_i.mp c_99)
              obtain ⟨hP, hD⟩ := ob_ws (gs := [.ref xt_, .int (nI n_), .int (nI (tkE tx_ n_ p9_)), .int (nI (tkb tx_ n_ p9_)), .int (tkK tx_ n_ p9_), .int (amC tx_ q_ (sp isD tx_ n_ q_ - q_))]) hP hD 0 rfl (cons_eq2 (rfl) (cons_eq2 (rfl) (cons_eq2 (congrArg Value.int (show nI (sp isD tx_ n_ q_) = nI (tkE tx_ n_ p9_) from by unfold tkE; rw [hq9, h7.2.1])) (cons_eq2 (congrArg Value.int (show nI q_ = nI (tkb tx_ n_ p9_) from by rw [hq9])) (cons_eq2 (congrArg Value.int (show amT tx_ q_ (sp isD tx_ n_ q_ - q_) = tkK tx_ n_ p9_ from by unfold tkK; rw [hq9, h7.1])) (rfl))))))
              have hP : va_P D vwCl [(e1_, .inr (5, [.ref xt_, .int (nI n_), .int (nI (tkE tx_ n_ p9_)), .int (nI (tkb tx_ n_ p9_)), .int (tkK tx_ n_ p9_), .int (amC tx_ q_ (sp isD tx_ n_ q_ - q_))])), (xt_, .inl (cy 0, 200, .inl tx_))] H := hP
              have hD : va_D A [(e1_, .inr (5, [.ref xt_, .int (nI n_), .int (nI (tkE tx_ n_ p9_)), .int (nI (tkb tx_ n_ p9_)), .int (tkK tx_ n_ p9_), .int (amC tx_ q_ (sp isD tx_ n_ q_ - q_))])), (xt_, .inl (cy 0, 200, .inl tx_))] := hD
              exact RT _ _ (amC tx_ q_ (sp isD tx_ n_ q_ - q_)) H locs 154 ls (rt_v dX5_next_154) ⟨rfl, (by unfold tkK tkV; rw [hq9, h7.1, h7.2.2]; exact fun _ => rfl)⟩ hP hD hS
          · refine lv_aload_n hx hb dX5_next_80 rfl (lv_at hl 0 rfl) ?_
            refine ca_V (q0 := 0) (n := 0) (rest := []) (wr := []) F hK hE hA hP hD hS hl.1 (kX5_readWord (l := l) (D := D) (cy := cy) (sa := sa) e1_ xt_ n_ tx_ q_ tk_ vl_ (by first | assumption | omega | decide) (by first | assumption | omega | decide)) gX5_next_X5_readWord rfl rfl rfl rfl rfl rfl (by decide +kernel) ⟨by decide, by decide⟩ [0, 1] [] rfl rfl rfl rfl (by decide) rfl rfl (Nat.le_of_ble_eq_true rfl) dX5_next_81 ⟨by decide, by decide⟩ (fun v9 u9 H locs hv hP hD hS => ?_)
            subst hv
            obtain ⟨hP, hD⟩ := re_ws (ws' := [(e1_, .inr (5, [.ref xt_, .int (nI n_), .int (nI (sp isL tx_ n_ q_)), .int (nI q_), .int ((wvF tx_ q_ (sp isL tx_ n_ q_) vl_ 5).1), .int ((wvF tx_ q_ (sp isL tx_ n_ q_) vl_ 5).2)])), (xt_, .inl (cy 0, 200, .inl tx_))]) hP hD [0, 1] rfl rfl
            refine W.eq (g2 := F0 m 84 ls []) rfl ?_
            refine lv_goto (tgt := 154) hx hb dX5_next_84 (by decide) ?_
            have h7 := tb_let c_54 (isL_i.mp c_77)
            have h8 := wv_v (tx := tx_) (b := q_) (e := sp isL tx_ n_ q_) vl_
            obtain ⟨hP, hD⟩ := ob_ws (gs := [.ref xt_, .int (nI n_), .int (nI (tkE tx_ n_ p9_)), .int (nI (tkb tx_ n_ p9_)), .int (tkK tx_ n_ p9_), .int ((wvF tx_ q_ (sp isL tx_ n_ q_) vl_ 5).2)]) hP hD 0 rfl (cons_eq2 (rfl) (cons_eq2 (rfl) (cons_eq2 (congrArg Value.int (show nI (sp isL tx_ n_ q_) = nI (tkE tx_ n_ p9_) from by unfold tkE; rw [hq9, h7.2.1])) (cons_eq2 (congrArg Value.int (show nI q_ = nI (tkb tx_ n_ p9_) from by rw [hq9])) (cons_eq2 (congrArg Value.int (show (wvF tx_ q_ (sp isL tx_ n_ q_) vl_ 5).1 = tkK tx_ n_ p9_ from by unfold tkK; rw [hq9, h7.1, h8.1])) (rfl))))))
            have hP : va_P D vwCl [(e1_, .inr (5, [.ref xt_, .int (nI n_), .int (nI (tkE tx_ n_ p9_)), .int (nI (tkb tx_ n_ p9_)), .int (tkK tx_ n_ p9_), .int ((wvF tx_ q_ (sp isL tx_ n_ q_) vl_ 5).2)])), (xt_, .inl (cy 0, 200, .inl tx_))] H := hP
            have hD : va_D A [(e1_, .inr (5, [.ref xt_, .int (nI n_), .int (nI (tkE tx_ n_ p9_)), .int (nI (tkb tx_ n_ p9_)), .int (tkK tx_ n_ p9_), .int ((wvF tx_ q_ (sp isL tx_ n_ q_) vl_ 5).2)])), (xt_, .inl (cy 0, 200, .inl tx_))] := hD
            exact RT _ _ ((wvF tx_ q_ (sp isL tx_ n_ q_) vl_ 5).2) H locs 154 ls (rt_v dX5_next_154) ⟨rfl, (by unfold tkK tkV; rw [hq9, h7.1, h7.2.2]; exact h8.2)⟩ hP hD hS
        · refine lv_aload_n hx hb dX5_next_57 rfl (lv_at hl 0 rfl) ?_
          refine lv_iconst (v := 0) hx hb dX5_next_58 (by decide) ?_
          refine va_put (D := D) (ci := 5) (v := .int 0) (ty := .int) (C := RX5) (T := TX5) (N := 6) hx hb hts winX5 tyX5 tyX5_ok nmX5 hown hK hP hD hS 0 rfl rfl 4 (by decide) wf23 (fun _ h9 => h9) rfl (by decide +kernel) (rfl) (rfl) (Nat.le_of_ble_eq_true rfl) dX5_next_59 (fun H locs hP hD hS => ?_)
          have hP : va_P D vwCl [(e1_, .inr (5, [.ref xt_, .int (nI n_), .int (nI q_), .int (nI q_), .int 0, .int vl_])), (xt_, .inl (cy 0, 200, .inl tx_))] H := hP
          have hD : va_D A [(e1_, .inr (5, [.ref xt_, .int (nI n_), .int (nI q_), .int (nI q_), .int 0, .int vl_])), (xt_, .inl (cy 0, 200, .inl tx_))] := hD
          refine lv_goto (tgt := 154) hx hb dX5_next_62 (by decide) ?_
          have h7 := tb_end (tx := tx_) c_54
          obtain ⟨hP, hD⟩ := ob_ws (gs := [.ref xt_, .int (nI n_), .int (nI (tkE tx_ n_ p9_)), .int (nI (tkb tx_ n_ p9_)), .int (tkK tx_ n_ p9_), .int vl_]) hP hD 0 rfl (cons_eq2 (rfl) (cons_eq2 (rfl) (cons_eq2 (congrArg Value.int (show nI q_ = nI (tkE tx_ n_ p9_) from by unfold tkE; rw [hq9, h7.2])) (cons_eq2 (congrArg Value.int (show nI q_ = nI (tkb tx_ n_ p9_) from by rw [hq9])) (cons_eq2 (congrArg Value.int (show 0 = tkK tx_ n_ p9_ from by unfold tkK; rw [hq9, h7.1])) (rfl))))))
          have hP : va_P D vwCl [(e1_, .inr (5, [.ref xt_, .int (nI n_), .int (nI (tkE tx_ n_ p9_)), .int (nI (tkb tx_ n_ p9_)), .int (tkK tx_ n_ p9_), .int vl_])), (xt_, .inl (cy 0, 200, .inl tx_))] H := hP
          have hD : va_D A [(e1_, .inr (5, [.ref xt_, .int (nI n_), .int (nI (tkE tx_ n_ p9_)), .int (nI (tkb tx_ n_ p9_)), .int (tkK tx_ n_ p9_), .int vl_])), (xt_, .inl (cy 0, 200, .inl tx_))] := hD
          exact RT _ _ (vl_) H locs 154 ls (rt_v dX5_next_154) ⟨rfl, (by unfold tkK; rw [hq9, h7.1]; exact fun z => absurd z (by decide))⟩ hP hD hS
      · refine lv_aload_n hx hb dX5_next_11 rfl (lv_at hl 0 rfl) ?_
        refine va_get (D := D) (ci := 5) (v := .ref xt_) (C := RX5) (T := TX5) (N := 6) hx hb hts winX5 hown hK hP 0 rfl rfl 0 (by decide) wf7 (fun _ h9 => h9) rfl dX5_next_12 ?_
        refine lv_aload_n hx hb dX5_next_15 rfl (lv_at hl 0 rfl) ?_
        refine va_get (D := D) (ci := 5) (v := .int (nI q_)) (C := RX5) (T := TX5) (N := 6) hx hb hts winX5 hown hK hP 0 rfl rfl 2 (by decide) wf17 (fun _ h9 => h9) rfl dX5_next_16 ?_
        refine al_i hx hb hK hP 1 rfl q_ (rfl) (by omega) (by decide) dX5_next_19 ?_
        refine lv_bipush (v := 32) hx hb dX5_next_20 (by decide) ?_
        refine lv_icmp_ne (tgt := 38) hx hb dX5_next_22 (by decide) (fun c_22 => ?_) (fun c_22 => ?_)
        · have hq9 : tkb tx_ n_ p9_ = q_ := by first | exact hR.symm.trans (sp_n c_8) | exact hR.symm.trans (sp_f (fun z => c_22 (isS_i.mpr z)))
          refine lv_aload_n hx hb dX5_next_38 rfl (lv_at hl 0 rfl) ?_
          refine lv_aload_n hx hb dX5_next_39 rfl (lv_at hl 0 rfl) ?_
          refine va_get (D := D) (ci := 5) (v := .int (nI q_)) (C := RX5) (T := TX5) (N := 6) hx hb hts winX5 hown hK hP 0 rfl rfl 2 (by decide) wf17 (fun _ h9 => h9) rfl dX5_next_40 ?_
          refine va_put (D := D) (ci := 5) (v := .int (nI q_)) (ty := .int) (C := RX5) (T := TX5) (N := 6) hx hb hts winX5 tyX5 tyX5_ok nmX5 hown hK hP hD hS 0 rfl rfl 3 (by decide) wf20 (fun _ h9 => h9) rfl (by decide +kernel) (rfl) (rfl) (Nat.le_of_ble_eq_true rfl) dX5_next_43 (fun H locs hP hD hS => ?_)
          have hP : va_P D vwCl [(e1_, .inr (5, [.ref xt_, .int (nI n_), .int (nI q_), .int (nI q_), .int tk_, .int vl_])), (xt_, .inl (cy 0, 200, .inl tx_))] H := hP
          have hD : va_D A [(e1_, .inr (5, [.ref xt_, .int (nI n_), .int (nI q_), .int (nI q_), .int tk_, .int vl_])), (xt_, .inl (cy 0, 200, .inl tx_))] := hD
          refine lv_aload_n hx hb dX5_next_46 rfl (lv_at hl 0 rfl) ?_
          refine va_get (D := D) (ci := 5) (v := .int (nI q_)) (C := RX5) (T := TX5) (N := 6) hx hb hts winX5 hown hK hP 0 rfl rfl 2 (by decide) wf17 (fun _ h9 => h9) rfl dX5_next_47 ?_
          refine lv_aload_n hx hb dX5_next_50 rfl (lv_at hl 0 rfl) ?_
          refine va_get (D := D) (ci := 5) (v := .int (nI n_)) (C := RX5) (T := TX5) (N := 6) hx hb hts winX5 hown hK hP 0 rfl rfl 1 (by decide) wf13 (fun _ h9 => h9) rfl dX5_next_51 ?_
          refine cn_lt (tgt := 65) hx hb q_ n_ rfl rfl (by omega) (by omega) dX5_next_54 (by decide) (fun c_54 => ?_) (fun c_54 => ?_)
          · refine lv_aload_n hx hb dX5_next_65 rfl (lv_at hl 0 rfl) ?_
            refine va_get (D := D) (ci := 5) (v := .ref xt_) (C := RX5) (T := TX5) (N := 6) hx hb hts winX5 hown hK hP 0 rfl rfl 0 (by decide) wf7 (fun _ h9 => h9) rfl dX5_next_66 ?_
            refine lv_aload_n hx hb dX5_next_69 rfl (lv_at hl 0 rfl) ?_
            refine va_get (D := D) (ci := 5) (v := .int (nI q_)) (C := RX5) (T := TX5) (N := 6) hx hb hts winX5 hown hK hP 0 rfl rfl 2 (by decide) wf17 (fun _ h9 => h9) rfl dX5_next_70 ?_
            refine al_i hx hb hK hP 1 rfl q_ (rfl) (by omega) (by decide) dX5_next_73 ?_
            refine ca_S (n := 1) (rest := []) (wr := [(e1_, .inr (5, [.ref xt_, .int (nI n_), .int (nI q_), .int (nI q_), .int tk_, .int vl_])), (xt_, .inl (cy 0, 200, .inl tx_))]) F hK hE hA hP hD hS hl.1 (kX5_isLetter (l := l) (D := D) (cy := cy) (sa := sa) (tx_ q_)) gX5_next_X5_isLetter rfl rfl rfl (by decide +kernel) ⟨by decide, by decide⟩ [] [0, 1] rfl rfl rfl rfl (by decide) rfl rfl (Nat.le_of_ble_eq_true rfl) dX5_next_74 ⟨by decide, by decide⟩ (fun v9 u9 H locs hv hP hD hS => ?_)
            subst hv
            have hP : va_P D vwCl [(e1_, .inr (5, [.ref xt_, .int (nI n_), .int (nI q_), .int (nI q_), .int tk_, .int vl_])), (xt_, .inl (cy 0, 200, .inl tx_))] H := hP
            have hD : va_D A [(e1_, .inr (5, [.ref xt_, .int (nI n_), .int (nI q_), .int (nI q_), .int tk_, .int vl_])), (xt_, .inl (cy 0, 200, .inl tx_))] := hD
            refine W.eq (g2 := F0 m 77 ls [.int (bI (inR (tx_ q_) 97 122))]) rfl ?_
            refine bz_eq (tgt := 87) hx hb dX5_next_77 (by decide) (fun c_77 => ?_) (fun c_77 => ?_)
            · refine lv_aload_n hx hb dX5_next_87 rfl (lv_at hl 0 rfl) ?_
              refine va_get (D := D) (ci := 5) (v := .ref xt_) (C := RX5) (T := TX5) (N := 6) hx hb hts winX5 hown hK hP 0 rfl rfl 0 (by decide) wf7 (fun _ h9 => h9) rfl dX5_next_88 ?_
              refine lv_aload_n hx hb dX5_next_91 rfl (lv_at hl 0 rfl) ?_
              refine va_get (D := D) (ci := 5) (v := .int (nI q_)) (C := RX5) (T := TX5) (N := 6) hx hb hts winX5 hown hK hP 0 rfl rfl 2 (by decide) wf17 (fun _ h9 => h9) rfl dX5_next_92 ?_
              refine al_i hx hb hK hP 1 rfl q_ (rfl) (by omega) (by decide) dX5_next_95 ?_
              refine ca_S (n := 1) (rest := []) (wr := [(e1_, .inr (5, [.ref xt_, .int (nI n_), .int (nI q_), .int (nI q_), .int tk_, .int vl_])), (xt_, .inl (cy 0, 200, .inl tx_))]) F hK hE hA hP hD hS hl.1 (kX5_isDigit (l := l) (D := D) (cy := cy) (sa := sa) (tx_ q_)) gX5_next_X5_isDigit rfl rfl rfl (by decide +kernel) ⟨by decide, by decide⟩ [] [0, 1] rfl rfl rfl rfl (by decide) rfl rfl (Nat.le_of_ble_eq_true rfl) dX5_next_96 ⟨by decide, by decide⟩ (fun v9 u9 H locs hv hP hD hS => ?_)
              subst hv
              have hP : va_P D vwCl [(e1_, .inr (5, [.ref xt_, .int (nI n_), .int (nI q_), .int (nI q_), .int tk_, .int vl_])), (xt_, .inl (cy 0, 200, .inl tx_))] H := hP
              have hD : va_D A [(e1_, .inr (5, [.ref xt_, .int (nI n_), .int (nI q_), .int (nI q_), .int tk_, .int vl_])), (xt_, .inl (cy 0, 200, .inl tx_))] := hD
              refine W.eq (g2 := F0 m 99 ls [.int (bI (inR (tx_ q_) 48 57))]) rfl ?_
              refine bz_eq (tgt := 109) hx hb dX5_next_99 (by decide) (fun c_99 => ?_) (fun c_99 => ?_)
              · refine lv_aload_n hx hb dX5_next_109 rfl (lv_at hl 0 rfl) ?_
                refine va_get (D := D) (ci := 5) (v := .ref xt_) (C := RX5) (T := TX5) (N := 6) hx hb hts winX5 hown hK hP 0 rfl rfl 0 (by decide) wf7 (fun _ h9 => h9) rfl dX5_next_110 ?_
                refine lv_aload_n hx hb dX5_next_113 rfl (lv_at hl 0 rfl) ?_
                refine va_get (D := D) (ci := 5) (v := .int (nI q_)) (C := RX5) (T := TX5) (N := 6) hx hb hts winX5 hown hK hP 0 rfl rfl 2 (by decide) wf17 (fun _ h9 => h9) rfl dX5_next_114 ?_
                refine al_i hx hb hK hP 1 rfl q_ (rfl) (by omega) (by decide) dX5_next_117 ?_
                refine lv_istore_n (lv' := [(1, .int (tx_ q_)), (0, .ref e1_)]) hx hb dX5_next_118 rfl hl (by decide) rfl (fun ls hl => ?_)
                refine lv_aload_n hx hb dX5_next_119 rfl (lv_at hl 1 rfl) ?_
                refine lv_iload_n hx hb dX5_next_120 rfl (lv_at hl 0 rfl) ?_
                refine lv_bipush (v := 45) hx hb dX5_next_121 (by decide) ?_
                have J_123_179 : ∀ (z123 : Int32), z123 = (if (tx_ q_) = 45 then 2 else (if (tx_ q_) = 59 then 4 else 5)) → ∀ (H : Heap) (locs : List Loc), va_P D vwCl [(e1_, .inr (5, [.ref xt_, .int (nI n_), .int (nI q_), .int (nI q_), .int tk_, .int vl_])), (xt_, .inl (cy 0, 200, .inl tx_))] H → va_D A [(e1_, .inr (5, [.ref xt_, .int (nI n_), .int (nI q_), .int (nI q_), .int tk_, .int vl_])), (xt_, .inl (cy 0, 200, .inl tx_))] → va_S A s.heap H locs → ∀ (ls : Array Slot), lv_has ls 2 [(1, .int (tx_ q_)), (0, .ref e1_)] → W p l e rmkX5_next s m args below meth c H locs 0 0 Q (F0 m 141 ls [.int z123, .ref e1_]) := by
                  intro z123 ez123 H locs hP hD hS ls hl
                  refine va_put (D := D) (ci := 5) (v := .int z123) (ty := .int) (C := RX5) (T := TX5) (N := 6) hx hb hts winX5 tyX5 tyX5_ok nmX5 hown hK hP hD hS 0 rfl rfl 4 (by decide) wf23 (fun _ h9 => h9) rfl (by decide +kernel) (rfl) (rfl) (Nat.le_of_ble_eq_true rfl) dX5_next_141 (fun H locs hP hD hS => ?_)
                  have hP : va_P D vwCl [(e1_, .inr (5, [.ref xt_, .int (nI n_), .int (nI q_), .int (nI q_), .int z123, .int vl_])), (xt_, .inl (cy 0, 200, .inl tx_))] H := hP
                  have hD : va_D A [(e1_, .inr (5, [.ref xt_, .int (nI n_), .int (nI q_), .int (nI q_), .int z123, .int vl_])), (xt_, .inl (cy 0, 200, .inl tx_))] := hD
                  refine lv_aload_n hx hb dX5_next_144 rfl (lv_at hl 1 rfl) ?_
                  refine lv_dup hx hb dX5_next_145 rfl ?_
                  refine va_get (D := D) (ci := 5) (v := .int (nI q_)) (C := RX5) (T := TX5) (N := 6) hx hb hts winX5 hown hK hP 0 rfl rfl 2 (by decide) wf17 (fun _ h9 => h9) rfl dX5_next_146 ?_
                  refine lv_iconst (v := 1) hx hb dX5_next_149 (by decide) ?_
                  refine lv_iadd hx hb dX5_next_150 ?_
                  refine lv_eqi (y := nI (q_ + 1)) (nI_add q_ 1) ?_
                  refine va_put (D := D) (ci := 5) (v := .int (nI (q_ + 1))) (ty := .int) (C := RX5) (T := TX5) (N := 6) hx hb hts winX5 tyX5 tyX5_ok nmX5 hown hK hP hD hS 0 rfl rfl 2 (by decide) wf17 (fun _ h9 => h9) rfl (by decide +kernel) (rfl) (rfl) (Nat.le_of_ble_eq_true rfl) dX5_next_151 (fun H locs hP hD hS => ?_)
                  have hP : va_P D vwCl [(e1_, .inr (5, [.ref xt_, .int (nI n_), .int (nI (q_ + 1)), .int (nI q_), .int z123, .int vl_])), (xt_, .inl (cy 0, 200, .inl tx_))] H := hP
                  have hD : va_D A [(e1_, .inr (5, [.ref xt_, .int (nI n_), .int (nI (q_ + 1)), .int (nI q_), .int z123, .int vl_])), (xt_, .inl (cy 0, 200, .inl tx_))] := hD
                  have h7 := tb_sgn c_54 (fun z => c_77 (isL_i.mpr z)) (fun z => c_99 (isD_i.mpr z))
                  obtain ⟨hP, hD⟩ := ob_ws (gs := [.ref xt_, .int (nI n_), .int (nI (tkE tx_ n_ p9_)), .int (nI (tkb tx_ n_ p9_)), .int (tkK tx_ n_ p9_), .int vl_]) hP hD 0 rfl (cons_eq2 (rfl) (cons_eq2 (rfl) (cons_eq2 (congrArg Value.int (show nI (q_ + 1) = nI (tkE tx_ n_ p9_) from by unfold tkE; rw [hq9, h7.2])) (cons_eq2 (congrArg Value.int (show nI q_ = nI (tkb tx_ n_ p9_) from by rw [hq9])) (cons_eq2 (congrArg Value.int (show z123 = tkK tx_ n_ p9_ from by unfold tkK; rw [hq9, h7.1, ez123])) (rfl))))))
                  have hP : va_P D vwCl [(e1_, .inr (5, [.ref xt_, .int (nI n_), .int (nI (tkE tx_ n_ p9_)), .int (nI (tkb tx_ n_ p9_)), .int (tkK tx_ n_ p9_), .int vl_])), (xt_, .inl (cy 0, 200, .inl tx_))] H := hP
                  have hD : va_D A [(e1_, .inr (5, [.ref xt_, .int (nI n_), .int (nI (tkE tx_ n_ p9_)), .int (nI (tkb tx_ n_ p9_)), .int (tkK tx_ n_ p9_), .int vl_])), (xt_, .inl (cy 0, 200, .inl tx_))] := hD
                  exact RT _ _ (vl_) H locs 154 ls (rt_v dX5_next_154) ⟨rfl, (by unfold tkK; rw [hq9, h7.1]; exact fun z => (sgn_13 z).elim)⟩ hP hD hS
                refine lv_icmp_ne (tgt := 130) hx hb dX5_next_123 (by decide) (fun c_123 => ?_) (fun c_123 => ?_)
                · refine lv_iload_n hx hb dX5_next_130 rfl (lv_at hl 0 rfl) ?_
                  refine lv_bipush (v := 59) hx hb dX5_next_131 (by decide) ?_
                  refine lv_icmp_ne (tgt := 140) hx hb dX5_next_133 (by decide) (fun c_133 => ?_) (fun c_133 => ?_)
                  · refine lv_iconst (v := 5) hx hb dX5_next_140 (by decide) ?_
                    exact J_123_179 _ (((if_neg c_123).trans (if_neg c_133)).symm) H locs hP hD hS ls (lv_sub hl [0, 1] rfl)
                  · refine lv_iconst (v := 4) hx hb dX5_next_136 (by decide) ?_
                    refine lv_goto (tgt := 141) hx hb dX5_next_137 (by decide) ?_
                    exact J_123_179 _ (((if_neg c_123).trans (if_pos c_133)).symm) H locs hP hD hS ls (lv_sub hl [0, 1] rfl)
                · refine lv_iconst (v := 2) hx hb dX5_next_126 (by decide) ?_
                  refine lv_goto (tgt := 141) hx hb dX5_next_127 (by decide) ?_
                  exact J_123_179 _ ((if_pos c_123).symm) H locs hP hD hS ls (lv_sub hl [0, 1] rfl)
              · refine lv_aload_n hx hb dX5_next_102 rfl (lv_at hl 0 rfl) ?_
                refine ca_V (q0 := 0) (n := 0) (rest := []) (wr := []) F hK hE hA hP hD hS hl.1 (kX5_readAmount (l := l) (D := D) (cy := cy) (sa := sa) e1_ xt_ n_ tx_ q_ tk_ vl_ (by first | assumption | omega | decide) (by first | assumption | omega | decide)) gX5_next_X5_readAmount rfl rfl rfl rfl rfl rfl (by decide +kernel) ⟨by decide, by decide⟩ [0, 1] [] rfl rfl rfl rfl (by decide) rfl rfl (Nat.le_of_ble_eq_true rfl) dX5_next_103 ⟨by decide, by decide⟩ (fun v9 u9 H locs hv hP hD hS => ?_)
                subst hv
                obtain ⟨hP, hD⟩ := re_ws (ws' := [(e1_, .inr (5, [.ref xt_, .int (nI n_), .int (nI (sp isD tx_ n_ q_)), .int (nI q_), .int (amT tx_ q_ (sp isD tx_ n_ q_ - q_)), .int (amC tx_ q_ (sp isD tx_ n_ q_ - q_))])), (xt_, .inl (cy 0, 200, .inl tx_))]) hP hD [0, 1] rfl rfl
                refine W.eq (g2 := F0 m 106 ls []) rfl ?_
                refine lv_goto (tgt := 154) hx hb dX5_next_106 (by decide) ?_
                have h7 := tb_dig c_54 (fun z => c_77 (isL_i.mpr z)) (isD_i.mp c_99)
                obtain ⟨hP, hD⟩ := ob_ws (gs := [.ref xt_, .int (nI n_), .int (nI (tkE tx_ n_ p9_)), .int (nI (tkb tx_ n_ p9_)), .int (tkK tx_ n_ p9_), .int (amC tx_ q_ (sp isD tx_ n_ q_ - q_))]) hP hD 0 rfl (cons_eq2 (rfl) (cons_eq2 (rfl) (cons_eq2 (congrArg Value.int (show nI (sp isD tx_ n_ q_) = nI (tkE tx_ n_ p9_) from by unfold tkE; rw [hq9, h7.2.1])) (cons_eq2 (congrArg Value.int (show nI q_ = nI (tkb tx_ n_ p9_) from by rw [hq9])) (cons_eq2 (congrArg Value.int (show amT tx_ q_ (sp isD tx_ n_ q_ - q_) = tkK tx_ n_ p9_ from by unfold tkK; rw [hq9, h7.1])) (rfl))))))
                have hP : va_P D vwCl [(e1_, .inr (5, [.ref xt_, .int (nI n_), .int (nI (tkE tx_ n_ p9_)), .int (nI (tkb tx_ n_ p9_)), .int (tkK tx_ n_ p9_), .int (amC tx_ q_ (sp isD tx_ n_ q_ - q_))])), (xt_, .inl (cy 0, 200, .inl tx_))] H := hP
                have hD : va_D A [(e1_, .inr (5, [.ref xt_, .int (nI n_), .int (nI (tkE tx_ n_ p9_)), .int (nI (tkb tx_ n_ p9_)), .int (tkK tx_ n_ p9_), .int (amC tx_ q_ (sp isD tx_ n_ q_ - q_))])), (xt_, .inl (cy 0, 200, .inl tx_))] := hD
                exact RT _ _ (amC tx_ q_ (sp isD tx_ n_ q_ - q_)) H locs 154 ls (rt_v dX5_next_154) ⟨rfl, (by unfold tkK tkV; rw [hq9, h7.1, h7.2.2]; exact fun _ => rfl)⟩ hP hD hS
            · refine lv_aload_n hx hb dX5_next_80 rfl (lv_at hl 0 rfl) ?_
              refine ca_V (q0 := 0) (n := 0) (rest := []) (wr := []) F hK hE hA hP hD hS hl.1 (kX5_readWord (l := l) (D := D) (cy := cy) (sa := sa) e1_ xt_ n_ tx_ q_ tk_ vl_ (by first | assumption | omega | decide) (by first | assumption | omega | decide)) gX5_next_X5_readWord rfl rfl rfl rfl rfl rfl (by decide +kernel) ⟨by decide, by decide⟩ [0, 1] [] rfl rfl rfl rfl (by decide) rfl rfl (Nat.le_of_ble_eq_true rfl) dX5_next_81 ⟨by decide, by decide⟩ (fun v9 u9 H locs hv hP hD hS => ?_)
              subst hv
              obtain ⟨hP, hD⟩ := re_ws (ws' := [(e1_, .inr (5, [.ref xt_, .int (nI n_), .int (nI (sp isL tx_ n_ q_)), .int (nI q_), .int ((wvF tx_ q_ (sp isL tx_ n_ q_) vl_ 5).1), .int ((wvF tx_ q_ (sp isL tx_ n_ q_) vl_ 5).2)])), (xt_, .inl (cy 0, 200, .inl tx_))]) hP hD [0, 1] rfl rfl
              refine W.eq (g2 := F0 m 84 ls []) rfl ?_
              refine lv_goto (tgt := 154) hx hb dX5_next_84 (by decide) ?_
              have h7 := tb_let c_54 (isL_i.mp c_77)
              have h8 := wv_v (tx := tx_) (b := q_) (e := sp isL tx_ n_ q_) vl_
              obtain ⟨hP, hD⟩ := ob_ws (gs := [.ref xt_, .int (nI n_), .int (nI (tkE tx_ n_ p9_)), .int (nI (tkb tx_ n_ p9_)), .int (tkK tx_ n_ p9_), .int ((wvF tx_ q_ (sp isL tx_ n_ q_) vl_ 5).2)]) hP hD 0 rfl (cons_eq2 (rfl) (cons_eq2 (rfl) (cons_eq2 (congrArg Value.int (show nI (sp isL tx_ n_ q_) = nI (tkE tx_ n_ p9_) from by unfold tkE; rw [hq9, h7.2.1])) (cons_eq2 (congrArg Value.int (show nI q_ = nI (tkb tx_ n_ p9_) from by rw [hq9])) (cons_eq2 (congrArg Value.int (show (wvF tx_ q_ (sp isL tx_ n_ q_) vl_ 5).1 = tkK tx_ n_ p9_ from by unfold tkK; rw [hq9, h7.1, h8.1])) (rfl))))))
              have hP : va_P D vwCl [(e1_, .inr (5, [.ref xt_, .int (nI n_), .int (nI (tkE tx_ n_ p9_)), .int (nI (tkb tx_ n_ p9_)), .int (tkK tx_ n_ p9_), .int ((wvF tx_ q_ (sp isL tx_ n_ q_) vl_ 5).2)])), (xt_, .inl (cy 0, 200, .inl tx_))] H := hP
              have hD : va_D A [(e1_, .inr (5, [.ref xt_, .int (nI n_), .int (nI (tkE tx_ n_ p9_)), .int (nI (tkb tx_ n_ p9_)), .int (tkK tx_ n_ p9_), .int ((wvF tx_ q_ (sp isL tx_ n_ q_) vl_ 5).2)])), (xt_, .inl (cy 0, 200, .inl tx_))] := hD
              exact RT _ _ ((wvF tx_ q_ (sp isL tx_ n_ q_) vl_ 5).2) H locs 154 ls (rt_v dX5_next_154) ⟨rfl, (by unfold tkK tkV; rw [hq9, h7.1, h7.2.2]; exact h8.2)⟩ hP hD hS
          · refine lv_aload_n hx hb dX5_next_57 rfl (lv_at hl 0 rfl) ?_
            refine lv_iconst (v := 0) hx hb dX5_next_58 (by decide) ?_
            refine va_put (D := D) (ci := 5) (v := .int 0) (ty := .int) (C := RX5) (T := TX5) (N := 6) hx hb hts winX5 tyX5 tyX5_ok nmX5 hown hK hP hD hS 0 rfl rfl 4 (by decide) wf23 (fun _ h9 => h9) rfl (by decide +kernel) (rfl) (rfl) (Nat.le_of_ble_eq_true rfl) dX5_next_59 (fun H locs hP hD hS => ?_)
            have hP : va_P D vwCl [(e1_, .inr (5, [.ref xt_, .int (nI n_), .int (nI q_), .int (nI q_), .int 0, .int vl_])), (xt_, .inl (cy 0, 200, .inl tx_))] H := hP
            have hD : va_D A [(e1_, .inr (5, [.ref xt_, .int (nI n_), .int (nI q_), .int (nI q_), .int 0, .int vl_])), (xt_, .inl (cy 0, 200, .inl tx_))] := hD
            refine lv_goto (tgt := 154) hx hb dX5_next_62 (by decide) ?_
            have h7 := tb_end (tx := tx_) c_54
            obtain ⟨hP, hD⟩ := ob_ws (gs := [.ref xt_, .int (nI n_), .int (nI (tkE tx_ n_ p9_)), .int (nI (tkb tx_ n_ p9_)), .int (tkK tx_ n_ p9_), .int vl_]) hP hD 0 rfl (cons_eq2 (rfl) (cons_eq2 (rfl) (cons_eq2 (congrArg Value.int (show nI q_ = nI (tkE tx_ n_ p9_) from by unfold tkE; rw [hq9, h7.2])) (cons_eq2 (congrArg Value.int (show nI q_ = nI (tkb tx_ n_ p9_) from by rw [hq9])) (cons_eq2 (congrArg Value.int (show 0 = tkK tx_ n_ p9_ from by unfold tkK; rw [hq9, h7.1])) (rfl))))))
            have hP : va_P D vwCl [(e1_, .inr (5, [.ref xt_, .int (nI n_), .int (nI (tkE tx_ n_ p9_)), .int (nI (tkb tx_ n_ p9_)), .int (tkK tx_ n_ p9_), .int vl_])), (xt_, .inl (cy 0, 200, .inl tx_))] H := hP
            have hD : va_D A [(e1_, .inr (5, [.ref xt_, .int (nI n_), .int (nI (tkE tx_ n_ p9_)), .int (nI (tkb tx_ n_ p9_)), .int (tkK tx_ n_ p9_), .int vl_])), (xt_, .inl (cy 0, 200, .inl tx_))] := hD
            exact RT _ _ (vl_) H locs 154 ls (rt_v dX5_next_154) ⟨rfl, (by unfold tkK; rw [hq9, h7.1]; exact fun z => absurd z (by decide))⟩ hP hD hS
        · refine lv_aload_n hx hb dX5_next_25 rfl (lv_at hl 0 rfl) ?_
          refine lv_dup hx hb dX5_next_26 rfl ?_
          refine va_get (D := D) (ci := 5) (v := .int (nI q_)) (C := RX5) (T := TX5) (N := 6) hx hb hts winX5 hown hK hP 0 rfl rfl 2 (by decide) wf17 (fun _ h9 => h9) rfl dX5_next_27 ?_
          refine lv_iconst (v := 1) hx hb dX5_next_30 (by decide) ?_
          refine lv_iadd hx hb dX5_next_31 ?_
          refine lv_eqi (y := nI (q_ + 1)) (nI_add q_ 1) ?_
          refine va_put (D := D) (ci := 5) (v := .int (nI (q_ + 1))) (ty := .int) (C := RX5) (T := TX5) (N := 6) hx hb hts winX5 tyX5 tyX5_ok nmX5 hown hK hP hD hS 0 rfl rfl 2 (by decide) wf17 (fun _ h9 => h9) rfl (by decide +kernel) (rfl) (rfl) (Nat.le_of_ble_eq_true rfl) dX5_next_32 (fun H locs hP hD hS => ?_)
          have hP : va_P D vwCl [(e1_, .inr (5, [.ref xt_, .int (nI n_), .int (nI (q_ + 1)), .int bg_, .int tk_, .int vl_])), (xt_, .inl (cy 0, 200, .inl tx_))] H := hP
          have hD : va_D A [(e1_, .inr (5, [.ref xt_, .int (nI n_), .int (nI (q_ + 1)), .int bg_, .int tk_, .int vl_])), (xt_, .inl (cy 0, 200, .inl tx_))] := hD
          refine lv_goto (tgt := 0) hx hb dX5_next_35 (by decide) ?_
          exact ih_0 (q_ + 1) (by omega) (by omega) ((sp_t (by omega) (isS_i.mp c_22)).symm.trans hR) (by omega) H locs hP hD hS ls (lv_sub hl [0] rfl)
  exact L_0 _ p9_ (Nat.le_refl _) (by first | assumption | omega | decide) (rfl) (Nat.lt_succ_self _) H locs hP hD hS ls (lv_sub hl [0] rfl)
abbrev rmkX5_readsItem : Room := { frames := 7, cells := 0, slots := 0, locals := 150 }
set_option maxHeartbeats 4000000 in
set_option maxRecDepth 100000 in
theorem kX5_readsItem {l : Launch} {D : va_G} {cy : Nat → ClassId} {sa : Nat → Nat} (e1_ : Nat) (xt_ : Nat) (n_ : Nat) (tx_ : Nat → Int32) (p9_ : Nat) (v0_ : Int32) (r1_ : Nat) (r2_ : Nat) (lw_ : Nat → Int32) (tb_ : Int32) (hn : n_ ≤ 200) (hp : p9_ ≤ n_) (hv0 : tkK tx_ n_ p9_ = 1 ∨ tkK tx_ n_ p9_ = 3 → v0_ = tkV tx_ n_ p9_) : CT (S := (Nat) × (Nat) × (Int32) × (Int32) × (Int32) × (Nat → Int32)) l D cy sa yX5_readsItem wsX5_readsItem rmkX5_readsItem [.ref e1_, .ref r1_] [(e1_, .inr (5, [.ref xt_, .int (nI n_), .int (nI (tkE tx_ n_ p9_)), .int (nI (tkb tx_ n_ p9_)), .int (tkK tx_ n_ p9_), .int v0_])), (xt_, .inl (cy 0, 200, .inl tx_)), (r1_, .inr (7, [.ref r2_, .int tb_])), (r2_, .inl (cy 0, 5, .inl lw_))] (fun v9 u9 => match u9 with | (bg2, pl2, tk2, vl2, tb2, lw2) => v9 = some (.int (bI (itF tx_ n_ p9_ tb_ = none))) ∧ (itF tx_ n_ p9_ tb_ = none → pl2 = itP tx_ n_ p9_ ∧ tb2 = (tb_ ||| bitO (itI tx_ n_ p9_)) ∧ lw2 = upd lw_ (itI tx_ n_ p9_) (itA tx_ n_ p9_)) ∧ (∀ f8, itF tx_ n_ p9_ tb_ = some f8 → bg2 = f8)) (fun u9 => match u9 with | (bg2, pl2, tk2, vl2, tb2, lw2) => [(e1_, .inr (5, [.ref xt_, .int (nI n_), .int (nI pl2), .int (nI bg2), .int tk2, .int vl2])), (xt_, .inl (cy 0, 200, .inl tx_)), (r1_, .inr (7, [.ref r2_, .int tb2])), (r2_, .inl (cy 0, 5, .inl lw2))]) 0 0 := by
  refine CT.of cX5_readsItem 5 (some .boolean) (by decide +kernel) rfl (Nat.le_of_ble_eq_true rfl) ?_
  intro p e s m args below meth c A Q ls F hmn hK hE hA hP hD hS hl RT
  obtain ⟨hx, hb, hml, hown, hts⟩ := id F
  have winX5 : ∀ w ∈ u_ws RX5 TX5 6, w ∈ wsX5_readsItem := by decide +kernel
  have wf23 := hts (.fieldLink RX5 23 "SelfSteer$Reader" "token" "I") (by decide +kernel)
  have wf26 := hts (.fieldLink RX5 26 "SelfSteer$Reader" "value" "I") (by decide +kernel)
  have wi_X7 := hts (.initialized RX7) (by decide +kernel)
  have wn_X7_wasTold := hts (.instanceMethod yX7_wasTold) (by decide +kernel)
  have we_X7_wasTold := hts (.selects RX7 yX7_wasTold yX7_wasTold) (by decide +kernel)
  have wn_X7_tell := hts (.instanceMethod yX7_tell) (by decide +kernel)
  have we_X7_tell := hts (.selects RX7 yX7_tell yX7_tell) (by decide +kernel)
  have hl : lv_has ls 5 [(0, .ref e1_), (1, .ref r1_)] := hl
  have hP : va_P D vwCl [(e1_, .inr (5, [.ref xt_, .int (nI n_), .int (nI (tkE tx_ n_ p9_)), .int (nI (tkb tx_ n_ p9_)), .int (tkK tx_ n_ p9_), .int v0_])), (xt_, .inl (cy 0, 200, .inl tx_)), (r1_, .inr (7, [.ref r2_, .int tb_])), (r2_, .inl (cy 0, 5, .inl lw_))] s.heap := hP
  have hD : va_D A [(e1_, .inr (5, [.ref xt_, .int (nI n_), .int (nI (tkE tx_ n_ p9_)), .int (nI (tkb tx_ n_ p9_)), .int (tkK tx_ n_ p9_), .int v0_])), (xt_, .inl (cy 0, 200, .inl tx_)), (r1_, .inr (7, [.ref r2_, .int tb_])), (r2_, .inl (cy 0, 5, .inl lw_))] := hD
  obtain ⟨H, hH⟩ : ∃ H0 : Heap, H0 = s.heap := ⟨_, rfl⟩
  obtain ⟨locs, hlo⟩ : ∃ L0 : List Loc, L0 = [] := ⟨_, rfl⟩
  have hS : va_S A s.heap H locs := by rw [hH, hlo]; exact hS
  rw [← hH] at hP
  show W p l e rmkX5_readsItem s m args below meth c s.heap [] 0 0 Q (F0 m 0 ls [])
  suffices hgo : W p l e rmkX5_readsItem s m args below meth c H locs 0 0 Q (F0 m 0 ls []) by rw [hH, hlo] at hgo; exact hgo
  clear hH hlo
  refine lv_aload_n hx hb dX5_readsItem_0 rfl (lv_at hl 0 rfl) ?_
  refine va_get (D := D) (ci := 5) (v := .int (tkK tx_ n_ p9_)) (C := RX5) (T := TX5) (N := 6) hx hb hts winX5 hown hK hP 0 rfl rfl 4 (by decide) wf23 (fun _ h9 => h9) rfl dX5_readsItem_1 ?_
  refine lv_iconst (v := 1) hx hb dX5_readsItem_4 (by decide) ?_
  refine lv_icmp_ne (tgt := 19) hx hb dX5_readsItem_5 (by decide) (fun c_5 => ?_) (fun c_5 => ?_)
  · refine lv_iconst (v := 0) hx hb dX5_readsItem_19 (by decide) ?_
    have hf : itF tx_ n_ p9_ tb_ = some (tkb tx_ n_ p9_) := by unfold itF; rw [if_neg]; first | exact fun z => c_5 z.1 | exact fun z => c_16 (by rw [itI_of hiv.symm hit] at z; exact z.2)
    refine lv_eqi (y := bI (itF tx_ n_ p9_ tb_ = none)) ((bI_f (fun z => by rw [hf] at z; cases z)).symm) ?_
    exact RT _ _ (tkb tx_ n_ p9_, tkE tx_ n_ p9_, tkK tx_ n_ p9_, v0_, tb_, lw_) H locs 20 ls (rt_z (bI_nar _) dX5_readsItem_20) ⟨rfl, (fun z => by rw [hf] at z; cases z), (fun f8 z => by rw [hf] at z; exact Option.some.inj z)⟩ hP hD hS
  · obtain ⟨it_, hit, hiv, rfl⟩ := v0_of hv0 c_5
    refine lv_aload_n hx hb dX5_readsItem_8 rfl (lv_at hl 1 rfl) ?_
    refine lv_aload_n hx hb dX5_readsItem_9 rfl (lv_at hl 0 rfl) ?_
    refine va_get (D := D) (ci := 5) (v := .int (nI it_)) (C := RX5) (T := TX5) (N := 6) hx hb hts winX5 hown hK hP 0 rfl rfl 5 (by decide) wf26 (fun _ h9 => h9) rfl dX5_readsItem_10 ?_
    refine ca_VN (C := RX7) (q0 := 2) (n := 1) (rest := []) (wr := [(e1_, .inr (5, [.ref xt_, .int (nI n_), .int (nI (tkE tx_ n_ p9_)), .int (nI (tkb tx_ n_ p9_)), .int (tkK tx_ n_ p9_), .int (nI it_)])), (xt_, .inl (cy 0, 200, .inl tx_))]) F hK hE hA hP hD hS hl.1 (kX7_wasTold (l := l) (D := D) (cy := cy) (sa := sa) r1_ r2_ lw_ tb_ it_) gX5_readsItem_X7_wasTold_n47 (hE.nest 56 rfl) wi_X7 wn_X7_wasTold we_X7_wasTold rfl rfl rfl rfl rfl rfl (by decide +kernel) ⟨by decide, by decide⟩ [2, 3] [0, 1] rfl rfl rfl rfl (by decide) rfl rfl (Nat.le_of_ble_eq_true rfl) dX5_readsItem_13 ⟨by decide, by decide⟩ (fun v9 u9 H locs hv hP hD hS => ?_)
    subst hv
    obtain ⟨hP, hD⟩ := re_ws (ws' := [(e1_, .inr (5, [.ref xt_, .int (nI n_), .int (nI (tkE tx_ n_ p9_)), .int (nI (tkb tx_ n_ p9_)), .int (tkK tx_ n_ p9_), .int (nI it_)])), (xt_, .inl (cy 0, 200, .inl tx_)), (r1_, .inr (7, [.ref r2_, .int tb_])), (r2_, .inl (cy 0, 5, .inl lw_))]) hP hD [0, 1, 2, 3] rfl rfl
    refine W.eq (g2 := F0 m 16 ls [.int (bI (¬ (tb_ &&& (1 <<< (nI it_ &&& 31)) = 0)))]) rfl ?_
    refine bz_eq (tgt := 21) hx hb dX5_readsItem_16 (by decide) (fun c_16 => ?_) (fun c_16 => ?_)
    · refine lv_aload_n hx hb dX5_readsItem_21 rfl (lv_at hl 0 rfl) ?_
      refine va_get (D := D) (ci := 5) (v := .int (nI it_)) (C := RX5) (T := TX5) (N := 6) hx hb hts winX5 hown hK hP 0 rfl rfl 5 (by decide) wf26 (fun _ h9 => h9) rfl dX5_readsItem_22 ?_
      refine lv_istore_n (lv' := [(2, .int (nI it_)), (0, .ref e1_), (1, .ref r1_)]) hx hb dX5_readsItem_25 rfl hl (by decide) rfl (fun ls hl => ?_)
      refine lv_aload_n hx hb dX5_readsItem_26 rfl (lv_at hl 1 rfl) ?_
      refine ca_V (q0 := 0) (n := 0) (rest := []) (wr := [(r1_, .inr (7, [.ref r2_, .int tb_])), (r2_, .inl (cy 0, 5, .inl lw_))]) F hK hE hA hP hD hS hl.1 (kX5_next (l := l) (D := D) (cy := cy) (sa := sa) e1_ xt_ n_ tx_ (tkE tx_ n_ p9_) (nI (tkb tx_ n_ p9_)) (tkK tx_ n_ p9_) (nI it_) (by first | assumption | omega | decide) (tkE_le hp)) gX5_readsItem_X5_next rfl rfl rfl rfl rfl rfl (by decide +kernel) ⟨by decide, by decide⟩ [0, 1] [2, 3] rfl rfl rfl rfl (by decide) rfl rfl (Nat.le_of_ble_eq_true rfl) dX5_readsItem_27 ⟨by decide, by decide⟩ (fun v9 u9 H locs hv hP hD hS => ?_)
      obtain ⟨u27_vl2, hu9⟩ : ∃ z, z = u9 := ⟨_, rfl⟩
      subst hu9
      obtain ⟨hv, hhv_27⟩ := hv
      subst hv
      obtain ⟨hP, hD⟩ := re_ws (ws' := [(e1_, .inr (5, [.ref xt_, .int (nI n_), .int (nI (tkE tx_ n_ (tkE tx_ n_ p9_))), .int (nI (tkb tx_ n_ (tkE tx_ n_ p9_))), .int (tkK tx_ n_ (tkE tx_ n_ p9_)), .int u27_vl2])), (xt_, .inl (cy 0, 200, .inl tx_)), (r1_, .inr (7, [.ref r2_, .int tb_])), (r2_, .inl (cy 0, 5, .inl lw_))]) hP hD [2, 3, 0, 1] rfl rfl
      refine W.eq (g2 := F0 m 30 ls []) rfl ?_
      refine lv_aload_n hx hb dX5_readsItem_30 rfl (lv_at hl 1 rfl) ?_
      refine va_get (D := D) (ci := 5) (v := .int (tkK tx_ n_ (tkE tx_ n_ p9_))) (C := RX5) (T := TX5) (N := 6) hx hb hts winX5 hown hK hP 0 rfl rfl 4 (by decide) wf23 (fun _ h9 => h9) rfl dX5_readsItem_31 ?_
      refine lv_iconst (v := 2) hx hb dX5_readsItem_34 (by decide) ?_
      have J_35_41 : ∀ (H : Heap) (locs : List Loc), va_P D vwCl [(e1_, .inr (5, [.ref xt_, .int (nI n_), .int (nI (tkE tx_ n_ (tkE tx_ n_ p9_))), .int (nI (tkb tx_ n_ (tkE tx_ n_ p9_))), .int (tkK tx_ n_ (tkE tx_ n_ p9_)), .int u27_vl2])), (xt_, .inl (cy 0, 200, .inl tx_)), (r1_, .inr (7, [.ref r2_, .int tb_])), (r2_, .inl (cy 0, 5, .inl lw_))] H → va_D A [(e1_, .inr (5, [.ref xt_, .int (nI n_), .int (nI (tkE tx_ n_ (tkE tx_ n_ p9_))), .int (nI (tkb tx_ n_ (tkE tx_ n_ p9_))), .int (tkK tx_ n_ (tkE tx_ n_ p9_)), .int u27_vl2])), (xt_, .inl (cy 0, 200, .inl tx_)), (r1_, .inr (7, [.ref r2_, .int tb_])), (r2_, .inl (cy 0, 5, .inl lw_))] → va_S A s.heap H locs → ∀ (ls : Array Slot), lv_has ls 5 [(2, .int (nI it_)), (0, .ref e1_), (1, .ref r1_)] → W p l e rmkX5_readsItem s m args below meth c H locs 0 0 Q (F0 m 51 ls [.int (bI (((tkK tx_ n_ (tkE tx_ n_ p9_)) = 2) ∧ (¬ (0 ≤ (s_SMALL it_)))))]) := by
        intro H locs hP hD hS ls hl
        refine lv_istore_n (lv' := [(3, .int (bI (((tkK tx_ n_ (tkE tx_ n_ p9_)) = 2) ∧ (¬ (0 ≤ (s_SMALL it_)))))), (2, .int (nI it_)), (0, .ref e1_), (1, .ref r1_)]) hx hb dX5_readsItem_51 rfl hl (by decide) rfl (fun ls hl => ?_)
        refine lv_iload_n hx hb dX5_readsItem_52 rfl (lv_at hl 0 rfl) ?_
        refine bz_eq (tgt := 60) hx hb dX5_readsItem_53 (by decide) (fun c_53 => ?_) (fun c_53 => ?_)
        · rw [show ((3, .int (bI (((tkK tx_ n_ (tkE tx_ n_ p9_)) = 2) ∧ (¬ (0 ≤ (s_SMALL it_)))))) : Nat × Value) = (3, .int 0) from congrArg (fun y9 => ((3, Value.int y9) : Nat × Value)) (bI_f c_53)] at hl
          refine lv_aload_n hx hb dX5_readsItem_60 rfl (lv_at hl 2 rfl) ?_
          refine va_get (D := D) (ci := 5) (v := .int (tkK tx_ n_ (tkE tx_ n_ p9_))) (C := RX5) (T := TX5) (N := 6) hx hb hts winX5 hown hK hP 0 rfl rfl 4 (by decide) wf23 (fun _ h9 => h9) rfl dX5_readsItem_61 ?_
          refine lv_iconst (v := 3) hx hb dX5_readsItem_64 (by decide) ?_
          refine lv_icmp_ne (tgt := 80) hx hb dX5_readsItem_65 (by decide) (fun c_65 => ?_) (fun c_65 => ?_)
          · refine lv_iconst (v := 0) hx hb dX5_readsItem_80 (by decide) ?_
            have hI : itI tx_ n_ p9_ = it_ := itI_of hiv.symm hit
            have h2 : it2 tx_ n_ p9_ = tkE tx_ n_ p9_ := by unfold it2; first | (rw [if_pos (show itL tx_ n_ p9_ from ⟨c_53.1, by rw [hI]; exact c_53.2⟩)]) | (rw [if_neg (show ¬ itL tx_ n_ p9_ from fun z => c_53 ⟨z.1, by rw [← hI]; exact z.2⟩)])
            have hf : itF tx_ n_ p9_ tb_ = some (tkb tx_ n_ (tkE tx_ n_ p9_)) := by unfold itF; rw [if_pos ⟨c_5, by rw [hI]; exact Decidable.of_not_not c_16⟩, h2, if_neg]; first | exact fun z => c_65 z.1 | exact fun z => c_77 (by rw [hI] at z; exact z.2)
            refine lv_eqi (y := bI (itF tx_ n_ p9_ tb_ = none)) ((bI_f (fun z => by rw [hf] at z; cases z)).symm) ?_
            exact RT _ _ (tkb tx_ n_ (tkE tx_ n_ p9_), tkE tx_ n_ (tkE tx_ n_ p9_), tkK tx_ n_ (tkE tx_ n_ p9_), u27_vl2, tb_, lw_) H locs 81 ls (rt_z (bI_nar _) dX5_readsItem_81) ⟨rfl, (fun z => by rw [hf] at z; cases z), (fun f8 z => by rw [hf] at z; exact Option.some.inj z)⟩ hP hD hS
          · obtain rfl : tkV tx_ n_ (tkE tx_ n_ p9_) = u27_vl2 := (hhv_27 (Or.inr c_65)).symm
            refine lv_aload_n hx hb dX5_readsItem_68 rfl (lv_at hl 2 rfl) ?_
            refine va_get (D := D) (ci := 5) (v := .int (tkV tx_ n_ (tkE tx_ n_ p9_))) (C := RX5) (T := TX5) (N := 6) hx hb hts winX5 hown hK hP 0 rfl rfl 5 (by decide) wf26 (fun _ h9 => h9) rfl dX5_readsItem_69 ?_
            refine va_getsN hx hb hE.2.2.2.2.2.2.2.1.1 hS hown (hE.nestB 58 rfl) (fun _ h9 => h9) dX5_readsItem_72 ?_
            refine lv_iload_n hx hb dX5_readsItem_75 rfl (lv_at hl 1 rfl) ?_
            refine al_s hx hb hE.2.2.2.2.2.2.2.1.2 hS it_ (rfl) (by omega) (by decide) dX5_readsItem_76 ?_
            refine lv_icmp_le (tgt := 82) hx hb dX5_readsItem_77 (by decide) (fun c_77 => ?_) (fun c_77 => ?_)
            · refine lv_iload_n hx hb dX5_readsItem_82 rfl (lv_at hl 0 rfl) ?_
              refine lv_if_eq (tgt := 94) hx hb dX5_readsItem_83 (by decide) (fun c_83 => ?_) (fun c_83 => ?_)
              · refine lv_aload_n hx hb dX5_readsItem_94 rfl (lv_at hl 2 rfl) ?_
                refine va_get (D := D) (ci := 5) (v := .int (tkV tx_ n_ (tkE tx_ n_ p9_))) (C := RX5) (T := TX5) (N := 6) hx hb hts winX5 hown hK hP 0 rfl rfl 5 (by decide) wf26 (fun _ h9 => h9) rfl dX5_readsItem_95 ?_
                refine lv_istore (lv' := [(4, .int (tkV tx_ n_ (tkE tx_ n_ p9_))), (3, .int 0), (2, .int (nI it_)), (0, .ref e1_), (1, .ref r1_)]) hx hb dX5_readsItem_98 hl (by decide) rfl (fun ls hl => ?_)
                refine lv_aload_n hx hb dX5_readsItem_100 rfl (lv_at hl 3 rfl) ?_
                refine ca_V (q0 := 0) (n := 0) (rest := []) (wr := [(r1_, .inr (7, [.ref r2_, .int tb_])), (r2_, .inl (cy 0, 5, .inl lw_))]) F hK hE hA hP hD hS hl.1 (kX5_next (l := l) (D := D) (cy := cy) (sa := sa) e1_ xt_ n_ tx_ (tkE tx_ n_ (tkE tx_ n_ p9_)) (nI (tkb tx_ n_ (tkE tx_ n_ p9_))) (tkK tx_ n_ (tkE tx_ n_ p9_)) (tkV tx_ n_ (tkE tx_ n_ p9_)) (by first | assumption | omega | decide) (by first | exact tkE_le (tkE_le (tkE_le hp)) | exact tkE_le (tkE_le hp))) gX5_readsItem_X5_next rfl rfl rfl rfl rfl rfl (by decide +kernel) ⟨by decide, by decide⟩ [0, 1] [2, 3] rfl rfl rfl rfl (by decide) rfl rfl (Nat.le_of_ble_eq_true rfl) dX5_readsItem_101 ⟨by decide, by decide⟩ (fun v9 u9 H locs hv hP hD hS => ?_)
                obtain ⟨u101_vl2, hu9⟩ : ∃ z, z = u9 := ⟨_, rfl⟩
                subst hu9
                obtain ⟨hv, hhv_101⟩ := hv
                subst hv
                obtain ⟨hP, hD⟩ := re_ws (ws' := [(e1_, .inr (5, [.ref xt_, .int (nI n_), .int (nI (tkE tx_ n_ (tkE tx_ n_ (tkE tx_ n_ p9_)))), .int (nI (tkb tx_ n_ (tkE tx_ n_ (tkE tx_ n_ p9_)))), .int (tkK tx_ n_ (tkE tx_ n_ (tkE tx_ n_ p9_))), .int u101_vl2])), (xt_, .inl (cy 0, 200, .inl tx_)), (r1_, .inr (7, [.ref r2_, .int tb_])), (r2_, .inl (cy 0, 5, .inl lw_))]) hP hD [2, 3, 0, 1] rfl rfl
                refine W.eq (g2 := F0 m 104 ls []) rfl ?_
                refine lv_aload_n hx hb dX5_readsItem_104 rfl (lv_at hl 3 rfl) ?_
                refine va_get (D := D) (ci := 5) (v := .int (tkK tx_ n_ (tkE tx_ n_ (tkE tx_ n_ p9_)))) (C := RX5) (T := TX5) (N := 6) hx hb hts winX5 hown hK hP 0 rfl rfl 4 (by decide) wf23 (fun _ h9 => h9) rfl dX5_readsItem_105 ?_
                refine lv_iconst (v := 4) hx hb dX5_readsItem_108 (by decide) ?_
                refine lv_icmp_eq (tgt := 114) hx hb dX5_readsItem_109 (by decide) (fun c_109 => ?_) (fun c_109 => ?_)
                · refine lv_aload_n hx hb dX5_readsItem_114 rfl (lv_at hl 4 rfl) ?_
                  refine lv_iload_n hx hb dX5_readsItem_115 rfl (lv_at hl 2 rfl) ?_
                  refine lv_iload hx hb dX5_readsItem_116 (lv_at hl 0 rfl) ?_
                  refine ca_VN (C := RX7) (q0 := 2) (n := 2) (rest := []) (wr := [(e1_, .inr (5, [.ref xt_, .int (nI n_), .int (nI (tkE tx_ n_ (tkE tx_ n_ (tkE tx_ n_ p9_)))), .int (nI (tkb tx_ n_ (tkE tx_ n_ (tkE tx_ n_ p9_)))), .int (tkK tx_ n_ (tkE tx_ n_ (tkE tx_ n_ p9_))), .int u101_vl2])), (xt_, .inl (cy 0, 200, .inl tx_))]) F hK hE hA hP hD hS hl.1 (kX7_tell (l := l) (D := D) (cy := cy) (sa := sa) r1_ r2_ lw_ tb_ it_ (tkV tx_ n_ (tkE tx_ n_ p9_)) (by first | assumption | omega | decide)) gX5_readsItem_X7_tell_n57 (hE.nest 59 rfl) wi_X7 wn_X7_tell we_X7_tell rfl rfl rfl rfl rfl rfl (by decide +kernel) ⟨by decide, by decide⟩ [2, 3] [0, 1] rfl rfl rfl rfl (by decide) rfl rfl (Nat.le_of_ble_eq_true rfl) dX5_readsItem_118 ⟨by decide, by decide⟩ (fun v9 u9 H locs hv hP hD hS => ?_)
                  subst hv
                  obtain ⟨hP, hD⟩ := re_ws (ws' := [(e1_, .inr (5, [.ref xt_, .int (nI n_), .int (nI (tkE tx_ n_ (tkE tx_ n_ (tkE tx_ n_ p9_)))), .int (nI (tkb tx_ n_ (tkE tx_ n_ (tkE tx_ n_ p9_)))), .int (tkK tx_ n_ (tkE tx_ n_ (tkE tx_ n_ p9_))), .int u101_vl2])), (xt_, .inl (cy 0, 200, .inl tx_)), (r1_, .inr (7, [.ref r2_, .int (tb_ ||| (1 <<< (nI it_ &&& 31)))])), (r2_, .inl (cy 0, 5, .inl (upd lw_ it_ (tkV tx_ n_ (tkE tx_ n_ p9_)))))]) hP hD [0, 1, 2, 3] rfl rfl
                  refine W.eq (g2 := F0 m 121 ls []) rfl ?_
                  refine lv_iconst (v := 1) hx hb dX5_readsItem_121 (by decide) ?_
                  have hI : itI tx_ n_ p9_ = it_ := itI_of hiv.symm hit
                  have h2 : it2 tx_ n_ p9_ = tkE tx_ n_ p9_ := by unfold it2; first | (rw [if_pos (show itL tx_ n_ p9_ from ⟨c_53.1, by rw [hI]; exact c_53.2⟩)]) | (rw [if_neg (show ¬ itL tx_ n_ p9_ from fun z => c_53 ⟨z.1, by rw [← hI]; exact z.2⟩)])
                  have hf : itF tx_ n_ p9_ tb_ = none := by unfold itF it3; rw [if_pos ⟨c_5, by rw [hI]; exact Decidable.of_not_not c_16⟩, h2, if_pos ⟨c_65, by rw [hI]; exact c_77⟩, if_pos c_109]
                  have hA9 : itA tx_ n_ p9_ = (tkV tx_ n_ (tkE tx_ n_ p9_)) := by unfold itA; first | (rw [if_pos (show itL tx_ n_ p9_ from ⟨c_53.1, by rw [hI]; exact c_53.2⟩), h2]) | (rw [if_neg (show ¬ itL tx_ n_ p9_ from fun z => c_53 ⟨z.1, by rw [← hI]; exact z.2⟩), h2])
                  refine lv_eqi (y := bI (itF tx_ n_ p9_ tb_ = none)) ((bI_t hf).symm) ?_
                  exact RT _ _ (tkb tx_ n_ (tkE tx_ n_ (tkE tx_ n_ p9_)), tkE tx_ n_ (tkE tx_ n_ (tkE tx_ n_ p9_)), tkK tx_ n_ (tkE tx_ n_ (tkE tx_ n_ p9_)), u101_vl2, tb_ ||| (1 <<< (nI it_ &&& 31)), upd lw_ it_ (tkV tx_ n_ (tkE tx_ n_ p9_))) H locs 122 ls (rt_z (bI_nar _) dX5_readsItem_122) ⟨rfl, (fun _ => ⟨by unfold itP it3; rw [h2], by rw [hI], by rw [hI, hA9]⟩), (fun f8 z => by rw [hf] at z; cases z)⟩ hP hD hS
                · refine lv_iconst (v := 0) hx hb dX5_readsItem_112 (by decide) ?_
                  have hI : itI tx_ n_ p9_ = it_ := itI_of hiv.symm hit
                  have h2 : it2 tx_ n_ p9_ = tkE tx_ n_ p9_ := by unfold it2; first | (rw [if_pos (show itL tx_ n_ p9_ from ⟨c_53.1, by rw [hI]; exact c_53.2⟩)]) | (rw [if_neg (show ¬ itL tx_ n_ p9_ from fun z => c_53 ⟨z.1, by rw [← hI]; exact z.2⟩)])
                  have hf : itF tx_ n_ p9_ tb_ = some (tkb tx_ n_ (tkE tx_ n_ (tkE tx_ n_ p9_))) := by unfold itF it3; rw [if_pos ⟨c_5, by rw [hI]; exact Decidable.of_not_not c_16⟩, h2, if_pos ⟨c_65, by rw [hI]; exact c_77⟩, if_neg c_109]
                  refine lv_eqi (y := bI (itF tx_ n_ p9_ tb_ = none)) ((bI_f (fun z => by rw [hf] at z; cases z)).symm) ?_
                  exact RT _ _ (tkb tx_ n_ (tkE tx_ n_ (tkE tx_ n_ p9_)), tkE tx_ n_ (tkE tx_ n_ (tkE tx_ n_ p9_)), tkK tx_ n_ (tkE tx_ n_ (tkE tx_ n_ p9_)), u101_vl2, tb_, lw_) H locs 113 ls (rt_z (bI_nar _) dX5_readsItem_113) ⟨rfl, (fun z => by rw [hf] at z; cases z), (fun f8 z => by rw [hf] at z; exact Option.some.inj z)⟩ hP hD hS
              · exact absurd (by decide) c_83
            · refine lv_iconst (v := 0) hx hb dX5_readsItem_80 (by decide) ?_
              have hI : itI tx_ n_ p9_ = it_ := itI_of hiv.symm hit
              have h2 : it2 tx_ n_ p9_ = tkE tx_ n_ p9_ := by unfold it2; first | (rw [if_pos (show itL tx_ n_ p9_ from ⟨c_53.1, by rw [hI]; exact c_53.2⟩)]) | (rw [if_neg (show ¬ itL tx_ n_ p9_ from fun z => c_53 ⟨z.1, by rw [← hI]; exact z.2⟩)])
              have hf : itF tx_ n_ p9_ tb_ = some (tkb tx_ n_ (tkE tx_ n_ p9_)) := by unfold itF; rw [if_pos ⟨c_5, by rw [hI]; exact Decidable.of_not_not c_16⟩, h2, if_neg]; first | exact fun z => c_65 z.1 | exact fun z => c_77 (by rw [hI] at z; exact z.2)
              refine lv_eqi (y := bI (itF tx_ n_ p9_ tb_ = none)) ((bI_f (fun z => by rw [hf] at z; cases z)).symm) ?_
              exact RT _ _ (tkb tx_ n_ (tkE tx_ n_ p9_), tkE tx_ n_ (tkE tx_ n_ p9_), tkK tx_ n_ (tkE tx_ n_ p9_), (tkV tx_ n_ (tkE tx_ n_ p9_)), tb_, lw_) H locs 81 ls (rt_z (bI_nar _) dX5_readsItem_81) ⟨rfl, (fun z => by rw [hf] at z; cases z), (fun f8 z => by rw [hf] at z; exact Option.some.inj z)⟩ hP hD hS
        · rw [show ((3, .int (bI (((tkK tx_ n_ (tkE tx_ n_ p9_)) = 2) ∧ (¬ (0 ≤ (s_SMALL it_)))))) : Nat × Value) = (3, .int 1) from congrArg (fun y9 => ((3, Value.int y9) : Nat × Value)) (bI_t c_53)] at hl
          refine lv_aload_n hx hb dX5_readsItem_56 rfl (lv_at hl 2 rfl) ?_
          refine ca_V (q0 := 0) (n := 0) (rest := []) (wr := [(r1_, .inr (7, [.ref r2_, .int tb_])), (r2_, .inl (cy 0, 5, .inl lw_))]) F hK hE hA hP hD hS hl.1 (kX5_next (l := l) (D := D) (cy := cy) (sa := sa) e1_ xt_ n_ tx_ (tkE tx_ n_ (tkE tx_ n_ p9_)) (nI (tkb tx_ n_ (tkE tx_ n_ p9_))) (tkK tx_ n_ (tkE tx_ n_ p9_)) u27_vl2 (by first | assumption | omega | decide) (tkE_le (tkE_le hp))) gX5_readsItem_X5_next rfl rfl rfl rfl rfl rfl (by decide +kernel) ⟨by decide, by decide⟩ [0, 1] [2, 3] rfl rfl rfl rfl (by decide) rfl rfl (Nat.le_of_ble_eq_true rfl) dX5_readsItem_57 ⟨by decide, by decide⟩ (fun v9 u9 H locs hv hP hD hS => ?_)
          obtain ⟨u57_vl2, hu9⟩ : ∃ z, z = u9 := ⟨_, rfl⟩
          subst hu9
          obtain ⟨hv, hhv_57⟩ := hv
          subst hv
          obtain ⟨hP, hD⟩ := re_ws (ws' := [(e1_, .inr (5, [.ref xt_, .int (nI n_), .int (nI (tkE tx_ n_ (tkE tx_ n_ (tkE tx_ n_ p9_)))), .int (nI (tkb tx_ n_ (tkE tx_ n_ (tkE tx_ n_ p9_)))), .int (tkK tx_ n_ (tkE tx_ n_ (tkE tx_ n_ p9_))), .int u57_vl2])), (xt_, .inl (cy 0, 200, .inl tx_)), (r1_, .inr (7, [.ref r2_, .int tb_])), (r2_, .inl (cy 0, 5, .inl lw_))]) hP hD [2, 3, 0, 1] rfl rfl
          refine W.eq (g2 := F0 m 60 ls []) rfl ?_
          refine lv_aload_n hx hb dX5_readsItem_60 rfl (lv_at hl 2 rfl) ?_
          refine va_get (D := D) (ci := 5) (v := .int (tkK tx_ n_ (tkE tx_ n_ (tkE tx_ n_ p9_)))) (C := RX5) (T := TX5) (N := 6) hx hb hts winX5 hown hK hP 0 rfl rfl 4 (by decide) wf23 (fun _ h9 => h9) rfl dX5_readsItem_61 ?_
          refine lv_iconst (v := 3) hx hb dX5_readsItem_64 (by decide) ?_
          refine lv_icmp_ne (tgt := 80) hx hb dX5_readsItem_65 (by decide) (fun c_65 => ?_) (fun c_65 => ?_)
          · refine lv_iconst (v := 0) hx hb dX5_readsItem_80 (by decide) ?_
            have hI : itI tx_ n_ p9_ = it_ := itI_of hiv.symm hit
            have h2 : it2 tx_ n_ p9_ = tkE tx_ n_ (tkE tx_ n_ p9_) := by unfold it2; first | (rw [if_pos (show itL tx_ n_ p9_ from ⟨c_53.1, by rw [hI]; exact c_53.2⟩)]) | (rw [if_neg (show ¬ itL tx_ n_ p9_ from fun z => c_53 ⟨z.1, by rw [← hI]; exact z.2⟩)])
            have hf : itF tx_ n_ p9_ tb_ = some (tkb tx_ n_ (tkE tx_ n_ (tkE tx_ n_ p9_))) := by unfold itF; rw [if_pos ⟨c_5, by rw [hI]; exact Decidable.of_not_not c_16⟩, h2, if_neg]; first | exact fun z => c_65 z.1 | exact fun z => c_77 (by rw [hI] at z; exact z.2)
            refine lv_eqi (y := bI (itF tx_ n_ p9_ tb_ = none)) ((bI_f (fun z => by rw [hf] at z; cases z)).symm) ?_
            exact RT _ _ (tkb tx_ n_ (tkE tx_ n_ (tkE tx_ n_ p9_)), tkE tx_ n_ (tkE tx_ n_ (tkE tx_ n_ p9_)), tkK tx_ n_ (tkE tx_ n_ (tkE tx_ n_ p9_)), u57_vl2, tb_, lw_) H locs 81 ls (rt_z (bI_nar _) dX5_readsItem_81) ⟨rfl, (fun z => by rw [hf] at z; cases z), (fun f8 z => by rw [hf] at z; exact Option.some.inj z)⟩ hP hD hS
          · obtain rfl : tkV tx_ n_ (tkE tx_ n_ (tkE tx_ n_ p9_)) = u57_vl2 := (hhv_57 (Or.inr c_65)).symm
            refine lv_aload_n hx hb dX5_readsItem_68 rfl (lv_at hl 2 rfl) ?_
            refine va_get (D := D) (ci := 5) (v := .int (tkV tx_ n_ (tkE tx_ n_ (tkE tx_ n_ p9_)))) (C := RX5) (T := TX5) (N := 6) hx hb hts winX5 hown hK hP 0 rfl rfl 5 (by decide) wf26 (fun _ h9 => h9) rfl dX5_readsItem_69 ?_
            refine va_getsN hx hb hE.2.2.2.2.2.2.2.1.1 hS hown (hE.nestB 58 rfl) (fun _ h9 => h9) dX5_readsItem_72 ?_
            refine lv_iload_n hx hb dX5_readsItem_75 rfl (lv_at hl 1 rfl) ?_
            refine al_s hx hb hE.2.2.2.2.2.2.2.1.2 hS it_ (rfl) (by omega) (by decide) dX5_readsItem_76 ?_
            refine lv_icmp_le (tgt := 82) hx hb dX5_readsItem_77 (by decide) (fun c_77 => ?_) (fun c_77 => ?_)
            · refine lv_iload_n hx hb dX5_readsItem_82 rfl (lv_at hl 0 rfl) ?_
              refine lv_if_eq (tgt := 94) hx hb dX5_readsItem_83 (by decide) (fun c_83 => ?_) (fun c_83 => ?_)
              · exact absurd c_83 (by decide)
              · refine lv_aload_n hx hb dX5_readsItem_86 rfl (lv_at hl 2 rfl) ?_
                refine va_get (D := D) (ci := 5) (v := .int (tkV tx_ n_ (tkE tx_ n_ (tkE tx_ n_ p9_)))) (C := RX5) (T := TX5) (N := 6) hx hb hts winX5 hown hK hP 0 rfl rfl 5 (by decide) wf26 (fun _ h9 => h9) rfl dX5_readsItem_87 ?_
                refine lv_ineg hx hb dX5_readsItem_90 ?_
                refine lv_goto (tgt := 98) hx hb dX5_readsItem_91 (by decide) ?_
                refine lv_istore (lv' := [(4, .int (-(tkV tx_ n_ (tkE tx_ n_ (tkE tx_ n_ p9_))))), (3, .int 1), (2, .int (nI it_)), (0, .ref e1_), (1, .ref r1_)]) hx hb dX5_readsItem_98 hl (by decide) rfl (fun ls hl => ?_)
                refine lv_aload_n hx hb dX5_readsItem_100 rfl (lv_at hl 3 rfl) ?_
                refine ca_V (q0 := 0) (n := 0) (rest := []) (wr := [(r1_, .inr (7, [.ref r2_, .int tb_])), (r2_, .inl (cy 0, 5, .inl lw_))]) F hK hE hA hP hD hS hl.1 (kX5_next (l := l) (D := D) (cy := cy) (sa := sa) e1_ xt_ n_ tx_ (tkE tx_ n_ (tkE tx_ n_ (tkE tx_ n_ p9_))) (nI (tkb tx_ n_ (tkE tx_ n_ (tkE tx_ n_ p9_)))) (tkK tx_ n_ (tkE tx_ n_ (tkE tx_ n_ p9_))) (tkV tx_ n_ (tkE tx_ n_ (tkE tx_ n_ p9_))) (by first | assumption | omega | decide) (by first | exact tkE_le (tkE_le (tkE_le hp)) | exact tkE_le (tkE_le hp))) gX5_readsItem_X5_next rfl rfl rfl rfl rfl rfl (by decide +kernel) ⟨by decide, by decide⟩ [0, 1] [2, 3] rfl rfl rfl rfl (by decide) rfl rfl (Nat.le_of_ble_eq_true rfl) dX5_readsItem_101 ⟨by decide, by decide⟩ (fun v9 u9 H locs hv hP hD hS => ?_)
                obtain ⟨u101_vl2, hu9⟩ : ∃ z, z = u9 := ⟨_, rfl⟩
                subst hu9
                obtain ⟨hv, hhv_101⟩ := hv
                subst hv
                obtain ⟨hP, hD⟩ := re_ws (ws' := [(e1_, .inr (5, [.ref xt_, .int (nI n_), .int (nI (tkE tx_ n_ (tkE tx_ n_ (tkE tx_ n_ (tkE tx_ n_ p9_))))), .int (nI (tkb tx_ n_ (tkE tx_ n_ (tkE tx_ n_ (tkE tx_ n_ p9_))))), .int (tkK tx_ n_ (tkE tx_ n_ (tkE tx_ n_ (tkE tx_ n_ p9_)))), .int u101_vl2])), (xt_, .inl (cy 0, 200, .inl tx_)), (r1_, .inr (7, [.ref r2_, .int tb_])), (r2_, .inl (cy 0, 5, .inl lw_))]) hP hD [2, 3, 0, 1] rfl rfl
                refine W.eq (g2 := F0 m 104 ls []) rfl ?_
                refine lv_aload_n hx hb dX5_readsItem_104 rfl (lv_at hl 3 rfl) ?_
                refine va_get (D := D) (ci := 5) (v := .int (tkK tx_ n_ (tkE tx_ n_ (tkE tx_ n_ (tkE tx_ n_ p9_))))) (C := RX5) (T := TX5) (N := 6) hx hb hts winX5 hown hK hP 0 rfl rfl 4 (by decide) wf23 (fun _ h9 => h9) rfl dX5_readsItem_105 ?_
                refine lv_iconst (v := 4) hx hb dX5_readsItem_108 (by decide) ?_
                refine lv_icmp_eq (tgt := 114) hx hb dX5_readsItem_109 (by decide) (fun c_109 => ?_) (fun c_109 => ?_)
                · refine lv_aload_n hx hb dX5_readsItem_114 rfl (lv_at hl 4 rfl) ?_
                  refine lv_iload_n hx hb dX5_readsItem_115 rfl (lv_at hl 2 rfl) ?_
                  refine lv_iload hx hb dX5_readsItem_116 (lv_at hl 0 rfl) ?_
                  refine ca_VN (C := RX7) (q0 := 2) (n := 2) (rest := []) (wr := [(e1_, .inr (5, [.ref xt_, .int (nI n_), .int (nI (tkE tx_ n_ (tkE tx_ n_ (tkE tx_ n_ (tkE tx_ n_ p9_))))), .int (nI (tkb tx_ n_ (tkE tx_ n_ (tkE tx_ n_ (tkE tx_ n_ p9_))))), .int (tkK tx_ n_ (tkE tx_ n_ (tkE tx_ n_ (tkE tx_ n_ p9_)))), .int u101_vl2])), (xt_, .inl (cy 0, 200, .inl tx_))]) F hK hE hA hP hD hS hl.1 (kX7_tell (l := l) (D := D) (cy := cy) (sa := sa) r1_ r2_ lw_ tb_ it_ (-(tkV tx_ n_ (tkE tx_ n_ (tkE tx_ n_ p9_)))) (by first | assumption | omega | decide)) gX5_readsItem_X7_tell_n57 (hE.nest 59 rfl) wi_X7 wn_X7_tell we_X7_tell rfl rfl rfl rfl rfl rfl (by decide +kernel) ⟨by decide, by decide⟩ [2, 3] [0, 1] rfl rfl rfl rfl (by decide) rfl rfl (Nat.le_of_ble_eq_true rfl) dX5_readsItem_118 ⟨by decide, by decide⟩ (fun v9 u9 H locs hv hP hD hS => ?_)
                  subst hv
                  obtain ⟨hP, hD⟩ := re_ws (ws' := [(e1_, .inr (5, [.ref xt_, .int (nI n_), .int (nI (tkE tx_ n_ (tkE tx_ n_ (tkE tx_ n_ (tkE tx_ n_ p9_))))), .int (nI (tkb tx_ n_ (tkE tx_ n_ (tkE tx_ n_ (tkE tx_ n_ p9_))))), .int (tkK tx_ n_ (tkE tx_ n_ (tkE tx_ n_ (tkE tx_ n_ p9_)))), .int u101_vl2])), (xt_, .inl (cy 0, 200, .inl tx_)), (r1_, .inr (7, [.ref r2_, .int (tb_ ||| (1 <<< (nI it_ &&& 31)))])), (r2_, .inl (cy 0, 5, .inl (upd lw_ it_ (-(tkV tx_ n_ (tkE tx_ n_ (tkE tx_ n_ p9_)))))))]) hP hD [0, 1, 2, 3] rfl rfl
                  refine W.eq (g2 := F0 m 121 ls []) rfl ?_
                  refine lv_iconst (v := 1) hx hb dX5_readsItem_121 (by decide) ?_
                  have hI : itI tx_ n_ p9_ = it_ := itI_of hiv.symm hit
                  have h2 : it2 tx_ n_ p9_ = tkE tx_ n_ (tkE tx_ n_ p9_) := by unfold it2; first | (rw [if_pos (show itL tx_ n_ p9_ from ⟨c_53.1, by rw [hI]; exact c_53.2⟩)]) | (rw [if_neg (show ¬ itL tx_ n_ p9_ from fun z => c_53 ⟨z.1, by rw [← hI]; exact z.2⟩)])
                  have hf : itF tx_ n_ p9_ tb_ = none := by unfold itF it3; rw [if_pos ⟨c_5, by rw [hI]; exact Decidable.of_not_not c_16⟩, h2, if_pos ⟨c_65, by rw [hI]; exact c_77⟩, if_pos c_109]
                  have hA9 : itA tx_ n_ p9_ = -(tkV tx_ n_ (tkE tx_ n_ (tkE tx_ n_ p9_))) := by unfold itA; first | (rw [if_pos (show itL tx_ n_ p9_ from ⟨c_53.1, by rw [hI]; exact c_53.2⟩), h2]) | (rw [if_neg (show ¬ itL tx_ n_ p9_ from fun z => c_53 ⟨z.1, by rw [← hI]; exact z.2⟩), h2])
                  refine lv_eqi (y := bI (itF tx_ n_ p9_ tb_ = none)) ((bI_t hf).symm) ?_
                  exact RT _ _ (tkb tx_ n_ (tkE tx_ n_ (tkE tx_ n_ (tkE tx_ n_ p9_))), tkE tx_ n_ (tkE tx_ n_ (tkE tx_ n_ (tkE tx_ n_ p9_))), tkK tx_ n_ (tkE tx_ n_ (tkE tx_ n_ (tkE tx_ n_ p9_))), u101_vl2, tb_ ||| (1 <<< (nI it_ &&& 31)), upd lw_ it_ (-(tkV tx_ n_ (tkE tx_ n_ (tkE tx_ n_ p9_))))) H locs 122 ls (rt_z (bI_nar _) dX5_readsItem_122) ⟨rfl, (fun _ => ⟨by unfold itP it3; rw [h2], by rw [hI], by rw [hI, hA9]⟩), (fun f8 z => by rw [hf] at z; cases z)⟩ hP hD hS
                · refine lv_iconst (v := 0) hx hb dX5_readsItem_112 (by decide) ?_
                  have hI : itI tx_ n_ p9_ = it_ := itI_of hiv.symm hit
                  have h2 : it2 tx_ n_ p9_ = tkE tx_ n_ (tkE tx_ n_ p9_) := by unfold it2; first | (rw [if_pos (show itL tx_ n_ p9_ from ⟨c_53.1, by rw [hI]; exact c_53.2⟩)]) | (rw [if_neg (show ¬ itL tx_ n_ p9_ from fun z => c_53 ⟨z.1, by rw [← hI]; exact z.2⟩)])
                  have hf : itF tx_ n_ p9_ tb_ = some (tkb tx_ n_ (tkE tx_ n_ (tkE tx_ n_ (tkE tx_ n_ p9_)))) := by unfold itF it3; rw [if_pos ⟨c_5, by rw [hI]; exact Decidable.of_not_not c_16⟩, h2, if_pos ⟨c_65, by rw [hI]; exact c_77⟩, if_neg c_109]
                  refine lv_eqi (y := bI (itF tx_ n_ p9_ tb_ = none)) ((bI_f (fun z => by rw [hf] at z; cases z)).symm) ?_
                  exact RT _ _ (tkb tx_ n_ (tkE tx_ n_ (tkE tx_ n_ (tkE tx_ n_ p9_))), tkE tx_ n_ (tkE tx_ n_ (tkE tx_ n_ (tkE tx_ n_ p9_))), tkK tx_ n_ (tkE tx_ n_ (tkE tx_ n_ (tkE tx_ n_ p9_))), u101_vl2, tb_, lw_) H locs 113 ls (rt_z (bI_nar _) dX5_readsItem_113) ⟨rfl, (fun z => by rw [hf] at z; cases z), (fun f8 z => by rw [hf] at z; exact Option.some.inj z)⟩ hP hD hS
            · refine lv_iconst (v := 0) hx hb dX5_readsItem_80 (by decide) ?_
              have hI : itI tx_ n_ p9_ = it_ := itI_of hiv.symm hit
              have h2 : it2 tx_ n_ p9_ = tkE tx_ n_ (tkE tx_ n_ p9_) := by unfold it2; first | (rw [if_pos (show itL tx_ n_ p9_ from ⟨c_53.1, by rw [hI]; exact c_53.2⟩)]) | (rw [if_neg (show ¬ itL tx_ n_ p9_ from fun z => c_53 ⟨z.1, by rw [← hI]; exact z.2⟩)])
              have hf : itF tx_ n_ p9_ tb_ = some (tkb tx_ n_ (tkE tx_ n_ (tkE tx_ n_ p9_))) := by unfold itF; rw [if_pos ⟨c_5, by rw [hI]; exact Decidable.of_not_not c_16⟩, h2, if_neg]; first | exact fun z => c_65 z.1 | exact fun z => c_77 (by rw [hI] at z; exact z.2)
              refine lv_eqi (y := bI (itF tx_ n_ p9_ tb_ = none)) ((bI_f (fun z => by rw [hf] at z; cases z)).symm) ?_
              exact RT _ _ (tkb tx_ n_ (tkE tx_ n_ (tkE tx_ n_ p9_)), tkE tx_ n_ (tkE tx_ n_ (tkE tx_ n_ p9_)), tkK tx_ n_ (tkE tx_ n_ (tkE tx_ n_ p9_)), (tkV tx_ n_ (tkE tx_ n_ (tkE tx_ n_ p9_))), tb_, lw_) H locs 81 ls (rt_z (bI_nar _) dX5_readsItem_81) ⟨rfl, (fun z => by rw [hf] at z; cases z), (fun f8 z => by rw [hf] at z; exact Option.some.inj z)⟩ hP hD hS
      refine lv_icmp_ne (tgt := 50) hx hb dX5_readsItem_35 (by decide) (fun c_35 => ?_) (fun c_35 => ?_)
      · refine lv_iconst (v := 0) hx hb dX5_readsItem_50 (by decide) ?_
        refine lv_eqi (y := bI (((tkK tx_ n_ (tkE tx_ n_ p9_)) = 2) ∧ (¬ (0 ≤ (s_SMALL it_))))) (bI_congr (pd_f c_35)) ?_
        exact J_35_41 H locs hP hD hS ls (lv_sub hl [0, 1, 2] rfl)
      · refine va_getsN hx hb hE.2.2.2.2.2.2.1.1 hS hown (hE.nestB 57 rfl) (fun _ h9 => h9) dX5_readsItem_38 ?_
        refine lv_iload_n hx hb dX5_readsItem_41 rfl (lv_at hl 0 rfl) ?_
        refine al_s hx hb hE.2.2.2.2.2.2.1.2 hS it_ (rfl) (by omega) (by decide) dX5_readsItem_42 ?_
        refine lv_if_ge (tgt := 50) hx hb dX5_readsItem_43 (by decide) (fun c_43 => ?_) (fun c_43 => ?_)
        · refine lv_iconst (v := 0) hx hb dX5_readsItem_50 (by decide) ?_
          refine lv_eqi (y := bI (((tkK tx_ n_ (tkE tx_ n_ p9_)) = 2) ∧ (¬ (0 ≤ (s_SMALL it_))))) (bI_congr (pd_t c_35 (pn_t c_43))) ?_
          exact J_35_41 H locs hP hD hS ls (lv_sub hl [0, 1, 2] rfl)
        · refine lv_iconst (v := 1) hx hb dX5_readsItem_46 (by decide) ?_
          refine lv_goto (tgt := 51) hx hb dX5_readsItem_47 (by decide) ?_
          refine lv_eqi (y := bI (((tkK tx_ n_ (tkE tx_ n_ p9_)) = 2) ∧ (¬ (0 ≤ (s_SMALL it_))))) (bI_congr (pd_t c_35 (pn_f c_43))) ?_
          exact J_35_41 H locs hP hD hS ls (lv_sub hl [0, 1, 2] rfl)
    · refine lv_iconst (v := 0) hx hb dX5_readsItem_19 (by decide) ?_
      have hf : itF tx_ n_ p9_ tb_ = some (tkb tx_ n_ p9_) := by unfold itF; rw [if_neg]; first | exact fun z => c_5 z.1 | exact fun z => c_16 (by rw [itI_of hiv.symm hit] at z; exact z.2)
      refine lv_eqi (y := bI (itF tx_ n_ p9_ tb_ = none)) ((bI_f (fun z => by rw [hf] at z; cases z)).symm) ?_
      exact RT _ _ (tkb tx_ n_ p9_, tkE tx_ n_ p9_, tkK tx_ n_ p9_, nI it_, tb_, lw_) H locs 20 ls (rt_z (bI_nar _) dX5_readsItem_20) ⟨rfl, (fun z => by rw [hf] at z; cases z), (fun f8 z => by rw [hf] at z; exact Option.some.inj z)⟩ hP hD hS
abbrev rmkX5_faultOf : Room := { frames := 8, cells := 0, slots := 0, locals := 174 }
set_option maxHeartbeats 4000000 in
set_option maxRecDepth 100000 in
theorem kX5_faultOf {l : Launch} {D : va_G} {cy : Nat → ClassId} {sa : Nat → Nat} (e1_ : Nat) (xt_ : Nat) (n_ : Nat) (tx_ : Nat → Int32) (eb_ : Nat) (ln_ : Int32) (pl_ : Int32) (bg_ : Int32) (tk_ : Int32) (vl_ : Int32) (r1_ : Nat) (r2_ : Nat) (lw_ : Nat → Int32) (tb_ : Int32) (hn : n_ ≤ 200) : CT (S := (Int32) × (Int32) × (Int32) × (Int32) × (Int32) × (Nat → Int32)) l D cy sa yX5_faultOf wsX5_faultOf rmkX5_faultOf [.ref e1_, .ref xt_, .int (nI n_), .ref r1_] [(e1_, .inr (5, [.ref eb_, .int ln_, .int pl_, .int bg_, .int tk_, .int vl_])), (xt_, .inl (cy 0, 200, .inl tx_)), (r1_, .inr (7, [.ref r2_, .int tb_])), (r2_, .inl (cy 0, 5, .inl lw_))] (fun v9 u9 => match u9 with | (pl2, bg2, tk2, vl2, tb2, lw2) => v9 = some (.int (fvI (rdA tx_ n_).1)) ∧ ((rdA tx_ n_).1 = none → tb2 = (rdA tx_ n_).2.1 ∧ lw2 = (rdA tx_ n_).2.2)) (fun u9 => match u9 with | (pl2, bg2, tk2, vl2, tb2, lw2) => [(e1_, .inr (5, [.ref xt_, .int (nI n_), .int pl2, .int bg2, .int tk2, .int vl2])), (xt_, .inl (cy 0, 200, .inl tx_)), (r1_, .inr (7, [.ref r2_, .int tb2])), (r2_, .inl (cy 0, 5, .inl lw2))]) 0 0 := by
  refine CT.of cX5_faultOf 5 (some .int) (by decide +kernel) rfl (Nat.le_of_ble_eq_true rfl) ?_
  intro p e s m args below meth c A Q ls F hmn hK hE hA hP hD hS hl RT
  obtain ⟨hx, hb, hml, hown, hts⟩ := id F
  have winX5 : ∀ w ∈ u_ws RX5 TX5 6, w ∈ wsX5_faultOf := by decide +kernel
  have wf7 := hts (.fieldLink RX5 7 "SelfSteer$Reader" "bytes" "[I") (by decide +kernel)
  have wm29 := hts (.methodLink RX5 29 Lib.Math.min.name) (by decide +kernel)
  have ws_min := hts (.static Lib.Math.min.name) (by decide +kernel)
  have wi_math := hts (.initialized "java/lang/Math") (by decide +kernel)
  have wk_min := hts (.code Lib.Math.min.name Lib.Math.min.code 2 (some .int)) (by decide +kernel)
  have wf13 := hts (.fieldLink RX5 13 "SelfSteer$Reader" "length" "I") (by decide +kernel)
  have wf17 := hts (.fieldLink RX5 17 "SelfSteer$Reader" "place" "I") (by decide +kernel)
  have wi_X7 := hts (.initialized RX7) (by decide +kernel)
  have wn_X7_forget := hts (.instanceMethod yX7_forget) (by decide +kernel)
  have we_X7_forget := hts (.selects RX7 yX7_forget yX7_forget) (by decide +kernel)
  have wf23 := hts (.fieldLink RX5 23 "SelfSteer$Reader" "token" "I") (by decide +kernel)
  have wf20 := hts (.fieldLink RX5 20 "SelfSteer$Reader" "begin" "I") (by decide +kernel)
  have hl : lv_has ls 5 [(0, .ref e1_), (1, .ref xt_), (2, .int (nI n_)), (3, .ref r1_)] := hl
  have hP : va_P D vwCl [(e1_, .inr (5, [.ref eb_, .int ln_, .int pl_, .int bg_, .int tk_, .int vl_])), (xt_, .inl (cy 0, 200, .inl tx_)), (r1_, .inr (7, [.ref r2_, .int tb_])), (r2_, .inl (cy 0, 5, .inl lw_))] s.heap := hP
  have hD : va_D A [(e1_, .inr (5, [.ref eb_, .int ln_, .int pl_, .int bg_, .int tk_, .int vl_])), (xt_, .inl (cy 0, 200, .inl tx_)), (r1_, .inr (7, [.ref r2_, .int tb_])), (r2_, .inl (cy 0, 5, .inl lw_))] := hD
  obtain ⟨H, hH⟩ : ∃ H0 : Heap, H0 = s.heap := ⟨_, rfl⟩
  obtain ⟨locs, hlo⟩ : ∃ L0 : List Loc, L0 = [] := ⟨_, rfl⟩
  have hS : va_S A s.heap H locs := by rw [hH, hlo]; exact hS
  rw [← hH] at hP
  show W p l e rmkX5_faultOf s m args below meth c s.heap [] 0 0 Q (F0 m 0 ls [])
  suffices hgo : W p l e rmkX5_faultOf s m args below meth c H locs 0 0 Q (F0 m 0 ls []) by rw [hH, hlo] at hgo; exact hgo
  clear hH hlo
  refine lv_aload_n hx hb dX5_faultOf_0 rfl (lv_at hl 0 rfl) ?_
  refine lv_aload_n hx hb dX5_faultOf_1 rfl (lv_at hl 1 rfl) ?_
  refine va_put (D := D) (ci := 5) (v := .ref xt_) (ty := .array .int) (C := RX5) (T := TX5) (N := 6) hx hb hts winX5 tyX5 tyX5_ok nmX5 hown hK hP hD hS 0 rfl rfl 0 (by decide) wf7 (fun _ h9 => h9) rfl (by decide +kernel) (rfl) (rfl) (Nat.le_of_ble_eq_true rfl) dX5_faultOf_2 (fun H locs hP hD hS => ?_)
  have hP : va_P D vwCl [(e1_, .inr (5, [.ref xt_, .int ln_, .int pl_, .int bg_, .int tk_, .int vl_])), (xt_, .inl (cy 0, 200, .inl tx_)), (r1_, .inr (7, [.ref r2_, .int tb_])), (r2_, .inl (cy 0, 5, .inl lw_))] H := hP
  have hD : va_D A [(e1_, .inr (5, [.ref xt_, .int ln_, .int pl_, .int bg_, .int tk_, .int vl_])), (xt_, .inl (cy 0, 200, .inl tx_)), (r1_, .inr (7, [.ref r2_, .int tb_])), (r2_, .inl (cy 0, 5, .inl lw_))] := hD
  refine lv_aload_n hx hb dX5_faultOf_5 rfl (lv_at hl 0 rfl) ?_
  refine lv_iload_n hx hb dX5_faultOf_6 rfl (lv_at hl 2 rfl) ?_
  refine lv_aload_n hx hb dX5_faultOf_7 rfl (lv_at hl 1 rfl) ?_
  refine va_alen (v := 200) hx hb hK hP 1 0 rfl rfl rfl dX5_faultOf_8 ?_
  refine va_mmin hx hb (hml.trans hl.1.symm) hown wm29 ws_min wi_math wk_min (by decide) (Nat.le_of_ble_eq_true rfl) (Nat.zero_le _) (Nat.zero_le _) dX5_faultOf_9 ?_
  refine lv_eqi (y := nI n_) (min_200 hn) ?_
  refine va_put (D := D) (ci := 5) (v := .int (nI n_)) (ty := .int) (C := RX5) (T := TX5) (N := 6) hx hb hts winX5 tyX5 tyX5_ok nmX5 hown hK hP hD hS 0 rfl rfl 1 (by decide) wf13 (fun _ h9 => h9) rfl (by decide +kernel) (rfl) (rfl) (Nat.le_of_ble_eq_true rfl) dX5_faultOf_12 (fun H locs hP hD hS => ?_)
  have hP : va_P D vwCl [(e1_, .inr (5, [.ref xt_, .int (nI n_), .int pl_, .int bg_, .int tk_, .int vl_])), (xt_, .inl (cy 0, 200, .inl tx_)), (r1_, .inr (7, [.ref r2_, .int tb_])), (r2_, .inl (cy 0, 5, .inl lw_))] H := hP
  have hD : va_D A [(e1_, .inr (5, [.ref xt_, .int (nI n_), .int pl_, .int bg_, .int tk_, .int vl_])), (xt_, .inl (cy 0, 200, .inl tx_)), (r1_, .inr (7, [.ref r2_, .int tb_])), (r2_, .inl (cy 0, 5, .inl lw_))] := hD
  refine lv_aload_n hx hb dX5_faultOf_15 rfl (lv_at hl 0 rfl) ?_
  refine lv_iconst (v := 0) hx hb dX5_faultOf_16 (by decide) ?_
  refine va_put (D := D) (ci := 5) (v := .int 0) (ty := .int) (C := RX5) (T := TX5) (N := 6) hx hb hts winX5 tyX5 tyX5_ok nmX5 hown hK hP hD hS 0 rfl rfl 2 (by decide) wf17 (fun _ h9 => h9) rfl (by decide +kernel) (rfl) (rfl) (Nat.le_of_ble_eq_true rfl) dX5_faultOf_17 (fun H locs hP hD hS => ?_)
  have hP : va_P D vwCl [(e1_, .inr (5, [.ref xt_, .int (nI n_), .int 0, .int bg_, .int tk_, .int vl_])), (xt_, .inl (cy 0, 200, .inl tx_)), (r1_, .inr (7, [.ref r2_, .int tb_])), (r2_, .inl (cy 0, 5, .inl lw_))] H := hP
  have hD : va_D A [(e1_, .inr (5, [.ref xt_, .int (nI n_), .int 0, .int bg_, .int tk_, .int vl_])), (xt_, .inl (cy 0, 200, .inl tx_)), (r1_, .inr (7, [.ref r2_, .int tb_])), (r2_, .inl (cy 0, 5, .inl lw_))] := hD
  refine lv_aload_n hx hb dX5_faultOf_20 rfl (lv_at hl 3 rfl) ?_
  refine ca_VN (C := RX7) (q0 := 2) (n := 0) (rest := []) (wr := [(e1_, .inr (5, [.ref xt_, .int (nI n_), .int 0, .int bg_, .int tk_, .int vl_])), (xt_, .inl (cy 0, 200, .inl tx_))]) F hK hE hA hP hD hS hl.1 (kX7_forget (l := l) (D := D) (cy := cy) (sa := sa) r1_ r2_ lw_ tb_) gX5_faultOf_X7_forget_n35 (hE.nest 54 rfl) wi_X7 wn_X7_forget we_X7_forget rfl rfl rfl rfl rfl rfl (by decide +kernel) ⟨by decide, by decide⟩ [2, 3] [0, 1] rfl rfl rfl rfl (by decide) rfl rfl (Nat.le_of_ble_eq_true rfl) dX5_faultOf_21 ⟨by decide, by decide⟩ (fun v9 u9 H locs hv hP hD hS => ?_)
  subst hv
  obtain ⟨hP, hD⟩ := re_ws (ws' := [(e1_, .inr (5, [.ref xt_, .int (nI n_), .int 0, .int bg_, .int tk_, .int vl_])), (xt_, .inl (cy 0, 200, .inl tx_)), (r1_, .inr (7, [.ref r2_, .int 0])), (r2_, .inl (cy 0, 5, .inl s_UNTOLD))]) hP hD [0, 1, 2, 3] rfl rfl
  refine W.eq (g2 := F0 m 24 ls []) rfl ?_
  refine lv_iconst (v := 0) hx hb dX5_faultOf_24 (by decide) ?_
  refine lv_istore (lv' := [(4, .int 0), (0, .ref e1_), (1, .ref xt_), (2, .int (nI n_)), (3, .ref r1_)]) hx hb dX5_faultOf_25 hl (by decide) rfl (fun ls hl => ?_)
  have L_27 : ∀ (nF : Nat) (j_ : Nat) (p9_ : Nat) (bgc_ : Int32) (tkc_ : Int32) (vlc_ : Int32) (tbc_ : Int32) (lwc_ : Nat → Int32), (j_ ≤ 5) → (p9_ ≤ n_) → (toldN tbc_ j_) → (rdF tx_ n_ (6 - j_) p9_ tbc_ lwc_ = rdA tx_ n_) → 6 - j_ < nF → ∀ (H : Heap) (locs : List Loc), va_P D vwCl [(e1_, .inr (5, [.ref xt_, .int (nI n_), .int (nI p9_), .int bgc_, .int tkc_, .int vlc_])), (xt_, .inl (cy 0, 200, .inl tx_)), (r1_, .inr (7, [.ref r2_, .int tbc_])), (r2_, .inl (cy 0, 5, .inl lwc_))] H → va_D A [(e1_, .inr (5, [.ref xt_, .int (nI n_), .int (nI p9_), .int bgc_, .int tkc_, .int vlc_])), (xt_, .inl (cy 0, 200, .inl tx_)), (r1_, .inr (7, [.ref r2_, .int tbc_])), (r2_, .inl (cy 0, 5, .inl lwc_))] → va_S A s.heap H locs → ∀ (ls : Array Slot), lv_has ls 5 [(4, .int (nI j_)), (0, .ref e1_), (1, .ref xt_), (2, .int (nI n_)), (3, .ref r1_)] → W p l e rmkX5_faultOf s m args below meth c H locs 0 0 Q (F0 m 27 ls []) := by
    intro nF
    induction nF with
    | zero => intro j_ p9_ bgc_ tkc_ vlc_ tbc_ lwc_ hj hp hT hR hnF; exact absurd hnF (Nat.not_lt_zero _)
    | succ nF ih_27 =>
      intro j_ p9_ bgc_ tkc_ vlc_ tbc_ lwc_ hj hp hT hR hn_27 H locs hP hD hS ls hl
      refine lv_iload hx hb dX5_faultOf_27 (lv_at hl 0 rfl) ?_
      refine lv_iconst (v := 5) hx hb dX5_faultOf_29 (by decide) ?_
      refine cn_gt (tgt := 65) hx hb j_ 5 rfl rfl (by omega) (by omega) dX5_faultOf_30 (by decide) (fun c_30 => ?_) (fun c_30 => ?_)
      · exact absurd hj (by omega)
      · refine lv_aload_n hx hb dX5_faultOf_33 rfl (lv_at hl 1 rfl) ?_
        refine ca_V (q0 := 0) (n := 0) (rest := []) (wr := [(r1_, .inr (7, [.ref r2_, .int tbc_])), (r2_, .inl (cy 0, 5, .inl lwc_))]) F hK hE hA hP hD hS hl.1 (kX5_next (l := l) (D := D) (cy := cy) (sa := sa) e1_ xt_ n_ tx_ p9_ bgc_ tkc_ vlc_ (by first | assumption | omega | decide) (hp)) gX5_faultOf_X5_next rfl rfl rfl rfl rfl rfl (by decide +kernel) ⟨by decide, by decide⟩ [0, 1] [2, 3] rfl rfl rfl rfl (by decide) rfl rfl (Nat.le_of_ble_eq_true rfl) dX5_faultOf_34 ⟨by decide, by decide⟩ (fun v9 u9 H locs hv hP hD hS => ?_)
        obtain ⟨u34_vl2, hu9⟩ : ∃ z, z = u9 := ⟨_, rfl⟩
        subst hu9
        obtain ⟨hv, hhv_34⟩ := hv
        subst hv
        obtain ⟨hP, hD⟩ := re_ws (ws' := [(e1_, .inr (5, [.ref xt_, .int (nI n_), .int (nI (tkE tx_ n_ p9_)), .int (nI (tkb tx_ n_ p9_)), .int (tkK tx_ n_ p9_), .int u34_vl2])), (xt_, .inl (cy 0, 200, .inl tx_)), (r1_, .inr (7, [.ref r2_, .int tbc_])), (r2_, .inl (cy 0, 5, .inl lwc_))]) hP hD [2, 3, 0, 1] rfl rfl
        refine W.eq (g2 := F0 m 37 ls []) rfl ?_
        refine lv_aload_n hx hb dX5_faultOf_37 rfl (lv_at hl 1 rfl) ?_
        refine va_get (D := D) (ci := 5) (v := .int (tkK tx_ n_ p9_)) (C := RX5) (T := TX5) (N := 6) hx hb hts winX5 hown hK hP 0 rfl rfl 4 (by decide) wf23 (fun _ h9 => h9) rfl dX5_faultOf_38 ?_
        refine lv_if_ne (tgt := 46) hx hb dX5_faultOf_41 (by decide) (fun c_41 => ?_) (fun c_41 => ?_)
        · refine lv_aload_n hx hb dX5_faultOf_46 rfl (lv_at hl 1 rfl) ?_
          refine lv_aload_n hx hb dX5_faultOf_47 rfl (lv_at hl 4 rfl) ?_
          refine ca_V (q0 := 0) (n := 1) (rest := []) (wr := []) F hK hE hA hP hD hS hl.1 (kX5_readsItem (l := l) (D := D) (cy := cy) (sa := sa) e1_ xt_ n_ tx_ p9_ u34_vl2 r1_ r2_ lwc_ tbc_ (by first | assumption | omega | decide) (hp) (hhv_34)) gX5_faultOf_X5_readsItem rfl rfl rfl rfl rfl rfl (by decide +kernel) ⟨by decide, by decide⟩ [0, 1, 2, 3] [] rfl rfl rfl rfl (by decide) rfl rfl (Nat.le_of_ble_eq_true rfl) dX5_faultOf_48 ⟨by decide, by decide⟩ (fun v9 u9 H locs hv hP hD hS => ?_)
          obtain ⟨u48_bg2, u48_pl2, u48_tk2, u48_vl2, u48_tb2, u48_lw2⟩ := u9
          obtain ⟨hv, hhy_48, hhn_48⟩ := hv
          subst hv
          obtain ⟨hP, hD⟩ := re_ws (ws' := [(e1_, .inr (5, [.ref xt_, .int (nI n_), .int (nI u48_pl2), .int (nI u48_bg2), .int u48_tk2, .int u48_vl2])), (xt_, .inl (cy 0, 200, .inl tx_)), (r1_, .inr (7, [.ref r2_, .int u48_tb2])), (r2_, .inl (cy 0, 5, .inl u48_lw2))]) hP hD [0, 1, 2, 3] rfl rfl
          refine W.eq (g2 := F0 m 51 ls [.int (bI (itF tx_ n_ p9_ tbc_ = none))]) rfl ?_
          refine bz_ne (tgt := 59) hx hb dX5_faultOf_51 (by decide) (fun c_51 => ?_) (fun c_51 => ?_)
          · refine lv_iinc (v := nI (j_ + 1)) (lv' := [(4, .int (nI (j_ + 1))), (0, .ref e1_), (1, .ref xt_), (2, .int (nI n_)), (3, .ref r1_)]) hx hb dX5_faultOf_59 hl (k := 0) rfl (nI_add j_ 1) (by decide) rfl (fun ls hl => ?_)
            refine lv_goto (tgt := 27) hx hb dX5_faultOf_62 (by decide) ?_
            exact ih_27 (j_ + 1) u48_pl2 (nI u48_bg2) u48_tk2 u48_vl2 u48_tb2 u48_lw2 ((toldN_s hT hj c_51).2) (by rw [(hhy_48 c_51).1]; exact itP_le hp) (by rw [(hhy_48 c_51).2.1]; exact (toldN_s hT hj c_51).1) (by rw [(hhy_48 c_51).1, (hhy_48 c_51).2.1, (hhy_48 c_51).2.2, ← hR, show 6 - j_ = (6 - (j_ + 1)) + 1 by omega, rd_go c_41 c_51]) (by omega) H locs hP hD hS ls (lv_sub hl [0, 1, 2, 3, 4] rfl)
          · refine lv_aload_n hx hb dX5_faultOf_54 rfl (lv_at hl 1 rfl) ?_
            refine va_get (D := D) (ci := 5) (v := .int (nI u48_bg2)) (C := RX5) (T := TX5) (N := 6) hx hb hts winX5 hown hK hP 0 rfl rfl 3 (by decide) wf20 (fun _ h9 => h9) rfl dX5_faultOf_55 ?_
            obtain ⟨f8, hf8⟩ := it_some c_51
            have hf : rdA tx_ n_ = (some f8, tbc_, lwc_) := by rw [← hR, show 6 - j_ = (6 - (j_ + 1)) + 1 by omega, rd_bad c_41 c_51, hf8]
            refine lv_eqi (y := fvI (rdA tx_ n_).1) (by rw [hf, hhn_48 f8 hf8]; rfl) ?_
            exact RT _ _ (nI u48_pl2, nI u48_bg2, u48_tk2, u48_vl2, u48_tb2, u48_lw2) H locs 58 ls (rt_i dX5_faultOf_58) ⟨rfl, (fun z => by rw [hf] at z; cases z)⟩ hP hD hS
        · refine lv_iconst (v := (-1)) hx hb dX5_faultOf_44 (by decide) ?_
          have hf : rdA tx_ n_ = (none, tbc_, lwc_) := by rw [← hR, show 6 - j_ = (6 - (j_ + 1)) + 1 by omega, rd_end c_41]
          refine lv_eqi (y := fvI (rdA tx_ n_).1) (by rw [hf]; rfl) ?_
          exact RT _ _ (nI (tkE tx_ n_ p9_), nI (tkb tx_ n_ p9_), tkK tx_ n_ p9_, u34_vl2, tbc_, lwc_) H locs 45 ls (rt_i dX5_faultOf_45) ⟨rfl, (fun _ => by rw [hf]; exact ⟨rfl, rfl⟩)⟩ hP hD hS
  skip
  exact L_27 _ 0 0 bg_ tk_ vl_ 0 s_UNTOLD (by omega) (Nat.zero_le _) (toldN_0) (rfl) (Nat.lt_succ_self _) H locs hP hD hS ls (lv_sub hl [0, 1, 2, 3, 4] rfl)
