abbrev rmkX9_byteAt : Room := { frames := 0, cells := 0, slots := 0, locals := 0 }
set_option maxHeartbeats 4000000 in
set_option maxRecDepth 100000 in
theorem kX9_byteAt {l : Launch} {D : va_G} {cy : Nat → ClassId} {sa : Nat → Nat} (b0_ : Nat) (th_ : Int32) (tr_ : Int64) (bn_ : Nat) (bt_ : Nat) (bs_ : Nat) (bk_ : Nat) (bp_ : Nat) (bi_ : Nat) (bl_ : Nat) (it_ : Int32) (ub_ : Int32) (db_ : Int32) (bx_ : Nat) (bc_ : Nat) (bf_ : Nat) (n_ : Nat) (tx_ : Nat → Int32) (nx_ : Int32) (tk_ : Int32) (pl_ : Int32) (vl_ : Int32) (fa_ : Int32) (q_ : Nat) (hn : n_ ≤ 200) (hq : q_ < 1000) : CD l D cy sa yX9_byteAt wsX9_byteAt rmkX9_byteAt [.ref b0_, .int (nI q_)] [(b0_, .inr (9, [.int th_, .long tr_, .ref bn_, .ref bt_, .ref bs_, .ref bk_, .ref bp_, .ref bi_, .ref bl_, .int it_, .int ub_, .int db_, .ref bx_, .int (nI n_), .int nx_, .int tk_, .int pl_, .int vl_, .int fa_, .ref bc_, .ref bf_])), (bx_, .inl (cy 0, 200, .inl tx_))] (some (.int (byR tx_ n_ q_))) [(b0_, .inr (9, [.int th_, .long tr_, .ref bn_, .ref bt_, .ref bs_, .ref bk_, .ref bp_, .ref bi_, .ref bl_, .int it_, .int ub_, .int db_, .ref bx_, .int (nI n_), .int nx_, .int tk_, .int pl_, .int vl_, .int fa_, .ref bc_, .ref bf_])), (bx_, .inl (cy 0, 200, .inl tx_))] := by
  refine CT.of cX9_byteAt 2 (some .int) (by decide +kernel) rfl (Nat.le_of_ble_eq_true rfl) ?_
  intro p e s m args below meth c A Q ls F hmn hK hE hA hP hD hS hl RT
  obtain ⟨hx, hb, hml, hown, hts⟩ := id F
  have winX9 : ∀ w ∈ u_ws RX9 TX9 21, w ∈ wsX9_byteAt := by decide +kernel
  have wf120 := hts (.fieldLink RX9 120 "SelfSteerModel" "typed" "I") (by decide +kernel)
  have wf39 := hts (.fieldLink RX9 39 "SelfSteerModel" "text" "[I") (by decide +kernel)
  have hl : lv_has ls 2 [(0, .ref b0_), (1, .int (nI q_))] := hl
  have hP : va_P D vwCl [(b0_, .inr (9, [.int th_, .long tr_, .ref bn_, .ref bt_, .ref bs_, .ref bk_, .ref bp_, .ref bi_, .ref bl_, .int it_, .int ub_, .int db_, .ref bx_, .int (nI n_), .int nx_, .int tk_, .int pl_, .int vl_, .int fa_, .ref bc_, .ref bf_])), (bx_, .inl (cy 0, 200, .inl tx_))] s.heap := hP
  have hD : va_D A [(b0_, .inr (9, [.int th_, .long tr_, .ref bn_, .ref bt_, .ref bs_, .ref bk_, .ref bp_, .ref bi_, .ref bl_, .int it_, .int ub_, .int db_, .ref bx_, .int (nI n_), .int nx_, .int tk_, .int pl_, .int vl_, .int fa_, .ref bc_, .ref bf_])), (bx_, .inl (cy 0, 200, .inl tx_))] := hD
  obtain ⟨H, hH⟩ : ∃ H0 : Heap, H0 = s.heap := ⟨_, rfl⟩
  obtain ⟨locs, hlo⟩ : ∃ L0 : List Loc, L0 = [] := ⟨_, rfl⟩
  have hS : va_S A s.heap H locs := by rw [hH, hlo]; exact hS
  rw [← hH] at hP
  show W p l e rmkX9_byteAt s m args below meth c s.heap [] 0 0 Q (F0 m 0 ls [])
  suffices hgo : W p l e rmkX9_byteAt s m args below meth c H locs 0 0 Q (F0 m 0 ls []) by rw [hH, hlo] at hgo; exact hgo
  clear hH hlo
  refine lv_iload_n hx hb dX9_byteAt_0 rfl (lv_at hl 1 rfl) ?_
  refine lv_aload_n hx hb dX9_byteAt_1 rfl (lv_at hl 0 rfl) ?_
  refine va_get (D := D) (ci := 9) (v := .int (nI n_)) (C := RX9) (T := TX9) (N := 21) hx hb hts winX9 hown hK hP 0 rfl rfl 13 (by decide) wf120 (fun _ h9 => h9) rfl dX9_byteAt_2 ?_
  have J_5_13 : ∀ (z5 : Int32), z5 = (if n_ ≤ q_ then (-1) else (tx_ q_)) → ∀ (H : Heap) (locs : List Loc), va_P D vwCl [(b0_, .inr (9, [.int th_, .long tr_, .ref bn_, .ref bt_, .ref bs_, .ref bk_, .ref bp_, .ref bi_, .ref bl_, .int it_, .int ub_, .int db_, .ref bx_, .int (nI n_), .int nx_, .int tk_, .int pl_, .int vl_, .int fa_, .ref bc_, .ref bf_])), (bx_, .inl (cy 0, 200, .inl tx_))] H → va_D A [(b0_, .inr (9, [.int th_, .long tr_, .ref bn_, .ref bt_, .ref bs_, .ref bk_, .ref bp_, .ref bi_, .ref bl_, .int it_, .int ub_, .int db_, .ref bx_, .int (nI n_), .int nx_, .int tk_, .int pl_, .int vl_, .int fa_, .ref bc_, .ref bf_])), (bx_, .inl (cy 0, 200, .inl tx_))] → va_S A s.heap H locs → ∀ (ls : Array Slot), lv_has ls 2 [(0, .ref b0_), (1, .int (nI q_))] → W p l e rmkX9_byteAt s m args below meth c H locs 0 0 Q (F0 m 18 ls [.int z5]) := by
    intro z5 ez5 H locs hP hD hS ls hl
    refine lv_eqi (y := byR tx_ n_ q_) (ez5) ?_
    exact RT _ _ () H locs 18 ls (rt_i dX9_byteAt_18) rfl hP hD hS
  refine cn_ge (tgt := 17) hx hb q_ n_ rfl rfl (by omega) (by omega) dX9_byteAt_5 (by decide) (fun c_5 => ?_) (fun c_5 => ?_)
  · refine lv_iconst (v := (-1)) hx hb dX9_byteAt_17 (by decide) ?_
    exact J_5_13 _ ((if_pos c_5).symm) H locs hP hD hS ls (lv_sub hl [0, 1] rfl)
  · refine lv_aload_n hx hb dX9_byteAt_8 rfl (lv_at hl 0 rfl) ?_
    refine va_get (D := D) (ci := 9) (v := .ref bx_) (C := RX9) (T := TX9) (N := 21) hx hb hts winX9 hown hK hP 0 rfl rfl 12 (by decide) wf39 (fun _ h9 => h9) rfl dX9_byteAt_9 ?_
    refine lv_iload_n hx hb dX9_byteAt_12 rfl (lv_at hl 1 rfl) ?_
    refine al_i hx hb hK hP 1 rfl q_ (rfl) (by omega) (by decide) dX9_byteAt_13 ?_
    refine lv_goto (tgt := 18) hx hb dX9_byteAt_14 (by decide) ?_
    exact J_5_13 _ ((if_neg c_5).symm) H locs hP hD hS ls (lv_sub hl [0, 1] rfl)
abbrev rmkX9_word : Room := { frames := 0, cells := 0, slots := 0, locals := 0 }
set_option maxHeartbeats 4000000 in
set_option maxRecDepth 100000 in
theorem kX9_word {l : Launch} {D : va_G} {cy : Nat → ClassId} {sa : Nat → Nat} (a_ : Int32) (b_ : Int32) (c9_ : Int32) (d_ : Int32)  : CD l D cy sa yX9_word wsX9_word rmkX9_word [.int a_, .int b_, .int c9_, .int d_] [] (some (.long (wrd a_ b_ c9_ d_))) [] := by
  refine CT.of cX9_word 6 (some .long) (by decide +kernel) rfl (Nat.le_of_ble_eq_true rfl) ?_
  intro p e s m args below meth c A Q ls F hmn hK hE hA hP hD hS hl RT
  obtain ⟨hx, hb, hml, hown, hts⟩ := id F
  have wl125 := hts (.constantLong RX9 125 (65536)) (by decide +kernel)
  have wl127 := hts (.constantLong RX9 127 (256)) (by decide +kernel)
  have hl : lv_has ls 6 [(0, .int a_), (1, .int b_), (2, .int c9_), (3, .int d_)] := hl
  have hP : va_P D vwCl [] s.heap := hP
  have hD : va_D A [] := hD
  obtain ⟨H, hH⟩ : ∃ H0 : Heap, H0 = s.heap := ⟨_, rfl⟩
  obtain ⟨locs, hlo⟩ : ∃ L0 : List Loc, L0 = [] := ⟨_, rfl⟩
  have hS : va_S A s.heap H locs := by rw [hH, hlo]; exact hS
  rw [← hH] at hP
  show W p l e rmkX9_word s m args below meth c s.heap [] 0 0 Q (F0 m 0 ls [])
  suffices hgo : W p l e rmkX9_word s m args below meth c H locs 0 0 Q (F0 m 0 ls []) by rw [hH, hlo] at hgo; exact hgo
  clear hH hlo
  refine lv_ldc2 (v := 65536) hx hb hown wl125 dX9_word_0 ?_
  refine lv_iload_n hx hb dX9_word_3 rfl (lv_at hl 0 rfl) ?_
  refine lv_i2l (v := a_.toInt64) hx hb dX9_word_4 (rfl) ?_
  refine lv_lmul hx hb dX9_word_5 ?_
  refine lv_ldc2 (v := 256) hx hb hown wl127 dX9_word_6 ?_
  refine lv_iload_n hx hb dX9_word_9 rfl (lv_at hl 1 rfl) ?_
  refine lv_i2l (v := b_.toInt64) hx hb dX9_word_10 (rfl) ?_
  refine lv_lmul hx hb dX9_word_11 ?_
  refine lv_ladd hx hb dX9_word_12 ?_
  refine lv_iload_n hx hb dX9_word_13 rfl (lv_at hl 2 rfl) ?_
  refine lv_i2l (v := c9_.toInt64) hx hb dX9_word_14 (rfl) ?_
  refine lv_ladd hx hb dX9_word_15 ?_
  refine lv_lstore (lv' := [(4, .long (((65536 * a_.toInt64) + (256 * b_.toInt64)) + c9_.toInt64)), (0, .int a_), (1, .int b_), (2, .int c9_), (3, .int d_)]) hx hb dX9_word_16 hl (by decide) rfl (fun ls hl => ?_)
  refine lv_iload_n hx hb dX9_word_18 rfl (lv_at hl 4 rfl) ?_
  have J_19_24 : ∀ (z19 : Int64), z19 = (if d_ = 0 then (((65536 * a_.toInt64) + (256 * b_.toInt64)) + c9_.toInt64) else ((256 * (((65536 * a_.toInt64) + (256 * b_.toInt64)) + c9_.toInt64)) + d_.toInt64)) → ∀ (H : Heap) (locs : List Loc), va_P D vwCl [] H → va_D A [] → va_S A s.heap H locs → ∀ (ls : Array Slot), lv_has ls 6 [(4, .long (((65536 * a_.toInt64) + (256 * b_.toInt64)) + c9_.toInt64)), (0, .int a_), (1, .int b_), (2, .int c9_), (3, .int d_)] → W p l e rmkX9_word s m args below meth c H locs 0 0 Q (F0 m 36 ls [.long z19]) := by
    intro z19 ez19 H locs hP hD hS ls hl
    refine lv_eql (y := wrd a_ b_ c9_ d_) (ez19) ?_
    exact RT _ _ () H locs 36 ls (rt_l dX9_word_36) rfl hP hD hS
  refine lv_if_ne (tgt := 27) hx hb dX9_word_19 (by decide) (fun c_19 => ?_) (fun c_19 => ?_)
  · refine lv_ldc2 (v := 256) hx hb hown wl127 dX9_word_27 ?_
    refine lv_lload hx hb dX9_word_30 (lv_at hl 0 rfl) ?_
    refine lv_lmul hx hb dX9_word_32 ?_
    refine lv_iload_n hx hb dX9_word_33 rfl (lv_at hl 4 rfl) ?_
    refine lv_i2l (v := d_.toInt64) hx hb dX9_word_34 (rfl) ?_
    refine lv_ladd hx hb dX9_word_35 ?_
    exact J_19_24 _ ((if_neg c_19).symm) H locs hP hD hS ls (lv_sub hl [0, 1, 2, 3, 4] rfl)
  · refine lv_lload hx hb dX9_word_22 (lv_at hl 0 rfl) ?_
    refine lv_goto (tgt := 36) hx hb dX9_word_24 (by decide) ?_
    exact J_19_24 _ ((if_pos c_19).symm) H locs hP hD hS ls (lv_sub hl [0, 1, 2, 3, 4] rfl)
abbrev rmkX9_wordOf : Room := { frames := 1, cells := 0, slots := 0, locals := 25 }
set_option maxHeartbeats 4000000 in
set_option maxRecDepth 100000 in
theorem kX9_wordOf {l : Launch} {D : va_G} {cy : Nat → ClassId} {sa : Nat → Nat} (v_ : Int64)  : CD l D cy sa yX9_wordOf wsX9_wordOf rmkX9_wordOf [.long v_] [] (some (.int (wdR v_))) [] := by
  refine CT.of cX9_wordOf 2 (some .int) (by decide +kernel) rfl (Nat.le_of_ble_eq_true rfl) ?_
  intro p e s m args below meth c A Q ls F hmn hK hE hA hP hD hS hl RT
  obtain ⟨hx, hb, hml, hown, hts⟩ := id F
  have hl : lv_has ls 2 [(0, .long v_)] := hl
  have hP : va_P D vwCl [] s.heap := hP
  have hD : va_D A [] := hD
  obtain ⟨H, hH⟩ : ∃ H0 : Heap, H0 = s.heap := ⟨_, rfl⟩
  obtain ⟨locs, hlo⟩ : ∃ L0 : List Loc, L0 = [] := ⟨_, rfl⟩
  have hS : va_S A s.heap H locs := by rw [hH, hlo]; exact hS
  rw [← hH] at hP
  show W p l e rmkX9_wordOf s m args below meth c s.heap [] 0 0 Q (F0 m 0 ls [])
  suffices hgo : W p l e rmkX9_wordOf s m args below meth c H locs 0 0 Q (F0 m 0 ls []) by rw [hH, hlo] at hgo; exact hgo
  clear hH hlo
  refine lv_lload_n hx hb dX9_wordOf_0 rfl (lv_at hl 0 rfl) ?_
  refine lv_bipush (v := 108) hx hb dX9_wordOf_1 (by decide) ?_
  refine lv_bipush (v := 101) hx hb dX9_wordOf_3 (by decide) ?_
  refine lv_bipush (v := 97) hx hb dX9_wordOf_5 (by decide) ?_
  refine lv_bipush (v := 110) hx hb dX9_wordOf_7 (by decide) ?_
  refine ca_S (n := 4) (rest := [.long v_]) (wr := []) F hK hE hA hP hD hS hl.1 (kX9_word (l := l) (D := D) (cy := cy) (sa := sa) 108 101 97 110) gX9_wordOf_X9_word rfl rfl rfl (by decide +kernel) ⟨by decide, by decide⟩ [] [] rfl rfl rfl rfl (by decide) rfl rfl (Nat.le_of_ble_eq_true rfl) dX9_wordOf_9 ⟨by decide, by decide⟩ (fun v9 u9 H locs hv hP hD hS => ?_)
  subst hv
  have hP : va_P D vwCl [] H := hP
  have hD : va_D A [] := hD
  refine W.eq (g2 := F0 m 12 ls [.long (wrd 108 101 97 110), .long v_]) rfl ?_
  refine W.lcmp hx hb dX9_wordOf_12 ?_
  have J_13_21 : ∀ (z13 : Int32), z13 = (if v_ = (wrd 108 101 97 110) then 0 else (if v_ = (wrd 114 97 116 101) then 1 else (if v_ = (wrd 98 97 114 0) then 2 else (if v_ = (wrd 108 97 116 101) then 3 else (if v_ = (wrd 109 111 115 116) then 4 else (-9)))))) → ∀ (H : Heap) (locs : List Loc), va_P D vwCl [] H → va_D A [] → va_S A s.heap H locs → ∀ (ls : Array Slot), lv_has ls 2 [(0, .long v_)] → W p l e rmkX9_wordOf s m args below meth c H locs 0 0 Q (F0 m 101 ls [.int z13]) := by
    intro z13 ez13 H locs hP hD hS ls hl
    refine lv_eqi (y := wdR v_) (ez13) ?_
    exact RT _ _ () H locs 101 ls (rt_i dX9_wordOf_101) rfl hP hD hS
  refine lc_ne (tgt := 20) hx hb dX9_wordOf_13 (by decide) (fun c_13 => ?_) (fun c_13 => ?_)
  · refine lv_lload_n hx hb dX9_wordOf_20 rfl (lv_at hl 0 rfl) ?_
    refine lv_bipush (v := 114) hx hb dX9_wordOf_21 (by decide) ?_
    refine lv_bipush (v := 97) hx hb dX9_wordOf_23 (by decide) ?_
    refine lv_bipush (v := 116) hx hb dX9_wordOf_25 (by decide) ?_
    refine lv_bipush (v := 101) hx hb dX9_wordOf_27 (by decide) ?_
    refine ca_S (n := 4) (rest := [.long v_]) (wr := []) F hK hE hA hP hD hS hl.1 (kX9_word (l := l) (D := D) (cy := cy) (sa := sa) 114 97 116 101) gX9_wordOf_X9_word rfl rfl rfl (by decide +kernel) ⟨by decide, by decide⟩ [] [] rfl rfl rfl rfl (by decide) rfl rfl (Nat.le_of_ble_eq_true rfl) dX9_wordOf_29 ⟨by decide, by decide⟩ (fun v9 u9 H locs hv hP hD hS => ?_)
    subst hv
    have hP : va_P D vwCl [] H := hP
    have hD : va_D A [] := hD
    refine W.eq (g2 := F0 m 32 ls [.long (wrd 114 97 116 101), .long v_]) rfl ?_
    refine W.lcmp hx hb dX9_wordOf_32 ?_
    refine lc_ne (tgt := 40) hx hb dX9_wordOf_33 (by decide) (fun c_33 => ?_) (fun c_33 => ?_)
    · refine lv_lload_n hx hb dX9_wordOf_40 rfl (lv_at hl 0 rfl) ?_
      refine lv_bipush (v := 98) hx hb dX9_wordOf_41 (by decide) ?_
      refine lv_bipush (v := 97) hx hb dX9_wordOf_43 (by decide) ?_
      refine lv_bipush (v := 114) hx hb dX9_wordOf_45 (by decide) ?_
      refine lv_iconst (v := 0) hx hb dX9_wordOf_47 (by decide) ?_
      refine ca_S (n := 4) (rest := [.long v_]) (wr := []) F hK hE hA hP hD hS hl.1 (kX9_word (l := l) (D := D) (cy := cy) (sa := sa) 98 97 114 0) gX9_wordOf_X9_word rfl rfl rfl (by decide +kernel) ⟨by decide, by decide⟩ [] [] rfl rfl rfl rfl (by decide) rfl rfl (Nat.le_of_ble_eq_true rfl) dX9_wordOf_48 ⟨by decide, by decide⟩ (fun v9 u9 H locs hv hP hD hS => ?_)
      subst hv
      have hP : va_P D vwCl [] H := hP
      have hD : va_D A [] := hD
      refine W.eq (g2 := F0 m 51 ls [.long (wrd 98 97 114 0), .long v_]) rfl ?_
      refine W.lcmp hx hb dX9_wordOf_51 ?_
      refine lc_ne (tgt := 59) hx hb dX9_wordOf_52 (by decide) (fun c_52 => ?_) (fun c_52 => ?_)
      · refine lv_lload_n hx hb dX9_wordOf_59 rfl (lv_at hl 0 rfl) ?_
        refine lv_bipush (v := 108) hx hb dX9_wordOf_60 (by decide) ?_
        refine lv_bipush (v := 97) hx hb dX9_wordOf_62 (by decide) ?_
        refine lv_bipush (v := 116) hx hb dX9_wordOf_64 (by decide) ?_
        refine lv_bipush (v := 101) hx hb dX9_wordOf_66 (by decide) ?_
        refine ca_S (n := 4) (rest := [.long v_]) (wr := []) F hK hE hA hP hD hS hl.1 (kX9_word (l := l) (D := D) (cy := cy) (sa := sa) 108 97 116 101) gX9_wordOf_X9_word rfl rfl rfl (by decide +kernel) ⟨by decide, by decide⟩ [] [] rfl rfl rfl rfl (by decide) rfl rfl (Nat.le_of_ble_eq_true rfl) dX9_wordOf_68 ⟨by decide, by decide⟩ (fun v9 u9 H locs hv hP hD hS => ?_)
        subst hv
        have hP : va_P D vwCl [] H := hP
        have hD : va_D A [] := hD
        refine W.eq (g2 := F0 m 71 ls [.long (wrd 108 97 116 101), .long v_]) rfl ?_
        refine W.lcmp hx hb dX9_wordOf_71 ?_
        refine lc_ne (tgt := 79) hx hb dX9_wordOf_72 (by decide) (fun c_72 => ?_) (fun c_72 => ?_)
        · refine lv_lload_n hx hb dX9_wordOf_79 rfl (lv_at hl 0 rfl) ?_
          refine lv_bipush (v := 109) hx hb dX9_wordOf_80 (by decide) ?_
          refine lv_bipush (v := 111) hx hb dX9_wordOf_82 (by decide) ?_
          refine lv_bipush (v := 115) hx hb dX9_wordOf_84 (by decide) ?_
          refine lv_bipush (v := 116) hx hb dX9_wordOf_86 (by decide) ?_
          refine ca_S (n := 4) (rest := [.long v_]) (wr := []) F hK hE hA hP hD hS hl.1 (kX9_word (l := l) (D := D) (cy := cy) (sa := sa) 109 111 115 116) gX9_wordOf_X9_word rfl rfl rfl (by decide +kernel) ⟨by decide, by decide⟩ [] [] rfl rfl rfl rfl (by decide) rfl rfl (Nat.le_of_ble_eq_true rfl) dX9_wordOf_88 ⟨by decide, by decide⟩ (fun v9 u9 H locs hv hP hD hS => ?_)
          subst hv
          have hP : va_P D vwCl [] H := hP
          have hD : va_D A [] := hD
          refine W.eq (g2 := F0 m 91 ls [.long (wrd 109 111 115 116), .long v_]) rfl ?_
          refine W.lcmp hx hb dX9_wordOf_91 ?_
          refine lc_ne (tgt := 99) hx hb dX9_wordOf_92 (by decide) (fun c_92 => ?_) (fun c_92 => ?_)
          · refine lv_bipush (v := (-9)) hx hb dX9_wordOf_99 (by decide) ?_
            exact J_13_21 _ (((if_neg c_13).trans ((if_neg c_33).trans ((if_neg c_52).trans ((if_neg c_72).trans (if_neg c_92))))).symm) H locs hP hD hS ls (lv_sub hl [0] rfl)
          · refine lv_iconst (v := 4) hx hb dX9_wordOf_95 (by decide) ?_
            refine lv_goto (tgt := 101) hx hb dX9_wordOf_96 (by decide) ?_
            exact J_13_21 _ (((if_neg c_13).trans ((if_neg c_33).trans ((if_neg c_52).trans ((if_neg c_72).trans (if_pos c_92))))).symm) H locs hP hD hS ls (lv_sub hl [0] rfl)
        · refine lv_iconst (v := 3) hx hb dX9_wordOf_75 (by decide) ?_
          refine lv_goto (tgt := 101) hx hb dX9_wordOf_76 (by decide) ?_
          exact J_13_21 _ (((if_neg c_13).trans ((if_neg c_33).trans ((if_neg c_52).trans (if_pos c_72)))).symm) H locs hP hD hS ls (lv_sub hl [0] rfl)
      · refine lv_iconst (v := 2) hx hb dX9_wordOf_55 (by decide) ?_
        refine lv_goto (tgt := 101) hx hb dX9_wordOf_56 (by decide) ?_
        exact J_13_21 _ (((if_neg c_13).trans ((if_neg c_33).trans (if_pos c_52))).symm) H locs hP hD hS ls (lv_sub hl [0] rfl)
    · refine lv_iconst (v := 1) hx hb dX9_wordOf_36 (by decide) ?_
      refine lv_goto (tgt := 101) hx hb dX9_wordOf_37 (by decide) ?_
      exact J_13_21 _ (((if_neg c_13).trans (if_pos c_33)).symm) H locs hP hD hS ls (lv_sub hl [0] rfl)
  · refine lv_iconst (v := 0) hx hb dX9_wordOf_16 (by decide) ?_
    refine lv_goto (tgt := 101) hx hb dX9_wordOf_17 (by decide) ?_
    exact J_13_21 _ ((if_pos c_13).symm) H locs hP hD hS ls (lv_sub hl [0] rfl)
abbrev rmkX9_advances : Room := { frames := 2, cells := 0, slots := 0, locals := 46 }
set_option maxHeartbeats 4000000 in
set_option maxRecDepth 100000 in
theorem kX9_advances {l : Launch} {D : va_G} {cy : Nat → ClassId} {sa : Nat → Nat} (b0_ : Nat) (th_ : Int32) (tr_ : Int64) (bn_ : Nat) (bt_ : Nat) (bs_ : Nat) (bk_ : Nat) (bp_ : Nat) (bi_ : Nat) (bl_ : Nat) (it_ : Int32) (ub_ : Int32) (db_ : Int32) (bx_ : Nat) (bc_ : Nat) (bf_ : Nat) (n_ : Nat) (tx_ : Nat → Int32) (p9_ : Nat) (tk_ : Int32) (pl_ : Int32) (vl_ : Int32) (fa_ : Int32) (hn : n_ ≤ 200) (htx : ∀ k, k < n_ → ¬ tx_ k < 0) (hp : p9_ ≤ n_) : CT (S := (Int32)) l D cy sa yX9_advances wsX9_advances rmkX9_advances [.ref b0_] [(b0_, .inr (9, [.int th_, .long tr_, .ref bn_, .ref bt_, .ref bs_, .ref bk_, .ref bp_, .ref bi_, .ref bl_, .int it_, .int ub_, .int db_, .ref bx_, .int (nI n_), .int (nI p9_), .int tk_, .int pl_, .int vl_, .int fa_, .ref bc_, .ref bf_])), (bx_, .inl (cy 0, 200, .inl tx_))] (fun v9 vl2 => v9 = none ∧ (tkK tx_ n_ p9_ = 1 ∨ tkK tx_ n_ p9_ = 3 → vl2 = tkV tx_ n_ p9_)) (fun vl2 => [(b0_, .inr (9, [.int th_, .long tr_, .ref bn_, .ref bt_, .ref bs_, .ref bk_, .ref bp_, .ref bi_, .ref bl_, .int it_, .int ub_, .int db_, .ref bx_, .int (nI n_), .int (nI (tkE tx_ n_ p9_)), .int (tkK tx_ n_ p9_), .int (nI (tkb tx_ n_ p9_)), .int vl2, .int fa_, .ref bc_, .ref bf_])), (bx_, .inl (cy 0, 200, .inl tx_))]) 0 0 := by
  refine CT.of cX9_advances 4 none (by decide +kernel) rfl (Nat.le_of_ble_eq_true rfl) ?_
  intro p e s m args below meth c A Q ls F hmn hK hE hA hP hD hS hl RT
  obtain ⟨hx, hb, hml, hown, hts⟩ := id F
  have winX9 : ∀ w ∈ u_ws RX9 TX9 21, w ∈ wsX9_advances := by decide +kernel
  have wf133 := hts (.fieldLink RX9 133 "SelfSteerModel" "next" "I") (by decide +kernel)
  have wf139 := hts (.fieldLink RX9 139 "SelfSteerModel" "place" "I") (by decide +kernel)
  have wf142 := hts (.fieldLink RX9 142 "SelfSteerModel" "token" "I") (by decide +kernel)
  have wf149 := hts (.fieldLink RX9 149 "SelfSteerModel" "value" "I") (by decide +kernel)
  have wl127 := hts (.constantLong RX9 127 (256)) (by decide +kernel)
  have hl : lv_has ls 4 [(0, .ref b0_)] := hl
  have hP : va_P D vwCl [(b0_, .inr (9, [.int th_, .long tr_, .ref bn_, .ref bt_, .ref bs_, .ref bk_, .ref bp_, .ref bi_, .ref bl_, .int it_, .int ub_, .int db_, .ref bx_, .int (nI n_), .int (nI p9_), .int tk_, .int pl_, .int vl_, .int fa_, .ref bc_, .ref bf_])), (bx_, .inl (cy 0, 200, .inl tx_))] s.heap := hP
  have hD : va_D A [(b0_, .inr (9, [.int th_, .long tr_, .ref bn_, .ref bt_, .ref bs_, .ref bk_, .ref bp_, .ref bi_, .ref bl_, .int it_, .int ub_, .int db_, .ref bx_, .int (nI n_), .int (nI p9_), .int tk_, .int pl_, .int vl_, .int fa_, .ref bc_, .ref bf_])), (bx_, .inl (cy 0, 200, .inl tx_))] := hD
  obtain ⟨H, hH⟩ : ∃ H0 : Heap, H0 = s.heap := ⟨_, rfl⟩
  obtain ⟨locs, hlo⟩ : ∃ L0 : List Loc, L0 = [] := ⟨_, rfl⟩
  have hS : va_S A s.heap H locs := by rw [hH, hlo]; exact hS
  rw [← hH] at hP
  show W p l e rmkX9_advances s m args below meth c s.heap [] 0 0 Q (F0 m 0 ls [])
  suffices hgo : W p l e rmkX9_advances s m args below meth c H locs 0 0 Q (F0 m 0 ls []) by rw [hH, hlo] at hgo; exact hgo
  clear hH hlo
  have L_0 : ∀ (nF : Nat) (q_ : Nat), (p9_ ≤ q_) → (q_ ≤ n_) → (sp isS tx_ n_ q_ = tkb tx_ n_ p9_) → n_ - q_ < nF → ∀ (H : Heap) (locs : List Loc), va_P D vwCl [(b0_, .inr (9, [.int th_, .long tr_, .ref bn_, .ref bt_, .ref bs_, .ref bk_, .ref bp_, .ref bi_, .ref bl_, .int it_, .int ub_, .int db_, .ref bx_, .int (nI n_), .int (nI q_), .int tk_, .int pl_, .int vl_, .int fa_, .ref bc_, .ref bf_])), (bx_, .inl (cy 0, 200, .inl tx_))] H → va_D A [(b0_, .inr (9, [.int th_, .long tr_, .ref bn_, .ref bt_, .ref bs_, .ref bk_, .ref bp_, .ref bi_, .ref bl_, .int it_, .int ub_, .int db_, .ref bx_, .int (nI n_), .int (nI q_), .int tk_, .int pl_, .int vl_, .int fa_, .ref bc_, .ref bf_])), (bx_, .inl (cy 0, 200, .inl tx_))] → va_S A s.heap H locs → ∀ (ls : Array Slot), lv_has ls 4 [(0, .ref b0_)] → W p l e rmkX9_advances s m args below meth c H locs 0 0 Q (F0 m 0 ls []) := by
    intro nF
    induction nF with
    | zero => intro q_ hpq hqn hR hnF; exact absurd hnF (Nat.not_lt_zero _)
    | succ nF ih_0 =>
      intro q_ hpq hqn hR hn_0 H locs hP hD hS ls hl
      refine lv_aload_n hx hb dX9_advances_0 rfl (lv_at hl 0 rfl) ?_
      refine lv_aload_n hx hb dX9_advances_1 rfl (lv_at hl 0 rfl) ?_
      refine va_get (D := D) (ci := 9) (v := .int (nI q_)) (C := RX9) (T := TX9) (N := 21) hx hb hts winX9 hown hK hP 0 rfl rfl 14 (by decide) wf133 (fun _ h9 => h9) rfl dX9_advances_2 ?_
      refine ca_V (q0 := 0) (n := 1) (rest := []) (wr := []) F hK hE hA hP hD hS hl.1 (kX9_byteAt (l := l) (D := D) (cy := cy) (sa := sa) b0_ th_ tr_ bn_ bt_ bs_ bk_ bp_ bi_ bl_ it_ ub_ db_ bx_ bc_ bf_ n_ tx_ (nI q_) tk_ pl_ vl_ fa_ q_ (by first | assumption | omega | decide) (by first | assumption | omega | decide)) gX9_advances_X9_byteAt rfl rfl rfl rfl rfl rfl (by decide +kernel) ⟨by decide, by decide⟩ [0, 1] [] rfl rfl rfl rfl (by decide) rfl rfl (Nat.le_of_ble_eq_true rfl) dX9_advances_5 ⟨by decide, by decide⟩ (fun v9 u9 H locs hv hP hD hS => ?_)
      subst hv
      obtain ⟨hP, hD⟩ := re_ws (ws' := [(b0_, .inr (9, [.int th_, .long tr_, .ref bn_, .ref bt_, .ref bs_, .ref bk_, .ref bp_, .ref bi_, .ref bl_, .int it_, .int ub_, .int db_, .ref bx_, .int (nI n_), .int (nI q_), .int tk_, .int pl_, .int vl_, .int fa_, .ref bc_, .ref bf_])), (bx_, .inl (cy 0, 200, .inl tx_))]) hP hD [0, 1] rfl rfl
      refine W.eq (g2 := F0 m 8 ls [.int (byR tx_ n_ q_)]) rfl ?_
      refine lv_bipush (v := 32) hx hb dX9_advances_8 (by decide) ?_
      refine lv_icmp_ne (tgt := 26) hx hb dX9_advances_10 (by decide) (fun c_10 => ?_) (fun c_10 => ?_)
      · have hq9 : tkb tx_ n_ p9_ = q_ := hR.symm.trans (byR_ns c_10)
        refine lv_aload_n hx hb dX9_advances_26 rfl (lv_at hl 0 rfl) ?_
        refine lv_aload_n hx hb dX9_advances_27 rfl (lv_at hl 0 rfl) ?_
        refine va_get (D := D) (ci := 9) (v := .int (nI q_)) (C := RX9) (T := TX9) (N := 21) hx hb hts winX9 hown hK hP 0 rfl rfl 14 (by decide) wf133 (fun _ h9 => h9) rfl dX9_advances_28 ?_
        refine va_put (D := D) (ci := 9) (v := .int (nI q_)) (ty := .int) (C := RX9) (T := TX9) (N := 21) hx hb hts winX9 tyX9 tyX9_ok nmX9 hown hK hP hD hS 0 rfl rfl 16 (by decide) wf139 (fun _ h9 => h9) rfl (by decide +kernel) (rfl) (rfl) (Nat.le_of_ble_eq_true rfl) dX9_advances_31 (fun H locs hP hD hS => ?_)
        have hP : va_P D vwCl [(b0_, .inr (9, [.int th_, .long tr_, .ref bn_, .ref bt_, .ref bs_, .ref bk_, .ref bp_, .ref bi_, .ref bl_, .int it_, .int ub_, .int db_, .ref bx_, .int (nI n_), .int (nI q_), .int tk_, .int (nI q_), .int vl_, .int fa_, .ref bc_, .ref bf_])), (bx_, .inl (cy 0, 200, .inl tx_))] H := hP
        have hD : va_D A [(b0_, .inr (9, [.int th_, .long tr_, .ref bn_, .ref bt_, .ref bs_, .ref bk_, .ref bp_, .ref bi_, .ref bl_, .int it_, .int ub_, .int db_, .ref bx_, .int (nI n_), .int (nI q_), .int tk_, .int (nI q_), .int vl_, .int fa_, .ref bc_, .ref bf_])), (bx_, .inl (cy 0, 200, .inl tx_))] := hD
        refine lv_aload_n hx hb dX9_advances_34 rfl (lv_at hl 0 rfl) ?_
        refine lv_aload_n hx hb dX9_advances_35 rfl (lv_at hl 0 rfl) ?_
        refine va_get (D := D) (ci := 9) (v := .int (nI q_)) (C := RX9) (T := TX9) (N := 21) hx hb hts winX9 hown hK hP 0 rfl rfl 14 (by decide) wf133 (fun _ h9 => h9) rfl dX9_advances_36 ?_
        refine ca_V (q0 := 0) (n := 1) (rest := []) (wr := []) F hK hE hA hP hD hS hl.1 (kX9_byteAt (l := l) (D := D) (cy := cy) (sa := sa) b0_ th_ tr_ bn_ bt_ bs_ bk_ bp_ bi_ bl_ it_ ub_ db_ bx_ bc_ bf_ n_ tx_ (nI q_) tk_ (nI q_) vl_ fa_ q_ (by first | assumption | omega | decide) (by first | assumption | omega | decide)) gX9_advances_X9_byteAt rfl rfl rfl rfl rfl rfl (by decide +kernel) ⟨by decide, by decide⟩ [0, 1] [] rfl rfl rfl rfl (by decide) rfl rfl (Nat.le_of_ble_eq_true rfl) dX9_advances_39 ⟨by decide, by decide⟩ (fun v9 u9 H locs hv hP hD hS => ?_)
        subst hv
        obtain ⟨hP, hD⟩ := re_ws (ws' := [(b0_, .inr (9, [.int th_, .long tr_, .ref bn_, .ref bt_, .ref bs_, .ref bk_, .ref bp_, .ref bi_, .ref bl_, .int it_, .int ub_, .int db_, .ref bx_, .int (nI n_), .int (nI q_), .int tk_, .int (nI q_), .int vl_, .int fa_, .ref bc_, .ref bf_])), (bx_, .inl (cy 0, 200, .inl tx_))]) hP hD [0, 1] rfl rfl
        refine W.eq (g2 := F0 m 42 ls [.int (byR tx_ n_ q_)]) rfl ?_
        refine lv_istore_n (lv' := [(1, .int (byR tx_ n_ q_)), (0, .ref b0_)]) hx hb dX9_advances_42 rfl hl (by decide) rfl (fun ls hl => ?_)
        refine lv_iload_n hx hb dX9_advances_43 rfl (lv_at hl 0 rfl) ?_
        refine lv_if_ge (tgt := 55) hx hb dX9_advances_44 (by decide) (fun c_44 => ?_) (fun c_44 => ?_)
        · refine lv_iload_n hx hb dX9_advances_55 rfl (lv_at hl 0 rfl) ?_
          refine lv_bipush (v := 97) hx hb dX9_advances_56 (by decide) ?_
          refine lv_bipush (v := 122) hx hb dX9_advances_58 (by decide) ?_
          refine ca_S (n := 3) (rest := []) (wr := [(b0_, .inr (9, [.int th_, .long tr_, .ref bn_, .ref bt_, .ref bs_, .ref bk_, .ref bp_, .ref bi_, .ref bl_, .int it_, .int ub_, .int db_, .ref bx_, .int (nI n_), .int (nI q_), .int tk_, .int (nI q_), .int vl_, .int fa_, .ref bc_, .ref bf_])), (bx_, .inl (cy 0, 200, .inl tx_))]) F hK hE hA hP hD hS hl.1 (kX9_in (l := l) (D := D) (cy := cy) (sa := sa) (byR tx_ n_ q_) 97 122) gX9_advances_X9_in rfl rfl rfl (by decide +kernel) ⟨by decide, by decide⟩ [] [0, 1] rfl rfl rfl rfl (by decide) rfl rfl (Nat.le_of_ble_eq_true rfl) dX9_advances_60 ⟨by decide, by decide⟩ (fun v9 u9 H locs hv hP hD hS => ?_)
          subst hv
          have hP : va_P D vwCl [(b0_, .inr (9, [.int th_, .long tr_, .ref bn_, .ref bt_, .ref bs_, .ref bk_, .ref bp_, .ref bi_, .ref bl_, .int it_, .int ub_, .int db_, .ref bx_, .int (nI n_), .int (nI q_), .int tk_, .int (nI q_), .int vl_, .int fa_, .ref bc_, .ref bf_])), (bx_, .inl (cy 0, 200, .inl tx_))] H := hP
          have hD : va_D A [(b0_, .inr (9, [.int th_, .long tr_, .ref bn_, .ref bt_, .ref bs_, .ref bk_, .ref bp_, .ref bi_, .ref bl_, .int it_, .int ub_, .int db_, .ref bx_, .int (nI n_), .int (nI q_), .int tk_, .int (nI q_), .int vl_, .int fa_, .ref bc_, .ref bf_])), (bx_, .inl (cy 0, 200, .inl tx_))] := hD
          refine W.eq (g2 := F0 m 63 ls [.int (bI (inR (byR tx_ n_ q_) 97 122))]) rfl ?_
          refine bz_eq (tgt := 162) hx hb dX9_advances_63 (by decide) (fun c_63 => ?_) (fun c_63 => ?_)
          · refine lv_iload_n hx hb dX9_advances_162 rfl (lv_at hl 0 rfl) ?_
            refine lv_bipush (v := 48) hx hb dX9_advances_163 (by decide) ?_
            refine lv_bipush (v := 57) hx hb dX9_advances_165 (by decide) ?_
            refine ca_S (n := 3) (rest := []) (wr := [(b0_, .inr (9, [.int th_, .long tr_, .ref bn_, .ref bt_, .ref bs_, .ref bk_, .ref bp_, .ref bi_, .ref bl_, .int it_, .int ub_, .int db_, .ref bx_, .int (nI n_), .int (nI q_), .int tk_, .int (nI q_), .int vl_, .int fa_, .ref bc_, .ref bf_])), (bx_, .inl (cy 0, 200, .inl tx_))]) F hK hE hA hP hD hS hl.1 (kX9_in (l := l) (D := D) (cy := cy) (sa := sa) (byR tx_ n_ q_) 48 57) gX9_advances_X9_in rfl rfl rfl (by decide +kernel) ⟨by decide, by decide⟩ [] [0, 1] rfl rfl rfl rfl (by decide) rfl rfl (Nat.le_of_ble_eq_true rfl) dX9_advances_167 ⟨by decide, by decide⟩ (fun v9 u9 H locs hv hP hD hS => ?_)
            subst hv
            have hP : va_P D vwCl [(b0_, .inr (9, [.int th_, .long tr_, .ref bn_, .ref bt_, .ref bs_, .ref bk_, .ref bp_, .ref bi_, .ref bl_, .int it_, .int ub_, .int db_, .ref bx_, .int (nI n_), .int (nI q_), .int tk_, .int (nI q_), .int vl_, .int fa_, .ref bc_, .ref bf_])), (bx_, .inl (cy 0, 200, .inl tx_))] H := hP
            have hD : va_D A [(b0_, .inr (9, [.int th_, .long tr_, .ref bn_, .ref bt_, .ref bs_, .ref bk_, .ref bp_, .ref bi_, .ref bl_, .int it_, .int ub_, .int db_, .ref bx_, .int (nI n_), .int (nI q_), .int tk_, .int (nI q_), .int vl_, .int fa_, .ref bc_, .ref bf_])), (bx_, .inl (cy 0, 200, .inl tx_))] := hD
            refine W.eq (g2 := F0 m 170 ls [.int (bI (inR (byR tx_ n_ q_) 48 57))]) rfl ?_
            refine bz_eq (tgt := 290) hx hb dX9_advances_170 (by decide) (fun c_170 => ?_) (fun c_170 => ?_)
            · refine lv_aload_n hx hb dX9_advances_290 rfl (lv_at hl 1 rfl) ?_
              refine lv_dup hx hb dX9_advances_291 rfl ?_
              refine va_get (D := D) (ci := 9) (v := .int (nI q_)) (C := RX9) (T := TX9) (N := 21) hx hb hts winX9 hown hK hP 0 rfl rfl 14 (by decide) wf133 (fun _ h9 => h9) rfl dX9_advances_292 ?_
              refine lv_iconst (v := 1) hx hb dX9_advances_295 (by decide) ?_
              refine lv_iadd hx hb dX9_advances_296 ?_
              refine lv_eqi (y := nI (q_ + 1)) (nI_add q_ 1) ?_
              refine va_put (D := D) (ci := 9) (v := .int (nI (q_ + 1))) (ty := .int) (C := RX9) (T := TX9) (N := 21) hx hb hts winX9 tyX9 tyX9_ok nmX9 hown hK hP hD hS 0 rfl rfl 14 (by decide) wf133 (fun _ h9 => h9) rfl (by decide +kernel) (rfl) (rfl) (Nat.le_of_ble_eq_true rfl) dX9_advances_297 (fun H locs hP hD hS => ?_)
              have hP : va_P D vwCl [(b0_, .inr (9, [.int th_, .long tr_, .ref bn_, .ref bt_, .ref bs_, .ref bk_, .ref bp_, .ref bi_, .ref bl_, .int it_, .int ub_, .int db_, .ref bx_, .int (nI n_), .int (nI (q_ + 1)), .int tk_, .int (nI q_), .int vl_, .int fa_, .ref bc_, .ref bf_])), (bx_, .inl (cy 0, 200, .inl tx_))] H := hP
              have hD : va_D A [(b0_, .inr (9, [.int th_, .long tr_, .ref bn_, .ref bt_, .ref bs_, .ref bk_, .ref bp_, .ref bi_, .ref bl_, .int it_, .int ub_, .int db_, .ref bx_, .int (nI n_), .int (nI (q_ + 1)), .int tk_, .int (nI q_), .int vl_, .int fa_, .ref bc_, .ref bf_])), (bx_, .inl (cy 0, 200, .inl tx_))] := hD
              refine lv_aload_n hx hb dX9_advances_300 rfl (lv_at hl 1 rfl) ?_
              refine lv_iload_n hx hb dX9_advances_301 rfl (lv_at hl 0 rfl) ?_
              refine lv_bipush (v := 45) hx hb dX9_advances_302 (by decide) ?_
              have J_304_72 : ∀ (z304 : Int32), z304 = (if (byR tx_ n_ q_) = 45 then 2 else (if (byR tx_ n_ q_) = 59 then 4 else 5)) → ∀ (H : Heap) (locs : List Loc), va_P D vwCl [(b0_, .inr (9, [.int th_, .long tr_, .ref bn_, .ref bt_, .ref bs_, .ref bk_, .ref bp_, .ref bi_, .ref bl_, .int it_, .int ub_, .int db_, .ref bx_, .int (nI n_), .int (nI (q_ + 1)), .int tk_, .int (nI q_), .int vl_, .int fa_, .ref bc_, .ref bf_])), (bx_, .inl (cy 0, 200, .inl tx_))] H → va_D A [(b0_, .inr (9, [.int th_, .long tr_, .ref bn_, .ref bt_, .ref bs_, .ref bk_, .ref bp_, .ref bi_, .ref bl_, .int it_, .int ub_, .int db_, .ref bx_, .int (nI n_), .int (nI (q_ + 1)), .int tk_, .int (nI q_), .int vl_, .int fa_, .ref bc_, .ref bf_])), (bx_, .inl (cy 0, 200, .inl tx_))] → va_S A s.heap H locs → ∀ (ls : Array Slot), lv_has ls 4 [(1, .int (byR tx_ n_ q_)), (0, .ref b0_)] → W p l e rmkX9_advances s m args below meth c H locs 0 0 Q (F0 m 322 ls [.int z304, .ref b0_]) := by
                intro z304 ez304 H locs hP hD hS ls hl
                refine va_put (D := D) (ci := 9) (v := .int z304) (ty := .int) (C := RX9) (T := TX9) (N := 21) hx hb hts winX9 tyX9 tyX9_ok nmX9 hown hK hP hD hS 0 rfl rfl 15 (by decide) wf142 (fun _ h9 => h9) rfl (by decide +kernel) (rfl) (rfl) (Nat.le_of_ble_eq_true rfl) dX9_advances_322 (fun H locs hP hD hS => ?_)
                have hP : va_P D vwCl [(b0_, .inr (9, [.int th_, .long tr_, .ref bn_, .ref bt_, .ref bs_, .ref bk_, .ref bp_, .ref bi_, .ref bl_, .int it_, .int ub_, .int db_, .ref bx_, .int (nI n_), .int (nI (q_ + 1)), .int z304, .int (nI q_), .int vl_, .int fa_, .ref bc_, .ref bf_])), (bx_, .inl (cy 0, 200, .inl tx_))] H := hP
                have hD : va_D A [(b0_, .inr (9, [.int th_, .long tr_, .ref bn_, .ref bt_, .ref bs_, .ref bk_, .ref bp_, .ref bi_, .ref bl_, .int it_, .int ub_, .int db_, .ref bx_, .int (nI n_), .int (nI (q_ + 1)), .int z304, .int (nI q_), .int vl_, .int fa_, .ref bc_, .ref bf_])), (bx_, .inl (cy 0, 200, .inl tx_))] := hD
                have h0 := (byR_ge htx).mp c_44
                have hnl : ¬ isL (tx_ q_) = true := fun z => c_63 (by rw [byR_in h0]; exact isL_i.mpr z)
                have hnd : ¬ isD (tx_ q_) = true := fun z => c_170 (by rw [byR_in h0]; exact isD_i.mpr z)
                have h7 := tb_sgn h0 hnl hnd
                obtain ⟨hP, hD⟩ := ob_ws (gs := [.int th_, .long tr_, .ref bn_, .ref bt_, .ref bs_, .ref bk_, .ref bp_, .ref bi_, .ref bl_, .int it_, .int ub_, .int db_, .ref bx_, .int (nI n_), .int (nI (tkE tx_ n_ p9_)), .int (tkK tx_ n_ p9_), .int (nI (tkb tx_ n_ p9_)), .int vl_, .int fa_, .ref bc_, .ref bf_]) hP hD 0 rfl (cons_eq2 (rfl) (cons_eq2 (rfl) (cons_eq2 (rfl) (cons_eq2 (rfl) (cons_eq2 (rfl) (cons_eq2 (rfl) (cons_eq2 (rfl) (cons_eq2 (rfl) (cons_eq2 (rfl) (cons_eq2 (rfl) (cons_eq2 (rfl) (cons_eq2 (rfl) (cons_eq2 (rfl) (cons_eq2 (rfl) (cons_eq2 (congrArg Value.int (show nI (q_ + 1) = nI (tkE tx_ n_ p9_) from by unfold tkE; rw [hq9, h7.2])) (cons_eq2 (congrArg Value.int (show z304 = tkK tx_ n_ p9_ from by unfold tkK; rw [hq9, h7.1, ez304, byR_in h0])) (cons_eq2 (congrArg Value.int (show nI q_ = nI (tkb tx_ n_ p9_) from by rw [hq9])) (rfl))))))))))))))))))
                have hP : va_P D vwCl [(b0_, .inr (9, [.int th_, .long tr_, .ref bn_, .ref bt_, .ref bs_, .ref bk_, .ref bp_, .ref bi_, .ref bl_, .int it_, .int ub_, .int db_, .ref bx_, .int (nI n_), .int (nI (tkE tx_ n_ p9_)), .int (tkK tx_ n_ p9_), .int (nI (tkb tx_ n_ p9_)), .int vl_, .int fa_, .ref bc_, .ref bf_])), (bx_, .inl (cy 0, 200, .inl tx_))] H := hP
                have hD : va_D A [(b0_, .inr (9, [.int th_, .long tr_, .ref bn_, .ref bt_, .ref bs_, .ref bk_, .ref bp_, .ref bi_, .ref bl_, .int it_, .int ub_, .int db_, .ref bx_, .int (nI n_), .int (nI (tkE tx_ n_ p9_)), .int (tkK tx_ n_ p9_), .int (nI (tkb tx_ n_ p9_)), .int vl_, .int fa_, .ref bc_, .ref bf_])), (bx_, .inl (cy 0, 200, .inl tx_))] := hD
                exact RT _ _ (vl_) H locs 325 ls (rt_v dX9_advances_325) ⟨rfl, (by unfold tkK; rw [hq9, h7.1]; exact fun z => (sgn_13 z).elim)⟩ hP hD hS
              refine lv_icmp_ne (tgt := 311) hx hb dX9_advances_304 (by decide) (fun c_304 => ?_) (fun c_304 => ?_)
              · refine lv_iload_n hx hb dX9_advances_311 rfl (lv_at hl 0 rfl) ?_
                refine lv_bipush (v := 59) hx hb dX9_advances_312 (by decide) ?_
                refine lv_icmp_ne (tgt := 321) hx hb dX9_advances_314 (by decide) (fun c_314 => ?_) (fun c_314 => ?_)
                · refine lv_iconst (v := 5) hx hb dX9_advances_321 (by decide) ?_
                  exact J_304_72 _ (((if_neg c_304).trans (if_neg c_314)).symm) H locs hP hD hS ls (lv_sub hl [0, 1] rfl)
                · refine lv_iconst (v := 4) hx hb dX9_advances_317 (by decide) ?_
                  refine lv_goto (tgt := 322) hx hb dX9_advances_318 (by decide) ?_
                  exact J_304_72 _ (((if_neg c_304).trans (if_pos c_314)).symm) H locs hP hD hS ls (lv_sub hl [0, 1] rfl)
              · refine lv_iconst (v := 2) hx hb dX9_advances_307 (by decide) ?_
                refine lv_goto (tgt := 322) hx hb dX9_advances_308 (by decide) ?_
                exact J_304_72 _ ((if_pos c_304).symm) H locs hP hD hS ls (lv_sub hl [0, 1] rfl)
            · refine lv_aload_n hx hb dX9_advances_173 rfl (lv_at hl 1 rfl) ?_
              refine lv_iconst (v := 0) hx hb dX9_advances_174 (by decide) ?_
              refine va_put (D := D) (ci := 9) (v := .int 0) (ty := .int) (C := RX9) (T := TX9) (N := 21) hx hb hts winX9 tyX9 tyX9_ok nmX9 hown hK hP hD hS 0 rfl rfl 17 (by decide) wf149 (fun _ h9 => h9) rfl (by decide +kernel) (rfl) (rfl) (Nat.le_of_ble_eq_true rfl) dX9_advances_175 (fun H locs hP hD hS => ?_)
              have hP : va_P D vwCl [(b0_, .inr (9, [.int th_, .long tr_, .ref bn_, .ref bt_, .ref bs_, .ref bk_, .ref bp_, .ref bi_, .ref bl_, .int it_, .int ub_, .int db_, .ref bx_, .int (nI n_), .int (nI q_), .int tk_, .int (nI q_), .int 0, .int fa_, .ref bc_, .ref bf_])), (bx_, .inl (cy 0, 200, .inl tx_))] H := hP
              have hD : va_D A [(b0_, .inr (9, [.int th_, .long tr_, .ref bn_, .ref bt_, .ref bs_, .ref bk_, .ref bp_, .ref bi_, .ref bl_, .int it_, .int ub_, .int db_, .ref bx_, .int (nI n_), .int (nI q_), .int tk_, .int (nI q_), .int 0, .int fa_, .ref bc_, .ref bf_])), (bx_, .inl (cy 0, 200, .inl tx_))] := hD
              have L_178 : ∀ (nF : Nat) (j_ : Nat), (q_ + j_ ≤ n_) → (sp isD tx_ n_ (q_ + j_) = sp isD tx_ n_ q_) → n_ - (q_ + j_) < nF → ∀ (H : Heap) (locs : List Loc), va_P D vwCl [(b0_, .inr (9, [.int th_, .long tr_, .ref bn_, .ref bt_, .ref bs_, .ref bk_, .ref bp_, .ref bi_, .ref bl_, .int it_, .int ub_, .int db_, .ref bx_, .int (nI n_), .int (nI (q_ + j_)), .int tk_, .int (nI q_), .int (amR tx_ q_ j_), .int fa_, .ref bc_, .ref bf_])), (bx_, .inl (cy 0, 200, .inl tx_))] H → va_D A [(b0_, .inr (9, [.int th_, .long tr_, .ref bn_, .ref bt_, .ref bs_, .ref bk_, .ref bp_, .ref bi_, .ref bl_, .int it_, .int ub_, .int db_, .ref bx_, .int (nI n_), .int (nI (q_ + j_)), .int tk_, .int (nI q_), .int (amR tx_ q_ j_), .int fa_, .ref bc_, .ref bf_])), (bx_, .inl (cy 0, 200, .inl tx_))] → va_S A s.heap H locs → ∀ (ls : Array Slot), lv_has ls 4 [(1, .int (byR tx_ n_ q_)), (0, .ref b0_)] → W p l e rmkX9_advances s m args below meth c H locs 0 0 Q (F0 m 178 ls []) := by
                intro nF
                induction nF with
                | zero => intro j_ hjn hRj hnF; exact absurd hnF (Nat.not_lt_zero _)
                | succ nF ih_178 =>
                  intro j_ hjn hRj hn_178 H locs hP hD hS ls hl
                  refine lv_aload_n hx hb dX9_advances_178 rfl (lv_at hl 1 rfl) ?_
                  refine lv_aload_n hx hb dX9_advances_179 rfl (lv_at hl 1 rfl) ?_
                  refine va_get (D := D) (ci := 9) (v := .int (nI (q_ + j_))) (C := RX9) (T := TX9) (N := 21) hx hb hts winX9 hown hK hP 0 rfl rfl 14 (by decide) wf133 (fun _ h9 => h9) rfl dX9_advances_180 ?_
                  refine ca_V (q0 := 0) (n := 1) (rest := []) (wr := []) F hK hE hA hP hD hS hl.1 (kX9_byteAt (l := l) (D := D) (cy := cy) (sa := sa) b0_ th_ tr_ bn_ bt_ bs_ bk_ bp_ bi_ bl_ it_ ub_ db_ bx_ bc_ bf_ n_ tx_ (nI (q_ + j_)) tk_ (nI q_) (amR tx_ q_ j_) fa_ (q_ + j_) (by first | assumption | omega | decide) (by first | assumption | omega | decide)) gX9_advances_X9_byteAt rfl rfl rfl rfl rfl rfl (by decide +kernel) ⟨by decide, by decide⟩ [0, 1] [] rfl rfl rfl rfl (by decide) rfl rfl (Nat.le_of_ble_eq_true rfl) dX9_advances_183 ⟨by decide, by decide⟩ (fun v9 u9 H locs hv hP hD hS => ?_)
                  subst hv
                  obtain ⟨hP, hD⟩ := re_ws (ws' := [(b0_, .inr (9, [.int th_, .long tr_, .ref bn_, .ref bt_, .ref bs_, .ref bk_, .ref bp_, .ref bi_, .ref bl_, .int it_, .int ub_, .int db_, .ref bx_, .int (nI n_), .int (nI (q_ + j_)), .int tk_, .int (nI q_), .int (amR tx_ q_ j_), .int fa_, .ref bc_, .ref bf_])), (bx_, .inl (cy 0, 200, .inl tx_))]) hP hD [0, 1] rfl rfl
                  refine W.eq (g2 := F0 m 186 ls [.int (byR tx_ n_ (q_ + j_))]) rfl ?_
                  refine lv_bipush (v := 48) hx hb dX9_advances_186 (by decide) ?_
                  refine lv_bipush (v := 57) hx hb dX9_advances_188 (by decide) ?_
                  refine ca_S (n := 3) (rest := []) (wr := [(b0_, .inr (9, [.int th_, .long tr_, .ref bn_, .ref bt_, .ref bs_, .ref bk_, .ref bp_, .ref bi_, .ref bl_, .int it_, .int ub_, .int db_, .ref bx_, .int (nI n_), .int (nI (q_ + j_)), .int tk_, .int (nI q_), .int (amR tx_ q_ j_), .int fa_, .ref bc_, .ref bf_])), (bx_, .inl (cy 0, 200, .inl tx_))]) F hK hE hA hP hD hS hl.1 (kX9_in (l := l) (D := D) (cy := cy) (sa := sa) (byR tx_ n_ (q_ + j_)) 48 57) gX9_advances_X9_in rfl rfl rfl (by decide +kernel) ⟨by decide, by decide⟩ [] [0, 1] rfl rfl rfl rfl (by decide) rfl rfl (Nat.le_of_ble_eq_true rfl) dX9_advances_190 ⟨by decide, by decide⟩ (fun v9 u9 H locs hv hP hD hS => ?_)
                  subst hv
                  have hP : va_P D vwCl [(b0_, .inr (9, [.int th_, .long tr_, .ref bn_, .ref bt_, .ref bs_, .ref bk_, .ref bp_, .ref bi_, .ref bl_, .int it_, .int ub_, .int db_, .ref bx_, .int (nI n_), .int (nI (q_ + j_)), .int tk_, .int (nI q_), .int (amR tx_ q_ j_), .int fa_, .ref bc_, .ref bf_])), (bx_, .inl (cy 0, 200, .inl tx_))] H := hP
                  have hD : va_D A [(b0_, .inr (9, [.int th_, .long tr_, .ref bn_, .ref bt_, .ref bs_, .ref bk_, .ref bp_, .ref bi_, .ref bl_, .int it_, .int ub_, .int db_, .ref bx_, .int (nI n_), .int (nI (q_ + j_)), .int tk_, .int (nI q_), .int (amR tx_ q_ j_), .int fa_, .ref bc_, .ref bf_])), (bx_, .inl (cy 0, 200, .inl tx_))] := hD
                  refine W.eq (g2 := F0 m 193 ls [.int (bI (inR (byR tx_ n_ (q_ + j_)) 48 57))]) rfl ?_
                  refine bz_eq (tgt := 249) hx hb dX9_advances_193 (by decide) (fun c_193 => ?_) (fun c_193 => ?_)
                  · have hj9 : q_ + j_ = sp isD tx_ n_ q_ := (byR_nd c_193).symm.trans hRj
                    refine lv_aload_n hx hb dX9_advances_249 rfl (lv_at hl 1 rfl) ?_
                    refine lv_aload_n hx hb dX9_advances_250 rfl (lv_at hl 1 rfl) ?_
                    refine va_get (D := D) (ci := 9) (v := .int (amR tx_ q_ j_)) (C := RX9) (T := TX9) (N := 21) hx hb hts winX9 hown hK hP 0 rfl rfl 17 (by decide) wf149 (fun _ h9 => h9) rfl dX9_advances_251 ?_
                    refine lv_sipush (v := 999) hx hb dX9_advances_254 (by decide) ?_
                    have J_257_128 : ∀ (z257 : Int32), z257 = (if 999 < (amR tx_ q_ j_) then 5 else (if (byR tx_ n_ q_) = 48 then (if j_ ≤ 1 then 3 else 5) else 3)) → ∀ (H : Heap) (locs : List Loc), va_P D vwCl [(b0_, .inr (9, [.int th_, .long tr_, .ref bn_, .ref bt_, .ref bs_, .ref bk_, .ref bp_, .ref bi_, .ref bl_, .int it_, .int ub_, .int db_, .ref bx_, .int (nI n_), .int (nI (q_ + j_)), .int tk_, .int (nI q_), .int (amR tx_ q_ j_), .int fa_, .ref bc_, .ref bf_])), (bx_, .inl (cy 0, 200, .inl tx_))] H → va_D A [(b0_, .inr (9, [.int th_, .long tr_, .ref bn_, .ref bt_, .ref bs_, .ref bk_, .ref bp_, .ref bi_, .ref bl_, .int it_, .int ub_, .int db_, .ref bx_, .int (nI n_), .int (nI (q_ + j_)), .int tk_, .int (nI q_), .int (amR tx_ q_ j_), .int fa_, .ref bc_, .ref bf_])), (bx_, .inl (cy 0, 200, .inl tx_))] → va_S A s.heap H locs → ∀ (ls : Array Slot), lv_has ls 4 [(1, .int (byR tx_ n_ q_)), (0, .ref b0_)] → W p l e rmkX9_advances s m args below meth c H locs 0 0 Q (F0 m 284 ls [.int z257, .ref b0_]) := by
                      intro z257 ez257 H locs hP hD hS ls hl
                      refine va_put (D := D) (ci := 9) (v := .int z257) (ty := .int) (C := RX9) (T := TX9) (N := 21) hx hb hts winX9 tyX9 tyX9_ok nmX9 hown hK hP hD hS 0 rfl rfl 15 (by decide) wf142 (fun _ h9 => h9) rfl (by decide +kernel) (rfl) (rfl) (Nat.le_of_ble_eq_true rfl) dX9_advances_284 (fun H locs hP hD hS => ?_)
                      have hP : va_P D vwCl [(b0_, .inr (9, [.int th_, .long tr_, .ref bn_, .ref bt_, .ref bs_, .ref bk_, .ref bp_, .ref bi_, .ref bl_, .int it_, .int ub_, .int db_, .ref bx_, .int (nI n_), .int (nI (q_ + j_)), .int z257, .int (nI q_), .int (amR tx_ q_ j_), .int fa_, .ref bc_, .ref bf_])), (bx_, .inl (cy 0, 200, .inl tx_))] H := hP
                      have hD : va_D A [(b0_, .inr (9, [.int th_, .long tr_, .ref bn_, .ref bt_, .ref bs_, .ref bk_, .ref bp_, .ref bi_, .ref bl_, .int it_, .int ub_, .int db_, .ref bx_, .int (nI n_), .int (nI (q_ + j_)), .int z257, .int (nI q_), .int (amR tx_ q_ j_), .int fa_, .ref bc_, .ref bf_])), (bx_, .inl (cy 0, 200, .inl tx_))] := hD
                      refine lv_goto (tgt := 325) hx hb dX9_advances_287 (by decide) ?_
                      have h0 := byR_d c_170
                      have hnl : ¬ isL (tx_ q_) = true := fun z => c_63 (by rw [byR_in h0.1]; exact isL_i.mpr z)
                      have h7 := tb_dig h0.1 hnl h0.2
                      have h8 := adv_d (tx := tx_) (n := n_) (b := q_)
                      obtain ⟨hP, hD⟩ := ob_ws (gs := [.int th_, .long tr_, .ref bn_, .ref bt_, .ref bs_, .ref bk_, .ref bp_, .ref bi_, .ref bl_, .int it_, .int ub_, .int db_, .ref bx_, .int (nI n_), .int (nI (tkE tx_ n_ p9_)), .int (tkK tx_ n_ p9_), .int (nI (tkb tx_ n_ p9_)), .int (amR tx_ q_ j_), .int fa_, .ref bc_, .ref bf_]) hP hD 0 rfl (cons_eq2 (rfl) (cons_eq2 (rfl) (cons_eq2 (rfl) (cons_eq2 (rfl) (cons_eq2 (rfl) (cons_eq2 (rfl) (cons_eq2 (rfl) (cons_eq2 (rfl) (cons_eq2 (rfl) (cons_eq2 (rfl) (cons_eq2 (rfl) (cons_eq2 (rfl) (cons_eq2 (rfl) (cons_eq2 (rfl) (cons_eq2 (congrArg Value.int (show nI (q_ + j_) = nI (tkE tx_ n_ p9_) from by unfold tkE; rw [hq9, h7.2.1, ← hj9])) (cons_eq2 (congrArg Value.int (show z257 = tkK tx_ n_ p9_ from by unfold tkK; rw [hq9, h7.1, h8.1, ← hj9, Nat.add_sub_cancel_left, ez257, byR_in h0.1])) (cons_eq2 (congrArg Value.int (show nI q_ = nI (tkb tx_ n_ p9_) from by rw [hq9])) (rfl))))))))))))))))))
                      have hP : va_P D vwCl [(b0_, .inr (9, [.int th_, .long tr_, .ref bn_, .ref bt_, .ref bs_, .ref bk_, .ref bp_, .ref bi_, .ref bl_, .int it_, .int ub_, .int db_, .ref bx_, .int (nI n_), .int (nI (tkE tx_ n_ p9_)), .int (tkK tx_ n_ p9_), .int (nI (tkb tx_ n_ p9_)), .int (amR tx_ q_ j_), .int fa_, .ref bc_, .ref bf_])), (bx_, .inl (cy 0, 200, .inl tx_))] H := hP
                      have hD : va_D A [(b0_, .inr (9, [.int th_, .long tr_, .ref bn_, .ref bt_, .ref bs_, .ref bk_, .ref bp_, .ref bi_, .ref bl_, .int it_, .int ub_, .int db_, .ref bx_, .int (nI n_), .int (nI (tkE tx_ n_ p9_)), .int (tkK tx_ n_ p9_), .int (nI (tkb tx_ n_ p9_)), .int (amR tx_ q_ j_), .int fa_, .ref bc_, .ref bf_])), (bx_, .inl (cy 0, 200, .inl tx_))] := hD
                      exact RT _ _ (amR tx_ q_ j_) H locs 325 ls (rt_v dX9_advances_325) ⟨rfl, (by unfold tkK tkV; rw [hq9, h7.1, h7.2.2]; intro z; have z1 : amT tx_ q_ (sp isD tx_ n_ q_ - q_) = 3 := z.resolve_left (fun y => by rw [h8.1] at y; split at y; exact absurd y (by decide); split at y; split at y <;> exact absurd y (by decide); exact absurd y (by decide)); have h9 := h8.2 z1; rw [← hj9, Nat.add_sub_cancel_left] at h9; rw [← hj9, Nat.add_sub_cancel_left]; exact h9)⟩ hP hD hS
                    refine lv_icmp_gt (tgt := 279) hx hb dX9_advances_257 (by decide) (fun c_257 => ?_) (fun c_257 => ?_)
                    · refine lv_iconst (v := 5) hx hb dX9_advances_279 (by decide) ?_
                      refine lv_goto (tgt := 284) hx hb dX9_advances_280 (by decide) ?_
                      exact J_257_128 _ ((if_pos c_257).symm) H locs hP hD hS ls (lv_sub hl [0, 1] rfl)
                    · refine lv_iload_n hx hb dX9_advances_260 rfl (lv_at hl 0 rfl) ?_
                      refine lv_bipush (v := 48) hx hb dX9_advances_261 (by decide) ?_
                      refine lv_icmp_ne (tgt := 283) hx hb dX9_advances_263 (by decide) (fun c_263 => ?_) (fun c_263 => ?_)
                      · refine lv_iconst (v := 3) hx hb dX9_advances_283 (by decide) ?_
                        exact J_257_128 _ (((if_neg c_257).trans (if_neg c_263)).symm) H locs hP hD hS ls (lv_sub hl [0, 1] rfl)
                      · refine lv_aload_n hx hb dX9_advances_266 rfl (lv_at hl 1 rfl) ?_
                        refine va_get (D := D) (ci := 9) (v := .int (nI (q_ + j_))) (C := RX9) (T := TX9) (N := 21) hx hb hts winX9 hown hK hP 0 rfl rfl 14 (by decide) wf133 (fun _ h9 => h9) rfl dX9_advances_267 ?_
                        refine lv_aload_n hx hb dX9_advances_270 rfl (lv_at hl 1 rfl) ?_
                        refine va_get (D := D) (ci := 9) (v := .int (nI q_)) (C := RX9) (T := TX9) (N := 21) hx hb hts winX9 hown hK hP 0 rfl rfl 16 (by decide) wf139 (fun _ h9 => h9) rfl dX9_advances_271 ?_
                        refine lv_isub hx hb dX9_advances_274 ?_
                        refine lv_eqi (y := nI j_) ((pk_sub (by omega)).trans (by rw [Nat.add_sub_cancel_left])) ?_
                        refine lv_iconst (v := 1) hx hb dX9_advances_275 (by decide) ?_
                        refine cn_le (tgt := 283) hx hb j_ 1 rfl rfl (by omega) (by omega) dX9_advances_276 (by decide) (fun c_276 => ?_) (fun c_276 => ?_)
                        · refine lv_iconst (v := 3) hx hb dX9_advances_283 (by decide) ?_
                          exact J_257_128 _ (((if_neg c_257).trans ((if_pos c_263).trans (if_pos c_276))).symm) H locs hP hD hS ls (lv_sub hl [0, 1] rfl)
                        · refine lv_iconst (v := 5) hx hb dX9_advances_279 (by decide) ?_
                          refine lv_goto (tgt := 284) hx hb dX9_advances_280 (by decide) ?_
                          exact J_257_128 _ (((if_neg c_257).trans ((if_pos c_263).trans (if_neg c_276))).symm) H locs hP hD hS ls (lv_sub hl [0, 1] rfl)
                  · refine lv_aload_n hx hb dX9_advances_196 rfl (lv_at hl 1 rfl) ?_
                    refine lv_aload_n hx hb dX9_advances_197 rfl (lv_at hl 1 rfl) ?_
                    refine va_get (D := D) (ci := 9) (v := .int (amR tx_ q_ j_)) (C := RX9) (T := TX9) (N := 21) hx hb hts winX9 hown hK hP 0 rfl rfl 17 (by decide) wf149 (fun _ h9 => h9) rfl dX9_advances_198 ?_
                    refine lv_sipush (v := 999) hx hb dX9_advances_201 (by decide) ?_
                    have J_204_168 : ∀ (z204 : Int32), z204 = (if (amR tx_ q_ j_) ≤ 999 then (((10 * (amR tx_ q_ j_)) + (byR tx_ n_ (q_ + j_))) - 48) else (amR tx_ q_ j_)) → ∀ (H : Heap) (locs : List Loc), va_P D vwCl [(b0_, .inr (9, [.int th_, .long tr_, .ref bn_, .ref bt_, .ref bs_, .ref bk_, .ref bp_, .ref bi_, .ref bl_, .int it_, .int ub_, .int db_, .ref bx_, .int (nI n_), .int (nI (q_ + j_)), .int tk_, .int (nI q_), .int (amR tx_ q_ j_), .int fa_, .ref bc_, .ref bf_])), (bx_, .inl (cy 0, 200, .inl tx_))] H → va_D A [(b0_, .inr (9, [.int th_, .long tr_, .ref bn_, .ref bt_, .ref bs_, .ref bk_, .ref bp_, .ref bi_, .ref bl_, .int it_, .int ub_, .int db_, .ref bx_, .int (nI n_), .int (nI (q_ + j_)), .int tk_, .int (nI q_), .int (amR tx_ q_ j_), .int fa_, .ref bc_, .ref bf_])), (bx_, .inl (cy 0, 200, .inl tx_))] → va_S A s.heap H locs → ∀ (ls : Array Slot), lv_has ls 4 [(1, .int (byR tx_ n_ q_)), (0, .ref b0_)] → W p l e rmkX9_advances s m args below meth c H locs 0 0 Q (F0 m 233 ls [.int z204, .ref b0_]) := by
                      intro z204 ez204 H locs hP hD hS ls hl
                      refine va_put (D := D) (ci := 9) (v := .int z204) (ty := .int) (C := RX9) (T := TX9) (N := 21) hx hb hts winX9 tyX9 tyX9_ok nmX9 hown hK hP hD hS 0 rfl rfl 17 (by decide) wf149 (fun _ h9 => h9) rfl (by decide +kernel) (rfl) (rfl) (Nat.le_of_ble_eq_true rfl) dX9_advances_233 (fun H locs hP hD hS => ?_)
                      have hP : va_P D vwCl [(b0_, .inr (9, [.int th_, .long tr_, .ref bn_, .ref bt_, .ref bs_, .ref bk_, .ref bp_, .ref bi_, .ref bl_, .int it_, .int ub_, .int db_, .ref bx_, .int (nI n_), .int (nI (q_ + j_)), .int tk_, .int (nI q_), .int z204, .int fa_, .ref bc_, .ref bf_])), (bx_, .inl (cy 0, 200, .inl tx_))] H := hP
                      have hD : va_D A [(b0_, .inr (9, [.int th_, .long tr_, .ref bn_, .ref bt_, .ref bs_, .ref bk_, .ref bp_, .ref bi_, .ref bl_, .int it_, .int ub_, .int db_, .ref bx_, .int (nI n_), .int (nI (q_ + j_)), .int tk_, .int (nI q_), .int z204, .int fa_, .ref bc_, .ref bf_])), (bx_, .inl (cy 0, 200, .inl tx_))] := hD
                      refine lv_aload_n hx hb dX9_advances_236 rfl (lv_at hl 1 rfl) ?_
                      refine lv_dup hx hb dX9_advances_237 rfl ?_
                      refine va_get (D := D) (ci := 9) (v := .int (nI (q_ + j_))) (C := RX9) (T := TX9) (N := 21) hx hb hts winX9 hown hK hP 0 rfl rfl 14 (by decide) wf133 (fun _ h9 => h9) rfl dX9_advances_238 ?_
                      refine lv_iconst (v := 1) hx hb dX9_advances_241 (by decide) ?_
                      refine lv_iadd hx hb dX9_advances_242 ?_
                      refine lv_eqi (y := nI ((q_ + j_) + 1)) (nI_add (q_ + j_) 1) ?_
                      refine va_put (D := D) (ci := 9) (v := .int (nI ((q_ + j_) + 1))) (ty := .int) (C := RX9) (T := TX9) (N := 21) hx hb hts winX9 tyX9 tyX9_ok nmX9 hown hK hP hD hS 0 rfl rfl 14 (by decide) wf133 (fun _ h9 => h9) rfl (by decide +kernel) (rfl) (rfl) (Nat.le_of_ble_eq_true rfl) dX9_advances_243 (fun H locs hP hD hS => ?_)
                      have hP : va_P D vwCl [(b0_, .inr (9, [.int th_, .long tr_, .ref bn_, .ref bt_, .ref bs_, .ref bk_, .ref bp_, .ref bi_, .ref bl_, .int it_, .int ub_, .int db_, .ref bx_, .int (nI n_), .int (nI ((q_ + j_) + 1)), .int tk_, .int (nI q_), .int z204, .int fa_, .ref bc_, .ref bf_])), (bx_, .inl (cy 0, 200, .inl tx_))] H := hP
                      have hD : va_D A [(b0_, .inr (9, [.int th_, .long tr_, .ref bn_, .ref bt_, .ref bs_, .ref bk_, .ref bp_, .ref bi_, .ref bl_, .int it_, .int ub_, .int db_, .ref bx_, .int (nI n_), .int (nI ((q_ + j_) + 1)), .int tk_, .int (nI q_), .int z204, .int fa_, .ref bc_, .ref bf_])), (bx_, .inl (cy 0, 200, .inl tx_))] := hD
                      refine lv_goto (tgt := 178) hx hb dX9_advances_246 (by decide) ?_
                      obtain ⟨hP, hD⟩ := ob_ws (gs := [.int th_, .long tr_, .ref bn_, .ref bt_, .ref bs_, .ref bk_, .ref bp_, .ref bi_, .ref bl_, .int it_, .int ub_, .int db_, .ref bx_, .int (nI n_), .int (nI (q_ + (j_ + 1))), .int tk_, .int (nI q_), .int (amR tx_ q_ (j_ + 1)), .int fa_, .ref bc_, .ref bf_]) hP hD 0 rfl (cons_eq2 (rfl) (cons_eq2 (rfl) (cons_eq2 (rfl) (cons_eq2 (rfl) (cons_eq2 (rfl) (cons_eq2 (rfl) (cons_eq2 (rfl) (cons_eq2 (rfl) (cons_eq2 (rfl) (cons_eq2 (rfl) (cons_eq2 (rfl) (cons_eq2 (rfl) (cons_eq2 (rfl) (cons_eq2 (rfl) (cons_eq2 (rfl) (cons_eq2 (rfl) (cons_eq2 (rfl) (cons_eq2 (congrArg Value.int (show z204 = amR tx_ q_ (j_ + 1) from by rw [ez204, byR_in (byR_d c_193).1]; rfl)) (rfl)))))))))))))))))))
                      have hP : va_P D vwCl [(b0_, .inr (9, [.int th_, .long tr_, .ref bn_, .ref bt_, .ref bs_, .ref bk_, .ref bp_, .ref bi_, .ref bl_, .int it_, .int ub_, .int db_, .ref bx_, .int (nI n_), .int (nI (q_ + (j_ + 1))), .int tk_, .int (nI q_), .int (amR tx_ q_ (j_ + 1)), .int fa_, .ref bc_, .ref bf_])), (bx_, .inl (cy 0, 200, .inl tx_))] H := hP
                      have hD : va_D A [(b0_, .inr (9, [.int th_, .long tr_, .ref bn_, .ref bt_, .ref bs_, .ref bk_, .ref bp_, .ref bi_, .ref bl_, .int it_, .int ub_, .int db_, .ref bx_, .int (nI n_), .int (nI (q_ + (j_ + 1))), .int tk_, .int (nI q_), .int (amR tx_ q_ (j_ + 1)), .int fa_, .ref bc_, .ref bf_])), (bx_, .inl (cy 0, 200, .inl tx_))] := hD
                      exact ih_178 (j_ + 1) ((byR_d c_193).1) ((sp_t (byR_d c_193).1 (byR_d c_193).2).symm.trans hRj) (by have := (byR_d c_193).1; omega) H locs hP hD hS ls (lv_sub hl [0, 1] rfl)
                    refine lv_icmp_le (tgt := 214) hx hb dX9_advances_204 (by decide) (fun c_204 => ?_) (fun c_204 => ?_)
                    · refine lv_bipush (v := 10) hx hb dX9_advances_214 (by decide) ?_
                      refine lv_aload_n hx hb dX9_advances_216 rfl (lv_at hl 1 rfl) ?_
                      refine va_get (D := D) (ci := 9) (v := .int (amR tx_ q_ j_)) (C := RX9) (T := TX9) (N := 21) hx hb hts winX9 hown hK hP 0 rfl rfl 17 (by decide) wf149 (fun _ h9 => h9) rfl dX9_advances_217 ?_
                      refine lv_imul hx hb dX9_advances_220 ?_
                      refine lv_aload_n hx hb dX9_advances_221 rfl (lv_at hl 1 rfl) ?_
                      refine lv_aload_n hx hb dX9_advances_222 rfl (lv_at hl 1 rfl) ?_
                      refine va_get (D := D) (ci := 9) (v := .int (nI (q_ + j_))) (C := RX9) (T := TX9) (N := 21) hx hb hts winX9 hown hK hP 0 rfl rfl 14 (by decide) wf133 (fun _ h9 => h9) rfl dX9_advances_223 ?_
                      refine ca_V (q0 := 0) (n := 1) (rest := [.int (10 * (amR tx_ q_ j_)), .ref b0_]) (wr := []) F hK hE hA hP hD hS hl.1 (kX9_byteAt (l := l) (D := D) (cy := cy) (sa := sa) b0_ th_ tr_ bn_ bt_ bs_ bk_ bp_ bi_ bl_ it_ ub_ db_ bx_ bc_ bf_ n_ tx_ (nI (q_ + j_)) tk_ (nI q_) (amR tx_ q_ j_) fa_ (q_ + j_) (by first | assumption | omega | decide) (by first | assumption | omega | decide)) gX9_advances_X9_byteAt rfl rfl rfl rfl rfl rfl (by decide +kernel) ⟨by decide, by decide⟩ [0, 1] [] rfl rfl rfl rfl (by decide) rfl rfl (Nat.le_of_ble_eq_true rfl) dX9_advances_226 ⟨by decide, by decide⟩ (fun v9 u9 H locs hv hP hD hS => ?_)
                      subst hv
                      obtain ⟨hP, hD⟩ := re_ws (ws' := [(b0_, .inr (9, [.int th_, .long tr_, .ref bn_, .ref bt_, .ref bs_, .ref bk_, .ref bp_, .ref bi_, .ref bl_, .int it_, .int ub_, .int db_, .ref bx_, .int (nI n_), .int (nI (q_ + j_)), .int tk_, .int (nI q_), .int (amR tx_ q_ j_), .int fa_, .ref bc_, .ref bf_])), (bx_, .inl (cy 0, 200, .inl tx_))]) hP hD [0, 1] rfl rfl
                      refine W.eq (g2 := F0 m 229 ls [.int (byR tx_ n_ (q_ + j_)), .int (10 * (amR tx_ q_ j_)), .ref b0_]) rfl ?_
                      refine lv_iadd hx hb dX9_advances_229 ?_
                      refine lv_bipush (v := 48) hx hb dX9_advances_230 (by decide) ?_
                      refine lv_isub hx hb dX9_advances_232 ?_
                      exact J_204_168 _ ((if_pos c_204).symm) H locs hP hD hS ls (lv_sub hl [0, 1] rfl)
                    · refine lv_aload_n hx hb dX9_advances_207 rfl (lv_at hl 1 rfl) ?_
                      refine va_get (D := D) (ci := 9) (v := .int (amR tx_ q_ j_)) (C := RX9) (T := TX9) (N := 21) hx hb hts winX9 hown hK hP 0 rfl rfl 17 (by decide) wf149 (fun _ h9 => h9) rfl dX9_advances_208 ?_
                      refine lv_goto (tgt := 233) hx hb dX9_advances_211 (by decide) ?_
                      exact J_204_168 _ ((if_neg c_204).symm) H locs hP hD hS ls (lv_sub hl [0, 1] rfl)
              skip
              skip
              exact L_178 _ 0 (by omega) (rfl) (Nat.lt_succ_self _) H locs hP hD hS ls (lv_sub hl [0, 1] rfl)
          · refine lv_lconst (v := 0) hx hb dX9_advances_66 (by decide) ?_
            refine lv_lstore_n (lv' := [(2, .long 0), (1, .int (byR tx_ n_ q_)), (0, .ref b0_)]) hx hb dX9_advances_67 rfl hl (by decide) rfl (fun ls hl => ?_)
            have L_68 : ∀ (nF : Nat) (j_ : Nat), (q_ + j_ ≤ n_) → (sp isL tx_ n_ (q_ + j_) = sp isL tx_ n_ q_) → n_ - (q_ + j_) < nF → ∀ (H : Heap) (locs : List Loc), va_P D vwCl [(b0_, .inr (9, [.int th_, .long tr_, .ref bn_, .ref bt_, .ref bs_, .ref bk_, .ref bp_, .ref bi_, .ref bl_, .int it_, .int ub_, .int db_, .ref bx_, .int (nI n_), .int (nI (q_ + j_)), .int tk_, .int (nI q_), .int vl_, .int fa_, .ref bc_, .ref bf_])), (bx_, .inl (cy 0, 200, .inl tx_))] H → va_D A [(b0_, .inr (9, [.int th_, .long tr_, .ref bn_, .ref bt_, .ref bs_, .ref bk_, .ref bp_, .ref bi_, .ref bl_, .int it_, .int ub_, .int db_, .ref bx_, .int (nI n_), .int (nI (q_ + j_)), .int tk_, .int (nI q_), .int vl_, .int fa_, .ref bc_, .ref bf_])), (bx_, .inl (cy 0, 200, .inl tx_))] → va_S A s.heap H locs → ∀ (ls : Array Slot), lv_has ls 4 [(2, .long (wnR tx_ q_ j_)), (1, .int (byR tx_ n_ q_)), (0, .ref b0_)] → W p l e rmkX9_advances s m args below meth c H locs 0 0 Q (F0 m 68 ls []) := by
              intro nF
              induction nF with
              | zero => intro j_ hjn hRj hnF; exact absurd hnF (Nat.not_lt_zero _)
              | succ nF ih_68 =>
                intro j_ hjn hRj hn_68 H locs hP hD hS ls hl
                refine lv_aload_n hx hb dX9_advances_68 rfl (lv_at hl 2 rfl) ?_
                refine lv_aload_n hx hb dX9_advances_69 rfl (lv_at hl 2 rfl) ?_
                refine va_get (D := D) (ci := 9) (v := .int (nI (q_ + j_))) (C := RX9) (T := TX9) (N := 21) hx hb hts winX9 hown hK hP 0 rfl rfl 14 (by decide) wf133 (fun _ h9 => h9) rfl dX9_advances_70 ?_
                refine ca_V (q0 := 0) (n := 1) (rest := []) (wr := []) F hK hE hA hP hD hS hl.1 (kX9_byteAt (l := l) (D := D) (cy := cy) (sa := sa) b0_ th_ tr_ bn_ bt_ bs_ bk_ bp_ bi_ bl_ it_ ub_ db_ bx_ bc_ bf_ n_ tx_ (nI (q_ + j_)) tk_ (nI q_) vl_ fa_ (q_ + j_) (by first | assumption | omega | decide) (by first | assumption | omega | decide)) gX9_advances_X9_byteAt rfl rfl rfl rfl rfl rfl (by decide +kernel) ⟨by decide, by decide⟩ [0, 1] [] rfl rfl rfl rfl (by decide) rfl rfl (Nat.le_of_ble_eq_true rfl) dX9_advances_73 ⟨by decide, by decide⟩ (fun v9 u9 H locs hv hP hD hS => ?_)
                subst hv
                obtain ⟨hP, hD⟩ := re_ws (ws' := [(b0_, .inr (9, [.int th_, .long tr_, .ref bn_, .ref bt_, .ref bs_, .ref bk_, .ref bp_, .ref bi_, .ref bl_, .int it_, .int ub_, .int db_, .ref bx_, .int (nI n_), .int (nI (q_ + j_)), .int tk_, .int (nI q_), .int vl_, .int fa_, .ref bc_, .ref bf_])), (bx_, .inl (cy 0, 200, .inl tx_))]) hP hD [0, 1] rfl rfl
                refine W.eq (g2 := F0 m 76 ls [.int (byR tx_ n_ (q_ + j_))]) rfl ?_
                refine lv_bipush (v := 97) hx hb dX9_advances_76 (by decide) ?_
                refine lv_bipush (v := 122) hx hb dX9_advances_78 (by decide) ?_
                refine ca_S (n := 3) (rest := []) (wr := [(b0_, .inr (9, [.int th_, .long tr_, .ref bn_, .ref bt_, .ref bs_, .ref bk_, .ref bp_, .ref bi_, .ref bl_, .int it_, .int ub_, .int db_, .ref bx_, .int (nI n_), .int (nI (q_ + j_)), .int tk_, .int (nI q_), .int vl_, .int fa_, .ref bc_, .ref bf_])), (bx_, .inl (cy 0, 200, .inl tx_))]) F hK hE hA hP hD hS hl.1 (kX9_in (l := l) (D := D) (cy := cy) (sa := sa) (byR tx_ n_ (q_ + j_)) 97 122) gX9_advances_X9_in rfl rfl rfl (by decide +kernel) ⟨by decide, by decide⟩ [] [0, 1] rfl rfl rfl rfl (by decide) rfl rfl (Nat.le_of_ble_eq_true rfl) dX9_advances_80 ⟨by decide, by decide⟩ (fun v9 u9 H locs hv hP hD hS => ?_)
                subst hv
                have hP : va_P D vwCl [(b0_, .inr (9, [.int th_, .long tr_, .ref bn_, .ref bt_, .ref bs_, .ref bk_, .ref bp_, .ref bi_, .ref bl_, .int it_, .int ub_, .int db_, .ref bx_, .int (nI n_), .int (nI (q_ + j_)), .int tk_, .int (nI q_), .int vl_, .int fa_, .ref bc_, .ref bf_])), (bx_, .inl (cy 0, 200, .inl tx_))] H := hP
                have hD : va_D A [(b0_, .inr (9, [.int th_, .long tr_, .ref bn_, .ref bt_, .ref bs_, .ref bk_, .ref bp_, .ref bi_, .ref bl_, .int it_, .int ub_, .int db_, .ref bx_, .int (nI n_), .int (nI (q_ + j_)), .int tk_, .int (nI q_), .int vl_, .int fa_, .ref bc_, .ref bf_])), (bx_, .inl (cy 0, 200, .inl tx_))] := hD
                refine W.eq (g2 := F0 m 83 ls [.int (bI (inR (byR tx_ n_ (q_ + j_)) 97 122))]) rfl ?_
                refine bz_eq (tgt := 133) hx hb dX9_advances_83 (by decide) (fun c_83 => ?_) (fun c_83 => ?_)
                · have hj9 : q_ + j_ = sp isL tx_ n_ q_ := (byR_nl c_83).symm.trans hRj
                  refine lv_aload_n hx hb dX9_advances_133 rfl (lv_at hl 2 rfl) ?_
                  refine lv_lload_n hx hb dX9_advances_134 rfl (lv_at hl 0 rfl) ?_
                  refine ca_S (n := 1) (rest := [.ref b0_]) (wr := [(b0_, .inr (9, [.int th_, .long tr_, .ref bn_, .ref bt_, .ref bs_, .ref bk_, .ref bp_, .ref bi_, .ref bl_, .int it_, .int ub_, .int db_, .ref bx_, .int (nI n_), .int (nI (q_ + j_)), .int tk_, .int (nI q_), .int vl_, .int fa_, .ref bc_, .ref bf_])), (bx_, .inl (cy 0, 200, .inl tx_))]) F hK hE hA hP hD hS hl.1 (kX9_wordOf (l := l) (D := D) (cy := cy) (sa := sa) (wnR tx_ q_ j_)) gX9_advances_X9_wordOf rfl rfl rfl (by decide +kernel) ⟨by decide, by decide⟩ [] [0, 1] rfl rfl rfl rfl (by decide) rfl rfl (Nat.le_of_ble_eq_true rfl) dX9_advances_135 ⟨by decide, by decide⟩ (fun v9 u9 H locs hv hP hD hS => ?_)
                  subst hv
                  have hP : va_P D vwCl [(b0_, .inr (9, [.int th_, .long tr_, .ref bn_, .ref bt_, .ref bs_, .ref bk_, .ref bp_, .ref bi_, .ref bl_, .int it_, .int ub_, .int db_, .ref bx_, .int (nI n_), .int (nI (q_ + j_)), .int tk_, .int (nI q_), .int vl_, .int fa_, .ref bc_, .ref bf_])), (bx_, .inl (cy 0, 200, .inl tx_))] H := hP
                  have hD : va_D A [(b0_, .inr (9, [.int th_, .long tr_, .ref bn_, .ref bt_, .ref bs_, .ref bk_, .ref bp_, .ref bi_, .ref bl_, .int it_, .int ub_, .int db_, .ref bx_, .int (nI n_), .int (nI (q_ + j_)), .int tk_, .int (nI q_), .int vl_, .int fa_, .ref bc_, .ref bf_])), (bx_, .inl (cy 0, 200, .inl tx_))] := hD
                  refine W.eq (g2 := F0 m 138 ls [.int (wdR (wnR tx_ q_ j_)), .ref b0_]) rfl ?_
                  refine va_put (D := D) (ci := 9) (v := .int (wdR (wnR tx_ q_ j_))) (ty := .int) (C := RX9) (T := TX9) (N := 21) hx hb hts winX9 tyX9 tyX9_ok nmX9 hown hK hP hD hS 0 rfl rfl 17 (by decide) wf149 (fun _ h9 => h9) rfl (by decide +kernel) (rfl) (rfl) (Nat.le_of_ble_eq_true rfl) dX9_advances_138 (fun H locs hP hD hS => ?_)
                  have hP : va_P D vwCl [(b0_, .inr (9, [.int th_, .long tr_, .ref bn_, .ref bt_, .ref bs_, .ref bk_, .ref bp_, .ref bi_, .ref bl_, .int it_, .int ub_, .int db_, .ref bx_, .int (nI n_), .int (nI (q_ + j_)), .int tk_, .int (nI q_), .int (wdR (wnR tx_ q_ j_)), .int fa_, .ref bc_, .ref bf_])), (bx_, .inl (cy 0, 200, .inl tx_))] H := hP
                  have hD : va_D A [(b0_, .inr (9, [.int th_, .long tr_, .ref bn_, .ref bt_, .ref bs_, .ref bk_, .ref bp_, .ref bi_, .ref bl_, .int it_, .int ub_, .int db_, .ref bx_, .int (nI n_), .int (nI (q_ + j_)), .int tk_, .int (nI q_), .int (wdR (wnR tx_ q_ j_)), .int fa_, .ref bc_, .ref bf_])), (bx_, .inl (cy 0, 200, .inl tx_))] := hD
                  refine lv_aload_n hx hb dX9_advances_141 rfl (lv_at hl 2 rfl) ?_
                  refine lv_aload_n hx hb dX9_advances_142 rfl (lv_at hl 2 rfl) ?_
                  refine va_get (D := D) (ci := 9) (v := .int (wdR (wnR tx_ q_ j_))) (C := RX9) (T := TX9) (N := 21) hx hb hts winX9 hown hK hP 0 rfl rfl 17 (by decide) wf149 (fun _ h9 => h9) rfl dX9_advances_143 ?_
                  refine lv_bipush (v := (-9)) hx hb dX9_advances_146 (by decide) ?_
                  have J_148_248 : ∀ (z148 : Int32), z148 = (if (wdR (wnR tx_ q_ j_)) = (-9) then 5 else 1) → ∀ (H : Heap) (locs : List Loc), va_P D vwCl [(b0_, .inr (9, [.int th_, .long tr_, .ref bn_, .ref bt_, .ref bs_, .ref bk_, .ref bp_, .ref bi_, .ref bl_, .int it_, .int ub_, .int db_, .ref bx_, .int (nI n_), .int (nI (q_ + j_)), .int tk_, .int (nI q_), .int (wdR (wnR tx_ q_ j_)), .int fa_, .ref bc_, .ref bf_])), (bx_, .inl (cy 0, 200, .inl tx_))] H → va_D A [(b0_, .inr (9, [.int th_, .long tr_, .ref bn_, .ref bt_, .ref bs_, .ref bk_, .ref bp_, .ref bi_, .ref bl_, .int it_, .int ub_, .int db_, .ref bx_, .int (nI n_), .int (nI (q_ + j_)), .int tk_, .int (nI q_), .int (wdR (wnR tx_ q_ j_)), .int fa_, .ref bc_, .ref bf_])), (bx_, .inl (cy 0, 200, .inl tx_))] → va_S A s.heap H locs → ∀ (ls : Array Slot), lv_has ls 4 [(2, .long (wnR tx_ q_ j_)), (1, .int (byR tx_ n_ q_)), (0, .ref b0_)] → W p l e rmkX9_advances s m args below meth c H locs 0 0 Q (F0 m 156 ls [.int z148, .ref b0_]) := by
                    intro z148 ez148 H locs hP hD hS ls hl
                    refine va_put (D := D) (ci := 9) (v := .int z148) (ty := .int) (C := RX9) (T := TX9) (N := 21) hx hb hts winX9 tyX9 tyX9_ok nmX9 hown hK hP hD hS 0 rfl rfl 15 (by decide) wf142 (fun _ h9 => h9) rfl (by decide +kernel) (rfl) (rfl) (Nat.le_of_ble_eq_true rfl) dX9_advances_156 (fun H locs hP hD hS => ?_)
                    have hP : va_P D vwCl [(b0_, .inr (9, [.int th_, .long tr_, .ref bn_, .ref bt_, .ref bs_, .ref bk_, .ref bp_, .ref bi_, .ref bl_, .int it_, .int ub_, .int db_, .ref bx_, .int (nI n_), .int (nI (q_ + j_)), .int z148, .int (nI q_), .int (wdR (wnR tx_ q_ j_)), .int fa_, .ref bc_, .ref bf_])), (bx_, .inl (cy 0, 200, .inl tx_))] H := hP
                    have hD : va_D A [(b0_, .inr (9, [.int th_, .long tr_, .ref bn_, .ref bt_, .ref bs_, .ref bk_, .ref bp_, .ref bi_, .ref bl_, .int it_, .int ub_, .int db_, .ref bx_, .int (nI n_), .int (nI (q_ + j_)), .int z148, .int (nI q_), .int (wdR (wnR tx_ q_ j_)), .int fa_, .ref bc_, .ref bf_])), (bx_, .inl (cy 0, 200, .inl tx_))] := hD
                    refine lv_goto (tgt := 325) hx hb dX9_advances_159 (by decide) ?_
                    have h0 := byR_l c_63
                    have h7 := tb_let h0.1 h0.2
                    have h8 := adv_w h0.1 h0.2
                    obtain ⟨hP, hD⟩ := ob_ws (gs := [.int th_, .long tr_, .ref bn_, .ref bt_, .ref bs_, .ref bk_, .ref bp_, .ref bi_, .ref bl_, .int it_, .int ub_, .int db_, .ref bx_, .int (nI n_), .int (nI (tkE tx_ n_ p9_)), .int (tkK tx_ n_ p9_), .int (nI (tkb tx_ n_ p9_)), .int (wdR (wnR tx_ q_ j_)), .int fa_, .ref bc_, .ref bf_]) hP hD 0 rfl (cons_eq2 (rfl) (cons_eq2 (rfl) (cons_eq2 (rfl) (cons_eq2 (rfl) (cons_eq2 (rfl) (cons_eq2 (rfl) (cons_eq2 (rfl) (cons_eq2 (rfl) (cons_eq2 (rfl) (cons_eq2 (rfl) (cons_eq2 (rfl) (cons_eq2 (rfl) (cons_eq2 (rfl) (cons_eq2 (rfl) (cons_eq2 (congrArg Value.int (show nI (q_ + j_) = nI (tkE tx_ n_ p9_) from by unfold tkE; rw [hq9, h7.2.1, ← hj9])) (cons_eq2 (congrArg Value.int (show z148 = tkK tx_ n_ p9_ from by unfold tkK; rw [hq9, h7.1, h8.1, ← hj9, Nat.add_sub_cancel_left]; exact ez148)) (cons_eq2 (congrArg Value.int (show nI q_ = nI (tkb tx_ n_ p9_) from by rw [hq9])) (rfl))))))))))))))))))
                    have hP : va_P D vwCl [(b0_, .inr (9, [.int th_, .long tr_, .ref bn_, .ref bt_, .ref bs_, .ref bk_, .ref bp_, .ref bi_, .ref bl_, .int it_, .int ub_, .int db_, .ref bx_, .int (nI n_), .int (nI (tkE tx_ n_ p9_)), .int (tkK tx_ n_ p9_), .int (nI (tkb tx_ n_ p9_)), .int (wdR (wnR tx_ q_ j_)), .int fa_, .ref bc_, .ref bf_])), (bx_, .inl (cy 0, 200, .inl tx_))] H := hP
                    have hD : va_D A [(b0_, .inr (9, [.int th_, .long tr_, .ref bn_, .ref bt_, .ref bs_, .ref bk_, .ref bp_, .ref bi_, .ref bl_, .int it_, .int ub_, .int db_, .ref bx_, .int (nI n_), .int (nI (tkE tx_ n_ p9_)), .int (tkK tx_ n_ p9_), .int (nI (tkb tx_ n_ p9_)), .int (wdR (wnR tx_ q_ j_)), .int fa_, .ref bc_, .ref bf_])), (bx_, .inl (cy 0, 200, .inl tx_))] := hD
                    exact RT _ _ (wdR (wnR tx_ q_ j_)) H locs 325 ls (rt_v dX9_advances_325) ⟨rfl, (by unfold tkK tkV; rw [hq9, h7.1, h7.2.2]; intro z; have z1 : (wvF tx_ q_ (sp isL tx_ n_ q_) 0 5).1 = 1 := z.resolve_right (fun y => by rw [h8.1] at y; split at y <;> exact absurd y (by decide)); have h9 := h8.2 z1; rw [← hj9, Nat.add_sub_cancel_left] at h9; rw [← hj9]; exact h9)⟩ hP hD hS
                  refine lv_icmp_ne (tgt := 155) hx hb dX9_advances_148 (by decide) (fun c_148 => ?_) (fun c_148 => ?_)
                  · refine lv_iconst (v := 1) hx hb dX9_advances_155 (by decide) ?_
                    exact J_148_248 _ ((if_neg c_148).symm) H locs hP hD hS ls (lv_sub hl [0, 1, 2] rfl)
                  · refine lv_iconst (v := 5) hx hb dX9_advances_151 (by decide) ?_
                    refine lv_goto (tgt := 156) hx hb dX9_advances_152 (by decide) ?_
                    exact J_148_248 _ ((if_pos c_148).symm) H locs hP hD hS ls (lv_sub hl [0, 1, 2] rfl)
                · refine lv_aload_n hx hb dX9_advances_86 rfl (lv_at hl 2 rfl) ?_
                  refine va_get (D := D) (ci := 9) (v := .int (nI (q_ + j_))) (C := RX9) (T := TX9) (N := 21) hx hb hts winX9 hown hK hP 0 rfl rfl 14 (by decide) wf133 (fun _ h9 => h9) rfl dX9_advances_87 ?_
                  refine lv_aload_n hx hb dX9_advances_90 rfl (lv_at hl 2 rfl) ?_
                  refine va_get (D := D) (ci := 9) (v := .int (nI q_)) (C := RX9) (T := TX9) (N := 21) hx hb hts winX9 hown hK hP 0 rfl rfl 16 (by decide) wf139 (fun _ h9 => h9) rfl dX9_advances_91 ?_
                  refine lv_isub hx hb dX9_advances_94 ?_
                  refine lv_eqi (y := nI j_) ((pk_sub (by omega)).trans (by rw [Nat.add_sub_cancel_left])) ?_
                  refine lv_bipush (v := 6) hx hb dX9_advances_95 (by decide) ?_
                  have J_97_274 : ∀ (z97 : Int64), z97 = (if 6 ≤ j_ then (wnR tx_ q_ j_) else ((256 * (wnR tx_ q_ j_)) + ((byR tx_ n_ (q_ + j_)).toInt64))) → ∀ (H : Heap) (locs : List Loc), va_P D vwCl [(b0_, .inr (9, [.int th_, .long tr_, .ref bn_, .ref bt_, .ref bs_, .ref bk_, .ref bp_, .ref bi_, .ref bl_, .int it_, .int ub_, .int db_, .ref bx_, .int (nI n_), .int (nI (q_ + j_)), .int tk_, .int (nI q_), .int vl_, .int fa_, .ref bc_, .ref bf_])), (bx_, .inl (cy 0, 200, .inl tx_))] H → va_D A [(b0_, .inr (9, [.int th_, .long tr_, .ref bn_, .ref bt_, .ref bs_, .ref bk_, .ref bp_, .ref bi_, .ref bl_, .int it_, .int ub_, .int db_, .ref bx_, .int (nI n_), .int (nI (q_ + j_)), .int tk_, .int (nI q_), .int vl_, .int fa_, .ref bc_, .ref bf_])), (bx_, .inl (cy 0, 200, .inl tx_))] → va_S A s.heap H locs → ∀ (ls : Array Slot), lv_has ls 4 [(2, .long (wnR tx_ q_ j_)), (1, .int (byR tx_ n_ q_)), (0, .ref b0_)] → W p l e rmkX9_advances s m args below meth c H locs 0 0 Q (F0 m 119 ls [.long z97]) := by
                    intro z97 ez97 H locs hP hD hS ls hl
                    refine lv_eql (y := wnR tx_ q_ (j_ + 1)) (by rw [ez97, byR_in (byR_l c_83).1]; rfl) ?_
                    refine lv_lstore_n (lv' := [(2, .long (wnR tx_ q_ (j_ + 1))), (1, .int (byR tx_ n_ q_)), (0, .ref b0_)]) hx hb dX9_advances_119 rfl hl (by decide) rfl (fun ls hl => ?_)
                    refine lv_aload_n hx hb dX9_advances_120 rfl (lv_at hl 2 rfl) ?_
                    refine lv_dup hx hb dX9_advances_121 rfl ?_
                    refine va_get (D := D) (ci := 9) (v := .int (nI (q_ + j_))) (C := RX9) (T := TX9) (N := 21) hx hb hts winX9 hown hK hP 0 rfl rfl 14 (by decide) wf133 (fun _ h9 => h9) rfl dX9_advances_122 ?_
                    refine lv_iconst (v := 1) hx hb dX9_advances_125 (by decide) ?_
                    refine lv_iadd hx hb dX9_advances_126 ?_
                    refine lv_eqi (y := nI ((q_ + j_) + 1)) (nI_add (q_ + j_) 1) ?_
                    refine va_put (D := D) (ci := 9) (v := .int (nI ((q_ + j_) + 1))) (ty := .int) (C := RX9) (T := TX9) (N := 21) hx hb hts winX9 tyX9 tyX9_ok nmX9 hown hK hP hD hS 0 rfl rfl 14 (by decide) wf133 (fun _ h9 => h9) rfl (by decide +kernel) (rfl) (rfl) (Nat.le_of_ble_eq_true rfl) dX9_advances_127 (fun H locs hP hD hS => ?_)
                    have hP : va_P D vwCl [(b0_, .inr (9, [.int th_, .long tr_, .ref bn_, .ref bt_, .ref bs_, .ref bk_, .ref bp_, .ref bi_, .ref bl_, .int it_, .int ub_, .int db_, .ref bx_, .int (nI n_), .int (nI ((q_ + j_) + 1)), .int tk_, .int (nI q_), .int vl_, .int fa_, .ref bc_, .ref bf_])), (bx_, .inl (cy 0, 200, .inl tx_))] H := hP
                    have hD : va_D A [(b0_, .inr (9, [.int th_, .long tr_, .ref bn_, .ref bt_, .ref bs_, .ref bk_, .ref bp_, .ref bi_, .ref bl_, .int it_, .int ub_, .int db_, .ref bx_, .int (nI n_), .int (nI ((q_ + j_) + 1)), .int tk_, .int (nI q_), .int vl_, .int fa_, .ref bc_, .ref bf_])), (bx_, .inl (cy 0, 200, .inl tx_))] := hD
                    refine lv_goto (tgt := 68) hx hb dX9_advances_130 (by decide) ?_
                    skip
                    exact ih_68 (j_ + 1) ((byR_l c_83).1) ((sp_t (byR_l c_83).1 (byR_l c_83).2).symm.trans hRj) (by have := (byR_l c_83).1; omega) H locs hP hD hS ls (lv_sub hl [0, 1, 2] rfl)
                  refine cn_ge (tgt := 118) hx hb j_ 6 rfl rfl (by omega) (by omega) dX9_advances_97 (by decide) (fun c_97 => ?_) (fun c_97 => ?_)
                  · refine lv_lload_n hx hb dX9_advances_118 rfl (lv_at hl 0 rfl) ?_
                    exact J_97_274 _ ((if_pos c_97).symm) H locs hP hD hS ls (lv_sub hl [0, 1, 2] rfl)
                  · refine lv_ldc2 (v := 256) hx hb hown wl127 dX9_advances_100 ?_
                    refine lv_lload_n hx hb dX9_advances_103 rfl (lv_at hl 0 rfl) ?_
                    refine lv_lmul hx hb dX9_advances_104 ?_
                    refine lv_aload_n hx hb dX9_advances_105 rfl (lv_at hl 2 rfl) ?_
                    refine lv_aload_n hx hb dX9_advances_106 rfl (lv_at hl 2 rfl) ?_
                    refine va_get (D := D) (ci := 9) (v := .int (nI (q_ + j_))) (C := RX9) (T := TX9) (N := 21) hx hb hts winX9 hown hK hP 0 rfl rfl 14 (by decide) wf133 (fun _ h9 => h9) rfl dX9_advances_107 ?_
                    refine ca_V (q0 := 0) (n := 1) (rest := [.long (256 * (wnR tx_ q_ j_))]) (wr := []) F hK hE hA hP hD hS hl.1 (kX9_byteAt (l := l) (D := D) (cy := cy) (sa := sa) b0_ th_ tr_ bn_ bt_ bs_ bk_ bp_ bi_ bl_ it_ ub_ db_ bx_ bc_ bf_ n_ tx_ (nI (q_ + j_)) tk_ (nI q_) vl_ fa_ (q_ + j_) (by first | assumption | omega | decide) (by first | assumption | omega | decide)) gX9_advances_X9_byteAt rfl rfl rfl rfl rfl rfl (by decide +kernel) ⟨by decide, by decide⟩ [0, 1] [] rfl rfl rfl rfl (by decide) rfl rfl (Nat.le_of_ble_eq_true rfl) dX9_advances_110 ⟨by decide, by decide⟩ (fun v9 u9 H locs hv hP hD hS => ?_)
                    subst hv
                    obtain ⟨hP, hD⟩ := re_ws (ws' := [(b0_, .inr (9, [.int th_, .long tr_, .ref bn_, .ref bt_, .ref bs_, .ref bk_, .ref bp_, .ref bi_, .ref bl_, .int it_, .int ub_, .int db_, .ref bx_, .int (nI n_), .int (nI (q_ + j_)), .int tk_, .int (nI q_), .int vl_, .int fa_, .ref bc_, .ref bf_])), (bx_, .inl (cy 0, 200, .inl tx_))]) hP hD [0, 1] rfl rfl
                    refine W.eq (g2 := F0 m 113 ls [.int (byR tx_ n_ (q_ + j_)), .long (256 * (wnR tx_ q_ j_))]) rfl ?_
                    refine lv_i2l (v := (byR tx_ n_ (q_ + j_)).toInt64) hx hb dX9_advances_113 (rfl) ?_
                    refine lv_ladd hx hb dX9_advances_114 ?_
                    refine lv_goto (tgt := 119) hx hb dX9_advances_115 (by decide) ?_
                    exact J_97_274 _ ((if_neg c_97).symm) H locs hP hD hS ls (lv_sub hl [0, 1, 2] rfl)
            skip
            exact L_68 _ 0 (by omega) (rfl) (Nat.lt_succ_self _) H locs hP hD hS ls (lv_sub hl [0, 1, 2] rfl)
        · refine lv_aload_n hx hb dX9_advances_47 rfl (lv_at hl 1 rfl) ?_
          refine lv_iconst (v := 0) hx hb dX9_advances_48 (by decide) ?_
          refine va_put (D := D) (ci := 9) (v := .int 0) (ty := .int) (C := RX9) (T := TX9) (N := 21) hx hb hts winX9 tyX9 tyX9_ok nmX9 hown hK hP hD hS 0 rfl rfl 15 (by decide) wf142 (fun _ h9 => h9) rfl (by decide +kernel) (rfl) (rfl) (Nat.le_of_ble_eq_true rfl) dX9_advances_49 (fun H locs hP hD hS => ?_)
          have hP : va_P D vwCl [(b0_, .inr (9, [.int th_, .long tr_, .ref bn_, .ref bt_, .ref bs_, .ref bk_, .ref bp_, .ref bi_, .ref bl_, .int it_, .int ub_, .int db_, .ref bx_, .int (nI n_), .int (nI q_), .int 0, .int (nI q_), .int vl_, .int fa_, .ref bc_, .ref bf_])), (bx_, .inl (cy 0, 200, .inl tx_))] H := hP
          have hD : va_D A [(b0_, .inr (9, [.int th_, .long tr_, .ref bn_, .ref bt_, .ref bs_, .ref bk_, .ref bp_, .ref bi_, .ref bl_, .int it_, .int ub_, .int db_, .ref bx_, .int (nI n_), .int (nI q_), .int 0, .int (nI q_), .int vl_, .int fa_, .ref bc_, .ref bf_])), (bx_, .inl (cy 0, 200, .inl tx_))] := hD
          refine lv_goto (tgt := 325) hx hb dX9_advances_52 (by decide) ?_
          have h0 : ¬ q_ < n_ := fun z => c_44 ((byR_ge htx).mpr z)
          have h7 := tb_end (tx := tx_) h0
          obtain ⟨hP, hD⟩ := ob_ws (gs := [.int th_, .long tr_, .ref bn_, .ref bt_, .ref bs_, .ref bk_, .ref bp_, .ref bi_, .ref bl_, .int it_, .int ub_, .int db_, .ref bx_, .int (nI n_), .int (nI (tkE tx_ n_ p9_)), .int (tkK tx_ n_ p9_), .int (nI (tkb tx_ n_ p9_)), .int vl_, .int fa_, .ref bc_, .ref bf_]) hP hD 0 rfl (cons_eq2 (rfl) (cons_eq2 (rfl) (cons_eq2 (rfl) (cons_eq2 (rfl) (cons_eq2 (rfl) (cons_eq2 (rfl) (cons_eq2 (rfl) (cons_eq2 (rfl) (cons_eq2 (rfl) (cons_eq2 (rfl) (cons_eq2 (rfl) (cons_eq2 (rfl) (cons_eq2 (rfl) (cons_eq2 (rfl) (cons_eq2 (congrArg Value.int (show nI q_ = nI (tkE tx_ n_ p9_) from by unfold tkE; rw [hq9, h7.2])) (cons_eq2 (congrArg Value.int (show 0 = tkK tx_ n_ p9_ from by unfold tkK; rw [hq9, h7.1])) (cons_eq2 (congrArg Value.int (show nI q_ = nI (tkb tx_ n_ p9_) from by rw [hq9])) (rfl))))))))))))))))))
          have hP : va_P D vwCl [(b0_, .inr (9, [.int th_, .long tr_, .ref bn_, .ref bt_, .ref bs_, .ref bk_, .ref bp_, .ref bi_, .ref bl_, .int it_, .int ub_, .int db_, .ref bx_, .int (nI n_), .int (nI (tkE tx_ n_ p9_)), .int (tkK tx_ n_ p9_), .int (nI (tkb tx_ n_ p9_)), .int vl_, .int fa_, .ref bc_, .ref bf_])), (bx_, .inl (cy 0, 200, .inl tx_))] H := hP
          have hD : va_D A [(b0_, .inr (9, [.int th_, .long tr_, .ref bn_, .ref bt_, .ref bs_, .ref bk_, .ref bp_, .ref bi_, .ref bl_, .int it_, .int ub_, .int db_, .ref bx_, .int (nI n_), .int (nI (tkE tx_ n_ p9_)), .int (tkK tx_ n_ p9_), .int (nI (tkb tx_ n_ p9_)), .int vl_, .int fa_, .ref bc_, .ref bf_])), (bx_, .inl (cy 0, 200, .inl tx_))] := hD
          exact RT _ _ (vl_) H locs 325 ls (rt_v dX9_advances_325) ⟨rfl, (by unfold tkK; rw [hq9, h7.1]; exact fun z => absurd z (by decide))⟩ hP hD hS
      · refine lv_aload_n hx hb dX9_advances_13 rfl (lv_at hl 0 rfl) ?_
        refine lv_dup hx hb dX9_advances_14 rfl ?_
        refine va_get (D := D) (ci := 9) (v := .int (nI q_)) (C := RX9) (T := TX9) (N := 21) hx hb hts winX9 hown hK hP 0 rfl rfl 14 (by decide) wf133 (fun _ h9 => h9) rfl dX9_advances_15 ?_
        refine lv_iconst (v := 1) hx hb dX9_advances_18 (by decide) ?_
        refine lv_iadd hx hb dX9_advances_19 ?_
        refine lv_eqi (y := nI (q_ + 1)) (nI_add q_ 1) ?_
        refine va_put (D := D) (ci := 9) (v := .int (nI (q_ + 1))) (ty := .int) (C := RX9) (T := TX9) (N := 21) hx hb hts winX9 tyX9 tyX9_ok nmX9 hown hK hP hD hS 0 rfl rfl 14 (by decide) wf133 (fun _ h9 => h9) rfl (by decide +kernel) (rfl) (rfl) (Nat.le_of_ble_eq_true rfl) dX9_advances_20 (fun H locs hP hD hS => ?_)
        have hP : va_P D vwCl [(b0_, .inr (9, [.int th_, .long tr_, .ref bn_, .ref bt_, .ref bs_, .ref bk_, .ref bp_, .ref bi_, .ref bl_, .int it_, .int ub_, .int db_, .ref bx_, .int (nI n_), .int (nI (q_ + 1)), .int tk_, .int pl_, .int vl_, .int fa_, .ref bc_, .ref bf_])), (bx_, .inl (cy 0, 200, .inl tx_))] H := hP
        have hD : va_D A [(b0_, .inr (9, [.int th_, .long tr_, .ref bn_, .ref bt_, .ref bs_, .ref bk_, .ref bp_, .ref bi_, .ref bl_, .int it_, .int ub_, .int db_, .ref bx_, .int (nI n_), .int (nI (q_ + 1)), .int tk_, .int pl_, .int vl_, .int fa_, .ref bc_, .ref bf_])), (bx_, .inl (cy 0, 200, .inl tx_))] := hD
        refine lv_goto (tgt := 0) hx hb dX9_advances_23 (by decide) ?_
        exact ih_0 (q_ + 1) (by omega) ((byR_s c_10).1) ((sp_t (byR_s c_10).1 (byR_s c_10).2).symm.trans hR) (by have := (byR_s c_10).1; omega) H locs hP hD hS ls (lv_sub hl [0] rfl)
  exact L_0 _ p9_ (Nat.le_refl _) (by first | assumption | omega | decide) (rfl) (Nat.lt_succ_self _) H locs hP hD hS ls (lv_sub hl [0] rfl)
abbrev rmkX9_isWell_o : Room := { frames := 0, cells := 0, slots := 0, locals := 0 }
set_option maxHeartbeats 4000000 in
set_option maxRecDepth 100000 in
theorem kX9_isWell_o {l : Launch} {D : va_G} {cy : Nat → ClassId} {sa : Nat → Nat} (b0_ : Nat) (th_ : Int32) (tr_ : Int64) (bn_ : Nat) (bt_ : Nat) (bs_ : Nat) (bk_ : Nat) (bp_ : Nat) (bi_ : Nat) (bl_ : Nat) (it_ : Int32) (ub_ : Int32) (db_ : Int32) (bx_ : Nat) (bc_ : Nat) (bf_ : Nat) (tp_ : Int32) (nx_ : Int32) (tk_ : Int32) (pl_ : Int32) (vl_ : Int32) (fo_ : Option Nat) (hfo : ∀ f, fo_ = some f → f < 1000) : CD l D cy sa yX9_isWell wsX9_isWell rmkX9_isWell_o [.ref b0_] [(b0_, .inr (9, [.int th_, .long tr_, .ref bn_, .ref bt_, .ref bs_, .ref bk_, .ref bp_, .ref bi_, .ref bl_, .int it_, .int ub_, .int db_, .ref bx_, .int tp_, .int nx_, .int tk_, .int pl_, .int vl_, .int (fvI fo_), .ref bc_, .ref bf_]))] (some (.int (bI (fo_ = none)))) [(b0_, .inr (9, [.int th_, .long tr_, .ref bn_, .ref bt_, .ref bs_, .ref bk_, .ref bp_, .ref bi_, .ref bl_, .int it_, .int ub_, .int db_, .ref bx_, .int tp_, .int nx_, .int tk_, .int pl_, .int vl_, .int (fvI fo_), .ref bc_, .ref bf_]))] := by
  refine CT.of cX9_isWell 1 (some .boolean) (by decide +kernel) rfl (Nat.le_of_ble_eq_true rfl) ?_
  intro p e s m args below meth c A Q ls F hmn hK hE hA hP hD hS hl RT
  obtain ⟨hx, hb, hml, hown, hts⟩ := id F
  have winX9 : ∀ w ∈ u_ws RX9 TX9 21, w ∈ wsX9_isWell := by decide +kernel
  have wf152 := hts (.fieldLink RX9 152 "SelfSteerModel" "fault" "I") (by decide +kernel)
  have hl : lv_has ls 1 [(0, .ref b0_)] := hl
  have hP : va_P D vwCl [(b0_, .inr (9, [.int th_, .long tr_, .ref bn_, .ref bt_, .ref bs_, .ref bk_, .ref bp_, .ref bi_, .ref bl_, .int it_, .int ub_, .int db_, .ref bx_, .int tp_, .int nx_, .int tk_, .int pl_, .int vl_, .int (fvI fo_), .ref bc_, .ref bf_]))] s.heap := hP
  have hD : va_D A [(b0_, .inr (9, [.int th_, .long tr_, .ref bn_, .ref bt_, .ref bs_, .ref bk_, .ref bp_, .ref bi_, .ref bl_, .int it_, .int ub_, .int db_, .ref bx_, .int tp_, .int nx_, .int tk_, .int pl_, .int vl_, .int (fvI fo_), .ref bc_, .ref bf_]))] := hD
  obtain ⟨H, hH⟩ : ∃ H0 : Heap, H0 = s.heap := ⟨_, rfl⟩
  obtain ⟨locs, hlo⟩ : ∃ L0 : List Loc, L0 = [] := ⟨_, rfl⟩
  have hS : va_S A s.heap H locs := by rw [hH, hlo]; exact hS
  rw [← hH] at hP
  show W p l e rmkX9_isWell_o s m args below meth c s.heap [] 0 0 Q (F0 m 0 ls [])
  suffices hgo : W p l e rmkX9_isWell_o s m args below meth c H locs 0 0 Q (F0 m 0 ls []) by rw [hH, hlo] at hgo; exact hgo
  clear hH hlo
  refine lv_aload_n hx hb dX9_isWell_0 rfl (lv_at hl 0 rfl) ?_
  refine va_get (D := D) (ci := 9) (v := .int (fvI fo_)) (C := RX9) (T := TX9) (N := 21) hx hb hts winX9 hown hK hP 0 rfl rfl 18 (by decide) wf152 (fun _ h9 => h9) rfl dX9_isWell_1 ?_
  refine lv_if_ge (tgt := 11) hx hb dX9_isWell_4 (by decide) (fun c_4 => ?_) (fun c_4 => ?_)
  · refine lv_iconst (v := 0) hx hb dX9_isWell_11 (by decide) ?_
    refine lv_eqi (y := bI (fo_ = none)) ((bI_f (fv_n2 c_4)).symm) ?_
    exact RT _ _ () H locs 12 ls (rt_z (bI_nar _) dX9_isWell_12) rfl hP hD hS
  · refine lv_iconst (v := 1) hx hb dX9_isWell_7 (by decide) ?_
    refine lv_goto (tgt := 12) hx hb dX9_isWell_8 (by decide) ?_
    refine lv_eqi (y := bI (fo_ = none)) ((bI_t (fv_n1 hfo c_4)).symm) ?_
    exact RT _ _ () H locs 12 ls (rt_z (bI_nar _) dX9_isWell_12) rfl hP hD hS
abbrev rmkX9_isWell_y : Room := { frames := 0, cells := 0, slots := 0, locals := 0 }
set_option maxHeartbeats 4000000 in
set_option maxRecDepth 100000 in
theorem kX9_isWell_y {l : Launch} {D : va_G} {cy : Nat → ClassId} {sa : Nat → Nat} (b0_ : Nat) (th_ : Int32) (tr_ : Int64) (bn_ : Nat) (bt_ : Nat) (bs_ : Nat) (bk_ : Nat) (bp_ : Nat) (bi_ : Nat) (bl_ : Nat) (it_ : Int32) (ub_ : Int32) (db_ : Int32) (bx_ : Nat) (bc_ : Nat) (bf_ : Nat) (tp_ : Int32) (nx_ : Int32) (tk_ : Int32) (pl_ : Int32) (vl_ : Int32)  : CD l D cy sa yX9_isWell wsX9_isWell rmkX9_isWell_y [.ref b0_] [(b0_, .inr (9, [.int th_, .long tr_, .ref bn_, .ref bt_, .ref bs_, .ref bk_, .ref bp_, .ref bi_, .ref bl_, .int it_, .int ub_, .int db_, .ref bx_, .int tp_, .int nx_, .int tk_, .int pl_, .int vl_, .int (-1), .ref bc_, .ref bf_]))] (some (.int 1)) [(b0_, .inr (9, [.int th_, .long tr_, .ref bn_, .ref bt_, .ref bs_, .ref bk_, .ref bp_, .ref bi_, .ref bl_, .int it_, .int ub_, .int db_, .ref bx_, .int tp_, .int nx_, .int tk_, .int pl_, .int vl_, .int (-1), .ref bc_, .ref bf_]))] := by
  refine CT.of cX9_isWell 1 (some .boolean) (by decide +kernel) rfl (Nat.le_of_ble_eq_true rfl) ?_
  intro p e s m args below meth c A Q ls F hmn hK hE hA hP hD hS hl RT
  obtain ⟨hx, hb, hml, hown, hts⟩ := id F
  have winX9 : ∀ w ∈ u_ws RX9 TX9 21, w ∈ wsX9_isWell := by decide +kernel
  have wf152 := hts (.fieldLink RX9 152 "SelfSteerModel" "fault" "I") (by decide +kernel)
  have hl : lv_has ls 1 [(0, .ref b0_)] := hl
  have hP : va_P D vwCl [(b0_, .inr (9, [.int th_, .long tr_, .ref bn_, .ref bt_, .ref bs_, .ref bk_, .ref bp_, .ref bi_, .ref bl_, .int it_, .int ub_, .int db_, .ref bx_, .int tp_, .int nx_, .int tk_, .int pl_, .int vl_, .int (-1), .ref bc_, .ref bf_]))] s.heap := hP
  have hD : va_D A [(b0_, .inr (9, [.int th_, .long tr_, .ref bn_, .ref bt_, .ref bs_, .ref bk_, .ref bp_, .ref bi_, .ref bl_, .int it_, .int ub_, .int db_, .ref bx_, .int tp_, .int nx_, .int tk_, .int pl_, .int vl_, .int (-1), .ref bc_, .ref bf_]))] := hD
  obtain ⟨H, hH⟩ : ∃ H0 : Heap, H0 = s.heap := ⟨_, rfl⟩
  obtain ⟨locs, hlo⟩ : ∃ L0 : List Loc, L0 = [] := ⟨_, rfl⟩
  have hS : va_S A s.heap H locs := by rw [hH, hlo]; exact hS
  rw [← hH] at hP
  show W p l e rmkX9_isWell_y s m args below meth c s.heap [] 0 0 Q (F0 m 0 ls [])
  suffices hgo : W p l e rmkX9_isWell_y s m args below meth c H locs 0 0 Q (F0 m 0 ls []) by rw [hH, hlo] at hgo; exact hgo
  clear hH hlo
  refine lv_aload_n hx hb dX9_isWell_0 rfl (lv_at hl 0 rfl) ?_
  refine va_get (D := D) (ci := 9) (v := .int (-1)) (C := RX9) (T := TX9) (N := 21) hx hb hts winX9 hown hK hP 0 rfl rfl 18 (by decide) wf152 (fun _ h9 => h9) rfl dX9_isWell_1 ?_
  refine lv_if_ge (tgt := 11) hx hb dX9_isWell_4 (by decide) (fun c_4 => ?_) (fun c_4 => ?_)
  · exact absurd c_4 (by decide)
  · refine lv_iconst (v := 1) hx hb dX9_isWell_7 (by decide) ?_
    refine lv_goto (tgt := 12) hx hb dX9_isWell_8 (by decide) ?_
    exact RT _ _ () H locs 12 ls (rt_z rfl dX9_isWell_12) rfl hP hD hS
abbrev rmkX9_isWell_n : Room := { frames := 0, cells := 0, slots := 0, locals := 0 }
set_option maxHeartbeats 4000000 in
set_option maxRecDepth 100000 in
theorem kX9_isWell_n {l : Launch} {D : va_G} {cy : Nat → ClassId} {sa : Nat → Nat} (b0_ : Nat) (th_ : Int32) (tr_ : Int64) (bn_ : Nat) (bt_ : Nat) (bs_ : Nat) (bk_ : Nat) (bp_ : Nat) (bi_ : Nat) (bl_ : Nat) (it_ : Int32) (ub_ : Int32) (db_ : Int32) (bx_ : Nat) (bc_ : Nat) (bf_ : Nat) (tp_ : Int32) (nx_ : Int32) (tk_ : Int32) (pl_ : Int32) (vl_ : Int32) (f8_ : Nat) (hf8 : f8_ < 1000) : CD l D cy sa yX9_isWell wsX9_isWell rmkX9_isWell_n [.ref b0_] [(b0_, .inr (9, [.int th_, .long tr_, .ref bn_, .ref bt_, .ref bs_, .ref bk_, .ref bp_, .ref bi_, .ref bl_, .int it_, .int ub_, .int db_, .ref bx_, .int tp_, .int nx_, .int tk_, .int pl_, .int vl_, .int (nI f8_), .ref bc_, .ref bf_]))] (some (.int 0)) [(b0_, .inr (9, [.int th_, .long tr_, .ref bn_, .ref bt_, .ref bs_, .ref bk_, .ref bp_, .ref bi_, .ref bl_, .int it_, .int ub_, .int db_, .ref bx_, .int tp_, .int nx_, .int tk_, .int pl_, .int vl_, .int (nI f8_), .ref bc_, .ref bf_]))] := by
  refine CT.of cX9_isWell 1 (some .boolean) (by decide +kernel) rfl (Nat.le_of_ble_eq_true rfl) ?_
  intro p e s m args below meth c A Q ls F hmn hK hE hA hP hD hS hl RT
  obtain ⟨hx, hb, hml, hown, hts⟩ := id F
  have winX9 : ∀ w ∈ u_ws RX9 TX9 21, w ∈ wsX9_isWell := by decide +kernel
  have wf152 := hts (.fieldLink RX9 152 "SelfSteerModel" "fault" "I") (by decide +kernel)
  have hl : lv_has ls 1 [(0, .ref b0_)] := hl
  have hP : va_P D vwCl [(b0_, .inr (9, [.int th_, .long tr_, .ref bn_, .ref bt_, .ref bs_, .ref bk_, .ref bp_, .ref bi_, .ref bl_, .int it_, .int ub_, .int db_, .ref bx_, .int tp_, .int nx_, .int tk_, .int pl_, .int vl_, .int (nI f8_), .ref bc_, .ref bf_]))] s.heap := hP
  have hD : va_D A [(b0_, .inr (9, [.int th_, .long tr_, .ref bn_, .ref bt_, .ref bs_, .ref bk_, .ref bp_, .ref bi_, .ref bl_, .int it_, .int ub_, .int db_, .ref bx_, .int tp_, .int nx_, .int tk_, .int pl_, .int vl_, .int (nI f8_), .ref bc_, .ref bf_]))] := hD
  obtain ⟨H, hH⟩ : ∃ H0 : Heap, H0 = s.heap := ⟨_, rfl⟩
  obtain ⟨locs, hlo⟩ : ∃ L0 : List Loc, L0 = [] := ⟨_, rfl⟩
  have hS : va_S A s.heap H locs := by rw [hH, hlo]; exact hS
  rw [← hH] at hP
  show W p l e rmkX9_isWell_n s m args below meth c s.heap [] 0 0 Q (F0 m 0 ls [])
  suffices hgo : W p l e rmkX9_isWell_n s m args below meth c H locs 0 0 Q (F0 m 0 ls []) by rw [hH, hlo] at hgo; exact hgo
  clear hH hlo
  refine lv_aload_n hx hb dX9_isWell_0 rfl (lv_at hl 0 rfl) ?_
  refine va_get (D := D) (ci := 9) (v := .int (nI f8_)) (C := RX9) (T := TX9) (N := 21) hx hb hts winX9 hown hK hP 0 rfl rfl 18 (by decide) wf152 (fun _ h9 => h9) rfl dX9_isWell_1 ?_
  refine lv_if_ge (tgt := 11) hx hb dX9_isWell_4 (by decide) (fun c_4 => ?_) (fun c_4 => ?_)
  · refine lv_iconst (v := 0) hx hb dX9_isWell_11 (by decide) ?_
    exact RT _ _ () H locs 12 ls (rt_z rfl dX9_isWell_12) rfl hP hD hS
  · exact absurd (nI_pos' (by omega)) c_4
abbrev rmkX9_reads_w : Room := { frames := 3, cells := 0, slots := 0, locals := 69 }
set_option maxHeartbeats 4000000 in
set_option maxRecDepth 100000 in
theorem kX9_reads_w {l : Launch} {D : va_G} {cy : Nat → ClassId} {sa : Nat → Nat} (b0_ : Nat) (th_ : Int32) (tr_ : Int64) (bn_ : Nat) (bt_ : Nat) (bs_ : Nat) (bk_ : Nat) (bp_ : Nat) (bi_ : Nat) (bl_ : Nat) (it_ : Int32) (ub_ : Int32) (db_ : Int32) (bx_ : Nat) (bc_ : Nat) (bf_ : Nat) (n_ : Nat) (tx_ : Nat → Int32) (p9_ : Nat) (tk_ : Int32) (pl_ : Int32) (vn_ : Nat) (hn : n_ ≤ 200) (htx : ∀ k, k < n_ → ¬ tx_ k < 0) (hp : p9_ ≤ n_) : CT (S := (Int32)) l D cy sa yX9_reads wsX9_reads rmkX9_reads_w [.ref b0_, .int 1] [(b0_, .inr (9, [.int th_, .long tr_, .ref bn_, .ref bt_, .ref bs_, .ref bk_, .ref bp_, .ref bi_, .ref bl_, .int it_, .int ub_, .int db_, .ref bx_, .int (nI n_), .int (nI p9_), .int tk_, .int pl_, .int (nI vn_), .int (-1), .ref bc_, .ref bf_])), (bx_, .inl (cy 0, 200, .inl tx_))] (fun v9 vl2 => v9 = some (.int (nI vn_)) ∧ (tkK tx_ n_ p9_ = 1 ∨ tkK tx_ n_ p9_ = 3 → vl2 = tkV tx_ n_ p9_)) (fun vl2 => [(b0_, .inr (9, [.int th_, .long tr_, .ref bn_, .ref bt_, .ref bs_, .ref bk_, .ref bp_, .ref bi_, .ref bl_, .int it_, .int ub_, .int db_, .ref bx_, .int (nI n_), .int (nI (tkE tx_ n_ p9_)), .int (tkK tx_ n_ p9_), .int (nI (tkb tx_ n_ p9_)), .int vl2, .int (-1), .ref bc_, .ref bf_])), (bx_, .inl (cy 0, 200, .inl tx_))]) 0 0 := by
  refine CT.of cX9_reads 3 (some .int) (by decide +kernel) rfl (Nat.le_of_ble_eq_true rfl) ?_
  intro p e s m args below meth c A Q ls F hmn hK hE hA hP hD hS hl RT
  obtain ⟨hx, hb, hml, hown, hts⟩ := id F
  have winX9 : ∀ w ∈ u_ws RX9 TX9 21, w ∈ wsX9_reads := by decide +kernel
  have wf149 := hts (.fieldLink RX9 149 "SelfSteerModel" "value" "I") (by decide +kernel)
  have hl : lv_has ls 3 [(0, .ref b0_), (1, .int 1)] := hl
  have hP : va_P D vwCl [(b0_, .inr (9, [.int th_, .long tr_, .ref bn_, .ref bt_, .ref bs_, .ref bk_, .ref bp_, .ref bi_, .ref bl_, .int it_, .int ub_, .int db_, .ref bx_, .int (nI n_), .int (nI p9_), .int tk_, .int pl_, .int (nI vn_), .int (-1), .ref bc_, .ref bf_])), (bx_, .inl (cy 0, 200, .inl tx_))] s.heap := hP
  have hD : va_D A [(b0_, .inr (9, [.int th_, .long tr_, .ref bn_, .ref bt_, .ref bs_, .ref bk_, .ref bp_, .ref bi_, .ref bl_, .int it_, .int ub_, .int db_, .ref bx_, .int (nI n_), .int (nI p9_), .int tk_, .int pl_, .int (nI vn_), .int (-1), .ref bc_, .ref bf_])), (bx_, .inl (cy 0, 200, .inl tx_))] := hD
  obtain ⟨H, hH⟩ : ∃ H0 : Heap, H0 = s.heap := ⟨_, rfl⟩
  obtain ⟨locs, hlo⟩ : ∃ L0 : List Loc, L0 = [] := ⟨_, rfl⟩
  have hS : va_S A s.heap H locs := by rw [hH, hlo]; exact hS
  rw [← hH] at hP
  show W p l e rmkX9_reads_w s m args below meth c s.heap [] 0 0 Q (F0 m 0 ls [])
  suffices hgo : W p l e rmkX9_reads_w s m args below meth c H locs 0 0 Q (F0 m 0 ls []) by rw [hH, hlo] at hgo; exact hgo
  clear hH hlo
  refine lv_aload_n hx hb dX9_reads_0 rfl (lv_at hl 0 rfl) ?_
  refine ca_V (q0 := 0) (n := 0) (rest := []) (wr := [(bx_, .inl (cy 0, 200, .inl tx_))]) F hK hE hA hP hD hS hl.1 (kX9_isWell_y (l := l) (D := D) (cy := cy) (sa := sa) b0_ th_ tr_ bn_ bt_ bs_ bk_ bp_ bi_ bl_ it_ ub_ db_ bx_ bc_ bf_ (nI n_) (nI p9_) tk_ pl_ (nI vn_)) gX9_reads_X9_isWell rfl rfl rfl rfl rfl rfl (by decide +kernel) ⟨by decide, by decide⟩ [0] [1] rfl rfl rfl rfl (by decide) rfl rfl (Nat.le_of_ble_eq_true rfl) dX9_reads_1 ⟨by decide, by decide⟩ (fun v9 u9 H locs hv hP hD hS => ?_)
  subst hv
  obtain ⟨hP, hD⟩ := re_ws (ws' := [(b0_, .inr (9, [.int th_, .long tr_, .ref bn_, .ref bt_, .ref bs_, .ref bk_, .ref bp_, .ref bi_, .ref bl_, .int it_, .int ub_, .int db_, .ref bx_, .int (nI n_), .int (nI p9_), .int tk_, .int pl_, .int (nI vn_), .int (-1), .ref bc_, .ref bf_])), (bx_, .inl (cy 0, 200, .inl tx_))]) hP hD [1, 0] rfl rfl
  refine W.eq (g2 := F0 m 4 ls [.int 1]) rfl ?_
  refine lv_if_ne (tgt := 9) hx hb dX9_reads_4 (by decide) (fun c_4 => ?_) (fun c_4 => ?_)
  · refine lv_iload_n hx hb dX9_reads_9 rfl (lv_at hl 1 rfl) ?_
    refine lv_if_ne (tgt := 23) hx hb dX9_reads_10 (by decide) (fun c_10 => ?_) (fun c_10 => ?_)
    · refine lv_aload_n hx hb dX9_reads_23 rfl (lv_at hl 0 rfl) ?_
      refine va_get (D := D) (ci := 9) (v := .int (nI vn_)) (C := RX9) (T := TX9) (N := 21) hx hb hts winX9 hown hK hP 0 rfl rfl 17 (by decide) wf149 (fun _ h9 => h9) rfl dX9_reads_24 ?_
      refine lv_istore_n (lv' := [(2, .int (nI vn_)), (0, .ref b0_), (1, .int 1)]) hx hb dX9_reads_27 rfl hl (by decide) rfl (fun ls hl => ?_)
      refine lv_aload_n hx hb dX9_reads_28 rfl (lv_at hl 1 rfl) ?_
      refine ca_V (q0 := 0) (n := 0) (rest := []) (wr := []) F hK hE hA hP hD hS hl.1 (kX9_advances (l := l) (D := D) (cy := cy) (sa := sa) b0_ th_ tr_ bn_ bt_ bs_ bk_ bp_ bi_ bl_ it_ ub_ db_ bx_ bc_ bf_ n_ tx_ p9_ tk_ pl_ (nI vn_) (-1) (by first | assumption | omega | decide) (by first | assumption | omega | decide) (by first | assumption | omega | decide)) gX9_reads_X9_advances rfl rfl rfl rfl rfl rfl (by decide +kernel) ⟨by decide, by decide⟩ [0, 1] [] rfl rfl rfl rfl (by decide) rfl rfl (Nat.le_of_ble_eq_true rfl) dX9_reads_29 ⟨by decide, by decide⟩ (fun v9 u9 H locs hv hP hD hS => ?_)
      obtain ⟨u29_vl2, hu9⟩ : ∃ z, z = u9 := ⟨_, rfl⟩
      subst hu9
      obtain ⟨hv, hhv_29⟩ := hv
      subst hv
      obtain ⟨hP, hD⟩ := re_ws (ws' := [(b0_, .inr (9, [.int th_, .long tr_, .ref bn_, .ref bt_, .ref bs_, .ref bk_, .ref bp_, .ref bi_, .ref bl_, .int it_, .int ub_, .int db_, .ref bx_, .int (nI n_), .int (nI (tkE tx_ n_ p9_)), .int (tkK tx_ n_ p9_), .int (nI (tkb tx_ n_ p9_)), .int u29_vl2, .int (-1), .ref bc_, .ref bf_])), (bx_, .inl (cy 0, 200, .inl tx_))]) hP hD [0, 1] rfl rfl
      refine W.eq (g2 := F0 m 32 ls []) rfl ?_
      refine lv_iload_n hx hb dX9_reads_32 rfl (lv_at hl 0 rfl) ?_
      exact RT _ _ (u29_vl2) H locs 33 ls (rt_i dX9_reads_33) ⟨rfl, (hhv_29)⟩ hP hD hS
    · exact absurd c_10 (by decide)
  · exact absurd c_4 (by decide)
abbrev rmkX9_reads_1 : Room := { frames := 3, cells := 0, slots := 0, locals := 69 }
set_option maxHeartbeats 4000000 in
set_option maxRecDepth 100000 in
theorem kX9_reads_1 {l : Launch} {D : va_G} {cy : Nat → ClassId} {sa : Nat → Nat} (b0_ : Nat) (th_ : Int32) (tr_ : Int64) (bn_ : Nat) (bt_ : Nat) (bs_ : Nat) (bk_ : Nat) (bp_ : Nat) (bi_ : Nat) (bl_ : Nat) (it_ : Int32) (ub_ : Int32) (db_ : Int32) (bx_ : Nat) (bc_ : Nat) (bf_ : Nat) (n_ : Nat) (tx_ : Nat → Int32) (p9_ : Nat) (tk_ : Int32) (pl_ : Int32) (vl_ : Int32) (hn : n_ ≤ 200) (htx : ∀ k, k < n_ → ¬ tx_ k < 0) (hp : p9_ ≤ n_) : CT (S := (Int32)) l D cy sa yX9_reads wsX9_reads rmkX9_reads_1 [.ref b0_, .int 1] [(b0_, .inr (9, [.int th_, .long tr_, .ref bn_, .ref bt_, .ref bs_, .ref bk_, .ref bp_, .ref bi_, .ref bl_, .int it_, .int ub_, .int db_, .ref bx_, .int (nI n_), .int (nI p9_), .int tk_, .int pl_, .int vl_, .int (-1), .ref bc_, .ref bf_])), (bx_, .inl (cy 0, 200, .inl tx_))] (fun v9 vl2 => v9 = some (.int vl_) ∧ (tkK tx_ n_ p9_ = 1 ∨ tkK tx_ n_ p9_ = 3 → vl2 = tkV tx_ n_ p9_)) (fun vl2 => [(b0_, .inr (9, [.int th_, .long tr_, .ref bn_, .ref bt_, .ref bs_, .ref bk_, .ref bp_, .ref bi_, .ref bl_, .int it_, .int ub_, .int db_, .ref bx_, .int (nI n_), .int (nI (tkE tx_ n_ p9_)), .int (tkK tx_ n_ p9_), .int (nI (tkb tx_ n_ p9_)), .int vl2, .int (-1), .ref bc_, .ref bf_])), (bx_, .inl (cy 0, 200, .inl tx_))]) 0 0 := by
  refine CT.of cX9_reads 3 (some .int) (by decide +kernel) rfl (Nat.le_of_ble_eq_true rfl) ?_
  intro p e s m args below meth c A Q ls F hmn hK hE hA hP hD hS hl RT
  obtain ⟨hx, hb, hml, hown, hts⟩ := id F
  have winX9 : ∀ w ∈ u_ws RX9 TX9 21, w ∈ wsX9_reads := by decide +kernel
  have wf149 := hts (.fieldLink RX9 149 "SelfSteerModel" "value" "I") (by decide +kernel)
  have hl : lv_has ls 3 [(0, .ref b0_), (1, .int 1)] := hl
  have hP : va_P D vwCl [(b0_, .inr (9, [.int th_, .long tr_, .ref bn_, .ref bt_, .ref bs_, .ref bk_, .ref bp_, .ref bi_, .ref bl_, .int it_, .int ub_, .int db_, .ref bx_, .int (nI n_), .int (nI p9_), .int tk_, .int pl_, .int vl_, .int (-1), .ref bc_, .ref bf_])), (bx_, .inl (cy 0, 200, .inl tx_))] s.heap := hP
  have hD : va_D A [(b0_, .inr (9, [.int th_, .long tr_, .ref bn_, .ref bt_, .ref bs_, .ref bk_, .ref bp_, .ref bi_, .ref bl_, .int it_, .int ub_, .int db_, .ref bx_, .int (nI n_), .int (nI p9_), .int tk_, .int pl_, .int vl_, .int (-1), .ref bc_, .ref bf_])), (bx_, .inl (cy 0, 200, .inl tx_))] := hD
  obtain ⟨H, hH⟩ : ∃ H0 : Heap, H0 = s.heap := ⟨_, rfl⟩
  obtain ⟨locs, hlo⟩ : ∃ L0 : List Loc, L0 = [] := ⟨_, rfl⟩
  have hS : va_S A s.heap H locs := by rw [hH, hlo]; exact hS
  rw [← hH] at hP
  show W p l e rmkX9_reads_1 s m args below meth c s.heap [] 0 0 Q (F0 m 0 ls [])
  suffices hgo : W p l e rmkX9_reads_1 s m args below meth c H locs 0 0 Q (F0 m 0 ls []) by rw [hH, hlo] at hgo; exact hgo
  clear hH hlo
  refine lv_aload_n hx hb dX9_reads_0 rfl (lv_at hl 0 rfl) ?_
  refine ca_V (q0 := 0) (n := 0) (rest := []) (wr := [(bx_, .inl (cy 0, 200, .inl tx_))]) F hK hE hA hP hD hS hl.1 (kX9_isWell_y (l := l) (D := D) (cy := cy) (sa := sa) b0_ th_ tr_ bn_ bt_ bs_ bk_ bp_ bi_ bl_ it_ ub_ db_ bx_ bc_ bf_ (nI n_) (nI p9_) tk_ pl_ vl_) gX9_reads_X9_isWell rfl rfl rfl rfl rfl rfl (by decide +kernel) ⟨by decide, by decide⟩ [0] [1] rfl rfl rfl rfl (by decide) rfl rfl (Nat.le_of_ble_eq_true rfl) dX9_reads_1 ⟨by decide, by decide⟩ (fun v9 u9 H locs hv hP hD hS => ?_)
  subst hv
  obtain ⟨hP, hD⟩ := re_ws (ws' := [(b0_, .inr (9, [.int th_, .long tr_, .ref bn_, .ref bt_, .ref bs_, .ref bk_, .ref bp_, .ref bi_, .ref bl_, .int it_, .int ub_, .int db_, .ref bx_, .int (nI n_), .int (nI p9_), .int tk_, .int pl_, .int vl_, .int (-1), .ref bc_, .ref bf_])), (bx_, .inl (cy 0, 200, .inl tx_))]) hP hD [1, 0] rfl rfl
  refine W.eq (g2 := F0 m 4 ls [.int 1]) rfl ?_
  refine lv_if_ne (tgt := 9) hx hb dX9_reads_4 (by decide) (fun c_4 => ?_) (fun c_4 => ?_)
  · refine lv_iload_n hx hb dX9_reads_9 rfl (lv_at hl 1 rfl) ?_
    refine lv_if_ne (tgt := 23) hx hb dX9_reads_10 (by decide) (fun c_10 => ?_) (fun c_10 => ?_)
    · refine lv_aload_n hx hb dX9_reads_23 rfl (lv_at hl 0 rfl) ?_
      refine va_get (D := D) (ci := 9) (v := .int vl_) (C := RX9) (T := TX9) (N := 21) hx hb hts winX9 hown hK hP 0 rfl rfl 17 (by decide) wf149 (fun _ h9 => h9) rfl dX9_reads_24 ?_
      refine lv_istore_n (lv' := [(2, .int vl_), (0, .ref b0_), (1, .int 1)]) hx hb dX9_reads_27 rfl hl (by decide) rfl (fun ls hl => ?_)
      refine lv_aload_n hx hb dX9_reads_28 rfl (lv_at hl 1 rfl) ?_
      refine ca_V (q0 := 0) (n := 0) (rest := []) (wr := []) F hK hE hA hP hD hS hl.1 (kX9_advances (l := l) (D := D) (cy := cy) (sa := sa) b0_ th_ tr_ bn_ bt_ bs_ bk_ bp_ bi_ bl_ it_ ub_ db_ bx_ bc_ bf_ n_ tx_ p9_ tk_ pl_ vl_ (-1) (by first | assumption | omega | decide) (by first | assumption | omega | decide) (by first | assumption | omega | decide)) gX9_reads_X9_advances rfl rfl rfl rfl rfl rfl (by decide +kernel) ⟨by decide, by decide⟩ [0, 1] [] rfl rfl rfl rfl (by decide) rfl rfl (Nat.le_of_ble_eq_true rfl) dX9_reads_29 ⟨by decide, by decide⟩ (fun v9 u9 H locs hv hP hD hS => ?_)
      obtain ⟨u29_vl2, hu9⟩ : ∃ z, z = u9 := ⟨_, rfl⟩
      subst hu9
      obtain ⟨hv, hhv_29⟩ := hv
      subst hv
      obtain ⟨hP, hD⟩ := re_ws (ws' := [(b0_, .inr (9, [.int th_, .long tr_, .ref bn_, .ref bt_, .ref bs_, .ref bk_, .ref bp_, .ref bi_, .ref bl_, .int it_, .int ub_, .int db_, .ref bx_, .int (nI n_), .int (nI (tkE tx_ n_ p9_)), .int (tkK tx_ n_ p9_), .int (nI (tkb tx_ n_ p9_)), .int u29_vl2, .int (-1), .ref bc_, .ref bf_])), (bx_, .inl (cy 0, 200, .inl tx_))]) hP hD [0, 1] rfl rfl
      refine W.eq (g2 := F0 m 32 ls []) rfl ?_
      refine lv_iload_n hx hb dX9_reads_32 rfl (lv_at hl 0 rfl) ?_
      exact RT _ _ (u29_vl2) H locs 33 ls (rt_i dX9_reads_33) ⟨rfl, (hhv_29)⟩ hP hD hS
    · exact absurd c_10 (by decide)
  · exact absurd c_4 (by decide)
abbrev rmkX9_reads_0 : Room := { frames := 1, cells := 0, slots := 0, locals := 20 }
set_option maxHeartbeats 4000000 in
set_option maxRecDepth 100000 in
theorem kX9_reads_0 {l : Launch} {D : va_G} {cy : Nat → ClassId} {sa : Nat → Nat} (b0_ : Nat) (th_ : Int32) (tr_ : Int64) (bn_ : Nat) (bt_ : Nat) (bs_ : Nat) (bk_ : Nat) (bp_ : Nat) (bi_ : Nat) (bl_ : Nat) (it_ : Int32) (ub_ : Int32) (db_ : Int32) (bx_ : Nat) (bc_ : Nat) (bf_ : Nat) (n_ : Nat) (tx_ : Nat → Int32) (nx_ : Int32) (tk_ : Int32) (pz_ : Nat) (vl_ : Int32)  : CD l D cy sa yX9_reads wsX9_reads rmkX9_reads_0 [.ref b0_, .int 0] [(b0_, .inr (9, [.int th_, .long tr_, .ref bn_, .ref bt_, .ref bs_, .ref bk_, .ref bp_, .ref bi_, .ref bl_, .int it_, .int ub_, .int db_, .ref bx_, .int (nI n_), .int nx_, .int tk_, .int (nI pz_), .int vl_, .int (-1), .ref bc_, .ref bf_])), (bx_, .inl (cy 0, 200, .inl tx_))] (some (.int 0)) [(b0_, .inr (9, [.int th_, .long tr_, .ref bn_, .ref bt_, .ref bs_, .ref bk_, .ref bp_, .ref bi_, .ref bl_, .int it_, .int ub_, .int db_, .ref bx_, .int (nI n_), .int nx_, .int tk_, .int (nI pz_), .int vl_, .int (nI pz_), .ref bc_, .ref bf_])), (bx_, .inl (cy 0, 200, .inl tx_))] := by
  refine CT.of cX9_reads 3 (some .int) (by decide +kernel) rfl (Nat.le_of_ble_eq_true rfl) ?_
  intro p e s m args below meth c A Q ls F hmn hK hE hA hP hD hS hl RT
  obtain ⟨hx, hb, hml, hown, hts⟩ := id F
  have winX9 : ∀ w ∈ u_ws RX9 TX9 21, w ∈ wsX9_reads := by decide +kernel
  have wf139 := hts (.fieldLink RX9 139 "SelfSteerModel" "place" "I") (by decide +kernel)
  have wf152 := hts (.fieldLink RX9 152 "SelfSteerModel" "fault" "I") (by decide +kernel)
  have hl : lv_has ls 3 [(0, .ref b0_), (1, .int 0)] := hl
  have hP : va_P D vwCl [(b0_, .inr (9, [.int th_, .long tr_, .ref bn_, .ref bt_, .ref bs_, .ref bk_, .ref bp_, .ref bi_, .ref bl_, .int it_, .int ub_, .int db_, .ref bx_, .int (nI n_), .int nx_, .int tk_, .int (nI pz_), .int vl_, .int (-1), .ref bc_, .ref bf_])), (bx_, .inl (cy 0, 200, .inl tx_))] s.heap := hP
  have hD : va_D A [(b0_, .inr (9, [.int th_, .long tr_, .ref bn_, .ref bt_, .ref bs_, .ref bk_, .ref bp_, .ref bi_, .ref bl_, .int it_, .int ub_, .int db_, .ref bx_, .int (nI n_), .int nx_, .int tk_, .int (nI pz_), .int vl_, .int (-1), .ref bc_, .ref bf_])), (bx_, .inl (cy 0, 200, .inl tx_))] := hD
  obtain ⟨H, hH⟩ : ∃ H0 : Heap, H0 = s.heap := ⟨_, rfl⟩
  obtain ⟨locs, hlo⟩ : ∃ L0 : List Loc, L0 = [] := ⟨_, rfl⟩
  have hS : va_S A s.heap H locs := by rw [hH, hlo]; exact hS
  rw [← hH] at hP
  show W p l e rmkX9_reads_0 s m args below meth c s.heap [] 0 0 Q (F0 m 0 ls [])
  suffices hgo : W p l e rmkX9_reads_0 s m args below meth c H locs 0 0 Q (F0 m 0 ls []) by rw [hH, hlo] at hgo; exact hgo
  clear hH hlo
  refine lv_aload_n hx hb dX9_reads_0 rfl (lv_at hl 0 rfl) ?_
  refine ca_V (q0 := 0) (n := 0) (rest := []) (wr := [(bx_, .inl (cy 0, 200, .inl tx_))]) F hK hE hA hP hD hS hl.1 (kX9_isWell_y (l := l) (D := D) (cy := cy) (sa := sa) b0_ th_ tr_ bn_ bt_ bs_ bk_ bp_ bi_ bl_ it_ ub_ db_ bx_ bc_ bf_ (nI n_) nx_ tk_ (nI pz_) vl_) gX9_reads_X9_isWell rfl rfl rfl rfl rfl rfl (by decide +kernel) ⟨by decide, by decide⟩ [0] [1] rfl rfl rfl rfl (by decide) rfl rfl (Nat.le_of_ble_eq_true rfl) dX9_reads_1 ⟨by decide, by decide⟩ (fun v9 u9 H locs hv hP hD hS => ?_)
  subst hv
  obtain ⟨hP, hD⟩ := re_ws (ws' := [(b0_, .inr (9, [.int th_, .long tr_, .ref bn_, .ref bt_, .ref bs_, .ref bk_, .ref bp_, .ref bi_, .ref bl_, .int it_, .int ub_, .int db_, .ref bx_, .int (nI n_), .int nx_, .int tk_, .int (nI pz_), .int vl_, .int (-1), .ref bc_, .ref bf_])), (bx_, .inl (cy 0, 200, .inl tx_))]) hP hD [1, 0] rfl rfl
  refine W.eq (g2 := F0 m 4 ls [.int 1]) rfl ?_
  refine lv_if_ne (tgt := 9) hx hb dX9_reads_4 (by decide) (fun c_4 => ?_) (fun c_4 => ?_)
  · refine lv_iload_n hx hb dX9_reads_9 rfl (lv_at hl 1 rfl) ?_
    refine lv_if_ne (tgt := 23) hx hb dX9_reads_10 (by decide) (fun c_10 => ?_) (fun c_10 => ?_)
    · exact absurd (by decide) c_10
    · refine lv_aload_n hx hb dX9_reads_13 rfl (lv_at hl 0 rfl) ?_
      refine lv_aload_n hx hb dX9_reads_14 rfl (lv_at hl 0 rfl) ?_
      refine va_get (D := D) (ci := 9) (v := .int (nI pz_)) (C := RX9) (T := TX9) (N := 21) hx hb hts winX9 hown hK hP 0 rfl rfl 16 (by decide) wf139 (fun _ h9 => h9) rfl dX9_reads_15 ?_
      refine va_put (D := D) (ci := 9) (v := .int (nI pz_)) (ty := .int) (C := RX9) (T := TX9) (N := 21) hx hb hts winX9 tyX9 tyX9_ok nmX9 hown hK hP hD hS 0 rfl rfl 18 (by decide) wf152 (fun _ h9 => h9) rfl (by decide +kernel) (rfl) (rfl) (Nat.le_of_ble_eq_true rfl) dX9_reads_18 (fun H locs hP hD hS => ?_)
      have hP : va_P D vwCl [(b0_, .inr (9, [.int th_, .long tr_, .ref bn_, .ref bt_, .ref bs_, .ref bk_, .ref bp_, .ref bi_, .ref bl_, .int it_, .int ub_, .int db_, .ref bx_, .int (nI n_), .int nx_, .int tk_, .int (nI pz_), .int vl_, .int (nI pz_), .ref bc_, .ref bf_])), (bx_, .inl (cy 0, 200, .inl tx_))] H := hP
      have hD : va_D A [(b0_, .inr (9, [.int th_, .long tr_, .ref bn_, .ref bt_, .ref bs_, .ref bk_, .ref bp_, .ref bi_, .ref bl_, .int it_, .int ub_, .int db_, .ref bx_, .int (nI n_), .int nx_, .int tk_, .int (nI pz_), .int vl_, .int (nI pz_), .ref bc_, .ref bf_])), (bx_, .inl (cy 0, 200, .inl tx_))] := hD
      refine lv_iconst (v := 0) hx hb dX9_reads_21 (by decide) ?_
      exact RT _ _ () H locs 22 ls (rt_i dX9_reads_22) rfl hP hD hS
  · exact absurd c_4 (by decide)
abbrev rmkX9_reads_n : Room := { frames := 1, cells := 0, slots := 0, locals := 20 }
set_option maxHeartbeats 4000000 in
set_option maxRecDepth 100000 in
theorem kX9_reads_n {l : Launch} {D : va_G} {cy : Nat → ClassId} {sa : Nat → Nat} (b0_ : Nat) (th_ : Int32) (tr_ : Int64) (bn_ : Nat) (bt_ : Nat) (bs_ : Nat) (bk_ : Nat) (bp_ : Nat) (bi_ : Nat) (bl_ : Nat) (it_ : Int32) (ub_ : Int32) (db_ : Int32) (bx_ : Nat) (bc_ : Nat) (bf_ : Nat) (n_ : Nat) (tx_ : Nat → Int32) (nx_ : Int32) (tk_ : Int32) (pl_ : Int32) (vl_ : Int32) (f8_ : Nat) (iz_ : Int32) (hf8 : f8_ < 1000) : CD l D cy sa yX9_reads wsX9_reads rmkX9_reads_n [.ref b0_, .int iz_] [(b0_, .inr (9, [.int th_, .long tr_, .ref bn_, .ref bt_, .ref bs_, .ref bk_, .ref bp_, .ref bi_, .ref bl_, .int it_, .int ub_, .int db_, .ref bx_, .int (nI n_), .int nx_, .int tk_, .int pl_, .int vl_, .int (nI f8_), .ref bc_, .ref bf_])), (bx_, .inl (cy 0, 200, .inl tx_))] (some (.int 0)) [(b0_, .inr (9, [.int th_, .long tr_, .ref bn_, .ref bt_, .ref bs_, .ref bk_, .ref bp_, .ref bi_, .ref bl_, .int it_, .int ub_, .int db_, .ref bx_, .int (nI n_), .int nx_, .int tk_, .int pl_, .int vl_, .int (nI f8_), .ref bc_, .ref bf_])), (bx_, .inl (cy 0, 200, .inl tx_))] := by
  refine CT.of cX9_reads 3 (some .int) (by decide +kernel) rfl (Nat.le_of_ble_eq_true rfl) ?_
  intro p e s m args below meth c A Q ls F hmn hK hE hA hP hD hS hl RT
  obtain ⟨hx, hb, hml, hown, hts⟩ := id F
  have hl : lv_has ls 3 [(0, .ref b0_), (1, .int iz_)] := hl
  have hP : va_P D vwCl [(b0_, .inr (9, [.int th_, .long tr_, .ref bn_, .ref bt_, .ref bs_, .ref bk_, .ref bp_, .ref bi_, .ref bl_, .int it_, .int ub_, .int db_, .ref bx_, .int (nI n_), .int nx_, .int tk_, .int pl_, .int vl_, .int (nI f8_), .ref bc_, .ref bf_])), (bx_, .inl (cy 0, 200, .inl tx_))] s.heap := hP
  have hD : va_D A [(b0_, .inr (9, [.int th_, .long tr_, .ref bn_, .ref bt_, .ref bs_, .ref bk_, .ref bp_, .ref bi_, .ref bl_, .int it_, .int ub_, .int db_, .ref bx_, .int (nI n_), .int nx_, .int tk_, .int pl_, .int vl_, .int (nI f8_), .ref bc_, .ref bf_])), (bx_, .inl (cy 0, 200, .inl tx_))] := hD
  obtain ⟨H, hH⟩ : ∃ H0 : Heap, H0 = s.heap := ⟨_, rfl⟩
  obtain ⟨locs, hlo⟩ : ∃ L0 : List Loc, L0 = [] := ⟨_, rfl⟩
  have hS : va_S A s.heap H locs := by rw [hH, hlo]; exact hS
  rw [← hH] at hP
  show W p l e rmkX9_reads_n s m args below meth c s.heap [] 0 0 Q (F0 m 0 ls [])
  suffices hgo : W p l e rmkX9_reads_n s m args below meth c H locs 0 0 Q (F0 m 0 ls []) by rw [hH, hlo] at hgo; exact hgo
  clear hH hlo
  refine lv_aload_n hx hb dX9_reads_0 rfl (lv_at hl 0 rfl) ?_
  refine ca_V (q0 := 0) (n := 0) (rest := []) (wr := [(bx_, .inl (cy 0, 200, .inl tx_))]) F hK hE hA hP hD hS hl.1 (kX9_isWell_n (l := l) (D := D) (cy := cy) (sa := sa) b0_ th_ tr_ bn_ bt_ bs_ bk_ bp_ bi_ bl_ it_ ub_ db_ bx_ bc_ bf_ (nI n_) nx_ tk_ pl_ vl_ f8_ (by first | assumption | omega | decide)) gX9_reads_X9_isWell rfl rfl rfl rfl rfl rfl (by decide +kernel) ⟨by decide, by decide⟩ [0] [1] rfl rfl rfl rfl (by decide) rfl rfl (Nat.le_of_ble_eq_true rfl) dX9_reads_1 ⟨by decide, by decide⟩ (fun v9 u9 H locs hv hP hD hS => ?_)
  subst hv
  obtain ⟨hP, hD⟩ := re_ws (ws' := [(b0_, .inr (9, [.int th_, .long tr_, .ref bn_, .ref bt_, .ref bs_, .ref bk_, .ref bp_, .ref bi_, .ref bl_, .int it_, .int ub_, .int db_, .ref bx_, .int (nI n_), .int nx_, .int tk_, .int pl_, .int vl_, .int (nI f8_), .ref bc_, .ref bf_])), (bx_, .inl (cy 0, 200, .inl tx_))]) hP hD [1, 0] rfl rfl
  refine W.eq (g2 := F0 m 4 ls [.int 0]) rfl ?_
  refine lv_if_ne (tgt := 9) hx hb dX9_reads_4 (by decide) (fun c_4 => ?_) (fun c_4 => ?_)
  · exact absurd (by decide) c_4
  · refine lv_iconst (v := 0) hx hb dX9_reads_7 (by decide) ?_
    exact RT _ _ () H locs 8 ls (rt_i dX9_reads_8) rfl hP hD hS
abbrev rmkX9_rider : Room := { frames := 4, cells := 0, slots := 0, locals := 91 }
set_option maxHeartbeats 4000000 in
set_option maxRecDepth 100000 in
theorem kX9_rider {l : Launch} {D : va_G} {cy : Nat → ClassId} {sa : Nat → Nat} (b0_ : Nat) (th_ : Int32) (tr_ : Int64) (bn_ : Nat) (bt_ : Nat) (bs_ : Nat) (bk_ : Nat) (bp_ : Nat) (bi_ : Nat) (bl_ : Nat) (it_ : Int32) (ub_ : Int32) (db_ : Int32) (bx_ : Nat) (bc_ : Nat) (bf_ : Nat) (nx_ : Int32) (tk_ : Int32) (pl_ : Int32) (vl_ : Int32) (fa_ : Int32) (n_ : Nat) (tx_ : Nat → Int32) (lw_ : Nat → Int32) (hn : n_ ≤ 200) (htx : ∀ k, k < n_ → ¬ tx_ k < 0) : CT (S := (Int32) × (Int32) × (Int32) × (Int32) × (Int32) × (Nat → Int32)) l D cy sa yX9_rider wsX9_rider rmkX9_rider [.ref b0_] [(b0_, .inr (9, [.int th_, .long tr_, .ref bn_, .ref bt_, .ref bs_, .ref bk_, .ref bp_, .ref bi_, .ref bl_, .int it_, .int ub_, .int db_, .ref bx_, .int (nI n_), .int nx_, .int tk_, .int pl_, .int vl_, .int fa_, .ref bc_, .ref bf_])), (bx_, .inl (cy 0, 200, .inl tx_)), (bl_, .inl (cy 0, 10, .inl lw_))] (fun v9 u9 => match u9 with | (nx2, tk2, pl2, vl2, fa2, lm2) => v9 = some (.int (r_rider tx_ n_)) ∧ (∀ k, k < 5 → lm2 k = n_law tx_ n_ lw_ k)) (fun u9 => match u9 with | (nx2, tk2, pl2, vl2, fa2, lm2) => [(b0_, .inr (9, [.int 0, .long tr_, .ref bn_, .ref bt_, .ref bs_, .ref bk_, .ref bp_, .ref bi_, .ref bl_, .int (n_it tx_ n_ it_), .int ub_, .int db_, .ref bx_, .int (nI (n_tl tx_ n_)), .int nx2, .int tk2, .int pl2, .int vl2, .int fa2, .ref bc_, .ref bf_])), (bx_, .inl (cy 0, 200, .inl tx_)), (bl_, .inl (cy 0, 10, .inl lm2))]) 0 0 := by
  refine CT.of cX9_rider 6 (some .int) (by decide +kernel) rfl (Nat.le_of_ble_eq_true rfl) ?_
  intro p e s m args below meth c A Q ls F hmn hK hE hA hP hD hS hl RT
  obtain ⟨hx, hb, hml, hown, hts⟩ := id F
  have winX9 : ∀ w ∈ u_ws RX9 TX9 21, w ∈ wsX9_rider := by decide +kernel
  have wf48 := hts (.fieldLink RX9 48 "SelfSteerModel" "thrown" "I") (by decide +kernel)
  have wf152 := hts (.fieldLink RX9 152 "SelfSteerModel" "fault" "I") (by decide +kernel)
  have wf133 := hts (.fieldLink RX9 133 "SelfSteerModel" "next" "I") (by decide +kernel)
  have wf142 := hts (.fieldLink RX9 142 "SelfSteerModel" "token" "I") (by decide +kernel)
  have wf166 := hts (.fieldLink RX9 166 "SelfSteerModel" "items" "I") (by decide +kernel)
  have wf120 := hts (.fieldLink RX9 120 "SelfSteerModel" "typed" "I") (by decide +kernel)
  have wf29 := hts (.fieldLink RX9 29 "SelfSteerModel" "law" "[I") (by decide +kernel)
  have wf149 := hts (.fieldLink RX9 149 "SelfSteerModel" "value" "I") (by decide +kernel)
  have hl : lv_has ls 6 [(0, .ref b0_)] := hl
  have hP : va_P D vwCl [(b0_, .inr (9, [.int th_, .long tr_, .ref bn_, .ref bt_, .ref bs_, .ref bk_, .ref bp_, .ref bi_, .ref bl_, .int it_, .int ub_, .int db_, .ref bx_, .int (nI n_), .int nx_, .int tk_, .int pl_, .int vl_, .int fa_, .ref bc_, .ref bf_])), (bx_, .inl (cy 0, 200, .inl tx_)), (bl_, .inl (cy 0, 10, .inl lw_))] s.heap := hP
  have hD : va_D A [(b0_, .inr (9, [.int th_, .long tr_, .ref bn_, .ref bt_, .ref bs_, .ref bk_, .ref bp_, .ref bi_, .ref bl_, .int it_, .int ub_, .int db_, .ref bx_, .int (nI n_), .int nx_, .int tk_, .int pl_, .int vl_, .int fa_, .ref bc_, .ref bf_])), (bx_, .inl (cy 0, 200, .inl tx_)), (bl_, .inl (cy 0, 10, .inl lw_))] := hD
  obtain ⟨H, hH⟩ : ∃ H0 : Heap, H0 = s.heap := ⟨_, rfl⟩
  obtain ⟨locs, hlo⟩ : ∃ L0 : List Loc, L0 = [] := ⟨_, rfl⟩
  have hS : va_S A s.heap H locs := by rw [hH, hlo]; exact hS
  rw [← hH] at hP
  show W p l e rmkX9_rider s m args below meth c s.heap [] 0 0 Q (F0 m 0 ls [])
  suffices hgo : W p l e rmkX9_rider s m args below meth c H locs 0 0 Q (F0 m 0 ls []) by rw [hH, hlo] at hgo; exact hgo
  clear hH hlo
  refine lv_aload_n hx hb dX9_rider_0 rfl (lv_at hl 0 rfl) ?_
  refine lv_iconst (v := 0) hx hb dX9_rider_1 (by decide) ?_
  refine va_put (D := D) (ci := 9) (v := .int 0) (ty := .int) (C := RX9) (T := TX9) (N := 21) hx hb hts winX9 tyX9 tyX9_ok nmX9 hown hK hP hD hS 0 rfl rfl 0 (by decide) wf48 (fun _ h9 => h9) rfl (by decide +kernel) (rfl) (rfl) (Nat.le_of_ble_eq_true rfl) dX9_rider_2 (fun H locs hP hD hS => ?_)
  have hP : va_P D vwCl [(b0_, .inr (9, [.int 0, .long tr_, .ref bn_, .ref bt_, .ref bs_, .ref bk_, .ref bp_, .ref bi_, .ref bl_, .int it_, .int ub_, .int db_, .ref bx_, .int (nI n_), .int nx_, .int tk_, .int pl_, .int vl_, .int fa_, .ref bc_, .ref bf_])), (bx_, .inl (cy 0, 200, .inl tx_)), (bl_, .inl (cy 0, 10, .inl lw_))] H := hP
  have hD : va_D A [(b0_, .inr (9, [.int 0, .long tr_, .ref bn_, .ref bt_, .ref bs_, .ref bk_, .ref bp_, .ref bi_, .ref bl_, .int it_, .int ub_, .int db_, .ref bx_, .int (nI n_), .int nx_, .int tk_, .int pl_, .int vl_, .int fa_, .ref bc_, .ref bf_])), (bx_, .inl (cy 0, 200, .inl tx_)), (bl_, .inl (cy 0, 10, .inl lw_))] := hD
  refine lv_aload_n hx hb dX9_rider_5 rfl (lv_at hl 0 rfl) ?_
  refine lv_iconst (v := (-1)) hx hb dX9_rider_6 (by decide) ?_
  refine va_put (D := D) (ci := 9) (v := .int (-1)) (ty := .int) (C := RX9) (T := TX9) (N := 21) hx hb hts winX9 tyX9 tyX9_ok nmX9 hown hK hP hD hS 0 rfl rfl 18 (by decide) wf152 (fun _ h9 => h9) rfl (by decide +kernel) (rfl) (rfl) (Nat.le_of_ble_eq_true rfl) dX9_rider_7 (fun H locs hP hD hS => ?_)
  have hP : va_P D vwCl [(b0_, .inr (9, [.int 0, .long tr_, .ref bn_, .ref bt_, .ref bs_, .ref bk_, .ref bp_, .ref bi_, .ref bl_, .int it_, .int ub_, .int db_, .ref bx_, .int (nI n_), .int nx_, .int tk_, .int pl_, .int vl_, .int (-1), .ref bc_, .ref bf_])), (bx_, .inl (cy 0, 200, .inl tx_)), (bl_, .inl (cy 0, 10, .inl lw_))] H := hP
  have hD : va_D A [(b0_, .inr (9, [.int 0, .long tr_, .ref bn_, .ref bt_, .ref bs_, .ref bk_, .ref bp_, .ref bi_, .ref bl_, .int it_, .int ub_, .int db_, .ref bx_, .int (nI n_), .int nx_, .int tk_, .int pl_, .int vl_, .int (-1), .ref bc_, .ref bf_])), (bx_, .inl (cy 0, 200, .inl tx_)), (bl_, .inl (cy 0, 10, .inl lw_))] := hD
  refine lv_aload_n hx hb dX9_rider_10 rfl (lv_at hl 0 rfl) ?_
  refine lv_iconst (v := 0) hx hb dX9_rider_11 (by decide) ?_
  refine va_put (D := D) (ci := 9) (v := .int 0) (ty := .int) (C := RX9) (T := TX9) (N := 21) hx hb hts winX9 tyX9 tyX9_ok nmX9 hown hK hP hD hS 0 rfl rfl 14 (by decide) wf133 (fun _ h9 => h9) rfl (by decide +kernel) (rfl) (rfl) (Nat.le_of_ble_eq_true rfl) dX9_rider_12 (fun H locs hP hD hS => ?_)
  have hP : va_P D vwCl [(b0_, .inr (9, [.int 0, .long tr_, .ref bn_, .ref bt_, .ref bs_, .ref bk_, .ref bp_, .ref bi_, .ref bl_, .int it_, .int ub_, .int db_, .ref bx_, .int (nI n_), .int 0, .int tk_, .int pl_, .int vl_, .int (-1), .ref bc_, .ref bf_])), (bx_, .inl (cy 0, 200, .inl tx_)), (bl_, .inl (cy 0, 10, .inl lw_))] H := hP
  have hD : va_D A [(b0_, .inr (9, [.int 0, .long tr_, .ref bn_, .ref bt_, .ref bs_, .ref bk_, .ref bp_, .ref bi_, .ref bl_, .int it_, .int ub_, .int db_, .ref bx_, .int (nI n_), .int 0, .int tk_, .int pl_, .int vl_, .int (-1), .ref bc_, .ref bf_])), (bx_, .inl (cy 0, 200, .inl tx_)), (bl_, .inl (cy 0, 10, .inl lw_))] := hD
  refine lv_iconst (v := 0) hx hb dX9_rider_15 (by decide) ?_
  refine lv_istore_n (lv' := [(1, .int 0), (0, .ref b0_)]) hx hb dX9_rider_16 rfl hl (by decide) rfl (fun ls hl => ?_)
  refine lv_iconst (v := 0) hx hb dX9_rider_17 (by decide) ?_
  refine lv_istore_n (lv' := [(2, .int 0), (1, .int 0), (0, .ref b0_)]) hx hb dX9_rider_18 rfl hl (by decide) rfl (fun ls hl => ?_)
  refine lv_iconst (v := 0) hx hb dX9_rider_19 (by decide) ?_
  refine lv_istore_n (lv' := [(3, .int 0), (2, .int 0), (1, .int 0), (0, .ref b0_)]) hx hb dX9_rider_20 rfl hl (by decide) rfl (fun ls hl => ?_)
  have L_21 : ∀ (nF : Nat) (i_ : Nat) (lc_ : Nat → Int32), (i_ ≤ 5) → (∀ k, k < 5 → lc_ k = lw_ k) → (∀ k, k < i_ → lc_ (5 + k) = s_UNTOLD k) → 5 - i_ < nF → ∀ (H : Heap) (locs : List Loc), va_P D vwCl [(b0_, .inr (9, [.int 0, .long tr_, .ref bn_, .ref bt_, .ref bs_, .ref bk_, .ref bp_, .ref bi_, .ref bl_, .int it_, .int ub_, .int db_, .ref bx_, .int (nI n_), .int 0, .int tk_, .int pl_, .int vl_, .int (-1), .ref bc_, .ref bf_])), (bx_, .inl (cy 0, 200, .inl tx_)), (bl_, .inl (cy 0, 10, .inl lc_))] H → va_D A [(b0_, .inr (9, [.int 0, .long tr_, .ref bn_, .ref bt_, .ref bs_, .ref bk_, .ref bp_, .ref bi_, .ref bl_, .int it_, .int ub_, .int db_, .ref bx_, .int (nI n_), .int 0, .int tk_, .int pl_, .int vl_, .int (-1), .ref bc_, .ref bf_])), (bx_, .inl (cy 0, 200, .inl tx_)), (bl_, .inl (cy 0, 10, .inl lc_))] → va_S A s.heap H locs → ∀ (ls : Array Slot), lv_has ls 6 [(3, .int (nI i_)), (2, .int 0), (1, .int 0), (0, .ref b0_)] → W p l e rmkX9_rider s m args below meth c H locs 0 0 Q (F0 m 21 ls []) := by
    intro nF
    induction nF with
    | zero => intro i_ lc_ hi hlo hup hnF; exact absurd hnF (Nat.not_lt_zero _)
    | succ nF ih_21 =>
      intro i_ lc_ hi hlo hup hn_21 H locs hP hD hS ls hl
      refine lv_iload_n hx hb dX9_rider_21 rfl (lv_at hl 0 rfl) ?_
      refine lv_iconst (v := 5) hx hb dX9_rider_22 (by decide) ?_
      refine cn_ge (tgt := 52) hx hb i_ 5 rfl rfl (by omega) (by omega) dX9_rider_23 (by decide) (fun c_23 => ?_) (fun c_23 => ?_)
      · refine lv_aload_n hx hb dX9_rider_52 rfl (lv_at hl 3 rfl) ?_
        refine ca_V (q0 := 0) (n := 0) (rest := []) (wr := [(bl_, .inl (cy 0, 10, .inl lc_))]) F hK hE hA hP hD hS hl.1 (kX9_advances (l := l) (D := D) (cy := cy) (sa := sa) b0_ 0 tr_ bn_ bt_ bs_ bk_ bp_ bi_ bl_ it_ ub_ db_ bx_ bc_ bf_ n_ tx_ 0 tk_ pl_ vl_ (-1) (by first | assumption | omega | decide) (by first | assumption | omega | decide) (Nat.zero_le _)) gX9_rider_X9_advances rfl rfl rfl rfl rfl rfl (by decide +kernel) ⟨by decide, by decide⟩ [0, 1] [2] rfl rfl rfl rfl (by decide) rfl rfl (Nat.le_of_ble_eq_true rfl) dX9_rider_53 ⟨by decide, by decide⟩ (fun v9 u9 H locs hv hP hD hS => ?_)
        obtain ⟨u53_vl2, hu9⟩ : ∃ z, z = u9 := ⟨_, rfl⟩
        subst hu9
        obtain ⟨hv, hhv_53⟩ := hv
        subst hv
        obtain ⟨hP, hD⟩ := re_ws (ws' := [(b0_, .inr (9, [.int 0, .long tr_, .ref bn_, .ref bt_, .ref bs_, .ref bk_, .ref bp_, .ref bi_, .ref bl_, .int it_, .int ub_, .int db_, .ref bx_, .int (nI n_), .int (nI (tkE tx_ n_ 0)), .int (tkK tx_ n_ 0), .int (nI (tkb tx_ n_ 0)), .int u53_vl2, .int (-1), .ref bc_, .ref bf_])), (bx_, .inl (cy 0, 200, .inl tx_)), (bl_, .inl (cy 0, 10, .inl lc_))]) hP hD [1, 2, 0] rfl rfl
        refine W.eq (g2 := F0 m 56 ls []) rfl ?_
        have L_56 : ∀ (nF : Nat) (j_ : Nat) (p9_ : Nat) (v0_ : Int32) (tb_ : Int32) (lm_ : Nat → Int32) (lx_ : Nat → Int32) (fo_ : Option Nat) (nxc_ : Int32) (tkc_ : Int32) (plc_ : Int32), (fo_ = none → tkc_ = tkK tx_ n_ p9_ ∧ plc_ = nI (tkb tx_ n_ p9_) ∧ nxc_ = nI (tkE tx_ n_ p9_)) → (fo_ = none → j_ ≤ 5 ∧ p9_ ≤ n_ ∧ toldN tb_ j_ ∧ rdF tx_ n_ (6 - j_) p9_ tb_ lx_ = rdA tx_ n_ ∧ (tkK tx_ n_ p9_ = 1 ∨ tkK tx_ n_ p9_ = 3 → v0_ = tkV tx_ n_ p9_) ∧ ∀ k, k < 5 → lx_ k = lm_ (5 + k)) → (∀ f, fo_ = some f → (rdA tx_ n_).1 = some f) → (∀ f, fo_ = some f → f < 1000) → (∀ k, k < 5 → lm_ k = lw_ k) → mzR fo_ j_ < nF → ∀ (H : Heap) (locs : List Loc), va_P D vwCl [(b0_, .inr (9, [.int 0, .long tr_, .ref bn_, .ref bt_, .ref bs_, .ref bk_, .ref bp_, .ref bi_, .ref bl_, .int it_, .int ub_, .int db_, .ref bx_, .int (nI n_), .int nxc_, .int tkc_, .int plc_, .int v0_, .int (fvI fo_), .ref bc_, .ref bf_])), (bx_, .inl (cy 0, 200, .inl tx_)), (bl_, .inl (cy 0, 10, .inl lm_))] H → va_D A [(b0_, .inr (9, [.int 0, .long tr_, .ref bn_, .ref bt_, .ref bs_, .ref bk_, .ref bp_, .ref bi_, .ref bl_, .int it_, .int ub_, .int db_, .ref bx_, .int (nI n_), .int nxc_, .int tkc_, .int plc_, .int v0_, .int (fvI fo_), .ref bc_, .ref bf_])), (bx_, .inl (cy 0, 200, .inl tx_)), (bl_, .inl (cy 0, 10, .inl lm_))] → va_S A s.heap H locs → ∀ (ls : Array Slot), lv_has ls 6 [(2, .int (nI j_)), (1, .int tb_), (0, .ref b0_)] → W p l e rmkX9_rider s m args below meth c H locs 0 0 Q (F0 m 56 ls []) := by
          intro nF
          induction nF with
          | zero => intro j_ p9_ v0_ tb_ lm_ lx_ fo_ nxc_ tkc_ plc_ hm hI hF hf9 hlm hnF; exact absurd hnF (Nat.not_lt_zero _)
          | succ nF ih_56 =>
            intro j_ p9_ v0_ tb_ lm_ lx_ fo_ nxc_ tkc_ plc_ hm hI hF hf9 hlm hn_56 H locs hP hD hS ls hl
            refine lv_aload_n hx hb dX9_rider_56 rfl (lv_at hl 2 rfl) ?_
            refine ca_V (q0 := 0) (n := 0) (rest := []) (wr := [(bx_, .inl (cy 0, 200, .inl tx_)), (bl_, .inl (cy 0, 10, .inl lm_))]) F hK hE hA hP hD hS hl.1 (kX9_isWell_o (l := l) (D := D) (cy := cy) (sa := sa) b0_ 0 tr_ bn_ bt_ bs_ bk_ bp_ bi_ bl_ it_ ub_ db_ bx_ bc_ bf_ (nI n_) nxc_ tkc_ plc_ v0_ fo_ (hf9)) gX9_rider_X9_isWell rfl rfl rfl rfl rfl rfl (by decide +kernel) ⟨by decide, by decide⟩ [0] [1, 2] rfl rfl rfl rfl (by decide) rfl rfl (Nat.le_of_ble_eq_true rfl) dX9_rider_57 ⟨by decide, by decide⟩ (fun v9 u9 H locs hv hP hD hS => ?_)
            subst hv
            obtain ⟨hP, hD⟩ := re_ws (ws' := [(b0_, .inr (9, [.int 0, .long tr_, .ref bn_, .ref bt_, .ref bs_, .ref bk_, .ref bp_, .ref bi_, .ref bl_, .int it_, .int ub_, .int db_, .ref bx_, .int (nI n_), .int nxc_, .int tkc_, .int plc_, .int v0_, .int (fvI fo_), .ref bc_, .ref bf_])), (bx_, .inl (cy 0, 200, .inl tx_)), (bl_, .inl (cy 0, 10, .inl lm_))]) hP hD [2, 0, 1] rfl rfl
            refine W.eq (g2 := F0 m 60 ls [.int (bI (fo_ = none))]) rfl ?_
            refine bz_eq (tgt := 234) hx hb dX9_rider_60 (by decide) (fun c_60 => ?_) (fun c_60 => ?_)
            · refine lv_aload_n hx hb dX9_rider_234 rfl (lv_at hl 2 rfl) ?_
              refine ca_V (q0 := 0) (n := 0) (rest := []) (wr := [(bx_, .inl (cy 0, 200, .inl tx_)), (bl_, .inl (cy 0, 10, .inl lm_))]) F hK hE hA hP hD hS hl.1 (kX9_isWell_o (l := l) (D := D) (cy := cy) (sa := sa) b0_ 0 tr_ bn_ bt_ bs_ bk_ bp_ bi_ bl_ it_ ub_ db_ bx_ bc_ bf_ (nI n_) nxc_ tkc_ plc_ v0_ fo_ (hf9)) gX9_rider_X9_isWell rfl rfl rfl rfl rfl rfl (by decide +kernel) ⟨by decide, by decide⟩ [0] [1, 2] rfl rfl rfl rfl (by decide) rfl rfl (Nat.le_of_ble_eq_true rfl) dX9_rider_235 ⟨by decide, by decide⟩ (fun v9 u9 H locs hv hP hD hS => ?_)
              subst hv
              obtain ⟨hP, hD⟩ := re_ws (ws' := [(b0_, .inr (9, [.int 0, .long tr_, .ref bn_, .ref bt_, .ref bs_, .ref bk_, .ref bp_, .ref bi_, .ref bl_, .int it_, .int ub_, .int db_, .ref bx_, .int (nI n_), .int nxc_, .int tkc_, .int plc_, .int v0_, .int (fvI fo_), .ref bc_, .ref bf_])), (bx_, .inl (cy 0, 200, .inl tx_)), (bl_, .inl (cy 0, 10, .inl lm_))]) hP hD [2, 0, 1] rfl rfl
              refine W.eq (g2 := F0 m 238 ls [.int (bI (fo_ = none))]) rfl ?_
              refine bz_ne (tgt := 249) hx hb dX9_rider_238 (by decide) (fun c_238 => ?_) (fun c_238 => ?_)
              · exact absurd c_238 c_60
              · refine lv_bipush (v := (-10)) hx hb dX9_rider_241 (by decide) ?_
                refine lv_aload_n hx hb dX9_rider_243 rfl (lv_at hl 2 rfl) ?_
                refine va_get (D := D) (ci := 9) (v := .int (fvI fo_)) (C := RX9) (T := TX9) (N := 21) hx hb hts winX9 hown hK hP 0 rfl rfl 18 (by decide) wf152 (fun _ h9 => h9) rfl dX9_rider_244 ?_
                refine lv_isub hx hb dX9_rider_247 ?_
                have hnn : ∃ f, fo_ = some f := by cases fo_ with | none => exact absurd rfl c_60 | some f => exact ⟨f, rfl⟩
                obtain ⟨f, hfo⟩ := hnn
                have hbad : ¬ (rdA tx_ n_).1 = none := fun z => by rw [hF f hfo] at z; cases z
                obtain ⟨hP, hD⟩ := ob_ws (gs := [.int 0, .long tr_, .ref bn_, .ref bt_, .ref bs_, .ref bk_, .ref bp_, .ref bi_, .ref bl_, .int (n_it tx_ n_ it_), .int ub_, .int db_, .ref bx_, .int (nI (n_tl tx_ n_)), .int nxc_, .int tkc_, .int plc_, .int v0_, .int (fvI fo_), .ref bc_, .ref bf_]) hP hD 0 rfl (cons_eq2 (rfl) (cons_eq2 (rfl) (cons_eq2 (rfl) (cons_eq2 (rfl) (cons_eq2 (rfl) (cons_eq2 (rfl) (cons_eq2 (rfl) (cons_eq2 (rfl) (cons_eq2 (rfl) (cons_eq2 (congrArg Value.int (show it_ = n_it tx_ n_ it_ from by rw [n_it, if_neg hbad])) (cons_eq2 (rfl) (cons_eq2 (rfl) (cons_eq2 (rfl) (cons_eq2 (congrArg Value.int (show nI n_ = nI (n_tl tx_ n_) from by rw [n_tl, if_neg hbad])) (rfl)))))))))))))))
                have hP : va_P D vwCl [(b0_, .inr (9, [.int 0, .long tr_, .ref bn_, .ref bt_, .ref bs_, .ref bk_, .ref bp_, .ref bi_, .ref bl_, .int (n_it tx_ n_ it_), .int ub_, .int db_, .ref bx_, .int (nI (n_tl tx_ n_)), .int nxc_, .int tkc_, .int plc_, .int v0_, .int (fvI fo_), .ref bc_, .ref bf_])), (bx_, .inl (cy 0, 200, .inl tx_)), (bl_, .inl (cy 0, 10, .inl lm_))] H := hP
                have hD : va_D A [(b0_, .inr (9, [.int 0, .long tr_, .ref bn_, .ref bt_, .ref bs_, .ref bk_, .ref bp_, .ref bi_, .ref bl_, .int (n_it tx_ n_ it_), .int ub_, .int db_, .ref bx_, .int (nI (n_tl tx_ n_)), .int nxc_, .int tkc_, .int plc_, .int v0_, .int (fvI fo_), .ref bc_, .ref bf_])), (bx_, .inl (cy 0, 200, .inl tx_)), (bl_, .inl (cy 0, 10, .inl lm_))] := hD
                refine lv_eqi (y := r_rider tx_ n_) (by rw [r_rider, if_neg hbad, hF f hfo, hfo]) ?_
                exact RT _ _ (nxc_, tkc_, plc_, v0_, fvI fo_, lm_) H locs 248 ls (rt_i dX9_rider_248) ⟨rfl, (fun k hk => by rw [n_law, if_neg hbad]; exact hlm k hk)⟩ hP hD hS
            · subst c_60
              obtain ⟨rfl, rfl, rfl⟩ := hm rfl
              obtain ⟨hj, hp, hT, hRd, hv0, hlx⟩ := hI rfl
              have hP : va_P D vwCl [(b0_, .inr (9, [.int 0, .long tr_, .ref bn_, .ref bt_, .ref bs_, .ref bk_, .ref bp_, .ref bi_, .ref bl_, .int it_, .int ub_, .int db_, .ref bx_, .int (nI n_), .int (nI (tkE tx_ n_ p9_)), .int (tkK tx_ n_ p9_), .int (nI (tkb tx_ n_ p9_)), .int v0_, .int (-1), .ref bc_, .ref bf_])), (bx_, .inl (cy 0, 200, .inl tx_)), (bl_, .inl (cy 0, 10, .inl lm_))] H := hP
              have hD : va_D A [(b0_, .inr (9, [.int 0, .long tr_, .ref bn_, .ref bt_, .ref bs_, .ref bk_, .ref bp_, .ref bi_, .ref bl_, .int it_, .int ub_, .int db_, .ref bx_, .int (nI n_), .int (nI (tkE tx_ n_ p9_)), .int (tkK tx_ n_ p9_), .int (nI (tkb tx_ n_ p9_)), .int v0_, .int (-1), .ref bc_, .ref bf_])), (bx_, .inl (cy 0, 200, .inl tx_)), (bl_, .inl (cy 0, 10, .inl lm_))] := hD
              refine lv_aload_n hx hb dX9_rider_63 rfl (lv_at hl 2 rfl) ?_
              refine va_get (D := D) (ci := 9) (v := .int (tkK tx_ n_ p9_)) (C := RX9) (T := TX9) (N := 21) hx hb hts winX9 hown hK hP 0 rfl rfl 15 (by decide) wf142 (fun _ h9 => h9) rfl dX9_rider_64 ?_
              refine lv_if_eq (tgt := 234) hx hb dX9_rider_67 (by decide) (fun c_67 => ?_) (fun c_67 => ?_)
              · refine lv_aload_n hx hb dX9_rider_234 rfl (lv_at hl 2 rfl) ?_
                refine ca_V (q0 := 0) (n := 0) (rest := []) (wr := [(bx_, .inl (cy 0, 200, .inl tx_)), (bl_, .inl (cy 0, 10, .inl lm_))]) F hK hE hA hP hD hS hl.1 (kX9_isWell_y (l := l) (D := D) (cy := cy) (sa := sa) b0_ 0 tr_ bn_ bt_ bs_ bk_ bp_ bi_ bl_ it_ ub_ db_ bx_ bc_ bf_ (nI n_) (nI (tkE tx_ n_ p9_)) (tkK tx_ n_ p9_) (nI (tkb tx_ n_ p9_)) v0_) gX9_rider_X9_isWell rfl rfl rfl rfl rfl rfl (by decide +kernel) ⟨by decide, by decide⟩ [0] [1, 2] rfl rfl rfl rfl (by decide) rfl rfl (Nat.le_of_ble_eq_true rfl) dX9_rider_235 ⟨by decide, by decide⟩ (fun v9 u9 H locs hv hP hD hS => ?_)
                subst hv
                obtain ⟨hP, hD⟩ := re_ws (ws' := [(b0_, .inr (9, [.int 0, .long tr_, .ref bn_, .ref bt_, .ref bs_, .ref bk_, .ref bp_, .ref bi_, .ref bl_, .int it_, .int ub_, .int db_, .ref bx_, .int (nI n_), .int (nI (tkE tx_ n_ p9_)), .int (tkK tx_ n_ p9_), .int (nI (tkb tx_ n_ p9_)), .int v0_, .int (-1), .ref bc_, .ref bf_])), (bx_, .inl (cy 0, 200, .inl tx_)), (bl_, .inl (cy 0, 10, .inl lm_))]) hP hD [2, 0, 1] rfl rfl
                refine W.eq (g2 := F0 m 238 ls [.int 1]) rfl ?_
                refine lv_if_ne (tgt := 249) hx hb dX9_rider_238 (by decide) (fun c_238 => ?_) (fun c_238 => ?_)
                · have hok : rdA tx_ n_ = (none, tb_, lx_) := by rw [← hRd, show 6 - j_ = (6 - (j_ + 1)) + 1 by omega, rd_end c_67]
                  refine lv_iconst (v := 0) hx hb dX9_rider_249 (by decide) ?_
                  refine lv_istore_n (lv' := [(3, .int 0), (2, .int (nI j_)), (1, .int tb_), (0, .ref b0_)]) hx hb dX9_rider_250 rfl hl (by decide) rfl (fun ls hl => ?_)
                  have L_251 : ∀ (nF : Nat) (i_ : Nat) (lc2_ : Nat → Int32), (i_ ≤ 5) → (∀ k, k < i_ → lc2_ k = lx_ k) → (∀ k, k < 5 → lc2_ (5 + k) = lx_ k) → 5 - i_ < nF → ∀ (H : Heap) (locs : List Loc), va_P D vwCl [(b0_, .inr (9, [.int 0, .long tr_, .ref bn_, .ref bt_, .ref bs_, .ref bk_, .ref bp_, .ref bi_, .ref bl_, .int it_, .int ub_, .int db_, .ref bx_, .int (nI n_), .int (nI (tkE tx_ n_ p9_)), .int (tkK tx_ n_ p9_), .int (nI (tkb tx_ n_ p9_)), .int v0_, .int (-1), .ref bc_, .ref bf_])), (bx_, .inl (cy 0, 200, .inl tx_)), (bl_, .inl (cy 0, 10, .inl lc2_))] H → va_D A [(b0_, .inr (9, [.int 0, .long tr_, .ref bn_, .ref bt_, .ref bs_, .ref bk_, .ref bp_, .ref bi_, .ref bl_, .int it_, .int ub_, .int db_, .ref bx_, .int (nI n_), .int (nI (tkE tx_ n_ p9_)), .int (tkK tx_ n_ p9_), .int (nI (tkb tx_ n_ p9_)), .int v0_, .int (-1), .ref bc_, .ref bf_])), (bx_, .inl (cy 0, 200, .inl tx_)), (bl_, .inl (cy 0, 10, .inl lc2_))] → va_S A s.heap H locs → ∀ (ls : Array Slot), lv_has ls 6 [(3, .int (nI i_)), (2, .int (nI j_)), (1, .int tb_), (0, .ref b0_)] → W p l e rmkX9_rider s m args below meth c H locs 0 0 Q (F0 m 251 ls []) := by
                    intro nF
                    induction nF with
                    | zero => intro i_ lc2_ hi2 hc1 hc2 hnF; exact absurd hnF (Nat.not_lt_zero _)
                    | succ nF ih_251 =>
                      intro i_ lc2_ hi2 hc1 hc2 hn_251 H locs hP hD hS ls hl
                      refine lv_iload_n hx hb dX9_rider_251 rfl (lv_at hl 0 rfl) ?_
                      refine lv_iconst (v := 5) hx hb dX9_rider_252 (by decide) ?_
                      refine cn_ge (tgt := 276) hx hb i_ 5 rfl rfl (by omega) (by omega) dX9_rider_253 (by decide) (fun c_253 => ?_) (fun c_253 => ?_)
                      · refine lv_aload_n hx hb dX9_rider_276 rfl (lv_at hl 3 rfl) ?_
                        refine lv_iload_n hx hb dX9_rider_277 rfl (lv_at hl 1 rfl) ?_
                        refine va_put (D := D) (ci := 9) (v := .int (nI j_)) (ty := .int) (C := RX9) (T := TX9) (N := 21) hx hb hts winX9 tyX9 tyX9_ok nmX9 hown hK hP hD hS 0 rfl rfl 9 (by decide) wf166 (fun _ h9 => h9) rfl (by decide +kernel) (rfl) (rfl) (Nat.le_of_ble_eq_true rfl) dX9_rider_278 (fun H locs hP hD hS => ?_)
                        have hP : va_P D vwCl [(b0_, .inr (9, [.int 0, .long tr_, .ref bn_, .ref bt_, .ref bs_, .ref bk_, .ref bp_, .ref bi_, .ref bl_, .int (nI j_), .int ub_, .int db_, .ref bx_, .int (nI n_), .int (nI (tkE tx_ n_ p9_)), .int (tkK tx_ n_ p9_), .int (nI (tkb tx_ n_ p9_)), .int v0_, .int (-1), .ref bc_, .ref bf_])), (bx_, .inl (cy 0, 200, .inl tx_)), (bl_, .inl (cy 0, 10, .inl lc2_))] H := hP
                        have hD : va_D A [(b0_, .inr (9, [.int 0, .long tr_, .ref bn_, .ref bt_, .ref bs_, .ref bk_, .ref bp_, .ref bi_, .ref bl_, .int (nI j_), .int ub_, .int db_, .ref bx_, .int (nI n_), .int (nI (tkE tx_ n_ p9_)), .int (tkK tx_ n_ p9_), .int (nI (tkb tx_ n_ p9_)), .int v0_, .int (-1), .ref bc_, .ref bf_])), (bx_, .inl (cy 0, 200, .inl tx_)), (bl_, .inl (cy 0, 10, .inl lc2_))] := hD
                        refine lv_aload_n hx hb dX9_rider_281 rfl (lv_at hl 3 rfl) ?_
                        refine lv_iconst (v := 0) hx hb dX9_rider_282 (by decide) ?_
                        refine va_put (D := D) (ci := 9) (v := .int 0) (ty := .int) (C := RX9) (T := TX9) (N := 21) hx hb hts winX9 tyX9 tyX9_ok nmX9 hown hK hP hD hS 0 rfl rfl 13 (by decide) wf120 (fun _ h9 => h9) rfl (by decide +kernel) (rfl) (rfl) (Nat.le_of_ble_eq_true rfl) dX9_rider_283 (fun H locs hP hD hS => ?_)
                        have hP : va_P D vwCl [(b0_, .inr (9, [.int 0, .long tr_, .ref bn_, .ref bt_, .ref bs_, .ref bk_, .ref bp_, .ref bi_, .ref bl_, .int (nI j_), .int ub_, .int db_, .ref bx_, .int 0, .int (nI (tkE tx_ n_ p9_)), .int (tkK tx_ n_ p9_), .int (nI (tkb tx_ n_ p9_)), .int v0_, .int (-1), .ref bc_, .ref bf_])), (bx_, .inl (cy 0, 200, .inl tx_)), (bl_, .inl (cy 0, 10, .inl lc2_))] H := hP
                        have hD : va_D A [(b0_, .inr (9, [.int 0, .long tr_, .ref bn_, .ref bt_, .ref bs_, .ref bk_, .ref bp_, .ref bi_, .ref bl_, .int (nI j_), .int ub_, .int db_, .ref bx_, .int 0, .int (nI (tkE tx_ n_ p9_)), .int (tkK tx_ n_ p9_), .int (nI (tkb tx_ n_ p9_)), .int v0_, .int (-1), .ref bc_, .ref bf_])), (bx_, .inl (cy 0, 200, .inl tx_)), (bl_, .inl (cy 0, 10, .inl lc2_))] := hD
                        refine lv_aload_n hx hb dX9_rider_286 rfl (lv_at hl 3 rfl) ?_
                        refine va_get (D := D) (ci := 9) (v := .int (nI j_)) (C := RX9) (T := TX9) (N := 21) hx hb hts winX9 hown hK hP 0 rfl rfl 9 (by decide) wf166 (fun _ h9 => h9) rfl dX9_rider_287 ?_
                        have hg : (rdA tx_ n_).1 = none := by rw [hok]
                        have hpc : pc32 tb_ = nI j_ := hT.choose_spec.2.2
                        obtain ⟨hP, hD⟩ := ob_ws (gs := [.int 0, .long tr_, .ref bn_, .ref bt_, .ref bs_, .ref bk_, .ref bp_, .ref bi_, .ref bl_, .int (n_it tx_ n_ it_), .int ub_, .int db_, .ref bx_, .int (nI (n_tl tx_ n_)), .int (nI (tkE tx_ n_ p9_)), .int (tkK tx_ n_ p9_), .int (nI (tkb tx_ n_ p9_)), .int v0_, .int (-1), .ref bc_, .ref bf_]) hP hD 0 rfl (cons_eq2 (rfl) (cons_eq2 (rfl) (cons_eq2 (rfl) (cons_eq2 (rfl) (cons_eq2 (rfl) (cons_eq2 (rfl) (cons_eq2 (rfl) (cons_eq2 (rfl) (cons_eq2 (rfl) (cons_eq2 (congrArg Value.int (show nI j_ = n_it tx_ n_ it_ from by rw [n_it, if_pos hg, hok]; exact hpc.symm)) (cons_eq2 (rfl) (cons_eq2 (rfl) (cons_eq2 (rfl) (cons_eq2 (congrArg Value.int (show 0 = nI (n_tl tx_ n_) from by rw [n_tl, if_pos hg]; rfl)) (rfl)))))))))))))))
                        have hP : va_P D vwCl [(b0_, .inr (9, [.int 0, .long tr_, .ref bn_, .ref bt_, .ref bs_, .ref bk_, .ref bp_, .ref bi_, .ref bl_, .int (n_it tx_ n_ it_), .int ub_, .int db_, .ref bx_, .int (nI (n_tl tx_ n_)), .int (nI (tkE tx_ n_ p9_)), .int (tkK tx_ n_ p9_), .int (nI (tkb tx_ n_ p9_)), .int v0_, .int (-1), .ref bc_, .ref bf_])), (bx_, .inl (cy 0, 200, .inl tx_)), (bl_, .inl (cy 0, 10, .inl lc2_))] H := hP
                        have hD : va_D A [(b0_, .inr (9, [.int 0, .long tr_, .ref bn_, .ref bt_, .ref bs_, .ref bk_, .ref bp_, .ref bi_, .ref bl_, .int (n_it tx_ n_ it_), .int ub_, .int db_, .ref bx_, .int (nI (n_tl tx_ n_)), .int (nI (tkE tx_ n_ p9_)), .int (tkK tx_ n_ p9_), .int (nI (tkb tx_ n_ p9_)), .int v0_, .int (-1), .ref bc_, .ref bf_])), (bx_, .inl (cy 0, 200, .inl tx_)), (bl_, .inl (cy 0, 10, .inl lc2_))] := hD
                        refine lv_eqi (y := r_rider tx_ n_) (by rw [r_rider, if_pos hg, hok]; exact hpc.symm) ?_
                        exact RT _ _ (nI (tkE tx_ n_ p9_), tkK tx_ n_ p9_, nI (tkb tx_ n_ p9_), v0_, (-1), lc2_) H locs 290 ls (rt_i dX9_rider_290) ⟨rfl, (fun k hk => by rw [n_law, if_pos hg, hok]; exact hc1 k (by omega))⟩ hP hD hS
                      · refine lv_aload_n hx hb dX9_rider_256 rfl (lv_at hl 3 rfl) ?_
                        refine va_get (D := D) (ci := 9) (v := .ref bl_) (C := RX9) (T := TX9) (N := 21) hx hb hts winX9 hown hK hP 0 rfl rfl 8 (by decide) wf29 (fun _ h9 => h9) rfl dX9_rider_257 ?_
                        refine lv_iload_n hx hb dX9_rider_260 rfl (lv_at hl 0 rfl) ?_
                        refine lv_aload_n hx hb dX9_rider_261 rfl (lv_at hl 3 rfl) ?_
                        refine va_get (D := D) (ci := 9) (v := .ref bl_) (C := RX9) (T := TX9) (N := 21) hx hb hts winX9 hown hK hP 0 rfl rfl 8 (by decide) wf29 (fun _ h9 => h9) rfl dX9_rider_262 ?_
                        refine lv_iconst (v := 5) hx hb dX9_rider_265 (by decide) ?_
                        refine lv_iload_n hx hb dX9_rider_266 rfl (lv_at hl 0 rfl) ?_
                        refine lv_iadd hx hb dX9_rider_267 ?_
                        refine lv_eqi (y := nI (5 + i_)) (nI_add 5 i_) ?_
                        refine al_i hx hb hK hP 2 rfl (5 + i_) (rfl) (by omega) (by decide) dX9_rider_268 ?_
                        refine as_i (x := lc2_ (5 + i_)) hx hb hK hP hD hS 2 rfl i_ (rfl) (by omega) (by decide) dX9_rider_269 (fun H locs hP hD hS => ?_)
                        have hP : va_P D vwCl [(b0_, .inr (9, [.int 0, .long tr_, .ref bn_, .ref bt_, .ref bs_, .ref bk_, .ref bp_, .ref bi_, .ref bl_, .int it_, .int ub_, .int db_, .ref bx_, .int (nI n_), .int (nI (tkE tx_ n_ p9_)), .int (tkK tx_ n_ p9_), .int (nI (tkb tx_ n_ p9_)), .int v0_, .int (-1), .ref bc_, .ref bf_])), (bx_, .inl (cy 0, 200, .inl tx_)), (bl_, .inl (cy 0, 10, .inl (upd lc2_ i_ (lc2_ (5 + i_)))))] H := hP
                        have hD : va_D A [(b0_, .inr (9, [.int 0, .long tr_, .ref bn_, .ref bt_, .ref bs_, .ref bk_, .ref bp_, .ref bi_, .ref bl_, .int it_, .int ub_, .int db_, .ref bx_, .int (nI n_), .int (nI (tkE tx_ n_ p9_)), .int (tkK tx_ n_ p9_), .int (nI (tkb tx_ n_ p9_)), .int v0_, .int (-1), .ref bc_, .ref bf_])), (bx_, .inl (cy 0, 200, .inl tx_)), (bl_, .inl (cy 0, 10, .inl (upd lc2_ i_ (lc2_ (5 + i_)))))] := hD
                        refine lv_iinc (v := nI (i_ + 1)) (lv' := [(3, .int (nI (i_ + 1))), (2, .int (nI j_)), (1, .int tb_), (0, .ref b0_)]) hx hb dX9_rider_270 hl (k := 0) rfl (nI_add i_ 1) (by decide) rfl (fun ls hl => ?_)
                        refine lv_goto (tgt := 251) hx hb dX9_rider_273 (by decide) ?_
                        exact ih_251 (i_ + 1) (upd lc2_ i_ (lc2_ (5 + i_))) (by omega) (fun k hk => by by_cases e : k = i_; subst e; rw [upd_at]; exact hc2 k (by omega); rw [upd_ne _ _ e]; exact hc1 k (by omega)) (fun k hk => by rw [upd_ne _ _ (by omega)]; exact hc2 k hk) (by omega) H locs hP hD hS ls (lv_sub hl [0, 1, 2, 3] rfl)
                  exact L_251 _ 0 lm_ (by omega) (fun k hk => absurd hk (Nat.not_lt_zero _)) (fun k hk => (hlx k hk).symm) (Nat.lt_succ_self _) H locs hP hD hS ls (lv_sub hl [0, 1, 2, 3] rfl)
                · exact absurd c_238 (by decide)
              · refine lv_aload_n hx hb dX9_rider_70 rfl (lv_at hl 2 rfl) ?_
                refine lv_aload_n hx hb dX9_rider_71 rfl (lv_at hl 2 rfl) ?_
                refine va_get (D := D) (ci := 9) (v := .int (tkK tx_ n_ p9_)) (C := RX9) (T := TX9) (N := 21) hx hb hts winX9 hown hK hP 0 rfl rfl 15 (by decide) wf142 (fun _ h9 => h9) rfl dX9_rider_72 ?_
                refine lv_iconst (v := 1) hx hb dX9_rider_75 (by decide) ?_
                refine lv_icmp_ne (tgt := 94) hx hb dX9_rider_76 (by decide) (fun c_76 => ?_) (fun c_76 => ?_)
                · refine lv_iconst (v := 0) hx hb dX9_rider_94 (by decide) ?_
                  refine ca_V (q0 := 0) (n := 1) (rest := []) (wr := [(bl_, .inl (cy 0, 10, .inl lm_))]) F hK hE hA hP hD hS hl.1 (kX9_reads_0 (l := l) (D := D) (cy := cy) (sa := sa) b0_ 0 tr_ bn_ bt_ bs_ bk_ bp_ bi_ bl_ it_ ub_ db_ bx_ bc_ bf_ n_ tx_ (nI (tkE tx_ n_ p9_)) (tkK tx_ n_ p9_) (tkb tx_ n_ p9_) v0_) gX9_rider_X9_reads rfl rfl rfl rfl rfl rfl (by decide +kernel) ⟨by decide, by decide⟩ [0, 1] [2] rfl rfl rfl rfl (by decide) rfl rfl (Nat.le_of_ble_eq_true rfl) dX9_rider_95 ⟨by decide, by decide⟩ (fun v9 u9 H locs hv hP hD hS => ?_)
                  subst hv
                  obtain ⟨hP, hD⟩ := re_ws (ws' := [(b0_, .inr (9, [.int 0, .long tr_, .ref bn_, .ref bt_, .ref bs_, .ref bk_, .ref bp_, .ref bi_, .ref bl_, .int it_, .int ub_, .int db_, .ref bx_, .int (nI n_), .int (nI (tkE tx_ n_ p9_)), .int (tkK tx_ n_ p9_), .int (nI (tkb tx_ n_ p9_)), .int v0_, .int (nI (tkb tx_ n_ p9_)), .ref bc_, .ref bf_])), (bx_, .inl (cy 0, 200, .inl tx_)), (bl_, .inl (cy 0, 10, .inl lm_))]) hP hD [1, 2, 0] rfl rfl
                  refine W.eq (g2 := F0 m 98 ls [.int 0]) rfl ?_
                  have hf : itF tx_ n_ p9_ tb_ = some (tkb tx_ n_ p9_) := by unfold itF; rw [if_neg]; first | exact fun z => c_76 z.1 | exact fun z => c_87 ((told_b hT hwi).mpr (by rw [← hI9]; exact z.2))
                  refine lv_istore_n (lv' := [(3, .int 0), (2, .int (nI j_)), (1, .int tb_), (0, .ref b0_)]) hx hb dX9_rider_98 rfl hl (by decide) rfl (fun ls hl => ?_)
                  refine lv_iload_n hx hb dX9_rider_99 rfl (lv_at hl 2 rfl) ?_
                  refine lv_iconst (v := 1) hx hb dX9_rider_100 (by decide) ?_
                  refine lv_iload_n hx hb dX9_rider_101 rfl (lv_at hl 0 rfl) ?_
                  refine lv_ishl hx hb dX9_rider_102 ?_
                  refine lv_ior hx hb dX9_rider_103 ?_
                  refine lv_istore_n (lv' := [(1, .int (tb_ ||| ((1 : Int32) <<< ((0 : Int32) &&& 31)))), (3, .int 0), (2, .int (nI j_)), (0, .ref b0_)]) hx hb dX9_rider_104 rfl hl (by decide) rfl (fun ls hl => ?_)
                  refine lv_aload_n hx hb dX9_rider_105 rfl (lv_at hl 3 rfl) ?_
                  refine ca_V (q0 := 0) (n := 0) (rest := []) (wr := [(bx_, .inl (cy 0, 200, .inl tx_)), (bl_, .inl (cy 0, 10, .inl lm_))]) F hK hE hA hP hD hS hl.1 (kX9_isWell_n (l := l) (D := D) (cy := cy) (sa := sa) b0_ 0 tr_ bn_ bt_ bs_ bk_ bp_ bi_ bl_ it_ ub_ db_ bx_ bc_ bf_ (nI n_) (nI (tkE tx_ n_ p9_)) (tkK tx_ n_ p9_) (nI (tkb tx_ n_ p9_)) v0_ (tkb tx_ n_ p9_) (by have := tkb_le (tx := tx_) hp; have := tkb_le (tx := tx_) (tkE_le (tx := tx_) hp); have := tkb_le (tx := tx_) (tkE_le (tx := tx_) (tkE_le (tx := tx_) hp)); have := tkb_le (tx := tx_) (tkE_le (tx := tx_) (tkE_le (tx := tx_) (tkE_le (tx := tx_) hp))); omega)) gX9_rider_X9_isWell rfl rfl rfl rfl rfl rfl (by decide +kernel) ⟨by decide, by decide⟩ [0] [1, 2] rfl rfl rfl rfl (by decide) rfl rfl (Nat.le_of_ble_eq_true rfl) dX9_rider_106 ⟨by decide, by decide⟩ (fun v9 u9 H locs hv hP hD hS => ?_)
                  subst hv
                  obtain ⟨hP, hD⟩ := re_ws (ws' := [(b0_, .inr (9, [.int 0, .long tr_, .ref bn_, .ref bt_, .ref bs_, .ref bk_, .ref bp_, .ref bi_, .ref bl_, .int it_, .int ub_, .int db_, .ref bx_, .int (nI n_), .int (nI (tkE tx_ n_ p9_)), .int (tkK tx_ n_ p9_), .int (nI (tkb tx_ n_ p9_)), .int v0_, .int (nI (tkb tx_ n_ p9_)), .ref bc_, .ref bf_])), (bx_, .inl (cy 0, 200, .inl tx_)), (bl_, .inl (cy 0, 10, .inl lm_))]) hP hD [2, 0, 1] rfl rfl
                  refine W.eq (g2 := F0 m 109 ls [.int 0]) rfl ?_
                  refine lv_if_eq (tgt := 129) hx hb dX9_rider_109 (by decide) (fun c_109 => ?_) (fun c_109 => ?_)
                  · refine lv_iconst (v := 0) hx hb dX9_rider_129 (by decide) ?_
                    refine lv_istore (lv' := [(4, .int 0), (1, .int (tb_ ||| ((1 : Int32) <<< ((0 : Int32) &&& 31)))), (3, .int 0), (2, .int (nI j_)), (0, .ref b0_)]) hx hb dX9_rider_130 hl (by decide) rfl (fun ls hl => ?_)
                    refine lv_iload hx hb dX9_rider_132 (lv_at hl 0 rfl) ?_
                    refine lv_if_eq (tgt := 141) hx hb dX9_rider_134 (by decide) (fun c_134 => ?_) (fun c_134 => ?_)
                    · refine lv_aload_n hx hb dX9_rider_141 rfl (lv_at hl 4 rfl) ?_
                      refine lv_aload_n hx hb dX9_rider_142 rfl (lv_at hl 4 rfl) ?_
                      refine va_get (D := D) (ci := 9) (v := .int (tkK tx_ n_ p9_)) (C := RX9) (T := TX9) (N := 21) hx hb hts winX9 hown hK hP 0 rfl rfl 15 (by decide) wf142 (fun _ h9 => h9) rfl dX9_rider_143 ?_
                      refine lv_iconst (v := 3) hx hb dX9_rider_146 (by decide) ?_
                      refine lv_icmp_ne (tgt := 183) hx hb dX9_rider_147 (by decide) (fun c_147 => ?_) (fun c_147 => ?_)
                      · refine lv_iconst (v := 0) hx hb dX9_rider_183 (by decide) ?_
                        refine ca_V (q0 := 0) (n := 1) (rest := []) (wr := [(bl_, .inl (cy 0, 10, .inl lm_))]) F hK hE hA hP hD hS hl.1 (kX9_reads_n (l := l) (D := D) (cy := cy) (sa := sa) b0_ 0 tr_ bn_ bt_ bs_ bk_ bp_ bi_ bl_ it_ ub_ db_ bx_ bc_ bf_ n_ tx_ (nI (tkE tx_ n_ p9_)) (tkK tx_ n_ p9_) (nI (tkb tx_ n_ p9_)) v0_ (tkb tx_ n_ p9_) 0 (by have := tkb_le (tx := tx_) hp; have := tkb_le (tx := tx_) (tkE_le (tx := tx_) hp); have := tkb_le (tx := tx_) (tkE_le (tx := tx_) (tkE_le (tx := tx_) hp)); have := tkb_le (tx := tx_) (tkE_le (tx := tx_) (tkE_le (tx := tx_) (tkE_le (tx := tx_) hp))); omega)) gX9_rider_X9_reads rfl rfl rfl rfl rfl rfl (by decide +kernel) ⟨by decide, by decide⟩ [0, 1] [2] rfl rfl rfl rfl (by decide) rfl rfl (Nat.le_of_ble_eq_true rfl) dX9_rider_184 ⟨by decide, by decide⟩ (fun v9 u9 H locs hv hP hD hS => ?_)
                        subst hv
                        obtain ⟨hP, hD⟩ := re_ws (ws' := [(b0_, .inr (9, [.int 0, .long tr_, .ref bn_, .ref bt_, .ref bs_, .ref bk_, .ref bp_, .ref bi_, .ref bl_, .int it_, .int ub_, .int db_, .ref bx_, .int (nI n_), .int (nI (tkE tx_ n_ p9_)), .int (tkK tx_ n_ p9_), .int (nI (tkb tx_ n_ p9_)), .int v0_, .int (nI (tkb tx_ n_ p9_)), .ref bc_, .ref bf_])), (bx_, .inl (cy 0, 200, .inl tx_)), (bl_, .inl (cy 0, 10, .inl lm_))]) hP hD [1, 2, 0] rfl rfl
                        refine W.eq (g2 := F0 m 187 ls [.int 0]) rfl ?_
                        refine lv_istore (lv' := [(5, .int 0), (4, .int 0), (1, .int (tb_ ||| ((1 : Int32) <<< ((0 : Int32) &&& 31)))), (3, .int 0), (2, .int (nI j_)), (0, .ref b0_)]) hx hb dX9_rider_187 hl (by decide) rfl (fun ls hl => ?_)
                        refine lv_aload_n hx hb dX9_rider_189 rfl (lv_at hl 5 rfl) ?_
                        refine va_get (D := D) (ci := 9) (v := .ref bl_) (C := RX9) (T := TX9) (N := 21) hx hb hts winX9 hown hK hP 0 rfl rfl 8 (by decide) wf29 (fun _ h9 => h9) rfl dX9_rider_190 ?_
                        refine lv_iconst (v := 5) hx hb dX9_rider_193 (by decide) ?_
                        refine lv_iload_n hx hb dX9_rider_194 rfl (lv_at hl 3 rfl) ?_
                        refine lv_iadd hx hb dX9_rider_195 ?_
                        refine lv_eqi (y := 5) rfl ?_
                        refine lv_iload hx hb dX9_rider_196 (lv_at hl 1 rfl) ?_
                        refine lv_if_eq (tgt := 207) hx hb dX9_rider_198 (by decide) (fun c_198 => ?_) (fun c_198 => ?_)
                        · refine lv_iload hx hb dX9_rider_207 (lv_at hl 0 rfl) ?_
                          refine as_i (x := 0) hx hb hK hP hD hS 2 rfl 5 (rfl) (by decide) (by decide) dX9_rider_209 (fun H locs hP hD hS => ?_)
                          have hP : va_P D vwCl [(b0_, .inr (9, [.int 0, .long tr_, .ref bn_, .ref bt_, .ref bs_, .ref bk_, .ref bp_, .ref bi_, .ref bl_, .int it_, .int ub_, .int db_, .ref bx_, .int (nI n_), .int (nI (tkE tx_ n_ p9_)), .int (tkK tx_ n_ p9_), .int (nI (tkb tx_ n_ p9_)), .int v0_, .int (nI (tkb tx_ n_ p9_)), .ref bc_, .ref bf_])), (bx_, .inl (cy 0, 200, .inl tx_)), (bl_, .inl (cy 0, 10, .inl (upd lm_ 5 0)))] H := hP
                          have hD : va_D A [(b0_, .inr (9, [.int 0, .long tr_, .ref bn_, .ref bt_, .ref bs_, .ref bk_, .ref bp_, .ref bi_, .ref bl_, .int it_, .int ub_, .int db_, .ref bx_, .int (nI n_), .int (nI (tkE tx_ n_ p9_)), .int (tkK tx_ n_ p9_), .int (nI (tkb tx_ n_ p9_)), .int v0_, .int (nI (tkb tx_ n_ p9_)), .ref bc_, .ref bf_])), (bx_, .inl (cy 0, 200, .inl tx_)), (bl_, .inl (cy 0, 10, .inl (upd lm_ 5 0)))] := hD
                          refine lv_aload_n hx hb dX9_rider_210 rfl (lv_at hl 5 rfl) ?_
                          refine lv_aload_n hx hb dX9_rider_211 rfl (lv_at hl 5 rfl) ?_
                          refine va_get (D := D) (ci := 9) (v := .int (tkK tx_ n_ p9_)) (C := RX9) (T := TX9) (N := 21) hx hb hts winX9 hown hK hP 0 rfl rfl 15 (by decide) wf142 (fun _ h9 => h9) rfl dX9_rider_212 ?_
                          refine lv_iconst (v := 4) hx hb dX9_rider_215 (by decide) ?_
                          refine lv_icmp_ne (tgt := 223) hx hb dX9_rider_216 (by decide) (fun c_216 => ?_) (fun c_216 => ?_)
                          · refine lv_iconst (v := 0) hx hb dX9_rider_223 (by decide) ?_
                            refine ca_V (q0 := 0) (n := 1) (rest := []) (wr := [(bl_, .inl (cy 0, 10, .inl (upd lm_ 5 0)))]) F hK hE hA hP hD hS hl.1 (kX9_reads_n (l := l) (D := D) (cy := cy) (sa := sa) b0_ 0 tr_ bn_ bt_ bs_ bk_ bp_ bi_ bl_ it_ ub_ db_ bx_ bc_ bf_ n_ tx_ (nI (tkE tx_ n_ p9_)) (tkK tx_ n_ p9_) (nI (tkb tx_ n_ p9_)) v0_ (tkb tx_ n_ p9_) 0 (by have := tkb_le (tx := tx_) hp; have := tkb_le (tx := tx_) (tkE_le (tx := tx_) hp); have := tkb_le (tx := tx_) (tkE_le (tx := tx_) (tkE_le (tx := tx_) hp)); have := tkb_le (tx := tx_) (tkE_le (tx := tx_) (tkE_le (tx := tx_) (tkE_le (tx := tx_) hp))); omega)) gX9_rider_X9_reads rfl rfl rfl rfl rfl rfl (by decide +kernel) ⟨by decide, by decide⟩ [0, 1] [2] rfl rfl rfl rfl (by decide) rfl rfl (Nat.le_of_ble_eq_true rfl) dX9_rider_224 ⟨by decide, by decide⟩ (fun v9 u9 H locs hv hP hD hS => ?_)
                            subst hv
                            obtain ⟨hP, hD⟩ := re_ws (ws' := [(b0_, .inr (9, [.int 0, .long tr_, .ref bn_, .ref bt_, .ref bs_, .ref bk_, .ref bp_, .ref bi_, .ref bl_, .int it_, .int ub_, .int db_, .ref bx_, .int (nI n_), .int (nI (tkE tx_ n_ p9_)), .int (tkK tx_ n_ p9_), .int (nI (tkb tx_ n_ p9_)), .int v0_, .int (nI (tkb tx_ n_ p9_)), .ref bc_, .ref bf_])), (bx_, .inl (cy 0, 200, .inl tx_)), (bl_, .inl (cy 0, 10, .inl (upd lm_ 5 0)))]) hP hD [1, 2, 0] rfl rfl
                            refine W.eq (g2 := F0 m 227 ls [.int 0]) rfl ?_
                            refine lv_pop hx hb dX9_rider_227 rfl ?_
                            refine lv_iinc (v := nI (j_ + 1)) (lv' := [(2, .int (nI (j_ + 1))), (5, .int 0), (4, .int 0), (1, .int (tb_ ||| ((1 : Int32) <<< ((0 : Int32) &&& 31)))), (3, .int 0), (0, .ref b0_)]) hx hb dX9_rider_228 hl (k := 4) rfl (nI_add j_ 1) (by decide) rfl (fun ls hl => ?_)
                            refine lv_goto (tgt := 56) hx hb dX9_rider_231 (by decide) ?_
                            skip
                            skip
                            skip
                            skip
                            exact ih_56 (j_ + 1) p9_ v0_ (tb_ ||| ((1 : Int32) <<< ((0 : Int32) &&& 31))) (upd lm_ 5 0) lx_ (some (tkb tx_ n_ p9_)) (nI (tkE tx_ n_ p9_)) (tkK tx_ n_ p9_) (nI (tkb tx_ n_ p9_)) (by first | (intro z; cases z; done) | exact fun _ => ⟨rfl, rfl, rfl⟩) (by first | (intro z; cases z; done) | (intro _; have hok1 : tkK tx_ n_ p9_ = 1 ∧ tb_ &&& bitO (itI tx_ n_ p9_) = 0 := ⟨c_76, by rw [hI9]; exact (told_b hT hwi).mp c_87⟩; have hf : itF tx_ n_ p9_ tb_ = none := (by unfold itF it3; rw [if_pos hok1, h2, if_pos ⟨c_147, by rw [hI9, lrg_r wi_ hwi, ← ez156]; exact Int32.not_lt.mp c_176⟩, if_pos c_216]); have hT2 := toldN_s hT hj hf; rw [hI9] at hT2; refine ⟨hT2.2, ?_, hT2.1, ?_, hhv_224, ?_⟩; (first | exact tkE_le (tkE_le (tkE_le (tkE_le hp))) | exact tkE_le (tkE_le (tkE_le hp))); rw [← hRd, show 6 - j_ = (6 - (j_ + 1)) + 1 by omega, rd_go c_67 hf, hI9]; unfold itP it3; rw [h2]; exact fun k hk => by rw [hA9]; by_cases e : k = wi_ <;> first | (subst e; rw [upd_at, upd_at]; done) | (rw [upd_ne _ _ e, upd_ne _ _ (by omega)]; exact hlx k hk))) (by first | (intro f z; cases z; done) | (intro f z; obtain rfl := Option.some.inj z; rw [← hRd, show 6 - j_ = (6 - (j_ + 1)) + 1 by omega, rd_bad c_67 (fun y => by rw [hf] at y; cases y), hf])) (by first | (intro f z; cases z; done) | (intro f z; obtain rfl := Option.some.inj z; have := tkb_le (tx := tx_) hp; have := tkb_le (tx := tx_) (tkE_le (tx := tx_) hp); have := tkb_le (tx := tx_) (tkE_le (tx := tx_) (tkE_le (tx := tx_) hp)); have := tkb_le (tx := tx_) (tkE_le (tx := tx_) (tkE_le (tx := tx_) (tkE_le (tx := tx_) hp))); omega)) (fun k hk => by rw [upd_ne _ _ (by omega)]; exact hlm k hk) (by first | exact mz_n hn_56 (by omega) | exact mz_s hn_56 (by omega)) H locs hP hD hS ls (lv_sub hl [0, 3, 5] rfl)
                          · refine lv_iconst (v := 1) hx hb dX9_rider_219 (by decide) ?_
                            refine lv_goto (tgt := 224) hx hb dX9_rider_220 (by decide) ?_
                            refine ca_V (q0 := 0) (n := 1) (rest := []) (wr := [(bl_, .inl (cy 0, 10, .inl (upd lm_ 5 0)))]) F hK hE hA hP hD hS hl.1 (kX9_reads_n (l := l) (D := D) (cy := cy) (sa := sa) b0_ 0 tr_ bn_ bt_ bs_ bk_ bp_ bi_ bl_ it_ ub_ db_ bx_ bc_ bf_ n_ tx_ (nI (tkE tx_ n_ p9_)) (tkK tx_ n_ p9_) (nI (tkb tx_ n_ p9_)) v0_ (tkb tx_ n_ p9_) 1 (by have := tkb_le (tx := tx_) hp; have := tkb_le (tx := tx_) (tkE_le (tx := tx_) hp); have := tkb_le (tx := tx_) (tkE_le (tx := tx_) (tkE_le (tx := tx_) hp)); have := tkb_le (tx := tx_) (tkE_le (tx := tx_) (tkE_le (tx := tx_) (tkE_le (tx := tx_) hp))); omega)) gX9_rider_X9_reads rfl rfl rfl rfl rfl rfl (by decide +kernel) ⟨by decide, by decide⟩ [0, 1] [2] rfl rfl rfl rfl (by decide) rfl rfl (Nat.le_of_ble_eq_true rfl) dX9_rider_224 ⟨by decide, by decide⟩ (fun v9 u9 H locs hv hP hD hS => ?_)
                            subst hv
                            obtain ⟨hP, hD⟩ := re_ws (ws' := [(b0_, .inr (9, [.int 0, .long tr_, .ref bn_, .ref bt_, .ref bs_, .ref bk_, .ref bp_, .ref bi_, .ref bl_, .int it_, .int ub_, .int db_, .ref bx_, .int (nI n_), .int (nI (tkE tx_ n_ p9_)), .int (tkK tx_ n_ p9_), .int (nI (tkb tx_ n_ p9_)), .int v0_, .int (nI (tkb tx_ n_ p9_)), .ref bc_, .ref bf_])), (bx_, .inl (cy 0, 200, .inl tx_)), (bl_, .inl (cy 0, 10, .inl (upd lm_ 5 0)))]) hP hD [1, 2, 0] rfl rfl
                            refine W.eq (g2 := F0 m 227 ls [.int 0]) rfl ?_
                            refine lv_pop hx hb dX9_rider_227 rfl ?_
                            refine lv_iinc (v := nI (j_ + 1)) (lv' := [(2, .int (nI (j_ + 1))), (5, .int 0), (4, .int 0), (1, .int (tb_ ||| ((1 : Int32) <<< ((0 : Int32) &&& 31)))), (3, .int 0), (0, .ref b0_)]) hx hb dX9_rider_228 hl (k := 4) rfl (nI_add j_ 1) (by decide) rfl (fun ls hl => ?_)
                            refine lv_goto (tgt := 56) hx hb dX9_rider_231 (by decide) ?_
                            skip
                            skip
                            skip
                            skip
                            exact ih_56 (j_ + 1) p9_ v0_ (tb_ ||| ((1 : Int32) <<< ((0 : Int32) &&& 31))) (upd lm_ 5 0) lx_ (some (tkb tx_ n_ p9_)) (nI (tkE tx_ n_ p9_)) (tkK tx_ n_ p9_) (nI (tkb tx_ n_ p9_)) (by first | (intro z; cases z; done) | exact fun _ => ⟨rfl, rfl, rfl⟩) (by first | (intro z; cases z; done) | (intro _; have hok1 : tkK tx_ n_ p9_ = 1 ∧ tb_ &&& bitO (itI tx_ n_ p9_) = 0 := ⟨c_76, by rw [hI9]; exact (told_b hT hwi).mp c_87⟩; have hf : itF tx_ n_ p9_ tb_ = none := (by unfold itF it3; rw [if_pos hok1, h2, if_pos ⟨c_147, by rw [hI9, lrg_r wi_ hwi, ← ez156]; exact Int32.not_lt.mp c_176⟩, if_pos c_216]); have hT2 := toldN_s hT hj hf; rw [hI9] at hT2; refine ⟨hT2.2, ?_, hT2.1, ?_, hhv_224, ?_⟩; (first | exact tkE_le (tkE_le (tkE_le (tkE_le hp))) | exact tkE_le (tkE_le (tkE_le hp))); rw [← hRd, show 6 - j_ = (6 - (j_ + 1)) + 1 by omega, rd_go c_67 hf, hI9]; unfold itP it3; rw [h2]; exact fun k hk => by rw [hA9]; by_cases e : k = wi_ <;> first | (subst e; rw [upd_at, upd_at]; done) | (rw [upd_ne _ _ e, upd_ne _ _ (by omega)]; exact hlx k hk))) (by first | (intro f z; cases z; done) | (intro f z; obtain rfl := Option.some.inj z; rw [← hRd, show 6 - j_ = (6 - (j_ + 1)) + 1 by omega, rd_bad c_67 (fun y => by rw [hf] at y; cases y), hf])) (by first | (intro f z; cases z; done) | (intro f z; obtain rfl := Option.some.inj z; have := tkb_le (tx := tx_) hp; have := tkb_le (tx := tx_) (tkE_le (tx := tx_) hp); have := tkb_le (tx := tx_) (tkE_le (tx := tx_) (tkE_le (tx := tx_) hp)); have := tkb_le (tx := tx_) (tkE_le (tx := tx_) (tkE_le (tx := tx_) (tkE_le (tx := tx_) hp))); omega)) (fun k hk => by rw [upd_ne _ _ (by omega)]; exact hlm k hk) (by first | exact mz_n hn_56 (by omega) | exact mz_s hn_56 (by omega)) H locs hP hD hS ls (lv_sub hl [0, 3, 5] rfl)
                        · exact absurd (by decide) c_198
                      · refine lv_aload_n hx hb dX9_rider_150 rfl (lv_at hl 4 rfl) ?_
                        refine va_get (D := D) (ci := 9) (v := .int v0_) (C := RX9) (T := TX9) (N := 21) hx hb hts winX9 hown hK hP 0 rfl rfl 17 (by decide) wf149 (fun _ h9 => h9) rfl dX9_rider_151 ?_
                        refine lv_iload_n hx hb dX9_rider_154 rfl (lv_at hl 2 rfl) ?_
                        refine lv_iconst (v := 3) hx hb dX9_rider_155 (by decide) ?_
                        refine lv_icmp_ge (tgt := 164) hx hb dX9_rider_156 (by decide) (fun c_156 => ?_) (fun c_156 => ?_)
                        · exact absurd c_156 (by decide)
                        · refine lv_bipush (v := 99) hx hb dX9_rider_159 (by decide) ?_
                          refine lv_goto (tgt := 176) hx hb dX9_rider_161 (by decide) ?_
                          refine lv_icmp_gt (tgt := 183) hx hb dX9_rider_176 (by decide) (fun c_176 => ?_) (fun c_176 => ?_)
                          · refine lv_iconst (v := 0) hx hb dX9_rider_183 (by decide) ?_
                            refine ca_V (q0 := 0) (n := 1) (rest := []) (wr := [(bl_, .inl (cy 0, 10, .inl lm_))]) F hK hE hA hP hD hS hl.1 (kX9_reads_n (l := l) (D := D) (cy := cy) (sa := sa) b0_ 0 tr_ bn_ bt_ bs_ bk_ bp_ bi_ bl_ it_ ub_ db_ bx_ bc_ bf_ n_ tx_ (nI (tkE tx_ n_ p9_)) (tkK tx_ n_ p9_) (nI (tkb tx_ n_ p9_)) v0_ (tkb tx_ n_ p9_) 0 (by have := tkb_le (tx := tx_) hp; have := tkb_le (tx := tx_) (tkE_le (tx := tx_) hp); have := tkb_le (tx := tx_) (tkE_le (tx := tx_) (tkE_le (tx := tx_) hp)); have := tkb_le (tx := tx_) (tkE_le (tx := tx_) (tkE_le (tx := tx_) (tkE_le (tx := tx_) hp))); omega)) gX9_rider_X9_reads rfl rfl rfl rfl rfl rfl (by decide +kernel) ⟨by decide, by decide⟩ [0, 1] [2] rfl rfl rfl rfl (by decide) rfl rfl (Nat.le_of_ble_eq_true rfl) dX9_rider_184 ⟨by decide, by decide⟩ (fun v9 u9 H locs hv hP hD hS => ?_)
                            subst hv
                            obtain ⟨hP, hD⟩ := re_ws (ws' := [(b0_, .inr (9, [.int 0, .long tr_, .ref bn_, .ref bt_, .ref bs_, .ref bk_, .ref bp_, .ref bi_, .ref bl_, .int it_, .int ub_, .int db_, .ref bx_, .int (nI n_), .int (nI (tkE tx_ n_ p9_)), .int (tkK tx_ n_ p9_), .int (nI (tkb tx_ n_ p9_)), .int v0_, .int (nI (tkb tx_ n_ p9_)), .ref bc_, .ref bf_])), (bx_, .inl (cy 0, 200, .inl tx_)), (bl_, .inl (cy 0, 10, .inl lm_))]) hP hD [1, 2, 0] rfl rfl
                            refine W.eq (g2 := F0 m 187 ls [.int 0]) rfl ?_
                            refine lv_istore (lv' := [(5, .int 0), (4, .int 0), (1, .int (tb_ ||| ((1 : Int32) <<< ((0 : Int32) &&& 31)))), (3, .int 0), (2, .int (nI j_)), (0, .ref b0_)]) hx hb dX9_rider_187 hl (by decide) rfl (fun ls hl => ?_)
                            refine lv_aload_n hx hb dX9_rider_189 rfl (lv_at hl 5 rfl) ?_
                            refine va_get (D := D) (ci := 9) (v := .ref bl_) (C := RX9) (T := TX9) (N := 21) hx hb hts winX9 hown hK hP 0 rfl rfl 8 (by decide) wf29 (fun _ h9 => h9) rfl dX9_rider_190 ?_
                            refine lv_iconst (v := 5) hx hb dX9_rider_193 (by decide) ?_
                            refine lv_iload_n hx hb dX9_rider_194 rfl (lv_at hl 3 rfl) ?_
                            refine lv_iadd hx hb dX9_rider_195 ?_
                            refine lv_eqi (y := 5) rfl ?_
                            refine lv_iload hx hb dX9_rider_196 (lv_at hl 1 rfl) ?_
                            refine lv_if_eq (tgt := 207) hx hb dX9_rider_198 (by decide) (fun c_198 => ?_) (fun c_198 => ?_)
                            · refine lv_iload hx hb dX9_rider_207 (lv_at hl 0 rfl) ?_
                              refine as_i (x := 0) hx hb hK hP hD hS 2 rfl 5 (rfl) (by decide) (by decide) dX9_rider_209 (fun H locs hP hD hS => ?_)
                              have hP : va_P D vwCl [(b0_, .inr (9, [.int 0, .long tr_, .ref bn_, .ref bt_, .ref bs_, .ref bk_, .ref bp_, .ref bi_, .ref bl_, .int it_, .int ub_, .int db_, .ref bx_, .int (nI n_), .int (nI (tkE tx_ n_ p9_)), .int (tkK tx_ n_ p9_), .int (nI (tkb tx_ n_ p9_)), .int v0_, .int (nI (tkb tx_ n_ p9_)), .ref bc_, .ref bf_])), (bx_, .inl (cy 0, 200, .inl tx_)), (bl_, .inl (cy 0, 10, .inl (upd lm_ 5 0)))] H := hP
                              have hD : va_D A [(b0_, .inr (9, [.int 0, .long tr_, .ref bn_, .ref bt_, .ref bs_, .ref bk_, .ref bp_, .ref bi_, .ref bl_, .int it_, .int ub_, .int db_, .ref bx_, .int (nI n_), .int (nI (tkE tx_ n_ p9_)), .int (tkK tx_ n_ p9_), .int (nI (tkb tx_ n_ p9_)), .int v0_, .int (nI (tkb tx_ n_ p9_)), .ref bc_, .ref bf_])), (bx_, .inl (cy 0, 200, .inl tx_)), (bl_, .inl (cy 0, 10, .inl (upd lm_ 5 0)))] := hD
                              refine lv_aload_n hx hb dX9_rider_210 rfl (lv_at hl 5 rfl) ?_
                              refine lv_aload_n hx hb dX9_rider_211 rfl (lv_at hl 5 rfl) ?_
                              refine va_get (D := D) (ci := 9) (v := .int (tkK tx_ n_ p9_)) (C := RX9) (T := TX9) (N := 21) hx hb hts winX9 hown hK hP 0 rfl rfl 15 (by decide) wf142 (fun _ h9 => h9) rfl dX9_rider_212 ?_
                              refine lv_iconst (v := 4) hx hb dX9_rider_215 (by decide) ?_
                              refine lv_icmp_ne (tgt := 223) hx hb dX9_rider_216 (by decide) (fun c_216 => ?_) (fun c_216 => ?_)
                              · refine lv_iconst (v := 0) hx hb dX9_rider_223 (by decide) ?_
                                refine ca_V (q0 := 0) (n := 1) (rest := []) (wr := [(bl_, .inl (cy 0, 10, .inl (upd lm_ 5 0)))]) F hK hE hA hP hD hS hl.1 (kX9_reads_n (l := l) (D := D) (cy := cy) (sa := sa) b0_ 0 tr_ bn_ bt_ bs_ bk_ bp_ bi_ bl_ it_ ub_ db_ bx_ bc_ bf_ n_ tx_ (nI (tkE tx_ n_ p9_)) (tkK tx_ n_ p9_) (nI (tkb tx_ n_ p9_)) v0_ (tkb tx_ n_ p9_) 0 (by have := tkb_le (tx := tx_) hp; have := tkb_le (tx := tx_) (tkE_le (tx := tx_) hp); have := tkb_le (tx := tx_) (tkE_le (tx := tx_) (tkE_le (tx := tx_) hp)); have := tkb_le (tx := tx_) (tkE_le (tx := tx_) (tkE_le (tx := tx_) (tkE_le (tx := tx_) hp))); omega)) gX9_rider_X9_reads rfl rfl rfl rfl rfl rfl (by decide +kernel) ⟨by decide, by decide⟩ [0, 1] [2] rfl rfl rfl rfl (by decide) rfl rfl (Nat.le_of_ble_eq_true rfl) dX9_rider_224 ⟨by decide, by decide⟩ (fun v9 u9 H locs hv hP hD hS => ?_)
                                subst hv
                                obtain ⟨hP, hD⟩ := re_ws (ws' := [(b0_, .inr (9, [.int 0, .long tr_, .ref bn_, .ref bt_, .ref bs_, .ref bk_, .ref bp_, .ref bi_, .ref bl_, .int it_, .int ub_, .int db_, .ref bx_, .int (nI n_), .int (nI (tkE tx_ n_ p9_)), .int (tkK tx_ n_ p9_), .int (nI (tkb tx_ n_ p9_)), .int v0_, .int (nI (tkb tx_ n_ p9_)), .ref bc_, .ref bf_])), (bx_, .inl (cy 0, 200, .inl tx_)), (bl_, .inl (cy 0, 10, .inl (upd lm_ 5 0)))]) hP hD [1, 2, 0] rfl rfl
                                refine W.eq (g2 := F0 m 227 ls [.int 0]) rfl ?_
                                refine lv_pop hx hb dX9_rider_227 rfl ?_
                                refine lv_iinc (v := nI (j_ + 1)) (lv' := [(2, .int (nI (j_ + 1))), (5, .int 0), (4, .int 0), (1, .int (tb_ ||| ((1 : Int32) <<< ((0 : Int32) &&& 31)))), (3, .int 0), (0, .ref b0_)]) hx hb dX9_rider_228 hl (k := 4) rfl (nI_add j_ 1) (by decide) rfl (fun ls hl => ?_)
                                refine lv_goto (tgt := 56) hx hb dX9_rider_231 (by decide) ?_
                                skip
                                skip
                                skip
                                skip
                                exact ih_56 (j_ + 1) p9_ v0_ (tb_ ||| ((1 : Int32) <<< ((0 : Int32) &&& 31))) (upd lm_ 5 0) lx_ (some (tkb tx_ n_ p9_)) (nI (tkE tx_ n_ p9_)) (tkK tx_ n_ p9_) (nI (tkb tx_ n_ p9_)) (by first | (intro z; cases z; done) | exact fun _ => ⟨rfl, rfl, rfl⟩) (by first | (intro z; cases z; done) | (intro _; have hok1 : tkK tx_ n_ p9_ = 1 ∧ tb_ &&& bitO (itI tx_ n_ p9_) = 0 := ⟨c_76, by rw [hI9]; exact (told_b hT hwi).mp c_87⟩; have hf : itF tx_ n_ p9_ tb_ = none := (by unfold itF it3; rw [if_pos hok1, h2, if_pos ⟨c_147, by rw [hI9, lrg_r wi_ hwi, ← ez156]; exact Int32.not_lt.mp c_176⟩, if_pos c_216]); have hT2 := toldN_s hT hj hf; rw [hI9] at hT2; refine ⟨hT2.2, ?_, hT2.1, ?_, hhv_224, ?_⟩; (first | exact tkE_le (tkE_le (tkE_le (tkE_le hp))) | exact tkE_le (tkE_le (tkE_le hp))); rw [← hRd, show 6 - j_ = (6 - (j_ + 1)) + 1 by omega, rd_go c_67 hf, hI9]; unfold itP it3; rw [h2]; exact fun k hk => by rw [hA9]; by_cases e : k = wi_ <;> first | (subst e; rw [upd_at, upd_at]; done) | (rw [upd_ne _ _ e, upd_ne _ _ (by omega)]; exact hlx k hk))) (by first | (intro f z; cases z; done) | (intro f z; obtain rfl := Option.some.inj z; rw [← hRd, show 6 - j_ = (6 - (j_ + 1)) + 1 by omega, rd_bad c_67 (fun y => by rw [hf] at y; cases y), hf])) (by first | (intro f z; cases z; done) | (intro f z; obtain rfl := Option.some.inj z; have := tkb_le (tx := tx_) hp; have := tkb_le (tx := tx_) (tkE_le (tx := tx_) hp); have := tkb_le (tx := tx_) (tkE_le (tx := tx_) (tkE_le (tx := tx_) hp)); have := tkb_le (tx := tx_) (tkE_le (tx := tx_) (tkE_le (tx := tx_) (tkE_le (tx := tx_) hp))); omega)) (fun k hk => by rw [upd_ne _ _ (by omega)]; exact hlm k hk) (by first | exact mz_n hn_56 (by omega) | exact mz_s hn_56 (by omega)) H locs hP hD hS ls (lv_sub hl [0, 3, 5] rfl)
                              · refine lv_iconst (v := 1) hx hb dX9_rider_219 (by decide) ?_
                                refine lv_goto (tgt := 224) hx hb dX9_rider_220 (by decide) ?_
                                refine ca_V (q0 := 0) (n := 1) (rest := []) (wr := [(bl_, .inl (cy 0, 10, .inl (upd lm_ 5 0)))]) F hK hE hA hP hD hS hl.1 (kX9_reads_n (l := l) (D := D) (cy := cy) (sa := sa) b0_ 0 tr_ bn_ bt_ bs_ bk_ bp_ bi_ bl_ it_ ub_ db_ bx_ bc_ bf_ n_ tx_ (nI (tkE tx_ n_ p9_)) (tkK tx_ n_ p9_) (nI (tkb tx_ n_ p9_)) v0_ (tkb tx_ n_ p9_) 1 (by have := tkb_le (tx := tx_) hp; have := tkb_le (tx := tx_) (tkE_le (tx := tx_) hp); have := tkb_le (tx := tx_) (tkE_le (tx := tx_) (tkE_le (tx := tx_) hp)); have := tkb_le (tx := tx_) (tkE_le (tx := tx_) (tkE_le (tx := tx_) (tkE_le (tx := tx_) hp))); omega)) gX9_rider_X9_reads rfl rfl rfl rfl rfl rfl (by decide +kernel) ⟨by decide, by decide⟩ [0, 1] [2] rfl rfl rfl rfl (by decide) rfl rfl (Nat.le_of_ble_eq_true rfl) dX9_rider_224 ⟨by decide, by decide⟩ (fun v9 u9 H locs hv hP hD hS => ?_)
                                subst hv
                                obtain ⟨hP, hD⟩ := re_ws (ws' := [(b0_, .inr (9, [.int 0, .long tr_, .ref bn_, .ref bt_, .ref bs_, .ref bk_, .ref bp_, .ref bi_, .ref bl_, .int it_, .int ub_, .int db_, .ref bx_, .int (nI n_), .int (nI (tkE tx_ n_ p9_)), .int (tkK tx_ n_ p9_), .int (nI (tkb tx_ n_ p9_)), .int v0_, .int (nI (tkb tx_ n_ p9_)), .ref bc_, .ref bf_])), (bx_, .inl (cy 0, 200, .inl tx_)), (bl_, .inl (cy 0, 10, .inl (upd lm_ 5 0)))]) hP hD [1, 2, 0] rfl rfl
                                refine W.eq (g2 := F0 m 227 ls [.int 0]) rfl ?_
                                refine lv_pop hx hb dX9_rider_227 rfl ?_
                                refine lv_iinc (v := nI (j_ + 1)) (lv' := [(2, .int (nI (j_ + 1))), (5, .int 0), (4, .int 0), (1, .int (tb_ ||| ((1 : Int32) <<< ((0 : Int32) &&& 31)))), (3, .int 0), (0, .ref b0_)]) hx hb dX9_rider_228 hl (k := 4) rfl (nI_add j_ 1) (by decide) rfl (fun ls hl => ?_)
                                refine lv_goto (tgt := 56) hx hb dX9_rider_231 (by decide) ?_
                                skip
                                skip
                                skip
                                skip
                                exact ih_56 (j_ + 1) p9_ v0_ (tb_ ||| ((1 : Int32) <<< ((0 : Int32) &&& 31))) (upd lm_ 5 0) lx_ (some (tkb tx_ n_ p9_)) (nI (tkE tx_ n_ p9_)) (tkK tx_ n_ p9_) (nI (tkb tx_ n_ p9_)) (by first | (intro z; cases z; done) | exact fun _ => ⟨rfl, rfl, rfl⟩) (by first | (intro z; cases z; done) | (intro _; have hok1 : tkK tx_ n_ p9_ = 1 ∧ tb_ &&& bitO (itI tx_ n_ p9_) = 0 := ⟨c_76, by rw [hI9]; exact (told_b hT hwi).mp c_87⟩; have hf : itF tx_ n_ p9_ tb_ = none := (by unfold itF it3; rw [if_pos hok1, h2, if_pos ⟨c_147, by rw [hI9, lrg_r wi_ hwi, ← ez156]; exact Int32.not_lt.mp c_176⟩, if_pos c_216]); have hT2 := toldN_s hT hj hf; rw [hI9] at hT2; refine ⟨hT2.2, ?_, hT2.1, ?_, hhv_224, ?_⟩; (first | exact tkE_le (tkE_le (tkE_le (tkE_le hp))) | exact tkE_le (tkE_le (tkE_le hp))); rw [← hRd, show 6 - j_ = (6 - (j_ + 1)) + 1 by omega, rd_go c_67 hf, hI9]; unfold itP it3; rw [h2]; exact fun k hk => by rw [hA9]; by_cases e : k = wi_ <;> first | (subst e; rw [upd_at, upd_at]; done) | (rw [upd_ne _ _ e, upd_ne _ _ (by omega)]; exact hlx k hk))) (by first | (intro f z; cases z; done) | (intro f z; obtain rfl := Option.some.inj z; rw [← hRd, show 6 - j_ = (6 - (j_ + 1)) + 1 by omega, rd_bad c_67 (fun y => by rw [hf] at y; cases y), hf])) (by first | (intro f z; cases z; done) | (intro f z; obtain rfl := Option.some.inj z; have := tkb_le (tx := tx_) hp; have := tkb_le (tx := tx_) (tkE_le (tx := tx_) hp); have := tkb_le (tx := tx_) (tkE_le (tx := tx_) (tkE_le (tx := tx_) hp)); have := tkb_le (tx := tx_) (tkE_le (tx := tx_) (tkE_le (tx := tx_) (tkE_le (tx := tx_) hp))); omega)) (fun k hk => by rw [upd_ne _ _ (by omega)]; exact hlm k hk) (by first | exact mz_n hn_56 (by omega) | exact mz_s hn_56 (by omega)) H locs hP hD hS ls (lv_sub hl [0, 3, 5] rfl)
                            · exact absurd (by decide) c_198
                          · refine lv_iconst (v := 1) hx hb dX9_rider_179 (by decide) ?_
                            refine lv_goto (tgt := 184) hx hb dX9_rider_180 (by decide) ?_
                            refine ca_V (q0 := 0) (n := 1) (rest := []) (wr := [(bl_, .inl (cy 0, 10, .inl lm_))]) F hK hE hA hP hD hS hl.1 (kX9_reads_n (l := l) (D := D) (cy := cy) (sa := sa) b0_ 0 tr_ bn_ bt_ bs_ bk_ bp_ bi_ bl_ it_ ub_ db_ bx_ bc_ bf_ n_ tx_ (nI (tkE tx_ n_ p9_)) (tkK tx_ n_ p9_) (nI (tkb tx_ n_ p9_)) v0_ (tkb tx_ n_ p9_) 1 (by have := tkb_le (tx := tx_) hp; have := tkb_le (tx := tx_) (tkE_le (tx := tx_) hp); have := tkb_le (tx := tx_) (tkE_le (tx := tx_) (tkE_le (tx := tx_) hp)); have := tkb_le (tx := tx_) (tkE_le (tx := tx_) (tkE_le (tx := tx_) (tkE_le (tx := tx_) hp))); omega)) gX9_rider_X9_reads rfl rfl rfl rfl rfl rfl (by decide +kernel) ⟨by decide, by decide⟩ [0, 1] [2] rfl rfl rfl rfl (by decide) rfl rfl (Nat.le_of_ble_eq_true rfl) dX9_rider_184 ⟨by decide, by decide⟩ (fun v9 u9 H locs hv hP hD hS => ?_)
                            subst hv
                            obtain ⟨hP, hD⟩ := re_ws (ws' := [(b0_, .inr (9, [.int 0, .long tr_, .ref bn_, .ref bt_, .ref bs_, .ref bk_, .ref bp_, .ref bi_, .ref bl_, .int it_, .int ub_, .int db_, .ref bx_, .int (nI n_), .int (nI (tkE tx_ n_ p9_)), .int (tkK tx_ n_ p9_), .int (nI (tkb tx_ n_ p9_)), .int v0_, .int (nI (tkb tx_ n_ p9_)), .ref bc_, .ref bf_])), (bx_, .inl (cy 0, 200, .inl tx_)), (bl_, .inl (cy 0, 10, .inl lm_))]) hP hD [1, 2, 0] rfl rfl
                            refine W.eq (g2 := F0 m 187 ls [.int 0]) rfl ?_
                            refine lv_istore (lv' := [(5, .int 0), (4, .int 0), (1, .int (tb_ ||| ((1 : Int32) <<< ((0 : Int32) &&& 31)))), (3, .int 0), (2, .int (nI j_)), (0, .ref b0_)]) hx hb dX9_rider_187 hl (by decide) rfl (fun ls hl => ?_)
                            refine lv_aload_n hx hb dX9_rider_189 rfl (lv_at hl 5 rfl) ?_
                            refine va_get (D := D) (ci := 9) (v := .ref bl_) (C := RX9) (T := TX9) (N := 21) hx hb hts winX9 hown hK hP 0 rfl rfl 8 (by decide) wf29 (fun _ h9 => h9) rfl dX9_rider_190 ?_
                            refine lv_iconst (v := 5) hx hb dX9_rider_193 (by decide) ?_
                            refine lv_iload_n hx hb dX9_rider_194 rfl (lv_at hl 3 rfl) ?_
                            refine lv_iadd hx hb dX9_rider_195 ?_
                            refine lv_eqi (y := 5) rfl ?_
                            refine lv_iload hx hb dX9_rider_196 (lv_at hl 1 rfl) ?_
                            refine lv_if_eq (tgt := 207) hx hb dX9_rider_198 (by decide) (fun c_198 => ?_) (fun c_198 => ?_)
                            · refine lv_iload hx hb dX9_rider_207 (lv_at hl 0 rfl) ?_
                              refine as_i (x := 0) hx hb hK hP hD hS 2 rfl 5 (rfl) (by decide) (by decide) dX9_rider_209 (fun H locs hP hD hS => ?_)
                              have hP : va_P D vwCl [(b0_, .inr (9, [.int 0, .long tr_, .ref bn_, .ref bt_, .ref bs_, .ref bk_, .ref bp_, .ref bi_, .ref bl_, .int it_, .int ub_, .int db_, .ref bx_, .int (nI n_), .int (nI (tkE tx_ n_ p9_)), .int (tkK tx_ n_ p9_), .int (nI (tkb tx_ n_ p9_)), .int v0_, .int (nI (tkb tx_ n_ p9_)), .ref bc_, .ref bf_])), (bx_, .inl (cy 0, 200, .inl tx_)), (bl_, .inl (cy 0, 10, .inl (upd lm_ 5 0)))] H := hP
                              have hD : va_D A [(b0_, .inr (9, [.int 0, .long tr_, .ref bn_, .ref bt_, .ref bs_, .ref bk_, .ref bp_, .ref bi_, .ref bl_, .int it_, .int ub_, .int db_, .ref bx_, .int (nI n_), .int (nI (tkE tx_ n_ p9_)), .int (tkK tx_ n_ p9_), .int (nI (tkb tx_ n_ p9_)), .int v0_, .int (nI (tkb tx_ n_ p9_)), .ref bc_, .ref bf_])), (bx_, .inl (cy 0, 200, .inl tx_)), (bl_, .inl (cy 0, 10, .inl (upd lm_ 5 0)))] := hD
                              refine lv_aload_n hx hb dX9_rider_210 rfl (lv_at hl 5 rfl) ?_
                              refine lv_aload_n hx hb dX9_rider_211 rfl (lv_at hl 5 rfl) ?_
                              refine va_get (D := D) (ci := 9) (v := .int (tkK tx_ n_ p9_)) (C := RX9) (T := TX9) (N := 21) hx hb hts winX9 hown hK hP 0 rfl rfl 15 (by decide) wf142 (fun _ h9 => h9) rfl dX9_rider_212 ?_
                              refine lv_iconst (v := 4) hx hb dX9_rider_215 (by decide) ?_
                              refine lv_icmp_ne (tgt := 223) hx hb dX9_rider_216 (by decide) (fun c_216 => ?_) (fun c_216 => ?_)
                              · refine lv_iconst (v := 0) hx hb dX9_rider_223 (by decide) ?_
                                refine ca_V (q0 := 0) (n := 1) (rest := []) (wr := [(bl_, .inl (cy 0, 10, .inl (upd lm_ 5 0)))]) F hK hE hA hP hD hS hl.1 (kX9_reads_n (l := l) (D := D) (cy := cy) (sa := sa) b0_ 0 tr_ bn_ bt_ bs_ bk_ bp_ bi_ bl_ it_ ub_ db_ bx_ bc_ bf_ n_ tx_ (nI (tkE tx_ n_ p9_)) (tkK tx_ n_ p9_) (nI (tkb tx_ n_ p9_)) v0_ (tkb tx_ n_ p9_) 0 (by have := tkb_le (tx := tx_) hp; have := tkb_le (tx := tx_) (tkE_le (tx := tx_) hp); have := tkb_le (tx := tx_) (tkE_le (tx := tx_) (tkE_le (tx := tx_) hp)); have := tkb_le (tx := tx_) (tkE_le (tx := tx_) (tkE_le (tx := tx_) (tkE_le (tx := tx_) hp))); omega)) gX9_rider_X9_reads rfl rfl rfl rfl rfl rfl (by decide +kernel) ⟨by decide, by decide⟩ [0, 1] [2] rfl rfl rfl rfl (by decide) rfl rfl (Nat.le_of_ble_eq_true rfl) dX9_rider_224 ⟨by decide, by decide⟩ (fun v9 u9 H locs hv hP hD hS => ?_)
                                subst hv
                                obtain ⟨hP, hD⟩ := re_ws (ws' := [(b0_, .inr (9, [.int 0, .long tr_, .ref bn_, .ref bt_, .ref bs_, .ref bk_, .ref bp_, .ref bi_, .ref bl_, .int it_, .int ub_, .int db_, .ref bx_, .int (nI n_), .int (nI (tkE tx_ n_ p9_)), .int (tkK tx_ n_ p9_), .int (nI (tkb tx_ n_ p9_)), .int v0_, .int (nI (tkb tx_ n_ p9_)), .ref bc_, .ref bf_])), (bx_, .inl (cy 0, 200, .inl tx_)), (bl_, .inl (cy 0, 10, .inl (upd lm_ 5 0)))]) hP hD [1, 2, 0] rfl rfl
                                refine W.eq (g2 := F0 m 227 ls [.int 0]) rfl ?_
                                refine lv_pop hx hb dX9_rider_227 rfl ?_
                                refine lv_iinc (v := nI (j_ + 1)) (lv' := [(2, .int (nI (j_ + 1))), (5, .int 0), (4, .int 0), (1, .int (tb_ ||| ((1 : Int32) <<< ((0 : Int32) &&& 31)))), (3, .int 0), (0, .ref b0_)]) hx hb dX9_rider_228 hl (k := 4) rfl (nI_add j_ 1) (by decide) rfl (fun ls hl => ?_)
                                refine lv_goto (tgt := 56) hx hb dX9_rider_231 (by decide) ?_
                                skip
                                skip
                                skip
                                skip
                                exact ih_56 (j_ + 1) p9_ v0_ (tb_ ||| ((1 : Int32) <<< ((0 : Int32) &&& 31))) (upd lm_ 5 0) lx_ (some (tkb tx_ n_ p9_)) (nI (tkE tx_ n_ p9_)) (tkK tx_ n_ p9_) (nI (tkb tx_ n_ p9_)) (by first | (intro z; cases z; done) | exact fun _ => ⟨rfl, rfl, rfl⟩) (by first | (intro z; cases z; done) | (intro _; have hok1 : tkK tx_ n_ p9_ = 1 ∧ tb_ &&& bitO (itI tx_ n_ p9_) = 0 := ⟨c_76, by rw [hI9]; exact (told_b hT hwi).mp c_87⟩; have hf : itF tx_ n_ p9_ tb_ = none := (by unfold itF it3; rw [if_pos hok1, h2, if_pos ⟨c_147, by rw [hI9, lrg_r wi_ hwi, ← ez156]; exact Int32.not_lt.mp c_176⟩, if_pos c_216]); have hT2 := toldN_s hT hj hf; rw [hI9] at hT2; refine ⟨hT2.2, ?_, hT2.1, ?_, hhv_224, ?_⟩; (first | exact tkE_le (tkE_le (tkE_le (tkE_le hp))) | exact tkE_le (tkE_le (tkE_le hp))); rw [← hRd, show 6 - j_ = (6 - (j_ + 1)) + 1 by omega, rd_go c_67 hf, hI9]; unfold itP it3; rw [h2]; exact fun k hk => by rw [hA9]; by_cases e : k = wi_ <;> first | (subst e; rw [upd_at, upd_at]; done) | (rw [upd_ne _ _ e, upd_ne _ _ (by omega)]; exact hlx k hk))) (by first | (intro f z; cases z; done) | (intro f z; obtain rfl := Option.some.inj z; rw [← hRd, show 6 - j_ = (6 - (j_ + 1)) + 1 by omega, rd_bad c_67 (fun y => by rw [hf] at y; cases y), hf])) (by first | (intro f z; cases z; done) | (intro f z; obtain rfl := Option.some.inj z; have := tkb_le (tx := tx_) hp; have := tkb_le (tx := tx_) (tkE_le (tx := tx_) hp); have := tkb_le (tx := tx_) (tkE_le (tx := tx_) (tkE_le (tx := tx_) hp)); have := tkb_le (tx := tx_) (tkE_le (tx := tx_) (tkE_le (tx := tx_) (tkE_le (tx := tx_) hp))); omega)) (fun k hk => by rw [upd_ne _ _ (by omega)]; exact hlm k hk) (by first | exact mz_n hn_56 (by omega) | exact mz_s hn_56 (by omega)) H locs hP hD hS ls (lv_sub hl [0, 3, 5] rfl)
                              · refine lv_iconst (v := 1) hx hb dX9_rider_219 (by decide) ?_
                                refine lv_goto (tgt := 224) hx hb dX9_rider_220 (by decide) ?_
                                refine ca_V (q0 := 0) (n := 1) (rest := []) (wr := [(bl_, .inl (cy 0, 10, .inl (upd lm_ 5 0)))]) F hK hE hA hP hD hS hl.1 (kX9_reads_n (l := l) (D := D) (cy := cy) (sa := sa) b0_ 0 tr_ bn_ bt_ bs_ bk_ bp_ bi_ bl_ it_ ub_ db_ bx_ bc_ bf_ n_ tx_ (nI (tkE tx_ n_ p9_)) (tkK tx_ n_ p9_) (nI (tkb tx_ n_ p9_)) v0_ (tkb tx_ n_ p9_) 1 (by have := tkb_le (tx := tx_) hp; have := tkb_le (tx := tx_) (tkE_le (tx := tx_) hp); have := tkb_le (tx := tx_) (tkE_le (tx := tx_) (tkE_le (tx := tx_) hp)); have := tkb_le (tx := tx_) (tkE_le (tx := tx_) (tkE_le (tx := tx_) (tkE_le (tx := tx_) hp))); omega)) gX9_rider_X9_reads rfl rfl rfl rfl rfl rfl (by decide +kernel) ⟨by decide, by decide⟩ [0, 1] [2] rfl rfl rfl rfl (by decide) rfl rfl (Nat.le_of_ble_eq_true rfl) dX9_rider_224 ⟨by decide, by decide⟩ (fun v9 u9 H locs hv hP hD hS => ?_)
                                subst hv
                                obtain ⟨hP, hD⟩ := re_ws (ws' := [(b0_, .inr (9, [.int 0, .long tr_, .ref bn_, .ref bt_, .ref bs_, .ref bk_, .ref bp_, .ref bi_, .ref bl_, .int it_, .int ub_, .int db_, .ref bx_, .int (nI n_), .int (nI (tkE tx_ n_ p9_)), .int (tkK tx_ n_ p9_), .int (nI (tkb tx_ n_ p9_)), .int v0_, .int (nI (tkb tx_ n_ p9_)), .ref bc_, .ref bf_])), (bx_, .inl (cy 0, 200, .inl tx_)), (bl_, .inl (cy 0, 10, .inl (upd lm_ 5 0)))]) hP hD [1, 2, 0] rfl rfl
                                refine W.eq (g2 := F0 m 227 ls [.int 0]) rfl ?_
                                refine lv_pop hx hb dX9_rider_227 rfl ?_
                                refine lv_iinc (v := nI (j_ + 1)) (lv' := [(2, .int (nI (j_ + 1))), (5, .int 0), (4, .int 0), (1, .int (tb_ ||| ((1 : Int32) <<< ((0 : Int32) &&& 31)))), (3, .int 0), (0, .ref b0_)]) hx hb dX9_rider_228 hl (k := 4) rfl (nI_add j_ 1) (by decide) rfl (fun ls hl => ?_)
                                refine lv_goto (tgt := 56) hx hb dX9_rider_231 (by decide) ?_
                                skip
                                skip
                                skip
                                skip
                                exact ih_56 (j_ + 1) p9_ v0_ (tb_ ||| ((1 : Int32) <<< ((0 : Int32) &&& 31))) (upd lm_ 5 0) lx_ (some (tkb tx_ n_ p9_)) (nI (tkE tx_ n_ p9_)) (tkK tx_ n_ p9_) (nI (tkb tx_ n_ p9_)) (by first | (intro z; cases z; done) | exact fun _ => ⟨rfl, rfl, rfl⟩) (by first | (intro z; cases z; done) | (intro _; have hok1 : tkK tx_ n_ p9_ = 1 ∧ tb_ &&& bitO (itI tx_ n_ p9_) = 0 := ⟨c_76, by rw [hI9]; exact (told_b hT hwi).mp c_87⟩; have hf : itF tx_ n_ p9_ tb_ = none := (by unfold itF it3; rw [if_pos hok1, h2, if_pos ⟨c_147, by rw [hI9, lrg_r wi_ hwi, ← ez156]; exact Int32.not_lt.mp c_176⟩, if_pos c_216]); have hT2 := toldN_s hT hj hf; rw [hI9] at hT2; refine ⟨hT2.2, ?_, hT2.1, ?_, hhv_224, ?_⟩; (first | exact tkE_le (tkE_le (tkE_le (tkE_le hp))) | exact tkE_le (tkE_le (tkE_le hp))); rw [← hRd, show 6 - j_ = (6 - (j_ + 1)) + 1 by omega, rd_go c_67 hf, hI9]; unfold itP it3; rw [h2]; exact fun k hk => by rw [hA9]; by_cases e : k = wi_ <;> first | (subst e; rw [upd_at, upd_at]; done) | (rw [upd_ne _ _ e, upd_ne _ _ (by omega)]; exact hlx k hk))) (by first | (intro f z; cases z; done) | (intro f z; obtain rfl := Option.some.inj z; rw [← hRd, show 6 - j_ = (6 - (j_ + 1)) + 1 by omega, rd_bad c_67 (fun y => by rw [hf] at y; cases y), hf])) (by first | (intro f z; cases z; done) | (intro f z; obtain rfl := Option.some.inj z; have := tkb_le (tx := tx_) hp; have := tkb_le (tx := tx_) (tkE_le (tx := tx_) hp); have := tkb_le (tx := tx_) (tkE_le (tx := tx_) (tkE_le (tx := tx_) hp)); have := tkb_le (tx := tx_) (tkE_le (tx := tx_) (tkE_le (tx := tx_) (tkE_le (tx := tx_) hp))); omega)) (fun k hk => by rw [upd_ne _ _ (by omega)]; exact hlm k hk) (by first | exact mz_n hn_56 (by omega) | exact mz_s hn_56 (by omega)) H locs hP hD hS ls (lv_sub hl [0, 3, 5] rfl)
                            · exact absurd (by decide) c_198
                    · exact absurd (by decide) c_134
                  · exact absurd (by decide) c_109
                · obtain ⟨wi_, hwi, hiv, rfl⟩ := v0_of hv0 c_76
                  have hI9 : itI tx_ n_ p9_ = wi_ := itI_of hiv.symm hwi
                  refine lv_iload_n hx hb dX9_rider_79 rfl (lv_at hl 1 rfl) ?_
                  refine lv_aload_n hx hb dX9_rider_80 rfl (lv_at hl 2 rfl) ?_
                  refine va_get (D := D) (ci := 9) (v := .int (nI wi_)) (C := RX9) (T := TX9) (N := 21) hx hb hts winX9 hown hK hP 0 rfl rfl 17 (by decide) wf149 (fun _ h9 => h9) rfl dX9_rider_81 ?_
                  refine lv_ishr hx hb dX9_rider_84 ?_
                  refine lv_iconst (v := 1) hx hb dX9_rider_85 (by decide) ?_
                  refine lv_iand hx hb dX9_rider_86 ?_
                  refine lv_if_ne (tgt := 94) hx hb dX9_rider_87 (by decide) (fun c_87 => ?_) (fun c_87 => ?_)
                  · refine lv_iconst (v := 0) hx hb dX9_rider_94 (by decide) ?_
                    refine ca_V (q0 := 0) (n := 1) (rest := []) (wr := [(bl_, .inl (cy 0, 10, .inl lm_))]) F hK hE hA hP hD hS hl.1 (kX9_reads_0 (l := l) (D := D) (cy := cy) (sa := sa) b0_ 0 tr_ bn_ bt_ bs_ bk_ bp_ bi_ bl_ it_ ub_ db_ bx_ bc_ bf_ n_ tx_ (nI (tkE tx_ n_ p9_)) (tkK tx_ n_ p9_) (tkb tx_ n_ p9_) (nI wi_)) gX9_rider_X9_reads rfl rfl rfl rfl rfl rfl (by decide +kernel) ⟨by decide, by decide⟩ [0, 1] [2] rfl rfl rfl rfl (by decide) rfl rfl (Nat.le_of_ble_eq_true rfl) dX9_rider_95 ⟨by decide, by decide⟩ (fun v9 u9 H locs hv hP hD hS => ?_)
                    subst hv
                    obtain ⟨hP, hD⟩ := re_ws (ws' := [(b0_, .inr (9, [.int 0, .long tr_, .ref bn_, .ref bt_, .ref bs_, .ref bk_, .ref bp_, .ref bi_, .ref bl_, .int it_, .int ub_, .int db_, .ref bx_, .int (nI n_), .int (nI (tkE tx_ n_ p9_)), .int (tkK tx_ n_ p9_), .int (nI (tkb tx_ n_ p9_)), .int (nI wi_), .int (nI (tkb tx_ n_ p9_)), .ref bc_, .ref bf_])), (bx_, .inl (cy 0, 200, .inl tx_)), (bl_, .inl (cy 0, 10, .inl lm_))]) hP hD [1, 2, 0] rfl rfl
                    refine W.eq (g2 := F0 m 98 ls [.int 0]) rfl ?_
                    have hf : itF tx_ n_ p9_ tb_ = some (tkb tx_ n_ p9_) := by unfold itF; rw [if_neg]; first | exact fun z => c_76 z.1 | exact fun z => c_87 ((told_b hT hwi).mpr (by rw [← hI9]; exact z.2))
                    refine lv_istore_n (lv' := [(3, .int 0), (2, .int (nI j_)), (1, .int tb_), (0, .ref b0_)]) hx hb dX9_rider_98 rfl hl (by decide) rfl (fun ls hl => ?_)
                    refine lv_iload_n hx hb dX9_rider_99 rfl (lv_at hl 2 rfl) ?_
                    refine lv_iconst (v := 1) hx hb dX9_rider_100 (by decide) ?_
                    refine lv_iload_n hx hb dX9_rider_101 rfl (lv_at hl 0 rfl) ?_
                    refine lv_ishl hx hb dX9_rider_102 ?_
                    refine lv_ior hx hb dX9_rider_103 ?_
                    refine lv_istore_n (lv' := [(1, .int (tb_ ||| ((1 : Int32) <<< ((0 : Int32) &&& 31)))), (3, .int 0), (2, .int (nI j_)), (0, .ref b0_)]) hx hb dX9_rider_104 rfl hl (by decide) rfl (fun ls hl => ?_)
                    refine lv_aload_n hx hb dX9_rider_105 rfl (lv_at hl 3 rfl) ?_
                    refine ca_V (q0 := 0) (n := 0) (rest := []) (wr := [(bx_, .inl (cy 0, 200, .inl tx_)), (bl_, .inl (cy 0, 10, .inl lm_))]) F hK hE hA hP hD hS hl.1 (kX9_isWell_n (l := l) (D := D) (cy := cy) (sa := sa) b0_ 0 tr_ bn_ bt_ bs_ bk_ bp_ bi_ bl_ it_ ub_ db_ bx_ bc_ bf_ (nI n_) (nI (tkE tx_ n_ p9_)) (tkK tx_ n_ p9_) (nI (tkb tx_ n_ p9_)) (nI wi_) (tkb tx_ n_ p9_) (by have := tkb_le (tx := tx_) hp; have := tkb_le (tx := tx_) (tkE_le (tx := tx_) hp); have := tkb_le (tx := tx_) (tkE_le (tx := tx_) (tkE_le (tx := tx_) hp)); have := tkb_le (tx := tx_) (tkE_le (tx := tx_) (tkE_le (tx := tx_) (tkE_le (tx := tx_) hp))); omega)) gX9_rider_X9_isWell rfl rfl rfl rfl rfl rfl (by decide +kernel) ⟨by decide, by decide⟩ [0] [1, 2] rfl rfl rfl rfl (by decide) rfl rfl (Nat.le_of_ble_eq_true rfl) dX9_rider_106 ⟨by decide, by decide⟩ (fun v9 u9 H locs hv hP hD hS => ?_)
                    subst hv
                    obtain ⟨hP, hD⟩ := re_ws (ws' := [(b0_, .inr (9, [.int 0, .long tr_, .ref bn_, .ref bt_, .ref bs_, .ref bk_, .ref bp_, .ref bi_, .ref bl_, .int it_, .int ub_, .int db_, .ref bx_, .int (nI n_), .int (nI (tkE tx_ n_ p9_)), .int (tkK tx_ n_ p9_), .int (nI (tkb tx_ n_ p9_)), .int (nI wi_), .int (nI (tkb tx_ n_ p9_)), .ref bc_, .ref bf_])), (bx_, .inl (cy 0, 200, .inl tx_)), (bl_, .inl (cy 0, 10, .inl lm_))]) hP hD [2, 0, 1] rfl rfl
                    refine W.eq (g2 := F0 m 109 ls [.int 0]) rfl ?_
                    refine lv_if_eq (tgt := 129) hx hb dX9_rider_109 (by decide) (fun c_109 => ?_) (fun c_109 => ?_)
                    · refine lv_iconst (v := 0) hx hb dX9_rider_129 (by decide) ?_
                      refine lv_istore (lv' := [(4, .int 0), (1, .int (tb_ ||| ((1 : Int32) <<< ((0 : Int32) &&& 31)))), (3, .int 0), (2, .int (nI j_)), (0, .ref b0_)]) hx hb dX9_rider_130 hl (by decide) rfl (fun ls hl => ?_)
                      refine lv_iload hx hb dX9_rider_132 (lv_at hl 0 rfl) ?_
                      refine lv_if_eq (tgt := 141) hx hb dX9_rider_134 (by decide) (fun c_134 => ?_) (fun c_134 => ?_)
                      · refine lv_aload_n hx hb dX9_rider_141 rfl (lv_at hl 4 rfl) ?_
                        refine lv_aload_n hx hb dX9_rider_142 rfl (lv_at hl 4 rfl) ?_
                        refine va_get (D := D) (ci := 9) (v := .int (tkK tx_ n_ p9_)) (C := RX9) (T := TX9) (N := 21) hx hb hts winX9 hown hK hP 0 rfl rfl 15 (by decide) wf142 (fun _ h9 => h9) rfl dX9_rider_143 ?_
                        refine lv_iconst (v := 3) hx hb dX9_rider_146 (by decide) ?_
                        refine lv_icmp_ne (tgt := 183) hx hb dX9_rider_147 (by decide) (fun c_147 => ?_) (fun c_147 => ?_)
                        · refine lv_iconst (v := 0) hx hb dX9_rider_183 (by decide) ?_
                          refine ca_V (q0 := 0) (n := 1) (rest := []) (wr := [(bl_, .inl (cy 0, 10, .inl lm_))]) F hK hE hA hP hD hS hl.1 (kX9_reads_n (l := l) (D := D) (cy := cy) (sa := sa) b0_ 0 tr_ bn_ bt_ bs_ bk_ bp_ bi_ bl_ it_ ub_ db_ bx_ bc_ bf_ n_ tx_ (nI (tkE tx_ n_ p9_)) (tkK tx_ n_ p9_) (nI (tkb tx_ n_ p9_)) (nI wi_) (tkb tx_ n_ p9_) 0 (by have := tkb_le (tx := tx_) hp; have := tkb_le (tx := tx_) (tkE_le (tx := tx_) hp); have := tkb_le (tx := tx_) (tkE_le (tx := tx_) (tkE_le (tx := tx_) hp)); have := tkb_le (tx := tx_) (tkE_le (tx := tx_) (tkE_le (tx := tx_) (tkE_le (tx := tx_) hp))); omega)) gX9_rider_X9_reads rfl rfl rfl rfl rfl rfl (by decide +kernel) ⟨by decide, by decide⟩ [0, 1] [2] rfl rfl rfl rfl (by decide) rfl rfl (Nat.le_of_ble_eq_true rfl) dX9_rider_184 ⟨by decide, by decide⟩ (fun v9 u9 H locs hv hP hD hS => ?_)
                          subst hv
                          obtain ⟨hP, hD⟩ := re_ws (ws' := [(b0_, .inr (9, [.int 0, .long tr_, .ref bn_, .ref bt_, .ref bs_, .ref bk_, .ref bp_, .ref bi_, .ref bl_, .int it_, .int ub_, .int db_, .ref bx_, .int (nI n_), .int (nI (tkE tx_ n_ p9_)), .int (tkK tx_ n_ p9_), .int (nI (tkb tx_ n_ p9_)), .int (nI wi_), .int (nI (tkb tx_ n_ p9_)), .ref bc_, .ref bf_])), (bx_, .inl (cy 0, 200, .inl tx_)), (bl_, .inl (cy 0, 10, .inl lm_))]) hP hD [1, 2, 0] rfl rfl
                          refine W.eq (g2 := F0 m 187 ls [.int 0]) rfl ?_
                          refine lv_istore (lv' := [(5, .int 0), (4, .int 0), (1, .int (tb_ ||| ((1 : Int32) <<< ((0 : Int32) &&& 31)))), (3, .int 0), (2, .int (nI j_)), (0, .ref b0_)]) hx hb dX9_rider_187 hl (by decide) rfl (fun ls hl => ?_)
                          refine lv_aload_n hx hb dX9_rider_189 rfl (lv_at hl 5 rfl) ?_
                          refine va_get (D := D) (ci := 9) (v := .ref bl_) (C := RX9) (T := TX9) (N := 21) hx hb hts winX9 hown hK hP 0 rfl rfl 8 (by decide) wf29 (fun _ h9 => h9) rfl dX9_rider_190 ?_
                          refine lv_iconst (v := 5) hx hb dX9_rider_193 (by decide) ?_
                          refine lv_iload_n hx hb dX9_rider_194 rfl (lv_at hl 3 rfl) ?_
                          refine lv_iadd hx hb dX9_rider_195 ?_
                          refine lv_eqi (y := 5) rfl ?_
                          refine lv_iload hx hb dX9_rider_196 (lv_at hl 1 rfl) ?_
                          refine lv_if_eq (tgt := 207) hx hb dX9_rider_198 (by decide) (fun c_198 => ?_) (fun c_198 => ?_)
                          · refine lv_iload hx hb dX9_rider_207 (lv_at hl 0 rfl) ?_
                            refine as_i (x := 0) hx hb hK hP hD hS 2 rfl 5 (rfl) (by decide) (by decide) dX9_rider_209 (fun H locs hP hD hS => ?_)
                            have hP : va_P D vwCl [(b0_, .inr (9, [.int 0, .long tr_, .ref bn_, .ref bt_, .ref bs_, .ref bk_, .ref bp_, .ref bi_, .ref bl_, .int it_, .int ub_, .int db_, .ref bx_, .int (nI n_), .int (nI (tkE tx_ n_ p9_)), .int (tkK tx_ n_ p9_), .int (nI (tkb tx_ n_ p9_)), .int (nI wi_), .int (nI (tkb tx_ n_ p9_)), .ref bc_, .ref bf_])), (bx_, .inl (cy 0, 200, .inl tx_)), (bl_, .inl (cy 0, 10, .inl (upd lm_ 5 0)))] H := hP
                            have hD : va_D A [(b0_, .inr (9, [.int 0, .long tr_, .ref bn_, .ref bt_, .ref bs_, .ref bk_, .ref bp_, .ref bi_, .ref bl_, .int it_, .int ub_, .int db_, .ref bx_, .int (nI n_), .int (nI (tkE tx_ n_ p9_)), .int (tkK tx_ n_ p9_), .int (nI (tkb tx_ n_ p9_)), .int (nI wi_), .int (nI (tkb tx_ n_ p9_)), .ref bc_, .ref bf_])), (bx_, .inl (cy 0, 200, .inl tx_)), (bl_, .inl (cy 0, 10, .inl (upd lm_ 5 0)))] := hD
                            refine lv_aload_n hx hb dX9_rider_210 rfl (lv_at hl 5 rfl) ?_
                            refine lv_aload_n hx hb dX9_rider_211 rfl (lv_at hl 5 rfl) ?_
                            refine va_get (D := D) (ci := 9) (v := .int (tkK tx_ n_ p9_)) (C := RX9) (T := TX9) (N := 21) hx hb hts winX9 hown hK hP 0 rfl rfl 15 (by decide) wf142 (fun _ h9 => h9) rfl dX9_rider_212 ?_
                            refine lv_iconst (v := 4) hx hb dX9_rider_215 (by decide) ?_
                            refine lv_icmp_ne (tgt := 223) hx hb dX9_rider_216 (by decide) (fun c_216 => ?_) (fun c_216 => ?_)
                            · refine lv_iconst (v := 0) hx hb dX9_rider_223 (by decide) ?_
                              refine ca_V (q0 := 0) (n := 1) (rest := []) (wr := [(bl_, .inl (cy 0, 10, .inl (upd lm_ 5 0)))]) F hK hE hA hP hD hS hl.1 (kX9_reads_n (l := l) (D := D) (cy := cy) (sa := sa) b0_ 0 tr_ bn_ bt_ bs_ bk_ bp_ bi_ bl_ it_ ub_ db_ bx_ bc_ bf_ n_ tx_ (nI (tkE tx_ n_ p9_)) (tkK tx_ n_ p9_) (nI (tkb tx_ n_ p9_)) (nI wi_) (tkb tx_ n_ p9_) 0 (by have := tkb_le (tx := tx_) hp; have := tkb_le (tx := tx_) (tkE_le (tx := tx_) hp); have := tkb_le (tx := tx_) (tkE_le (tx := tx_) (tkE_le (tx := tx_) hp)); have := tkb_le (tx := tx_) (tkE_le (tx := tx_) (tkE_le (tx := tx_) (tkE_le (tx := tx_) hp))); omega)) gX9_rider_X9_reads rfl rfl rfl rfl rfl rfl (by decide +kernel) ⟨by decide, by decide⟩ [0, 1] [2] rfl rfl rfl rfl (by decide) rfl rfl (Nat.le_of_ble_eq_true rfl) dX9_rider_224 ⟨by decide, by decide⟩ (fun v9 u9 H locs hv hP hD hS => ?_)
                              subst hv
                              obtain ⟨hP, hD⟩ := re_ws (ws' := [(b0_, .inr (9, [.int 0, .long tr_, .ref bn_, .ref bt_, .ref bs_, .ref bk_, .ref bp_, .ref bi_, .ref bl_, .int it_, .int ub_, .int db_, .ref bx_, .int (nI n_), .int (nI (tkE tx_ n_ p9_)), .int (tkK tx_ n_ p9_), .int (nI (tkb tx_ n_ p9_)), .int (nI wi_), .int (nI (tkb tx_ n_ p9_)), .ref bc_, .ref bf_])), (bx_, .inl (cy 0, 200, .inl tx_)), (bl_, .inl (cy 0, 10, .inl (upd lm_ 5 0)))]) hP hD [1, 2, 0] rfl rfl
                              refine W.eq (g2 := F0 m 227 ls [.int 0]) rfl ?_
                              refine lv_pop hx hb dX9_rider_227 rfl ?_
                              refine lv_iinc (v := nI (j_ + 1)) (lv' := [(2, .int (nI (j_ + 1))), (5, .int 0), (4, .int 0), (1, .int (tb_ ||| ((1 : Int32) <<< ((0 : Int32) &&& 31)))), (3, .int 0), (0, .ref b0_)]) hx hb dX9_rider_228 hl (k := 4) rfl (nI_add j_ 1) (by decide) rfl (fun ls hl => ?_)
                              refine lv_goto (tgt := 56) hx hb dX9_rider_231 (by decide) ?_
                              skip
                              skip
                              skip
                              skip
                              skip
                              exact ih_56 (j_ + 1) p9_ (nI wi_) (tb_ ||| ((1 : Int32) <<< ((0 : Int32) &&& 31))) (upd lm_ 5 0) lx_ (some (tkb tx_ n_ p9_)) (nI (tkE tx_ n_ p9_)) (tkK tx_ n_ p9_) (nI (tkb tx_ n_ p9_)) (by first | (intro z; cases z; done) | exact fun _ => ⟨rfl, rfl, rfl⟩) (by first | (intro z; cases z; done) | (intro _; have hok1 : tkK tx_ n_ p9_ = 1 ∧ tb_ &&& bitO (itI tx_ n_ p9_) = 0 := ⟨c_76, by rw [hI9]; exact (told_b hT hwi).mp c_87⟩; have hf : itF tx_ n_ p9_ tb_ = none := (by unfold itF it3; rw [if_pos hok1, h2, if_pos ⟨c_147, by rw [hI9, lrg_r wi_ hwi, ← ez156]; exact Int32.not_lt.mp c_176⟩, if_pos c_216]); have hT2 := toldN_s hT hj hf; rw [hI9] at hT2; refine ⟨hT2.2, ?_, hT2.1, ?_, hhv_224, ?_⟩; (first | exact tkE_le (tkE_le (tkE_le (tkE_le hp))) | exact tkE_le (tkE_le (tkE_le hp))); rw [← hRd, show 6 - j_ = (6 - (j_ + 1)) + 1 by omega, rd_go c_67 hf, hI9]; unfold itP it3; rw [h2]; exact fun k hk => by rw [hA9]; by_cases e : k = wi_ <;> first | (subst e; rw [upd_at, upd_at]; done) | (rw [upd_ne _ _ e, upd_ne _ _ (by omega)]; exact hlx k hk))) (by first | (intro f z; cases z; done) | (intro f z; obtain rfl := Option.some.inj z; rw [← hRd, show 6 - j_ = (6 - (j_ + 1)) + 1 by omega, rd_bad c_67 (fun y => by rw [hf] at y; cases y), hf])) (by first | (intro f z; cases z; done) | (intro f z; obtain rfl := Option.some.inj z; have := tkb_le (tx := tx_) hp; have := tkb_le (tx := tx_) (tkE_le (tx := tx_) hp); have := tkb_le (tx := tx_) (tkE_le (tx := tx_) (tkE_le (tx := tx_) hp)); have := tkb_le (tx := tx_) (tkE_le (tx := tx_) (tkE_le (tx := tx_) (tkE_le (tx := tx_) hp))); omega)) (fun k hk => by rw [upd_ne _ _ (by omega)]; exact hlm k hk) (by first | exact mz_n hn_56 (by omega) | exact mz_s hn_56 (by omega)) H locs hP hD hS ls (lv_sub hl [0, 3, 5] rfl)
                            · refine lv_iconst (v := 1) hx hb dX9_rider_219 (by decide) ?_
                              refine lv_goto (tgt := 224) hx hb dX9_rider_220 (by decide) ?_
                              refine ca_V (q0 := 0) (n := 1) (rest := []) (wr := [(bl_, .inl (cy 0, 10, .inl (upd lm_ 5 0)))]) F hK hE hA hP hD hS hl.1 (kX9_reads_n (l := l) (D := D) (cy := cy) (sa := sa) b0_ 0 tr_ bn_ bt_ bs_ bk_ bp_ bi_ bl_ it_ ub_ db_ bx_ bc_ bf_ n_ tx_ (nI (tkE tx_ n_ p9_)) (tkK tx_ n_ p9_) (nI (tkb tx_ n_ p9_)) (nI wi_) (tkb tx_ n_ p9_) 1 (by have := tkb_le (tx := tx_) hp; have := tkb_le (tx := tx_) (tkE_le (tx := tx_) hp); have := tkb_le (tx := tx_) (tkE_le (tx := tx_) (tkE_le (tx := tx_) hp)); have := tkb_le (tx := tx_) (tkE_le (tx := tx_) (tkE_le (tx := tx_) (tkE_le (tx := tx_) hp))); omega)) gX9_rider_X9_reads rfl rfl rfl rfl rfl rfl (by decide +kernel) ⟨by decide, by decide⟩ [0, 1] [2] rfl rfl rfl rfl (by decide) rfl rfl (Nat.le_of_ble_eq_true rfl) dX9_rider_224 ⟨by decide, by decide⟩ (fun v9 u9 H locs hv hP hD hS => ?_)
                              subst hv
                              obtain ⟨hP, hD⟩ := re_ws (ws' := [(b0_, .inr (9, [.int 0, .long tr_, .ref bn_, .ref bt_, .ref bs_, .ref bk_, .ref bp_, .ref bi_, .ref bl_, .int it_, .int ub_, .int db_, .ref bx_, .int (nI n_), .int (nI (tkE tx_ n_ p9_)), .int (tkK tx_ n_ p9_), .int (nI (tkb tx_ n_ p9_)), .int (nI wi_), .int (nI (tkb tx_ n_ p9_)), .ref bc_, .ref bf_])), (bx_, .inl (cy 0, 200, .inl tx_)), (bl_, .inl (cy 0, 10, .inl (upd lm_ 5 0)))]) hP hD [1, 2, 0] rfl rfl
                              refine W.eq (g2 := F0 m 227 ls [.int 0]) rfl ?_
                              refine lv_pop hx hb dX9_rider_227 rfl ?_
                              refine lv_iinc (v := nI (j_ + 1)) (lv' := [(2, .int (nI (j_ + 1))), (5, .int 0), (4, .int 0), (1, .int (tb_ ||| ((1 : Int32) <<< ((0 : Int32) &&& 31)))), (3, .int 0), (0, .ref b0_)]) hx hb dX9_rider_228 hl (k := 4) rfl (nI_add j_ 1) (by decide) rfl (fun ls hl => ?_)
                              refine lv_goto (tgt := 56) hx hb dX9_rider_231 (by decide) ?_
                              skip
                              skip
                              skip
                              skip
                              skip
                              exact ih_56 (j_ + 1) p9_ (nI wi_) (tb_ ||| ((1 : Int32) <<< ((0 : Int32) &&& 31))) (upd lm_ 5 0) lx_ (some (tkb tx_ n_ p9_)) (nI (tkE tx_ n_ p9_)) (tkK tx_ n_ p9_) (nI (tkb tx_ n_ p9_)) (by first | (intro z; cases z; done) | exact fun _ => ⟨rfl, rfl, rfl⟩) (by first | (intro z; cases z; done) | (intro _; have hok1 : tkK tx_ n_ p9_ = 1 ∧ tb_ &&& bitO (itI tx_ n_ p9_) = 0 := ⟨c_76, by rw [hI9]; exact (told_b hT hwi).mp c_87⟩; have hf : itF tx_ n_ p9_ tb_ = none := (by unfold itF it3; rw [if_pos hok1, h2, if_pos ⟨c_147, by rw [hI9, lrg_r wi_ hwi, ← ez156]; exact Int32.not_lt.mp c_176⟩, if_pos c_216]); have hT2 := toldN_s hT hj hf; rw [hI9] at hT2; refine ⟨hT2.2, ?_, hT2.1, ?_, hhv_224, ?_⟩; (first | exact tkE_le (tkE_le (tkE_le (tkE_le hp))) | exact tkE_le (tkE_le (tkE_le hp))); rw [← hRd, show 6 - j_ = (6 - (j_ + 1)) + 1 by omega, rd_go c_67 hf, hI9]; unfold itP it3; rw [h2]; exact fun k hk => by rw [hA9]; by_cases e : k = wi_ <;> first | (subst e; rw [upd_at, upd_at]; done) | (rw [upd_ne _ _ e, upd_ne _ _ (by omega)]; exact hlx k hk))) (by first | (intro f z; cases z; done) | (intro f z; obtain rfl := Option.some.inj z; rw [← hRd, show 6 - j_ = (6 - (j_ + 1)) + 1 by omega, rd_bad c_67 (fun y => by rw [hf] at y; cases y), hf])) (by first | (intro f z; cases z; done) | (intro f z; obtain rfl := Option.some.inj z; have := tkb_le (tx := tx_) hp; have := tkb_le (tx := tx_) (tkE_le (tx := tx_) hp); have := tkb_le (tx := tx_) (tkE_le (tx := tx_) (tkE_le (tx := tx_) hp)); have := tkb_le (tx := tx_) (tkE_le (tx := tx_) (tkE_le (tx := tx_) (tkE_le (tx := tx_) hp))); omega)) (fun k hk => by rw [upd_ne _ _ (by omega)]; exact hlm k hk) (by first | exact mz_n hn_56 (by omega) | exact mz_s hn_56 (by omega)) H locs hP hD hS ls (lv_sub hl [0, 3, 5] rfl)
                          · exact absurd (by decide) c_198
                        · refine lv_aload_n hx hb dX9_rider_150 rfl (lv_at hl 4 rfl) ?_
                          refine va_get (D := D) (ci := 9) (v := .int (nI wi_)) (C := RX9) (T := TX9) (N := 21) hx hb hts winX9 hown hK hP 0 rfl rfl 17 (by decide) wf149 (fun _ h9 => h9) rfl dX9_rider_151 ?_
                          refine lv_iload_n hx hb dX9_rider_154 rfl (lv_at hl 2 rfl) ?_
                          refine lv_iconst (v := 3) hx hb dX9_rider_155 (by decide) ?_
                          refine lv_icmp_ge (tgt := 164) hx hb dX9_rider_156 (by decide) (fun c_156 => ?_) (fun c_156 => ?_)
                          · exact absurd c_156 (by decide)
                          · refine lv_bipush (v := 99) hx hb dX9_rider_159 (by decide) ?_
                            refine lv_goto (tgt := 176) hx hb dX9_rider_161 (by decide) ?_
                            refine cn_gt (tgt := 183) hx hb wi_ 99 rfl rfl (by omega) (by omega) dX9_rider_176 (by decide) (fun c_176 => ?_) (fun c_176 => ?_)
                            · refine lv_iconst (v := 0) hx hb dX9_rider_183 (by decide) ?_
                              refine ca_V (q0 := 0) (n := 1) (rest := []) (wr := [(bl_, .inl (cy 0, 10, .inl lm_))]) F hK hE hA hP hD hS hl.1 (kX9_reads_n (l := l) (D := D) (cy := cy) (sa := sa) b0_ 0 tr_ bn_ bt_ bs_ bk_ bp_ bi_ bl_ it_ ub_ db_ bx_ bc_ bf_ n_ tx_ (nI (tkE tx_ n_ p9_)) (tkK tx_ n_ p9_) (nI (tkb tx_ n_ p9_)) (nI wi_) (tkb tx_ n_ p9_) 0 (by have := tkb_le (tx := tx_) hp; have := tkb_le (tx := tx_) (tkE_le (tx := tx_) hp); have := tkb_le (tx := tx_) (tkE_le (tx := tx_) (tkE_le (tx := tx_) hp)); have := tkb_le (tx := tx_) (tkE_le (tx := tx_) (tkE_le (tx := tx_) (tkE_le (tx := tx_) hp))); omega)) gX9_rider_X9_reads rfl rfl rfl rfl rfl rfl (by decide +kernel) ⟨by decide, by decide⟩ [0, 1] [2] rfl rfl rfl rfl (by decide) rfl rfl (Nat.le_of_ble_eq_true rfl) dX9_rider_184 ⟨by decide, by decide⟩ (fun v9 u9 H locs hv hP hD hS => ?_)
                              subst hv
                              obtain ⟨hP, hD⟩ := re_ws (ws' := [(b0_, .inr (9, [.int 0, .long tr_, .ref bn_, .ref bt_, .ref bs_, .ref bk_, .ref bp_, .ref bi_, .ref bl_, .int it_, .int ub_, .int db_, .ref bx_, .int (nI n_), .int (nI (tkE tx_ n_ p9_)), .int (tkK tx_ n_ p9_), .int (nI (tkb tx_ n_ p9_)), .int (nI wi_), .int (nI (tkb tx_ n_ p9_)), .ref bc_, .ref bf_])), (bx_, .inl (cy 0, 200, .inl tx_)), (bl_, .inl (cy 0, 10, .inl lm_))]) hP hD [1, 2, 0] rfl rfl
                              refine W.eq (g2 := F0 m 187 ls [.int 0]) rfl ?_
                              refine lv_istore (lv' := [(5, .int 0), (4, .int 0), (1, .int (tb_ ||| ((1 : Int32) <<< ((0 : Int32) &&& 31)))), (3, .int 0), (2, .int (nI j_)), (0, .ref b0_)]) hx hb dX9_rider_187 hl (by decide) rfl (fun ls hl => ?_)
                              refine lv_aload_n hx hb dX9_rider_189 rfl (lv_at hl 5 rfl) ?_
                              refine va_get (D := D) (ci := 9) (v := .ref bl_) (C := RX9) (T := TX9) (N := 21) hx hb hts winX9 hown hK hP 0 rfl rfl 8 (by decide) wf29 (fun _ h9 => h9) rfl dX9_rider_190 ?_
                              refine lv_iconst (v := 5) hx hb dX9_rider_193 (by decide) ?_
                              refine lv_iload_n hx hb dX9_rider_194 rfl (lv_at hl 3 rfl) ?_
                              refine lv_iadd hx hb dX9_rider_195 ?_
                              refine lv_eqi (y := 5) rfl ?_
                              refine lv_iload hx hb dX9_rider_196 (lv_at hl 1 rfl) ?_
                              refine lv_if_eq (tgt := 207) hx hb dX9_rider_198 (by decide) (fun c_198 => ?_) (fun c_198 => ?_)
                              · refine lv_iload hx hb dX9_rider_207 (lv_at hl 0 rfl) ?_
                                refine as_i (x := 0) hx hb hK hP hD hS 2 rfl 5 (rfl) (by decide) (by decide) dX9_rider_209 (fun H locs hP hD hS => ?_)
                                have hP : va_P D vwCl [(b0_, .inr (9, [.int 0, .long tr_, .ref bn_, .ref bt_, .ref bs_, .ref bk_, .ref bp_, .ref bi_, .ref bl_, .int it_, .int ub_, .int db_, .ref bx_, .int (nI n_), .int (nI (tkE tx_ n_ p9_)), .int (tkK tx_ n_ p9_), .int (nI (tkb tx_ n_ p9_)), .int (nI wi_), .int (nI (tkb tx_ n_ p9_)), .ref bc_, .ref bf_])), (bx_, .inl (cy 0, 200, .inl tx_)), (bl_, .inl (cy 0, 10, .inl (upd lm_ 5 0)))] H := hP
                                have hD : va_D A [(b0_, .inr (9, [.int 0, .long tr_, .ref bn_, .ref bt_, .ref bs_, .ref bk_, .ref bp_, .ref bi_, .ref bl_, .int it_, .int ub_, .int db_, .ref bx_, .int (nI n_), .int (nI (tkE tx_ n_ p9_)), .int (tkK tx_ n_ p9_), .int (nI (tkb tx_ n_ p9_)), .int (nI wi_), .int (nI (tkb tx_ n_ p9_)), .ref bc_, .ref bf_])), (bx_, .inl (cy 0, 200, .inl tx_)), (bl_, .inl (cy 0, 10, .inl (upd lm_ 5 0)))] := hD
                                refine lv_aload_n hx hb dX9_rider_210 rfl (lv_at hl 5 rfl) ?_
                                refine lv_aload_n hx hb dX9_rider_211 rfl (lv_at hl 5 rfl) ?_
                                refine va_get (D := D) (ci := 9) (v := .int (tkK tx_ n_ p9_)) (C := RX9) (T := TX9) (N := 21) hx hb hts winX9 hown hK hP 0 rfl rfl 15 (by decide) wf142 (fun _ h9 => h9) rfl dX9_rider_212 ?_
                                refine lv_iconst (v := 4) hx hb dX9_rider_215 (by decide) ?_
                                refine lv_icmp_ne (tgt := 223) hx hb dX9_rider_216 (by decide) (fun c_216 => ?_) (fun c_216 => ?_)
                                · refine lv_iconst (v := 0) hx hb dX9_rider_223 (by decide) ?_
                                  refine ca_V (q0 := 0) (n := 1) (rest := []) (wr := [(bl_, .inl (cy 0, 10, .inl (upd lm_ 5 0)))]) F hK hE hA hP hD hS hl.1 (kX9_reads_n (l := l) (D := D) (cy := cy) (sa := sa) b0_ 0 tr_ bn_ bt_ bs_ bk_ bp_ bi_ bl_ it_ ub_ db_ bx_ bc_ bf_ n_ tx_ (nI (tkE tx_ n_ p9_)) (tkK tx_ n_ p9_) (nI (tkb tx_ n_ p9_)) (nI wi_) (tkb tx_ n_ p9_) 0 (by have := tkb_le (tx := tx_) hp; have := tkb_le (tx := tx_) (tkE_le (tx := tx_) hp); have := tkb_le (tx := tx_) (tkE_le (tx := tx_) (tkE_le (tx := tx_) hp)); have := tkb_le (tx := tx_) (tkE_le (tx := tx_) (tkE_le (tx := tx_) (tkE_le (tx := tx_) hp))); omega)) gX9_rider_X9_reads rfl rfl rfl rfl rfl rfl (by decide +kernel) ⟨by decide, by decide⟩ [0, 1] [2] rfl rfl rfl rfl (by decide) rfl rfl (Nat.le_of_ble_eq_true rfl) dX9_rider_224 ⟨by decide, by decide⟩ (fun v9 u9 H locs hv hP hD hS => ?_)
                                  subst hv
                                  obtain ⟨hP, hD⟩ := re_ws (ws' := [(b0_, .inr (9, [.int 0, .long tr_, .ref bn_, .ref bt_, .ref bs_, .ref bk_, .ref bp_, .ref bi_, .ref bl_, .int it_, .int ub_, .int db_, .ref bx_, .int (nI n_), .int (nI (tkE tx_ n_ p9_)), .int (tkK tx_ n_ p9_), .int (nI (tkb tx_ n_ p9_)), .int (nI wi_), .int (nI (tkb tx_ n_ p9_)), .ref bc_, .ref bf_])), (bx_, .inl (cy 0, 200, .inl tx_)), (bl_, .inl (cy 0, 10, .inl (upd lm_ 5 0)))]) hP hD [1, 2, 0] rfl rfl
                                  refine W.eq (g2 := F0 m 227 ls [.int 0]) rfl ?_
                                  refine lv_pop hx hb dX9_rider_227 rfl ?_
                                  refine lv_iinc (v := nI (j_ + 1)) (lv' := [(2, .int (nI (j_ + 1))), (5, .int 0), (4, .int 0), (1, .int (tb_ ||| ((1 : Int32) <<< ((0 : Int32) &&& 31)))), (3, .int 0), (0, .ref b0_)]) hx hb dX9_rider_228 hl (k := 4) rfl (nI_add j_ 1) (by decide) rfl (fun ls hl => ?_)
                                  refine lv_goto (tgt := 56) hx hb dX9_rider_231 (by decide) ?_
                                  skip
                                  skip
                                  skip
                                  skip
                                  skip
                                  exact ih_56 (j_ + 1) p9_ (nI wi_) (tb_ ||| ((1 : Int32) <<< ((0 : Int32) &&& 31))) (upd lm_ 5 0) lx_ (some (tkb tx_ n_ p9_)) (nI (tkE tx_ n_ p9_)) (tkK tx_ n_ p9_) (nI (tkb tx_ n_ p9_)) (by first | (intro z; cases z; done) | exact fun _ => ⟨rfl, rfl, rfl⟩) (by first | (intro z; cases z; done) | (intro _; have hok1 : tkK tx_ n_ p9_ = 1 ∧ tb_ &&& bitO (itI tx_ n_ p9_) = 0 := ⟨c_76, by rw [hI9]; exact (told_b hT hwi).mp c_87⟩; have hf : itF tx_ n_ p9_ tb_ = none := (by unfold itF it3; rw [if_pos hok1, h2, if_pos ⟨c_147, by rw [hI9, lrg_r wi_ hwi, ← ez156]; exact Int32.not_lt.mp c_176⟩, if_pos c_216]); have hT2 := toldN_s hT hj hf; rw [hI9] at hT2; refine ⟨hT2.2, ?_, hT2.1, ?_, hhv_224, ?_⟩; (first | exact tkE_le (tkE_le (tkE_le (tkE_le hp))) | exact tkE_le (tkE_le (tkE_le hp))); rw [← hRd, show 6 - j_ = (6 - (j_ + 1)) + 1 by omega, rd_go c_67 hf, hI9]; unfold itP it3; rw [h2]; exact fun k hk => by rw [hA9]; by_cases e : k = wi_ <;> first | (subst e; rw [upd_at, upd_at]; done) | (rw [upd_ne _ _ e, upd_ne _ _ (by omega)]; exact hlx k hk))) (by first | (intro f z; cases z; done) | (intro f z; obtain rfl := Option.some.inj z; rw [← hRd, show 6 - j_ = (6 - (j_ + 1)) + 1 by omega, rd_bad c_67 (fun y => by rw [hf] at y; cases y), hf])) (by first | (intro f z; cases z; done) | (intro f z; obtain rfl := Option.some.inj z; have := tkb_le (tx := tx_) hp; have := tkb_le (tx := tx_) (tkE_le (tx := tx_) hp); have := tkb_le (tx := tx_) (tkE_le (tx := tx_) (tkE_le (tx := tx_) hp)); have := tkb_le (tx := tx_) (tkE_le (tx := tx_) (tkE_le (tx := tx_) (tkE_le (tx := tx_) hp))); omega)) (fun k hk => by rw [upd_ne _ _ (by omega)]; exact hlm k hk) (by first | exact mz_n hn_56 (by omega) | exact mz_s hn_56 (by omega)) H locs hP hD hS ls (lv_sub hl [0, 3, 5] rfl)
                                · refine lv_iconst (v := 1) hx hb dX9_rider_219 (by decide) ?_
                                  refine lv_goto (tgt := 224) hx hb dX9_rider_220 (by decide) ?_
                                  refine ca_V (q0 := 0) (n := 1) (rest := []) (wr := [(bl_, .inl (cy 0, 10, .inl (upd lm_ 5 0)))]) F hK hE hA hP hD hS hl.1 (kX9_reads_n (l := l) (D := D) (cy := cy) (sa := sa) b0_ 0 tr_ bn_ bt_ bs_ bk_ bp_ bi_ bl_ it_ ub_ db_ bx_ bc_ bf_ n_ tx_ (nI (tkE tx_ n_ p9_)) (tkK tx_ n_ p9_) (nI (tkb tx_ n_ p9_)) (nI wi_) (tkb tx_ n_ p9_) 1 (by have := tkb_le (tx := tx_) hp; have := tkb_le (tx := tx_) (tkE_le (tx := tx_) hp); have := tkb_le (tx := tx_) (tkE_le (tx := tx_) (tkE_le (tx := tx_) hp)); have := tkb_le (tx := tx_) (tkE_le (tx := tx_) (tkE_le (tx := tx_) (tkE_le (tx := tx_) hp))); omega)) gX9_rider_X9_reads rfl rfl rfl rfl rfl rfl (by decide +kernel) ⟨by decide, by decide⟩ [0, 1] [2] rfl rfl rfl rfl (by decide) rfl rfl (Nat.le_of_ble_eq_true rfl) dX9_rider_224 ⟨by decide, by decide⟩ (fun v9 u9 H locs hv hP hD hS => ?_)
                                  subst hv
                                  obtain ⟨hP, hD⟩ := re_ws (ws' := [(b0_, .inr (9, [.int 0, .long tr_, .ref bn_, .ref bt_, .ref bs_, .ref bk_, .ref bp_, .ref bi_, .ref bl_, .int it_, .int ub_, .int db_, .ref bx_, .int (nI n_), .int (nI (tkE tx_ n_ p9_)), .int (tkK tx_ n_ p9_), .int (nI (tkb tx_ n_ p9_)), .int (nI wi_), .int (nI (tkb tx_ n_ p9_)), .ref bc_, .ref bf_])), (bx_, .inl (cy 0, 200, .inl tx_)), (bl_, .inl (cy 0, 10, .inl (upd lm_ 5 0)))]) hP hD [1, 2, 0] rfl rfl
                                  refine W.eq (g2 := F0 m 227 ls [.int 0]) rfl ?_
                                  refine lv_pop hx hb dX9_rider_227 rfl ?_
                                  refine lv_iinc (v := nI (j_ + 1)) (lv' := [(2, .int (nI (j_ + 1))), (5, .int 0), (4, .int 0), (1, .int (tb_ ||| ((1 : Int32) <<< ((0 : Int32) &&& 31)))), (3, .int 0), (0, .ref b0_)]) hx hb dX9_rider_228 hl (k := 4) rfl (nI_add j_ 1) (by decide) rfl (fun ls hl => ?_)
                                  refine lv_goto (tgt := 56) hx hb dX9_rider_231 (by decide) ?_
                                  skip
                                  skip
                                  skip
                                  skip
                                  skip
                                  exact ih_56 (j_ + 1) p9_ (nI wi_) (tb_ ||| ((1 : Int32) <<< ((0 : Int32) &&& 31))) (upd lm_ 5 0) lx_ (some (tkb tx_ n_ p9_)) (nI (tkE tx_ n_ p9_)) (tkK tx_ n_ p9_) (nI (tkb tx_ n_ p9_)) (by first | (intro z; cases z; done) | exact fun _ => ⟨rfl, rfl, rfl⟩) (by first | (intro z; cases z; done) | (intro _; have hok1 : tkK tx_ n_ p9_ = 1 ∧ tb_ &&& bitO (itI tx_ n_ p9_) = 0 := ⟨c_76, by rw [hI9]; exact (told_b hT hwi).mp c_87⟩; have hf : itF tx_ n_ p9_ tb_ = none := (by unfold itF it3; rw [if_pos hok1, h2, if_pos ⟨c_147, by rw [hI9, lrg_r wi_ hwi, ← ez156]; exact Int32.not_lt.mp c_176⟩, if_pos c_216]); have hT2 := toldN_s hT hj hf; rw [hI9] at hT2; refine ⟨hT2.2, ?_, hT2.1, ?_, hhv_224, ?_⟩; (first | exact tkE_le (tkE_le (tkE_le (tkE_le hp))) | exact tkE_le (tkE_le (tkE_le hp))); rw [← hRd, show 6 - j_ = (6 - (j_ + 1)) + 1 by omega, rd_go c_67 hf, hI9]; unfold itP it3; rw [h2]; exact fun k hk => by rw [hA9]; by_cases e : k = wi_ <;> first | (subst e; rw [upd_at, upd_at]; done) | (rw [upd_ne _ _ e, upd_ne _ _ (by omega)]; exact hlx k hk))) (by first | (intro f z; cases z; done) | (intro f z; obtain rfl := Option.some.inj z; rw [← hRd, show 6 - j_ = (6 - (j_ + 1)) + 1 by omega, rd_bad c_67 (fun y => by rw [hf] at y; cases y), hf])) (by first | (intro f z; cases z; done) | (intro f z; obtain rfl := Option.some.inj z; have := tkb_le (tx := tx_) hp; have := tkb_le (tx := tx_) (tkE_le (tx := tx_) hp); have := tkb_le (tx := tx_) (tkE_le (tx := tx_) (tkE_le (tx := tx_) hp)); have := tkb_le (tx := tx_) (tkE_le (tx := tx_) (tkE_le (tx := tx_) (tkE_le (tx := tx_) hp))); omega)) (fun k hk => by rw [upd_ne _ _ (by omega)]; exact hlm k hk) (by first | exact mz_n hn_56 (by omega) | exact mz_s hn_56 (by omega)) H locs hP hD hS ls (lv_sub hl [0, 3, 5] rfl)
                              · exact absurd (by decide) c_198
                            · refine lv_iconst (v := 1) hx hb dX9_rider_179 (by decide) ?_
                              refine lv_goto (tgt := 184) hx hb dX9_rider_180 (by decide) ?_
                              refine ca_V (q0 := 0) (n := 1) (rest := []) (wr := [(bl_, .inl (cy 0, 10, .inl lm_))]) F hK hE hA hP hD hS hl.1 (kX9_reads_n (l := l) (D := D) (cy := cy) (sa := sa) b0_ 0 tr_ bn_ bt_ bs_ bk_ bp_ bi_ bl_ it_ ub_ db_ bx_ bc_ bf_ n_ tx_ (nI (tkE tx_ n_ p9_)) (tkK tx_ n_ p9_) (nI (tkb tx_ n_ p9_)) (nI wi_) (tkb tx_ n_ p9_) 1 (by have := tkb_le (tx := tx_) hp; have := tkb_le (tx := tx_) (tkE_le (tx := tx_) hp); have := tkb_le (tx := tx_) (tkE_le (tx := tx_) (tkE_le (tx := tx_) hp)); have := tkb_le (tx := tx_) (tkE_le (tx := tx_) (tkE_le (tx := tx_) (tkE_le (tx := tx_) hp))); omega)) gX9_rider_X9_reads rfl rfl rfl rfl rfl rfl (by decide +kernel) ⟨by decide, by decide⟩ [0, 1] [2] rfl rfl rfl rfl (by decide) rfl rfl (Nat.le_of_ble_eq_true rfl) dX9_rider_184 ⟨by decide, by decide⟩ (fun v9 u9 H locs hv hP hD hS => ?_)
                              subst hv
                              obtain ⟨hP, hD⟩ := re_ws (ws' := [(b0_, .inr (9, [.int 0, .long tr_, .ref bn_, .ref bt_, .ref bs_, .ref bk_, .ref bp_, .ref bi_, .ref bl_, .int it_, .int ub_, .int db_, .ref bx_, .int (nI n_), .int (nI (tkE tx_ n_ p9_)), .int (tkK tx_ n_ p9_), .int (nI (tkb tx_ n_ p9_)), .int (nI wi_), .int (nI (tkb tx_ n_ p9_)), .ref bc_, .ref bf_])), (bx_, .inl (cy 0, 200, .inl tx_)), (bl_, .inl (cy 0, 10, .inl lm_))]) hP hD [1, 2, 0] rfl rfl
                              refine W.eq (g2 := F0 m 187 ls [.int 0]) rfl ?_
                              refine lv_istore (lv' := [(5, .int 0), (4, .int 0), (1, .int (tb_ ||| ((1 : Int32) <<< ((0 : Int32) &&& 31)))), (3, .int 0), (2, .int (nI j_)), (0, .ref b0_)]) hx hb dX9_rider_187 hl (by decide) rfl (fun ls hl => ?_)
                              refine lv_aload_n hx hb dX9_rider_189 rfl (lv_at hl 5 rfl) ?_
                              refine va_get (D := D) (ci := 9) (v := .ref bl_) (C := RX9) (T := TX9) (N := 21) hx hb hts winX9 hown hK hP 0 rfl rfl 8 (by decide) wf29 (fun _ h9 => h9) rfl dX9_rider_190 ?_
                              refine lv_iconst (v := 5) hx hb dX9_rider_193 (by decide) ?_
                              refine lv_iload_n hx hb dX9_rider_194 rfl (lv_at hl 3 rfl) ?_
                              refine lv_iadd hx hb dX9_rider_195 ?_
                              refine lv_eqi (y := 5) rfl ?_
                              refine lv_iload hx hb dX9_rider_196 (lv_at hl 1 rfl) ?_
                              refine lv_if_eq (tgt := 207) hx hb dX9_rider_198 (by decide) (fun c_198 => ?_) (fun c_198 => ?_)
                              · refine lv_iload hx hb dX9_rider_207 (lv_at hl 0 rfl) ?_
                                refine as_i (x := 0) hx hb hK hP hD hS 2 rfl 5 (rfl) (by decide) (by decide) dX9_rider_209 (fun H locs hP hD hS => ?_)
                                have hP : va_P D vwCl [(b0_, .inr (9, [.int 0, .long tr_, .ref bn_, .ref bt_, .ref bs_, .ref bk_, .ref bp_, .ref bi_, .ref bl_, .int it_, .int ub_, .int db_, .ref bx_, .int (nI n_), .int (nI (tkE tx_ n_ p9_)), .int (tkK tx_ n_ p9_), .int (nI (tkb tx_ n_ p9_)), .int (nI wi_), .int (nI (tkb tx_ n_ p9_)), .ref bc_, .ref bf_])), (bx_, .inl (cy 0, 200, .inl tx_)), (bl_, .inl (cy 0, 10, .inl (upd lm_ 5 0)))] H := hP
                                have hD : va_D A [(b0_, .inr (9, [.int 0, .long tr_, .ref bn_, .ref bt_, .ref bs_, .ref bk_, .ref bp_, .ref bi_, .ref bl_, .int it_, .int ub_, .int db_, .ref bx_, .int (nI n_), .int (nI (tkE tx_ n_ p9_)), .int (tkK tx_ n_ p9_), .int (nI (tkb tx_ n_ p9_)), .int (nI wi_), .int (nI (tkb tx_ n_ p9_)), .ref bc_, .ref bf_])), (bx_, .inl (cy 0, 200, .inl tx_)), (bl_, .inl (cy 0, 10, .inl (upd lm_ 5 0)))] := hD
                                refine lv_aload_n hx hb dX9_rider_210 rfl (lv_at hl 5 rfl) ?_
                                refine lv_aload_n hx hb dX9_rider_211 rfl (lv_at hl 5 rfl) ?_
                                refine va_get (D := D) (ci := 9) (v := .int (tkK tx_ n_ p9_)) (C := RX9) (T := TX9) (N := 21) hx hb hts winX9 hown hK hP 0 rfl rfl 15 (by decide) wf142 (fun _ h9 => h9) rfl dX9_rider_212 ?_
                                refine lv_iconst (v := 4) hx hb dX9_rider_215 (by decide) ?_
                                refine lv_icmp_ne (tgt := 223) hx hb dX9_rider_216 (by decide) (fun c_216 => ?_) (fun c_216 => ?_)
                                · refine lv_iconst (v := 0) hx hb dX9_rider_223 (by decide) ?_
                                  refine ca_V (q0 := 0) (n := 1) (rest := []) (wr := [(bl_, .inl (cy 0, 10, .inl (upd lm_ 5 0)))]) F hK hE hA hP hD hS hl.1 (kX9_reads_n (l := l) (D := D) (cy := cy) (sa := sa) b0_ 0 tr_ bn_ bt_ bs_ bk_ bp_ bi_ bl_ it_ ub_ db_ bx_ bc_ bf_ n_ tx_ (nI (tkE tx_ n_ p9_)) (tkK tx_ n_ p9_) (nI (tkb tx_ n_ p9_)) (nI wi_) (tkb tx_ n_ p9_) 0 (by have := tkb_le (tx := tx_) hp; have := tkb_le (tx := tx_) (tkE_le (tx := tx_) hp); have := tkb_le (tx := tx_) (tkE_le (tx := tx_) (tkE_le (tx := tx_) hp)); have := tkb_le (tx := tx_) (tkE_le (tx := tx_) (tkE_le (tx := tx_) (tkE_le (tx := tx_) hp))); omega)) gX9_rider_X9_reads rfl rfl rfl rfl rfl rfl (by decide +kernel) ⟨by decide, by decide⟩ [0, 1] [2] rfl rfl rfl rfl (by decide) rfl rfl (Nat.le_of_ble_eq_true rfl) dX9_rider_224 ⟨by decide, by decide⟩ (fun v9 u9 H locs hv hP hD hS => ?_)
                                  subst hv
                                  obtain ⟨hP, hD⟩ := re_ws (ws' := [(b0_, .inr (9, [.int 0, .long tr_, .ref bn_, .ref bt_, .ref bs_, .ref bk_, .ref bp_, .ref bi_, .ref bl_, .int it_, .int ub_, .int db_, .ref bx_, .int (nI n_), .int (nI (tkE tx_ n_ p9_)), .int (tkK tx_ n_ p9_), .int (nI (tkb tx_ n_ p9_)), .int (nI wi_), .int (nI (tkb tx_ n_ p9_)), .ref bc_, .ref bf_])), (bx_, .inl (cy 0, 200, .inl tx_)), (bl_, .inl (cy 0, 10, .inl (upd lm_ 5 0)))]) hP hD [1, 2, 0] rfl rfl
                                  refine W.eq (g2 := F0 m 227 ls [.int 0]) rfl ?_
                                  refine lv_pop hx hb dX9_rider_227 rfl ?_
                                  refine lv_iinc (v := nI (j_ + 1)) (lv' := [(2, .int (nI (j_ + 1))), (5, .int 0), (4, .int 0), (1, .int (tb_ ||| ((1 : Int32) <<< ((0 : Int32) &&& 31)))), (3, .int 0), (0, .ref b0_)]) hx hb dX9_rider_228 hl (k := 4) rfl (nI_add j_ 1) (by decide) rfl (fun ls hl => ?_)
                                  refine lv_goto (tgt := 56) hx hb dX9_rider_231 (by decide) ?_
                                  skip
                                  skip
                                  skip
                                  skip
                                  skip
                                  exact ih_56 (j_ + 1) p9_ (nI wi_) (tb_ ||| ((1 : Int32) <<< ((0 : Int32) &&& 31))) (upd lm_ 5 0) lx_ (some (tkb tx_ n_ p9_)) (nI (tkE tx_ n_ p9_)) (tkK tx_ n_ p9_) (nI (tkb tx_ n_ p9_)) (by first | (intro z; cases z; done) | exact fun _ => ⟨rfl, rfl, rfl⟩) (by first | (intro z; cases z; done) | (intro _; have hok1 : tkK tx_ n_ p9_ = 1 ∧ tb_ &&& bitO (itI tx_ n_ p9_) = 0 := ⟨c_76, by rw [hI9]; exact (told_b hT hwi).mp c_87⟩; have hf : itF tx_ n_ p9_ tb_ = none := (by unfold itF it3; rw [if_pos hok1, h2, if_pos ⟨c_147, by rw [hI9, lrg_r wi_ hwi, ← ez156]; exact Int32.not_lt.mp c_176⟩, if_pos c_216]); have hT2 := toldN_s hT hj hf; rw [hI9] at hT2; refine ⟨hT2.2, ?_, hT2.1, ?_, hhv_224, ?_⟩; (first | exact tkE_le (tkE_le (tkE_le (tkE_le hp))) | exact tkE_le (tkE_le (tkE_le hp))); rw [← hRd, show 6 - j_ = (6 - (j_ + 1)) + 1 by omega, rd_go c_67 hf, hI9]; unfold itP it3; rw [h2]; exact fun k hk => by rw [hA9]; by_cases e : k = wi_ <;> first | (subst e; rw [upd_at, upd_at]; done) | (rw [upd_ne _ _ e, upd_ne _ _ (by omega)]; exact hlx k hk))) (by first | (intro f z; cases z; done) | (intro f z; obtain rfl := Option.some.inj z; rw [← hRd, show 6 - j_ = (6 - (j_ + 1)) + 1 by omega, rd_bad c_67 (fun y => by rw [hf] at y; cases y), hf])) (by first | (intro f z; cases z; done) | (intro f z; obtain rfl := Option.some.inj z; have := tkb_le (tx := tx_) hp; have := tkb_le (tx := tx_) (tkE_le (tx := tx_) hp); have := tkb_le (tx := tx_) (tkE_le (tx := tx_) (tkE_le (tx := tx_) hp)); have := tkb_le (tx := tx_) (tkE_le (tx := tx_) (tkE_le (tx := tx_) (tkE_le (tx := tx_) hp))); omega)) (fun k hk => by rw [upd_ne _ _ (by omega)]; exact hlm k hk) (by first | exact mz_n hn_56 (by omega) | exact mz_s hn_56 (by omega)) H locs hP hD hS ls (lv_sub hl [0, 3, 5] rfl)
                                · refine lv_iconst (v := 1) hx hb dX9_rider_219 (by decide) ?_
                                  refine lv_goto (tgt := 224) hx hb dX9_rider_220 (by decide) ?_
                                  refine ca_V (q0 := 0) (n := 1) (rest := []) (wr := [(bl_, .inl (cy 0, 10, .inl (upd lm_ 5 0)))]) F hK hE hA hP hD hS hl.1 (kX9_reads_n (l := l) (D := D) (cy := cy) (sa := sa) b0_ 0 tr_ bn_ bt_ bs_ bk_ bp_ bi_ bl_ it_ ub_ db_ bx_ bc_ bf_ n_ tx_ (nI (tkE tx_ n_ p9_)) (tkK tx_ n_ p9_) (nI (tkb tx_ n_ p9_)) (nI wi_) (tkb tx_ n_ p9_) 1 (by have := tkb_le (tx := tx_) hp; have := tkb_le (tx := tx_) (tkE_le (tx := tx_) hp); have := tkb_le (tx := tx_) (tkE_le (tx := tx_) (tkE_le (tx := tx_) hp)); have := tkb_le (tx := tx_) (tkE_le (tx := tx_) (tkE_le (tx := tx_) (tkE_le (tx := tx_) hp))); omega)) gX9_rider_X9_reads rfl rfl rfl rfl rfl rfl (by decide +kernel) ⟨by decide, by decide⟩ [0, 1] [2] rfl rfl rfl rfl (by decide) rfl rfl (Nat.le_of_ble_eq_true rfl) dX9_rider_224 ⟨by decide, by decide⟩ (fun v9 u9 H locs hv hP hD hS => ?_)
                                  subst hv
                                  obtain ⟨hP, hD⟩ := re_ws (ws' := [(b0_, .inr (9, [.int 0, .long tr_, .ref bn_, .ref bt_, .ref bs_, .ref bk_, .ref bp_, .ref bi_, .ref bl_, .int it_, .int ub_, .int db_, .ref bx_, .int (nI n_), .int (nI (tkE tx_ n_ p9_)), .int (tkK tx_ n_ p9_), .int (nI (tkb tx_ n_ p9_)), .int (nI wi_), .int (nI (tkb tx_ n_ p9_)), .ref bc_, .ref bf_])), (bx_, .inl (cy 0, 200, .inl tx_)), (bl_, .inl (cy 0, 10, .inl (upd lm_ 5 0)))]) hP hD [1, 2, 0] rfl rfl
                                  refine W.eq (g2 := F0 m 227 ls [.int 0]) rfl ?_
                                  refine lv_pop hx hb dX9_rider_227 rfl ?_
                                  refine lv_iinc (v := nI (j_ + 1)) (lv' := [(2, .int (nI (j_ + 1))), (5, .int 0), (4, .int 0), (1, .int (tb_ ||| ((1 : Int32) <<< ((0 : Int32) &&& 31)))), (3, .int 0), (0, .ref b0_)]) hx hb dX9_rider_228 hl (k := 4) rfl (nI_add j_ 1) (by decide) rfl (fun ls hl => ?_)
                                  refine lv_goto (tgt := 56) hx hb dX9_rider_231 (by decide) ?_
                                  skip
                                  skip
                                  skip
                                  skip
                                  skip
                                  exact ih_56 (j_ + 1) p9_ (nI wi_) (tb_ ||| ((1 : Int32) <<< ((0 : Int32) &&& 31))) (upd lm_ 5 0) lx_ (some (tkb tx_ n_ p9_)) (nI (tkE tx_ n_ p9_)) (tkK tx_ n_ p9_) (nI (tkb tx_ n_ p9_)) (by first | (intro z; cases z; done) | exact fun _ => ⟨rfl, rfl, rfl⟩) (by first | (intro z; cases z; done) | (intro _; have hok1 : tkK tx_ n_ p9_ = 1 ∧ tb_ &&& bitO (itI tx_ n_ p9_) = 0 := ⟨c_76, by rw [hI9]; exact (told_b hT hwi).mp c_87⟩; have hf : itF tx_ n_ p9_ tb_ = none := (by unfold itF it3; rw [if_pos hok1, h2, if_pos ⟨c_147, by rw [hI9, lrg_r wi_ hwi, ← ez156]; exact Int32.not_lt.mp c_176⟩, if_pos c_216]); have hT2 := toldN_s hT hj hf; rw [hI9] at hT2; refine ⟨hT2.2, ?_, hT2.1, ?_, hhv_224, ?_⟩; (first | exact tkE_le (tkE_le (tkE_le (tkE_le hp))) | exact tkE_le (tkE_le (tkE_le hp))); rw [← hRd, show 6 - j_ = (6 - (j_ + 1)) + 1 by omega, rd_go c_67 hf, hI9]; unfold itP it3; rw [h2]; exact fun k hk => by rw [hA9]; by_cases e : k = wi_ <;> first | (subst e; rw [upd_at, upd_at]; done) | (rw [upd_ne _ _ e, upd_ne _ _ (by omega)]; exact hlx k hk))) (by first | (intro f z; cases z; done) | (intro f z; obtain rfl := Option.some.inj z; rw [← hRd, show 6 - j_ = (6 - (j_ + 1)) + 1 by omega, rd_bad c_67 (fun y => by rw [hf] at y; cases y), hf])) (by first | (intro f z; cases z; done) | (intro f z; obtain rfl := Option.some.inj z; have := tkb_le (tx := tx_) hp; have := tkb_le (tx := tx_) (tkE_le (tx := tx_) hp); have := tkb_le (tx := tx_) (tkE_le (tx := tx_) (tkE_le (tx := tx_) hp)); have := tkb_le (tx := tx_) (tkE_le (tx := tx_) (tkE_le (tx := tx_) (tkE_le (tx := tx_) hp))); omega)) (fun k hk => by rw [upd_ne _ _ (by omega)]; exact hlm k hk) (by first | exact mz_n hn_56 (by omega) | exact mz_s hn_56 (by omega)) H locs hP hD hS ls (lv_sub hl [0, 3, 5] rfl)
                              · exact absurd (by decide) c_198
                      · exact absurd (by decide) c_134
                    · exact absurd (by decide) c_109
                  · refine lv_iconst (v := 1) hx hb dX9_rider_90 (by decide) ?_
                    refine lv_goto (tgt := 95) hx hb dX9_rider_91 (by decide) ?_
                    refine ca_V (q0 := 0) (n := 1) (rest := []) (wr := [(bl_, .inl (cy 0, 10, .inl lm_))]) F hK hE hA hP hD hS hl.1 (kX9_reads_w (l := l) (D := D) (cy := cy) (sa := sa) b0_ 0 tr_ bn_ bt_ bs_ bk_ bp_ bi_ bl_ it_ ub_ db_ bx_ bc_ bf_ n_ tx_ (tkE tx_ n_ p9_) (tkK tx_ n_ p9_) (nI (tkb tx_ n_ p9_)) wi_ (by first | assumption | omega | decide) (by first | assumption | omega | decide) (tkE_le hp)) gX9_rider_X9_reads rfl rfl rfl rfl rfl rfl (by decide +kernel) ⟨by decide, by decide⟩ [0, 1] [2] rfl rfl rfl rfl (by decide) rfl rfl (Nat.le_of_ble_eq_true rfl) dX9_rider_95 ⟨by decide, by decide⟩ (fun v9 u9 H locs hv hP hD hS => ?_)
                    obtain ⟨u95_vl2, hu9⟩ : ∃ z, z = u9 := ⟨_, rfl⟩
                    subst hu9
                    obtain ⟨hv, hhv_95⟩ := hv
                    subst hv
                    obtain ⟨hP, hD⟩ := re_ws (ws' := [(b0_, .inr (9, [.int 0, .long tr_, .ref bn_, .ref bt_, .ref bs_, .ref bk_, .ref bp_, .ref bi_, .ref bl_, .int it_, .int ub_, .int db_, .ref bx_, .int (nI n_), .int (nI (tkE tx_ n_ (tkE tx_ n_ p9_))), .int (tkK tx_ n_ (tkE tx_ n_ p9_)), .int (nI (tkb tx_ n_ (tkE tx_ n_ p9_))), .int u95_vl2, .int (-1), .ref bc_, .ref bf_])), (bx_, .inl (cy 0, 200, .inl tx_)), (bl_, .inl (cy 0, 10, .inl lm_))]) hP hD [1, 2, 0] rfl rfl
                    refine W.eq (g2 := F0 m 98 ls [.int (nI wi_)]) rfl ?_
                    refine lv_istore_n (lv' := [(3, .int (nI wi_)), (2, .int (nI j_)), (1, .int tb_), (0, .ref b0_)]) hx hb dX9_rider_98 rfl hl (by decide) rfl (fun ls hl => ?_)
                    refine lv_iload_n hx hb dX9_rider_99 rfl (lv_at hl 2 rfl) ?_
                    refine lv_iconst (v := 1) hx hb dX9_rider_100 (by decide) ?_
                    refine lv_iload_n hx hb dX9_rider_101 rfl (lv_at hl 0 rfl) ?_
                    refine lv_ishl hx hb dX9_rider_102 ?_
                    refine lv_ior hx hb dX9_rider_103 ?_
                    refine lv_istore_n (lv' := [(1, .int (tb_ ||| (1 <<< ((nI wi_) &&& 31)))), (3, .int (nI wi_)), (2, .int (nI j_)), (0, .ref b0_)]) hx hb dX9_rider_104 rfl hl (by decide) rfl (fun ls hl => ?_)
                    refine lv_aload_n hx hb dX9_rider_105 rfl (lv_at hl 3 rfl) ?_
                    refine ca_V (q0 := 0) (n := 0) (rest := []) (wr := [(bx_, .inl (cy 0, 200, .inl tx_)), (bl_, .inl (cy 0, 10, .inl lm_))]) F hK hE hA hP hD hS hl.1 (kX9_isWell_y (l := l) (D := D) (cy := cy) (sa := sa) b0_ 0 tr_ bn_ bt_ bs_ bk_ bp_ bi_ bl_ it_ ub_ db_ bx_ bc_ bf_ (nI n_) (nI (tkE tx_ n_ (tkE tx_ n_ p9_))) (tkK tx_ n_ (tkE tx_ n_ p9_)) (nI (tkb tx_ n_ (tkE tx_ n_ p9_))) u95_vl2) gX9_rider_X9_isWell rfl rfl rfl rfl rfl rfl (by decide +kernel) ⟨by decide, by decide⟩ [0] [1, 2] rfl rfl rfl rfl (by decide) rfl rfl (Nat.le_of_ble_eq_true rfl) dX9_rider_106 ⟨by decide, by decide⟩ (fun v9 u9 H locs hv hP hD hS => ?_)
                    subst hv
                    obtain ⟨hP, hD⟩ := re_ws (ws' := [(b0_, .inr (9, [.int 0, .long tr_, .ref bn_, .ref bt_, .ref bs_, .ref bk_, .ref bp_, .ref bi_, .ref bl_, .int it_, .int ub_, .int db_, .ref bx_, .int (nI n_), .int (nI (tkE tx_ n_ (tkE tx_ n_ p9_))), .int (tkK tx_ n_ (tkE tx_ n_ p9_)), .int (nI (tkb tx_ n_ (tkE tx_ n_ p9_))), .int u95_vl2, .int (-1), .ref bc_, .ref bf_])), (bx_, .inl (cy 0, 200, .inl tx_)), (bl_, .inl (cy 0, 10, .inl lm_))]) hP hD [2, 0, 1] rfl rfl
                    refine W.eq (g2 := F0 m 109 ls [.int 1]) rfl ?_
                    refine lv_if_eq (tgt := 129) hx hb dX9_rider_109 (by decide) (fun c_109 => ?_) (fun c_109 => ?_)
                    · exact absurd c_109 (by decide)
                    · refine lv_aload_n hx hb dX9_rider_112 rfl (lv_at hl 3 rfl) ?_
                      refine va_get (D := D) (ci := 9) (v := .int (tkK tx_ n_ (tkE tx_ n_ p9_))) (C := RX9) (T := TX9) (N := 21) hx hb hts winX9 hown hK hP 0 rfl rfl 15 (by decide) wf142 (fun _ h9 => h9) rfl dX9_rider_113 ?_
                      refine lv_iconst (v := 2) hx hb dX9_rider_116 (by decide) ?_
                      have J_117_574 : ∀ (H : Heap) (locs : List Loc), va_P D vwCl [(b0_, .inr (9, [.int 0, .long tr_, .ref bn_, .ref bt_, .ref bs_, .ref bk_, .ref bp_, .ref bi_, .ref bl_, .int it_, .int ub_, .int db_, .ref bx_, .int (nI n_), .int (nI (tkE tx_ n_ (tkE tx_ n_ p9_))), .int (tkK tx_ n_ (tkE tx_ n_ p9_)), .int (nI (tkb tx_ n_ (tkE tx_ n_ p9_))), .int u95_vl2, .int (-1), .ref bc_, .ref bf_])), (bx_, .inl (cy 0, 200, .inl tx_)), (bl_, .inl (cy 0, 10, .inl lm_))] H → va_D A [(b0_, .inr (9, [.int 0, .long tr_, .ref bn_, .ref bt_, .ref bs_, .ref bk_, .ref bp_, .ref bi_, .ref bl_, .int it_, .int ub_, .int db_, .ref bx_, .int (nI n_), .int (nI (tkE tx_ n_ (tkE tx_ n_ p9_))), .int (tkK tx_ n_ (tkE tx_ n_ p9_)), .int (nI (tkb tx_ n_ (tkE tx_ n_ p9_))), .int u95_vl2, .int (-1), .ref bc_, .ref bf_])), (bx_, .inl (cy 0, 200, .inl tx_)), (bl_, .inl (cy 0, 10, .inl lm_))] → va_S A s.heap H locs → ∀ (ls : Array Slot), lv_has ls 6 [(1, .int (tb_ ||| (1 <<< ((nI wi_) &&& 31)))), (3, .int (nI wi_)), (2, .int (nI j_)), (0, .ref b0_)] → W p l e rmkX9_rider s m args below meth c H locs 0 0 Q (F0 m 130 ls [.int (bI (((tkK tx_ n_ (tkE tx_ n_ p9_)) = 2) ∧ (¬ (3 ≤ wi_))))]) := by
                        intro H locs hP hD hS ls hl
                        refine lv_istore (lv' := [(4, .int (bI (((tkK tx_ n_ (tkE tx_ n_ p9_)) = 2) ∧ (¬ (3 ≤ wi_))))), (1, .int (tb_ ||| (1 <<< ((nI wi_) &&& 31)))), (3, .int (nI wi_)), (2, .int (nI j_)), (0, .ref b0_)]) hx hb dX9_rider_130 hl (by decide) rfl (fun ls hl => ?_)
                        refine lv_iload hx hb dX9_rider_132 (lv_at hl 0 rfl) ?_
                        refine bz_eq (tgt := 141) hx hb dX9_rider_134 (by decide) (fun c_134 => ?_) (fun c_134 => ?_)
                        · rw [show ((4, .int (bI (((tkK tx_ n_ (tkE tx_ n_ p9_)) = 2) ∧ (¬ (3 ≤ wi_))))) : Nat × Value) = (4, .int 0) from congrArg (fun y9 => ((4, Value.int y9) : Nat × Value)) (bI_f c_134)] at hl
                          have h2 : it2 tx_ n_ p9_ = tkE tx_ n_ p9_ := by unfold it2; rw [if_neg (show ¬ itL tx_ n_ p9_ from fun z => c_134 ⟨z.1, (sml_r wi_ hwi).mp (by rw [← hI9]; exact z.2)⟩)]
                          have hA9 : itA tx_ n_ p9_ = tkV tx_ n_ (tkE tx_ n_ p9_) := by unfold itA; rw [if_neg (show ¬ itL tx_ n_ p9_ from fun z => c_134 ⟨z.1, (sml_r wi_ hwi).mp (by rw [← hI9]; exact z.2)⟩), h2]
                          refine lv_aload_n hx hb dX9_rider_141 rfl (lv_at hl 4 rfl) ?_
                          refine lv_aload_n hx hb dX9_rider_142 rfl (lv_at hl 4 rfl) ?_
                          refine va_get (D := D) (ci := 9) (v := .int (tkK tx_ n_ (tkE tx_ n_ p9_))) (C := RX9) (T := TX9) (N := 21) hx hb hts winX9 hown hK hP 0 rfl rfl 15 (by decide) wf142 (fun _ h9 => h9) rfl dX9_rider_143 ?_
                          refine lv_iconst (v := 3) hx hb dX9_rider_146 (by decide) ?_
                          refine lv_icmp_ne (tgt := 183) hx hb dX9_rider_147 (by decide) (fun c_147 => ?_) (fun c_147 => ?_)
                          · refine lv_iconst (v := 0) hx hb dX9_rider_183 (by decide) ?_
                            refine ca_V (q0 := 0) (n := 1) (rest := []) (wr := [(bl_, .inl (cy 0, 10, .inl lm_))]) F hK hE hA hP hD hS hl.1 (kX9_reads_0 (l := l) (D := D) (cy := cy) (sa := sa) b0_ 0 tr_ bn_ bt_ bs_ bk_ bp_ bi_ bl_ it_ ub_ db_ bx_ bc_ bf_ n_ tx_ (nI (tkE tx_ n_ (tkE tx_ n_ p9_))) (tkK tx_ n_ (tkE tx_ n_ p9_)) (tkb tx_ n_ (tkE tx_ n_ p9_)) u95_vl2) gX9_rider_X9_reads rfl rfl rfl rfl rfl rfl (by decide +kernel) ⟨by decide, by decide⟩ [0, 1] [2] rfl rfl rfl rfl (by decide) rfl rfl (Nat.le_of_ble_eq_true rfl) dX9_rider_184 ⟨by decide, by decide⟩ (fun v9 u9 H locs hv hP hD hS => ?_)
                            subst hv
                            obtain ⟨hP, hD⟩ := re_ws (ws' := [(b0_, .inr (9, [.int 0, .long tr_, .ref bn_, .ref bt_, .ref bs_, .ref bk_, .ref bp_, .ref bi_, .ref bl_, .int it_, .int ub_, .int db_, .ref bx_, .int (nI n_), .int (nI (tkE tx_ n_ (tkE tx_ n_ p9_))), .int (tkK tx_ n_ (tkE tx_ n_ p9_)), .int (nI (tkb tx_ n_ (tkE tx_ n_ p9_))), .int u95_vl2, .int (nI (tkb tx_ n_ (tkE tx_ n_ p9_))), .ref bc_, .ref bf_])), (bx_, .inl (cy 0, 200, .inl tx_)), (bl_, .inl (cy 0, 10, .inl lm_))]) hP hD [1, 2, 0] rfl rfl
                            refine W.eq (g2 := F0 m 187 ls [.int 0]) rfl ?_
                            have hok1 : tkK tx_ n_ p9_ = 1 ∧ tb_ &&& bitO (itI tx_ n_ p9_) = 0 := ⟨c_76, by rw [hI9]; exact (told_b hT hwi).mp c_87⟩
                            have hf : itF tx_ n_ p9_ tb_ = some ((tkb tx_ n_ (tkE tx_ n_ p9_))) := by unfold itF; rw [if_pos hok1, h2, if_neg]; first | exact fun z => c_147 z.1 | exact fun z => Int32.not_le.mpr c_176 (by have z2 := z.2; rw [hI9, lrg_r wi_ hwi, ← ez156] at z2; exact z2)
                            refine lv_istore (lv' := [(5, .int 0), (4, .int 0), (1, .int (tb_ ||| (1 <<< ((nI wi_) &&& 31)))), (3, .int (nI wi_)), (2, .int (nI j_)), (0, .ref b0_)]) hx hb dX9_rider_187 hl (by decide) rfl (fun ls hl => ?_)
                            refine lv_aload_n hx hb dX9_rider_189 rfl (lv_at hl 5 rfl) ?_
                            refine va_get (D := D) (ci := 9) (v := .ref bl_) (C := RX9) (T := TX9) (N := 21) hx hb hts winX9 hown hK hP 0 rfl rfl 8 (by decide) wf29 (fun _ h9 => h9) rfl dX9_rider_190 ?_
                            refine lv_iconst (v := 5) hx hb dX9_rider_193 (by decide) ?_
                            refine lv_iload_n hx hb dX9_rider_194 rfl (lv_at hl 3 rfl) ?_
                            refine lv_iadd hx hb dX9_rider_195 ?_
                            refine lv_eqi (y := nI (5 + wi_)) (nI_add 5 wi_) ?_
                            refine lv_iload hx hb dX9_rider_196 (lv_at hl 1 rfl) ?_
                            refine lv_if_eq (tgt := 207) hx hb dX9_rider_198 (by decide) (fun c_198 => ?_) (fun c_198 => ?_)
                            · refine lv_iload hx hb dX9_rider_207 (lv_at hl 0 rfl) ?_
                              refine as_i (x := 0) hx hb hK hP hD hS 2 rfl (5 + wi_) (rfl) (by omega) (by decide) dX9_rider_209 (fun H locs hP hD hS => ?_)
                              have hP : va_P D vwCl [(b0_, .inr (9, [.int 0, .long tr_, .ref bn_, .ref bt_, .ref bs_, .ref bk_, .ref bp_, .ref bi_, .ref bl_, .int it_, .int ub_, .int db_, .ref bx_, .int (nI n_), .int (nI (tkE tx_ n_ (tkE tx_ n_ p9_))), .int (tkK tx_ n_ (tkE tx_ n_ p9_)), .int (nI (tkb tx_ n_ (tkE tx_ n_ p9_))), .int u95_vl2, .int (nI (tkb tx_ n_ (tkE tx_ n_ p9_))), .ref bc_, .ref bf_])), (bx_, .inl (cy 0, 200, .inl tx_)), (bl_, .inl (cy 0, 10, .inl (upd lm_ (5 + wi_) 0)))] H := hP
                              have hD : va_D A [(b0_, .inr (9, [.int 0, .long tr_, .ref bn_, .ref bt_, .ref bs_, .ref bk_, .ref bp_, .ref bi_, .ref bl_, .int it_, .int ub_, .int db_, .ref bx_, .int (nI n_), .int (nI (tkE tx_ n_ (tkE tx_ n_ p9_))), .int (tkK tx_ n_ (tkE tx_ n_ p9_)), .int (nI (tkb tx_ n_ (tkE tx_ n_ p9_))), .int u95_vl2, .int (nI (tkb tx_ n_ (tkE tx_ n_ p9_))), .ref bc_, .ref bf_])), (bx_, .inl (cy 0, 200, .inl tx_)), (bl_, .inl (cy 0, 10, .inl (upd lm_ (5 + wi_) 0)))] := hD
                              refine lv_aload_n hx hb dX9_rider_210 rfl (lv_at hl 5 rfl) ?_
                              refine lv_aload_n hx hb dX9_rider_211 rfl (lv_at hl 5 rfl) ?_
                              refine va_get (D := D) (ci := 9) (v := .int (tkK tx_ n_ (tkE tx_ n_ p9_))) (C := RX9) (T := TX9) (N := 21) hx hb hts winX9 hown hK hP 0 rfl rfl 15 (by decide) wf142 (fun _ h9 => h9) rfl dX9_rider_212 ?_
                              refine lv_iconst (v := 4) hx hb dX9_rider_215 (by decide) ?_
                              refine lv_icmp_ne (tgt := 223) hx hb dX9_rider_216 (by decide) (fun c_216 => ?_) (fun c_216 => ?_)
                              · refine lv_iconst (v := 0) hx hb dX9_rider_223 (by decide) ?_
                                refine ca_V (q0 := 0) (n := 1) (rest := []) (wr := [(bl_, .inl (cy 0, 10, .inl (upd lm_ (5 + wi_) 0)))]) F hK hE hA hP hD hS hl.1 (kX9_reads_n (l := l) (D := D) (cy := cy) (sa := sa) b0_ 0 tr_ bn_ bt_ bs_ bk_ bp_ bi_ bl_ it_ ub_ db_ bx_ bc_ bf_ n_ tx_ (nI (tkE tx_ n_ (tkE tx_ n_ p9_))) (tkK tx_ n_ (tkE tx_ n_ p9_)) (nI (tkb tx_ n_ (tkE tx_ n_ p9_))) u95_vl2 (tkb tx_ n_ (tkE tx_ n_ p9_)) 0 (by have := tkb_le (tx := tx_) hp; have := tkb_le (tx := tx_) (tkE_le (tx := tx_) hp); have := tkb_le (tx := tx_) (tkE_le (tx := tx_) (tkE_le (tx := tx_) hp)); have := tkb_le (tx := tx_) (tkE_le (tx := tx_) (tkE_le (tx := tx_) (tkE_le (tx := tx_) hp))); omega)) gX9_rider_X9_reads rfl rfl rfl rfl rfl rfl (by decide +kernel) ⟨by decide, by decide⟩ [0, 1] [2] rfl rfl rfl rfl (by decide) rfl rfl (Nat.le_of_ble_eq_true rfl) dX9_rider_224 ⟨by decide, by decide⟩ (fun v9 u9 H locs hv hP hD hS => ?_)
                                subst hv
                                obtain ⟨hP, hD⟩ := re_ws (ws' := [(b0_, .inr (9, [.int 0, .long tr_, .ref bn_, .ref bt_, .ref bs_, .ref bk_, .ref bp_, .ref bi_, .ref bl_, .int it_, .int ub_, .int db_, .ref bx_, .int (nI n_), .int (nI (tkE tx_ n_ (tkE tx_ n_ p9_))), .int (tkK tx_ n_ (tkE tx_ n_ p9_)), .int (nI (tkb tx_ n_ (tkE tx_ n_ p9_))), .int u95_vl2, .int (nI (tkb tx_ n_ (tkE tx_ n_ p9_))), .ref bc_, .ref bf_])), (bx_, .inl (cy 0, 200, .inl tx_)), (bl_, .inl (cy 0, 10, .inl (upd lm_ (5 + wi_) 0)))]) hP hD [1, 2, 0] rfl rfl
                                refine W.eq (g2 := F0 m 227 ls [.int 0]) rfl ?_
                                refine lv_pop hx hb dX9_rider_227 rfl ?_
                                refine lv_iinc (v := nI (j_ + 1)) (lv' := [(2, .int (nI (j_ + 1))), (5, .int 0), (4, .int 0), (1, .int (tb_ ||| (1 <<< ((nI wi_) &&& 31)))), (3, .int (nI wi_)), (0, .ref b0_)]) hx hb dX9_rider_228 hl (k := 4) rfl (nI_add j_ 1) (by decide) rfl (fun ls hl => ?_)
                                refine lv_goto (tgt := 56) hx hb dX9_rider_231 (by decide) ?_
                                skip
                                skip
                                skip
                                skip
                                exact ih_56 (j_ + 1) p9_ u95_vl2 (tb_ ||| (1 <<< ((nI wi_) &&& 31))) (upd lm_ (5 + wi_) 0) lx_ (some (tkb tx_ n_ (tkE tx_ n_ p9_))) (nI (tkE tx_ n_ (tkE tx_ n_ p9_))) (tkK tx_ n_ (tkE tx_ n_ p9_)) (nI (tkb tx_ n_ (tkE tx_ n_ p9_))) (by first | (intro z; cases z; done) | exact fun _ => ⟨rfl, rfl, rfl⟩) (by first | (intro z; cases z; done) | (intro _; have hok1 : tkK tx_ n_ p9_ = 1 ∧ tb_ &&& bitO (itI tx_ n_ p9_) = 0 := ⟨c_76, by rw [hI9]; exact (told_b hT hwi).mp c_87⟩; have hf : itF tx_ n_ p9_ tb_ = none := (by unfold itF it3; rw [if_pos hok1, h2, if_pos ⟨c_147, by rw [hI9, lrg_r wi_ hwi, ← ez156]; exact Int32.not_lt.mp c_176⟩, if_pos c_216]); have hT2 := toldN_s hT hj hf; rw [hI9] at hT2; refine ⟨hT2.2, ?_, hT2.1, ?_, hhv_224, ?_⟩; (first | exact tkE_le (tkE_le (tkE_le (tkE_le hp))) | exact tkE_le (tkE_le (tkE_le hp))); rw [← hRd, show 6 - j_ = (6 - (j_ + 1)) + 1 by omega, rd_go c_67 hf, hI9]; unfold itP it3; rw [h2]; exact fun k hk => by rw [hA9]; by_cases e : k = wi_ <;> first | (subst e; rw [upd_at, upd_at]; done) | (rw [upd_ne _ _ e, upd_ne _ _ (by omega)]; exact hlx k hk))) (by first | (intro f z; cases z; done) | (intro f z; obtain rfl := Option.some.inj z; rw [← hRd, show 6 - j_ = (6 - (j_ + 1)) + 1 by omega, rd_bad c_67 (fun y => by rw [hf] at y; cases y), hf])) (by first | (intro f z; cases z; done) | (intro f z; obtain rfl := Option.some.inj z; have := tkb_le (tx := tx_) hp; have := tkb_le (tx := tx_) (tkE_le (tx := tx_) hp); have := tkb_le (tx := tx_) (tkE_le (tx := tx_) (tkE_le (tx := tx_) hp)); have := tkb_le (tx := tx_) (tkE_le (tx := tx_) (tkE_le (tx := tx_) (tkE_le (tx := tx_) hp))); omega)) (fun k hk => by rw [upd_ne _ _ (by omega)]; exact hlm k hk) (by first | exact mz_n hn_56 (by omega) | exact mz_s hn_56 (by omega)) H locs hP hD hS ls (lv_sub hl [0, 3, 5] rfl)
                              · refine lv_iconst (v := 1) hx hb dX9_rider_219 (by decide) ?_
                                refine lv_goto (tgt := 224) hx hb dX9_rider_220 (by decide) ?_
                                refine ca_V (q0 := 0) (n := 1) (rest := []) (wr := [(bl_, .inl (cy 0, 10, .inl (upd lm_ (5 + wi_) 0)))]) F hK hE hA hP hD hS hl.1 (kX9_reads_n (l := l) (D := D) (cy := cy) (sa := sa) b0_ 0 tr_ bn_ bt_ bs_ bk_ bp_ bi_ bl_ it_ ub_ db_ bx_ bc_ bf_ n_ tx_ (nI (tkE tx_ n_ (tkE tx_ n_ p9_))) (tkK tx_ n_ (tkE tx_ n_ p9_)) (nI (tkb tx_ n_ (tkE tx_ n_ p9_))) u95_vl2 (tkb tx_ n_ (tkE tx_ n_ p9_)) 1 (by have := tkb_le (tx := tx_) hp; have := tkb_le (tx := tx_) (tkE_le (tx := tx_) hp); have := tkb_le (tx := tx_) (tkE_le (tx := tx_) (tkE_le (tx := tx_) hp)); have := tkb_le (tx := tx_) (tkE_le (tx := tx_) (tkE_le (tx := tx_) (tkE_le (tx := tx_) hp))); omega)) gX9_rider_X9_reads rfl rfl rfl rfl rfl rfl (by decide +kernel) ⟨by decide, by decide⟩ [0, 1] [2] rfl rfl rfl rfl (by decide) rfl rfl (Nat.le_of_ble_eq_true rfl) dX9_rider_224 ⟨by decide, by decide⟩ (fun v9 u9 H locs hv hP hD hS => ?_)
                                subst hv
                                obtain ⟨hP, hD⟩ := re_ws (ws' := [(b0_, .inr (9, [.int 0, .long tr_, .ref bn_, .ref bt_, .ref bs_, .ref bk_, .ref bp_, .ref bi_, .ref bl_, .int it_, .int ub_, .int db_, .ref bx_, .int (nI n_), .int (nI (tkE tx_ n_ (tkE tx_ n_ p9_))), .int (tkK tx_ n_ (tkE tx_ n_ p9_)), .int (nI (tkb tx_ n_ (tkE tx_ n_ p9_))), .int u95_vl2, .int (nI (tkb tx_ n_ (tkE tx_ n_ p9_))), .ref bc_, .ref bf_])), (bx_, .inl (cy 0, 200, .inl tx_)), (bl_, .inl (cy 0, 10, .inl (upd lm_ (5 + wi_) 0)))]) hP hD [1, 2, 0] rfl rfl
                                refine W.eq (g2 := F0 m 227 ls [.int 0]) rfl ?_
                                refine lv_pop hx hb dX9_rider_227 rfl ?_
                                refine lv_iinc (v := nI (j_ + 1)) (lv' := [(2, .int (nI (j_ + 1))), (5, .int 0), (4, .int 0), (1, .int (tb_ ||| (1 <<< ((nI wi_) &&& 31)))), (3, .int (nI wi_)), (0, .ref b0_)]) hx hb dX9_rider_228 hl (k := 4) rfl (nI_add j_ 1) (by decide) rfl (fun ls hl => ?_)
                                refine lv_goto (tgt := 56) hx hb dX9_rider_231 (by decide) ?_
                                skip
                                skip
                                skip
                                skip
                                exact ih_56 (j_ + 1) p9_ u95_vl2 (tb_ ||| (1 <<< ((nI wi_) &&& 31))) (upd lm_ (5 + wi_) 0) lx_ (some (tkb tx_ n_ (tkE tx_ n_ p9_))) (nI (tkE tx_ n_ (tkE tx_ n_ p9_))) (tkK tx_ n_ (tkE tx_ n_ p9_)) (nI (tkb tx_ n_ (tkE tx_ n_ p9_))) (by first | (intro z; cases z; done) | exact fun _ => ⟨rfl, rfl, rfl⟩) (by first | (intro z; cases z; done) | (intro _; have hok1 : tkK tx_ n_ p9_ = 1 ∧ tb_ &&& bitO (itI tx_ n_ p9_) = 0 := ⟨c_76, by rw [hI9]; exact (told_b hT hwi).mp c_87⟩; have hf : itF tx_ n_ p9_ tb_ = none := (by unfold itF it3; rw [if_pos hok1, h2, if_pos ⟨c_147, by rw [hI9, lrg_r wi_ hwi, ← ez156]; exact Int32.not_lt.mp c_176⟩, if_pos c_216]); have hT2 := toldN_s hT hj hf; rw [hI9] at hT2; refine ⟨hT2.2, ?_, hT2.1, ?_, hhv_224, ?_⟩; (first | exact tkE_le (tkE_le (tkE_le (tkE_le hp))) | exact tkE_le (tkE_le (tkE_le hp))); rw [← hRd, show 6 - j_ = (6 - (j_ + 1)) + 1 by omega, rd_go c_67 hf, hI9]; unfold itP it3; rw [h2]; exact fun k hk => by rw [hA9]; by_cases e : k = wi_ <;> first | (subst e; rw [upd_at, upd_at]; done) | (rw [upd_ne _ _ e, upd_ne _ _ (by omega)]; exact hlx k hk))) (by first | (intro f z; cases z; done) | (intro f z; obtain rfl := Option.some.inj z; rw [← hRd, show 6 - j_ = (6 - (j_ + 1)) + 1 by omega, rd_bad c_67 (fun y => by rw [hf] at y; cases y), hf])) (by first | (intro f z; cases z; done) | (intro f z; obtain rfl := Option.some.inj z; have := tkb_le (tx := tx_) hp; have := tkb_le (tx := tx_) (tkE_le (tx := tx_) hp); have := tkb_le (tx := tx_) (tkE_le (tx := tx_) (tkE_le (tx := tx_) hp)); have := tkb_le (tx := tx_) (tkE_le (tx := tx_) (tkE_le (tx := tx_) (tkE_le (tx := tx_) hp))); omega)) (fun k hk => by rw [upd_ne _ _ (by omega)]; exact hlm k hk) (by first | exact mz_n hn_56 (by omega) | exact mz_s hn_56 (by omega)) H locs hP hD hS ls (lv_sub hl [0, 3, 5] rfl)
                            · exact absurd (by decide) c_198
                          · obtain rfl : tkV tx_ n_ (tkE tx_ n_ p9_) = u95_vl2 := (hhv_95 (Or.inr c_147)).symm
                            refine lv_aload_n hx hb dX9_rider_150 rfl (lv_at hl 4 rfl) ?_
                            refine va_get (D := D) (ci := 9) (v := .int (tkV tx_ n_ (tkE tx_ n_ p9_))) (C := RX9) (T := TX9) (N := 21) hx hb hts winX9 hown hK hP 0 rfl rfl 17 (by decide) wf149 (fun _ h9 => h9) rfl dX9_rider_151 ?_
                            refine lv_iload_n hx hb dX9_rider_154 rfl (lv_at hl 2 rfl) ?_
                            refine lv_iconst (v := 3) hx hb dX9_rider_155 (by decide) ?_
                            have J_156_645 : ∀ (z156 : Int32), z156 = (if 3 ≤ wi_ then (if wi_ = 3 then 5 else 999) else 99) → ∀ (H : Heap) (locs : List Loc), va_P D vwCl [(b0_, .inr (9, [.int 0, .long tr_, .ref bn_, .ref bt_, .ref bs_, .ref bk_, .ref bp_, .ref bi_, .ref bl_, .int it_, .int ub_, .int db_, .ref bx_, .int (nI n_), .int (nI (tkE tx_ n_ (tkE tx_ n_ p9_))), .int (tkK tx_ n_ (tkE tx_ n_ p9_)), .int (nI (tkb tx_ n_ (tkE tx_ n_ p9_))), .int (tkV tx_ n_ (tkE tx_ n_ p9_)), .int (-1), .ref bc_, .ref bf_])), (bx_, .inl (cy 0, 200, .inl tx_)), (bl_, .inl (cy 0, 10, .inl lm_))] H → va_D A [(b0_, .inr (9, [.int 0, .long tr_, .ref bn_, .ref bt_, .ref bs_, .ref bk_, .ref bp_, .ref bi_, .ref bl_, .int it_, .int ub_, .int db_, .ref bx_, .int (nI n_), .int (nI (tkE tx_ n_ (tkE tx_ n_ p9_))), .int (tkK tx_ n_ (tkE tx_ n_ p9_)), .int (nI (tkb tx_ n_ (tkE tx_ n_ p9_))), .int (tkV tx_ n_ (tkE tx_ n_ p9_)), .int (-1), .ref bc_, .ref bf_])), (bx_, .inl (cy 0, 200, .inl tx_)), (bl_, .inl (cy 0, 10, .inl lm_))] → va_S A s.heap H locs → ∀ (ls : Array Slot), lv_has ls 6 [(4, .int 0), (1, .int (tb_ ||| (1 <<< ((nI wi_) &&& 31)))), (3, .int (nI wi_)), (2, .int (nI j_)), (0, .ref b0_)] → W p l e rmkX9_rider s m args below meth c H locs 0 0 Q (F0 m 176 ls [.int z156, .int (tkV tx_ n_ (tkE tx_ n_ p9_)), .ref b0_]) := by
                              intro z156 ez156 H locs hP hD hS ls hl
                              refine lv_icmp_gt (tgt := 183) hx hb dX9_rider_176 (by decide) (fun c_176 => ?_) (fun c_176 => ?_)
                              · refine lv_iconst (v := 0) hx hb dX9_rider_183 (by decide) ?_
                                refine ca_V (q0 := 0) (n := 1) (rest := []) (wr := [(bl_, .inl (cy 0, 10, .inl lm_))]) F hK hE hA hP hD hS hl.1 (kX9_reads_0 (l := l) (D := D) (cy := cy) (sa := sa) b0_ 0 tr_ bn_ bt_ bs_ bk_ bp_ bi_ bl_ it_ ub_ db_ bx_ bc_ bf_ n_ tx_ (nI (tkE tx_ n_ (tkE tx_ n_ p9_))) (tkK tx_ n_ (tkE tx_ n_ p9_)) (tkb tx_ n_ (tkE tx_ n_ p9_)) (tkV tx_ n_ (tkE tx_ n_ p9_))) gX9_rider_X9_reads rfl rfl rfl rfl rfl rfl (by decide +kernel) ⟨by decide, by decide⟩ [0, 1] [2] rfl rfl rfl rfl (by decide) rfl rfl (Nat.le_of_ble_eq_true rfl) dX9_rider_184 ⟨by decide, by decide⟩ (fun v9 u9 H locs hv hP hD hS => ?_)
                                subst hv
                                obtain ⟨hP, hD⟩ := re_ws (ws' := [(b0_, .inr (9, [.int 0, .long tr_, .ref bn_, .ref bt_, .ref bs_, .ref bk_, .ref bp_, .ref bi_, .ref bl_, .int it_, .int ub_, .int db_, .ref bx_, .int (nI n_), .int (nI (tkE tx_ n_ (tkE tx_ n_ p9_))), .int (tkK tx_ n_ (tkE tx_ n_ p9_)), .int (nI (tkb tx_ n_ (tkE tx_ n_ p9_))), .int (tkV tx_ n_ (tkE tx_ n_ p9_)), .int (nI (tkb tx_ n_ (tkE tx_ n_ p9_))), .ref bc_, .ref bf_])), (bx_, .inl (cy 0, 200, .inl tx_)), (bl_, .inl (cy 0, 10, .inl lm_))]) hP hD [1, 2, 0] rfl rfl
                                refine W.eq (g2 := F0 m 187 ls [.int 0]) rfl ?_
                                have hok1 : tkK tx_ n_ p9_ = 1 ∧ tb_ &&& bitO (itI tx_ n_ p9_) = 0 := ⟨c_76, by rw [hI9]; exact (told_b hT hwi).mp c_87⟩
                                have hf : itF tx_ n_ p9_ tb_ = some ((tkb tx_ n_ (tkE tx_ n_ p9_))) := by unfold itF; rw [if_pos hok1, h2, if_neg]; first | exact fun z => c_147 z.1 | exact fun z => Int32.not_le.mpr c_176 (by have z2 := z.2; rw [hI9, lrg_r wi_ hwi, ← ez156] at z2; exact z2)
                                refine lv_istore (lv' := [(5, .int 0), (4, .int 0), (1, .int (tb_ ||| (1 <<< ((nI wi_) &&& 31)))), (3, .int (nI wi_)), (2, .int (nI j_)), (0, .ref b0_)]) hx hb dX9_rider_187 hl (by decide) rfl (fun ls hl => ?_)
                                refine lv_aload_n hx hb dX9_rider_189 rfl (lv_at hl 5 rfl) ?_
                                refine va_get (D := D) (ci := 9) (v := .ref bl_) (C := RX9) (T := TX9) (N := 21) hx hb hts winX9 hown hK hP 0 rfl rfl 8 (by decide) wf29 (fun _ h9 => h9) rfl dX9_rider_190 ?_
                                refine lv_iconst (v := 5) hx hb dX9_rider_193 (by decide) ?_
                                refine lv_iload_n hx hb dX9_rider_194 rfl (lv_at hl 3 rfl) ?_
                                refine lv_iadd hx hb dX9_rider_195 ?_
                                refine lv_eqi (y := nI (5 + wi_)) (nI_add 5 wi_) ?_
                                refine lv_iload hx hb dX9_rider_196 (lv_at hl 1 rfl) ?_
                                refine lv_if_eq (tgt := 207) hx hb dX9_rider_198 (by decide) (fun c_198 => ?_) (fun c_198 => ?_)
                                · refine lv_iload hx hb dX9_rider_207 (lv_at hl 0 rfl) ?_
                                  refine as_i (x := 0) hx hb hK hP hD hS 2 rfl (5 + wi_) (rfl) (by omega) (by decide) dX9_rider_209 (fun H locs hP hD hS => ?_)
                                  have hP : va_P D vwCl [(b0_, .inr (9, [.int 0, .long tr_, .ref bn_, .ref bt_, .ref bs_, .ref bk_, .ref bp_, .ref bi_, .ref bl_, .int it_, .int ub_, .int db_, .ref bx_, .int (nI n_), .int (nI (tkE tx_ n_ (tkE tx_ n_ p9_))), .int (tkK tx_ n_ (tkE tx_ n_ p9_)), .int (nI (tkb tx_ n_ (tkE tx_ n_ p9_))), .int (tkV tx_ n_ (tkE tx_ n_ p9_)), .int (nI (tkb tx_ n_ (tkE tx_ n_ p9_))), .ref bc_, .ref bf_])), (bx_, .inl (cy 0, 200, .inl tx_)), (bl_, .inl (cy 0, 10, .inl (upd lm_ (5 + wi_) 0)))] H := hP
                                  have hD : va_D A [(b0_, .inr (9, [.int 0, .long tr_, .ref bn_, .ref bt_, .ref bs_, .ref bk_, .ref bp_, .ref bi_, .ref bl_, .int it_, .int ub_, .int db_, .ref bx_, .int (nI n_), .int (nI (tkE tx_ n_ (tkE tx_ n_ p9_))), .int (tkK tx_ n_ (tkE tx_ n_ p9_)), .int (nI (tkb tx_ n_ (tkE tx_ n_ p9_))), .int (tkV tx_ n_ (tkE tx_ n_ p9_)), .int (nI (tkb tx_ n_ (tkE tx_ n_ p9_))), .ref bc_, .ref bf_])), (bx_, .inl (cy 0, 200, .inl tx_)), (bl_, .inl (cy 0, 10, .inl (upd lm_ (5 + wi_) 0)))] := hD
                                  refine lv_aload_n hx hb dX9_rider_210 rfl (lv_at hl 5 rfl) ?_
                                  refine lv_aload_n hx hb dX9_rider_211 rfl (lv_at hl 5 rfl) ?_
                                  refine va_get (D := D) (ci := 9) (v := .int (tkK tx_ n_ (tkE tx_ n_ p9_))) (C := RX9) (T := TX9) (N := 21) hx hb hts winX9 hown hK hP 0 rfl rfl 15 (by decide) wf142 (fun _ h9 => h9) rfl dX9_rider_212 ?_
                                  refine lv_iconst (v := 4) hx hb dX9_rider_215 (by decide) ?_
                                  refine lv_icmp_ne (tgt := 223) hx hb dX9_rider_216 (by decide) (fun c_216 => ?_) (fun c_216 => ?_)
                                  · refine lv_iconst (v := 0) hx hb dX9_rider_223 (by decide) ?_
                                    refine ca_V (q0 := 0) (n := 1) (rest := []) (wr := [(bl_, .inl (cy 0, 10, .inl (upd lm_ (5 + wi_) 0)))]) F hK hE hA hP hD hS hl.1 (kX9_reads_n (l := l) (D := D) (cy := cy) (sa := sa) b0_ 0 tr_ bn_ bt_ bs_ bk_ bp_ bi_ bl_ it_ ub_ db_ bx_ bc_ bf_ n_ tx_ (nI (tkE tx_ n_ (tkE tx_ n_ p9_))) (tkK tx_ n_ (tkE tx_ n_ p9_)) (nI (tkb tx_ n_ (tkE tx_ n_ p9_))) (tkV tx_ n_ (tkE tx_ n_ p9_)) (tkb tx_ n_ (tkE tx_ n_ p9_)) 0 (by have := tkb_le (tx := tx_) hp; have := tkb_le (tx := tx_) (tkE_le (tx := tx_) hp); have := tkb_le (tx := tx_) (tkE_le (tx := tx_) (tkE_le (tx := tx_) hp)); have := tkb_le (tx := tx_) (tkE_le (tx := tx_) (tkE_le (tx := tx_) (tkE_le (tx := tx_) hp))); omega)) gX9_rider_X9_reads rfl rfl rfl rfl rfl rfl (by decide +kernel) ⟨by decide, by decide⟩ [0, 1] [2] rfl rfl rfl rfl (by decide) rfl rfl (Nat.le_of_ble_eq_true rfl) dX9_rider_224 ⟨by decide, by decide⟩ (fun v9 u9 H locs hv hP hD hS => ?_)
                                    subst hv
                                    obtain ⟨hP, hD⟩ := re_ws (ws' := [(b0_, .inr (9, [.int 0, .long tr_, .ref bn_, .ref bt_, .ref bs_, .ref bk_, .ref bp_, .ref bi_, .ref bl_, .int it_, .int ub_, .int db_, .ref bx_, .int (nI n_), .int (nI (tkE tx_ n_ (tkE tx_ n_ p9_))), .int (tkK tx_ n_ (tkE tx_ n_ p9_)), .int (nI (tkb tx_ n_ (tkE tx_ n_ p9_))), .int (tkV tx_ n_ (tkE tx_ n_ p9_)), .int (nI (tkb tx_ n_ (tkE tx_ n_ p9_))), .ref bc_, .ref bf_])), (bx_, .inl (cy 0, 200, .inl tx_)), (bl_, .inl (cy 0, 10, .inl (upd lm_ (5 + wi_) 0)))]) hP hD [1, 2, 0] rfl rfl
                                    refine W.eq (g2 := F0 m 227 ls [.int 0]) rfl ?_
                                    refine lv_pop hx hb dX9_rider_227 rfl ?_
                                    refine lv_iinc (v := nI (j_ + 1)) (lv' := [(2, .int (nI (j_ + 1))), (5, .int 0), (4, .int 0), (1, .int (tb_ ||| (1 <<< ((nI wi_) &&& 31)))), (3, .int (nI wi_)), (0, .ref b0_)]) hx hb dX9_rider_228 hl (k := 4) rfl (nI_add j_ 1) (by decide) rfl (fun ls hl => ?_)
                                    refine lv_goto (tgt := 56) hx hb dX9_rider_231 (by decide) ?_
                                    skip
                                    skip
                                    skip
                                    skip
                                    exact ih_56 (j_ + 1) p9_ (tkV tx_ n_ (tkE tx_ n_ p9_)) (tb_ ||| (1 <<< ((nI wi_) &&& 31))) (upd lm_ (5 + wi_) 0) lx_ (some (tkb tx_ n_ (tkE tx_ n_ p9_))) (nI (tkE tx_ n_ (tkE tx_ n_ p9_))) (tkK tx_ n_ (tkE tx_ n_ p9_)) (nI (tkb tx_ n_ (tkE tx_ n_ p9_))) (by first | (intro z; cases z; done) | exact fun _ => ⟨rfl, rfl, rfl⟩) (by first | (intro z; cases z; done) | (intro _; have hok1 : tkK tx_ n_ p9_ = 1 ∧ tb_ &&& bitO (itI tx_ n_ p9_) = 0 := ⟨c_76, by rw [hI9]; exact (told_b hT hwi).mp c_87⟩; have hf : itF tx_ n_ p9_ tb_ = none := (by unfold itF it3; rw [if_pos hok1, h2, if_pos ⟨c_147, by rw [hI9, lrg_r wi_ hwi, ← ez156]; exact Int32.not_lt.mp c_176⟩, if_pos c_216]); have hT2 := toldN_s hT hj hf; rw [hI9] at hT2; refine ⟨hT2.2, ?_, hT2.1, ?_, hhv_224, ?_⟩; (first | exact tkE_le (tkE_le (tkE_le (tkE_le hp))) | exact tkE_le (tkE_le (tkE_le hp))); rw [← hRd, show 6 - j_ = (6 - (j_ + 1)) + 1 by omega, rd_go c_67 hf, hI9]; unfold itP it3; rw [h2]; exact fun k hk => by rw [hA9]; by_cases e : k = wi_ <;> first | (subst e; rw [upd_at, upd_at]; done) | (rw [upd_ne _ _ e, upd_ne _ _ (by omega)]; exact hlx k hk))) (by first | (intro f z; cases z; done) | (intro f z; obtain rfl := Option.some.inj z; rw [← hRd, show 6 - j_ = (6 - (j_ + 1)) + 1 by omega, rd_bad c_67 (fun y => by rw [hf] at y; cases y), hf])) (by first | (intro f z; cases z; done) | (intro f z; obtain rfl := Option.some.inj z; have := tkb_le (tx := tx_) hp; have := tkb_le (tx := tx_) (tkE_le (tx := tx_) hp); have := tkb_le (tx := tx_) (tkE_le (tx := tx_) (tkE_le (tx := tx_) hp)); have := tkb_le (tx := tx_) (tkE_le (tx := tx_) (tkE_le (tx := tx_) (tkE_le (tx := tx_) hp))); omega)) (fun k hk => by rw [upd_ne _ _ (by omega)]; exact hlm k hk) (by first | exact mz_n hn_56 (by omega) | exact mz_s hn_56 (by omega)) H locs hP hD hS ls (lv_sub hl [0, 3, 5] rfl)
                                  · refine lv_iconst (v := 1) hx hb dX9_rider_219 (by decide) ?_
                                    refine lv_goto (tgt := 224) hx hb dX9_rider_220 (by decide) ?_
                                    refine ca_V (q0 := 0) (n := 1) (rest := []) (wr := [(bl_, .inl (cy 0, 10, .inl (upd lm_ (5 + wi_) 0)))]) F hK hE hA hP hD hS hl.1 (kX9_reads_n (l := l) (D := D) (cy := cy) (sa := sa) b0_ 0 tr_ bn_ bt_ bs_ bk_ bp_ bi_ bl_ it_ ub_ db_ bx_ bc_ bf_ n_ tx_ (nI (tkE tx_ n_ (tkE tx_ n_ p9_))) (tkK tx_ n_ (tkE tx_ n_ p9_)) (nI (tkb tx_ n_ (tkE tx_ n_ p9_))) (tkV tx_ n_ (tkE tx_ n_ p9_)) (tkb tx_ n_ (tkE tx_ n_ p9_)) 1 (by have := tkb_le (tx := tx_) hp; have := tkb_le (tx := tx_) (tkE_le (tx := tx_) hp); have := tkb_le (tx := tx_) (tkE_le (tx := tx_) (tkE_le (tx := tx_) hp)); have := tkb_le (tx := tx_) (tkE_le (tx := tx_) (tkE_le (tx := tx_) (tkE_le (tx := tx_) hp))); omega)) gX9_rider_X9_reads rfl rfl rfl rfl rfl rfl (by decide +kernel) ⟨by decide, by decide⟩ [0, 1] [2] rfl rfl rfl rfl (by decide) rfl rfl (Nat.le_of_ble_eq_true rfl) dX9_rider_224 ⟨by decide, by decide⟩ (fun v9 u9 H locs hv hP hD hS => ?_)
                                    subst hv
                                    obtain ⟨hP, hD⟩ := re_ws (ws' := [(b0_, .inr (9, [.int 0, .long tr_, .ref bn_, .ref bt_, .ref bs_, .ref bk_, .ref bp_, .ref bi_, .ref bl_, .int it_, .int ub_, .int db_, .ref bx_, .int (nI n_), .int (nI (tkE tx_ n_ (tkE tx_ n_ p9_))), .int (tkK tx_ n_ (tkE tx_ n_ p9_)), .int (nI (tkb tx_ n_ (tkE tx_ n_ p9_))), .int (tkV tx_ n_ (tkE tx_ n_ p9_)), .int (nI (tkb tx_ n_ (tkE tx_ n_ p9_))), .ref bc_, .ref bf_])), (bx_, .inl (cy 0, 200, .inl tx_)), (bl_, .inl (cy 0, 10, .inl (upd lm_ (5 + wi_) 0)))]) hP hD [1, 2, 0] rfl rfl
                                    refine W.eq (g2 := F0 m 227 ls [.int 0]) rfl ?_
                                    refine lv_pop hx hb dX9_rider_227 rfl ?_
                                    refine lv_iinc (v := nI (j_ + 1)) (lv' := [(2, .int (nI (j_ + 1))), (5, .int 0), (4, .int 0), (1, .int (tb_ ||| (1 <<< ((nI wi_) &&& 31)))), (3, .int (nI wi_)), (0, .ref b0_)]) hx hb dX9_rider_228 hl (k := 4) rfl (nI_add j_ 1) (by decide) rfl (fun ls hl => ?_)
                                    refine lv_goto (tgt := 56) hx hb dX9_rider_231 (by decide) ?_
                                    skip
                                    skip
                                    skip
                                    skip
                                    exact ih_56 (j_ + 1) p9_ (tkV tx_ n_ (tkE tx_ n_ p9_)) (tb_ ||| (1 <<< ((nI wi_) &&& 31))) (upd lm_ (5 + wi_) 0) lx_ (some (tkb tx_ n_ (tkE tx_ n_ p9_))) (nI (tkE tx_ n_ (tkE tx_ n_ p9_))) (tkK tx_ n_ (tkE tx_ n_ p9_)) (nI (tkb tx_ n_ (tkE tx_ n_ p9_))) (by first | (intro z; cases z; done) | exact fun _ => ⟨rfl, rfl, rfl⟩) (by first | (intro z; cases z; done) | (intro _; have hok1 : tkK tx_ n_ p9_ = 1 ∧ tb_ &&& bitO (itI tx_ n_ p9_) = 0 := ⟨c_76, by rw [hI9]; exact (told_b hT hwi).mp c_87⟩; have hf : itF tx_ n_ p9_ tb_ = none := (by unfold itF it3; rw [if_pos hok1, h2, if_pos ⟨c_147, by rw [hI9, lrg_r wi_ hwi, ← ez156]; exact Int32.not_lt.mp c_176⟩, if_pos c_216]); have hT2 := toldN_s hT hj hf; rw [hI9] at hT2; refine ⟨hT2.2, ?_, hT2.1, ?_, hhv_224, ?_⟩; (first | exact tkE_le (tkE_le (tkE_le (tkE_le hp))) | exact tkE_le (tkE_le (tkE_le hp))); rw [← hRd, show 6 - j_ = (6 - (j_ + 1)) + 1 by omega, rd_go c_67 hf, hI9]; unfold itP it3; rw [h2]; exact fun k hk => by rw [hA9]; by_cases e : k = wi_ <;> first | (subst e; rw [upd_at, upd_at]; done) | (rw [upd_ne _ _ e, upd_ne _ _ (by omega)]; exact hlx k hk))) (by first | (intro f z; cases z; done) | (intro f z; obtain rfl := Option.some.inj z; rw [← hRd, show 6 - j_ = (6 - (j_ + 1)) + 1 by omega, rd_bad c_67 (fun y => by rw [hf] at y; cases y), hf])) (by first | (intro f z; cases z; done) | (intro f z; obtain rfl := Option.some.inj z; have := tkb_le (tx := tx_) hp; have := tkb_le (tx := tx_) (tkE_le (tx := tx_) hp); have := tkb_le (tx := tx_) (tkE_le (tx := tx_) (tkE_le (tx := tx_) hp)); have := tkb_le (tx := tx_) (tkE_le (tx := tx_) (tkE_le (tx := tx_) (tkE_le (tx := tx_) hp))); omega)) (fun k hk => by rw [upd_ne _ _ (by omega)]; exact hlm k hk) (by first | exact mz_n hn_56 (by omega) | exact mz_s hn_56 (by omega)) H locs hP hD hS ls (lv_sub hl [0, 3, 5] rfl)
                                · exact absurd (by decide) c_198
                              · refine lv_iconst (v := 1) hx hb dX9_rider_179 (by decide) ?_
                                refine lv_goto (tgt := 184) hx hb dX9_rider_180 (by decide) ?_
                                refine ca_V (q0 := 0) (n := 1) (rest := []) (wr := [(bl_, .inl (cy 0, 10, .inl lm_))]) F hK hE hA hP hD hS hl.1 (kX9_reads_1 (l := l) (D := D) (cy := cy) (sa := sa) b0_ 0 tr_ bn_ bt_ bs_ bk_ bp_ bi_ bl_ it_ ub_ db_ bx_ bc_ bf_ n_ tx_ (tkE tx_ n_ (tkE tx_ n_ p9_)) (tkK tx_ n_ (tkE tx_ n_ p9_)) (nI (tkb tx_ n_ (tkE tx_ n_ p9_))) (tkV tx_ n_ (tkE tx_ n_ p9_)) (by first | assumption | omega | decide) (by first | assumption | omega | decide) (by first | exact tkE_le hp | exact tkE_le (tkE_le hp) | exact tkE_le (tkE_le (tkE_le hp)) | exact tkE_le (tkE_le (tkE_le (tkE_le hp))))) gX9_rider_X9_reads rfl rfl rfl rfl rfl rfl (by decide +kernel) ⟨by decide, by decide⟩ [0, 1] [2] rfl rfl rfl rfl (by decide) rfl rfl (Nat.le_of_ble_eq_true rfl) dX9_rider_184 ⟨by decide, by decide⟩ (fun v9 u9 H locs hv hP hD hS => ?_)
                                obtain ⟨u184_vl2, hu9⟩ : ∃ z, z = u9 := ⟨_, rfl⟩
                                subst hu9
                                obtain ⟨hv, hhv_184⟩ := hv
                                subst hv
                                obtain ⟨hP, hD⟩ := re_ws (ws' := [(b0_, .inr (9, [.int 0, .long tr_, .ref bn_, .ref bt_, .ref bs_, .ref bk_, .ref bp_, .ref bi_, .ref bl_, .int it_, .int ub_, .int db_, .ref bx_, .int (nI n_), .int (nI (tkE tx_ n_ (tkE tx_ n_ (tkE tx_ n_ p9_)))), .int (tkK tx_ n_ (tkE tx_ n_ (tkE tx_ n_ p9_))), .int (nI (tkb tx_ n_ (tkE tx_ n_ (tkE tx_ n_ p9_)))), .int u184_vl2, .int (-1), .ref bc_, .ref bf_])), (bx_, .inl (cy 0, 200, .inl tx_)), (bl_, .inl (cy 0, 10, .inl lm_))]) hP hD [1, 2, 0] rfl rfl
                                refine W.eq (g2 := F0 m 187 ls [.int (tkV tx_ n_ (tkE tx_ n_ p9_))]) rfl ?_
                                refine lv_istore (lv' := [(5, .int (tkV tx_ n_ (tkE tx_ n_ p9_))), (4, .int 0), (1, .int (tb_ ||| (1 <<< ((nI wi_) &&& 31)))), (3, .int (nI wi_)), (2, .int (nI j_)), (0, .ref b0_)]) hx hb dX9_rider_187 hl (by decide) rfl (fun ls hl => ?_)
                                refine lv_aload_n hx hb dX9_rider_189 rfl (lv_at hl 5 rfl) ?_
                                refine va_get (D := D) (ci := 9) (v := .ref bl_) (C := RX9) (T := TX9) (N := 21) hx hb hts winX9 hown hK hP 0 rfl rfl 8 (by decide) wf29 (fun _ h9 => h9) rfl dX9_rider_190 ?_
                                refine lv_iconst (v := 5) hx hb dX9_rider_193 (by decide) ?_
                                refine lv_iload_n hx hb dX9_rider_194 rfl (lv_at hl 3 rfl) ?_
                                refine lv_iadd hx hb dX9_rider_195 ?_
                                refine lv_eqi (y := nI (5 + wi_)) (nI_add 5 wi_) ?_
                                refine lv_iload hx hb dX9_rider_196 (lv_at hl 1 rfl) ?_
                                refine lv_if_eq (tgt := 207) hx hb dX9_rider_198 (by decide) (fun c_198 => ?_) (fun c_198 => ?_)
                                · refine lv_iload hx hb dX9_rider_207 (lv_at hl 0 rfl) ?_
                                  refine as_i (x := (tkV tx_ n_ (tkE tx_ n_ p9_))) hx hb hK hP hD hS 2 rfl (5 + wi_) (rfl) (by omega) (by decide) dX9_rider_209 (fun H locs hP hD hS => ?_)
                                  have hP : va_P D vwCl [(b0_, .inr (9, [.int 0, .long tr_, .ref bn_, .ref bt_, .ref bs_, .ref bk_, .ref bp_, .ref bi_, .ref bl_, .int it_, .int ub_, .int db_, .ref bx_, .int (nI n_), .int (nI (tkE tx_ n_ (tkE tx_ n_ (tkE tx_ n_ p9_)))), .int (tkK tx_ n_ (tkE tx_ n_ (tkE tx_ n_ p9_))), .int (nI (tkb tx_ n_ (tkE tx_ n_ (tkE tx_ n_ p9_)))), .int u184_vl2, .int (-1), .ref bc_, .ref bf_])), (bx_, .inl (cy 0, 200, .inl tx_)), (bl_, .inl (cy 0, 10, .inl (upd lm_ (5 + wi_) (tkV tx_ n_ (tkE tx_ n_ p9_)))))] H := hP
                                  have hD : va_D A [(b0_, .inr (9, [.int 0, .long tr_, .ref bn_, .ref bt_, .ref bs_, .ref bk_, .ref bp_, .ref bi_, .ref bl_, .int it_, .int ub_, .int db_, .ref bx_, .int (nI n_), .int (nI (tkE tx_ n_ (tkE tx_ n_ (tkE tx_ n_ p9_)))), .int (tkK tx_ n_ (tkE tx_ n_ (tkE tx_ n_ p9_))), .int (nI (tkb tx_ n_ (tkE tx_ n_ (tkE tx_ n_ p9_)))), .int u184_vl2, .int (-1), .ref bc_, .ref bf_])), (bx_, .inl (cy 0, 200, .inl tx_)), (bl_, .inl (cy 0, 10, .inl (upd lm_ (5 + wi_) (tkV tx_ n_ (tkE tx_ n_ p9_)))))] := hD
                                  refine lv_aload_n hx hb dX9_rider_210 rfl (lv_at hl 5 rfl) ?_
                                  refine lv_aload_n hx hb dX9_rider_211 rfl (lv_at hl 5 rfl) ?_
                                  refine va_get (D := D) (ci := 9) (v := .int (tkK tx_ n_ (tkE tx_ n_ (tkE tx_ n_ p9_)))) (C := RX9) (T := TX9) (N := 21) hx hb hts winX9 hown hK hP 0 rfl rfl 15 (by decide) wf142 (fun _ h9 => h9) rfl dX9_rider_212 ?_
                                  refine lv_iconst (v := 4) hx hb dX9_rider_215 (by decide) ?_
                                  refine lv_icmp_ne (tgt := 223) hx hb dX9_rider_216 (by decide) (fun c_216 => ?_) (fun c_216 => ?_)
                                  · refine lv_iconst (v := 0) hx hb dX9_rider_223 (by decide) ?_
                                    refine ca_V (q0 := 0) (n := 1) (rest := []) (wr := [(bl_, .inl (cy 0, 10, .inl (upd lm_ (5 + wi_) (tkV tx_ n_ (tkE tx_ n_ p9_)))))]) F hK hE hA hP hD hS hl.1 (kX9_reads_0 (l := l) (D := D) (cy := cy) (sa := sa) b0_ 0 tr_ bn_ bt_ bs_ bk_ bp_ bi_ bl_ it_ ub_ db_ bx_ bc_ bf_ n_ tx_ (nI (tkE tx_ n_ (tkE tx_ n_ (tkE tx_ n_ p9_)))) (tkK tx_ n_ (tkE tx_ n_ (tkE tx_ n_ p9_))) (tkb tx_ n_ (tkE tx_ n_ (tkE tx_ n_ p9_))) u184_vl2) gX9_rider_X9_reads rfl rfl rfl rfl rfl rfl (by decide +kernel) ⟨by decide, by decide⟩ [0, 1] [2] rfl rfl rfl rfl (by decide) rfl rfl (Nat.le_of_ble_eq_true rfl) dX9_rider_224 ⟨by decide, by decide⟩ (fun v9 u9 H locs hv hP hD hS => ?_)
                                    subst hv
                                    obtain ⟨hP, hD⟩ := re_ws (ws' := [(b0_, .inr (9, [.int 0, .long tr_, .ref bn_, .ref bt_, .ref bs_, .ref bk_, .ref bp_, .ref bi_, .ref bl_, .int it_, .int ub_, .int db_, .ref bx_, .int (nI n_), .int (nI (tkE tx_ n_ (tkE tx_ n_ (tkE tx_ n_ p9_)))), .int (tkK tx_ n_ (tkE tx_ n_ (tkE tx_ n_ p9_))), .int (nI (tkb tx_ n_ (tkE tx_ n_ (tkE tx_ n_ p9_)))), .int u184_vl2, .int (nI (tkb tx_ n_ (tkE tx_ n_ (tkE tx_ n_ p9_)))), .ref bc_, .ref bf_])), (bx_, .inl (cy 0, 200, .inl tx_)), (bl_, .inl (cy 0, 10, .inl (upd lm_ (5 + wi_) (tkV tx_ n_ (tkE tx_ n_ p9_)))))]) hP hD [1, 2, 0] rfl rfl
                                    refine W.eq (g2 := F0 m 227 ls [.int 0]) rfl ?_
                                    have hok1 : tkK tx_ n_ p9_ = 1 ∧ tb_ &&& bitO (itI tx_ n_ p9_) = 0 := ⟨c_76, by rw [hI9]; exact (told_b hT hwi).mp c_87⟩
                                    have hf : itF tx_ n_ p9_ tb_ = some ((tkb tx_ n_ (tkE tx_ n_ (tkE tx_ n_ p9_)))) := by unfold itF it3; rw [if_pos hok1, h2, if_pos ⟨c_147, by rw [hI9, lrg_r wi_ hwi, ← ez156]; exact Int32.not_lt.mp c_176⟩, if_neg c_216]
                                    refine lv_pop hx hb dX9_rider_227 rfl ?_
                                    refine lv_iinc (v := nI (j_ + 1)) (lv' := [(2, .int (nI (j_ + 1))), (5, .int (tkV tx_ n_ (tkE tx_ n_ p9_))), (4, .int 0), (1, .int (tb_ ||| (1 <<< ((nI wi_) &&& 31)))), (3, .int (nI wi_)), (0, .ref b0_)]) hx hb dX9_rider_228 hl (k := 4) rfl (nI_add j_ 1) (by decide) rfl (fun ls hl => ?_)
                                    refine lv_goto (tgt := 56) hx hb dX9_rider_231 (by decide) ?_
                                    skip
                                    skip
                                    skip
                                    skip
                                    exact ih_56 (j_ + 1) p9_ u184_vl2 (tb_ ||| (1 <<< ((nI wi_) &&& 31))) (upd lm_ (5 + wi_) (tkV tx_ n_ (tkE tx_ n_ p9_))) lx_ (some (tkb tx_ n_ (tkE tx_ n_ (tkE tx_ n_ p9_)))) (nI (tkE tx_ n_ (tkE tx_ n_ (tkE tx_ n_ p9_)))) (tkK tx_ n_ (tkE tx_ n_ (tkE tx_ n_ p9_))) (nI (tkb tx_ n_ (tkE tx_ n_ (tkE tx_ n_ p9_)))) (by first | (intro z; cases z; done) | exact fun _ => ⟨rfl, rfl, rfl⟩) (by first | (intro z; cases z; done) | (intro _; have hok1 : tkK tx_ n_ p9_ = 1 ∧ tb_ &&& bitO (itI tx_ n_ p9_) = 0 := ⟨c_76, by rw [hI9]; exact (told_b hT hwi).mp c_87⟩; have hf : itF tx_ n_ p9_ tb_ = none := (by unfold itF it3; rw [if_pos hok1, h2, if_pos ⟨c_147, by rw [hI9, lrg_r wi_ hwi, ← ez156]; exact Int32.not_lt.mp c_176⟩, if_pos c_216]); have hT2 := toldN_s hT hj hf; rw [hI9] at hT2; refine ⟨hT2.2, ?_, hT2.1, ?_, hhv_224, ?_⟩; (first | exact tkE_le (tkE_le (tkE_le (tkE_le hp))) | exact tkE_le (tkE_le (tkE_le hp))); rw [← hRd, show 6 - j_ = (6 - (j_ + 1)) + 1 by omega, rd_go c_67 hf, hI9]; unfold itP it3; rw [h2]; exact fun k hk => by rw [hA9]; by_cases e : k = wi_ <;> first | (subst e; rw [upd_at, upd_at]; done) | (rw [upd_ne _ _ e, upd_ne _ _ (by omega)]; exact hlx k hk))) (by first | (intro f z; cases z; done) | (intro f z; obtain rfl := Option.some.inj z; rw [← hRd, show 6 - j_ = (6 - (j_ + 1)) + 1 by omega, rd_bad c_67 (fun y => by rw [hf] at y; cases y), hf])) (by first | (intro f z; cases z; done) | (intro f z; obtain rfl := Option.some.inj z; have := tkb_le (tx := tx_) hp; have := tkb_le (tx := tx_) (tkE_le (tx := tx_) hp); have := tkb_le (tx := tx_) (tkE_le (tx := tx_) (tkE_le (tx := tx_) hp)); have := tkb_le (tx := tx_) (tkE_le (tx := tx_) (tkE_le (tx := tx_) (tkE_le (tx := tx_) hp))); omega)) (fun k hk => by rw [upd_ne _ _ (by omega)]; exact hlm k hk) (by first | exact mz_n hn_56 (by omega) | exact mz_s hn_56 (by omega)) H locs hP hD hS ls (lv_sub hl [0, 3, 5] rfl)
                                  · refine lv_iconst (v := 1) hx hb dX9_rider_219 (by decide) ?_
                                    refine lv_goto (tgt := 224) hx hb dX9_rider_220 (by decide) ?_
                                    refine ca_V (q0 := 0) (n := 1) (rest := []) (wr := [(bl_, .inl (cy 0, 10, .inl (upd lm_ (5 + wi_) (tkV tx_ n_ (tkE tx_ n_ p9_)))))]) F hK hE hA hP hD hS hl.1 (kX9_reads_1 (l := l) (D := D) (cy := cy) (sa := sa) b0_ 0 tr_ bn_ bt_ bs_ bk_ bp_ bi_ bl_ it_ ub_ db_ bx_ bc_ bf_ n_ tx_ (tkE tx_ n_ (tkE tx_ n_ (tkE tx_ n_ p9_))) (tkK tx_ n_ (tkE tx_ n_ (tkE tx_ n_ p9_))) (nI (tkb tx_ n_ (tkE tx_ n_ (tkE tx_ n_ p9_)))) u184_vl2 (by first | assumption | omega | decide) (by first | assumption | omega | decide) (by first | exact tkE_le hp | exact tkE_le (tkE_le hp) | exact tkE_le (tkE_le (tkE_le hp)) | exact tkE_le (tkE_le (tkE_le (tkE_le hp))))) gX9_rider_X9_reads rfl rfl rfl rfl rfl rfl (by decide +kernel) ⟨by decide, by decide⟩ [0, 1] [2] rfl rfl rfl rfl (by decide) rfl rfl (Nat.le_of_ble_eq_true rfl) dX9_rider_224 ⟨by decide, by decide⟩ (fun v9 u9 H locs hv hP hD hS => ?_)
                                    obtain ⟨u224_vl2, hu9⟩ : ∃ z, z = u9 := ⟨_, rfl⟩
                                    subst hu9
                                    obtain ⟨hv, hhv_224⟩ := hv
                                    subst hv
                                    obtain ⟨hP, hD⟩ := re_ws (ws' := [(b0_, .inr (9, [.int 0, .long tr_, .ref bn_, .ref bt_, .ref bs_, .ref bk_, .ref bp_, .ref bi_, .ref bl_, .int it_, .int ub_, .int db_, .ref bx_, .int (nI n_), .int (nI (tkE tx_ n_ (tkE tx_ n_ (tkE tx_ n_ (tkE tx_ n_ p9_))))), .int (tkK tx_ n_ (tkE tx_ n_ (tkE tx_ n_ (tkE tx_ n_ p9_)))), .int (nI (tkb tx_ n_ (tkE tx_ n_ (tkE tx_ n_ (tkE tx_ n_ p9_))))), .int u224_vl2, .int (-1), .ref bc_, .ref bf_])), (bx_, .inl (cy 0, 200, .inl tx_)), (bl_, .inl (cy 0, 10, .inl (upd lm_ (5 + wi_) (tkV tx_ n_ (tkE tx_ n_ p9_)))))]) hP hD [1, 2, 0] rfl rfl
                                    refine W.eq (g2 := F0 m 227 ls [.int u184_vl2]) rfl ?_
                                    refine lv_pop hx hb dX9_rider_227 rfl ?_
                                    refine lv_iinc (v := nI (j_ + 1)) (lv' := [(2, .int (nI (j_ + 1))), (5, .int (tkV tx_ n_ (tkE tx_ n_ p9_))), (4, .int 0), (1, .int (tb_ ||| (1 <<< ((nI wi_) &&& 31)))), (3, .int (nI wi_)), (0, .ref b0_)]) hx hb dX9_rider_228 hl (k := 4) rfl (nI_add j_ 1) (by decide) rfl (fun ls hl => ?_)
                                    refine lv_goto (tgt := 56) hx hb dX9_rider_231 (by decide) ?_
                                    skip
                                    skip
                                    skip
                                    skip
                                    exact ih_56 (j_ + 1) (tkE tx_ n_ (tkE tx_ n_ (tkE tx_ n_ p9_))) u224_vl2 (tb_ ||| (1 <<< ((nI wi_) &&& 31))) (upd lm_ (5 + wi_) (tkV tx_ n_ (tkE tx_ n_ p9_))) (upd lx_ wi_ (itA tx_ n_ p9_)) none (nI (tkE tx_ n_ (tkE tx_ n_ (tkE tx_ n_ (tkE tx_ n_ p9_))))) (tkK tx_ n_ (tkE tx_ n_ (tkE tx_ n_ (tkE tx_ n_ p9_)))) (nI (tkb tx_ n_ (tkE tx_ n_ (tkE tx_ n_ (tkE tx_ n_ p9_))))) (by first | (intro z; cases z; done) | exact fun _ => ⟨rfl, rfl, rfl⟩) (by first | (intro z; cases z; done) | (intro _; have hok1 : tkK tx_ n_ p9_ = 1 ∧ tb_ &&& bitO (itI tx_ n_ p9_) = 0 := ⟨c_76, by rw [hI9]; exact (told_b hT hwi).mp c_87⟩; have hf : itF tx_ n_ p9_ tb_ = none := (by unfold itF it3; rw [if_pos hok1, h2, if_pos ⟨c_147, by rw [hI9, lrg_r wi_ hwi, ← ez156]; exact Int32.not_lt.mp c_176⟩, if_pos c_216]); have hT2 := toldN_s hT hj hf; rw [hI9] at hT2; refine ⟨hT2.2, ?_, hT2.1, ?_, hhv_224, ?_⟩; (first | exact tkE_le (tkE_le (tkE_le (tkE_le hp))) | exact tkE_le (tkE_le (tkE_le hp))); rw [← hRd, show 6 - j_ = (6 - (j_ + 1)) + 1 by omega, rd_go c_67 hf, hI9]; unfold itP it3; rw [h2]; exact fun k hk => by rw [hA9]; by_cases e : k = wi_ <;> first | (subst e; rw [upd_at, upd_at]; done) | (rw [upd_ne _ _ e, upd_ne _ _ (by omega)]; exact hlx k hk))) (by first | (intro f z; cases z; done) | (intro f z; obtain rfl := Option.some.inj z; rw [← hRd, show 6 - j_ = (6 - (j_ + 1)) + 1 by omega, rd_bad c_67 (fun y => by rw [hf] at y; cases y), hf])) (by first | (intro f z; cases z; done) | (intro f z; obtain rfl := Option.some.inj z; have := tkb_le (tx := tx_) hp; have := tkb_le (tx := tx_) (tkE_le (tx := tx_) hp); have := tkb_le (tx := tx_) (tkE_le (tx := tx_) (tkE_le (tx := tx_) hp)); have := tkb_le (tx := tx_) (tkE_le (tx := tx_) (tkE_le (tx := tx_) (tkE_le (tx := tx_) hp))); omega)) (fun k hk => by rw [upd_ne _ _ (by omega)]; exact hlm k hk) (by first | exact mz_n hn_56 (by omega) | exact mz_s hn_56 (by omega)) H locs hP hD hS ls (lv_sub hl [0, 3, 5] rfl)
                                · exact absurd (by decide) c_198
                            refine cn_ge (tgt := 164) hx hb wi_ 3 rfl rfl (by omega) (by omega) dX9_rider_156 (by decide) (fun c_156 => ?_) (fun c_156 => ?_)
                            · refine lv_iload_n hx hb dX9_rider_164 rfl (lv_at hl 2 rfl) ?_
                              refine lv_iconst (v := 3) hx hb dX9_rider_165 (by decide) ?_
                              refine cn_ne (tgt := 173) hx hb wi_ 3 rfl rfl (by omega) (by omega) dX9_rider_166 (by decide) (fun c_166 => ?_) (fun c_166 => ?_)
                              · refine lv_sipush (v := 999) hx hb dX9_rider_173 (by decide) ?_
                                exact J_156_645 _ (((if_pos c_156).trans (if_neg c_166)).symm) H locs hP hD hS ls (lv_sub hl [0, 1, 2, 3, 4] rfl)
                              · refine lv_iconst (v := 5) hx hb dX9_rider_169 (by decide) ?_
                                refine lv_goto (tgt := 176) hx hb dX9_rider_170 (by decide) ?_
                                exact J_156_645 _ (((if_pos c_156).trans (if_pos c_166)).symm) H locs hP hD hS ls (lv_sub hl [0, 1, 2, 3, 4] rfl)
                            · refine lv_bipush (v := 99) hx hb dX9_rider_159 (by decide) ?_
                              refine lv_goto (tgt := 176) hx hb dX9_rider_161 (by decide) ?_
                              exact J_156_645 _ ((if_neg c_156).symm) H locs hP hD hS ls (lv_sub hl [0, 1, 2, 3, 4] rfl)
                        · rw [show ((4, .int (bI (((tkK tx_ n_ (tkE tx_ n_ p9_)) = 2) ∧ (¬ (3 ≤ wi_))))) : Nat × Value) = (4, .int 1) from congrArg (fun y9 => ((4, Value.int y9) : Nat × Value)) (bI_t c_134)] at hl
                          have h2 : it2 tx_ n_ p9_ = tkE tx_ n_ (tkE tx_ n_ p9_) := by unfold it2; rw [if_pos (show itL tx_ n_ p9_ from ⟨c_134.1, by rw [hI9]; exact (sml_r wi_ hwi).mpr c_134.2⟩)]
                          have hA9 : itA tx_ n_ p9_ = -tkV tx_ n_ (tkE tx_ n_ (tkE tx_ n_ p9_)) := by unfold itA; rw [if_pos (show itL tx_ n_ p9_ from ⟨c_134.1, by rw [hI9]; exact (sml_r wi_ hwi).mpr c_134.2⟩), h2]
                          refine lv_aload_n hx hb dX9_rider_137 rfl (lv_at hl 4 rfl) ?_
                          refine ca_V (q0 := 0) (n := 0) (rest := []) (wr := [(bl_, .inl (cy 0, 10, .inl lm_))]) F hK hE hA hP hD hS hl.1 (kX9_advances (l := l) (D := D) (cy := cy) (sa := sa) b0_ 0 tr_ bn_ bt_ bs_ bk_ bp_ bi_ bl_ it_ ub_ db_ bx_ bc_ bf_ n_ tx_ (tkE tx_ n_ (tkE tx_ n_ p9_)) (tkK tx_ n_ (tkE tx_ n_ p9_)) (nI (tkb tx_ n_ (tkE tx_ n_ p9_))) u95_vl2 (-1) (by first | assumption | omega | decide) (by first | assumption | omega | decide) (tkE_le (tkE_le hp))) gX9_rider_X9_advances rfl rfl rfl rfl rfl rfl (by decide +kernel) ⟨by decide, by decide⟩ [0, 1] [2] rfl rfl rfl rfl (by decide) rfl rfl (Nat.le_of_ble_eq_true rfl) dX9_rider_138 ⟨by decide, by decide⟩ (fun v9 u9 H locs hv hP hD hS => ?_)
                          obtain ⟨u138_vl2, hu9⟩ : ∃ z, z = u9 := ⟨_, rfl⟩
                          subst hu9
                          obtain ⟨hv, hhv_138⟩ := hv
                          subst hv
                          obtain ⟨hP, hD⟩ := re_ws (ws' := [(b0_, .inr (9, [.int 0, .long tr_, .ref bn_, .ref bt_, .ref bs_, .ref bk_, .ref bp_, .ref bi_, .ref bl_, .int it_, .int ub_, .int db_, .ref bx_, .int (nI n_), .int (nI (tkE tx_ n_ (tkE tx_ n_ (tkE tx_ n_ p9_)))), .int (tkK tx_ n_ (tkE tx_ n_ (tkE tx_ n_ p9_))), .int (nI (tkb tx_ n_ (tkE tx_ n_ (tkE tx_ n_ p9_)))), .int u138_vl2, .int (-1), .ref bc_, .ref bf_])), (bx_, .inl (cy 0, 200, .inl tx_)), (bl_, .inl (cy 0, 10, .inl lm_))]) hP hD [1, 2, 0] rfl rfl
                          refine W.eq (g2 := F0 m 141 ls []) rfl ?_
                          refine lv_aload_n hx hb dX9_rider_141 rfl (lv_at hl 4 rfl) ?_
                          refine lv_aload_n hx hb dX9_rider_142 rfl (lv_at hl 4 rfl) ?_
                          refine va_get (D := D) (ci := 9) (v := .int (tkK tx_ n_ (tkE tx_ n_ (tkE tx_ n_ p9_)))) (C := RX9) (T := TX9) (N := 21) hx hb hts winX9 hown hK hP 0 rfl rfl 15 (by decide) wf142 (fun _ h9 => h9) rfl dX9_rider_143 ?_
                          refine lv_iconst (v := 3) hx hb dX9_rider_146 (by decide) ?_
                          refine lv_icmp_ne (tgt := 183) hx hb dX9_rider_147 (by decide) (fun c_147 => ?_) (fun c_147 => ?_)
                          · refine lv_iconst (v := 0) hx hb dX9_rider_183 (by decide) ?_
                            refine ca_V (q0 := 0) (n := 1) (rest := []) (wr := [(bl_, .inl (cy 0, 10, .inl lm_))]) F hK hE hA hP hD hS hl.1 (kX9_reads_0 (l := l) (D := D) (cy := cy) (sa := sa) b0_ 0 tr_ bn_ bt_ bs_ bk_ bp_ bi_ bl_ it_ ub_ db_ bx_ bc_ bf_ n_ tx_ (nI (tkE tx_ n_ (tkE tx_ n_ (tkE tx_ n_ p9_)))) (tkK tx_ n_ (tkE tx_ n_ (tkE tx_ n_ p9_))) (tkb tx_ n_ (tkE tx_ n_ (tkE tx_ n_ p9_))) u138_vl2) gX9_rider_X9_reads rfl rfl rfl rfl rfl rfl (by decide +kernel) ⟨by decide, by decide⟩ [0, 1] [2] rfl rfl rfl rfl (by decide) rfl rfl (Nat.le_of_ble_eq_true rfl) dX9_rider_184 ⟨by decide, by decide⟩ (fun v9 u9 H locs hv hP hD hS => ?_)
                            subst hv
                            obtain ⟨hP, hD⟩ := re_ws (ws' := [(b0_, .inr (9, [.int 0, .long tr_, .ref bn_, .ref bt_, .ref bs_, .ref bk_, .ref bp_, .ref bi_, .ref bl_, .int it_, .int ub_, .int db_, .ref bx_, .int (nI n_), .int (nI (tkE tx_ n_ (tkE tx_ n_ (tkE tx_ n_ p9_)))), .int (tkK tx_ n_ (tkE tx_ n_ (tkE tx_ n_ p9_))), .int (nI (tkb tx_ n_ (tkE tx_ n_ (tkE tx_ n_ p9_)))), .int u138_vl2, .int (nI (tkb tx_ n_ (tkE tx_ n_ (tkE tx_ n_ p9_)))), .ref bc_, .ref bf_])), (bx_, .inl (cy 0, 200, .inl tx_)), (bl_, .inl (cy 0, 10, .inl lm_))]) hP hD [1, 2, 0] rfl rfl
                            refine W.eq (g2 := F0 m 187 ls [.int 0]) rfl ?_
                            have hok1 : tkK tx_ n_ p9_ = 1 ∧ tb_ &&& bitO (itI tx_ n_ p9_) = 0 := ⟨c_76, by rw [hI9]; exact (told_b hT hwi).mp c_87⟩
                            have hf : itF tx_ n_ p9_ tb_ = some ((tkb tx_ n_ (tkE tx_ n_ (tkE tx_ n_ p9_)))) := by unfold itF; rw [if_pos hok1, h2, if_neg]; first | exact fun z => c_147 z.1 | exact fun z => Int32.not_le.mpr c_176 (by have z2 := z.2; rw [hI9, lrg_r wi_ hwi, ← ez156] at z2; exact z2)
                            refine lv_istore (lv' := [(5, .int 0), (4, .int 1), (1, .int (tb_ ||| (1 <<< ((nI wi_) &&& 31)))), (3, .int (nI wi_)), (2, .int (nI j_)), (0, .ref b0_)]) hx hb dX9_rider_187 hl (by decide) rfl (fun ls hl => ?_)
                            refine lv_aload_n hx hb dX9_rider_189 rfl (lv_at hl 5 rfl) ?_
                            refine va_get (D := D) (ci := 9) (v := .ref bl_) (C := RX9) (T := TX9) (N := 21) hx hb hts winX9 hown hK hP 0 rfl rfl 8 (by decide) wf29 (fun _ h9 => h9) rfl dX9_rider_190 ?_
                            refine lv_iconst (v := 5) hx hb dX9_rider_193 (by decide) ?_
                            refine lv_iload_n hx hb dX9_rider_194 rfl (lv_at hl 3 rfl) ?_
                            refine lv_iadd hx hb dX9_rider_195 ?_
                            refine lv_eqi (y := nI (5 + wi_)) (nI_add 5 wi_) ?_
                            refine lv_iload hx hb dX9_rider_196 (lv_at hl 1 rfl) ?_
                            refine lv_if_eq (tgt := 207) hx hb dX9_rider_198 (by decide) (fun c_198 => ?_) (fun c_198 => ?_)
                            · exact absurd c_198 (by decide)
                            · refine lv_iload hx hb dX9_rider_201 (lv_at hl 0 rfl) ?_
                              refine lv_ineg hx hb dX9_rider_203 ?_
                              refine lv_goto (tgt := 209) hx hb dX9_rider_204 (by decide) ?_
                              refine as_i (x := -0) hx hb hK hP hD hS 2 rfl (5 + wi_) (rfl) (by omega) (by decide) dX9_rider_209 (fun H locs hP hD hS => ?_)
                              have hP : va_P D vwCl [(b0_, .inr (9, [.int 0, .long tr_, .ref bn_, .ref bt_, .ref bs_, .ref bk_, .ref bp_, .ref bi_, .ref bl_, .int it_, .int ub_, .int db_, .ref bx_, .int (nI n_), .int (nI (tkE tx_ n_ (tkE tx_ n_ (tkE tx_ n_ p9_)))), .int (tkK tx_ n_ (tkE tx_ n_ (tkE tx_ n_ p9_))), .int (nI (tkb tx_ n_ (tkE tx_ n_ (tkE tx_ n_ p9_)))), .int u138_vl2, .int (nI (tkb tx_ n_ (tkE tx_ n_ (tkE tx_ n_ p9_)))), .ref bc_, .ref bf_])), (bx_, .inl (cy 0, 200, .inl tx_)), (bl_, .inl (cy 0, 10, .inl (upd lm_ (5 + wi_) (-0))))] H := hP
                              have hD : va_D A [(b0_, .inr (9, [.int 0, .long tr_, .ref bn_, .ref bt_, .ref bs_, .ref bk_, .ref bp_, .ref bi_, .ref bl_, .int it_, .int ub_, .int db_, .ref bx_, .int (nI n_), .int (nI (tkE tx_ n_ (tkE tx_ n_ (tkE tx_ n_ p9_)))), .int (tkK tx_ n_ (tkE tx_ n_ (tkE tx_ n_ p9_))), .int (nI (tkb tx_ n_ (tkE tx_ n_ (tkE tx_ n_ p9_)))), .int u138_vl2, .int (nI (tkb tx_ n_ (tkE tx_ n_ (tkE tx_ n_ p9_)))), .ref bc_, .ref bf_])), (bx_, .inl (cy 0, 200, .inl tx_)), (bl_, .inl (cy 0, 10, .inl (upd lm_ (5 + wi_) (-0))))] := hD
                              refine lv_aload_n hx hb dX9_rider_210 rfl (lv_at hl 5 rfl) ?_
                              refine lv_aload_n hx hb dX9_rider_211 rfl (lv_at hl 5 rfl) ?_
                              refine va_get (D := D) (ci := 9) (v := .int (tkK tx_ n_ (tkE tx_ n_ (tkE tx_ n_ p9_)))) (C := RX9) (T := TX9) (N := 21) hx hb hts winX9 hown hK hP 0 rfl rfl 15 (by decide) wf142 (fun _ h9 => h9) rfl dX9_rider_212 ?_
                              refine lv_iconst (v := 4) hx hb dX9_rider_215 (by decide) ?_
                              refine lv_icmp_ne (tgt := 223) hx hb dX9_rider_216 (by decide) (fun c_216 => ?_) (fun c_216 => ?_)
                              · refine lv_iconst (v := 0) hx hb dX9_rider_223 (by decide) ?_
                                refine ca_V (q0 := 0) (n := 1) (rest := []) (wr := [(bl_, .inl (cy 0, 10, .inl (upd lm_ (5 + wi_) (-0))))]) F hK hE hA hP hD hS hl.1 (kX9_reads_n (l := l) (D := D) (cy := cy) (sa := sa) b0_ 0 tr_ bn_ bt_ bs_ bk_ bp_ bi_ bl_ it_ ub_ db_ bx_ bc_ bf_ n_ tx_ (nI (tkE tx_ n_ (tkE tx_ n_ (tkE tx_ n_ p9_)))) (tkK tx_ n_ (tkE tx_ n_ (tkE tx_ n_ p9_))) (nI (tkb tx_ n_ (tkE tx_ n_ (tkE tx_ n_ p9_)))) u138_vl2 (tkb tx_ n_ (tkE tx_ n_ (tkE tx_ n_ p9_))) 0 (by have := tkb_le (tx := tx_) hp; have := tkb_le (tx := tx_) (tkE_le (tx := tx_) hp); have := tkb_le (tx := tx_) (tkE_le (tx := tx_) (tkE_le (tx := tx_) hp)); have := tkb_le (tx := tx_) (tkE_le (tx := tx_) (tkE_le (tx := tx_) (tkE_le (tx := tx_) hp))); omega)) gX9_rider_X9_reads rfl rfl rfl rfl rfl rfl (by decide +kernel) ⟨by decide, by decide⟩ [0, 1] [2] rfl rfl rfl rfl (by decide) rfl rfl (Nat.le_of_ble_eq_true rfl) dX9_rider_224 ⟨by decide, by decide⟩ (fun v9 u9 H locs hv hP hD hS => ?_)
                                subst hv
                                obtain ⟨hP, hD⟩ := re_ws (ws' := [(b0_, .inr (9, [.int 0, .long tr_, .ref bn_, .ref bt_, .ref bs_, .ref bk_, .ref bp_, .ref bi_, .ref bl_, .int it_, .int ub_, .int db_, .ref bx_, .int (nI n_), .int (nI (tkE tx_ n_ (tkE tx_ n_ (tkE tx_ n_ p9_)))), .int (tkK tx_ n_ (tkE tx_ n_ (tkE tx_ n_ p9_))), .int (nI (tkb tx_ n_ (tkE tx_ n_ (tkE tx_ n_ p9_)))), .int u138_vl2, .int (nI (tkb tx_ n_ (tkE tx_ n_ (tkE tx_ n_ p9_)))), .ref bc_, .ref bf_])), (bx_, .inl (cy 0, 200, .inl tx_)), (bl_, .inl (cy 0, 10, .inl (upd lm_ (5 + wi_) (-0))))]) hP hD [1, 2, 0] rfl rfl
                                refine W.eq (g2 := F0 m 227 ls [.int 0]) rfl ?_
                                refine lv_pop hx hb dX9_rider_227 rfl ?_
                                refine lv_iinc (v := nI (j_ + 1)) (lv' := [(2, .int (nI (j_ + 1))), (5, .int 0), (4, .int 1), (1, .int (tb_ ||| (1 <<< ((nI wi_) &&& 31)))), (3, .int (nI wi_)), (0, .ref b0_)]) hx hb dX9_rider_228 hl (k := 4) rfl (nI_add j_ 1) (by decide) rfl (fun ls hl => ?_)
                                refine lv_goto (tgt := 56) hx hb dX9_rider_231 (by decide) ?_
                                skip
                                skip
                                skip
                                skip
                                exact ih_56 (j_ + 1) p9_ u138_vl2 (tb_ ||| (1 <<< ((nI wi_) &&& 31))) (upd lm_ (5 + wi_) (-0)) lx_ (some (tkb tx_ n_ (tkE tx_ n_ (tkE tx_ n_ p9_)))) (nI (tkE tx_ n_ (tkE tx_ n_ (tkE tx_ n_ p9_)))) (tkK tx_ n_ (tkE tx_ n_ (tkE tx_ n_ p9_))) (nI (tkb tx_ n_ (tkE tx_ n_ (tkE tx_ n_ p9_)))) (by first | (intro z; cases z; done) | exact fun _ => ⟨rfl, rfl, rfl⟩) (by first | (intro z; cases z; done) | (intro _; have hok1 : tkK tx_ n_ p9_ = 1 ∧ tb_ &&& bitO (itI tx_ n_ p9_) = 0 := ⟨c_76, by rw [hI9]; exact (told_b hT hwi).mp c_87⟩; have hf : itF tx_ n_ p9_ tb_ = none := (by unfold itF it3; rw [if_pos hok1, h2, if_pos ⟨c_147, by rw [hI9, lrg_r wi_ hwi, ← ez156]; exact Int32.not_lt.mp c_176⟩, if_pos c_216]); have hT2 := toldN_s hT hj hf; rw [hI9] at hT2; refine ⟨hT2.2, ?_, hT2.1, ?_, hhv_224, ?_⟩; (first | exact tkE_le (tkE_le (tkE_le (tkE_le hp))) | exact tkE_le (tkE_le (tkE_le hp))); rw [← hRd, show 6 - j_ = (6 - (j_ + 1)) + 1 by omega, rd_go c_67 hf, hI9]; unfold itP it3; rw [h2]; exact fun k hk => by rw [hA9]; by_cases e : k = wi_ <;> first | (subst e; rw [upd_at, upd_at]; done) | (rw [upd_ne _ _ e, upd_ne _ _ (by omega)]; exact hlx k hk))) (by first | (intro f z; cases z; done) | (intro f z; obtain rfl := Option.some.inj z; rw [← hRd, show 6 - j_ = (6 - (j_ + 1)) + 1 by omega, rd_bad c_67 (fun y => by rw [hf] at y; cases y), hf])) (by first | (intro f z; cases z; done) | (intro f z; obtain rfl := Option.some.inj z; have := tkb_le (tx := tx_) hp; have := tkb_le (tx := tx_) (tkE_le (tx := tx_) hp); have := tkb_le (tx := tx_) (tkE_le (tx := tx_) (tkE_le (tx := tx_) hp)); have := tkb_le (tx := tx_) (tkE_le (tx := tx_) (tkE_le (tx := tx_) (tkE_le (tx := tx_) hp))); omega)) (fun k hk => by rw [upd_ne _ _ (by omega)]; exact hlm k hk) (by first | exact mz_n hn_56 (by omega) | exact mz_s hn_56 (by omega)) H locs hP hD hS ls (lv_sub hl [0, 3, 5] rfl)
                              · refine lv_iconst (v := 1) hx hb dX9_rider_219 (by decide) ?_
                                refine lv_goto (tgt := 224) hx hb dX9_rider_220 (by decide) ?_
                                refine ca_V (q0 := 0) (n := 1) (rest := []) (wr := [(bl_, .inl (cy 0, 10, .inl (upd lm_ (5 + wi_) (-0))))]) F hK hE hA hP hD hS hl.1 (kX9_reads_n (l := l) (D := D) (cy := cy) (sa := sa) b0_ 0 tr_ bn_ bt_ bs_ bk_ bp_ bi_ bl_ it_ ub_ db_ bx_ bc_ bf_ n_ tx_ (nI (tkE tx_ n_ (tkE tx_ n_ (tkE tx_ n_ p9_)))) (tkK tx_ n_ (tkE tx_ n_ (tkE tx_ n_ p9_))) (nI (tkb tx_ n_ (tkE tx_ n_ (tkE tx_ n_ p9_)))) u138_vl2 (tkb tx_ n_ (tkE tx_ n_ (tkE tx_ n_ p9_))) 1 (by have := tkb_le (tx := tx_) hp; have := tkb_le (tx := tx_) (tkE_le (tx := tx_) hp); have := tkb_le (tx := tx_) (tkE_le (tx := tx_) (tkE_le (tx := tx_) hp)); have := tkb_le (tx := tx_) (tkE_le (tx := tx_) (tkE_le (tx := tx_) (tkE_le (tx := tx_) hp))); omega)) gX9_rider_X9_reads rfl rfl rfl rfl rfl rfl (by decide +kernel) ⟨by decide, by decide⟩ [0, 1] [2] rfl rfl rfl rfl (by decide) rfl rfl (Nat.le_of_ble_eq_true rfl) dX9_rider_224 ⟨by decide, by decide⟩ (fun v9 u9 H locs hv hP hD hS => ?_)
                                subst hv
                                obtain ⟨hP, hD⟩ := re_ws (ws' := [(b0_, .inr (9, [.int 0, .long tr_, .ref bn_, .ref bt_, .ref bs_, .ref bk_, .ref bp_, .ref bi_, .ref bl_, .int it_, .int ub_, .int db_, .ref bx_, .int (nI n_), .int (nI (tkE tx_ n_ (tkE tx_ n_ (tkE tx_ n_ p9_)))), .int (tkK tx_ n_ (tkE tx_ n_ (tkE tx_ n_ p9_))), .int (nI (tkb tx_ n_ (tkE tx_ n_ (tkE tx_ n_ p9_)))), .int u138_vl2, .int (nI (tkb tx_ n_ (tkE tx_ n_ (tkE tx_ n_ p9_)))), .ref bc_, .ref bf_])), (bx_, .inl (cy 0, 200, .inl tx_)), (bl_, .inl (cy 0, 10, .inl (upd lm_ (5 + wi_) (-0))))]) hP hD [1, 2, 0] rfl rfl
                                refine W.eq (g2 := F0 m 227 ls [.int 0]) rfl ?_
                                refine lv_pop hx hb dX9_rider_227 rfl ?_
                                refine lv_iinc (v := nI (j_ + 1)) (lv' := [(2, .int (nI (j_ + 1))), (5, .int 0), (4, .int 1), (1, .int (tb_ ||| (1 <<< ((nI wi_) &&& 31)))), (3, .int (nI wi_)), (0, .ref b0_)]) hx hb dX9_rider_228 hl (k := 4) rfl (nI_add j_ 1) (by decide) rfl (fun ls hl => ?_)
                                refine lv_goto (tgt := 56) hx hb dX9_rider_231 (by decide) ?_
                                skip
                                skip
                                skip
                                skip
                                exact ih_56 (j_ + 1) p9_ u138_vl2 (tb_ ||| (1 <<< ((nI wi_) &&& 31))) (upd lm_ (5 + wi_) (-0)) lx_ (some (tkb tx_ n_ (tkE tx_ n_ (tkE tx_ n_ p9_)))) (nI (tkE tx_ n_ (tkE tx_ n_ (tkE tx_ n_ p9_)))) (tkK tx_ n_ (tkE tx_ n_ (tkE tx_ n_ p9_))) (nI (tkb tx_ n_ (tkE tx_ n_ (tkE tx_ n_ p9_)))) (by first | (intro z; cases z; done) | exact fun _ => ⟨rfl, rfl, rfl⟩) (by first | (intro z; cases z; done) | (intro _; have hok1 : tkK tx_ n_ p9_ = 1 ∧ tb_ &&& bitO (itI tx_ n_ p9_) = 0 := ⟨c_76, by rw [hI9]; exact (told_b hT hwi).mp c_87⟩; have hf : itF tx_ n_ p9_ tb_ = none := (by unfold itF it3; rw [if_pos hok1, h2, if_pos ⟨c_147, by rw [hI9, lrg_r wi_ hwi, ← ez156]; exact Int32.not_lt.mp c_176⟩, if_pos c_216]); have hT2 := toldN_s hT hj hf; rw [hI9] at hT2; refine ⟨hT2.2, ?_, hT2.1, ?_, hhv_224, ?_⟩; (first | exact tkE_le (tkE_le (tkE_le (tkE_le hp))) | exact tkE_le (tkE_le (tkE_le hp))); rw [← hRd, show 6 - j_ = (6 - (j_ + 1)) + 1 by omega, rd_go c_67 hf, hI9]; unfold itP it3; rw [h2]; exact fun k hk => by rw [hA9]; by_cases e : k = wi_ <;> first | (subst e; rw [upd_at, upd_at]; done) | (rw [upd_ne _ _ e, upd_ne _ _ (by omega)]; exact hlx k hk))) (by first | (intro f z; cases z; done) | (intro f z; obtain rfl := Option.some.inj z; rw [← hRd, show 6 - j_ = (6 - (j_ + 1)) + 1 by omega, rd_bad c_67 (fun y => by rw [hf] at y; cases y), hf])) (by first | (intro f z; cases z; done) | (intro f z; obtain rfl := Option.some.inj z; have := tkb_le (tx := tx_) hp; have := tkb_le (tx := tx_) (tkE_le (tx := tx_) hp); have := tkb_le (tx := tx_) (tkE_le (tx := tx_) (tkE_le (tx := tx_) hp)); have := tkb_le (tx := tx_) (tkE_le (tx := tx_) (tkE_le (tx := tx_) (tkE_le (tx := tx_) hp))); omega)) (fun k hk => by rw [upd_ne _ _ (by omega)]; exact hlm k hk) (by first | exact mz_n hn_56 (by omega) | exact mz_s hn_56 (by omega)) H locs hP hD hS ls (lv_sub hl [0, 3, 5] rfl)
                          · obtain rfl : tkV tx_ n_ (tkE tx_ n_ (tkE tx_ n_ p9_)) = u138_vl2 := (hhv_138 (Or.inr c_147)).symm
                            refine lv_aload_n hx hb dX9_rider_150 rfl (lv_at hl 4 rfl) ?_
                            refine va_get (D := D) (ci := 9) (v := .int (tkV tx_ n_ (tkE tx_ n_ (tkE tx_ n_ p9_)))) (C := RX9) (T := TX9) (N := 21) hx hb hts winX9 hown hK hP 0 rfl rfl 17 (by decide) wf149 (fun _ h9 => h9) rfl dX9_rider_151 ?_
                            refine lv_iload_n hx hb dX9_rider_154 rfl (lv_at hl 2 rfl) ?_
                            refine lv_iconst (v := 3) hx hb dX9_rider_155 (by decide) ?_
                            have J_156_849 : ∀ (z156 : Int32), z156 = (if 3 ≤ wi_ then (if wi_ = 3 then 5 else 999) else 99) → ∀ (H : Heap) (locs : List Loc), va_P D vwCl [(b0_, .inr (9, [.int 0, .long tr_, .ref bn_, .ref bt_, .ref bs_, .ref bk_, .ref bp_, .ref bi_, .ref bl_, .int it_, .int ub_, .int db_, .ref bx_, .int (nI n_), .int (nI (tkE tx_ n_ (tkE tx_ n_ (tkE tx_ n_ p9_)))), .int (tkK tx_ n_ (tkE tx_ n_ (tkE tx_ n_ p9_))), .int (nI (tkb tx_ n_ (tkE tx_ n_ (tkE tx_ n_ p9_)))), .int (tkV tx_ n_ (tkE tx_ n_ (tkE tx_ n_ p9_))), .int (-1), .ref bc_, .ref bf_])), (bx_, .inl (cy 0, 200, .inl tx_)), (bl_, .inl (cy 0, 10, .inl lm_))] H → va_D A [(b0_, .inr (9, [.int 0, .long tr_, .ref bn_, .ref bt_, .ref bs_, .ref bk_, .ref bp_, .ref bi_, .ref bl_, .int it_, .int ub_, .int db_, .ref bx_, .int (nI n_), .int (nI (tkE tx_ n_ (tkE tx_ n_ (tkE tx_ n_ p9_)))), .int (tkK tx_ n_ (tkE tx_ n_ (tkE tx_ n_ p9_))), .int (nI (tkb tx_ n_ (tkE tx_ n_ (tkE tx_ n_ p9_)))), .int (tkV tx_ n_ (tkE tx_ n_ (tkE tx_ n_ p9_))), .int (-1), .ref bc_, .ref bf_])), (bx_, .inl (cy 0, 200, .inl tx_)), (bl_, .inl (cy 0, 10, .inl lm_))] → va_S A s.heap H locs → ∀ (ls : Array Slot), lv_has ls 6 [(4, .int 1), (1, .int (tb_ ||| (1 <<< ((nI wi_) &&& 31)))), (3, .int (nI wi_)), (2, .int (nI j_)), (0, .ref b0_)] → W p l e rmkX9_rider s m args below meth c H locs 0 0 Q (F0 m 176 ls [.int z156, .int (tkV tx_ n_ (tkE tx_ n_ (tkE tx_ n_ p9_))), .ref b0_]) := by
                              intro z156 ez156 H locs hP hD hS ls hl
                              refine lv_icmp_gt (tgt := 183) hx hb dX9_rider_176 (by decide) (fun c_176 => ?_) (fun c_176 => ?_)
                              · refine lv_iconst (v := 0) hx hb dX9_rider_183 (by decide) ?_
                                refine ca_V (q0 := 0) (n := 1) (rest := []) (wr := [(bl_, .inl (cy 0, 10, .inl lm_))]) F hK hE hA hP hD hS hl.1 (kX9_reads_0 (l := l) (D := D) (cy := cy) (sa := sa) b0_ 0 tr_ bn_ bt_ bs_ bk_ bp_ bi_ bl_ it_ ub_ db_ bx_ bc_ bf_ n_ tx_ (nI (tkE tx_ n_ (tkE tx_ n_ (tkE tx_ n_ p9_)))) (tkK tx_ n_ (tkE tx_ n_ (tkE tx_ n_ p9_))) (tkb tx_ n_ (tkE tx_ n_ (tkE tx_ n_ p9_))) (tkV tx_ n_ (tkE tx_ n_ (tkE tx_ n_ p9_)))) gX9_rider_X9_reads rfl rfl rfl rfl rfl rfl (by decide +kernel) ⟨by decide, by decide⟩ [0, 1] [2] rfl rfl rfl rfl (by decide) rfl rfl (Nat.le_of_ble_eq_true rfl) dX9_rider_184 ⟨by decide, by decide⟩ (fun v9 u9 H locs hv hP hD hS => ?_)
                                subst hv
                                obtain ⟨hP, hD⟩ := re_ws (ws' := [(b0_, .inr (9, [.int 0, .long tr_, .ref bn_, .ref bt_, .ref bs_, .ref bk_, .ref bp_, .ref bi_, .ref bl_, .int it_, .int ub_, .int db_, .ref bx_, .int (nI n_), .int (nI (tkE tx_ n_ (tkE tx_ n_ (tkE tx_ n_ p9_)))), .int (tkK tx_ n_ (tkE tx_ n_ (tkE tx_ n_ p9_))), .int (nI (tkb tx_ n_ (tkE tx_ n_ (tkE tx_ n_ p9_)))), .int (tkV tx_ n_ (tkE tx_ n_ (tkE tx_ n_ p9_))), .int (nI (tkb tx_ n_ (tkE tx_ n_ (tkE tx_ n_ p9_)))), .ref bc_, .ref bf_])), (bx_, .inl (cy 0, 200, .inl tx_)), (bl_, .inl (cy 0, 10, .inl lm_))]) hP hD [1, 2, 0] rfl rfl
                                refine W.eq (g2 := F0 m 187 ls [.int 0]) rfl ?_
                                have hok1 : tkK tx_ n_ p9_ = 1 ∧ tb_ &&& bitO (itI tx_ n_ p9_) = 0 := ⟨c_76, by rw [hI9]; exact (told_b hT hwi).mp c_87⟩
                                have hf : itF tx_ n_ p9_ tb_ = some ((tkb tx_ n_ (tkE tx_ n_ (tkE tx_ n_ p9_)))) := by unfold itF; rw [if_pos hok1, h2, if_neg]; first | exact fun z => c_147 z.1 | exact fun z => Int32.not_le.mpr c_176 (by have z2 := z.2; rw [hI9, lrg_r wi_ hwi, ← ez156] at z2; exact z2)
                                refine lv_istore (lv' := [(5, .int 0), (4, .int 1), (1, .int (tb_ ||| (1 <<< ((nI wi_) &&& 31)))), (3, .int (nI wi_)), (2, .int (nI j_)), (0, .ref b0_)]) hx hb dX9_rider_187 hl (by decide) rfl (fun ls hl => ?_)
                                refine lv_aload_n hx hb dX9_rider_189 rfl (lv_at hl 5 rfl) ?_
                                refine va_get (D := D) (ci := 9) (v := .ref bl_) (C := RX9) (T := TX9) (N := 21) hx hb hts winX9 hown hK hP 0 rfl rfl 8 (by decide) wf29 (fun _ h9 => h9) rfl dX9_rider_190 ?_
                                refine lv_iconst (v := 5) hx hb dX9_rider_193 (by decide) ?_
                                refine lv_iload_n hx hb dX9_rider_194 rfl (lv_at hl 3 rfl) ?_
                                refine lv_iadd hx hb dX9_rider_195 ?_
                                refine lv_eqi (y := nI (5 + wi_)) (nI_add 5 wi_) ?_
                                refine lv_iload hx hb dX9_rider_196 (lv_at hl 1 rfl) ?_
                                refine lv_if_eq (tgt := 207) hx hb dX9_rider_198 (by decide) (fun c_198 => ?_) (fun c_198 => ?_)
                                · exact absurd c_198 (by decide)
                                · refine lv_iload hx hb dX9_rider_201 (lv_at hl 0 rfl) ?_
                                  refine lv_ineg hx hb dX9_rider_203 ?_
                                  refine lv_goto (tgt := 209) hx hb dX9_rider_204 (by decide) ?_
                                  refine as_i (x := -0) hx hb hK hP hD hS 2 rfl (5 + wi_) (rfl) (by omega) (by decide) dX9_rider_209 (fun H locs hP hD hS => ?_)
                                  have hP : va_P D vwCl [(b0_, .inr (9, [.int 0, .long tr_, .ref bn_, .ref bt_, .ref bs_, .ref bk_, .ref bp_, .ref bi_, .ref bl_, .int it_, .int ub_, .int db_, .ref bx_, .int (nI n_), .int (nI (tkE tx_ n_ (tkE tx_ n_ (tkE tx_ n_ p9_)))), .int (tkK tx_ n_ (tkE tx_ n_ (tkE tx_ n_ p9_))), .int (nI (tkb tx_ n_ (tkE tx_ n_ (tkE tx_ n_ p9_)))), .int (tkV tx_ n_ (tkE tx_ n_ (tkE tx_ n_ p9_))), .int (nI (tkb tx_ n_ (tkE tx_ n_ (tkE tx_ n_ p9_)))), .ref bc_, .ref bf_])), (bx_, .inl (cy 0, 200, .inl tx_)), (bl_, .inl (cy 0, 10, .inl (upd lm_ (5 + wi_) (-0))))] H := hP
                                  have hD : va_D A [(b0_, .inr (9, [.int 0, .long tr_, .ref bn_, .ref bt_, .ref bs_, .ref bk_, .ref bp_, .ref bi_, .ref bl_, .int it_, .int ub_, .int db_, .ref bx_, .int (nI n_), .int (nI (tkE tx_ n_ (tkE tx_ n_ (tkE tx_ n_ p9_)))), .int (tkK tx_ n_ (tkE tx_ n_ (tkE tx_ n_ p9_))), .int (nI (tkb tx_ n_ (tkE tx_ n_ (tkE tx_ n_ p9_)))), .int (tkV tx_ n_ (tkE tx_ n_ (tkE tx_ n_ p9_))), .int (nI (tkb tx_ n_ (tkE tx_ n_ (tkE tx_ n_ p9_)))), .ref bc_, .ref bf_])), (bx_, .inl (cy 0, 200, .inl tx_)), (bl_, .inl (cy 0, 10, .inl (upd lm_ (5 + wi_) (-0))))] := hD
                                  refine lv_aload_n hx hb dX9_rider_210 rfl (lv_at hl 5 rfl) ?_
                                  refine lv_aload_n hx hb dX9_rider_211 rfl (lv_at hl 5 rfl) ?_
                                  refine va_get (D := D) (ci := 9) (v := .int (tkK tx_ n_ (tkE tx_ n_ (tkE tx_ n_ p9_)))) (C := RX9) (T := TX9) (N := 21) hx hb hts winX9 hown hK hP 0 rfl rfl 15 (by decide) wf142 (fun _ h9 => h9) rfl dX9_rider_212 ?_
                                  refine lv_iconst (v := 4) hx hb dX9_rider_215 (by decide) ?_
                                  refine lv_icmp_ne (tgt := 223) hx hb dX9_rider_216 (by decide) (fun c_216 => ?_) (fun c_216 => ?_)
                                  · refine lv_iconst (v := 0) hx hb dX9_rider_223 (by decide) ?_
                                    refine ca_V (q0 := 0) (n := 1) (rest := []) (wr := [(bl_, .inl (cy 0, 10, .inl (upd lm_ (5 + wi_) (-0))))]) F hK hE hA hP hD hS hl.1 (kX9_reads_n (l := l) (D := D) (cy := cy) (sa := sa) b0_ 0 tr_ bn_ bt_ bs_ bk_ bp_ bi_ bl_ it_ ub_ db_ bx_ bc_ bf_ n_ tx_ (nI (tkE tx_ n_ (tkE tx_ n_ (tkE tx_ n_ p9_)))) (tkK tx_ n_ (tkE tx_ n_ (tkE tx_ n_ p9_))) (nI (tkb tx_ n_ (tkE tx_ n_ (tkE tx_ n_ p9_)))) (tkV tx_ n_ (tkE tx_ n_ (tkE tx_ n_ p9_))) (tkb tx_ n_ (tkE tx_ n_ (tkE tx_ n_ p9_))) 0 (by have := tkb_le (tx := tx_) hp; have := tkb_le (tx := tx_) (tkE_le (tx := tx_) hp); have := tkb_le (tx := tx_) (tkE_le (tx := tx_) (tkE_le (tx := tx_) hp)); have := tkb_le (tx := tx_) (tkE_le (tx := tx_) (tkE_le (tx := tx_) (tkE_le (tx := tx_) hp))); omega)) gX9_rider_X9_reads rfl rfl rfl rfl rfl rfl (by decide +kernel) ⟨by decide, by decide⟩ [0, 1] [2] rfl rfl rfl rfl (by decide) rfl rfl (Nat.le_of_ble_eq_true rfl) dX9_rider_224 ⟨by decide, by decide⟩ (fun v9 u9 H locs hv hP hD hS => ?_)
                                    subst hv
                                    obtain ⟨hP, hD⟩ := re_ws (ws' := [(b0_, .inr (9, [.int 0, .long tr_, .ref bn_, .ref bt_, .ref bs_, .ref bk_, .ref bp_, .ref bi_, .ref bl_, .int it_, .int ub_, .int db_, .ref bx_, .int (nI n_), .int (nI (tkE tx_ n_ (tkE tx_ n_ (tkE tx_ n_ p9_)))), .int (tkK tx_ n_ (tkE tx_ n_ (tkE tx_ n_ p9_))), .int (nI (tkb tx_ n_ (tkE tx_ n_ (tkE tx_ n_ p9_)))), .int (tkV tx_ n_ (tkE tx_ n_ (tkE tx_ n_ p9_))), .int (nI (tkb tx_ n_ (tkE tx_ n_ (tkE tx_ n_ p9_)))), .ref bc_, .ref bf_])), (bx_, .inl (cy 0, 200, .inl tx_)), (bl_, .inl (cy 0, 10, .inl (upd lm_ (5 + wi_) (-0))))]) hP hD [1, 2, 0] rfl rfl
                                    refine W.eq (g2 := F0 m 227 ls [.int 0]) rfl ?_
                                    refine lv_pop hx hb dX9_rider_227 rfl ?_
                                    refine lv_iinc (v := nI (j_ + 1)) (lv' := [(2, .int (nI (j_ + 1))), (5, .int 0), (4, .int 1), (1, .int (tb_ ||| (1 <<< ((nI wi_) &&& 31)))), (3, .int (nI wi_)), (0, .ref b0_)]) hx hb dX9_rider_228 hl (k := 4) rfl (nI_add j_ 1) (by decide) rfl (fun ls hl => ?_)
                                    refine lv_goto (tgt := 56) hx hb dX9_rider_231 (by decide) ?_
                                    skip
                                    skip
                                    skip
                                    skip
                                    exact ih_56 (j_ + 1) p9_ (tkV tx_ n_ (tkE tx_ n_ (tkE tx_ n_ p9_))) (tb_ ||| (1 <<< ((nI wi_) &&& 31))) (upd lm_ (5 + wi_) (-0)) lx_ (some (tkb tx_ n_ (tkE tx_ n_ (tkE tx_ n_ p9_)))) (nI (tkE tx_ n_ (tkE tx_ n_ (tkE tx_ n_ p9_)))) (tkK tx_ n_ (tkE tx_ n_ (tkE tx_ n_ p9_))) (nI (tkb tx_ n_ (tkE tx_ n_ (tkE tx_ n_ p9_)))) (by first | (intro z; cases z; done) | exact fun _ => ⟨rfl, rfl, rfl⟩) (by first | (intro z; cases z; done) | (intro _; have hok1 : tkK tx_ n_ p9_ = 1 ∧ tb_ &&& bitO (itI tx_ n_ p9_) = 0 := ⟨c_76, by rw [hI9]; exact (told_b hT hwi).mp c_87⟩; have hf : itF tx_ n_ p9_ tb_ = none := (by unfold itF it3; rw [if_pos hok1, h2, if_pos ⟨c_147, by rw [hI9, lrg_r wi_ hwi, ← ez156]; exact Int32.not_lt.mp c_176⟩, if_pos c_216]); have hT2 := toldN_s hT hj hf; rw [hI9] at hT2; refine ⟨hT2.2, ?_, hT2.1, ?_, hhv_224, ?_⟩; (first | exact tkE_le (tkE_le (tkE_le (tkE_le hp))) | exact tkE_le (tkE_le (tkE_le hp))); rw [← hRd, show 6 - j_ = (6 - (j_ + 1)) + 1 by omega, rd_go c_67 hf, hI9]; unfold itP it3; rw [h2]; exact fun k hk => by rw [hA9]; by_cases e : k = wi_ <;> first | (subst e; rw [upd_at, upd_at]; done) | (rw [upd_ne _ _ e, upd_ne _ _ (by omega)]; exact hlx k hk))) (by first | (intro f z; cases z; done) | (intro f z; obtain rfl := Option.some.inj z; rw [← hRd, show 6 - j_ = (6 - (j_ + 1)) + 1 by omega, rd_bad c_67 (fun y => by rw [hf] at y; cases y), hf])) (by first | (intro f z; cases z; done) | (intro f z; obtain rfl := Option.some.inj z; have := tkb_le (tx := tx_) hp; have := tkb_le (tx := tx_) (tkE_le (tx := tx_) hp); have := tkb_le (tx := tx_) (tkE_le (tx := tx_) (tkE_le (tx := tx_) hp)); have := tkb_le (tx := tx_) (tkE_le (tx := tx_) (tkE_le (tx := tx_) (tkE_le (tx := tx_) hp))); omega)) (fun k hk => by rw [upd_ne _ _ (by omega)]; exact hlm k hk) (by first | exact mz_n hn_56 (by omega) | exact mz_s hn_56 (by omega)) H locs hP hD hS ls (lv_sub hl [0, 3, 5] rfl)
                                  · refine lv_iconst (v := 1) hx hb dX9_rider_219 (by decide) ?_
                                    refine lv_goto (tgt := 224) hx hb dX9_rider_220 (by decide) ?_
                                    refine ca_V (q0 := 0) (n := 1) (rest := []) (wr := [(bl_, .inl (cy 0, 10, .inl (upd lm_ (5 + wi_) (-0))))]) F hK hE hA hP hD hS hl.1 (kX9_reads_n (l := l) (D := D) (cy := cy) (sa := sa) b0_ 0 tr_ bn_ bt_ bs_ bk_ bp_ bi_ bl_ it_ ub_ db_ bx_ bc_ bf_ n_ tx_ (nI (tkE tx_ n_ (tkE tx_ n_ (tkE tx_ n_ p9_)))) (tkK tx_ n_ (tkE tx_ n_ (tkE tx_ n_ p9_))) (nI (tkb tx_ n_ (tkE tx_ n_ (tkE tx_ n_ p9_)))) (tkV tx_ n_ (tkE tx_ n_ (tkE tx_ n_ p9_))) (tkb tx_ n_ (tkE tx_ n_ (tkE tx_ n_ p9_))) 1 (by have := tkb_le (tx := tx_) hp; have := tkb_le (tx := tx_) (tkE_le (tx := tx_) hp); have := tkb_le (tx := tx_) (tkE_le (tx := tx_) (tkE_le (tx := tx_) hp)); have := tkb_le (tx := tx_) (tkE_le (tx := tx_) (tkE_le (tx := tx_) (tkE_le (tx := tx_) hp))); omega)) gX9_rider_X9_reads rfl rfl rfl rfl rfl rfl (by decide +kernel) ⟨by decide, by decide⟩ [0, 1] [2] rfl rfl rfl rfl (by decide) rfl rfl (Nat.le_of_ble_eq_true rfl) dX9_rider_224 ⟨by decide, by decide⟩ (fun v9 u9 H locs hv hP hD hS => ?_)
                                    subst hv
                                    obtain ⟨hP, hD⟩ := re_ws (ws' := [(b0_, .inr (9, [.int 0, .long tr_, .ref bn_, .ref bt_, .ref bs_, .ref bk_, .ref bp_, .ref bi_, .ref bl_, .int it_, .int ub_, .int db_, .ref bx_, .int (nI n_), .int (nI (tkE tx_ n_ (tkE tx_ n_ (tkE tx_ n_ p9_)))), .int (tkK tx_ n_ (tkE tx_ n_ (tkE tx_ n_ p9_))), .int (nI (tkb tx_ n_ (tkE tx_ n_ (tkE tx_ n_ p9_)))), .int (tkV tx_ n_ (tkE tx_ n_ (tkE tx_ n_ p9_))), .int (nI (tkb tx_ n_ (tkE tx_ n_ (tkE tx_ n_ p9_)))), .ref bc_, .ref bf_])), (bx_, .inl (cy 0, 200, .inl tx_)), (bl_, .inl (cy 0, 10, .inl (upd lm_ (5 + wi_) (-0))))]) hP hD [1, 2, 0] rfl rfl
                                    refine W.eq (g2 := F0 m 227 ls [.int 0]) rfl ?_
                                    refine lv_pop hx hb dX9_rider_227 rfl ?_
                                    refine lv_iinc (v := nI (j_ + 1)) (lv' := [(2, .int (nI (j_ + 1))), (5, .int 0), (4, .int 1), (1, .int (tb_ ||| (1 <<< ((nI wi_) &&& 31)))), (3, .int (nI wi_)), (0, .ref b0_)]) hx hb dX9_rider_228 hl (k := 4) rfl (nI_add j_ 1) (by decide) rfl (fun ls hl => ?_)
                                    refine lv_goto (tgt := 56) hx hb dX9_rider_231 (by decide) ?_
                                    skip
                                    skip
                                    skip
                                    skip
                                    exact ih_56 (j_ + 1) p9_ (tkV tx_ n_ (tkE tx_ n_ (tkE tx_ n_ p9_))) (tb_ ||| (1 <<< ((nI wi_) &&& 31))) (upd lm_ (5 + wi_) (-0)) lx_ (some (tkb tx_ n_ (tkE tx_ n_ (tkE tx_ n_ p9_)))) (nI (tkE tx_ n_ (tkE tx_ n_ (tkE tx_ n_ p9_)))) (tkK tx_ n_ (tkE tx_ n_ (tkE tx_ n_ p9_))) (nI (tkb tx_ n_ (tkE tx_ n_ (tkE tx_ n_ p9_)))) (by first | (intro z; cases z; done) | exact fun _ => ⟨rfl, rfl, rfl⟩) (by first | (intro z; cases z; done) | (intro _; have hok1 : tkK tx_ n_ p9_ = 1 ∧ tb_ &&& bitO (itI tx_ n_ p9_) = 0 := ⟨c_76, by rw [hI9]; exact (told_b hT hwi).mp c_87⟩; have hf : itF tx_ n_ p9_ tb_ = none := (by unfold itF it3; rw [if_pos hok1, h2, if_pos ⟨c_147, by rw [hI9, lrg_r wi_ hwi, ← ez156]; exact Int32.not_lt.mp c_176⟩, if_pos c_216]); have hT2 := toldN_s hT hj hf; rw [hI9] at hT2; refine ⟨hT2.2, ?_, hT2.1, ?_, hhv_224, ?_⟩; (first | exact tkE_le (tkE_le (tkE_le (tkE_le hp))) | exact tkE_le (tkE_le (tkE_le hp))); rw [← hRd, show 6 - j_ = (6 - (j_ + 1)) + 1 by omega, rd_go c_67 hf, hI9]; unfold itP it3; rw [h2]; exact fun k hk => by rw [hA9]; by_cases e : k = wi_ <;> first | (subst e; rw [upd_at, upd_at]; done) | (rw [upd_ne _ _ e, upd_ne _ _ (by omega)]; exact hlx k hk))) (by first | (intro f z; cases z; done) | (intro f z; obtain rfl := Option.some.inj z; rw [← hRd, show 6 - j_ = (6 - (j_ + 1)) + 1 by omega, rd_bad c_67 (fun y => by rw [hf] at y; cases y), hf])) (by first | (intro f z; cases z; done) | (intro f z; obtain rfl := Option.some.inj z; have := tkb_le (tx := tx_) hp; have := tkb_le (tx := tx_) (tkE_le (tx := tx_) hp); have := tkb_le (tx := tx_) (tkE_le (tx := tx_) (tkE_le (tx := tx_) hp)); have := tkb_le (tx := tx_) (tkE_le (tx := tx_) (tkE_le (tx := tx_) (tkE_le (tx := tx_) hp))); omega)) (fun k hk => by rw [upd_ne _ _ (by omega)]; exact hlm k hk) (by first | exact mz_n hn_56 (by omega) | exact mz_s hn_56 (by omega)) H locs hP hD hS ls (lv_sub hl [0, 3, 5] rfl)
                              · refine lv_iconst (v := 1) hx hb dX9_rider_179 (by decide) ?_
                                refine lv_goto (tgt := 184) hx hb dX9_rider_180 (by decide) ?_
                                refine ca_V (q0 := 0) (n := 1) (rest := []) (wr := [(bl_, .inl (cy 0, 10, .inl lm_))]) F hK hE hA hP hD hS hl.1 (kX9_reads_1 (l := l) (D := D) (cy := cy) (sa := sa) b0_ 0 tr_ bn_ bt_ bs_ bk_ bp_ bi_ bl_ it_ ub_ db_ bx_ bc_ bf_ n_ tx_ (tkE tx_ n_ (tkE tx_ n_ (tkE tx_ n_ p9_))) (tkK tx_ n_ (tkE tx_ n_ (tkE tx_ n_ p9_))) (nI (tkb tx_ n_ (tkE tx_ n_ (tkE tx_ n_ p9_)))) (tkV tx_ n_ (tkE tx_ n_ (tkE tx_ n_ p9_))) (by first | assumption | omega | decide) (by first | assumption | omega | decide) (by first | exact tkE_le hp | exact tkE_le (tkE_le hp) | exact tkE_le (tkE_le (tkE_le hp)) | exact tkE_le (tkE_le (tkE_le (tkE_le hp))))) gX9_rider_X9_reads rfl rfl rfl rfl rfl rfl (by decide +kernel) ⟨by decide, by decide⟩ [0, 1] [2] rfl rfl rfl rfl (by decide) rfl rfl (Nat.le_of_ble_eq_true rfl) dX9_rider_184 ⟨by decide, by decide⟩ (fun v9 u9 H locs hv hP hD hS => ?_)
                                obtain ⟨u184_vl2, hu9⟩ : ∃ z, z = u9 := ⟨_, rfl⟩
                                subst hu9
                                obtain ⟨hv, hhv_184⟩ := hv
                                subst hv
                                obtain ⟨hP, hD⟩ := re_ws (ws' := [(b0_, .inr (9, [.int 0, .long tr_, .ref bn_, .ref bt_, .ref bs_, .ref bk_, .ref bp_, .ref bi_, .ref bl_, .int it_, .int ub_, .int db_, .ref bx_, .int (nI n_), .int (nI (tkE tx_ n_ (tkE tx_ n_ (tkE tx_ n_ (tkE tx_ n_ p9_))))), .int (tkK tx_ n_ (tkE tx_ n_ (tkE tx_ n_ (tkE tx_ n_ p9_)))), .int (nI (tkb tx_ n_ (tkE tx_ n_ (tkE tx_ n_ (tkE tx_ n_ p9_))))), .int u184_vl2, .int (-1), .ref bc_, .ref bf_])), (bx_, .inl (cy 0, 200, .inl tx_)), (bl_, .inl (cy 0, 10, .inl lm_))]) hP hD [1, 2, 0] rfl rfl
                                refine W.eq (g2 := F0 m 187 ls [.int (tkV tx_ n_ (tkE tx_ n_ (tkE tx_ n_ p9_)))]) rfl ?_
                                refine lv_istore (lv' := [(5, .int (tkV tx_ n_ (tkE tx_ n_ (tkE tx_ n_ p9_)))), (4, .int 1), (1, .int (tb_ ||| (1 <<< ((nI wi_) &&& 31)))), (3, .int (nI wi_)), (2, .int (nI j_)), (0, .ref b0_)]) hx hb dX9_rider_187 hl (by decide) rfl (fun ls hl => ?_)
                                refine lv_aload_n hx hb dX9_rider_189 rfl (lv_at hl 5 rfl) ?_
                                refine va_get (D := D) (ci := 9) (v := .ref bl_) (C := RX9) (T := TX9) (N := 21) hx hb hts winX9 hown hK hP 0 rfl rfl 8 (by decide) wf29 (fun _ h9 => h9) rfl dX9_rider_190 ?_
                                refine lv_iconst (v := 5) hx hb dX9_rider_193 (by decide) ?_
                                refine lv_iload_n hx hb dX9_rider_194 rfl (lv_at hl 3 rfl) ?_
                                refine lv_iadd hx hb dX9_rider_195 ?_
                                refine lv_eqi (y := nI (5 + wi_)) (nI_add 5 wi_) ?_
                                refine lv_iload hx hb dX9_rider_196 (lv_at hl 1 rfl) ?_
                                refine lv_if_eq (tgt := 207) hx hb dX9_rider_198 (by decide) (fun c_198 => ?_) (fun c_198 => ?_)
                                · exact absurd c_198 (by decide)
                                · refine lv_iload hx hb dX9_rider_201 (lv_at hl 0 rfl) ?_
                                  refine lv_ineg hx hb dX9_rider_203 ?_
                                  refine lv_goto (tgt := 209) hx hb dX9_rider_204 (by decide) ?_
                                  refine as_i (x := -(tkV tx_ n_ (tkE tx_ n_ (tkE tx_ n_ p9_)))) hx hb hK hP hD hS 2 rfl (5 + wi_) (rfl) (by omega) (by decide) dX9_rider_209 (fun H locs hP hD hS => ?_)
                                  have hP : va_P D vwCl [(b0_, .inr (9, [.int 0, .long tr_, .ref bn_, .ref bt_, .ref bs_, .ref bk_, .ref bp_, .ref bi_, .ref bl_, .int it_, .int ub_, .int db_, .ref bx_, .int (nI n_), .int (nI (tkE tx_ n_ (tkE tx_ n_ (tkE tx_ n_ (tkE tx_ n_ p9_))))), .int (tkK tx_ n_ (tkE tx_ n_ (tkE tx_ n_ (tkE tx_ n_ p9_)))), .int (nI (tkb tx_ n_ (tkE tx_ n_ (tkE tx_ n_ (tkE tx_ n_ p9_))))), .int u184_vl2, .int (-1), .ref bc_, .ref bf_])), (bx_, .inl (cy 0, 200, .inl tx_)), (bl_, .inl (cy 0, 10, .inl (upd lm_ (5 + wi_) (-(tkV tx_ n_ (tkE tx_ n_ (tkE tx_ n_ p9_)))))))] H := hP
                                  have hD : va_D A [(b0_, .inr (9, [.int 0, .long tr_, .ref bn_, .ref bt_, .ref bs_, .ref bk_, .ref bp_, .ref bi_, .ref bl_, .int it_, .int ub_, .int db_, .ref bx_, .int (nI n_), .int (nI (tkE tx_ n_ (tkE tx_ n_ (tkE tx_ n_ (tkE tx_ n_ p9_))))), .int (tkK tx_ n_ (tkE tx_ n_ (tkE tx_ n_ (tkE tx_ n_ p9_)))), .int (nI (tkb tx_ n_ (tkE tx_ n_ (tkE tx_ n_ (tkE tx_ n_ p9_))))), .int u184_vl2, .int (-1), .ref bc_, .ref bf_])), (bx_, .inl (cy 0, 200, .inl tx_)), (bl_, .inl (cy 0, 10, .inl (upd lm_ (5 + wi_) (-(tkV tx_ n_ (tkE tx_ n_ (tkE tx_ n_ p9_)))))))] := hD
                                  refine lv_aload_n hx hb dX9_rider_210 rfl (lv_at hl 5 rfl) ?_
                                  refine lv_aload_n hx hb dX9_rider_211 rfl (lv_at hl 5 rfl) ?_
                                  refine va_get (D := D) (ci := 9) (v := .int (tkK tx_ n_ (tkE tx_ n_ (tkE tx_ n_ (tkE tx_ n_ p9_))))) (C := RX9) (T := TX9) (N := 21) hx hb hts winX9 hown hK hP 0 rfl rfl 15 (by decide) wf142 (fun _ h9 => h9) rfl dX9_rider_212 ?_
                                  refine lv_iconst (v := 4) hx hb dX9_rider_215 (by decide) ?_
                                  refine lv_icmp_ne (tgt := 223) hx hb dX9_rider_216 (by decide) (fun c_216 => ?_) (fun c_216 => ?_)
                                  · refine lv_iconst (v := 0) hx hb dX9_rider_223 (by decide) ?_
                                    refine ca_V (q0 := 0) (n := 1) (rest := []) (wr := [(bl_, .inl (cy 0, 10, .inl (upd lm_ (5 + wi_) (-(tkV tx_ n_ (tkE tx_ n_ (tkE tx_ n_ p9_)))))))]) F hK hE hA hP hD hS hl.1 (kX9_reads_0 (l := l) (D := D) (cy := cy) (sa := sa) b0_ 0 tr_ bn_ bt_ bs_ bk_ bp_ bi_ bl_ it_ ub_ db_ bx_ bc_ bf_ n_ tx_ (nI (tkE tx_ n_ (tkE tx_ n_ (tkE tx_ n_ (tkE tx_ n_ p9_))))) (tkK tx_ n_ (tkE tx_ n_ (tkE tx_ n_ (tkE tx_ n_ p9_)))) (tkb tx_ n_ (tkE tx_ n_ (tkE tx_ n_ (tkE tx_ n_ p9_)))) u184_vl2) gX9_rider_X9_reads rfl rfl rfl rfl rfl rfl (by decide +kernel) ⟨by decide, by decide⟩ [0, 1] [2] rfl rfl rfl rfl (by decide) rfl rfl (Nat.le_of_ble_eq_true rfl) dX9_rider_224 ⟨by decide, by decide⟩ (fun v9 u9 H locs hv hP hD hS => ?_)
                                    subst hv
                                    obtain ⟨hP, hD⟩ := re_ws (ws' := [(b0_, .inr (9, [.int 0, .long tr_, .ref bn_, .ref bt_, .ref bs_, .ref bk_, .ref bp_, .ref bi_, .ref bl_, .int it_, .int ub_, .int db_, .ref bx_, .int (nI n_), .int (nI (tkE tx_ n_ (tkE tx_ n_ (tkE tx_ n_ (tkE tx_ n_ p9_))))), .int (tkK tx_ n_ (tkE tx_ n_ (tkE tx_ n_ (tkE tx_ n_ p9_)))), .int (nI (tkb tx_ n_ (tkE tx_ n_ (tkE tx_ n_ (tkE tx_ n_ p9_))))), .int u184_vl2, .int (nI (tkb tx_ n_ (tkE tx_ n_ (tkE tx_ n_ (tkE tx_ n_ p9_))))), .ref bc_, .ref bf_])), (bx_, .inl (cy 0, 200, .inl tx_)), (bl_, .inl (cy 0, 10, .inl (upd lm_ (5 + wi_) (-(tkV tx_ n_ (tkE tx_ n_ (tkE tx_ n_ p9_)))))))]) hP hD [1, 2, 0] rfl rfl
                                    refine W.eq (g2 := F0 m 227 ls [.int 0]) rfl ?_
                                    have hok1 : tkK tx_ n_ p9_ = 1 ∧ tb_ &&& bitO (itI tx_ n_ p9_) = 0 := ⟨c_76, by rw [hI9]; exact (told_b hT hwi).mp c_87⟩
                                    have hf : itF tx_ n_ p9_ tb_ = some ((tkb tx_ n_ (tkE tx_ n_ (tkE tx_ n_ (tkE tx_ n_ p9_))))) := by unfold itF it3; rw [if_pos hok1, h2, if_pos ⟨c_147, by rw [hI9, lrg_r wi_ hwi, ← ez156]; exact Int32.not_lt.mp c_176⟩, if_neg c_216]
                                    refine lv_pop hx hb dX9_rider_227 rfl ?_
                                    refine lv_iinc (v := nI (j_ + 1)) (lv' := [(2, .int (nI (j_ + 1))), (5, .int (tkV tx_ n_ (tkE tx_ n_ (tkE tx_ n_ p9_)))), (4, .int 1), (1, .int (tb_ ||| (1 <<< ((nI wi_) &&& 31)))), (3, .int (nI wi_)), (0, .ref b0_)]) hx hb dX9_rider_228 hl (k := 4) rfl (nI_add j_ 1) (by decide) rfl (fun ls hl => ?_)
                                    refine lv_goto (tgt := 56) hx hb dX9_rider_231 (by decide) ?_
                                    skip
                                    skip
                                    skip
                                    skip
                                    exact ih_56 (j_ + 1) p9_ u184_vl2 (tb_ ||| (1 <<< ((nI wi_) &&& 31))) (upd lm_ (5 + wi_) (-(tkV tx_ n_ (tkE tx_ n_ (tkE tx_ n_ p9_))))) lx_ (some (tkb tx_ n_ (tkE tx_ n_ (tkE tx_ n_ (tkE tx_ n_ p9_))))) (nI (tkE tx_ n_ (tkE tx_ n_ (tkE tx_ n_ (tkE tx_ n_ p9_))))) (tkK tx_ n_ (tkE tx_ n_ (tkE tx_ n_ (tkE tx_ n_ p9_)))) (nI (tkb tx_ n_ (tkE tx_ n_ (tkE tx_ n_ (tkE tx_ n_ p9_))))) (by first | (intro z; cases z; done) | exact fun _ => ⟨rfl, rfl, rfl⟩) (by first | (intro z; cases z; done) | (intro _; have hok1 : tkK tx_ n_ p9_ = 1 ∧ tb_ &&& bitO (itI tx_ n_ p9_) = 0 := ⟨c_76, by rw [hI9]; exact (told_b hT hwi).mp c_87⟩; have hf : itF tx_ n_ p9_ tb_ = none := (by unfold itF it3; rw [if_pos hok1, h2, if_pos ⟨c_147, by rw [hI9, lrg_r wi_ hwi, ← ez156]; exact Int32.not_lt.mp c_176⟩, if_pos c_216]); have hT2 := toldN_s hT hj hf; rw [hI9] at hT2; refine ⟨hT2.2, ?_, hT2.1, ?_, hhv_224, ?_⟩; (first | exact tkE_le (tkE_le (tkE_le (tkE_le hp))) | exact tkE_le (tkE_le (tkE_le hp))); rw [← hRd, show 6 - j_ = (6 - (j_ + 1)) + 1 by omega, rd_go c_67 hf, hI9]; unfold itP it3; rw [h2]; exact fun k hk => by rw [hA9]; by_cases e : k = wi_ <;> first | (subst e; rw [upd_at, upd_at]; done) | (rw [upd_ne _ _ e, upd_ne _ _ (by omega)]; exact hlx k hk))) (by first | (intro f z; cases z; done) | (intro f z; obtain rfl := Option.some.inj z; rw [← hRd, show 6 - j_ = (6 - (j_ + 1)) + 1 by omega, rd_bad c_67 (fun y => by rw [hf] at y; cases y), hf])) (by first | (intro f z; cases z; done) | (intro f z; obtain rfl := Option.some.inj z; have := tkb_le (tx := tx_) hp; have := tkb_le (tx := tx_) (tkE_le (tx := tx_) hp); have := tkb_le (tx := tx_) (tkE_le (tx := tx_) (tkE_le (tx := tx_) hp)); have := tkb_le (tx := tx_) (tkE_le (tx := tx_) (tkE_le (tx := tx_) (tkE_le (tx := tx_) hp))); omega)) (fun k hk => by rw [upd_ne _ _ (by omega)]; exact hlm k hk) (by first | exact mz_n hn_56 (by omega) | exact mz_s hn_56 (by omega)) H locs hP hD hS ls (lv_sub hl [0, 3, 5] rfl)
                                  · refine lv_iconst (v := 1) hx hb dX9_rider_219 (by decide) ?_
                                    refine lv_goto (tgt := 224) hx hb dX9_rider_220 (by decide) ?_
                                    refine ca_V (q0 := 0) (n := 1) (rest := []) (wr := [(bl_, .inl (cy 0, 10, .inl (upd lm_ (5 + wi_) (-(tkV tx_ n_ (tkE tx_ n_ (tkE tx_ n_ p9_)))))))]) F hK hE hA hP hD hS hl.1 (kX9_reads_1 (l := l) (D := D) (cy := cy) (sa := sa) b0_ 0 tr_ bn_ bt_ bs_ bk_ bp_ bi_ bl_ it_ ub_ db_ bx_ bc_ bf_ n_ tx_ (tkE tx_ n_ (tkE tx_ n_ (tkE tx_ n_ (tkE tx_ n_ p9_)))) (tkK tx_ n_ (tkE tx_ n_ (tkE tx_ n_ (tkE tx_ n_ p9_)))) (nI (tkb tx_ n_ (tkE tx_ n_ (tkE tx_ n_ (tkE tx_ n_ p9_))))) u184_vl2 (by first | assumption | omega | decide) (by first | assumption | omega | decide) (by first | exact tkE_le hp | exact tkE_le (tkE_le hp) | exact tkE_le (tkE_le (tkE_le hp)) | exact tkE_le (tkE_le (tkE_le (tkE_le hp))))) gX9_rider_X9_reads rfl rfl rfl rfl rfl rfl (by decide +kernel) ⟨by decide, by decide⟩ [0, 1] [2] rfl rfl rfl rfl (by decide) rfl rfl (Nat.le_of_ble_eq_true rfl) dX9_rider_224 ⟨by decide, by decide⟩ (fun v9 u9 H locs hv hP hD hS => ?_)
                                    obtain ⟨u224_vl2, hu9⟩ : ∃ z, z = u9 := ⟨_, rfl⟩
                                    subst hu9
                                    obtain ⟨hv, hhv_224⟩ := hv
                                    subst hv
                                    obtain ⟨hP, hD⟩ := re_ws (ws' := [(b0_, .inr (9, [.int 0, .long tr_, .ref bn_, .ref bt_, .ref bs_, .ref bk_, .ref bp_, .ref bi_, .ref bl_, .int it_, .int ub_, .int db_, .ref bx_, .int (nI n_), .int (nI (tkE tx_ n_ (tkE tx_ n_ (tkE tx_ n_ (tkE tx_ n_ (tkE tx_ n_ p9_)))))), .int (tkK tx_ n_ (tkE tx_ n_ (tkE tx_ n_ (tkE tx_ n_ (tkE tx_ n_ p9_))))), .int (nI (tkb tx_ n_ (tkE tx_ n_ (tkE tx_ n_ (tkE tx_ n_ (tkE tx_ n_ p9_)))))), .int u224_vl2, .int (-1), .ref bc_, .ref bf_])), (bx_, .inl (cy 0, 200, .inl tx_)), (bl_, .inl (cy 0, 10, .inl (upd lm_ (5 + wi_) (-(tkV tx_ n_ (tkE tx_ n_ (tkE tx_ n_ p9_)))))))]) hP hD [1, 2, 0] rfl rfl
                                    refine W.eq (g2 := F0 m 227 ls [.int u184_vl2]) rfl ?_
                                    refine lv_pop hx hb dX9_rider_227 rfl ?_
                                    refine lv_iinc (v := nI (j_ + 1)) (lv' := [(2, .int (nI (j_ + 1))), (5, .int (tkV tx_ n_ (tkE tx_ n_ (tkE tx_ n_ p9_)))), (4, .int 1), (1, .int (tb_ ||| (1 <<< ((nI wi_) &&& 31)))), (3, .int (nI wi_)), (0, .ref b0_)]) hx hb dX9_rider_228 hl (k := 4) rfl (nI_add j_ 1) (by decide) rfl (fun ls hl => ?_)
                                    refine lv_goto (tgt := 56) hx hb dX9_rider_231 (by decide) ?_
                                    skip
                                    skip
                                    skip
                                    skip
                                    exact ih_56 (j_ + 1) (tkE tx_ n_ (tkE tx_ n_ (tkE tx_ n_ (tkE tx_ n_ p9_)))) u224_vl2 (tb_ ||| (1 <<< ((nI wi_) &&& 31))) (upd lm_ (5 + wi_) (-(tkV tx_ n_ (tkE tx_ n_ (tkE tx_ n_ p9_))))) (upd lx_ wi_ (itA tx_ n_ p9_)) none (nI (tkE tx_ n_ (tkE tx_ n_ (tkE tx_ n_ (tkE tx_ n_ (tkE tx_ n_ p9_)))))) (tkK tx_ n_ (tkE tx_ n_ (tkE tx_ n_ (tkE tx_ n_ (tkE tx_ n_ p9_))))) (nI (tkb tx_ n_ (tkE tx_ n_ (tkE tx_ n_ (tkE tx_ n_ (tkE tx_ n_ p9_)))))) (by first | (intro z; cases z; done) | exact fun _ => ⟨rfl, rfl, rfl⟩) (by first | (intro z; cases z; done) | (intro _; have hok1 : tkK tx_ n_ p9_ = 1 ∧ tb_ &&& bitO (itI tx_ n_ p9_) = 0 := ⟨c_76, by rw [hI9]; exact (told_b hT hwi).mp c_87⟩; have hf : itF tx_ n_ p9_ tb_ = none := (by unfold itF it3; rw [if_pos hok1, h2, if_pos ⟨c_147, by rw [hI9, lrg_r wi_ hwi, ← ez156]; exact Int32.not_lt.mp c_176⟩, if_pos c_216]); have hT2 := toldN_s hT hj hf; rw [hI9] at hT2; refine ⟨hT2.2, ?_, hT2.1, ?_, hhv_224, ?_⟩; (first | exact tkE_le (tkE_le (tkE_le (tkE_le hp))) | exact tkE_le (tkE_le (tkE_le hp))); rw [← hRd, show 6 - j_ = (6 - (j_ + 1)) + 1 by omega, rd_go c_67 hf, hI9]; unfold itP it3; rw [h2]; exact fun k hk => by rw [hA9]; by_cases e : k = wi_ <;> first | (subst e; rw [upd_at, upd_at]; done) | (rw [upd_ne _ _ e, upd_ne _ _ (by omega)]; exact hlx k hk))) (by first | (intro f z; cases z; done) | (intro f z; obtain rfl := Option.some.inj z; rw [← hRd, show 6 - j_ = (6 - (j_ + 1)) + 1 by omega, rd_bad c_67 (fun y => by rw [hf] at y; cases y), hf])) (by first | (intro f z; cases z; done) | (intro f z; obtain rfl := Option.some.inj z; have := tkb_le (tx := tx_) hp; have := tkb_le (tx := tx_) (tkE_le (tx := tx_) hp); have := tkb_le (tx := tx_) (tkE_le (tx := tx_) (tkE_le (tx := tx_) hp)); have := tkb_le (tx := tx_) (tkE_le (tx := tx_) (tkE_le (tx := tx_) (tkE_le (tx := tx_) hp))); omega)) (fun k hk => by rw [upd_ne _ _ (by omega)]; exact hlm k hk) (by first | exact mz_n hn_56 (by omega) | exact mz_s hn_56 (by omega)) H locs hP hD hS ls (lv_sub hl [0, 3, 5] rfl)
                            refine cn_ge (tgt := 164) hx hb wi_ 3 rfl rfl (by omega) (by omega) dX9_rider_156 (by decide) (fun c_156 => ?_) (fun c_156 => ?_)
                            · refine lv_iload_n hx hb dX9_rider_164 rfl (lv_at hl 2 rfl) ?_
                              refine lv_iconst (v := 3) hx hb dX9_rider_165 (by decide) ?_
                              refine cn_ne (tgt := 173) hx hb wi_ 3 rfl rfl (by omega) (by omega) dX9_rider_166 (by decide) (fun c_166 => ?_) (fun c_166 => ?_)
                              · refine lv_sipush (v := 999) hx hb dX9_rider_173 (by decide) ?_
                                exact J_156_849 _ (((if_pos c_156).trans (if_neg c_166)).symm) H locs hP hD hS ls (lv_sub hl [0, 1, 2, 3, 4] rfl)
                              · refine lv_iconst (v := 5) hx hb dX9_rider_169 (by decide) ?_
                                refine lv_goto (tgt := 176) hx hb dX9_rider_170 (by decide) ?_
                                exact J_156_849 _ (((if_pos c_156).trans (if_pos c_166)).symm) H locs hP hD hS ls (lv_sub hl [0, 1, 2, 3, 4] rfl)
                            · refine lv_bipush (v := 99) hx hb dX9_rider_159 (by decide) ?_
                              refine lv_goto (tgt := 176) hx hb dX9_rider_161 (by decide) ?_
                              exact J_156_849 _ ((if_neg c_156).symm) H locs hP hD hS ls (lv_sub hl [0, 1, 2, 3, 4] rfl)
                      refine lv_icmp_ne (tgt := 129) hx hb dX9_rider_117 (by decide) (fun c_117 => ?_) (fun c_117 => ?_)
                      · refine lv_iconst (v := 0) hx hb dX9_rider_129 (by decide) ?_
                        refine lv_eqi (y := bI (((tkK tx_ n_ (tkE tx_ n_ p9_)) = 2) ∧ (¬ (3 ≤ wi_)))) (bI_congr (pd_f c_117)) ?_
                        exact J_117_574 H locs hP hD hS ls (lv_sub hl [0, 1, 2, 3] rfl)
                      · refine lv_iload_n hx hb dX9_rider_120 rfl (lv_at hl 1 rfl) ?_
                        refine lv_iconst (v := 3) hx hb dX9_rider_121 (by decide) ?_
                        refine cn_ge (tgt := 129) hx hb wi_ 3 rfl rfl (by omega) (by omega) dX9_rider_122 (by decide) (fun c_122 => ?_) (fun c_122 => ?_)
                        · refine lv_iconst (v := 0) hx hb dX9_rider_129 (by decide) ?_
                          refine lv_eqi (y := bI (((tkK tx_ n_ (tkE tx_ n_ p9_)) = 2) ∧ (¬ (3 ≤ wi_)))) (bI_congr (pd_t c_117 (pn_t c_122))) ?_
                          exact J_117_574 H locs hP hD hS ls (lv_sub hl [0, 1, 2, 3] rfl)
                        · refine lv_iconst (v := 1) hx hb dX9_rider_125 (by decide) ?_
                          refine lv_goto (tgt := 130) hx hb dX9_rider_126 (by decide) ?_
                          refine lv_eqi (y := bI (((tkK tx_ n_ (tkE tx_ n_ p9_)) = 2) ∧ (¬ (3 ≤ wi_)))) (bI_congr (pd_t c_117 (pn_f c_122))) ?_
                          exact J_117_574 H locs hP hD hS ls (lv_sub hl [0, 1, 2, 3] rfl)
        skip
        skip
        skip
        skip
        exact L_56 _ 0 0 u53_vl2 0 lc_ s_UNTOLD none (nI (tkE tx_ n_ 0)) (tkK tx_ n_ 0) (nI (tkb tx_ n_ 0)) (fun _ => ⟨rfl, rfl, rfl⟩) (fun _ => ⟨by omega, Nat.zero_le _, toldN_0, rfl, hhv_53, fun k hk => (hup k (by omega)).symm⟩) (fun f z => by cases z) (fun f z => by cases z) (hlo) (Nat.lt_succ_self _) H locs hP hD hS ls (lv_sub hl [1, 2, 3] rfl)
      · refine lv_aload_n hx hb dX9_rider_26 rfl (lv_at hl 3 rfl) ?_
        refine va_get (D := D) (ci := 9) (v := .ref bl_) (C := RX9) (T := TX9) (N := 21) hx hb hts winX9 hown hK hP 0 rfl rfl 8 (by decide) wf29 (fun _ h9 => h9) rfl dX9_rider_27 ?_
        refine lv_iconst (v := 5) hx hb dX9_rider_30 (by decide) ?_
        refine lv_iload_n hx hb dX9_rider_31 rfl (lv_at hl 0 rfl) ?_
        refine lv_iadd hx hb dX9_rider_32 ?_
        refine lv_eqi (y := nI (5 + i_)) (nI_add 5 i_) ?_
        refine lv_iload_n hx hb dX9_rider_33 rfl (lv_at hl 0 rfl) ?_
        refine lv_iconst (v := 4) hx hb dX9_rider_34 (by decide) ?_
        have J_35_1008 : ∀ (z35 : Int32), z35 = (if i_ = 4 then 999 else 0) → ∀ (H : Heap) (locs : List Loc), va_P D vwCl [(b0_, .inr (9, [.int 0, .long tr_, .ref bn_, .ref bt_, .ref bs_, .ref bk_, .ref bp_, .ref bi_, .ref bl_, .int it_, .int ub_, .int db_, .ref bx_, .int (nI n_), .int 0, .int tk_, .int pl_, .int vl_, .int (-1), .ref bc_, .ref bf_])), (bx_, .inl (cy 0, 200, .inl tx_)), (bl_, .inl (cy 0, 10, .inl lc_))] H → va_D A [(b0_, .inr (9, [.int 0, .long tr_, .ref bn_, .ref bt_, .ref bs_, .ref bk_, .ref bp_, .ref bi_, .ref bl_, .int it_, .int ub_, .int db_, .ref bx_, .int (nI n_), .int 0, .int tk_, .int pl_, .int vl_, .int (-1), .ref bc_, .ref bf_])), (bx_, .inl (cy 0, 200, .inl tx_)), (bl_, .inl (cy 0, 10, .inl lc_))] → va_S A s.heap H locs → ∀ (ls : Array Slot), lv_has ls 6 [(3, .int (nI i_)), (2, .int 0), (1, .int 0), (0, .ref b0_)] → W p l e rmkX9_rider s m args below meth c H locs 0 0 Q (F0 m 45 ls [.int z35, .int (nI (5 + i_)), .ref bl_]) := by
          intro z35 ez35 H locs hP hD hS ls hl
          refine as_i (x := z35) hx hb hK hP hD hS 2 rfl (5 + i_) (rfl) (by omega) (by decide) dX9_rider_45 (fun H locs hP hD hS => ?_)
          have hP : va_P D vwCl [(b0_, .inr (9, [.int 0, .long tr_, .ref bn_, .ref bt_, .ref bs_, .ref bk_, .ref bp_, .ref bi_, .ref bl_, .int it_, .int ub_, .int db_, .ref bx_, .int (nI n_), .int 0, .int tk_, .int pl_, .int vl_, .int (-1), .ref bc_, .ref bf_])), (bx_, .inl (cy 0, 200, .inl tx_)), (bl_, .inl (cy 0, 10, .inl (upd lc_ (5 + i_) z35)))] H := hP
          have hD : va_D A [(b0_, .inr (9, [.int 0, .long tr_, .ref bn_, .ref bt_, .ref bs_, .ref bk_, .ref bp_, .ref bi_, .ref bl_, .int it_, .int ub_, .int db_, .ref bx_, .int (nI n_), .int 0, .int tk_, .int pl_, .int vl_, .int (-1), .ref bc_, .ref bf_])), (bx_, .inl (cy 0, 200, .inl tx_)), (bl_, .inl (cy 0, 10, .inl (upd lc_ (5 + i_) z35)))] := hD
          refine lv_iinc (v := nI (i_ + 1)) (lv' := [(3, .int (nI (i_ + 1))), (2, .int 0), (1, .int 0), (0, .ref b0_)]) hx hb dX9_rider_46 hl (k := 0) rfl (nI_add i_ 1) (by decide) rfl (fun ls hl => ?_)
          refine lv_goto (tgt := 21) hx hb dX9_rider_49 (by decide) ?_
          exact ih_21 (i_ + 1) (upd lc_ (5 + i_) z35) (by omega) (fun k hk => by rw [upd_ne _ _ (by omega)]; exact hlo k hk) (fun k hk => by by_cases e : k = i_; subst e; rw [upd_at, ez35]; exact unt_r k (by omega); rw [upd_ne _ _ (by omega)]; exact hup k (by omega)) (by omega) H locs hP hD hS ls (lv_sub hl [0, 1, 2, 3] rfl)
        refine cn_ne (tgt := 44) hx hb i_ 4 rfl rfl (by omega) (by omega) dX9_rider_35 (by decide) (fun c_35 => ?_) (fun c_35 => ?_)
        · refine lv_iconst (v := 0) hx hb dX9_rider_44 (by decide) ?_
          exact J_35_1008 _ ((if_neg c_35).symm) H locs hP hD hS ls (lv_sub hl [0, 1, 2, 3] rfl)
        · refine lv_sipush (v := 999) hx hb dX9_rider_38 (by decide) ?_
          refine lv_goto (tgt := 45) hx hb dX9_rider_41 (by decide) ?_
          exact J_35_1008 _ ((if_pos c_35).symm) H locs hP hD hS ls (lv_sub hl [0, 1, 2, 3] rfl)
  exact L_21 _ 0 lw_ (by omega) (fun _ _ => rfl) (fun k hk => absurd hk (Nat.not_lt_zero _)) (Nat.lt_succ_self _) H locs hP hD hS ls (lv_sub hl [0, 1, 2, 3] rfl)
