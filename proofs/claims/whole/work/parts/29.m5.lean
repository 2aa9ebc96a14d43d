abbrev rmkX9_many : Room := { frames := 0, cells := 0, slots := 0, locals := 0 }
set_option maxHeartbeats 4000000 in
set_option maxRecDepth 100000 in
theorem kX9_many {l : Launch} {D : va_G} {cy : Nat → ClassId} {sa : Nat → Nat} (x_ : Int64)  : CD l D cy sa yX9_many wsX9_many rmkX9_many [.long x_] [] (some (.int (mny x_ 41))) [] := by
  refine CT.of cX9_many 4 (some .int) (by decide) rfl (Nat.le_of_ble_eq_true rfl) ?_
  intro p e s m args below meth c A Q ls F hmn hK hE hA hP hD hS hl RT
  obtain ⟨hx, hb, hml, hown, hts⟩ := id F
  have hl : lv_has ls 4 [(0, .long x_)] := hl
  have hP : va_P D vwCl [] s.heap := hP
  have hD : va_D A [] := hD
  obtain ⟨H, hH⟩ : ∃ H0 : Heap, H0 = s.heap := ⟨_, rfl⟩
  obtain ⟨locs, hlo⟩ : ∃ L0 : List Loc, L0 = [] := ⟨_, rfl⟩
  have hS : va_S A s.heap H locs := by rw [hH, hlo]; exact hS
  rw [← hH] at hP
  show W p l e rmkX9_many s m args below meth c s.heap [] 0 0 Q (F0 m 0 ls [])
  suffices hgo : W p l e rmkX9_many s m args below meth c H locs 0 0 Q (F0 m 0 ls []) by rw [hH, hlo] at hgo; exact hgo
  clear hH hlo
  refine lv_iconst (v := 0) hx hb dX9_many_0 (by decide) ?_
  refine lv_istore_n (lv' := [(2, .int 0), (0, .long x_)]) hx hb dX9_many_1 rfl hl (by decide) rfl (fun ls hl => ?_)
  refine lv_iconst (v := 0) hx hb dX9_many_2 (by decide) ?_
  refine lv_istore_n (lv' := [(3, .int 0), (2, .int 0), (0, .long x_)]) hx hb dX9_many_3 rfl hl (by decide) rfl (fun ls hl => ?_)
  have L_4 : ∀ (n : Nat) (q_ : Nat), (q_ ≤ 41) → 41 - q_ < n → ∀ (H : Heap) (locs : List Loc), va_P D vwCl [] H → va_D A [] → va_S A s.heap H locs → ∀ (ls : Array Slot), lv_has ls 4 [(3, .int (nI q_)), (2, .int (mny x_ q_)), (0, .long x_)] → W p l e rmkX9_many s m args below meth c H locs 0 0 Q (F0 m 4 ls []) := by
    intro n
    induction n with
    | zero => intro q_ hq hn; exact absurd hn (Nat.not_lt_zero _)
    | succ n ih_4 =>
      intro q_ hq hn_4 H locs hP hD hS ls hl
      refine lv_iload_n hx hb dX9_many_4 rfl (lv_at hl 0 rfl) ?_
      refine lv_bipush (v := 41) hx hb dX9_many_5 (by decide) ?_
      refine cn_ge (tgt := 25) hx hb q_ 41 rfl rfl (by omega) (by omega) dX9_many_7 (by decide) (fun c_7 => ?_) (fun c_7 => ?_)
      · refine lv_iload_n hx hb dX9_many_25 rfl (lv_at hl 1 rfl) ?_
        refine lv_eqi (y := mny x_ 41) (by rw [show q_ = 41 by omega]) ?_
        exact RT _ _ () H locs 26 ls (rt_i dX9_many_26) rfl hP hD hS
      · refine lv_iload_n hx hb dX9_many_10 rfl (lv_at hl 1 rfl) ?_
        refine lv_lload_n hx hb dX9_many_11 rfl (lv_at hl 2 rfl) ?_
        refine lv_iload_n hx hb dX9_many_12 rfl (lv_at hl 0 rfl) ?_
        refine lv_lshr (v := x_ >>> ((nI q_).toInt64 &&& 63)) hx hb dX9_many_13 (rfl) ?_
        refine lv_lconst (v := 1) hx hb dX9_many_14 (by decide) ?_
        refine lv_land hx hb dX9_many_15 ?_
        refine lv_l2i (v := ((x_ >>> ((nI q_).toInt64 &&& 63)) &&& 1).toInt32) hx hb dX9_many_16 (rfl) ?_
        refine lv_iadd hx hb dX9_many_17 ?_
        refine lv_eqi (y := mny x_ (q_ + 1)) (rfl) ?_
        refine lv_istore_n (lv' := [(2, .int (mny x_ (q_ + 1))), (3, .int (nI q_)), (0, .long x_)]) hx hb dX9_many_18 rfl hl (by decide) rfl (fun ls hl => ?_)
        refine lv_iinc (v := nI (q_ + 1)) (lv' := [(3, .int (nI (q_ + 1))), (2, .int (mny x_ (q_ + 1))), (0, .long x_)]) hx hb dX9_many_19 hl (k := 1) rfl (nI_add q_ 1) (by decide) rfl (fun ls hl => ?_)
        refine lv_goto (tgt := 4) hx hb dX9_many_22 (by decide) ?_
        exact ih_4 (q_ + 1) (by first | assumption | omega | decide) (by omega) H locs hP hD hS ls (lv_sub hl [0, 1, 2] rfl)
  exact L_4 _ 0 (by first | assumption | omega | decide) (Nat.lt_succ_self _) H locs hP hD hS ls (lv_sub hl [0, 1, 2] rfl)
abbrev rmkX9_score : Room := { frames := 4, cells := 0, slots := 0, locals := 108 }
set_option maxHeartbeats 4000000 in
set_option maxRecDepth 100000 in
theorem kX9_score {l : Launch} {D : va_G} {cy : Nat → ClassId} {sa : Nat → Nat} (b0_ : Nat) (th_ : Int32) (tr_ : Int64) (bn_ : Nat) (bt_ : Nat) (bs_ : Nat) (bk_ : Nat) (bp_ : Nat) (bi_ : Nat) (bl_ : Nat) (it_ : Int32) (ub_ : Int32) (db_ : Int32) (bx_ : Nat) (tp_ : Int32) (nx_ : Int32) (tk_ : Int32) (pl_ : Int32) (vl_ : Int32) (fa_ : Int32) (bc_ : Nat) (bf_ : Nat) (nb_ : Nat → Nat → Int32) (ft_ : Nat → Int32) (sf_ : Nat → Int32) (kd_ : Int32) (i_ : Int32)  : CT (S := (Nat → Int32)) l D cy sa yX9_score wsX9_score rmkX9_score [.ref b0_, .int kd_, .int i_] [(b0_, .inr (9, [.int th_, .long tr_, .ref bn_, .ref bt_, .ref bs_, .ref bk_, .ref bp_, .ref bi_, .ref bl_, .int it_, .int ub_, .int db_, .ref bx_, .int tp_, .int nx_, .int tk_, .int pl_, .int vl_, .int fa_, .ref bc_, .ref bf_])), (bn_, .inl (cy 0, 24, .inl (nbF nb_))), (bt_, .inl (cy 0, 6, .inl ft_)), (bs_, .inl (cy 0, 29, .inl sf_))] (fun v9 ft2 => v9 = some (.int (r_score nb_ (sf_ 26) kd_ i_))) (fun ft2 => [(b0_, .inr (9, [.int 0, .long (n_trace tr_ kd_ i_), .ref bn_, .ref bt_, .ref bs_, .ref bk_, .ref bp_, .ref bi_, .ref bl_, .int it_, .int ub_, .int db_, .ref bx_, .int tp_, .int nx_, .int tk_, .int pl_, .int vl_, .int fa_, .ref bc_, .ref bf_])), (bn_, .inl (cy 0, 24, .inl (nbF nb_))), (bt_, .inl (cy 0, 6, .inl ft2)), (bs_, .inl (cy 0, 29, .inl sf_))]) 0 0 := by
  refine CT.of cX9_score 6 (some .int) (by decide) rfl (Nat.le_of_ble_eq_true rfl) ?_
  intro p e s m args below meth c A Q ls F hmn hK hE hA hP hD hS hl RT
  obtain ⟨hx, hb, hml, hown, hts⟩ := id F
  have winX9 : ∀ w ∈ u_ws RX9 TX9 21, w ∈ wsX9_score := by decide +kernel
  have wf48 := hts (.fieldLink RX9 48 "SelfSteerModel" "thrown" "I") (by decide +kernel)
  have wc70 := hts (.constant RX9 70 (-1000000)) (by decide +kernel)
  have wf183 := hts (.fieldLink RX9 183 "SelfSteerModel" "trace" "J") (by decide +kernel)
  have wl197 := hts (.constantLong RX9 197 (1000001)) (by decide +kernel)
  have wl195 := hts (.constantLong RX9 195 (100001)) (by decide +kernel)
  have wl193 := hts (.constantLong RX9 193 (11001)) (by decide +kernel)
  have wl191 := hts (.constantLong RX9 191 (1001)) (by decide +kernel)
  have wl189 := hts (.constantLong RX9 189 (101)) (by decide +kernel)
  have wl187 := hts (.constantLong RX9 187 (11)) (by decide +kernel)
  have wf7 := hts (.fieldLink RX9 7 "SelfSteerModel" "numbers" "[I") (by decide +kernel)
  have wf16 := hts (.fieldLink RX9 16 "SelfSteerModel" "s" "[I") (by decide +kernel)
  have hl : lv_has ls 6 [(0, .ref b0_), (1, .int kd_), (2, .int i_)] := hl
  have hP : va_P D vwCl [(b0_, .inr (9, [.int th_, .long tr_, .ref bn_, .ref bt_, .ref bs_, .ref bk_, .ref bp_, .ref bi_, .ref bl_, .int it_, .int ub_, .int db_, .ref bx_, .int tp_, .int nx_, .int tk_, .int pl_, .int vl_, .int fa_, .ref bc_, .ref bf_])), (bn_, .inl (cy 0, 24, .inl (nbF nb_))), (bt_, .inl (cy 0, 6, .inl ft_)), (bs_, .inl (cy 0, 29, .inl sf_))] s.heap := hP
  have hD : va_D A [(b0_, .inr (9, [.int th_, .long tr_, .ref bn_, .ref bt_, .ref bs_, .ref bk_, .ref bp_, .ref bi_, .ref bl_, .int it_, .int ub_, .int db_, .ref bx_, .int tp_, .int nx_, .int tk_, .int pl_, .int vl_, .int fa_, .ref bc_, .ref bf_])), (bn_, .inl (cy 0, 24, .inl (nbF nb_))), (bt_, .inl (cy 0, 6, .inl ft_)), (bs_, .inl (cy 0, 29, .inl sf_))] := hD
  obtain ⟨H, hH⟩ : ∃ H0 : Heap, H0 = s.heap := ⟨_, rfl⟩
  obtain ⟨locs, hlo⟩ : ∃ L0 : List Loc, L0 = [] := ⟨_, rfl⟩
  have hS : va_S A s.heap H locs := by rw [hH, hlo]; exact hS
  rw [← hH] at hP
  show W p l e rmkX9_score s m args below meth c s.heap [] 0 0 Q (F0 m 0 ls [])
  suffices hgo : W p l e rmkX9_score s m args below meth c H locs 0 0 Q (F0 m 0 ls []) by rw [hH, hlo] at hgo; exact hgo
  clear hH hlo
  refine lv_aload_n hx hb dX9_score_0 rfl (lv_at hl 0 rfl) ?_
  refine lv_iconst (v := 0) hx hb dX9_score_1 (by decide) ?_
  refine va_put (D := D) (ci := 9) (v := .int 0) (ty := .int) (C := RX9) (T := TX9) (N := 21) hx hb hts winX9 tyX9 tyX9_ok nmX9 hown hK hP hD hS 0 rfl rfl 0 (by decide) wf48 (fun _ h9 => h9) rfl (by decide +kernel) rfl rfl (Nat.le_of_ble_eq_true rfl) dX9_score_2 (fun H locs hP hD hS => ?_)
  have hP : va_P D vwCl [(b0_, .inr (9, [.int 0, .long tr_, .ref bn_, .ref bt_, .ref bs_, .ref bk_, .ref bp_, .ref bi_, .ref bl_, .int it_, .int ub_, .int db_, .ref bx_, .int tp_, .int nx_, .int tk_, .int pl_, .int vl_, .int fa_, .ref bc_, .ref bf_])), (bn_, .inl (cy 0, 24, .inl (nbF nb_))), (bt_, .inl (cy 0, 6, .inl ft_)), (bs_, .inl (cy 0, 29, .inl sf_))] H := hP
  have hD : va_D A [(b0_, .inr (9, [.int 0, .long tr_, .ref bn_, .ref bt_, .ref bs_, .ref bk_, .ref bp_, .ref bi_, .ref bl_, .int it_, .int ub_, .int db_, .ref bx_, .int tp_, .int nx_, .int tk_, .int pl_, .int vl_, .int fa_, .ref bc_, .ref bf_])), (bn_, .inl (cy 0, 24, .inl (nbF nb_))), (bt_, .inl (cy 0, 6, .inl ft_)), (bs_, .inl (cy 0, 29, .inl sf_))] := hD
  refine lv_iload_n hx hb dX9_score_5 rfl (lv_at hl 1 rfl) ?_
  refine lv_iconst (v := 0) hx hb dX9_score_6 (by decide) ?_
  refine lv_bipush (v := 6) hx hb dX9_score_7 (by decide) ?_
  refine ca_S (n := 3) (rest := []) (wr := [(b0_, .inr (9, [.int 0, .long tr_, .ref bn_, .ref bt_, .ref bs_, .ref bk_, .ref bp_, .ref bi_, .ref bl_, .int it_, .int ub_, .int db_, .ref bx_, .int tp_, .int nx_, .int tk_, .int pl_, .int vl_, .int fa_, .ref bc_, .ref bf_])), (bn_, .inl (cy 0, 24, .inl (nbF nb_))), (bt_, .inl (cy 0, 6, .inl ft_)), (bs_, .inl (cy 0, 29, .inl sf_))]) F hK hE hA hP hD hS hl.1 (kX9_in (l := l) (D := D) (cy := cy) (sa := sa) kd_ 0 6) gX9_score_X9_in rfl rfl rfl (by decide +kernel) ⟨by decide, by decide⟩ [] [0, 1, 2, 3] rfl rfl rfl rfl (by decide) rfl rfl (Nat.le_of_ble_eq_true rfl) dX9_score_9 ⟨by decide, by decide⟩ (fun v9 u9 H locs hv hP hD hS => ?_)
  subst hv
  have hP : va_P D vwCl [(b0_, .inr (9, [.int 0, .long tr_, .ref bn_, .ref bt_, .ref bs_, .ref bk_, .ref bp_, .ref bi_, .ref bl_, .int it_, .int ub_, .int db_, .ref bx_, .int tp_, .int nx_, .int tk_, .int pl_, .int vl_, .int fa_, .ref bc_, .ref bf_])), (bn_, .inl (cy 0, 24, .inl (nbF nb_))), (bt_, .inl (cy 0, 6, .inl ft_)), (bs_, .inl (cy 0, 29, .inl sf_))] H := hP
  have hD : va_D A [(b0_, .inr (9, [.int 0, .long tr_, .ref bn_, .ref bt_, .ref bs_, .ref bk_, .ref bp_, .ref bi_, .ref bl_, .int it_, .int ub_, .int db_, .ref bx_, .int tp_, .int nx_, .int tk_, .int pl_, .int vl_, .int fa_, .ref bc_, .ref bf_])), (bn_, .inl (cy 0, 24, .inl (nbF nb_))), (bt_, .inl (cy 0, 6, .inl ft_)), (bs_, .inl (cy 0, 29, .inl sf_))] := hD
  refine W.eq (g2 := F0 m 12 ls [.int (bI (inR kd_ 0 6))]) rfl ?_
  refine bz_eq (tgt := 22) hx hb dX9_score_12 (by decide) (fun c_12 => ?_) (fun c_12 => ?_)
  · refine lv_ldc (v := (-1000000)) hx hb hown wc70 dX9_score_22 ?_
    have hno : ¬ okSc kd_ i_ := by first | exact fun z => c_12 z.1 | exact fun z => c_19 z.2
    have hc9 : Value.long tr_ = Value.long (n_trace tr_ kd_ i_) := congrArg _ (show tr_ = n_trace tr_ kd_ i_ from (if_neg hno).symm)
    rw [hc9] at hP hD
    refine lv_eqi (y := r_score nb_ (sf_ 26) kd_ i_) ((if_neg hno).symm) ?_
    exact RT _ _ (ft_) H locs 24 ls (rt_i dX9_score_24) rfl hP hD hS
  · refine lv_iload_n hx hb dX9_score_15 rfl (lv_at hl 2 rfl) ?_
    refine ca_S (n := 1) (rest := []) (wr := [(b0_, .inr (9, [.int 0, .long tr_, .ref bn_, .ref bt_, .ref bs_, .ref bk_, .ref bp_, .ref bi_, .ref bl_, .int it_, .int ub_, .int db_, .ref bx_, .int tp_, .int nx_, .int tk_, .int pl_, .int vl_, .int fa_, .ref bc_, .ref bf_])), (bn_, .inl (cy 0, 24, .inl (nbF nb_))), (bt_, .inl (cy 0, 6, .inl ft_)), (bs_, .inl (cy 0, 29, .inl sf_))]) F hK hE hA hP hD hS hl.1 (kX9_isBicycle (l := l) (D := D) (cy := cy) (sa := sa) i_) gX9_score_X9_isBicycle rfl rfl rfl (by decide +kernel) ⟨by decide, by decide⟩ [] [0, 1, 2, 3] rfl rfl rfl rfl (by decide) rfl rfl (Nat.le_of_ble_eq_true rfl) dX9_score_16 ⟨by decide, by decide⟩ (fun v9 u9 H locs hv hP hD hS => ?_)
    subst hv
    have hP : va_P D vwCl [(b0_, .inr (9, [.int 0, .long tr_, .ref bn_, .ref bt_, .ref bs_, .ref bk_, .ref bp_, .ref bi_, .ref bl_, .int it_, .int ub_, .int db_, .ref bx_, .int tp_, .int nx_, .int tk_, .int pl_, .int vl_, .int fa_, .ref bc_, .ref bf_])), (bn_, .inl (cy 0, 24, .inl (nbF nb_))), (bt_, .inl (cy 0, 6, .inl ft_)), (bs_, .inl (cy 0, 29, .inl sf_))] H := hP
    have hD : va_D A [(b0_, .inr (9, [.int 0, .long tr_, .ref bn_, .ref bt_, .ref bs_, .ref bk_, .ref bp_, .ref bi_, .ref bl_, .int it_, .int ub_, .int db_, .ref bx_, .int tp_, .int nx_, .int tk_, .int pl_, .int vl_, .int fa_, .ref bc_, .ref bf_])), (bn_, .inl (cy 0, 24, .inl (nbF nb_))), (bt_, .inl (cy 0, 6, .inl ft_)), (bs_, .inl (cy 0, 29, .inl sf_))] := hD
    refine W.eq (g2 := F0 m 19 ls [.int (bI (inR i_ 0 3))]) rfl ?_
    refine bz_ne (tgt := 25) hx hb dX9_score_19 (by decide) (fun c_19 => ?_) (fun c_19 => ?_)
    · obtain ⟨i1_, hi1, rfl⟩ := inR_n 3 (by decide) rfl c_19
      refine lv_aload_n hx hb dX9_score_25 rfl (lv_at hl 0 rfl) ?_
      refine lv_iload_n hx hb dX9_score_26 rfl (lv_at hl 2 rfl) ?_
      refine ca_V (q0 := 0) (n := 1) (rest := []) (wr := [(bs_, .inl (cy 0, 29, .inl sf_))]) F hK hE hA hP hD hS hl.1 (kX9_takes (l := l) (D := D) (cy := cy) (sa := sa) b0_ 0 tr_ bn_ bt_ bs_ bk_ bp_ bi_ bl_ it_ ub_ db_ bx_ tp_ nx_ tk_ pl_ vl_ fa_ bc_ bf_ nb_ ft_ i1_ (by first | assumption | omega | decide)) gX9_score_X9_takes rfl rfl rfl rfl rfl rfl (by decide +kernel) ⟨by decide, by decide⟩ [0, 1, 2] [3] rfl rfl rfl rfl (by decide) rfl rfl (Nat.le_of_ble_eq_true rfl) dX9_score_27 ⟨by decide, by decide⟩ (fun v9 u9 H locs hv hP hD hS => ?_)
      subst hv
      obtain ⟨hP, hD⟩ := re_ws (ws' := [(b0_, .inr (9, [.int 0, .long tr_, .ref bn_, .ref bt_, .ref bs_, .ref bk_, .ref bp_, .ref bi_, .ref bl_, .int it_, .int ub_, .int db_, .ref bx_, .int tp_, .int nx_, .int tk_, .int pl_, .int vl_, .int fa_, .ref bc_, .ref bf_])), (bn_, .inl (cy 0, 24, .inl (nbF nb_))), (bt_, .inl (cy 0, 6, .inl (nb_ i1_))), (bs_, .inl (cy 0, 29, .inl sf_))]) hP hD [1, 2, 3, 0] rfl rfl
      refine W.eq (g2 := F0 m 30 ls []) rfl ?_
      refine lv_aload_n hx hb dX9_score_30 rfl (lv_at hl 0 rfl) ?_
      refine ca_V (q0 := 0) (n := 0) (rest := []) (wr := [(bn_, .inl (cy 0, 24, .inl (nbF nb_))), (bs_, .inl (cy 0, 29, .inl sf_))]) F hK hE hA hP hD hS hl.1 (kX9_manySpeeds (l := l) (D := D) (cy := cy) (sa := sa) b0_ 0 tr_ bn_ bt_ bs_ bk_ bp_ bi_ bl_ it_ ub_ db_ bx_ tp_ nx_ tk_ pl_ vl_ fa_ bc_ bf_ (nb_ i1_)) gX9_score_X9_manySpeeds rfl rfl rfl rfl rfl rfl (by decide +kernel) ⟨by decide, by decide⟩ [0, 2] [1, 3] rfl rfl rfl rfl (by decide) rfl rfl (Nat.le_of_ble_eq_true rfl) dX9_score_31 ⟨by decide, by decide⟩ (fun v9 u9 H locs hv hP hD hS => ?_)
      subst hv
      obtain ⟨hP, hD⟩ := re_ws (ws' := [(b0_, .inr (9, [.int 0, .long tr_, .ref bn_, .ref bt_, .ref bs_, .ref bk_, .ref bp_, .ref bi_, .ref bl_, .int it_, .int ub_, .int db_, .ref bx_, .int tp_, .int nx_, .int tk_, .int pl_, .int vl_, .int fa_, .ref bc_, .ref bf_])), (bn_, .inl (cy 0, 24, .inl (nbF nb_))), (bt_, .inl (cy 0, 6, .inl (nb_ i1_))), (bs_, .inl (cy 0, 29, .inl sf_))]) hP hD [2, 0, 3, 1] rfl rfl
      refine W.eq (g2 := F0 m 34 ls [.int (ct (nb_ i1_) 41)]) rfl ?_
      refine lv_istore_n (lv' := [(3, .int (ct (nb_ i1_) 41)), (0, .ref b0_), (1, .int kd_), (2, .int (nI i1_))]) hx hb dX9_score_34 rfl hl (by decide) rfl (fun ls hl => ?_)
      refine lv_iload_n hx hb dX9_score_35 rfl (lv_at hl 0 rfl) ?_
      refine lv_aload_n hx hb dX9_score_36 rfl (lv_at hl 1 rfl) ?_
      refine lv_iload_n hx hb dX9_score_37 rfl (lv_at hl 3 rfl) ?_
      refine lv_iconst (v := 1) hx hb dX9_score_38 (by decide) ?_
      refine ca_V (q0 := 0) (n := 2) (rest := [.int (ct (nb_ i1_) 41)]) (wr := [(bs_, .inl (cy 0, 29, .inl sf_))]) F hK hE hA hP hD hS hl.1 (kX9_rangeWithout (l := l) (D := D) (cy := cy) (sa := sa) b0_ 0 tr_ bn_ bt_ bs_ bk_ bp_ bi_ bl_ it_ ub_ db_ bx_ tp_ nx_ tk_ pl_ vl_ fa_ bc_ bf_ nb_ (nb_ i1_) i1_ 1 (by first | assumption | omega | decide) (by first | assumption | omega | decide)) gX9_score_X9_rangeWithout rfl rfl rfl rfl rfl rfl (by decide +kernel) ⟨by decide, by decide⟩ [0, 1, 2] [3] rfl rfl rfl rfl (by decide) rfl rfl (Nat.le_of_ble_eq_true rfl) dX9_score_39 ⟨by decide, by decide⟩ (fun v9 u9 H locs hv hP hD hS => ?_)
      subst hv
      obtain ⟨hP, hD⟩ := re_ws (ws' := [(b0_, .inr (9, [.int 0, .long tr_, .ref bn_, .ref bt_, .ref bs_, .ref bk_, .ref bp_, .ref bi_, .ref bl_, .int it_, .int ub_, .int db_, .ref bx_, .int tp_, .int nx_, .int tk_, .int pl_, .int vl_, .int fa_, .ref bc_, .ref bf_])), (bn_, .inl (cy 0, 24, .inl (nbF nb_))), (bt_, .inl (cy 0, 6, .inl (upd (nb_ i1_) 1 0))), (bs_, .inl (cy 0, 29, .inl sf_))]) hP hD [1, 2, 3, 0] rfl rfl
      refine W.eq (g2 := F0 m 42 ls [.long (rg (upd (nb_ i1_) 1 0) 41), .int (ct (nb_ i1_) 41)]) rfl ?_
      refine ca_S (n := 1) (rest := [.int (ct (nb_ i1_) 41)]) (wr := [(b0_, .inr (9, [.int 0, .long tr_, .ref bn_, .ref bt_, .ref bs_, .ref bk_, .ref bp_, .ref bi_, .ref bl_, .int it_, .int ub_, .int db_, .ref bx_, .int tp_, .int nx_, .int tk_, .int pl_, .int vl_, .int fa_, .ref bc_, .ref bf_])), (bn_, .inl (cy 0, 24, .inl (nbF nb_))), (bt_, .inl (cy 0, 6, .inl (upd (nb_ i1_) 1 0))), (bs_, .inl (cy 0, 29, .inl sf_))]) F hK hE hA hP hD hS hl.1 (kX9_many (l := l) (D := D) (cy := cy) (sa := sa) (rg (upd (nb_ i1_) 1 0) 41)) gX9_score_X9_many rfl rfl rfl (by decide +kernel) ⟨by decide, by decide⟩ [] [0, 1, 2, 3] rfl rfl rfl rfl (by decide) rfl rfl (Nat.le_of_ble_eq_true rfl) dX9_score_42 ⟨by decide, by decide⟩ (fun v9 u9 H locs hv hP hD hS => ?_)
      subst hv
      have hP : va_P D vwCl [(b0_, .inr (9, [.int 0, .long tr_, .ref bn_, .ref bt_, .ref bs_, .ref bk_, .ref bp_, .ref bi_, .ref bl_, .int it_, .int ub_, .int db_, .ref bx_, .int tp_, .int nx_, .int tk_, .int pl_, .int vl_, .int fa_, .ref bc_, .ref bf_])), (bn_, .inl (cy 0, 24, .inl (nbF nb_))), (bt_, .inl (cy 0, 6, .inl (upd (nb_ i1_) 1 0))), (bs_, .inl (cy 0, 29, .inl sf_))] H := hP
      have hD : va_D A [(b0_, .inr (9, [.int 0, .long tr_, .ref bn_, .ref bt_, .ref bs_, .ref bk_, .ref bp_, .ref bi_, .ref bl_, .int it_, .int ub_, .int db_, .ref bx_, .int tp_, .int nx_, .int tk_, .int pl_, .int vl_, .int fa_, .ref bc_, .ref bf_])), (bn_, .inl (cy 0, 24, .inl (nbF nb_))), (bt_, .inl (cy 0, 6, .inl (upd (nb_ i1_) 1 0))), (bs_, .inl (cy 0, 29, .inl sf_))] := hD
      refine W.eq (g2 := F0 m 45 ls [.int (mny (rg (upd (nb_ i1_) 1 0) 41) 41), .int (ct (nb_ i1_) 41)]) rfl ?_
      refine lv_isub hx hb dX9_score_45 ?_
      refine lv_eqi (y := unt (nb_ i1_)) (rfl) ?_
      refine lv_istore (lv' := [(4, .int (unt (nb_ i1_))), (3, .int (ct (nb_ i1_) 41)), (0, .ref b0_), (1, .int kd_), (2, .int (nI i1_))]) hx hb dX9_score_46 hl (by decide) rfl (fun ls hl => ?_)
      refine lv_iload_n hx hb dX9_score_48 rfl (lv_at hl 1 rfl) ?_
      refine lv_aload_n hx hb dX9_score_49 rfl (lv_at hl 2 rfl) ?_
      refine lv_iload_n hx hb dX9_score_50 rfl (lv_at hl 4 rfl) ?_
      refine lv_iconst (v := 0) hx hb dX9_score_51 (by decide) ?_
      refine ca_V (q0 := 0) (n := 2) (rest := [.int (ct (nb_ i1_) 41)]) (wr := [(bs_, .inl (cy 0, 29, .inl sf_))]) F hK hE hA hP hD hS hl.1 (kX9_rangeWithout (l := l) (D := D) (cy := cy) (sa := sa) b0_ 0 tr_ bn_ bt_ bs_ bk_ bp_ bi_ bl_ it_ ub_ db_ bx_ tp_ nx_ tk_ pl_ vl_ fa_ bc_ bf_ nb_ (upd (nb_ i1_) 1 0) i1_ 0 (by first | assumption | omega | decide) (by first | assumption | omega | decide)) gX9_score_X9_rangeWithout rfl rfl rfl rfl rfl rfl (by decide +kernel) ⟨by decide, by decide⟩ [0, 1, 2] [3] rfl rfl rfl rfl (by decide) rfl rfl (Nat.le_of_ble_eq_true rfl) dX9_score_52 ⟨by decide, by decide⟩ (fun v9 u9 H locs hv hP hD hS => ?_)
      subst hv
      obtain ⟨hP, hD⟩ := re_ws (ws' := [(b0_, .inr (9, [.int 0, .long tr_, .ref bn_, .ref bt_, .ref bs_, .ref bk_, .ref bp_, .ref bi_, .ref bl_, .int it_, .int ub_, .int db_, .ref bx_, .int tp_, .int nx_, .int tk_, .int pl_, .int vl_, .int fa_, .ref bc_, .ref bf_])), (bn_, .inl (cy 0, 24, .inl (nbF nb_))), (bt_, .inl (cy 0, 6, .inl (upd (nb_ i1_) 0 0))), (bs_, .inl (cy 0, 29, .inl sf_))]) hP hD [1, 2, 3, 0] rfl rfl
      refine W.eq (g2 := F0 m 55 ls [.long (rg (upd (nb_ i1_) 0 0) 41), .int (ct (nb_ i1_) 41)]) rfl ?_
      refine ca_S (n := 1) (rest := [.int (ct (nb_ i1_) 41)]) (wr := [(b0_, .inr (9, [.int 0, .long tr_, .ref bn_, .ref bt_, .ref bs_, .ref bk_, .ref bp_, .ref bi_, .ref bl_, .int it_, .int ub_, .int db_, .ref bx_, .int tp_, .int nx_, .int tk_, .int pl_, .int vl_, .int fa_, .ref bc_, .ref bf_])), (bn_, .inl (cy 0, 24, .inl (nbF nb_))), (bt_, .inl (cy 0, 6, .inl (upd (nb_ i1_) 0 0))), (bs_, .inl (cy 0, 29, .inl sf_))]) F hK hE hA hP hD hS hl.1 (kX9_many (l := l) (D := D) (cy := cy) (sa := sa) (rg (upd (nb_ i1_) 0 0) 41)) gX9_score_X9_many rfl rfl rfl (by decide +kernel) ⟨by decide, by decide⟩ [] [0, 1, 2, 3] rfl rfl rfl rfl (by decide) rfl rfl (Nat.le_of_ble_eq_true rfl) dX9_score_55 ⟨by decide, by decide⟩ (fun v9 u9 H locs hv hP hD hS => ?_)
      subst hv
      have hP : va_P D vwCl [(b0_, .inr (9, [.int 0, .long tr_, .ref bn_, .ref bt_, .ref bs_, .ref bk_, .ref bp_, .ref bi_, .ref bl_, .int it_, .int ub_, .int db_, .ref bx_, .int tp_, .int nx_, .int tk_, .int pl_, .int vl_, .int fa_, .ref bc_, .ref bf_])), (bn_, .inl (cy 0, 24, .inl (nbF nb_))), (bt_, .inl (cy 0, 6, .inl (upd (nb_ i1_) 0 0))), (bs_, .inl (cy 0, 29, .inl sf_))] H := hP
      have hD : va_D A [(b0_, .inr (9, [.int 0, .long tr_, .ref bn_, .ref bt_, .ref bs_, .ref bk_, .ref bp_, .ref bi_, .ref bl_, .int it_, .int ub_, .int db_, .ref bx_, .int tp_, .int nx_, .int tk_, .int pl_, .int vl_, .int fa_, .ref bc_, .ref bf_])), (bn_, .inl (cy 0, 24, .inl (nbF nb_))), (bt_, .inl (cy 0, 6, .inl (upd (nb_ i1_) 0 0))), (bs_, .inl (cy 0, 29, .inl sf_))] := hD
      refine W.eq (g2 := F0 m 58 ls [.int (mny (rg (upd (nb_ i1_) 0 0) 41) 41), .int (ct (nb_ i1_) 41)]) rfl ?_
      refine lv_isub hx hb dX9_score_58 ?_
      refine lv_eqi (y := uns (nb_ i1_)) (rfl) ?_
      refine lv_istore (lv' := [(5, .int (uns (nb_ i1_))), (4, .int (unt (nb_ i1_))), (3, .int (ct (nb_ i1_) 41)), (0, .ref b0_), (1, .int kd_), (2, .int (nI i1_))]) hx hb dX9_score_59 hl (by decide) rfl (fun ls hl => ?_)
      refine lv_aload_n hx hb dX9_score_61 rfl (lv_at hl 3 rfl) ?_
      refine lv_dup hx hb dX9_score_62 rfl ?_
      refine va_get (D := D) (ci := 9) (v := .long tr_) (C := RX9) (T := TX9) (N := 21) hx hb hts winX9 hown hK hP 0 rfl rfl 1 (by decide) wf183 (fun _ h9 => h9) rfl dX9_score_63 ?_
      refine lv_iload_n hx hb dX9_score_66 rfl (lv_at hl 4 rfl) ?_
      have J_67_86 : ∀ (z67 : Int64), z67 = (if kd_ = 0 then 1 else (if kd_ = 1 then 11 else (if kd_ = 2 then 101 else (if kd_ = 3 then 1001 else (if kd_ = 4 then 11001 else (if kd_ = 5 then 100001 else 1000001)))))) → ∀ (H : Heap) (locs : List Loc), va_P D vwCl [(b0_, .inr (9, [.int 0, .long tr_, .ref bn_, .ref bt_, .ref bs_, .ref bk_, .ref bp_, .ref bi_, .ref bl_, .int it_, .int ub_, .int db_, .ref bx_, .int tp_, .int nx_, .int tk_, .int pl_, .int vl_, .int fa_, .ref bc_, .ref bf_])), (bn_, .inl (cy 0, 24, .inl (nbF nb_))), (bt_, .inl (cy 0, 6, .inl (upd (nb_ i1_) 0 0))), (bs_, .inl (cy 0, 29, .inl sf_))] H → va_D A [(b0_, .inr (9, [.int 0, .long tr_, .ref bn_, .ref bt_, .ref bs_, .ref bk_, .ref bp_, .ref bi_, .ref bl_, .int it_, .int ub_, .int db_, .ref bx_, .int tp_, .int nx_, .int tk_, .int pl_, .int vl_, .int fa_, .ref bc_, .ref bf_])), (bn_, .inl (cy 0, 24, .inl (nbF nb_))), (bt_, .inl (cy 0, 6, .inl (upd (nb_ i1_) 0 0))), (bs_, .inl (cy 0, 29, .inl sf_))] → va_S A s.heap H locs → ∀ (ls : Array Slot), lv_has ls 6 [(5, .int (uns (nb_ i1_))), (4, .int (unt (nb_ i1_))), (3, .int (ct (nb_ i1_) 41)), (0, .ref b0_), (1, .int kd_), (2, .int (nI i1_))] → W p l e rmkX9_score s m args below meth c H locs 0 0 Q (F0 m 132 ls [.long z67, .long tr_, .ref b0_]) := by
        intro z67 ez67 H locs hP hD hS ls hl
        refine lv_ladd hx hb dX9_score_132 ?_
        refine va_put (D := D) (ci := 9) (v := .long (tr_ + z67)) (ty := .long) (C := RX9) (T := TX9) (N := 21) hx hb hts winX9 tyX9 tyX9_ok nmX9 hown hK hP hD hS 0 rfl rfl 1 (by decide) wf183 (fun _ h9 => h9) rfl (by decide +kernel) rfl rfl (Nat.le_of_ble_eq_true rfl) dX9_score_133 (fun H locs hP hD hS => ?_)
        have hP : va_P D vwCl [(b0_, .inr (9, [.int 0, .long (tr_ + z67), .ref bn_, .ref bt_, .ref bs_, .ref bk_, .ref bp_, .ref bi_, .ref bl_, .int it_, .int ub_, .int db_, .ref bx_, .int tp_, .int nx_, .int tk_, .int pl_, .int vl_, .int fa_, .ref bc_, .ref bf_])), (bn_, .inl (cy 0, 24, .inl (nbF nb_))), (bt_, .inl (cy 0, 6, .inl (upd (nb_ i1_) 0 0))), (bs_, .inl (cy 0, 29, .inl sf_))] H := hP
        have hD : va_D A [(b0_, .inr (9, [.int 0, .long (tr_ + z67), .ref bn_, .ref bt_, .ref bs_, .ref bk_, .ref bp_, .ref bi_, .ref bl_, .int it_, .int ub_, .int db_, .ref bx_, .int tp_, .int nx_, .int tk_, .int pl_, .int vl_, .int fa_, .ref bc_, .ref bf_])), (bn_, .inl (cy 0, 24, .inl (nbF nb_))), (bt_, .inl (cy 0, 6, .inl (upd (nb_ i1_) 0 0))), (bs_, .inl (cy 0, 29, .inl sf_))] := hD
        refine lv_iload_n hx hb dX9_score_136 rfl (lv_at hl 4 rfl) ?_
        have J_137_93 : ∀ (z137 : Int32), z137 = (if kd_ = 0 then (ct (nb_ i1_) 41) else (if kd_ = 1 then ((ct (nb_ i1_) 41) + (nb_ i1_ 1)) else (if kd_ = 2 then (uns (nb_ i1_)) else (if kd_ = 3 then (unt (nb_ i1_)) else (if kd_ = 4 then ((2 * (unt (nb_ i1_))) + (nb_ i1_ 0)) else (if kd_ = 5 then ((ct (nb_ i1_) 41) - ((sf_ 26) / 10)) else ((ct (nb_ i1_) 41) * (nb_ i1_ 3)))))))) → ∀ (H : Heap) (locs : List Loc), va_P D vwCl [(b0_, .inr (9, [.int 0, .long (tr_ + z67), .ref bn_, .ref bt_, .ref bs_, .ref bk_, .ref bp_, .ref bi_, .ref bl_, .int it_, .int ub_, .int db_, .ref bx_, .int tp_, .int nx_, .int tk_, .int pl_, .int vl_, .int fa_, .ref bc_, .ref bf_])), (bn_, .inl (cy 0, 24, .inl (nbF nb_))), (bt_, .inl (cy 0, 6, .inl (upd (nb_ i1_) 0 0))), (bs_, .inl (cy 0, 29, .inl sf_))] H → va_D A [(b0_, .inr (9, [.int 0, .long (tr_ + z67), .ref bn_, .ref bt_, .ref bs_, .ref bk_, .ref bp_, .ref bi_, .ref bl_, .int it_, .int ub_, .int db_, .ref bx_, .int tp_, .int nx_, .int tk_, .int pl_, .int vl_, .int fa_, .ref bc_, .ref bf_])), (bn_, .inl (cy 0, 24, .inl (nbF nb_))), (bt_, .inl (cy 0, 6, .inl (upd (nb_ i1_) 0 0))), (bs_, .inl (cy 0, 29, .inl sf_))] → va_S A s.heap H locs → ∀ (ls : Array Slot), lv_has ls 6 [(5, .int (uns (nb_ i1_))), (4, .int (unt (nb_ i1_))), (3, .int (ct (nb_ i1_) 41)), (0, .ref b0_), (1, .int kd_), (2, .int (nI i1_))] → W p l e rmkX9_score s m args below meth c H locs 0 0 Q (F0 m 242 ls [.int z137]) := by
          intro z137 ez137 H locs hP hD hS ls hl
          have hok : okSc kd_ (nI i1_) := ⟨c_12, c_19⟩
          have hc9 : Value.long (tr_ + z67) = Value.long (n_trace tr_ kd_ (nI i1_)) := congrArg _ (show tr_ + z67 = n_trace tr_ kd_ (nI i1_) from by rw [ez67, n_trace, if_pos hok]; rfl)
          rw [hc9] at hP hD
          refine lv_eqi (y := r_score nb_ (sf_ 26) kd_ (nI i1_)) (by rw [ez137, r_score, if_pos hok, cl_n (by omega)]; rfl) ?_
          exact RT _ _ (upd (nb_ i1_) 0 0) H locs 242 ls (rt_i dX9_score_242) rfl hP hD hS
        refine lv_if_ne (tgt := 144) hx hb dX9_score_137 (by decide) (fun c_137 => ?_) (fun c_137 => ?_)
        · refine lv_iload_n hx hb dX9_score_144 rfl (lv_at hl 4 rfl) ?_
          refine lv_iconst (v := 1) hx hb dX9_score_145 (by decide) ?_
          refine lv_icmp_ne (tgt := 165) hx hb dX9_score_146 (by decide) (fun c_146 => ?_) (fun c_146 => ?_)
          · refine lv_iload_n hx hb dX9_score_165 rfl (lv_at hl 4 rfl) ?_
            refine lv_iconst (v := 2) hx hb dX9_score_166 (by decide) ?_
            refine lv_icmp_ne (tgt := 175) hx hb dX9_score_167 (by decide) (fun c_167 => ?_) (fun c_167 => ?_)
            · refine lv_iload_n hx hb dX9_score_175 rfl (lv_at hl 4 rfl) ?_
              refine lv_iconst (v := 3) hx hb dX9_score_176 (by decide) ?_
              refine lv_icmp_ne (tgt := 185) hx hb dX9_score_177 (by decide) (fun c_177 => ?_) (fun c_177 => ?_)
              · refine lv_iload_n hx hb dX9_score_185 rfl (lv_at hl 4 rfl) ?_
                refine lv_iconst (v := 4) hx hb dX9_score_186 (by decide) ?_
                refine lv_icmp_ne (tgt := 209) hx hb dX9_score_187 (by decide) (fun c_187 => ?_) (fun c_187 => ?_)
                · refine lv_iload_n hx hb dX9_score_209 rfl (lv_at hl 4 rfl) ?_
                  refine lv_iconst (v := 5) hx hb dX9_score_210 (by decide) ?_
                  refine lv_icmp_ne (tgt := 229) hx hb dX9_score_211 (by decide) (fun c_211 => ?_) (fun c_211 => ?_)
                  · refine lv_iload_n hx hb dX9_score_229 rfl (lv_at hl 2 rfl) ?_
                    refine lv_aload_n hx hb dX9_score_230 rfl (lv_at hl 3 rfl) ?_
                    refine va_get (D := D) (ci := 9) (v := .ref bn_) (C := RX9) (T := TX9) (N := 21) hx hb hts winX9 hown hK hP 0 rfl rfl 2 (by decide) wf7 (fun _ h9 => h9) rfl dX9_score_231 ?_
                    refine lv_bipush (v := 6) hx hb dX9_score_234 (by decide) ?_
                    refine lv_iload_n hx hb dX9_score_236 rfl (lv_at hl 5 rfl) ?_
                    refine lv_imul hx hb dX9_score_237 ?_
                    refine lv_eqi (y := nI (6 * i1_)) (pk_mul 6 i1_) ?_
                    refine lv_iconst (v := 3) hx hb dX9_score_238 (by decide) ?_
                    refine lv_iadd hx hb dX9_score_239 ?_
                    refine lv_eqi (y := nI ((6 * i1_) + 3)) (nI_add (6 * i1_) 3) ?_
                    refine al_i hx hb hK hP 1 rfl ((6 * i1_) + 3) (rfl) (by omega) (by decide) dX9_score_240 ?_
                    refine lv_eqi (y := nb_ i1_ 3) (nbF_at nb_ i1_ (by decide)) ?_
                    refine lv_imul hx hb dX9_score_241 ?_
                    exact J_137_93 _ (((if_neg c_137).trans ((if_neg c_146).trans ((if_neg c_167).trans ((if_neg c_177).trans ((if_neg c_187).trans (if_neg c_211)))))).symm) H locs hP hD hS ls (lv_sub hl [0, 1, 2, 3, 4, 5] rfl)
                  · refine lv_iload_n hx hb dX9_score_214 rfl (lv_at hl 2 rfl) ?_
                    refine lv_aload_n hx hb dX9_score_215 rfl (lv_at hl 3 rfl) ?_
                    refine va_get (D := D) (ci := 9) (v := .ref bs_) (C := RX9) (T := TX9) (N := 21) hx hb hts winX9 hown hK hP 0 rfl rfl 4 (by decide) wf16 (fun _ h9 => h9) rfl dX9_score_216 ?_
                    refine lv_bipush (v := 26) hx hb dX9_score_219 (by decide) ?_
                    refine al_i hx hb hK hP 3 rfl 26 (rfl) (by decide) (by decide) dX9_score_221 ?_
                    refine lv_bipush (v := 10) hx hb dX9_score_222 (by decide) ?_
                    refine lv_idiv hx hb dX9_score_224 (by decide) ?_
                    refine lv_isub hx hb dX9_score_225 ?_
                    refine lv_goto (tgt := 242) hx hb dX9_score_226 (by decide) ?_
                    exact J_137_93 _ (((if_neg c_137).trans ((if_neg c_146).trans ((if_neg c_167).trans ((if_neg c_177).trans ((if_neg c_187).trans (if_pos c_211)))))).symm) H locs hP hD hS ls (lv_sub hl [0, 1, 2, 3, 4, 5] rfl)
                · refine lv_iconst (v := 2) hx hb dX9_score_190 (by decide) ?_
                  refine lv_iload hx hb dX9_score_191 (lv_at hl 1 rfl) ?_
                  refine lv_imul hx hb dX9_score_193 ?_
                  refine lv_aload_n hx hb dX9_score_194 rfl (lv_at hl 3 rfl) ?_
                  refine va_get (D := D) (ci := 9) (v := .ref bn_) (C := RX9) (T := TX9) (N := 21) hx hb hts winX9 hown hK hP 0 rfl rfl 2 (by decide) wf7 (fun _ h9 => h9) rfl dX9_score_195 ?_
                  refine lv_bipush (v := 6) hx hb dX9_score_198 (by decide) ?_
                  refine lv_iload_n hx hb dX9_score_200 rfl (lv_at hl 5 rfl) ?_
                  refine lv_imul hx hb dX9_score_201 ?_
                  refine lv_eqi (y := nI (6 * i1_)) (pk_mul 6 i1_) ?_
                  refine lv_iconst (v := 0) hx hb dX9_score_202 (by decide) ?_
                  refine lv_iadd hx hb dX9_score_203 ?_
                  refine lv_eqi (y := nI ((6 * i1_) + 0)) (nI_add (6 * i1_) 0) ?_
                  refine al_i hx hb hK hP 1 rfl ((6 * i1_) + 0) (rfl) (by omega) (by decide) dX9_score_204 ?_
                  refine lv_eqi (y := nb_ i1_ 0) (nbF_at nb_ i1_ (by decide)) ?_
                  refine lv_iadd hx hb dX9_score_205 ?_
                  refine lv_goto (tgt := 242) hx hb dX9_score_206 (by decide) ?_
                  exact J_137_93 _ (((if_neg c_137).trans ((if_neg c_146).trans ((if_neg c_167).trans ((if_neg c_177).trans (if_pos c_187))))).symm) H locs hP hD hS ls (lv_sub hl [0, 1, 2, 3, 4, 5] rfl)
              · refine lv_iload hx hb dX9_score_180 (lv_at hl 1 rfl) ?_
                refine lv_goto (tgt := 242) hx hb dX9_score_182 (by decide) ?_
                exact J_137_93 _ (((if_neg c_137).trans ((if_neg c_146).trans ((if_neg c_167).trans (if_pos c_177)))).symm) H locs hP hD hS ls (lv_sub hl [0, 1, 2, 3, 4, 5] rfl)
            · refine lv_iload hx hb dX9_score_170 (lv_at hl 0 rfl) ?_
              refine lv_goto (tgt := 242) hx hb dX9_score_172 (by decide) ?_
              exact J_137_93 _ (((if_neg c_137).trans ((if_neg c_146).trans (if_pos c_167))).symm) H locs hP hD hS ls (lv_sub hl [0, 1, 2, 3, 4, 5] rfl)
          · refine lv_iload_n hx hb dX9_score_149 rfl (lv_at hl 2 rfl) ?_
            refine lv_aload_n hx hb dX9_score_150 rfl (lv_at hl 3 rfl) ?_
            refine va_get (D := D) (ci := 9) (v := .ref bn_) (C := RX9) (T := TX9) (N := 21) hx hb hts winX9 hown hK hP 0 rfl rfl 2 (by decide) wf7 (fun _ h9 => h9) rfl dX9_score_151 ?_
            refine lv_bipush (v := 6) hx hb dX9_score_154 (by decide) ?_
            refine lv_iload_n hx hb dX9_score_156 rfl (lv_at hl 5 rfl) ?_
            refine lv_imul hx hb dX9_score_157 ?_
            refine lv_eqi (y := nI (6 * i1_)) (pk_mul 6 i1_) ?_
            refine lv_iconst (v := 1) hx hb dX9_score_158 (by decide) ?_
            refine lv_iadd hx hb dX9_score_159 ?_
            refine lv_eqi (y := nI ((6 * i1_) + 1)) (nI_add (6 * i1_) 1) ?_
            refine al_i hx hb hK hP 1 rfl ((6 * i1_) + 1) (rfl) (by omega) (by decide) dX9_score_160 ?_
            refine lv_eqi (y := nb_ i1_ 1) (nbF_at nb_ i1_ (by decide)) ?_
            refine lv_iadd hx hb dX9_score_161 ?_
            refine lv_goto (tgt := 242) hx hb dX9_score_162 (by decide) ?_
            exact J_137_93 _ (((if_neg c_137).trans (if_pos c_146)).symm) H locs hP hD hS ls (lv_sub hl [0, 1, 2, 3, 4, 5] rfl)
        · refine lv_iload_n hx hb dX9_score_140 rfl (lv_at hl 2 rfl) ?_
          refine lv_goto (tgt := 242) hx hb dX9_score_141 (by decide) ?_
          exact J_137_93 _ ((if_pos c_137).symm) H locs hP hD hS ls (lv_sub hl [0, 1, 2, 3, 4, 5] rfl)
      refine lv_if_ne (tgt := 74) hx hb dX9_score_67 (by decide) (fun c_67 => ?_) (fun c_67 => ?_)
      · refine lv_iload_n hx hb dX9_score_74 rfl (lv_at hl 4 rfl) ?_
        refine lv_iconst (v := 1) hx hb dX9_score_75 (by decide) ?_
        refine lv_icmp_ne (tgt := 85) hx hb dX9_score_76 (by decide) (fun c_76 => ?_) (fun c_76 => ?_)
        · refine lv_iload_n hx hb dX9_score_85 rfl (lv_at hl 4 rfl) ?_
          refine lv_iconst (v := 2) hx hb dX9_score_86 (by decide) ?_
          refine lv_icmp_ne (tgt := 96) hx hb dX9_score_87 (by decide) (fun c_87 => ?_) (fun c_87 => ?_)
          · refine lv_iload_n hx hb dX9_score_96 rfl (lv_at hl 4 rfl) ?_
            refine lv_iconst (v := 3) hx hb dX9_score_97 (by decide) ?_
            refine lv_icmp_ne (tgt := 107) hx hb dX9_score_98 (by decide) (fun c_98 => ?_) (fun c_98 => ?_)
            · refine lv_iload_n hx hb dX9_score_107 rfl (lv_at hl 4 rfl) ?_
              refine lv_iconst (v := 4) hx hb dX9_score_108 (by decide) ?_
              refine lv_icmp_ne (tgt := 118) hx hb dX9_score_109 (by decide) (fun c_109 => ?_) (fun c_109 => ?_)
              · refine lv_iload_n hx hb dX9_score_118 rfl (lv_at hl 4 rfl) ?_
                refine lv_iconst (v := 5) hx hb dX9_score_119 (by decide) ?_
                refine lv_icmp_ne (tgt := 129) hx hb dX9_score_120 (by decide) (fun c_120 => ?_) (fun c_120 => ?_)
                · refine lv_ldc2 (v := 1000001) hx hb hown wl197 dX9_score_129 ?_
                  exact J_67_86 _ (((if_neg c_67).trans ((if_neg c_76).trans ((if_neg c_87).trans ((if_neg c_98).trans ((if_neg c_109).trans (if_neg c_120)))))).symm) H locs hP hD hS ls (lv_sub hl [0, 1, 2, 3, 4, 5] rfl)
                · refine lv_ldc2 (v := 100001) hx hb hown wl195 dX9_score_123 ?_
                  refine lv_goto (tgt := 132) hx hb dX9_score_126 (by decide) ?_
                  exact J_67_86 _ (((if_neg c_67).trans ((if_neg c_76).trans ((if_neg c_87).trans ((if_neg c_98).trans ((if_neg c_109).trans (if_pos c_120)))))).symm) H locs hP hD hS ls (lv_sub hl [0, 1, 2, 3, 4, 5] rfl)
              · refine lv_ldc2 (v := 11001) hx hb hown wl193 dX9_score_112 ?_
                refine lv_goto (tgt := 132) hx hb dX9_score_115 (by decide) ?_
                exact J_67_86 _ (((if_neg c_67).trans ((if_neg c_76).trans ((if_neg c_87).trans ((if_neg c_98).trans (if_pos c_109))))).symm) H locs hP hD hS ls (lv_sub hl [0, 1, 2, 3, 4, 5] rfl)
            · refine lv_ldc2 (v := 1001) hx hb hown wl191 dX9_score_101 ?_
              refine lv_goto (tgt := 132) hx hb dX9_score_104 (by decide) ?_
              exact J_67_86 _ (((if_neg c_67).trans ((if_neg c_76).trans ((if_neg c_87).trans (if_pos c_98)))).symm) H locs hP hD hS ls (lv_sub hl [0, 1, 2, 3, 4, 5] rfl)
          · refine lv_ldc2 (v := 101) hx hb hown wl189 dX9_score_90 ?_
            refine lv_goto (tgt := 132) hx hb dX9_score_93 (by decide) ?_
            exact J_67_86 _ (((if_neg c_67).trans ((if_neg c_76).trans (if_pos c_87))).symm) H locs hP hD hS ls (lv_sub hl [0, 1, 2, 3, 4, 5] rfl)
        · refine lv_ldc2 (v := 11) hx hb hown wl187 dX9_score_79 ?_
          refine lv_goto (tgt := 132) hx hb dX9_score_82 (by decide) ?_
          exact J_67_86 _ (((if_neg c_67).trans (if_pos c_76)).symm) H locs hP hD hS ls (lv_sub hl [0, 1, 2, 3, 4, 5] rfl)
      · refine lv_lconst (v := 1) hx hb dX9_score_70 (by decide) ?_
        refine lv_goto (tgt := 132) hx hb dX9_score_71 (by decide) ?_
        exact J_67_86 _ ((if_pos c_67).symm) H locs hP hD hS ls (lv_sub hl [0, 1, 2, 3, 4, 5] rfl)
    · refine lv_ldc (v := (-1000000)) hx hb hown wc70 dX9_score_22 ?_
      have hno : ¬ okSc kd_ i_ := by first | exact fun z => c_12 z.1 | exact fun z => c_19 z.2
      have hc9 : Value.long tr_ = Value.long (n_trace tr_ kd_ i_) := congrArg _ (show tr_ = n_trace tr_ kd_ i_ from (if_neg hno).symm)
      rw [hc9] at hP hD
      refine lv_eqi (y := r_score nb_ (sf_ 26) kd_ i_) ((if_neg hno).symm) ?_
      exact RT _ _ (ft_) H locs 24 ls (rt_i dX9_score_24) rfl hP hD hS
abbrev rmkX9_keep : Room := { frames := 1, cells := 0, slots := 0, locals := 22 }
set_option maxHeartbeats 4000000 in
set_option maxRecDepth 100000 in
theorem kX9_keep {l : Launch} {D : va_G} {cy : Nat → ClassId} {sa : Nat → Nat} (b0_ : Nat) (th_ : Int32) (tr_ : Int64) (bn_ : Nat) (bt_ : Nat) (bs_ : Nat) (bk_ : Nat) (bp_ : Nat) (bi_ : Nat) (bl_ : Nat) (it_ : Int32) (ub_ : Int32) (db_ : Int32) (bx_ : Nat) (tp_ : Int32) (nx_ : Int32) (tk_ : Int32) (pl_ : Int32) (vl_ : Int32) (fa_ : Int32) (bc_ : Nat) (bf_ : Nat) (sf_ : Nat → Int32) (kp_ : Nat → Nat → Int32) (ik_ : Nat → Int32) (w_ : Int32)  : CD l D cy sa yX9_keep wsX9_keep rmkX9_keep [.ref b0_, .int w_] [(b0_, .inr (9, [.int th_, .long tr_, .ref bn_, .ref bt_, .ref bs_, .ref bk_, .ref bp_, .ref bi_, .ref bl_, .int it_, .int ub_, .int db_, .ref bx_, .int tp_, .int nx_, .int tk_, .int pl_, .int vl_, .int fa_, .ref bc_, .ref bf_])), (bs_, .inl (cy 0, 29, .inl sf_)), (bk_, .inl (cy 0, 58, .inl (kpF kp_))), (bi_, .inl (cy 1, 2, .inl ik_))] (some (.int (r_keep sf_ w_))) [(b0_, .inr (9, [.int 0, .long tr_, .ref bn_, .ref bt_, .ref bs_, .ref bk_, .ref bp_, .ref bi_, .ref bl_, .int it_, .int ub_, .int db_, .ref bx_, .int tp_, .int nx_, .int tk_, .int pl_, .int vl_, .int fa_, .ref bc_, .ref bf_])), (bs_, .inl (cy 0, 29, .inl sf_)), (bk_, .inl (cy 0, 58, .inl (kpF (n_kp kp_ sf_ w_)))), (bi_, .inl (cy 1, 2, .inl (n_ik ik_ w_)))] := by
  refine CT.of cX9_keep 3 (some .int) (by decide) rfl (Nat.le_of_ble_eq_true rfl) ?_
  intro p e s m args below meth c A Q ls F hmn hK hE hA hP hD hS hl RT
  obtain ⟨hx, hb, hml, hown, hts⟩ := id F
  have winX9 : ∀ w_ ∈ u_ws RX9 TX9 21, w_ ∈ wsX9_keep := by decide +kernel
  have wf48 := hts (.fieldLink RX9 48 "SelfSteerModel" "thrown" "I") (by decide +kernel)
  have wf25 := hts (.fieldLink RX9 25 "SelfSteerModel" "isKept" "[Z") (by decide +kernel)
  have wf16 := hts (.fieldLink RX9 16 "SelfSteerModel" "s" "[I") (by decide +kernel)
  have wf19 := hts (.fieldLink RX9 19 "SelfSteerModel" "kept" "[I") (by decide +kernel)
  have hl : lv_has ls 3 [(0, .ref b0_), (1, .int w_)] := hl
  have hP : va_P D vwCl [(b0_, .inr (9, [.int th_, .long tr_, .ref bn_, .ref bt_, .ref bs_, .ref bk_, .ref bp_, .ref bi_, .ref bl_, .int it_, .int ub_, .int db_, .ref bx_, .int tp_, .int nx_, .int tk_, .int pl_, .int vl_, .int fa_, .ref bc_, .ref bf_])), (bs_, .inl (cy 0, 29, .inl sf_)), (bk_, .inl (cy 0, 58, .inl (kpF kp_))), (bi_, .inl (cy 1, 2, .inl ik_))] s.heap := hP
  have hD : va_D A [(b0_, .inr (9, [.int th_, .long tr_, .ref bn_, .ref bt_, .ref bs_, .ref bk_, .ref bp_, .ref bi_, .ref bl_, .int it_, .int ub_, .int db_, .ref bx_, .int tp_, .int nx_, .int tk_, .int pl_, .int vl_, .int fa_, .ref bc_, .ref bf_])), (bs_, .inl (cy 0, 29, .inl sf_)), (bk_, .inl (cy 0, 58, .inl (kpF kp_))), (bi_, .inl (cy 1, 2, .inl ik_))] := hD
  obtain ⟨H, hH⟩ : ∃ H0 : Heap, H0 = s.heap := ⟨_, rfl⟩
  obtain ⟨locs, hlo⟩ : ∃ L0 : List Loc, L0 = [] := ⟨_, rfl⟩
  have hS : va_S A s.heap H locs := by rw [hH, hlo]; exact hS
  rw [← hH] at hP
  show W p l e rmkX9_keep s m args below meth c s.heap [] 0 0 Q (F0 m 0 ls [])
  suffices hgo : W p l e rmkX9_keep s m args below meth c H locs 0 0 Q (F0 m 0 ls []) by rw [hH, hlo] at hgo; exact hgo
  clear hH hlo
  refine lv_aload_n hx hb dX9_keep_0 rfl (lv_at hl 0 rfl) ?_
  refine lv_iconst (v := 0) hx hb dX9_keep_1 (by decide) ?_
  refine va_put (D := D) (ci := 9) (v := .int 0) (ty := .int) (C := RX9) (T := TX9) (N := 21) hx hb hts winX9 tyX9 tyX9_ok nmX9 hown hK hP hD hS 0 rfl rfl 0 (by decide) wf48 (fun _ h9 => h9) rfl (by decide +kernel) rfl rfl (Nat.le_of_ble_eq_true rfl) dX9_keep_2 (fun H locs hP hD hS => ?_)
  have hP : va_P D vwCl [(b0_, .inr (9, [.int 0, .long tr_, .ref bn_, .ref bt_, .ref bs_, .ref bk_, .ref bp_, .ref bi_, .ref bl_, .int it_, .int ub_, .int db_, .ref bx_, .int tp_, .int nx_, .int tk_, .int pl_, .int vl_, .int fa_, .ref bc_, .ref bf_])), (bs_, .inl (cy 0, 29, .inl sf_)), (bk_, .inl (cy 0, 58, .inl (kpF kp_))), (bi_, .inl (cy 1, 2, .inl ik_))] H := hP
  have hD : va_D A [(b0_, .inr (9, [.int 0, .long tr_, .ref bn_, .ref bt_, .ref bs_, .ref bk_, .ref bp_, .ref bi_, .ref bl_, .int it_, .int ub_, .int db_, .ref bx_, .int tp_, .int nx_, .int tk_, .int pl_, .int vl_, .int fa_, .ref bc_, .ref bf_])), (bs_, .inl (cy 0, 29, .inl sf_)), (bk_, .inl (cy 0, 58, .inl (kpF kp_))), (bi_, .inl (cy 1, 2, .inl ik_))] := hD
  refine lv_iload_n hx hb dX9_keep_5 rfl (lv_at hl 1 rfl) ?_
  refine lv_iconst (v := 0) hx hb dX9_keep_6 (by decide) ?_
  refine lv_iconst (v := 1) hx hb dX9_keep_7 (by decide) ?_
  refine ca_S (n := 3) (rest := []) (wr := [(b0_, .inr (9, [.int 0, .long tr_, .ref bn_, .ref bt_, .ref bs_, .ref bk_, .ref bp_, .ref bi_, .ref bl_, .int it_, .int ub_, .int db_, .ref bx_, .int tp_, .int nx_, .int tk_, .int pl_, .int vl_, .int fa_, .ref bc_, .ref bf_])), (bs_, .inl (cy 0, 29, .inl sf_)), (bk_, .inl (cy 0, 58, .inl (kpF kp_))), (bi_, .inl (cy 1, 2, .inl ik_))]) F hK hE hA hP hD hS hl.1 (kX9_in (l := l) (D := D) (cy := cy) (sa := sa) w_ 0 1) gX9_keep_X9_in rfl rfl rfl (by decide +kernel) ⟨by decide, by decide⟩ [] [0, 1, 2, 3] rfl rfl rfl rfl (by decide) rfl rfl (Nat.le_of_ble_eq_true rfl) dX9_keep_8 ⟨by decide, by decide⟩ (fun v9 u9 H locs hv hP hD hS => ?_)
  subst hv
  have hP : va_P D vwCl [(b0_, .inr (9, [.int 0, .long tr_, .ref bn_, .ref bt_, .ref bs_, .ref bk_, .ref bp_, .ref bi_, .ref bl_, .int it_, .int ub_, .int db_, .ref bx_, .int tp_, .int nx_, .int tk_, .int pl_, .int vl_, .int fa_, .ref bc_, .ref bf_])), (bs_, .inl (cy 0, 29, .inl sf_)), (bk_, .inl (cy 0, 58, .inl (kpF kp_))), (bi_, .inl (cy 1, 2, .inl ik_))] H := hP
  have hD : va_D A [(b0_, .inr (9, [.int 0, .long tr_, .ref bn_, .ref bt_, .ref bs_, .ref bk_, .ref bp_, .ref bi_, .ref bl_, .int it_, .int ub_, .int db_, .ref bx_, .int tp_, .int nx_, .int tk_, .int pl_, .int vl_, .int fa_, .ref bc_, .ref bf_])), (bs_, .inl (cy 0, 29, .inl sf_)), (bk_, .inl (cy 0, 58, .inl (kpF kp_))), (bi_, .inl (cy 1, 2, .inl ik_))] := hD
  refine W.eq (g2 := F0 m 11 ls [.int (bI (inR w_ 0 1))]) rfl ?_
  refine bz_ne (tgt := 16) hx hb dX9_keep_11 (by decide) (fun c_11 => ?_) (fun c_11 => ?_)
  · obtain ⟨w1_, hw1, rfl⟩ := inR_n 1 (by decide) rfl c_11
    refine lv_iconst (v := 0) hx hb dX9_keep_16 (by decide) ?_
    refine lv_istore_n (lv' := [(2, .int 0), (0, .ref b0_), (1, .int (nI w1_))]) hx hb dX9_keep_17 rfl hl (by decide) rfl (fun ls hl => ?_)
    have L_18 : ∀ (n : Nat) (j_ : Nat), (j_ ≤ 29) → 29 - j_ < n → ∀ (H : Heap) (locs : List Loc), va_P D vwCl [(b0_, .inr (9, [.int 0, .long tr_, .ref bn_, .ref bt_, .ref bs_, .ref bk_, .ref bp_, .ref bi_, .ref bl_, .int it_, .int ub_, .int db_, .ref bx_, .int tp_, .int nx_, .int tk_, .int pl_, .int vl_, .int fa_, .ref bc_, .ref bf_])), (bs_, .inl (cy 0, 29, .inl sf_)), (bk_, .inl (cy 0, 58, .inl (kpF (rfl2 kp_ w1_ sf_ j_)))), (bi_, .inl (cy 1, 2, .inl ik_))] H → va_D A [(b0_, .inr (9, [.int 0, .long tr_, .ref bn_, .ref bt_, .ref bs_, .ref bk_, .ref bp_, .ref bi_, .ref bl_, .int it_, .int ub_, .int db_, .ref bx_, .int tp_, .int nx_, .int tk_, .int pl_, .int vl_, .int fa_, .ref bc_, .ref bf_])), (bs_, .inl (cy 0, 29, .inl sf_)), (bk_, .inl (cy 0, 58, .inl (kpF (rfl2 kp_ w1_ sf_ j_)))), (bi_, .inl (cy 1, 2, .inl ik_))] → va_S A s.heap H locs → ∀ (ls : Array Slot), lv_has ls 3 [(2, .int (nI j_)), (0, .ref b0_), (1, .int (nI w1_))] → W p l e rmkX9_keep s m args below meth c H locs 0 0 Q (F0 m 18 ls []) := by
      intro n
      induction n with
      | zero => intro j_ hj hn; exact absurd hn (Nat.not_lt_zero _)
      | succ n ih_18 =>
        intro j_ hj hn_18 H locs hP hD hS ls hl
        refine lv_iload_n hx hb dX9_keep_18 rfl (lv_at hl 0 rfl) ?_
        refine lv_bipush (v := 29) hx hb dX9_keep_19 (by decide) ?_
        refine cn_ge (tgt := 47) hx hb j_ 29 rfl rfl (by omega) (by omega) dX9_keep_21 (by decide) (fun c_21 => ?_) (fun c_21 => ?_)
        · obtain rfl : 29 = j_ := by omega
          refine lv_aload_n hx hb dX9_keep_47 rfl (lv_at hl 1 rfl) ?_
          refine va_get (D := D) (ci := 9) (v := .ref bi_) (C := RX9) (T := TX9) (N := 21) hx hb hts winX9 hown hK hP 0 rfl rfl 7 (by decide) wf25 (fun _ h9 => h9) rfl dX9_keep_48 ?_
          refine lv_iload_n hx hb dX9_keep_51 rfl (lv_at hl 2 rfl) ?_
          refine lv_iconst (v := 1) hx hb dX9_keep_52 (by decide) ?_
          refine as_z (x := 1) hx hb hK hP hD hS 3 rfl w1_ (rfl) (by omega) (by decide) (rfl) dX9_keep_53 (fun H locs hP hD hS => ?_)
          have hP : va_P D vwCl [(b0_, .inr (9, [.int 0, .long tr_, .ref bn_, .ref bt_, .ref bs_, .ref bk_, .ref bp_, .ref bi_, .ref bl_, .int it_, .int ub_, .int db_, .ref bx_, .int tp_, .int nx_, .int tk_, .int pl_, .int vl_, .int fa_, .ref bc_, .ref bf_])), (bs_, .inl (cy 0, 29, .inl sf_)), (bk_, .inl (cy 0, 58, .inl (kpF (rfl2 kp_ w1_ sf_ 29)))), (bi_, .inl (cy 1, 2, .inl (upd ik_ w1_ 1)))] H := hP
          have hD : va_D A [(b0_, .inr (9, [.int 0, .long tr_, .ref bn_, .ref bt_, .ref bs_, .ref bk_, .ref bp_, .ref bi_, .ref bl_, .int it_, .int ub_, .int db_, .ref bx_, .int tp_, .int nx_, .int tk_, .int pl_, .int vl_, .int fa_, .ref bc_, .ref bf_])), (bs_, .inl (cy 0, 29, .inl sf_)), (bk_, .inl (cy 0, 58, .inl (kpF (rfl2 kp_ w1_ sf_ 29)))), (bi_, .inl (cy 1, 2, .inl (upd ik_ w1_ 1)))] := hD
          refine lv_aload_n hx hb dX9_keep_54 rfl (lv_at hl 1 rfl) ?_
          refine va_get (D := D) (ci := 9) (v := .ref bs_) (C := RX9) (T := TX9) (N := 21) hx hb hts winX9 hown hK hP 0 rfl rfl 4 (by decide) wf16 (fun _ h9 => h9) rfl dX9_keep_55 ?_
          refine lv_bipush (v := 7) hx hb dX9_keep_58 (by decide) ?_
          refine al_i hx hb hK hP 1 rfl 7 (rfl) (by decide) (by decide) dX9_keep_60 ?_
          obtain ⟨hP, hD⟩ := ro_ws (g := kpF (n_kp kp_ sf_ (nI w1_))) hP hD 2 rfl (fun z hz => by rw [n_kp, if_pos c_11, cl_n (by omega)]; exact rfl2_end _ _ _ _)
          have hP : va_P D vwCl [(b0_, .inr (9, [.int 0, .long tr_, .ref bn_, .ref bt_, .ref bs_, .ref bk_, .ref bp_, .ref bi_, .ref bl_, .int it_, .int ub_, .int db_, .ref bx_, .int tp_, .int nx_, .int tk_, .int pl_, .int vl_, .int fa_, .ref bc_, .ref bf_])), (bs_, .inl (cy 0, 29, .inl sf_)), (bk_, .inl (cy 0, 58, .inl (kpF (n_kp kp_ sf_ (nI w1_))))), (bi_, .inl (cy 1, 2, .inl (upd ik_ w1_ 1)))] H := hP
          have hD : va_D A [(b0_, .inr (9, [.int 0, .long tr_, .ref bn_, .ref bt_, .ref bs_, .ref bk_, .ref bp_, .ref bi_, .ref bl_, .int it_, .int ub_, .int db_, .ref bx_, .int tp_, .int nx_, .int tk_, .int pl_, .int vl_, .int fa_, .ref bc_, .ref bf_])), (bs_, .inl (cy 0, 29, .inl sf_)), (bk_, .inl (cy 0, 58, .inl (kpF (n_kp kp_ sf_ (nI w1_))))), (bi_, .inl (cy 1, 2, .inl (upd ik_ w1_ 1)))] := hD
          have hc9 : upd ik_ w1_ 1 = n_ik ik_ (nI w1_) := by rw [n_ik, if_pos c_11, cl_n (by omega)]
          rw [hc9] at hP hD
          refine lv_eqi (y := r_keep sf_ (nI w1_)) (by rw [r_keep, if_pos c_11]) ?_
          exact RT _ _ () H locs 61 ls (rt_i dX9_keep_61) rfl hP hD hS
        · refine lv_aload_n hx hb dX9_keep_24 rfl (lv_at hl 1 rfl) ?_
          refine va_get (D := D) (ci := 9) (v := .ref bk_) (C := RX9) (T := TX9) (N := 21) hx hb hts winX9 hown hK hP 0 rfl rfl 5 (by decide) wf19 (fun _ h9 => h9) rfl dX9_keep_25 ?_
          refine lv_bipush (v := 29) hx hb dX9_keep_28 (by decide) ?_
          refine lv_iload_n hx hb dX9_keep_30 rfl (lv_at hl 2 rfl) ?_
          refine lv_imul hx hb dX9_keep_31 ?_
          refine lv_eqi (y := nI (29 * w1_)) (pk_mul 29 w1_) ?_
          refine lv_iload_n hx hb dX9_keep_32 rfl (lv_at hl 0 rfl) ?_
          refine lv_iadd hx hb dX9_keep_33 ?_
          refine lv_eqi (y := nI ((29 * w1_) + j_)) (nI_add (29 * w1_) j_) ?_
          refine lv_aload_n hx hb dX9_keep_34 rfl (lv_at hl 1 rfl) ?_
          refine va_get (D := D) (ci := 9) (v := .ref bs_) (C := RX9) (T := TX9) (N := 21) hx hb hts winX9 hown hK hP 0 rfl rfl 4 (by decide) wf16 (fun _ h9 => h9) rfl dX9_keep_35 ?_
          refine lv_iload_n hx hb dX9_keep_38 rfl (lv_at hl 0 rfl) ?_
          refine al_i hx hb hK hP 1 rfl j_ (rfl) (by omega) (by decide) dX9_keep_39 ?_
          refine as_i (x := sf_ j_) hx hb hK hP hD hS 2 rfl ((29 * w1_) + j_) (rfl) (by omega) (by decide) dX9_keep_40 (fun H locs hP hD hS => ?_)
          have hP : va_P D vwCl [(b0_, .inr (9, [.int 0, .long tr_, .ref bn_, .ref bt_, .ref bs_, .ref bk_, .ref bp_, .ref bi_, .ref bl_, .int it_, .int ub_, .int db_, .ref bx_, .int tp_, .int nx_, .int tk_, .int pl_, .int vl_, .int fa_, .ref bc_, .ref bf_])), (bs_, .inl (cy 0, 29, .inl sf_)), (bk_, .inl (cy 0, 58, .inl (upd (kpF (rfl2 kp_ w1_ sf_ j_)) ((29 * w1_) + j_) (sf_ j_)))), (bi_, .inl (cy 1, 2, .inl ik_))] H := hP
          have hD : va_D A [(b0_, .inr (9, [.int 0, .long tr_, .ref bn_, .ref bt_, .ref bs_, .ref bk_, .ref bp_, .ref bi_, .ref bl_, .int it_, .int ub_, .int db_, .ref bx_, .int tp_, .int nx_, .int tk_, .int pl_, .int vl_, .int fa_, .ref bc_, .ref bf_])), (bs_, .inl (cy 0, 29, .inl sf_)), (bk_, .inl (cy 0, 58, .inl (upd (kpF (rfl2 kp_ w1_ sf_ j_)) ((29 * w1_) + j_) (sf_ j_)))), (bi_, .inl (cy 1, 2, .inl ik_))] := hD
          refine lv_iinc (v := nI (j_ + 1)) (lv' := [(2, .int (nI (j_ + 1))), (0, .ref b0_), (1, .int (nI w1_))]) hx hb dX9_keep_41 hl (k := 0) rfl (nI_add j_ 1) (by decide) rfl (fun ls hl => ?_)
          refine lv_goto (tgt := 18) hx hb dX9_keep_44 (by decide) ?_
          have hc9 : upd (kpF (rfl2 kp_ w1_ sf_ j_)) ((29 * w1_) + j_) (sf_ j_) = kpF (rfl2 kp_ w1_ sf_ (j_ + 1)) := rfl2_s _ _ _ (by omega)
          rw [hc9] at hP hD
          exact ih_18 (j_ + 1) (by first | assumption | omega | decide) (by omega) H locs hP hD hS ls (lv_sub hl [0, 1, 2] rfl)
    have hc9 : kpF kp_ = kpF (rfl2 kp_ w1_ sf_ 0) := (rfl2_0 _ _ _).symm
    rw [hc9] at hP hD
    exact L_18 _ 0 (by first | assumption | omega | decide) (Nat.lt_succ_self _) H locs hP hD hS ls (lv_sub hl [0, 1, 2] rfl)
  · refine lv_iconst (v := (-1)) hx hb dX9_keep_14 (by decide) ?_
    have hc9 : kpF kp_ = kpF (n_kp kp_ sf_ w_) := congrArg kpF (if_neg c_11).symm
    rw [hc9] at hP hD
    have hc9 : ik_ = n_ik ik_ w_ := (if_neg c_11).symm
    rw [hc9] at hP hD
    refine lv_eqi (y := r_keep sf_ w_) ((if_neg c_11).symm) ?_
    exact RT _ _ () H locs 15 ls (rt_i dX9_keep_15) rfl hP hD hS
abbrev rmkX9_back : Room := { frames := 1, cells := 0, slots := 0, locals := 22 }
set_option maxHeartbeats 4000000 in
set_option maxRecDepth 100000 in
theorem kX9_back {l : Launch} {D : va_G} {cy : Nat → ClassId} {sa : Nat → Nat} (b0_ : Nat) (th_ : Int32) (tr_ : Int64) (bn_ : Nat) (bt_ : Nat) (bs_ : Nat) (bk_ : Nat) (bp_ : Nat) (bi_ : Nat) (bl_ : Nat) (it_ : Int32) (ub_ : Int32) (db_ : Int32) (bx_ : Nat) (tp_ : Int32) (nx_ : Int32) (tk_ : Int32) (pl_ : Int32) (vl_ : Int32) (fa_ : Int32) (bc_ : Nat) (bf_ : Nat) (sf_ : Nat → Int32) (kp_ : Nat → Nat → Int32) (ik_ : Nat → Int32) (w_ : Int32)  : CD l D cy sa yX9_back wsX9_back rmkX9_back [.ref b0_, .int w_] [(b0_, .inr (9, [.int th_, .long tr_, .ref bn_, .ref bt_, .ref bs_, .ref bk_, .ref bp_, .ref bi_, .ref bl_, .int it_, .int ub_, .int db_, .ref bx_, .int tp_, .int nx_, .int tk_, .int pl_, .int vl_, .int fa_, .ref bc_, .ref bf_])), (bs_, .inl (cy 0, 29, .inl sf_)), (bk_, .inl (cy 0, 58, .inl (kpF kp_))), (bi_, .inl (cy 1, 2, .inl ik_))] (some (.int (r_back kp_ ik_ w_))) [(b0_, .inr (9, [.int 0, .long tr_, .ref bn_, .ref bt_, .ref bs_, .ref bk_, .ref bp_, .ref bi_, .ref bl_, .int it_, .int ub_, .int db_, .ref bx_, .int tp_, .int nx_, .int tk_, .int pl_, .int vl_, .int fa_, .ref bc_, .ref bf_])), (bs_, .inl (cy 0, 29, .inl (n_back kp_ ik_ sf_ w_))), (bk_, .inl (cy 0, 58, .inl (kpF kp_))), (bi_, .inl (cy 1, 2, .inl ik_))] := by
  refine CT.of cX9_back 3 (some .int) (by decide) rfl (Nat.le_of_ble_eq_true rfl) ?_
  intro p e s m args below meth c A Q ls F hmn hK hE hA hP hD hS hl RT
  obtain ⟨hx, hb, hml, hown, hts⟩ := id F
  have winX9 : ∀ w_ ∈ u_ws RX9 TX9 21, w_ ∈ wsX9_back := by decide +kernel
  have wf48 := hts (.fieldLink RX9 48 "SelfSteerModel" "thrown" "I") (by decide +kernel)
  have wf25 := hts (.fieldLink RX9 25 "SelfSteerModel" "isKept" "[Z") (by decide +kernel)
  have wf16 := hts (.fieldLink RX9 16 "SelfSteerModel" "s" "[I") (by decide +kernel)
  have wf19 := hts (.fieldLink RX9 19 "SelfSteerModel" "kept" "[I") (by decide +kernel)
  have hl : lv_has ls 3 [(0, .ref b0_), (1, .int w_)] := hl
  have hP : va_P D vwCl [(b0_, .inr (9, [.int th_, .long tr_, .ref bn_, .ref bt_, .ref bs_, .ref bk_, .ref bp_, .ref bi_, .ref bl_, .int it_, .int ub_, .int db_, .ref bx_, .int tp_, .int nx_, .int tk_, .int pl_, .int vl_, .int fa_, .ref bc_, .ref bf_])), (bs_, .inl (cy 0, 29, .inl sf_)), (bk_, .inl (cy 0, 58, .inl (kpF kp_))), (bi_, .inl (cy 1, 2, .inl ik_))] s.heap := hP
  have hD : va_D A [(b0_, .inr (9, [.int th_, .long tr_, .ref bn_, .ref bt_, .ref bs_, .ref bk_, .ref bp_, .ref bi_, .ref bl_, .int it_, .int ub_, .int db_, .ref bx_, .int tp_, .int nx_, .int tk_, .int pl_, .int vl_, .int fa_, .ref bc_, .ref bf_])), (bs_, .inl (cy 0, 29, .inl sf_)), (bk_, .inl (cy 0, 58, .inl (kpF kp_))), (bi_, .inl (cy 1, 2, .inl ik_))] := hD
  obtain ⟨H, hH⟩ : ∃ H0 : Heap, H0 = s.heap := ⟨_, rfl⟩
  obtain ⟨locs, hlo⟩ : ∃ L0 : List Loc, L0 = [] := ⟨_, rfl⟩
  have hS : va_S A s.heap H locs := by rw [hH, hlo]; exact hS
  rw [← hH] at hP
  show W p l e rmkX9_back s m args below meth c s.heap [] 0 0 Q (F0 m 0 ls [])
  suffices hgo : W p l e rmkX9_back s m args below meth c H locs 0 0 Q (F0 m 0 ls []) by rw [hH, hlo] at hgo; exact hgo
  clear hH hlo
  refine lv_aload_n hx hb dX9_back_0 rfl (lv_at hl 0 rfl) ?_
  refine lv_iconst (v := 0) hx hb dX9_back_1 (by decide) ?_
  refine va_put (D := D) (ci := 9) (v := .int 0) (ty := .int) (C := RX9) (T := TX9) (N := 21) hx hb hts winX9 tyX9 tyX9_ok nmX9 hown hK hP hD hS 0 rfl rfl 0 (by decide) wf48 (fun _ h9 => h9) rfl (by decide +kernel) rfl rfl (Nat.le_of_ble_eq_true rfl) dX9_back_2 (fun H locs hP hD hS => ?_)
  have hP : va_P D vwCl [(b0_, .inr (9, [.int 0, .long tr_, .ref bn_, .ref bt_, .ref bs_, .ref bk_, .ref bp_, .ref bi_, .ref bl_, .int it_, .int ub_, .int db_, .ref bx_, .int tp_, .int nx_, .int tk_, .int pl_, .int vl_, .int fa_, .ref bc_, .ref bf_])), (bs_, .inl (cy 0, 29, .inl sf_)), (bk_, .inl (cy 0, 58, .inl (kpF kp_))), (bi_, .inl (cy 1, 2, .inl ik_))] H := hP
  have hD : va_D A [(b0_, .inr (9, [.int 0, .long tr_, .ref bn_, .ref bt_, .ref bs_, .ref bk_, .ref bp_, .ref bi_, .ref bl_, .int it_, .int ub_, .int db_, .ref bx_, .int tp_, .int nx_, .int tk_, .int pl_, .int vl_, .int fa_, .ref bc_, .ref bf_])), (bs_, .inl (cy 0, 29, .inl sf_)), (bk_, .inl (cy 0, 58, .inl (kpF kp_))), (bi_, .inl (cy 1, 2, .inl ik_))] := hD
  refine lv_iload_n hx hb dX9_back_5 rfl (lv_at hl 1 rfl) ?_
  refine lv_iconst (v := 0) hx hb dX9_back_6 (by decide) ?_
  refine lv_iconst (v := 1) hx hb dX9_back_7 (by decide) ?_
  refine ca_S (n := 3) (rest := []) (wr := [(b0_, .inr (9, [.int 0, .long tr_, .ref bn_, .ref bt_, .ref bs_, .ref bk_, .ref bp_, .ref bi_, .ref bl_, .int it_, .int ub_, .int db_, .ref bx_, .int tp_, .int nx_, .int tk_, .int pl_, .int vl_, .int fa_, .ref bc_, .ref bf_])), (bs_, .inl (cy 0, 29, .inl sf_)), (bk_, .inl (cy 0, 58, .inl (kpF kp_))), (bi_, .inl (cy 1, 2, .inl ik_))]) F hK hE hA hP hD hS hl.1 (kX9_in (l := l) (D := D) (cy := cy) (sa := sa) w_ 0 1) gX9_back_X9_in rfl rfl rfl (by decide +kernel) ⟨by decide, by decide⟩ [] [0, 1, 2, 3] rfl rfl rfl rfl (by decide) rfl rfl (Nat.le_of_ble_eq_true rfl) dX9_back_8 ⟨by decide, by decide⟩ (fun v9 u9 H locs hv hP hD hS => ?_)
  subst hv
  have hP : va_P D vwCl [(b0_, .inr (9, [.int 0, .long tr_, .ref bn_, .ref bt_, .ref bs_, .ref bk_, .ref bp_, .ref bi_, .ref bl_, .int it_, .int ub_, .int db_, .ref bx_, .int tp_, .int nx_, .int tk_, .int pl_, .int vl_, .int fa_, .ref bc_, .ref bf_])), (bs_, .inl (cy 0, 29, .inl sf_)), (bk_, .inl (cy 0, 58, .inl (kpF kp_))), (bi_, .inl (cy 1, 2, .inl ik_))] H := hP
  have hD : va_D A [(b0_, .inr (9, [.int 0, .long tr_, .ref bn_, .ref bt_, .ref bs_, .ref bk_, .ref bp_, .ref bi_, .ref bl_, .int it_, .int ub_, .int db_, .ref bx_, .int tp_, .int nx_, .int tk_, .int pl_, .int vl_, .int fa_, .ref bc_, .ref bf_])), (bs_, .inl (cy 0, 29, .inl sf_)), (bk_, .inl (cy 0, 58, .inl (kpF kp_))), (bi_, .inl (cy 1, 2, .inl ik_))] := hD
  refine W.eq (g2 := F0 m 11 ls [.int (bI (inR w_ 0 1))]) rfl ?_
  refine bz_ne (tgt := 16) hx hb dX9_back_11 (by decide) (fun c_11 => ?_) (fun c_11 => ?_)
  · obtain ⟨w1_, hw1, rfl⟩ := inR_n 1 (by decide) rfl c_11
    refine lv_aload_n hx hb dX9_back_16 rfl (lv_at hl 0 rfl) ?_
    refine va_get (D := D) (ci := 9) (v := .ref bi_) (C := RX9) (T := TX9) (N := 21) hx hb hts winX9 hown hK hP 0 rfl rfl 7 (by decide) wf25 (fun _ h9 => h9) rfl dX9_back_17 ?_
    refine lv_iload_n hx hb dX9_back_20 rfl (lv_at hl 1 rfl) ?_
    refine al_z hx hb hK hP 3 rfl w1_ (rfl) (by omega) (by decide) dX9_back_21 ?_
    refine lv_if_ne (tgt := 28) hx hb dX9_back_22 (by decide) (fun c_22 => ?_) (fun c_22 => ?_)
    · refine lv_iconst (v := 0) hx hb dX9_back_28 (by decide) ?_
      refine lv_istore_n (lv' := [(2, .int 0), (0, .ref b0_), (1, .int (nI w1_))]) hx hb dX9_back_29 rfl hl (by decide) rfl (fun ls hl => ?_)
      have L_30 : ∀ (n : Nat) (j_ : Nat), (j_ ≤ 29) → 29 - j_ < n → ∀ (H : Heap) (locs : List Loc), va_P D vwCl [(b0_, .inr (9, [.int 0, .long tr_, .ref bn_, .ref bt_, .ref bs_, .ref bk_, .ref bp_, .ref bi_, .ref bl_, .int it_, .int ub_, .int db_, .ref bx_, .int tp_, .int nx_, .int tk_, .int pl_, .int vl_, .int fa_, .ref bc_, .ref bf_])), (bs_, .inl (cy 0, 29, .inl (fil (kp_ w1_) sf_ j_))), (bk_, .inl (cy 0, 58, .inl (kpF kp_))), (bi_, .inl (cy 1, 2, .inl ik_))] H → va_D A [(b0_, .inr (9, [.int 0, .long tr_, .ref bn_, .ref bt_, .ref bs_, .ref bk_, .ref bp_, .ref bi_, .ref bl_, .int it_, .int ub_, .int db_, .ref bx_, .int tp_, .int nx_, .int tk_, .int pl_, .int vl_, .int fa_, .ref bc_, .ref bf_])), (bs_, .inl (cy 0, 29, .inl (fil (kp_ w1_) sf_ j_))), (bk_, .inl (cy 0, 58, .inl (kpF kp_))), (bi_, .inl (cy 1, 2, .inl ik_))] → va_S A s.heap H locs → ∀ (ls : Array Slot), lv_has ls 3 [(2, .int (nI j_)), (0, .ref b0_), (1, .int (nI w1_))] → W p l e rmkX9_back s m args below meth c H locs 0 0 Q (F0 m 30 ls []) := by
        intro n
        induction n with
        | zero => intro j_ hj hn; exact absurd hn (Nat.not_lt_zero _)
        | succ n ih_30 =>
          intro j_ hj hn_30 H locs hP hD hS ls hl
          refine lv_iload_n hx hb dX9_back_30 rfl (lv_at hl 0 rfl) ?_
          refine lv_bipush (v := 29) hx hb dX9_back_31 (by decide) ?_
          refine cn_ge (tgt := 59) hx hb j_ 29 rfl rfl (by omega) (by omega) dX9_back_33 (by decide) (fun c_33 => ?_) (fun c_33 => ?_)
          · obtain rfl : 29 = j_ := by omega
            refine lv_aload_n hx hb dX9_back_59 rfl (lv_at hl 1 rfl) ?_
            refine va_get (D := D) (ci := 9) (v := .ref bs_) (C := RX9) (T := TX9) (N := 21) hx hb hts winX9 hown hK hP 0 rfl rfl 4 (by decide) wf16 (fun _ h9 => h9) rfl dX9_back_60 ?_
            refine lv_bipush (v := 7) hx hb dX9_back_63 (by decide) ?_
            refine al_i hx hb hK hP 1 rfl 7 (rfl) (by decide) (by decide) dX9_back_65 ?_
            refine lv_eqi (y := kp_ w1_ 7) (rfl) ?_
            obtain ⟨hP, hD⟩ := ro_ws (g := n_back kp_ ik_ sf_ (nI w1_)) hP hD 1 rfl (fun z hz => by rw [n_back, if_pos c_11, cl_n (by omega), if_neg c_22]; exact fil_lt hz)
            have hP : va_P D vwCl [(b0_, .inr (9, [.int 0, .long tr_, .ref bn_, .ref bt_, .ref bs_, .ref bk_, .ref bp_, .ref bi_, .ref bl_, .int it_, .int ub_, .int db_, .ref bx_, .int tp_, .int nx_, .int tk_, .int pl_, .int vl_, .int fa_, .ref bc_, .ref bf_])), (bs_, .inl (cy 0, 29, .inl (n_back kp_ ik_ sf_ (nI w1_)))), (bk_, .inl (cy 0, 58, .inl (kpF kp_))), (bi_, .inl (cy 1, 2, .inl ik_))] H := hP
            have hD : va_D A [(b0_, .inr (9, [.int 0, .long tr_, .ref bn_, .ref bt_, .ref bs_, .ref bk_, .ref bp_, .ref bi_, .ref bl_, .int it_, .int ub_, .int db_, .ref bx_, .int tp_, .int nx_, .int tk_, .int pl_, .int vl_, .int fa_, .ref bc_, .ref bf_])), (bs_, .inl (cy 0, 29, .inl (n_back kp_ ik_ sf_ (nI w1_)))), (bk_, .inl (cy 0, 58, .inl (kpF kp_))), (bi_, .inl (cy 1, 2, .inl ik_))] := hD
            refine lv_eqi (y := r_back kp_ ik_ (nI w1_)) (by rw [r_back, if_pos c_11, cl_n (by omega), if_neg c_22]) ?_
            exact RT _ _ () H locs 66 ls (rt_i dX9_back_66) rfl hP hD hS
          · refine lv_aload_n hx hb dX9_back_36 rfl (lv_at hl 1 rfl) ?_
            refine va_get (D := D) (ci := 9) (v := .ref bs_) (C := RX9) (T := TX9) (N := 21) hx hb hts winX9 hown hK hP 0 rfl rfl 4 (by decide) wf16 (fun _ h9 => h9) rfl dX9_back_37 ?_
            refine lv_iload_n hx hb dX9_back_40 rfl (lv_at hl 0 rfl) ?_
            refine lv_aload_n hx hb dX9_back_41 rfl (lv_at hl 1 rfl) ?_
            refine va_get (D := D) (ci := 9) (v := .ref bk_) (C := RX9) (T := TX9) (N := 21) hx hb hts winX9 hown hK hP 0 rfl rfl 5 (by decide) wf19 (fun _ h9 => h9) rfl dX9_back_42 ?_
            refine lv_bipush (v := 29) hx hb dX9_back_45 (by decide) ?_
            refine lv_iload_n hx hb dX9_back_47 rfl (lv_at hl 2 rfl) ?_
            refine lv_imul hx hb dX9_back_48 ?_
            refine lv_eqi (y := nI (29 * w1_)) (pk_mul 29 w1_) ?_
            refine lv_iload_n hx hb dX9_back_49 rfl (lv_at hl 0 rfl) ?_
            refine lv_iadd hx hb dX9_back_50 ?_
            refine lv_eqi (y := nI ((29 * w1_) + j_)) (nI_add (29 * w1_) j_) ?_
            refine al_i hx hb hK hP 2 rfl ((29 * w1_) + j_) (rfl) (by omega) (by decide) dX9_back_51 ?_
            refine lv_eqi (y := kp_ w1_ j_) (kpF_at kp_ w1_ (by omega)) ?_
            refine as_i (x := kp_ w1_ j_) hx hb hK hP hD hS 1 rfl j_ (rfl) (by omega) (by decide) dX9_back_52 (fun H locs hP hD hS => ?_)
            have hP : va_P D vwCl [(b0_, .inr (9, [.int 0, .long tr_, .ref bn_, .ref bt_, .ref bs_, .ref bk_, .ref bp_, .ref bi_, .ref bl_, .int it_, .int ub_, .int db_, .ref bx_, .int tp_, .int nx_, .int tk_, .int pl_, .int vl_, .int fa_, .ref bc_, .ref bf_])), (bs_, .inl (cy 0, 29, .inl (upd (fil (kp_ w1_) sf_ j_) j_ (kp_ w1_ j_)))), (bk_, .inl (cy 0, 58, .inl (kpF kp_))), (bi_, .inl (cy 1, 2, .inl ik_))] H := hP
            have hD : va_D A [(b0_, .inr (9, [.int 0, .long tr_, .ref bn_, .ref bt_, .ref bs_, .ref bk_, .ref bp_, .ref bi_, .ref bl_, .int it_, .int ub_, .int db_, .ref bx_, .int tp_, .int nx_, .int tk_, .int pl_, .int vl_, .int fa_, .ref bc_, .ref bf_])), (bs_, .inl (cy 0, 29, .inl (upd (fil (kp_ w1_) sf_ j_) j_ (kp_ w1_ j_)))), (bk_, .inl (cy 0, 58, .inl (kpF kp_))), (bi_, .inl (cy 1, 2, .inl ik_))] := hD
            refine lv_iinc (v := nI (j_ + 1)) (lv' := [(2, .int (nI (j_ + 1))), (0, .ref b0_), (1, .int (nI w1_))]) hx hb dX9_back_53 hl (k := 0) rfl (nI_add j_ 1) (by decide) rfl (fun ls hl => ?_)
            refine lv_goto (tgt := 30) hx hb dX9_back_56 (by decide) ?_
            have hc9 : upd (fil (kp_ w1_) sf_ j_) j_ (kp_ w1_ j_) = fil (kp_ w1_) sf_ (j_ + 1) := fil_s _ _ _
            rw [hc9] at hP hD
            exact ih_30 (j_ + 1) (by first | assumption | omega | decide) (by omega) H locs hP hD hS ls (lv_sub hl [0, 1, 2] rfl)
      have hc9 : sf_ = fil (kp_ w1_) sf_ 0 := (fil_0 _ _).symm
      rw [hc9] at hP hD
      exact L_30 _ 0 (by first | assumption | omega | decide) (Nat.lt_succ_self _) H locs hP hD hS ls (lv_sub hl [0, 1, 2] rfl)
    · refine lv_bipush (v := (-2)) hx hb dX9_back_25 (by decide) ?_
      have hc9 : sf_ = n_back kp_ ik_ sf_ (nI w1_) := by rw [n_back, if_pos c_11, cl_n (by omega), if_pos c_22]
      rw [hc9] at hP hD
      refine lv_eqi (y := r_back kp_ ik_ (nI w1_)) (by rw [r_back, if_pos c_11, cl_n (by omega), if_pos c_22]) ?_
      exact RT _ _ () H locs 27 ls (rt_i dX9_back_27) rfl hP hD hS
  · refine lv_iconst (v := (-1)) hx hb dX9_back_14 (by decide) ?_
    have hc9 : sf_ = n_back kp_ ik_ sf_ w_ := (if_neg c_11).symm
    rw [hc9] at hP hD
    refine lv_eqi (y := r_back kp_ ik_ w_) ((if_neg c_11).symm) ?_
    exact RT _ _ () H locs 15 ls (rt_i dX9_back_15) rfl hP hD hS
abbrev rmkX9_count : Room := { frames := 3, cells := 0, slots := 0, locals := 85 }
set_option maxHeartbeats 4000000 in
set_option maxRecDepth 100000 in
theorem kX9_count {l : Launch} {D : va_G} {cy : Nat → ClassId} {sa : Nat → Nat} (b0_ : Nat) (th_ : Int32) (tr_ : Int64) (bn_ : Nat) (bt_ : Nat) (bs_ : Nat) (bk_ : Nat) (bp_ : Nat) (bi_ : Nat) (bl_ : Nat) (it_ : Int32) (ub_ : Int32) (db_ : Int32) (bx_ : Nat) (tp_ : Int32) (nx_ : Int32) (tk_ : Int32) (pl_ : Int32) (vl_ : Int32) (fa_ : Int32) (bc_ : Nat) (bf_ : Nat) (nb_ : Nat → Nat → Int32) (ft_ : Nat → Int32) (w_ : Int32)  : CT (S := (Nat → Int32)) l D cy sa yX9_count wsX9_count rmkX9_count [.ref b0_, .int w_] [(b0_, .inr (9, [.int th_, .long tr_, .ref bn_, .ref bt_, .ref bs_, .ref bk_, .ref bp_, .ref bi_, .ref bl_, .int it_, .int ub_, .int db_, .ref bx_, .int tp_, .int nx_, .int tk_, .int pl_, .int vl_, .int fa_, .ref bc_, .ref bf_])), (bn_, .inl (cy 0, 24, .inl (nbF nb_))), (bt_, .inl (cy 0, 6, .inl ft_))] (fun v9 ft2 => v9 = some (.int (r_count nb_ it_ tp_ w_))) (fun ft2 => [(b0_, .inr (9, [.int 0, .long tr_, .ref bn_, .ref bt_, .ref bs_, .ref bk_, .ref bp_, .ref bi_, .ref bl_, .int it_, .int ub_, .int db_, .ref bx_, .int tp_, .int nx_, .int tk_, .int pl_, .int vl_, .int fa_, .ref bc_, .ref bf_])), (bn_, .inl (cy 0, 24, .inl (nbF nb_))), (bt_, .inl (cy 0, 6, .inl ft2))]) 0 0 := by
  refine CT.of cX9_count 4 (some .int) (by decide) rfl (Nat.le_of_ble_eq_true rfl) ?_
  intro p e s m args below meth c A Q ls F hmn hK hE hA hP hD hS hl RT
  obtain ⟨hx, hb, hml, hown, hts⟩ := id F
  have winX9 : ∀ w_ ∈ u_ws RX9 TX9 21, w_ ∈ wsX9_count := by decide +kernel
  have wf48 := hts (.fieldLink RX9 48 "SelfSteerModel" "thrown" "I") (by decide +kernel)
  have wf120 := hts (.fieldLink RX9 120 "SelfSteerModel" "typed" "I") (by decide +kernel)
  have wf166 := hts (.fieldLink RX9 166 "SelfSteerModel" "items" "I") (by decide +kernel)
  have hl : lv_has ls 4 [(0, .ref b0_), (1, .int w_)] := hl
  have hP : va_P D vwCl [(b0_, .inr (9, [.int th_, .long tr_, .ref bn_, .ref bt_, .ref bs_, .ref bk_, .ref bp_, .ref bi_, .ref bl_, .int it_, .int ub_, .int db_, .ref bx_, .int tp_, .int nx_, .int tk_, .int pl_, .int vl_, .int fa_, .ref bc_, .ref bf_])), (bn_, .inl (cy 0, 24, .inl (nbF nb_))), (bt_, .inl (cy 0, 6, .inl ft_))] s.heap := hP
  have hD : va_D A [(b0_, .inr (9, [.int th_, .long tr_, .ref bn_, .ref bt_, .ref bs_, .ref bk_, .ref bp_, .ref bi_, .ref bl_, .int it_, .int ub_, .int db_, .ref bx_, .int tp_, .int nx_, .int tk_, .int pl_, .int vl_, .int fa_, .ref bc_, .ref bf_])), (bn_, .inl (cy 0, 24, .inl (nbF nb_))), (bt_, .inl (cy 0, 6, .inl ft_))] := hD
  obtain ⟨H, hH⟩ : ∃ H0 : Heap, H0 = s.heap := ⟨_, rfl⟩
  obtain ⟨locs, hlo⟩ : ∃ L0 : List Loc, L0 = [] := ⟨_, rfl⟩
  have hS : va_S A s.heap H locs := by rw [hH, hlo]; exact hS
  rw [← hH] at hP
  show W p l e rmkX9_count s m args below meth c s.heap [] 0 0 Q (F0 m 0 ls [])
  suffices hgo : W p l e rmkX9_count s m args below meth c H locs 0 0 Q (F0 m 0 ls []) by rw [hH, hlo] at hgo; exact hgo
  clear hH hlo
  refine lv_aload_n hx hb dX9_count_0 rfl (lv_at hl 0 rfl) ?_
  refine lv_iconst (v := 0) hx hb dX9_count_1 (by decide) ?_
  refine va_put (D := D) (ci := 9) (v := .int 0) (ty := .int) (C := RX9) (T := TX9) (N := 21) hx hb hts winX9 tyX9 tyX9_ok nmX9 hown hK hP hD hS 0 rfl rfl 0 (by decide) wf48 (fun _ h9 => h9) rfl (by decide +kernel) rfl rfl (Nat.le_of_ble_eq_true rfl) dX9_count_2 (fun H locs hP hD hS => ?_)
  have hP : va_P D vwCl [(b0_, .inr (9, [.int 0, .long tr_, .ref bn_, .ref bt_, .ref bs_, .ref bk_, .ref bp_, .ref bi_, .ref bl_, .int it_, .int ub_, .int db_, .ref bx_, .int tp_, .int nx_, .int tk_, .int pl_, .int vl_, .int fa_, .ref bc_, .ref bf_])), (bn_, .inl (cy 0, 24, .inl (nbF nb_))), (bt_, .inl (cy 0, 6, .inl ft_))] H := hP
  have hD : va_D A [(b0_, .inr (9, [.int 0, .long tr_, .ref bn_, .ref bt_, .ref bs_, .ref bk_, .ref bp_, .ref bi_, .ref bl_, .int it_, .int ub_, .int db_, .ref bx_, .int tp_, .int nx_, .int tk_, .int pl_, .int vl_, .int fa_, .ref bc_, .ref bf_])), (bn_, .inl (cy 0, 24, .inl (nbF nb_))), (bt_, .inl (cy 0, 6, .inl ft_))] := hD
  refine lv_iconst (v := 0) hx hb dX9_count_5 (by decide) ?_
  refine lv_istore_n (lv' := [(2, .int 0), (0, .ref b0_), (1, .int w_)]) hx hb dX9_count_6 rfl hl (by decide) rfl (fun ls hl => ?_)
  refine lv_iconst (v := 0) hx hb dX9_count_7 (by decide) ?_
  refine lv_istore_n (lv' := [(3, .int 0), (2, .int 0), (0, .ref b0_), (1, .int w_)]) hx hb dX9_count_8 rfl hl (by decide) rfl (fun ls hl => ?_)
  have L_9 : ∀ (n : Nat) (j_ : Nat) (ftc_ : Nat → Int32), (j_ ≤ 4) → 4 - j_ < n → ∀ (H : Heap) (locs : List Loc), va_P D vwCl [(b0_, .inr (9, [.int 0, .long tr_, .ref bn_, .ref bt_, .ref bs_, .ref bk_, .ref bp_, .ref bi_, .ref bl_, .int it_, .int ub_, .int db_, .ref bx_, .int tp_, .int nx_, .int tk_, .int pl_, .int vl_, .int fa_, .ref bc_, .ref bf_])), (bn_, .inl (cy 0, 24, .inl (nbF nb_))), (bt_, .inl (cy 0, 6, .inl ftc_))] H → va_D A [(b0_, .inr (9, [.int 0, .long tr_, .ref bn_, .ref bt_, .ref bs_, .ref bk_, .ref bp_, .ref bi_, .ref bl_, .int it_, .int ub_, .int db_, .ref bx_, .int tp_, .int nx_, .int tk_, .int pl_, .int vl_, .int fa_, .ref bc_, .ref bf_])), (bn_, .inl (cy 0, 24, .inl (nbF nb_))), (bt_, .inl (cy 0, 6, .inl ftc_))] → va_S A s.heap H locs → ∀ (ls : Array Slot), lv_has ls 4 [(3, .int (nI j_)), (2, .int (cuN nb_ j_)), (0, .ref b0_), (1, .int w_)] → W p l e rmkX9_count s m args below meth c H locs 0 0 Q (F0 m 9 ls []) := by
    intro n
    induction n with
    | zero => intro j_ ftc_ hj hn; exact absurd hn (Nat.not_lt_zero _)
    | succ n ih_9 =>
      intro j_ ftc_ hj hn_9 H locs hP hD hS ls hl
      refine lv_iload_n hx hb dX9_count_9 rfl (lv_at hl 0 rfl) ?_
      refine lv_iconst (v := 4) hx hb dX9_count_10 (by decide) ?_
      refine cn_ge (tgt := 32) hx hb j_ 4 rfl rfl (by omega) (by omega) dX9_count_11 (by decide) (fun c_11 => ?_) (fun c_11 => ?_)
      · obtain rfl : 4 = j_ := by omega
        refine lv_iload_n hx hb dX9_count_32 rfl (lv_at hl 3 rfl) ?_
        refine lv_if_ne (tgt := 43) hx hb dX9_count_33 (by decide) (fun c_33 => ?_) (fun c_33 => ?_)
        · refine lv_iload_n hx hb dX9_count_43 rfl (lv_at hl 3 rfl) ?_
          refine lv_iconst (v := 1) hx hb dX9_count_44 (by decide) ?_
          refine lv_icmp_ne (tgt := 55) hx hb dX9_count_45 (by decide) (fun c_45 => ?_) (fun c_45 => ?_)
          · refine lv_iload_n hx hb dX9_count_55 rfl (lv_at hl 3 rfl) ?_
            refine lv_iconst (v := 2) hx hb dX9_count_56 (by decide) ?_
            refine lv_icmp_ne (tgt := 64) hx hb dX9_count_57 (by decide) (fun c_57 => ?_) (fun c_57 => ?_)
            · refine lv_iconst (v := (-1)) hx hb dX9_count_64 (by decide) ?_
              refine lv_eqi (y := r_count nb_ it_ tp_ w_) (by rw [r_count]; first | (rw [if_pos c_33]; done) | (rw [if_neg c_33, if_pos c_45]; done) | (rw [if_neg c_33, if_neg c_45, if_pos c_57]; done) | (rw [if_neg c_33, if_neg c_45, if_neg c_57]; done)) ?_
              exact RT _ _ (ftc_) H locs 65 ls (rt_i dX9_count_65) rfl hP hD hS
            · refine lv_iload_n hx hb dX9_count_60 rfl (lv_at hl 1 rfl) ?_
              refine lv_goto (tgt := 65) hx hb dX9_count_61 (by decide) ?_
              refine lv_eqi (y := r_count nb_ it_ tp_ w_) (by rw [r_count]; first | (rw [if_pos c_33]; done) | (rw [if_neg c_33, if_pos c_45]; done) | (rw [if_neg c_33, if_neg c_45, if_pos c_57]; done) | (rw [if_neg c_33, if_neg c_45, if_neg c_57]; done)) ?_
              exact RT _ _ (ftc_) H locs 65 ls (rt_i dX9_count_65) rfl hP hD hS
          · refine lv_aload_n hx hb dX9_count_48 rfl (lv_at hl 2 rfl) ?_
            refine va_get (D := D) (ci := 9) (v := .int tp_) (C := RX9) (T := TX9) (N := 21) hx hb hts winX9 hown hK hP 0 rfl rfl 13 (by decide) wf120 (fun _ h9 => h9) rfl dX9_count_49 ?_
            refine lv_goto (tgt := 65) hx hb dX9_count_52 (by decide) ?_
            refine lv_eqi (y := r_count nb_ it_ tp_ w_) (by rw [r_count]; first | (rw [if_pos c_33]; done) | (rw [if_neg c_33, if_pos c_45]; done) | (rw [if_neg c_33, if_neg c_45, if_pos c_57]; done) | (rw [if_neg c_33, if_neg c_45, if_neg c_57]; done)) ?_
            exact RT _ _ (ftc_) H locs 65 ls (rt_i dX9_count_65) rfl hP hD hS
        · refine lv_aload_n hx hb dX9_count_36 rfl (lv_at hl 2 rfl) ?_
          refine va_get (D := D) (ci := 9) (v := .int it_) (C := RX9) (T := TX9) (N := 21) hx hb hts winX9 hown hK hP 0 rfl rfl 9 (by decide) wf166 (fun _ h9 => h9) rfl dX9_count_37 ?_
          refine lv_goto (tgt := 65) hx hb dX9_count_40 (by decide) ?_
          refine lv_eqi (y := r_count nb_ it_ tp_ w_) (by rw [r_count]; first | (rw [if_pos c_33]; done) | (rw [if_neg c_33, if_pos c_45]; done) | (rw [if_neg c_33, if_neg c_45, if_pos c_57]; done) | (rw [if_neg c_33, if_neg c_45, if_neg c_57]; done)) ?_
          exact RT _ _ (ftc_) H locs 65 ls (rt_i dX9_count_65) rfl hP hD hS
      · refine lv_aload_n hx hb dX9_count_14 rfl (lv_at hl 2 rfl) ?_
        refine lv_iload_n hx hb dX9_count_15 rfl (lv_at hl 0 rfl) ?_
        refine ca_V (q0 := 0) (n := 1) (rest := []) (wr := []) F hK hE hA hP hD hS hl.1 (kX9_takes (l := l) (D := D) (cy := cy) (sa := sa) b0_ 0 tr_ bn_ bt_ bs_ bk_ bp_ bi_ bl_ it_ ub_ db_ bx_ tp_ nx_ tk_ pl_ vl_ fa_ bc_ bf_ nb_ ftc_ j_ (by first | assumption | omega | decide)) gX9_count_X9_takes rfl rfl rfl rfl rfl rfl (by decide +kernel) ⟨by decide, by decide⟩ [0, 1, 2] [] rfl rfl rfl rfl (by decide) rfl rfl (Nat.le_of_ble_eq_true rfl) dX9_count_16 ⟨by decide, by decide⟩ (fun v9 u9 H locs hv hP hD hS => ?_)
        subst hv
        obtain ⟨hP, hD⟩ := re_ws (ws' := [(b0_, .inr (9, [.int 0, .long tr_, .ref bn_, .ref bt_, .ref bs_, .ref bk_, .ref bp_, .ref bi_, .ref bl_, .int it_, .int ub_, .int db_, .ref bx_, .int tp_, .int nx_, .int tk_, .int pl_, .int vl_, .int fa_, .ref bc_, .ref bf_])), (bn_, .inl (cy 0, 24, .inl (nbF nb_))), (bt_, .inl (cy 0, 6, .inl (nb_ j_)))]) hP hD [0, 1, 2] rfl rfl
        refine W.eq (g2 := F0 m 19 ls []) rfl ?_
        refine lv_iload_n hx hb dX9_count_19 rfl (lv_at hl 1 rfl) ?_
        refine lv_aload_n hx hb dX9_count_20 rfl (lv_at hl 2 rfl) ?_
        refine ca_V (q0 := 0) (n := 0) (rest := [.int (cuN nb_ j_)]) (wr := [(bn_, .inl (cy 0, 24, .inl (nbF nb_)))]) F hK hE hA hP hD hS hl.1 (kX9_manySpeeds (l := l) (D := D) (cy := cy) (sa := sa) b0_ 0 tr_ bn_ bt_ bs_ bk_ bp_ bi_ bl_ it_ ub_ db_ bx_ tp_ nx_ tk_ pl_ vl_ fa_ bc_ bf_ (nb_ j_)) gX9_count_X9_manySpeeds rfl rfl rfl rfl rfl rfl (by decide +kernel) ⟨by decide, by decide⟩ [0, 2] [1] rfl rfl rfl rfl (by decide) rfl rfl (Nat.le_of_ble_eq_true rfl) dX9_count_21 ⟨by decide, by decide⟩ (fun v9 u9 H locs hv hP hD hS => ?_)
        subst hv
        obtain ⟨hP, hD⟩ := re_ws (ws' := [(b0_, .inr (9, [.int 0, .long tr_, .ref bn_, .ref bt_, .ref bs_, .ref bk_, .ref bp_, .ref bi_, .ref bl_, .int it_, .int ub_, .int db_, .ref bx_, .int tp_, .int nx_, .int tk_, .int pl_, .int vl_, .int fa_, .ref bc_, .ref bf_])), (bn_, .inl (cy 0, 24, .inl (nbF nb_))), (bt_, .inl (cy 0, 6, .inl (nb_ j_)))]) hP hD [1, 0, 2] rfl rfl
        refine W.eq (g2 := F0 m 24 ls [.int (ct (nb_ j_) 41), .int (cuN nb_ j_)]) rfl ?_
        refine lv_iadd hx hb dX9_count_24 ?_
        refine lv_eqi (y := cuN nb_ (j_ + 1)) (rfl) ?_
        refine lv_istore_n (lv' := [(2, .int (cuN nb_ (j_ + 1))), (3, .int (nI j_)), (0, .ref b0_), (1, .int w_)]) hx hb dX9_count_25 rfl hl (by decide) rfl (fun ls hl => ?_)
        refine lv_iinc (v := nI (j_ + 1)) (lv' := [(3, .int (nI (j_ + 1))), (2, .int (cuN nb_ (j_ + 1))), (0, .ref b0_), (1, .int w_)]) hx hb dX9_count_26 hl (k := 1) rfl (nI_add j_ 1) (by decide) rfl (fun ls hl => ?_)
        refine lv_goto (tgt := 9) hx hb dX9_count_29 (by decide) ?_
        exact ih_9 (j_ + 1) (nb_ j_) (by first | assumption | omega | decide) (by omega) H locs hP hD hS ls (lv_sub hl [0, 1, 2, 3] rfl)
  exact L_9 _ 0 ft_ (by first | assumption | omega | decide) (Nat.lt_succ_self _) H locs hP hD hS ls (lv_sub hl [0, 1, 2, 3] rfl)
abbrev rmkX9_trace : Room := { frames := 0, cells := 0, slots := 0, locals := 0 }
set_option maxHeartbeats 4000000 in
set_option maxRecDepth 100000 in
theorem kX9_trace {l : Launch} {D : va_G} {cy : Nat → ClassId} {sa : Nat → Nat} (b0_ : Nat) (th_ : Int32) (tr_ : Int64) (bn_ : Nat) (bt_ : Nat) (bs_ : Nat) (bk_ : Nat) (bp_ : Nat) (bi_ : Nat) (bl_ : Nat) (it_ : Int32) (ub_ : Int32) (db_ : Int32) (bx_ : Nat) (tp_ : Int32) (nx_ : Int32) (tk_ : Int32) (pl_ : Int32) (vl_ : Int32) (fa_ : Int32) (bc_ : Nat) (bf_ : Nat)  : CD l D cy sa yX9_trace wsX9_trace rmkX9_trace [.ref b0_] [(b0_, .inr (9, [.int th_, .long tr_, .ref bn_, .ref bt_, .ref bs_, .ref bk_, .ref bp_, .ref bi_, .ref bl_, .int it_, .int ub_, .int db_, .ref bx_, .int tp_, .int nx_, .int tk_, .int pl_, .int vl_, .int fa_, .ref bc_, .ref bf_]))] (some (.long tr_)) [(b0_, .inr (9, [.int 0, .long tr_, .ref bn_, .ref bt_, .ref bs_, .ref bk_, .ref bp_, .ref bi_, .ref bl_, .int it_, .int ub_, .int db_, .ref bx_, .int tp_, .int nx_, .int tk_, .int pl_, .int vl_, .int fa_, .ref bc_, .ref bf_]))] := by
  refine CT.of cX9_trace 1 (some .long) (by decide) rfl (Nat.le_of_ble_eq_true rfl) ?_
  intro p e s m args below meth c A Q ls F hmn hK hE hA hP hD hS hl RT
  obtain ⟨hx, hb, hml, hown, hts⟩ := id F
  have winX9 : ∀ w ∈ u_ws RX9 TX9 21, w ∈ wsX9_trace := by decide +kernel
  have wf48 := hts (.fieldLink RX9 48 "SelfSteerModel" "thrown" "I") (by decide +kernel)
  have wf183 := hts (.fieldLink RX9 183 "SelfSteerModel" "trace" "J") (by decide +kernel)
  have hl : lv_has ls 1 [(0, .ref b0_)] := hl
  have hP : va_P D vwCl [(b0_, .inr (9, [.int th_, .long tr_, .ref bn_, .ref bt_, .ref bs_, .ref bk_, .ref bp_, .ref bi_, .ref bl_, .int it_, .int ub_, .int db_, .ref bx_, .int tp_, .int nx_, .int tk_, .int pl_, .int vl_, .int fa_, .ref bc_, .ref bf_]))] s.heap := hP
  have hD : va_D A [(b0_, .inr (9, [.int th_, .long tr_, .ref bn_, .ref bt_, .ref bs_, .ref bk_, .ref bp_, .ref bi_, .ref bl_, .int it_, .int ub_, .int db_, .ref bx_, .int tp_, .int nx_, .int tk_, .int pl_, .int vl_, .int fa_, .ref bc_, .ref bf_]))] := hD
  obtain ⟨H, hH⟩ : ∃ H0 : Heap, H0 = s.heap := ⟨_, rfl⟩
  obtain ⟨locs, hlo⟩ : ∃ L0 : List Loc, L0 = [] := ⟨_, rfl⟩
  have hS : va_S A s.heap H locs := by rw [hH, hlo]; exact hS
  rw [← hH] at hP
  show W p l e rmkX9_trace s m args below meth c s.heap [] 0 0 Q (F0 m 0 ls [])
  suffices hgo : W p l e rmkX9_trace s m args below meth c H locs 0 0 Q (F0 m 0 ls []) by rw [hH, hlo] at hgo; exact hgo
  clear hH hlo
  refine lv_aload_n hx hb dX9_trace_0 rfl (lv_at hl 0 rfl) ?_
  refine lv_iconst (v := 0) hx hb dX9_trace_1 (by decide) ?_
  refine va_put (D := D) (ci := 9) (v := .int 0) (ty := .int) (C := RX9) (T := TX9) (N := 21) hx hb hts winX9 tyX9 tyX9_ok nmX9 hown hK hP hD hS 0 rfl rfl 0 (by decide) wf48 (fun _ h9 => h9) rfl (by decide +kernel) rfl rfl (Nat.le_of_ble_eq_true rfl) dX9_trace_2 (fun H locs hP hD hS => ?_)
  have hP : va_P D vwCl [(b0_, .inr (9, [.int 0, .long tr_, .ref bn_, .ref bt_, .ref bs_, .ref bk_, .ref bp_, .ref bi_, .ref bl_, .int it_, .int ub_, .int db_, .ref bx_, .int tp_, .int nx_, .int tk_, .int pl_, .int vl_, .int fa_, .ref bc_, .ref bf_]))] H := hP
  have hD : va_D A [(b0_, .inr (9, [.int 0, .long tr_, .ref bn_, .ref bt_, .ref bs_, .ref bk_, .ref bp_, .ref bi_, .ref bl_, .int it_, .int ub_, .int db_, .ref bx_, .int tp_, .int nx_, .int tk_, .int pl_, .int vl_, .int fa_, .ref bc_, .ref bf_]))] := hD
  refine lv_aload_n hx hb dX9_trace_5 rfl (lv_at hl 0 rfl) ?_
  refine va_get (D := D) (ci := 9) (v := .long tr_) (C := RX9) (T := TX9) (N := 21) hx hb hts winX9 hown hK hP 0 rfl rfl 1 (by decide) wf183 (fun _ h9 => h9) rfl dX9_trace_6 ?_
  exact RT _ _ () H locs 9 ls (rt_l dX9_trace_9) rfl hP hD hS
abbrev rmkX9_clear : Room := { frames := 0, cells := 0, slots := 0, locals := 0 }
set_option maxHeartbeats 4000000 in
set_option maxRecDepth 100000 in
theorem kX9_clear {l : Launch} {D : va_G} {cy : Nat → ClassId} {sa : Nat → Nat} (b0_ : Nat) (th_ : Int32) (tr_ : Int64) (bn_ : Nat) (bt_ : Nat) (bs_ : Nat) (bk_ : Nat) (bp_ : Nat) (bi_ : Nat) (bl_ : Nat) (it_ : Int32) (ub_ : Int32) (db_ : Int32) (bx_ : Nat) (tp_ : Int32) (nx_ : Int32) (tk_ : Int32) (pl_ : Int32) (vl_ : Int32) (fa_ : Int32) (bc_ : Nat) (bf_ : Nat)  : CD l D cy sa yX9_clear wsX9_clear rmkX9_clear [.ref b0_] [(b0_, .inr (9, [.int th_, .long tr_, .ref bn_, .ref bt_, .ref bs_, .ref bk_, .ref bp_, .ref bi_, .ref bl_, .int it_, .int ub_, .int db_, .ref bx_, .int tp_, .int nx_, .int tk_, .int pl_, .int vl_, .int fa_, .ref bc_, .ref bf_]))] (some (.int tp_)) [(b0_, .inr (9, [.int 0, .long tr_, .ref bn_, .ref bt_, .ref bs_, .ref bk_, .ref bp_, .ref bi_, .ref bl_, .int it_, .int ub_, .int db_, .ref bx_, .int 0, .int nx_, .int tk_, .int pl_, .int vl_, .int fa_, .ref bc_, .ref bf_]))] := by
  refine CT.of cX9_clear 2 (some .int) (by decide) rfl (Nat.le_of_ble_eq_true rfl) ?_
  intro p e s m args below meth c A Q ls F hmn hK hE hA hP hD hS hl RT
  obtain ⟨hx, hb, hml, hown, hts⟩ := id F
  have winX9 : ∀ w ∈ u_ws RX9 TX9 21, w ∈ wsX9_clear := by decide +kernel
  have wf48 := hts (.fieldLink RX9 48 "SelfSteerModel" "thrown" "I") (by decide +kernel)
  have wf120 := hts (.fieldLink RX9 120 "SelfSteerModel" "typed" "I") (by decide +kernel)
  have hl : lv_has ls 2 [(0, .ref b0_)] := hl
  have hP : va_P D vwCl [(b0_, .inr (9, [.int th_, .long tr_, .ref bn_, .ref bt_, .ref bs_, .ref bk_, .ref bp_, .ref bi_, .ref bl_, .int it_, .int ub_, .int db_, .ref bx_, .int tp_, .int nx_, .int tk_, .int pl_, .int vl_, .int fa_, .ref bc_, .ref bf_]))] s.heap := hP
  have hD : va_D A [(b0_, .inr (9, [.int th_, .long tr_, .ref bn_, .ref bt_, .ref bs_, .ref bk_, .ref bp_, .ref bi_, .ref bl_, .int it_, .int ub_, .int db_, .ref bx_, .int tp_, .int nx_, .int tk_, .int pl_, .int vl_, .int fa_, .ref bc_, .ref bf_]))] := hD
  obtain ⟨H, hH⟩ : ∃ H0 : Heap, H0 = s.heap := ⟨_, rfl⟩
  obtain ⟨locs, hlo⟩ : ∃ L0 : List Loc, L0 = [] := ⟨_, rfl⟩
  have hS : va_S A s.heap H locs := by rw [hH, hlo]; exact hS
  rw [← hH] at hP
  show W p l e rmkX9_clear s m args below meth c s.heap [] 0 0 Q (F0 m 0 ls [])
  suffices hgo : W p l e rmkX9_clear s m args below meth c H locs 0 0 Q (F0 m 0 ls []) by rw [hH, hlo] at hgo; exact hgo
  clear hH hlo
  refine lv_aload_n hx hb dX9_clear_0 rfl (lv_at hl 0 rfl) ?_
  refine lv_iconst (v := 0) hx hb dX9_clear_1 (by decide) ?_
  refine va_put (D := D) (ci := 9) (v := .int 0) (ty := .int) (C := RX9) (T := TX9) (N := 21) hx hb hts winX9 tyX9 tyX9_ok nmX9 hown hK hP hD hS 0 rfl rfl 0 (by decide) wf48 (fun _ h9 => h9) rfl (by decide +kernel) rfl rfl (Nat.le_of_ble_eq_true rfl) dX9_clear_2 (fun H locs hP hD hS => ?_)
  have hP : va_P D vwCl [(b0_, .inr (9, [.int 0, .long tr_, .ref bn_, .ref bt_, .ref bs_, .ref bk_, .ref bp_, .ref bi_, .ref bl_, .int it_, .int ub_, .int db_, .ref bx_, .int tp_, .int nx_, .int tk_, .int pl_, .int vl_, .int fa_, .ref bc_, .ref bf_]))] H := hP
  have hD : va_D A [(b0_, .inr (9, [.int 0, .long tr_, .ref bn_, .ref bt_, .ref bs_, .ref bk_, .ref bp_, .ref bi_, .ref bl_, .int it_, .int ub_, .int db_, .ref bx_, .int tp_, .int nx_, .int tk_, .int pl_, .int vl_, .int fa_, .ref bc_, .ref bf_]))] := hD
  refine lv_aload_n hx hb dX9_clear_5 rfl (lv_at hl 0 rfl) ?_
  refine va_get (D := D) (ci := 9) (v := .int tp_) (C := RX9) (T := TX9) (N := 21) hx hb hts winX9 hown hK hP 0 rfl rfl 13 (by decide) wf120 (fun _ h9 => h9) rfl dX9_clear_6 ?_
  refine lv_istore_n (lv' := [(1, .int tp_), (0, .ref b0_)]) hx hb dX9_clear_9 rfl hl (by decide) rfl (fun ls hl => ?_)
  refine lv_aload_n hx hb dX9_clear_10 rfl (lv_at hl 1 rfl) ?_
  refine lv_iconst (v := 0) hx hb dX9_clear_11 (by decide) ?_
  refine va_put (D := D) (ci := 9) (v := .int 0) (ty := .int) (C := RX9) (T := TX9) (N := 21) hx hb hts winX9 tyX9 tyX9_ok nmX9 hown hK hP hD hS 0 rfl rfl 13 (by decide) wf120 (fun _ h9 => h9) rfl (by decide +kernel) rfl rfl (Nat.le_of_ble_eq_true rfl) dX9_clear_12 (fun H locs hP hD hS => ?_)
  have hP : va_P D vwCl [(b0_, .inr (9, [.int 0, .long tr_, .ref bn_, .ref bt_, .ref bs_, .ref bk_, .ref bp_, .ref bi_, .ref bl_, .int it_, .int ub_, .int db_, .ref bx_, .int 0, .int nx_, .int tk_, .int pl_, .int vl_, .int fa_, .ref bc_, .ref bf_]))] H := hP
  have hD : va_D A [(b0_, .inr (9, [.int 0, .long tr_, .ref bn_, .ref bt_, .ref bs_, .ref bk_, .ref bp_, .ref bi_, .ref bl_, .int it_, .int ub_, .int db_, .ref bx_, .int 0, .int nx_, .int tk_, .int pl_, .int vl_, .int fa_, .ref bc_, .ref bf_]))] := hD
  refine lv_iload_n hx hb dX9_clear_15 rfl (lv_at hl 0 rfl) ?_
  exact RT _ _ () H locs 16 ls (rt_i dX9_clear_16) rfl hP hD hS
abbrev rmkX9_type : Room := { frames := 1, cells := 0, slots := 0, locals := 22 }
set_option maxHeartbeats 4000000 in
set_option maxRecDepth 100000 in
theorem kX9_type {l : Launch} {D : va_G} {cy : Nat → ClassId} {sa : Nat → Nat} (b0_ : Nat) (th_ : Int32) (tr_ : Int64) (bn_ : Nat) (bt_ : Nat) (bs_ : Nat) (bk_ : Nat) (bp_ : Nat) (bi_ : Nat) (bl_ : Nat) (it_ : Int32) (ub_ : Int32) (db_ : Int32) (bx_ : Nat) (nx_ : Int32) (tk_ : Int32) (pl_ : Int32) (vl_ : Int32) (fa_ : Int32) (bc_ : Nat) (bf_ : Nat) (tn_ : Nat) (tx_ : Nat → Int32) (v_ : Int64) (n_ : Int32) (htn : tn_ ≤ 200) : CD l D cy sa yX9_type wsX9_type rmkX9_type [.ref b0_, .long v_, .int n_] [(b0_, .inr (9, [.int th_, .long tr_, .ref bn_, .ref bt_, .ref bs_, .ref bk_, .ref bp_, .ref bi_, .ref bl_, .int it_, .int ub_, .int db_, .ref bx_, .int (nI tn_), .int nx_, .int tk_, .int pl_, .int vl_, .int fa_, .ref bc_, .ref bf_])), (bx_, .inl (cy 0, 200, .inl tx_))] (some (.int (r_type tn_ n_))) [(b0_, .inr (9, [.int 0, .long tr_, .ref bn_, .ref bt_, .ref bs_, .ref bk_, .ref bp_, .ref bi_, .ref bl_, .int it_, .int ub_, .int db_, .ref bx_, .int (nI (n_tn tn_ n_)), .int nx_, .int tk_, .int pl_, .int vl_, .int fa_, .ref bc_, .ref bf_])), (bx_, .inl (cy 0, 200, .inl (n_tx tx_ tn_ v_ n_)))] := by
  refine CT.of cX9_type 5 (some .int) (by decide) rfl (Nat.le_of_ble_eq_true rfl) ?_
  intro p e s m args below meth c A Q ls F hmn hK hE hA hP hD hS hl RT
  obtain ⟨hx, hb, hml, hown, hts⟩ := id F
  have winX9 : ∀ w ∈ u_ws RX9 TX9 21, w ∈ wsX9_type := by decide +kernel
  have wf48 := hts (.fieldLink RX9 48 "SelfSteerModel" "thrown" "I") (by decide +kernel)
  have wf120 := hts (.fieldLink RX9 120 "SelfSteerModel" "typed" "I") (by decide +kernel)
  have wf39 := hts (.fieldLink RX9 39 "SelfSteerModel" "text" "[I") (by decide +kernel)
  have wl123 := hts (.constantLong RX9 123 (255)) (by decide +kernel)
  have hl : lv_has ls 5 [(0, .ref b0_), (1, .long v_), (3, .int n_)] := hl
  have hP : va_P D vwCl [(b0_, .inr (9, [.int th_, .long tr_, .ref bn_, .ref bt_, .ref bs_, .ref bk_, .ref bp_, .ref bi_, .ref bl_, .int it_, .int ub_, .int db_, .ref bx_, .int (nI tn_), .int nx_, .int tk_, .int pl_, .int vl_, .int fa_, .ref bc_, .ref bf_])), (bx_, .inl (cy 0, 200, .inl tx_))] s.heap := hP
  have hD : va_D A [(b0_, .inr (9, [.int th_, .long tr_, .ref bn_, .ref bt_, .ref bs_, .ref bk_, .ref bp_, .ref bi_, .ref bl_, .int it_, .int ub_, .int db_, .ref bx_, .int (nI tn_), .int nx_, .int tk_, .int pl_, .int vl_, .int fa_, .ref bc_, .ref bf_])), (bx_, .inl (cy 0, 200, .inl tx_))] := hD
  obtain ⟨H, hH⟩ : ∃ H0 : Heap, H0 = s.heap := ⟨_, rfl⟩
  obtain ⟨locs, hlo⟩ : ∃ L0 : List Loc, L0 = [] := ⟨_, rfl⟩
  have hS : va_S A s.heap H locs := by rw [hH, hlo]; exact hS
  rw [← hH] at hP
  show W p l e rmkX9_type s m args below meth c s.heap [] 0 0 Q (F0 m 0 ls [])
  suffices hgo : W p l e rmkX9_type s m args below meth c H locs 0 0 Q (F0 m 0 ls []) by rw [hH, hlo] at hgo; exact hgo
  clear hH hlo
  refine lv_aload_n hx hb dX9_type_0 rfl (lv_at hl 0 rfl) ?_
  refine lv_iconst (v := 0) hx hb dX9_type_1 (by decide) ?_
  refine va_put (D := D) (ci := 9) (v := .int 0) (ty := .int) (C := RX9) (T := TX9) (N := 21) hx hb hts winX9 tyX9 tyX9_ok nmX9 hown hK hP hD hS 0 rfl rfl 0 (by decide) wf48 (fun _ h9 => h9) rfl (by decide +kernel) rfl rfl (Nat.le_of_ble_eq_true rfl) dX9_type_2 (fun H locs hP hD hS => ?_)
  have hP : va_P D vwCl [(b0_, .inr (9, [.int 0, .long tr_, .ref bn_, .ref bt_, .ref bs_, .ref bk_, .ref bp_, .ref bi_, .ref bl_, .int it_, .int ub_, .int db_, .ref bx_, .int (nI tn_), .int nx_, .int tk_, .int pl_, .int vl_, .int fa_, .ref bc_, .ref bf_])), (bx_, .inl (cy 0, 200, .inl tx_))] H := hP
  have hD : va_D A [(b0_, .inr (9, [.int 0, .long tr_, .ref bn_, .ref bt_, .ref bs_, .ref bk_, .ref bp_, .ref bi_, .ref bl_, .int it_, .int ub_, .int db_, .ref bx_, .int (nI tn_), .int nx_, .int tk_, .int pl_, .int vl_, .int fa_, .ref bc_, .ref bf_])), (bx_, .inl (cy 0, 200, .inl tx_))] := hD
  refine lv_iload_n hx hb dX9_type_5 rfl (lv_at hl 2 rfl) ?_
  refine lv_iconst (v := 1) hx hb dX9_type_6 (by decide) ?_
  refine lv_bipush (v := 8) hx hb dX9_type_7 (by decide) ?_
  refine ca_S (n := 3) (rest := []) (wr := [(b0_, .inr (9, [.int 0, .long tr_, .ref bn_, .ref bt_, .ref bs_, .ref bk_, .ref bp_, .ref bi_, .ref bl_, .int it_, .int ub_, .int db_, .ref bx_, .int (nI tn_), .int nx_, .int tk_, .int pl_, .int vl_, .int fa_, .ref bc_, .ref bf_])), (bx_, .inl (cy 0, 200, .inl tx_))]) F hK hE hA hP hD hS hl.1 (kX9_in (l := l) (D := D) (cy := cy) (sa := sa) n_ 1 8) gX9_type_X9_in rfl rfl rfl (by decide +kernel) ⟨by decide, by decide⟩ [] [0, 1] rfl rfl rfl rfl (by decide) rfl rfl (Nat.le_of_ble_eq_true rfl) dX9_type_9 ⟨by decide, by decide⟩ (fun v9 u9 H locs hv hP hD hS => ?_)
  subst hv
  have hP : va_P D vwCl [(b0_, .inr (9, [.int 0, .long tr_, .ref bn_, .ref bt_, .ref bs_, .ref bk_, .ref bp_, .ref bi_, .ref bl_, .int it_, .int ub_, .int db_, .ref bx_, .int (nI tn_), .int nx_, .int tk_, .int pl_, .int vl_, .int fa_, .ref bc_, .ref bf_])), (bx_, .inl (cy 0, 200, .inl tx_))] H := hP
  have hD : va_D A [(b0_, .inr (9, [.int 0, .long tr_, .ref bn_, .ref bt_, .ref bs_, .ref bk_, .ref bp_, .ref bi_, .ref bl_, .int it_, .int ub_, .int db_, .ref bx_, .int (nI tn_), .int nx_, .int tk_, .int pl_, .int vl_, .int fa_, .ref bc_, .ref bf_])), (bx_, .inl (cy 0, 200, .inl tx_))] := hD
  refine W.eq (g2 := F0 m 12 ls [.int (bI (inR n_ 1 8))]) rfl ?_
  refine bz_ne (tgt := 17) hx hb dX9_type_12 (by decide) (fun c_12 => ?_) (fun c_12 => ?_)
  · obtain ⟨n1_, hn1p, hn1, rfl⟩ := inR_1 8 (by decide) rfl c_12
    refine lv_aload_n hx hb dX9_type_17 rfl (lv_at hl 0 rfl) ?_
    refine va_get (D := D) (ci := 9) (v := .int (nI tn_)) (C := RX9) (T := TX9) (N := 21) hx hb hts winX9 hown hK hP 0 rfl rfl 13 (by decide) wf120 (fun _ h9 => h9) rfl dX9_type_18 ?_
    refine lv_iload_n hx hb dX9_type_21 rfl (lv_at hl 2 rfl) ?_
    refine lv_iadd hx hb dX9_type_22 ?_
    refine lv_eqi (y := nI (tn_ + n1_)) (nI_add tn_ n1_) ?_
    refine lv_sipush (v := 200) hx hb dX9_type_23 (by decide) ?_
    refine cn_le (tgt := 32) hx hb (tn_ + n1_) 200 rfl rfl (by omega) (by omega) dX9_type_26 (by decide) (fun c_26 => ?_) (fun c_26 => ?_)
    · refine lv_iload_n hx hb dX9_type_32 rfl (lv_at hl 2 rfl) ?_
      refine lv_iconst (v := 1) hx hb dX9_type_33 (by decide) ?_
      refine lv_isub hx hb dX9_type_34 ?_
      refine lv_istore (lv' := [(4, .int ((nI n1_) - 1)), (0, .ref b0_), (1, .long v_), (3, .int (nI n1_))]) hx hb dX9_type_35 hl (by decide) rfl (fun ls hl => ?_)
      have L_37 : ∀ (n_ : Nat) (c1_ : Nat) (q_ : Nat), (c1_ + q_ = n1_) → q_ < n_ → ∀ (H : Heap) (locs : List Loc), va_P D vwCl [(b0_, .inr (9, [.int 0, .long tr_, .ref bn_, .ref bt_, .ref bs_, .ref bk_, .ref bp_, .ref bi_, .ref bl_, .int it_, .int ub_, .int db_, .ref bx_, .int (nI (tn_ + c1_)), .int nx_, .int tk_, .int pl_, .int vl_, .int fa_, .ref bc_, .ref bf_])), (bx_, .inl (cy 0, 200, .inl (tyF tx_ tn_ v_ n1_ c1_)))] H → va_D A [(b0_, .inr (9, [.int 0, .long tr_, .ref bn_, .ref bt_, .ref bs_, .ref bk_, .ref bp_, .ref bi_, .ref bl_, .int it_, .int ub_, .int db_, .ref bx_, .int (nI (tn_ + c1_)), .int nx_, .int tk_, .int pl_, .int vl_, .int fa_, .ref bc_, .ref bf_])), (bx_, .inl (cy 0, 200, .inl (tyF tx_ tn_ v_ n1_ c1_)))] → va_S A s.heap H locs → ∀ (ls : Array Slot), lv_has ls 5 [(4, .int (nI q_ - 1)), (0, .ref b0_), (1, .long v_), (3, .int (nI n1_))] → W p l e rmkX9_type s m args below meth c H locs 0 0 Q (F0 m 37 ls []) := by
        intro n_
        induction n_ with
        | zero => intro c1_ q_ hcq hn; exact absurd hn (Nat.not_lt_zero _)
        | succ n_ ih_37 =>
          intro c1_ q_ hcq hn_37 H locs hP hD hS ls hl
          refine lv_iload hx hb dX9_type_37 (lv_at hl 0 rfl) ?_
          refine lv_if_lt (tgt := 79) hx hb dX9_type_39 (by decide) (fun c_39 => ?_) (fun c_39 => ?_)
          · have hq0 : q_ = 0 := (sub1_lt (by omega)).mp c_39
            obtain rfl : n1_ = c1_ := by omega
            refine lv_aload_n hx hb dX9_type_79 rfl (lv_at hl 1 rfl) ?_
            refine va_get (D := D) (ci := 9) (v := .int (nI (tn_ + n1_))) (C := RX9) (T := TX9) (N := 21) hx hb hts winX9 hown hK hP 0 rfl rfl 13 (by decide) wf120 (fun _ h9 => h9) rfl dX9_type_80 ?_
            have hok : okTy tn_ (nI n1_) := ⟨c_12, by rw [cl_n (by omega)]; exact c_26⟩
            have hc9 : Value.int (nI (tn_ + n1_)) = Value.int (nI (n_tn tn_ (nI n1_))) := congrArg _ (show nI (tn_ + n1_) = nI (n_tn tn_ (nI n1_)) from by rw [n_tn, if_pos hok, cl_n (by omega)])
            rw [hc9] at hP hD
            have hc9 : tyF tx_ tn_ v_ n1_ n1_ = n_tx tx_ tn_ v_ (nI n1_) := by rw [n_tx, if_pos hok, cl_n (by omega)]
            rw [hc9] at hP hD
            refine lv_eqi (y := r_type tn_ (nI n1_)) (by rw [r_type, if_pos c_12, cl_n (by omega), if_pos c_26]) ?_
            exact RT _ _ () H locs 83 ls (rt_i dX9_type_83) rfl hP hD hS
          · have hq1 : 1 ≤ q_ := by rcases Nat.eq_zero_or_pos q_ with y | y; exact absurd ((sub1_lt (by omega)).mpr y) c_39; exact y
            refine lv_aload_n hx hb dX9_type_42 rfl (lv_at hl 1 rfl) ?_
            refine va_get (D := D) (ci := 9) (v := .ref bx_) (C := RX9) (T := TX9) (N := 21) hx hb hts winX9 hown hK hP 0 rfl rfl 12 (by decide) wf39 (fun _ h9 => h9) rfl dX9_type_43 ?_
            refine lv_aload_n hx hb dX9_type_46 rfl (lv_at hl 1 rfl) ?_
            refine va_get (D := D) (ci := 9) (v := .int (nI (tn_ + c1_))) (C := RX9) (T := TX9) (N := 21) hx hb hts winX9 hown hK hP 0 rfl rfl 13 (by decide) wf120 (fun _ h9 => h9) rfl dX9_type_47 ?_
            refine lv_lload_n hx hb dX9_type_50 rfl (lv_at hl 2 rfl) ?_
            refine lv_bipush (v := 8) hx hb dX9_type_51 (by decide) ?_
            refine lv_iload hx hb dX9_type_53 (lv_at hl 0 rfl) ?_
            refine lv_imul hx hb dX9_type_55 ?_
            refine lv_eqi (y := nI (8 * (q_ - 1))) (by rw [show nI q_ - 1 = nI (q_ - 1) from pk_sub (a := q_) (b := 1) hq1]; exact pk_mul 8 (q_ - 1)) ?_
            refine lv_lshr (v := v_ >>> ((nI (8 * (q_ - 1))).toInt64 &&& 63)) hx hb dX9_type_56 (rfl) ?_
            refine lv_ldc2 (v := 255) hx hb hown wl123 dX9_type_57 ?_
            refine lv_land hx hb dX9_type_60 ?_
            refine lv_l2i (v := byV v_ (q_ - 1)) hx hb dX9_type_61 (rfl) ?_
            refine as_i (x := byV v_ (q_ - 1)) hx hb hK hP hD hS 1 rfl (tn_ + c1_) (rfl) (by omega) (by decide) dX9_type_62 (fun H locs hP hD hS => ?_)
            have hP : va_P D vwCl [(b0_, .inr (9, [.int 0, .long tr_, .ref bn_, .ref bt_, .ref bs_, .ref bk_, .ref bp_, .ref bi_, .ref bl_, .int it_, .int ub_, .int db_, .ref bx_, .int (nI (tn_ + c1_)), .int nx_, .int tk_, .int pl_, .int vl_, .int fa_, .ref bc_, .ref bf_])), (bx_, .inl (cy 0, 200, .inl (upd (tyF tx_ tn_ v_ n1_ c1_) (tn_ + c1_) (byV v_ (q_ - 1)))))] H := hP
            have hD : va_D A [(b0_, .inr (9, [.int 0, .long tr_, .ref bn_, .ref bt_, .ref bs_, .ref bk_, .ref bp_, .ref bi_, .ref bl_, .int it_, .int ub_, .int db_, .ref bx_, .int (nI (tn_ + c1_)), .int nx_, .int tk_, .int pl_, .int vl_, .int fa_, .ref bc_, .ref bf_])), (bx_, .inl (cy 0, 200, .inl (upd (tyF tx_ tn_ v_ n1_ c1_) (tn_ + c1_) (byV v_ (q_ - 1)))))] := hD
            refine lv_aload_n hx hb dX9_type_63 rfl (lv_at hl 1 rfl) ?_
            refine lv_dup hx hb dX9_type_64 rfl ?_
            refine va_get (D := D) (ci := 9) (v := .int (nI (tn_ + c1_))) (C := RX9) (T := TX9) (N := 21) hx hb hts winX9 hown hK hP 0 rfl rfl 13 (by decide) wf120 (fun _ h9 => h9) rfl dX9_type_65 ?_
            refine lv_iconst (v := 1) hx hb dX9_type_68 (by decide) ?_
            refine lv_iadd hx hb dX9_type_69 ?_
            refine lv_eqi (y := nI ((tn_ + c1_) + 1)) (nI_add (tn_ + c1_) 1) ?_
            refine va_put (D := D) (ci := 9) (v := .int (nI ((tn_ + c1_) + 1))) (ty := .int) (C := RX9) (T := TX9) (N := 21) hx hb hts winX9 tyX9 tyX9_ok nmX9 hown hK hP hD hS 0 rfl rfl 13 (by decide) wf120 (fun _ h9 => h9) rfl (by decide +kernel) rfl rfl (Nat.le_of_ble_eq_true rfl) dX9_type_70 (fun H locs hP hD hS => ?_)
            have hP : va_P D vwCl [(b0_, .inr (9, [.int 0, .long tr_, .ref bn_, .ref bt_, .ref bs_, .ref bk_, .ref bp_, .ref bi_, .ref bl_, .int it_, .int ub_, .int db_, .ref bx_, .int (nI ((tn_ + c1_) + 1)), .int nx_, .int tk_, .int pl_, .int vl_, .int fa_, .ref bc_, .ref bf_])), (bx_, .inl (cy 0, 200, .inl (upd (tyF tx_ tn_ v_ n1_ c1_) (tn_ + c1_) (byV v_ (q_ - 1)))))] H := hP
            have hD : va_D A [(b0_, .inr (9, [.int 0, .long tr_, .ref bn_, .ref bt_, .ref bs_, .ref bk_, .ref bp_, .ref bi_, .ref bl_, .int it_, .int ub_, .int db_, .ref bx_, .int (nI ((tn_ + c1_) + 1)), .int nx_, .int tk_, .int pl_, .int vl_, .int fa_, .ref bc_, .ref bf_])), (bx_, .inl (cy 0, 200, .inl (upd (tyF tx_ tn_ v_ n1_ c1_) (tn_ + c1_) (byV v_ (q_ - 1)))))] := hD
            refine lv_iinc (v := nI (q_ - 1) - 1) (lv' := [(4, .int (nI (q_ - 1) - 1)), (0, .ref b0_), (1, .long v_), (3, .int (nI n1_))]) hx hb dX9_type_73 hl (k := 0) rfl (by rw [show nI q_ - 1 = nI (q_ - 1) from pk_sub (a := q_) (b := 1) hq1]; exact add_m1 _) (by decide) rfl (fun ls hl => ?_)
            refine lv_goto (tgt := 37) hx hb dX9_type_76 (by decide) ?_
            skip
            have hc9 : upd (tyF tx_ tn_ v_ n1_ c1_) (tn_ + c1_) (byV v_ (q_ - 1)) = tyF tx_ tn_ v_ n1_ (c1_ + 1) := tyF_s _ _ _ hcq hq1
            rw [hc9] at hP hD
            exact ih_37 (c1_ + 1) (q_ - 1) (by first | assumption | omega | decide) (by omega) H locs hP hD hS ls (lv_sub hl [0, 1, 2, 3] rfl)
      skip
      have hc9 : tx_ = tyF tx_ tn_ v_ n1_ 0 := (tyF_0 _ _ _ _).symm
      rw [hc9] at hP hD
      exact L_37 _ 0 n1_ (Nat.zero_add _) (Nat.lt_succ_self _) H locs hP hD hS ls (lv_sub hl [0, 1, 2, 3] rfl)
    · refine lv_bipush (v := (-3)) hx hb dX9_type_29 (by decide) ?_
      have hno : ¬ okTy tn_ (nI n1_) := fun z => c_26 (by have z2 := z.2; rw [cl_n (by omega)] at z2; exact z2)
      have hc9 : Value.int (nI tn_) = Value.int (nI (n_tn tn_ (nI n1_))) := congrArg _ (show nI tn_ = nI (n_tn tn_ (nI n1_)) from by rw [n_tn, if_neg hno])
      rw [hc9] at hP hD
      have hc9 : tx_ = n_tx tx_ tn_ v_ (nI n1_) := by rw [n_tx, if_neg hno]
      rw [hc9] at hP hD
      refine lv_eqi (y := r_type tn_ (nI n1_)) (by rw [r_type, if_pos c_12, cl_n (by omega), if_neg c_26]) ?_
      exact RT _ _ () H locs 31 ls (rt_i dX9_type_31) rfl hP hD hS
  · refine lv_iconst (v := (-1)) hx hb dX9_type_15 (by decide) ?_
    have hc9 : Value.int (nI tn_) = Value.int (nI (n_tn tn_ n_)) := congrArg _ (show nI tn_ = nI (n_tn tn_ n_) from by rw [n_tn, if_neg (fun z => c_12 z.1)])
    rw [hc9] at hP hD
    have hc9 : tx_ = n_tx tx_ tn_ v_ n_ := by rw [n_tx, if_neg (fun z => c_12 z.1)]
    rw [hc9] at hP hD
    refine lv_eqi (y := r_type tn_ n_) ((if_neg c_12).symm) ?_
    exact RT _ _ () H locs 16 ls (rt_i dX9_type_16) rfl hP hD hS
