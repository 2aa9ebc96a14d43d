abbrev rmkX9_sets : Room := { frames := 0, cells := 0, slots := 0, locals := 0 }
set_option maxHeartbeats 4000000 in
set_option maxRecDepth 100000 in
theorem kX9_sets {l : Launch} {D : va_G} {cy : Nat → ClassId} {sa : Nat → Nat} (b0_ : Nat) (th_ : Int32) (tr_ : Int64) (bn_ : Nat) (bt_ : Nat) (bs_ : Nat) (bk_ : Nat) (bp_ : Nat) (bi_ : Nat) (bl_ : Nat) (it_ : Int32) (ub_ : Int32) (db_ : Int32) (bx_ : Nat) (tp_ : Int32) (nx_ : Int32) (tk_ : Int32) (pl_ : Int32) (vl_ : Int32) (fa_ : Int32) (bc_ : Nat) (bf_ : Nat) (sf_ : Nat → Int32) (i_ : Int32) (v_ : Int32) (r_ : Int32)  : CD l D cy sa yX9_sets wsX9_sets rmkX9_sets [.ref b0_, .int i_, .int v_, .int r_] [(b0_, .inr (9, [.int th_, .long tr_, .ref bn_, .ref bt_, .ref bs_, .ref bk_, .ref bp_, .ref bi_, .ref bl_, .int it_, .int ub_, .int db_, .ref bx_, .int tp_, .int nx_, .int tk_, .int pl_, .int vl_, .int fa_, .ref bc_, .ref bf_])), (bs_, .inl (cy 0, 29, .inl sf_))] (none) [(b0_, .inr (9, [.int th_, .long tr_, .ref bn_, .ref bt_, .ref bs_, .ref bk_, .ref bp_, .ref bi_, .ref bl_, .int it_, .int ub_, .int db_, .ref bx_, .int tp_, .int nx_, .int tk_, .int pl_, .int vl_, .int fa_, .ref bc_, .ref bf_])), (bs_, .inl (cy 0, 29, .inl (setF sf_ i_ v_ r_)))] := by
  refine CT.of cX9_sets 5 none (by decide) rfl (Nat.le_of_ble_eq_true rfl) ?_
  intro p e s m args below meth c A Q ls F hmn hK hE hA hP hD hS hl RT
  obtain ⟨hx, hb, hml, hown, hts⟩ := id F
  have winX9 : ∀ w ∈ u_ws RX9 TX9 21, w ∈ wsX9_sets := by decide +kernel
  have wf16 := hts (.fieldLink RX9 16 "SelfSteerModel" "s" "[I") (by decide +kernel)
  have hl : lv_has ls 5 [(0, .ref b0_), (1, .int i_), (2, .int v_), (3, .int r_)] := hl
  have hP : va_P D vwCl [(b0_, .inr (9, [.int th_, .long tr_, .ref bn_, .ref bt_, .ref bs_, .ref bk_, .ref bp_, .ref bi_, .ref bl_, .int it_, .int ub_, .int db_, .ref bx_, .int tp_, .int nx_, .int tk_, .int pl_, .int vl_, .int fa_, .ref bc_, .ref bf_])), (bs_, .inl (cy 0, 29, .inl sf_))] s.heap := hP
  have hD : va_D A [(b0_, .inr (9, [.int th_, .long tr_, .ref bn_, .ref bt_, .ref bs_, .ref bk_, .ref bp_, .ref bi_, .ref bl_, .int it_, .int ub_, .int db_, .ref bx_, .int tp_, .int nx_, .int tk_, .int pl_, .int vl_, .int fa_, .ref bc_, .ref bf_])), (bs_, .inl (cy 0, 29, .inl sf_))] := hD
  obtain ⟨H, hH⟩ : ∃ H0 : Heap, H0 = s.heap := ⟨_, rfl⟩
  obtain ⟨locs, hlo⟩ : ∃ L0 : List Loc, L0 = [] := ⟨_, rfl⟩
  have hS : va_S A s.heap H locs := by rw [hH, hlo]; exact hS
  rw [← hH] at hP
  show W p l e rmkX9_sets s m args below meth c s.heap [] 0 0 Q (F0 m 0 ls [])
  suffices hgo : W p l e rmkX9_sets s m args below meth c H locs 0 0 Q (F0 m 0 ls []) by rw [hH, hlo] at hgo; exact hgo
  clear hH hlo
  refine lv_iconst (v := 0) hx hb dX9_sets_0 (by decide) ?_
  refine lv_istore (lv' := [(4, .int 0), (0, .ref b0_), (1, .int i_), (2, .int v_), (3, .int r_)]) hx hb dX9_sets_1 hl (by decide) rfl (fun ls hl => ?_)
  have L_3 : ∀ (n : Nat) (j_ : Nat), (j_ ≤ 25) → 25 - j_ < n → ∀ (H : Heap) (locs : List Loc), va_P D vwCl [(b0_, .inr (9, [.int th_, .long tr_, .ref bn_, .ref bt_, .ref bs_, .ref bk_, .ref bp_, .ref bi_, .ref bl_, .int it_, .int ub_, .int db_, .ref bx_, .int tp_, .int nx_, .int tk_, .int pl_, .int vl_, .int fa_, .ref bc_, .ref bf_])), (bs_, .inl (cy 0, 29, .inl (fil (fun _ => 0) sf_ j_)))] H → va_D A [(b0_, .inr (9, [.int th_, .long tr_, .ref bn_, .ref bt_, .ref bs_, .ref bk_, .ref bp_, .ref bi_, .ref bl_, .int it_, .int ub_, .int db_, .ref bx_, .int tp_, .int nx_, .int tk_, .int pl_, .int vl_, .int fa_, .ref bc_, .ref bf_])), (bs_, .inl (cy 0, 29, .inl (fil (fun _ => 0) sf_ j_)))] → va_S A s.heap H locs → ∀ (ls : Array Slot), lv_has ls 5 [(4, .int (nI j_)), (0, .ref b0_), (1, .int i_), (2, .int v_), (3, .int r_)] → W p l e rmkX9_sets s m args below meth c H locs 0 0 Q (F0 m 3 ls []) := by
    intro n
    induction n with
    | zero => intro j_ hj hn; exact absurd hn (Nat.not_lt_zero _)
    | succ n ih_3 =>
      intro j_ hj hn_3 H locs hP hD hS ls hl
      refine lv_iload hx hb dX9_sets_3 (lv_at hl 0 rfl) ?_
      refine lv_bipush (v := 25) hx hb dX9_sets_5 (by decide) ?_
      refine cn_ge (tgt := 24) hx hb j_ 25 rfl rfl (by omega) (by omega) dX9_sets_7 (by decide) (fun c_7 => ?_) (fun c_7 => ?_)
      · obtain rfl : 25 = j_ := by omega
        refine lv_aload_n hx hb dX9_sets_24 rfl (lv_at hl 1 rfl) ?_
        refine va_get (D := D) (ci := 9) (v := .ref bs_) (C := RX9) (T := TX9) (N := 21) hx hb hts winX9 hown hK hP 0 rfl rfl 4 (by decide) wf16 (fun _ h9 => h9) rfl dX9_sets_25 ?_
        refine lv_iconst (v := 0) hx hb dX9_sets_28 (by decide) ?_
        refine lv_iload_n hx hb dX9_sets_29 rfl (lv_at hl 2 rfl) ?_
        refine as_i (x := i_) hx hb hK hP hD hS 1 rfl 0 (rfl) (by decide) (by decide) dX9_sets_30 (fun H locs hP hD hS => ?_)
        have hP : va_P D vwCl [(b0_, .inr (9, [.int th_, .long tr_, .ref bn_, .ref bt_, .ref bs_, .ref bk_, .ref bp_, .ref bi_, .ref bl_, .int it_, .int ub_, .int db_, .ref bx_, .int tp_, .int nx_, .int tk_, .int pl_, .int vl_, .int fa_, .ref bc_, .ref bf_])), (bs_, .inl (cy 0, 29, .inl (upd (fil (fun _ => 0) sf_ 25) 0 i_)))] H := hP
        have hD : va_D A [(b0_, .inr (9, [.int th_, .long tr_, .ref bn_, .ref bt_, .ref bs_, .ref bk_, .ref bp_, .ref bi_, .ref bl_, .int it_, .int ub_, .int db_, .ref bx_, .int tp_, .int nx_, .int tk_, .int pl_, .int vl_, .int fa_, .ref bc_, .ref bf_])), (bs_, .inl (cy 0, 29, .inl (upd (fil (fun _ => 0) sf_ 25) 0 i_)))] := hD
        refine lv_aload_n hx hb dX9_sets_31 rfl (lv_at hl 1 rfl) ?_
        refine va_get (D := D) (ci := 9) (v := .ref bs_) (C := RX9) (T := TX9) (N := 21) hx hb hts winX9 hown hK hP 0 rfl rfl 4 (by decide) wf16 (fun _ h9 => h9) rfl dX9_sets_32 ?_
        refine lv_iconst (v := 1) hx hb dX9_sets_35 (by decide) ?_
        refine lv_iload_n hx hb dX9_sets_36 rfl (lv_at hl 3 rfl) ?_
        refine as_i (x := v_) hx hb hK hP hD hS 1 rfl 1 (rfl) (by decide) (by decide) dX9_sets_37 (fun H locs hP hD hS => ?_)
        have hP : va_P D vwCl [(b0_, .inr (9, [.int th_, .long tr_, .ref bn_, .ref bt_, .ref bs_, .ref bk_, .ref bp_, .ref bi_, .ref bl_, .int it_, .int ub_, .int db_, .ref bx_, .int tp_, .int nx_, .int tk_, .int pl_, .int vl_, .int fa_, .ref bc_, .ref bf_])), (bs_, .inl (cy 0, 29, .inl (upd (upd (fil (fun _ => 0) sf_ 25) 0 i_) 1 v_)))] H := hP
        have hD : va_D A [(b0_, .inr (9, [.int th_, .long tr_, .ref bn_, .ref bt_, .ref bs_, .ref bk_, .ref bp_, .ref bi_, .ref bl_, .int it_, .int ub_, .int db_, .ref bx_, .int tp_, .int nx_, .int tk_, .int pl_, .int vl_, .int fa_, .ref bc_, .ref bf_])), (bs_, .inl (cy 0, 29, .inl (upd (upd (fil (fun _ => 0) sf_ 25) 0 i_) 1 v_)))] := hD
        refine lv_aload_n hx hb dX9_sets_38 rfl (lv_at hl 1 rfl) ?_
        refine va_get (D := D) (ci := 9) (v := .ref bs_) (C := RX9) (T := TX9) (N := 21) hx hb hts winX9 hown hK hP 0 rfl rfl 4 (by decide) wf16 (fun _ h9 => h9) rfl dX9_sets_39 ?_
        refine lv_iconst (v := 2) hx hb dX9_sets_42 (by decide) ?_
        refine lv_iload_n hx hb dX9_sets_43 rfl (lv_at hl 4 rfl) ?_
        refine as_i (x := r_) hx hb hK hP hD hS 1 rfl 2 (rfl) (by decide) (by decide) dX9_sets_44 (fun H locs hP hD hS => ?_)
        have hP : va_P D vwCl [(b0_, .inr (9, [.int th_, .long tr_, .ref bn_, .ref bt_, .ref bs_, .ref bk_, .ref bp_, .ref bi_, .ref bl_, .int it_, .int ub_, .int db_, .ref bx_, .int tp_, .int nx_, .int tk_, .int pl_, .int vl_, .int fa_, .ref bc_, .ref bf_])), (bs_, .inl (cy 0, 29, .inl (upd (upd (upd (fil (fun _ => 0) sf_ 25) 0 i_) 1 v_) 2 r_)))] H := hP
        have hD : va_D A [(b0_, .inr (9, [.int th_, .long tr_, .ref bn_, .ref bt_, .ref bs_, .ref bk_, .ref bp_, .ref bi_, .ref bl_, .int it_, .int ub_, .int db_, .ref bx_, .int tp_, .int nx_, .int tk_, .int pl_, .int vl_, .int fa_, .ref bc_, .ref bf_])), (bs_, .inl (cy 0, 29, .inl (upd (upd (upd (fil (fun _ => 0) sf_ 25) 0 i_) 1 v_) 2 r_)))] := hD
        exact RT _ _ () H locs 45 ls (rt_v dX9_sets_45) rfl hP hD hS
      · refine lv_aload_n hx hb dX9_sets_10 rfl (lv_at hl 1 rfl) ?_
        refine va_get (D := D) (ci := 9) (v := .ref bs_) (C := RX9) (T := TX9) (N := 21) hx hb hts winX9 hown hK hP 0 rfl rfl 4 (by decide) wf16 (fun _ h9 => h9) rfl dX9_sets_11 ?_
        refine lv_iload hx hb dX9_sets_14 (lv_at hl 0 rfl) ?_
        refine lv_iconst (v := 0) hx hb dX9_sets_16 (by decide) ?_
        refine as_i (x := 0) hx hb hK hP hD hS 1 rfl j_ (rfl) (by omega) (by decide) dX9_sets_17 (fun H locs hP hD hS => ?_)
        have hP : va_P D vwCl [(b0_, .inr (9, [.int th_, .long tr_, .ref bn_, .ref bt_, .ref bs_, .ref bk_, .ref bp_, .ref bi_, .ref bl_, .int it_, .int ub_, .int db_, .ref bx_, .int tp_, .int nx_, .int tk_, .int pl_, .int vl_, .int fa_, .ref bc_, .ref bf_])), (bs_, .inl (cy 0, 29, .inl (upd (fil (fun _ => 0) sf_ j_) j_ 0)))] H := hP
        have hD : va_D A [(b0_, .inr (9, [.int th_, .long tr_, .ref bn_, .ref bt_, .ref bs_, .ref bk_, .ref bp_, .ref bi_, .ref bl_, .int it_, .int ub_, .int db_, .ref bx_, .int tp_, .int nx_, .int tk_, .int pl_, .int vl_, .int fa_, .ref bc_, .ref bf_])), (bs_, .inl (cy 0, 29, .inl (upd (fil (fun _ => 0) sf_ j_) j_ 0)))] := hD
        refine lv_iinc (v := nI (j_ + 1)) (lv' := [(4, .int (nI (j_ + 1))), (0, .ref b0_), (1, .int i_), (2, .int v_), (3, .int r_)]) hx hb dX9_sets_18 hl (k := 0) rfl (nI_add j_ 1) (by decide) rfl (fun ls hl => ?_)
        refine lv_goto (tgt := 3) hx hb dX9_sets_21 (by decide) ?_
        have hc9 : upd (fil (fun _ => 0) sf_ j_) j_ 0 = fil (fun _ => 0) sf_ (j_ + 1) := fil_s _ _ _
        rw [hc9] at hP hD
        exact ih_3 (j_ + 1) (by first | assumption | omega | decide) (by omega) H locs hP hD hS ls (lv_sub hl [0, 1, 2, 3, 4] rfl)
  have hc9 : sf_ = fil (fun _ => 0) sf_ 0 := (fil_0 _ _).symm
  rw [hc9] at hP hD
  exact L_3 _ 0 (by first | assumption | omega | decide) (Nat.lt_succ_self _) H locs hP hD hS ls (lv_sub hl [0, 1, 2, 3, 4] rfl)
abbrev rmkX9_ride : Room := { frames := 2, cells := 0, slots := 0, locals := 42 }
set_option maxHeartbeats 4000000 in
set_option maxRecDepth 100000 in
theorem kX9_ride {l : Launch} {D : va_G} {cy : Nat → ClassId} {sa : Nat → Nat} (b0_ : Nat) (th_ : Int32) (tr_ : Int64) (bn_ : Nat) (bt_ : Nat) (bs_ : Nat) (bk_ : Nat) (bp_ : Nat) (bi_ : Nat) (bl_ : Nat) (it_ : Int32) (ub_ : Int32) (db_ : Int32) (bx_ : Nat) (tp_ : Int32) (nx_ : Int32) (tk_ : Int32) (pl_ : Int32) (vl_ : Int32) (fa_ : Int32) (bc_ : Nat) (bf_ : Nat) (sf_ : Nat → Int32) (i_ : Int32) (v_ : Int32) (r_ : Int32)  : CD l D cy sa yX9_ride wsX9_ride rmkX9_ride [.ref b0_, .int i_, .int v_, .int r_] [(b0_, .inr (9, [.int th_, .long tr_, .ref bn_, .ref bt_, .ref bs_, .ref bk_, .ref bp_, .ref bi_, .ref bl_, .int it_, .int ub_, .int db_, .ref bx_, .int tp_, .int nx_, .int tk_, .int pl_, .int vl_, .int fa_, .ref bc_, .ref bf_])), (bs_, .inl (cy 0, 29, .inl sf_))] (some (.int (r_ride sf_ i_ v_ r_))) [(b0_, .inr (9, [.int 0, .long tr_, .ref bn_, .ref bt_, .ref bs_, .ref bk_, .ref bp_, .ref bi_, .ref bl_, .int it_, .int ub_, .int db_, .ref bx_, .int tp_, .int nx_, .int tk_, .int pl_, .int vl_, .int fa_, .ref bc_, .ref bf_])), (bs_, .inl (cy 0, 29, .inl (n_ride sf_ i_ v_ r_)))] := by
  refine CT.of cX9_ride 5 (some .int) (by decide) rfl (Nat.le_of_ble_eq_true rfl) ?_
  intro p e s m args below meth c A Q ls F hmn hK hE hA hP hD hS hl RT
  obtain ⟨hx, hb, hml, hown, hts⟩ := id F
  have winX9 : ∀ w ∈ u_ws RX9 TX9 21, w ∈ wsX9_ride := by decide +kernel
  have wf48 := hts (.fieldLink RX9 48 "SelfSteerModel" "thrown" "I") (by decide +kernel)
  have wf16 := hts (.fieldLink RX9 16 "SelfSteerModel" "s" "[I") (by decide +kernel)
  have hl : lv_has ls 5 [(0, .ref b0_), (1, .int i_), (2, .int v_), (3, .int r_)] := hl
  have hP : va_P D vwCl [(b0_, .inr (9, [.int th_, .long tr_, .ref bn_, .ref bt_, .ref bs_, .ref bk_, .ref bp_, .ref bi_, .ref bl_, .int it_, .int ub_, .int db_, .ref bx_, .int tp_, .int nx_, .int tk_, .int pl_, .int vl_, .int fa_, .ref bc_, .ref bf_])), (bs_, .inl (cy 0, 29, .inl sf_))] s.heap := hP
  have hD : va_D A [(b0_, .inr (9, [.int th_, .long tr_, .ref bn_, .ref bt_, .ref bs_, .ref bk_, .ref bp_, .ref bi_, .ref bl_, .int it_, .int ub_, .int db_, .ref bx_, .int tp_, .int nx_, .int tk_, .int pl_, .int vl_, .int fa_, .ref bc_, .ref bf_])), (bs_, .inl (cy 0, 29, .inl sf_))] := hD
  obtain ⟨H, hH⟩ : ∃ H0 : Heap, H0 = s.heap := ⟨_, rfl⟩
  obtain ⟨locs, hlo⟩ : ∃ L0 : List Loc, L0 = [] := ⟨_, rfl⟩
  have hS : va_S A s.heap H locs := by rw [hH, hlo]; exact hS
  rw [← hH] at hP
  show W p l e rmkX9_ride s m args below meth c s.heap [] 0 0 Q (F0 m 0 ls [])
  suffices hgo : W p l e rmkX9_ride s m args below meth c H locs 0 0 Q (F0 m 0 ls []) by rw [hH, hlo] at hgo; exact hgo
  clear hH hlo
  refine lv_aload_n hx hb dX9_ride_0 rfl (lv_at hl 0 rfl) ?_
  refine lv_iconst (v := 0) hx hb dX9_ride_1 (by decide) ?_
  refine va_put (D := D) (ci := 9) (v := .int 0) (ty := .int) (C := RX9) (T := TX9) (N := 21) hx hb hts winX9 tyX9 tyX9_ok nmX9 hown hK hP hD hS 0 rfl rfl 0 (by decide) wf48 (fun _ h9 => h9) rfl (by decide +kernel) rfl rfl (Nat.le_of_ble_eq_true rfl) dX9_ride_2 (fun H locs hP hD hS => ?_)
  have hP : va_P D vwCl [(b0_, .inr (9, [.int 0, .long tr_, .ref bn_, .ref bt_, .ref bs_, .ref bk_, .ref bp_, .ref bi_, .ref bl_, .int it_, .int ub_, .int db_, .ref bx_, .int tp_, .int nx_, .int tk_, .int pl_, .int vl_, .int fa_, .ref bc_, .ref bf_])), (bs_, .inl (cy 0, 29, .inl sf_))] H := hP
  have hD : va_D A [(b0_, .inr (9, [.int 0, .long tr_, .ref bn_, .ref bt_, .ref bs_, .ref bk_, .ref bp_, .ref bi_, .ref bl_, .int it_, .int ub_, .int db_, .ref bx_, .int tp_, .int nx_, .int tk_, .int pl_, .int vl_, .int fa_, .ref bc_, .ref bf_])), (bs_, .inl (cy 0, 29, .inl sf_))] := hD
  refine lv_iload_n hx hb dX9_ride_5 rfl (lv_at hl 1 rfl) ?_
  refine ca_S (n := 1) (rest := []) (wr := [(b0_, .inr (9, [.int 0, .long tr_, .ref bn_, .ref bt_, .ref bs_, .ref bk_, .ref bp_, .ref bi_, .ref bl_, .int it_, .int ub_, .int db_, .ref bx_, .int tp_, .int nx_, .int tk_, .int pl_, .int vl_, .int fa_, .ref bc_, .ref bf_])), (bs_, .inl (cy 0, 29, .inl sf_))]) F hK hE hA hP hD hS hl.1 (kX9_isBicycle (l := l) (D := D) (cy := cy) (sa := sa) i_) gX9_ride_X9_isBicycle rfl rfl rfl (by decide +kernel) ⟨by decide, by decide⟩ [] [0, 1] rfl rfl rfl rfl (by decide) rfl rfl (Nat.le_of_ble_eq_true rfl) dX9_ride_6 ⟨by decide, by decide⟩ (fun v9 u9 H locs hv hP hD hS => ?_)
  subst hv
  have hP : va_P D vwCl [(b0_, .inr (9, [.int 0, .long tr_, .ref bn_, .ref bt_, .ref bs_, .ref bk_, .ref bp_, .ref bi_, .ref bl_, .int it_, .int ub_, .int db_, .ref bx_, .int tp_, .int nx_, .int tk_, .int pl_, .int vl_, .int fa_, .ref bc_, .ref bf_])), (bs_, .inl (cy 0, 29, .inl sf_))] H := hP
  have hD : va_D A [(b0_, .inr (9, [.int 0, .long tr_, .ref bn_, .ref bt_, .ref bs_, .ref bk_, .ref bp_, .ref bi_, .ref bl_, .int it_, .int ub_, .int db_, .ref bx_, .int tp_, .int nx_, .int tk_, .int pl_, .int vl_, .int fa_, .ref bc_, .ref bf_])), (bs_, .inl (cy 0, 29, .inl sf_))] := hD
  refine W.eq (g2 := F0 m 9 ls [.int (bI (inR i_ 0 3))]) rfl ?_
  refine bz_eq (tgt := 31) hx hb dX9_ride_9 (by decide) (fun c_9 => ?_) (fun c_9 => ?_)
  · refine lv_iconst (v := (-1)) hx hb dX9_ride_31 (by decide) ?_
    have hno : ¬ okRide i_ v_ r_ := by first | exact fun z => c_9 z.1 | exact fun z => c_19 z.2.1 | exact fun z => c_28 z.2.2
    have hc9 : sf_ = n_ride sf_ i_ v_ r_ := (if_neg hno).symm
    rw [hc9] at hP hD
    refine lv_eqi (y := r_ride sf_ i_ v_ r_) ((if_neg hno).symm) ?_
    exact RT _ _ () H locs 32 ls (rt_i dX9_ride_32) rfl hP hD hS
  · refine lv_iload_n hx hb dX9_ride_12 rfl (lv_at hl 2 rfl) ?_
    refine lv_iconst (v := 0) hx hb dX9_ride_13 (by decide) ?_
    refine lv_bipush (v := 40) hx hb dX9_ride_14 (by decide) ?_
    refine ca_S (n := 3) (rest := []) (wr := [(b0_, .inr (9, [.int 0, .long tr_, .ref bn_, .ref bt_, .ref bs_, .ref bk_, .ref bp_, .ref bi_, .ref bl_, .int it_, .int ub_, .int db_, .ref bx_, .int tp_, .int nx_, .int tk_, .int pl_, .int vl_, .int fa_, .ref bc_, .ref bf_])), (bs_, .inl (cy 0, 29, .inl sf_))]) F hK hE hA hP hD hS hl.1 (kX9_in (l := l) (D := D) (cy := cy) (sa := sa) v_ 0 40) gX9_ride_X9_in rfl rfl rfl (by decide +kernel) ⟨by decide, by decide⟩ [] [0, 1] rfl rfl rfl rfl (by decide) rfl rfl (Nat.le_of_ble_eq_true rfl) dX9_ride_16 ⟨by decide, by decide⟩ (fun v9 u9 H locs hv hP hD hS => ?_)
    subst hv
    have hP : va_P D vwCl [(b0_, .inr (9, [.int 0, .long tr_, .ref bn_, .ref bt_, .ref bs_, .ref bk_, .ref bp_, .ref bi_, .ref bl_, .int it_, .int ub_, .int db_, .ref bx_, .int tp_, .int nx_, .int tk_, .int pl_, .int vl_, .int fa_, .ref bc_, .ref bf_])), (bs_, .inl (cy 0, 29, .inl sf_))] H := hP
    have hD : va_D A [(b0_, .inr (9, [.int 0, .long tr_, .ref bn_, .ref bt_, .ref bs_, .ref bk_, .ref bp_, .ref bi_, .ref bl_, .int it_, .int ub_, .int db_, .ref bx_, .int tp_, .int nx_, .int tk_, .int pl_, .int vl_, .int fa_, .ref bc_, .ref bf_])), (bs_, .inl (cy 0, 29, .inl sf_))] := hD
    refine W.eq (g2 := F0 m 19 ls [.int (bI (inR v_ 0 40))]) rfl ?_
    refine bz_eq (tgt := 31) hx hb dX9_ride_19 (by decide) (fun c_19 => ?_) (fun c_19 => ?_)
    · refine lv_iconst (v := (-1)) hx hb dX9_ride_31 (by decide) ?_
      have hno : ¬ okRide i_ v_ r_ := by first | exact fun z => c_9 z.1 | exact fun z => c_19 z.2.1 | exact fun z => c_28 z.2.2
      have hc9 : sf_ = n_ride sf_ i_ v_ r_ := (if_neg hno).symm
      rw [hc9] at hP hD
      refine lv_eqi (y := r_ride sf_ i_ v_ r_) ((if_neg hno).symm) ?_
      exact RT _ _ () H locs 32 ls (rt_i dX9_ride_32) rfl hP hD hS
    · refine lv_iload_n hx hb dX9_ride_22 rfl (lv_at hl 3 rfl) ?_
      refine lv_iconst (v := 0) hx hb dX9_ride_23 (by decide) ?_
      refine lv_iconst (v := 1) hx hb dX9_ride_24 (by decide) ?_
      refine ca_S (n := 3) (rest := []) (wr := [(b0_, .inr (9, [.int 0, .long tr_, .ref bn_, .ref bt_, .ref bs_, .ref bk_, .ref bp_, .ref bi_, .ref bl_, .int it_, .int ub_, .int db_, .ref bx_, .int tp_, .int nx_, .int tk_, .int pl_, .int vl_, .int fa_, .ref bc_, .ref bf_])), (bs_, .inl (cy 0, 29, .inl sf_))]) F hK hE hA hP hD hS hl.1 (kX9_in (l := l) (D := D) (cy := cy) (sa := sa) r_ 0 1) gX9_ride_X9_in rfl rfl rfl (by decide +kernel) ⟨by decide, by decide⟩ [] [0, 1] rfl rfl rfl rfl (by decide) rfl rfl (Nat.le_of_ble_eq_true rfl) dX9_ride_25 ⟨by decide, by decide⟩ (fun v9 u9 H locs hv hP hD hS => ?_)
      subst hv
      have hP : va_P D vwCl [(b0_, .inr (9, [.int 0, .long tr_, .ref bn_, .ref bt_, .ref bs_, .ref bk_, .ref bp_, .ref bi_, .ref bl_, .int it_, .int ub_, .int db_, .ref bx_, .int tp_, .int nx_, .int tk_, .int pl_, .int vl_, .int fa_, .ref bc_, .ref bf_])), (bs_, .inl (cy 0, 29, .inl sf_))] H := hP
      have hD : va_D A [(b0_, .inr (9, [.int 0, .long tr_, .ref bn_, .ref bt_, .ref bs_, .ref bk_, .ref bp_, .ref bi_, .ref bl_, .int it_, .int ub_, .int db_, .ref bx_, .int tp_, .int nx_, .int tk_, .int pl_, .int vl_, .int fa_, .ref bc_, .ref bf_])), (bs_, .inl (cy 0, 29, .inl sf_))] := hD
      refine W.eq (g2 := F0 m 28 ls [.int (bI (inR r_ 0 1))]) rfl ?_
      refine bz_ne (tgt := 33) hx hb dX9_ride_28 (by decide) (fun c_28 => ?_) (fun c_28 => ?_)
      · refine lv_aload_n hx hb dX9_ride_33 rfl (lv_at hl 0 rfl) ?_
        refine va_get (D := D) (ci := 9) (v := .ref bs_) (C := RX9) (T := TX9) (N := 21) hx hb hts winX9 hown hK hP 0 rfl rfl 4 (by decide) wf16 (fun _ h9 => h9) rfl dX9_ride_34 ?_
        refine lv_bipush (v := 7) hx hb dX9_ride_37 (by decide) ?_
        refine al_i hx hb hK hP 1 rfl 7 (rfl) (by decide) (by decide) dX9_ride_39 ?_
        refine lv_istore (lv' := [(4, .int (sf_ 7)), (0, .ref b0_), (1, .int i_), (2, .int v_), (3, .int r_)]) hx hb dX9_ride_40 hl (by decide) rfl (fun ls hl => ?_)
        refine lv_aload_n hx hb dX9_ride_42 rfl (lv_at hl 1 rfl) ?_
        refine lv_iload_n hx hb dX9_ride_43 rfl (lv_at hl 2 rfl) ?_
        refine lv_iload_n hx hb dX9_ride_44 rfl (lv_at hl 3 rfl) ?_
        refine lv_iload_n hx hb dX9_ride_45 rfl (lv_at hl 4 rfl) ?_
        refine ca_V (q0 := 0) (n := 3) (rest := []) (wr := []) F hK hE hA hP hD hS hl.1 (kX9_sets (l := l) (D := D) (cy := cy) (sa := sa) b0_ 0 tr_ bn_ bt_ bs_ bk_ bp_ bi_ bl_ it_ ub_ db_ bx_ tp_ nx_ tk_ pl_ vl_ fa_ bc_ bf_ sf_ i_ v_ r_) gX9_ride_X9_sets rfl rfl rfl rfl rfl rfl (by decide +kernel) ⟨by decide, by decide⟩ [0, 1] [] rfl rfl rfl rfl (by decide) rfl rfl (Nat.le_of_ble_eq_true rfl) dX9_ride_46 ⟨by decide, by decide⟩ (fun v9 u9 H locs hv hP hD hS => ?_)
        subst hv
        obtain ⟨hP, hD⟩ := re_ws (ws' := [(b0_, .inr (9, [.int 0, .long tr_, .ref bn_, .ref bt_, .ref bs_, .ref bk_, .ref bp_, .ref bi_, .ref bl_, .int it_, .int ub_, .int db_, .ref bx_, .int tp_, .int nx_, .int tk_, .int pl_, .int vl_, .int fa_, .ref bc_, .ref bf_])), (bs_, .inl (cy 0, 29, .inl (setF sf_ i_ v_ r_)))]) hP hD [0, 1] rfl rfl
        refine W.eq (g2 := F0 m 49 ls []) rfl ?_
        refine lv_iload hx hb dX9_ride_49 (lv_at hl 0 rfl) ?_
        have hok : okRide i_ v_ r_ := ⟨c_9, c_19, c_28⟩
        have hc9 : setF sf_ i_ v_ r_ = n_ride sf_ i_ v_ r_ := (if_pos hok).symm
        rw [hc9] at hP hD
        refine lv_eqi (y := r_ride sf_ i_ v_ r_) ((if_pos hok).symm) ?_
        exact RT _ _ () H locs 51 ls (rt_i dX9_ride_51) rfl hP hD hS
      · refine lv_iconst (v := (-1)) hx hb dX9_ride_31 (by decide) ?_
        have hno : ¬ okRide i_ v_ r_ := by first | exact fun z => c_9 z.1 | exact fun z => c_19 z.2.1 | exact fun z => c_28 z.2.2
        have hc9 : sf_ = n_ride sf_ i_ v_ r_ := (if_neg hno).symm
        rw [hc9] at hP hD
        refine lv_eqi (y := r_ride sf_ i_ v_ r_) ((if_neg hno).symm) ?_
        exact RT _ _ () H locs 32 ls (rt_i dX9_ride_32) rfl hP hD hS
abbrev rmkX9_push : Room := { frames := 1, cells := 0, slots := 0, locals := 22 }
set_option maxHeartbeats 4000000 in
set_option maxRecDepth 100000 in
theorem kX9_push {l : Launch} {D : va_G} {cy : Nat → ClassId} {sa : Nat → Nat} (b0_ : Nat) (th_ : Int32) (tr_ : Int64) (bn_ : Nat) (bt_ : Nat) (bs_ : Nat) (bk_ : Nat) (bp_ : Nat) (bi_ : Nat) (bl_ : Nat) (it_ : Int32) (ub_ : Int32) (db_ : Int32) (bx_ : Nat) (tp_ : Int32) (nx_ : Int32) (tk_ : Int32) (pl_ : Int32) (vl_ : Int32) (fa_ : Int32) (bc_ : Nat) (bf_ : Nat) (sf_ : Nat → Int32) (pb_ : Int32)  : CD l D cy sa yX9_push wsX9_push rmkX9_push [.ref b0_, .int pb_] [(b0_, .inr (9, [.int th_, .long tr_, .ref bn_, .ref bt_, .ref bs_, .ref bk_, .ref bp_, .ref bi_, .ref bl_, .int it_, .int ub_, .int db_, .ref bx_, .int tp_, .int nx_, .int tk_, .int pl_, .int vl_, .int fa_, .ref bc_, .ref bf_])), (bs_, .inl (cy 0, 29, .inl sf_))] (some (.int (r_push sf_ pb_))) [(b0_, .inr (9, [.int 0, .long tr_, .ref bn_, .ref bt_, .ref bs_, .ref bk_, .ref bp_, .ref bi_, .ref bl_, .int it_, .int ub_, .int db_, .ref bx_, .int tp_, .int nx_, .int tk_, .int pl_, .int vl_, .int fa_, .ref bc_, .ref bf_])), (bs_, .inl (cy 0, 29, .inl (n_push sf_ pb_)))] := by
  refine CT.of cX9_push 2 (some .int) (by decide) rfl (Nat.le_of_ble_eq_true rfl) ?_
  intro p e s m args below meth c A Q ls F hmn hK hE hA hP hD hS hl RT
  obtain ⟨hx, hb, hml, hown, hts⟩ := id F
  have winX9 : ∀ w ∈ u_ws RX9 TX9 21, w ∈ wsX9_push := by decide +kernel
  have wf48 := hts (.fieldLink RX9 48 "SelfSteerModel" "thrown" "I") (by decide +kernel)
  have wc70 := hts (.constant RX9 70 (-1000000)) (by decide +kernel)
  have wf16 := hts (.fieldLink RX9 16 "SelfSteerModel" "s" "[I") (by decide +kernel)
  have hl : lv_has ls 2 [(0, .ref b0_), (1, .int pb_)] := hl
  have hP : va_P D vwCl [(b0_, .inr (9, [.int th_, .long tr_, .ref bn_, .ref bt_, .ref bs_, .ref bk_, .ref bp_, .ref bi_, .ref bl_, .int it_, .int ub_, .int db_, .ref bx_, .int tp_, .int nx_, .int tk_, .int pl_, .int vl_, .int fa_, .ref bc_, .ref bf_])), (bs_, .inl (cy 0, 29, .inl sf_))] s.heap := hP
  have hD : va_D A [(b0_, .inr (9, [.int th_, .long tr_, .ref bn_, .ref bt_, .ref bs_, .ref bk_, .ref bp_, .ref bi_, .ref bl_, .int it_, .int ub_, .int db_, .ref bx_, .int tp_, .int nx_, .int tk_, .int pl_, .int vl_, .int fa_, .ref bc_, .ref bf_])), (bs_, .inl (cy 0, 29, .inl sf_))] := hD
  obtain ⟨H, hH⟩ : ∃ H0 : Heap, H0 = s.heap := ⟨_, rfl⟩
  obtain ⟨locs, hlo⟩ : ∃ L0 : List Loc, L0 = [] := ⟨_, rfl⟩
  have hS : va_S A s.heap H locs := by rw [hH, hlo]; exact hS
  rw [← hH] at hP
  show W p l e rmkX9_push s m args below meth c s.heap [] 0 0 Q (F0 m 0 ls [])
  suffices hgo : W p l e rmkX9_push s m args below meth c H locs 0 0 Q (F0 m 0 ls []) by rw [hH, hlo] at hgo; exact hgo
  clear hH hlo
  refine lv_aload_n hx hb dX9_push_0 rfl (lv_at hl 0 rfl) ?_
  refine lv_iconst (v := 0) hx hb dX9_push_1 (by decide) ?_
  refine va_put (D := D) (ci := 9) (v := .int 0) (ty := .int) (C := RX9) (T := TX9) (N := 21) hx hb hts winX9 tyX9 tyX9_ok nmX9 hown hK hP hD hS 0 rfl rfl 0 (by decide) wf48 (fun _ h9 => h9) rfl (by decide +kernel) rfl rfl (Nat.le_of_ble_eq_true rfl) dX9_push_2 (fun H locs hP hD hS => ?_)
  have hP : va_P D vwCl [(b0_, .inr (9, [.int 0, .long tr_, .ref bn_, .ref bt_, .ref bs_, .ref bk_, .ref bp_, .ref bi_, .ref bl_, .int it_, .int ub_, .int db_, .ref bx_, .int tp_, .int nx_, .int tk_, .int pl_, .int vl_, .int fa_, .ref bc_, .ref bf_])), (bs_, .inl (cy 0, 29, .inl sf_))] H := hP
  have hD : va_D A [(b0_, .inr (9, [.int 0, .long tr_, .ref bn_, .ref bt_, .ref bs_, .ref bk_, .ref bp_, .ref bi_, .ref bl_, .int it_, .int ub_, .int db_, .ref bx_, .int tp_, .int nx_, .int tk_, .int pl_, .int vl_, .int fa_, .ref bc_, .ref bf_])), (bs_, .inl (cy 0, 29, .inl sf_))] := hD
  refine lv_iload_n hx hb dX9_push_5 rfl (lv_at hl 1 rfl) ?_
  refine lv_sipush (v := (-1000)) hx hb dX9_push_6 (by decide) ?_
  refine lv_sipush (v := 1000) hx hb dX9_push_9 (by decide) ?_
  refine ca_S (n := 3) (rest := []) (wr := [(b0_, .inr (9, [.int 0, .long tr_, .ref bn_, .ref bt_, .ref bs_, .ref bk_, .ref bp_, .ref bi_, .ref bl_, .int it_, .int ub_, .int db_, .ref bx_, .int tp_, .int nx_, .int tk_, .int pl_, .int vl_, .int fa_, .ref bc_, .ref bf_])), (bs_, .inl (cy 0, 29, .inl sf_))]) F hK hE hA hP hD hS hl.1 (kX9_in (l := l) (D := D) (cy := cy) (sa := sa) pb_ (-1000) 1000) gX9_push_X9_in rfl rfl rfl (by decide +kernel) ⟨by decide, by decide⟩ [] [0, 1] rfl rfl rfl rfl (by decide) rfl rfl (Nat.le_of_ble_eq_true rfl) dX9_push_12 ⟨by decide, by decide⟩ (fun v9 u9 H locs hv hP hD hS => ?_)
  subst hv
  have hP : va_P D vwCl [(b0_, .inr (9, [.int 0, .long tr_, .ref bn_, .ref bt_, .ref bs_, .ref bk_, .ref bp_, .ref bi_, .ref bl_, .int it_, .int ub_, .int db_, .ref bx_, .int tp_, .int nx_, .int tk_, .int pl_, .int vl_, .int fa_, .ref bc_, .ref bf_])), (bs_, .inl (cy 0, 29, .inl sf_))] H := hP
  have hD : va_D A [(b0_, .inr (9, [.int 0, .long tr_, .ref bn_, .ref bt_, .ref bs_, .ref bk_, .ref bp_, .ref bi_, .ref bl_, .int it_, .int ub_, .int db_, .ref bx_, .int tp_, .int nx_, .int tk_, .int pl_, .int vl_, .int fa_, .ref bc_, .ref bf_])), (bs_, .inl (cy 0, 29, .inl sf_))] := hD
  refine W.eq (g2 := F0 m 15 ls [.int (bI (inR pb_ (-1000) 1000))]) rfl ?_
  refine bz_eq (tgt := 29) hx hb dX9_push_15 (by decide) (fun c_15 => ?_) (fun c_15 => ?_)
  · refine lv_ldc (v := (-1000000)) hx hb hown wc70 dX9_push_29 ?_
    have hno : ¬ okPush sf_ pb_ := by first | exact fun z => c_15 z.1 | exact fun z => z.2 c_26
    have hc9 : sf_ = n_push sf_ pb_ := (if_neg hno).symm
    rw [hc9] at hP hD
    refine lv_eqi (y := r_push sf_ pb_) ((if_neg hno).symm) ?_
    exact RT _ _ () H locs 31 ls (rt_i dX9_push_31) rfl hP hD hS
  · refine lv_aload_n hx hb dX9_push_18 rfl (lv_at hl 0 rfl) ?_
    refine va_get (D := D) (ci := 9) (v := .ref bs_) (C := RX9) (T := TX9) (N := 21) hx hb hts winX9 hown hK hP 0 rfl rfl 4 (by decide) wf16 (fun _ h9 => h9) rfl dX9_push_19 ?_
    refine lv_bipush (v := 8) hx hb dX9_push_22 (by decide) ?_
    refine al_i hx hb hK hP 1 rfl 8 (rfl) (by decide) (by decide) dX9_push_24 ?_
    refine lv_iconst (v := 1) hx hb dX9_push_25 (by decide) ?_
    refine lv_icmp_ne (tgt := 32) hx hb dX9_push_26 (by decide) (fun c_26 => ?_) (fun c_26 => ?_)
    · refine lv_aload_n hx hb dX9_push_32 rfl (lv_at hl 0 rfl) ?_
      refine va_get (D := D) (ci := 9) (v := .ref bs_) (C := RX9) (T := TX9) (N := 21) hx hb hts winX9 hown hK hP 0 rfl rfl 4 (by decide) wf16 (fun _ h9 => h9) rfl dX9_push_33 ?_
      refine lv_iconst (v := 3) hx hb dX9_push_36 (by decide) ?_
      refine lv_dup2_11 hx hb dX9_push_37 rfl rfl ?_
      refine al_i hx hb hK hP 1 rfl 3 (rfl) (by decide) (by decide) dX9_push_38 ?_
      refine lv_iload_n hx hb dX9_push_39 rfl (lv_at hl 1 rfl) ?_
      refine lv_iadd hx hb dX9_push_40 ?_
      refine as_i (x := (sf_ 3) + pb_) hx hb hK hP hD hS 1 rfl 3 (rfl) (by decide) (by decide) dX9_push_41 (fun H locs hP hD hS => ?_)
      have hP : va_P D vwCl [(b0_, .inr (9, [.int 0, .long tr_, .ref bn_, .ref bt_, .ref bs_, .ref bk_, .ref bp_, .ref bi_, .ref bl_, .int it_, .int ub_, .int db_, .ref bx_, .int tp_, .int nx_, .int tk_, .int pl_, .int vl_, .int fa_, .ref bc_, .ref bf_])), (bs_, .inl (cy 0, 29, .inl (upd sf_ 3 ((sf_ 3) + pb_))))] H := hP
      have hD : va_D A [(b0_, .inr (9, [.int 0, .long tr_, .ref bn_, .ref bt_, .ref bs_, .ref bk_, .ref bp_, .ref bi_, .ref bl_, .int it_, .int ub_, .int db_, .ref bx_, .int tp_, .int nx_, .int tk_, .int pl_, .int vl_, .int fa_, .ref bc_, .ref bf_])), (bs_, .inl (cy 0, 29, .inl (upd sf_ 3 ((sf_ 3) + pb_))))] := hD
      refine lv_aload_n hx hb dX9_push_42 rfl (lv_at hl 0 rfl) ?_
      refine va_get (D := D) (ci := 9) (v := .ref bs_) (C := RX9) (T := TX9) (N := 21) hx hb hts winX9 hown hK hP 0 rfl rfl 4 (by decide) wf16 (fun _ h9 => h9) rfl dX9_push_43 ?_
      refine lv_bipush (v := 8) hx hb dX9_push_46 (by decide) ?_
      refine lv_aload_n hx hb dX9_push_48 rfl (lv_at hl 0 rfl) ?_
      refine va_get (D := D) (ci := 9) (v := .ref bs_) (C := RX9) (T := TX9) (N := 21) hx hb hts winX9 hown hK hP 0 rfl rfl 4 (by decide) wf16 (fun _ h9 => h9) rfl dX9_push_49 ?_
      refine lv_iconst (v := 3) hx hb dX9_push_52 (by decide) ?_
      refine al_i hx hb hK hP 1 rfl 3 (rfl) (by decide) (by decide) dX9_push_53 ?_
      refine lv_eqi (y := ((sf_ 3) + pb_)) rfl ?_
      refine lv_sipush (v := 1000) hx hb dX9_push_54 (by decide) ?_
      have J_57_55 : ∀ (H : Heap) (locs : List Loc), va_P D vwCl [(b0_, .inr (9, [.int 0, .long tr_, .ref bn_, .ref bt_, .ref bs_, .ref bk_, .ref bp_, .ref bi_, .ref bl_, .int it_, .int ub_, .int db_, .ref bx_, .int tp_, .int nx_, .int tk_, .int pl_, .int vl_, .int fa_, .ref bc_, .ref bf_])), (bs_, .inl (cy 0, 29, .inl (upd sf_ 3 ((sf_ 3) + pb_))))] H → va_D A [(b0_, .inr (9, [.int 0, .long tr_, .ref bn_, .ref bt_, .ref bs_, .ref bk_, .ref bp_, .ref bi_, .ref bl_, .int it_, .int ub_, .int db_, .ref bx_, .int tp_, .int nx_, .int tk_, .int pl_, .int vl_, .int fa_, .ref bc_, .ref bf_])), (bs_, .inl (cy 0, 29, .inl (upd sf_ 3 ((sf_ 3) + pb_))))] → va_S A s.heap H locs → ∀ (ls : Array Slot), lv_has ls 2 [(0, .ref b0_), (1, .int pb_)] → W p l e rmkX9_push s m args below meth c H locs 0 0 Q (F0 m 77 ls [.int (bI ((1000 < ((sf_ 3) + pb_)) ∨ (¬ ((-1000) ≤ ((sf_ 3) + pb_))))), .int 8, .ref bs_]) := by
        intro H locs hP hD hS ls hl
        refine as_i (x := bI ((1000 < ((sf_ 3) + pb_)) ∨ (¬ ((-1000) ≤ ((sf_ 3) + pb_))))) hx hb hK hP hD hS 1 rfl 8 (rfl) (by decide) (by decide) dX9_push_77 (fun H locs hP hD hS => ?_)
        have hP : va_P D vwCl [(b0_, .inr (9, [.int 0, .long tr_, .ref bn_, .ref bt_, .ref bs_, .ref bk_, .ref bp_, .ref bi_, .ref bl_, .int it_, .int ub_, .int db_, .ref bx_, .int tp_, .int nx_, .int tk_, .int pl_, .int vl_, .int fa_, .ref bc_, .ref bf_])), (bs_, .inl (cy 0, 29, .inl (upd (upd sf_ 3 ((sf_ 3) + pb_)) 8 (bI ((1000 < ((sf_ 3) + pb_)) ∨ (¬ ((-1000) ≤ ((sf_ 3) + pb_))))))))] H := hP
        have hD : va_D A [(b0_, .inr (9, [.int 0, .long tr_, .ref bn_, .ref bt_, .ref bs_, .ref bk_, .ref bp_, .ref bi_, .ref bl_, .int it_, .int ub_, .int db_, .ref bx_, .int tp_, .int nx_, .int tk_, .int pl_, .int vl_, .int fa_, .ref bc_, .ref bf_])), (bs_, .inl (cy 0, 29, .inl (upd (upd sf_ 3 ((sf_ 3) + pb_)) 8 (bI ((1000 < ((sf_ 3) + pb_)) ∨ (¬ ((-1000) ≤ ((sf_ 3) + pb_))))))))] := hD
        refine lv_aload_n hx hb dX9_push_78 rfl (lv_at hl 0 rfl) ?_
        refine va_get (D := D) (ci := 9) (v := .ref bs_) (C := RX9) (T := TX9) (N := 21) hx hb hts winX9 hown hK hP 0 rfl rfl 4 (by decide) wf16 (fun _ h9 => h9) rfl dX9_push_79 ?_
        refine lv_iconst (v := 3) hx hb dX9_push_82 (by decide) ?_
        refine al_i hx hb hK hP 1 rfl 3 (rfl) (by decide) (by decide) dX9_push_83 ?_
        refine lv_eqi (y := ((sf_ 3) + pb_)) rfl ?_
        have hok : okPush sf_ pb_ := ⟨c_15, c_26⟩
        have hc9 : upd (upd sf_ 3 ((sf_ 3) + pb_)) 8 (bI ((1000 < ((sf_ 3) + pb_)) ∨ (¬ ((-1000) ≤ ((sf_ 3) + pb_))))) = n_push sf_ pb_ := (if_pos hok).symm
        rw [hc9] at hP hD
        refine lv_eqi (y := r_push sf_ pb_) ((if_pos hok).symm) ?_
        exact RT _ _ () H locs 84 ls (rt_i dX9_push_84) rfl hP hD hS
      refine lv_icmp_gt (tgt := 72) hx hb dX9_push_57 (by decide) (fun c_57 => ?_) (fun c_57 => ?_)
      · refine lv_iconst (v := 1) hx hb dX9_push_72 (by decide) ?_
        refine lv_goto (tgt := 77) hx hb dX9_push_73 (by decide) ?_
        refine lv_eqi (y := bI ((1000 < ((sf_ 3) + pb_)) ∨ (¬ ((-1000) ≤ ((sf_ 3) + pb_))))) (bI_congr (po_t c_57)) ?_
        exact J_57_55 H locs hP hD hS ls (lv_sub hl [0, 1] rfl)
      · refine lv_aload_n hx hb dX9_push_60 rfl (lv_at hl 0 rfl) ?_
        refine va_get (D := D) (ci := 9) (v := .ref bs_) (C := RX9) (T := TX9) (N := 21) hx hb hts winX9 hown hK hP 0 rfl rfl 4 (by decide) wf16 (fun _ h9 => h9) rfl dX9_push_61 ?_
        refine lv_iconst (v := 3) hx hb dX9_push_64 (by decide) ?_
        refine al_i hx hb hK hP 1 rfl 3 (rfl) (by decide) (by decide) dX9_push_65 ?_
        refine lv_eqi (y := ((sf_ 3) + pb_)) rfl ?_
        refine lv_sipush (v := (-1000)) hx hb dX9_push_66 (by decide) ?_
        refine lv_icmp_ge (tgt := 76) hx hb dX9_push_69 (by decide) (fun c_69 => ?_) (fun c_69 => ?_)
        · refine lv_iconst (v := 0) hx hb dX9_push_76 (by decide) ?_
          refine lv_eqi (y := bI ((1000 < ((sf_ 3) + pb_)) ∨ (¬ ((-1000) ≤ ((sf_ 3) + pb_))))) (bI_congr (po_f c_57 (pn_t c_69))) ?_
          exact J_57_55 H locs hP hD hS ls (lv_sub hl [0, 1] rfl)
        · refine lv_iconst (v := 1) hx hb dX9_push_72 (by decide) ?_
          refine lv_goto (tgt := 77) hx hb dX9_push_73 (by decide) ?_
          refine lv_eqi (y := bI ((1000 < ((sf_ 3) + pb_)) ∨ (¬ ((-1000) ≤ ((sf_ 3) + pb_))))) (bI_congr (po_f c_57 (pn_f c_69))) ?_
          exact J_57_55 H locs hP hD hS ls (lv_sub hl [0, 1] rfl)
    · refine lv_ldc (v := (-1000000)) hx hb hown wc70 dX9_push_29 ?_
      have hno : ¬ okPush sf_ pb_ := by first | exact fun z => c_15 z.1 | exact fun z => z.2 c_26
      have hc9 : sf_ = n_push sf_ pb_ := (if_neg hno).symm
      rw [hc9] at hP hD
      refine lv_eqi (y := r_push sf_ pb_) ((if_neg hno).symm) ?_
      exact RT _ _ () H locs 31 ls (rt_i dX9_push_31) rfl hP hD hS
abbrev rmkX9_at : Room := { frames := 1, cells := 0, slots := 0, locals := 22 }
set_option maxHeartbeats 4000000 in
set_option maxRecDepth 100000 in
theorem kX9_at {l : Launch} {D : va_G} {cy : Nat → ClassId} {sa : Nat → Nat} (b0_ : Nat) (th_ : Int32) (tr_ : Int64) (bn_ : Nat) (bt_ : Nat) (bs_ : Nat) (bk_ : Nat) (bp_ : Nat) (bi_ : Nat) (bl_ : Nat) (it_ : Int32) (ub_ : Int32) (db_ : Int32) (bx_ : Nat) (tp_ : Int32) (nx_ : Int32) (tk_ : Int32) (pl_ : Int32) (vl_ : Int32) (fa_ : Int32) (bc_ : Nat) (bf_ : Nat) (sf_ : Nat → Int32) (w_ : Int32)  : CD l D cy sa yX9_at wsX9_at rmkX9_at [.ref b0_, .int w_] [(b0_, .inr (9, [.int th_, .long tr_, .ref bn_, .ref bt_, .ref bs_, .ref bk_, .ref bp_, .ref bi_, .ref bl_, .int it_, .int ub_, .int db_, .ref bx_, .int tp_, .int nx_, .int tk_, .int pl_, .int vl_, .int fa_, .ref bc_, .ref bf_])), (bs_, .inl (cy 0, 29, .inl sf_))] (some (.int (r_at2 sf_ w_))) [(b0_, .inr (9, [.int 0, .long tr_, .ref bn_, .ref bt_, .ref bs_, .ref bk_, .ref bp_, .ref bi_, .ref bl_, .int it_, .int ub_, .int db_, .ref bx_, .int tp_, .int nx_, .int tk_, .int pl_, .int vl_, .int fa_, .ref bc_, .ref bf_])), (bs_, .inl (cy 0, 29, .inl sf_))] := by
  refine CT.of cX9_at 2 (some .int) (by decide) rfl (Nat.le_of_ble_eq_true rfl) ?_
  intro p e s m args below meth c A Q ls F hmn hK hE hA hP hD hS hl RT
  obtain ⟨hx, hb, hml, hown, hts⟩ := id F
  have winX9 : ∀ w_ ∈ u_ws RX9 TX9 21, w_ ∈ wsX9_at := by decide +kernel
  have wf48 := hts (.fieldLink RX9 48 "SelfSteerModel" "thrown" "I") (by decide +kernel)
  have wf16 := hts (.fieldLink RX9 16 "SelfSteerModel" "s" "[I") (by decide +kernel)
  have wc70 := hts (.constant RX9 70 (-1000000)) (by decide +kernel)
  have hl : lv_has ls 2 [(0, .ref b0_), (1, .int w_)] := hl
  have hP : va_P D vwCl [(b0_, .inr (9, [.int th_, .long tr_, .ref bn_, .ref bt_, .ref bs_, .ref bk_, .ref bp_, .ref bi_, .ref bl_, .int it_, .int ub_, .int db_, .ref bx_, .int tp_, .int nx_, .int tk_, .int pl_, .int vl_, .int fa_, .ref bc_, .ref bf_])), (bs_, .inl (cy 0, 29, .inl sf_))] s.heap := hP
  have hD : va_D A [(b0_, .inr (9, [.int th_, .long tr_, .ref bn_, .ref bt_, .ref bs_, .ref bk_, .ref bp_, .ref bi_, .ref bl_, .int it_, .int ub_, .int db_, .ref bx_, .int tp_, .int nx_, .int tk_, .int pl_, .int vl_, .int fa_, .ref bc_, .ref bf_])), (bs_, .inl (cy 0, 29, .inl sf_))] := hD
  obtain ⟨H, hH⟩ : ∃ H0 : Heap, H0 = s.heap := ⟨_, rfl⟩
  obtain ⟨locs, hlo⟩ : ∃ L0 : List Loc, L0 = [] := ⟨_, rfl⟩
  have hS : va_S A s.heap H locs := by rw [hH, hlo]; exact hS
  rw [← hH] at hP
  show W p l e rmkX9_at s m args below meth c s.heap [] 0 0 Q (F0 m 0 ls [])
  suffices hgo : W p l e rmkX9_at s m args below meth c H locs 0 0 Q (F0 m 0 ls []) by rw [hH, hlo] at hgo; exact hgo
  clear hH hlo
  refine lv_aload_n hx hb dX9_at_0 rfl (lv_at hl 0 rfl) ?_
  refine lv_iconst (v := 0) hx hb dX9_at_1 (by decide) ?_
  refine va_put (D := D) (ci := 9) (v := .int 0) (ty := .int) (C := RX9) (T := TX9) (N := 21) hx hb hts winX9 tyX9 tyX9_ok nmX9 hown hK hP hD hS 0 rfl rfl 0 (by decide) wf48 (fun _ h9 => h9) rfl (by decide +kernel) rfl rfl (Nat.le_of_ble_eq_true rfl) dX9_at_2 (fun H locs hP hD hS => ?_)
  have hP : va_P D vwCl [(b0_, .inr (9, [.int 0, .long tr_, .ref bn_, .ref bt_, .ref bs_, .ref bk_, .ref bp_, .ref bi_, .ref bl_, .int it_, .int ub_, .int db_, .ref bx_, .int tp_, .int nx_, .int tk_, .int pl_, .int vl_, .int fa_, .ref bc_, .ref bf_])), (bs_, .inl (cy 0, 29, .inl sf_))] H := hP
  have hD : va_D A [(b0_, .inr (9, [.int 0, .long tr_, .ref bn_, .ref bt_, .ref bs_, .ref bk_, .ref bp_, .ref bi_, .ref bl_, .int it_, .int ub_, .int db_, .ref bx_, .int tp_, .int nx_, .int tk_, .int pl_, .int vl_, .int fa_, .ref bc_, .ref bf_])), (bs_, .inl (cy 0, 29, .inl sf_))] := hD
  refine lv_iload_n hx hb dX9_at_5 rfl (lv_at hl 1 rfl) ?_
  refine lv_iconst (v := 0) hx hb dX9_at_6 (by decide) ?_
  refine lv_bipush (v := 6) hx hb dX9_at_7 (by decide) ?_
  refine ca_S (n := 3) (rest := []) (wr := [(b0_, .inr (9, [.int 0, .long tr_, .ref bn_, .ref bt_, .ref bs_, .ref bk_, .ref bp_, .ref bi_, .ref bl_, .int it_, .int ub_, .int db_, .ref bx_, .int tp_, .int nx_, .int tk_, .int pl_, .int vl_, .int fa_, .ref bc_, .ref bf_])), (bs_, .inl (cy 0, 29, .inl sf_))]) F hK hE hA hP hD hS hl.1 (kX9_in (l := l) (D := D) (cy := cy) (sa := sa) w_ 0 6) gX9_at_X9_in rfl rfl rfl (by decide +kernel) ⟨by decide, by decide⟩ [] [0, 1] rfl rfl rfl rfl (by decide) rfl rfl (Nat.le_of_ble_eq_true rfl) dX9_at_9 ⟨by decide, by decide⟩ (fun v9 u9 H locs hv hP hD hS => ?_)
  subst hv
  have hP : va_P D vwCl [(b0_, .inr (9, [.int 0, .long tr_, .ref bn_, .ref bt_, .ref bs_, .ref bk_, .ref bp_, .ref bi_, .ref bl_, .int it_, .int ub_, .int db_, .ref bx_, .int tp_, .int nx_, .int tk_, .int pl_, .int vl_, .int fa_, .ref bc_, .ref bf_])), (bs_, .inl (cy 0, 29, .inl sf_))] H := hP
  have hD : va_D A [(b0_, .inr (9, [.int 0, .long tr_, .ref bn_, .ref bt_, .ref bs_, .ref bk_, .ref bp_, .ref bi_, .ref bl_, .int it_, .int ub_, .int db_, .ref bx_, .int tp_, .int nx_, .int tk_, .int pl_, .int vl_, .int fa_, .ref bc_, .ref bf_])), (bs_, .inl (cy 0, 29, .inl sf_))] := hD
  refine W.eq (g2 := F0 m 12 ls [.int (bI (inR w_ 0 6))]) rfl ?_
  refine bz_ne (tgt := 20) hx hb dX9_at_12 (by decide) (fun c_12 => ?_) (fun c_12 => ?_)
  · obtain ⟨w1_, hw1, rfl⟩ := inR_n 6 (by decide) rfl c_12
    refine lv_iload_n hx hb dX9_at_20 rfl (lv_at hl 1 rfl) ?_
    refine lv_iconst (v := 5) hx hb dX9_at_21 (by decide) ?_
    refine cn_ge (tgt := 36) hx hb w1_ 5 rfl rfl (by omega) (by omega) dX9_at_22 (by decide) (fun c_22 => ?_) (fun c_22 => ?_)
    · refine lv_iload_n hx hb dX9_at_36 rfl (lv_at hl 1 rfl) ?_
      refine lv_iconst (v := 5) hx hb dX9_at_37 (by decide) ?_
      refine cn_ne (tgt := 51) hx hb w1_ 5 rfl rfl (by omega) (by omega) dX9_at_38 (by decide) (fun c_38 => ?_) (fun c_38 => ?_)
      · refine lv_aload_n hx hb dX9_at_51 rfl (lv_at hl 0 rfl) ?_
        refine va_get (D := D) (ci := 9) (v := .ref bs_) (C := RX9) (T := TX9) (N := 21) hx hb hts winX9 hown hK hP 0 rfl rfl 4 (by decide) wf16 (fun _ h9 => h9) rfl dX9_at_52 ?_
        refine lv_bipush (v := 9) hx hb dX9_at_55 (by decide) ?_
        refine al_i hx hb hK hP 1 rfl 9 (rfl) (by decide) (by decide) dX9_at_57 ?_
        refine lv_eqi (y := r_at2 sf_ (nI w1_)) (by rw [r_at2, if_pos c_12, cl_n (by omega), atN]; first | (rw [if_pos c_22, if_pos c_38]; done) | (rw [if_pos c_22, if_neg c_38]; done) | rw [if_neg c_22]) ?_
        exact RT _ _ () H locs 58 ls (rt_i dX9_at_58) rfl hP hD hS
      · refine lv_aload_n hx hb dX9_at_41 rfl (lv_at hl 0 rfl) ?_
        refine va_get (D := D) (ci := 9) (v := .ref bs_) (C := RX9) (T := TX9) (N := 21) hx hb hts winX9 hown hK hP 0 rfl rfl 4 (by decide) wf16 (fun _ h9 => h9) rfl dX9_at_42 ?_
        refine lv_bipush (v := 8) hx hb dX9_at_45 (by decide) ?_
        refine al_i hx hb hK hP 1 rfl 8 (rfl) (by decide) (by decide) dX9_at_47 ?_
        refine lv_goto (tgt := 58) hx hb dX9_at_48 (by decide) ?_
        refine lv_eqi (y := r_at2 sf_ (nI w1_)) (by rw [r_at2, if_pos c_12, cl_n (by omega), atN]; first | (rw [if_pos c_22, if_pos c_38]; done) | (rw [if_pos c_22, if_neg c_38]; done) | rw [if_neg c_22]) ?_
        exact RT _ _ () H locs 58 ls (rt_i dX9_at_58) rfl hP hD hS
    · refine lv_aload_n hx hb dX9_at_25 rfl (lv_at hl 0 rfl) ?_
      refine va_get (D := D) (ci := 9) (v := .ref bs_) (C := RX9) (T := TX9) (N := 21) hx hb hts winX9 hown hK hP 0 rfl rfl 4 (by decide) wf16 (fun _ h9 => h9) rfl dX9_at_26 ?_
      refine lv_iconst (v := 3) hx hb dX9_at_29 (by decide) ?_
      refine lv_iload_n hx hb dX9_at_30 rfl (lv_at hl 1 rfl) ?_
      refine lv_iadd hx hb dX9_at_31 ?_
      refine lv_eqi (y := nI (3 + w1_)) (nI_add 3 w1_) ?_
      refine al_i hx hb hK hP 1 rfl (3 + w1_) (rfl) (by omega) (by decide) dX9_at_32 ?_
      refine lv_goto (tgt := 58) hx hb dX9_at_33 (by decide) ?_
      refine lv_eqi (y := r_at2 sf_ (nI w1_)) (by rw [r_at2, if_pos c_12, cl_n (by omega), atN]; first | (rw [if_pos c_22, if_pos c_38]; done) | (rw [if_pos c_22, if_neg c_38]; done) | rw [if_neg c_22]) ?_
      exact RT _ _ () H locs 58 ls (rt_i dX9_at_58) rfl hP hD hS
  · refine lv_ldc (v := (-1000000)) hx hb hown wc70 dX9_at_15 ?_
    refine lv_goto (tgt := 58) hx hb dX9_at_17 (by decide) ?_
    refine lv_eqi (y := r_at2 sf_ w_) ((if_neg c_12).symm) ?_
    exact RT _ _ () H locs 58 ls (rt_i dX9_at_58) rfl hP hD hS
abbrev rmkX9_ticks : Room := { frames := 2, cells := 0, slots := 0, locals := 51 }
set_option maxHeartbeats 4000000 in
set_option maxRecDepth 100000 in
theorem kX9_ticks {l : Launch} {D : va_G} {cy : Nat → ClassId} {sa : Nat → Nat} (b0_ : Nat) (th_ : Int32) (tr_ : Int64) (bn_ : Nat) (bt_ : Nat) (bs_ : Nat) (bk_ : Nat) (bp_ : Nat) (bi_ : Nat) (bl_ : Nat) (it_ : Int32) (ub_ : Int32) (db_ : Int32) (bx_ : Nat) (tp_ : Int32) (nx_ : Int32) (tk_ : Int32) (pl_ : Int32) (vl_ : Int32) (fa_ : Int32) (bc_ : Nat) (bf_ : Nat) (nb_ : Nat → Nat → Int32) (ft_ : Nat → Int32) (sf_ : Nat → Int32) (lw_ : Nat → Int32) (i_ : Nat) (d_ : Nat) (n_ : Int32) (hi : i_ < 4) (hof : sf_ 0 = nI i_) (hd : lw_ 3 = nI d_) (hd5 : d_ ≤ 5) (h4 : ¬ nb_ i_ 4 = 0) (h40 : ¬ 10 * nb_ i_ 4 = 0) : CT (S := (Nat → Int32)) l D cy sa yX9_ticks wsX9_ticks rmkX9_ticks [.ref b0_, .int n_] [(b0_, .inr (9, [.int th_, .long tr_, .ref bn_, .ref bt_, .ref bs_, .ref bk_, .ref bp_, .ref bi_, .ref bl_, .int it_, .int ub_, .int db_, .ref bx_, .int tp_, .int nx_, .int tk_, .int pl_, .int vl_, .int fa_, .ref bc_, .ref bf_])), (bn_, .inl (cy 0, 24, .inl (nbF nb_))), (bt_, .inl (cy 0, 6, .inl ft_)), (bs_, .inl (cy 0, 29, .inl sf_)), (bl_, .inl (cy 0, 10, .inl lw_))] (fun v9 ft2 => v9 = some (.int (r_ticks (nb_ i_) lw_ sf_ d_ n_))) (fun ft2 => [(b0_, .inr (9, [.int 0, .long tr_, .ref bn_, .ref bt_, .ref bs_, .ref bk_, .ref bp_, .ref bi_, .ref bl_, .int it_, .int ub_, .int db_, .ref bx_, .int tp_, .int nx_, .int tk_, .int pl_, .int vl_, .int fa_, .ref bc_, .ref bf_])), (bn_, .inl (cy 0, 24, .inl (nbF nb_))), (bt_, .inl (cy 0, 6, .inl ft2)), (bs_, .inl (cy 0, 29, .inl (n_ticks (nb_ i_) lw_ sf_ d_ n_))), (bl_, .inl (cy 0, 10, .inl lw_))]) 0 0 := by
  refine CT.of cX9_ticks 3 (some .int) (by decide) rfl (Nat.le_of_ble_eq_true rfl) ?_
  intro p e s m args below meth c A Q ls F hmn hK hE hA hP hD hS hl RT
  obtain ⟨hx, hb, hml, hown, hts⟩ := id F
  have winX9 : ∀ w ∈ u_ws RX9 TX9 21, w ∈ wsX9_ticks := by decide +kernel
  have wf48 := hts (.fieldLink RX9 48 "SelfSteerModel" "thrown" "I") (by decide +kernel)
  have wf16 := hts (.fieldLink RX9 16 "SelfSteerModel" "s" "[I") (by decide +kernel)
  have hl : lv_has ls 3 [(0, .ref b0_), (1, .int n_)] := hl
  have hP : va_P D vwCl [(b0_, .inr (9, [.int th_, .long tr_, .ref bn_, .ref bt_, .ref bs_, .ref bk_, .ref bp_, .ref bi_, .ref bl_, .int it_, .int ub_, .int db_, .ref bx_, .int tp_, .int nx_, .int tk_, .int pl_, .int vl_, .int fa_, .ref bc_, .ref bf_])), (bn_, .inl (cy 0, 24, .inl (nbF nb_))), (bt_, .inl (cy 0, 6, .inl ft_)), (bs_, .inl (cy 0, 29, .inl sf_)), (bl_, .inl (cy 0, 10, .inl lw_))] s.heap := hP
  have hD : va_D A [(b0_, .inr (9, [.int th_, .long tr_, .ref bn_, .ref bt_, .ref bs_, .ref bk_, .ref bp_, .ref bi_, .ref bl_, .int it_, .int ub_, .int db_, .ref bx_, .int tp_, .int nx_, .int tk_, .int pl_, .int vl_, .int fa_, .ref bc_, .ref bf_])), (bn_, .inl (cy 0, 24, .inl (nbF nb_))), (bt_, .inl (cy 0, 6, .inl ft_)), (bs_, .inl (cy 0, 29, .inl sf_)), (bl_, .inl (cy 0, 10, .inl lw_))] := hD
  obtain ⟨H, hH⟩ : ∃ H0 : Heap, H0 = s.heap := ⟨_, rfl⟩
  obtain ⟨locs, hlo⟩ : ∃ L0 : List Loc, L0 = [] := ⟨_, rfl⟩
  have hS : va_S A s.heap H locs := by rw [hH, hlo]; exact hS
  rw [← hH] at hP
  show W p l e rmkX9_ticks s m args below meth c s.heap [] 0 0 Q (F0 m 0 ls [])
  suffices hgo : W p l e rmkX9_ticks s m args below meth c H locs 0 0 Q (F0 m 0 ls []) by rw [hH, hlo] at hgo; exact hgo
  clear hH hlo
  refine lv_aload_n hx hb dX9_ticks_0 rfl (lv_at hl 0 rfl) ?_
  refine lv_iconst (v := 0) hx hb dX9_ticks_1 (by decide) ?_
  refine va_put (D := D) (ci := 9) (v := .int 0) (ty := .int) (C := RX9) (T := TX9) (N := 21) hx hb hts winX9 tyX9 tyX9_ok nmX9 hown hK hP hD hS 0 rfl rfl 0 (by decide) wf48 (fun _ h9 => h9) rfl (by decide +kernel) rfl rfl (Nat.le_of_ble_eq_true rfl) dX9_ticks_2 (fun H locs hP hD hS => ?_)
  have hP : va_P D vwCl [(b0_, .inr (9, [.int 0, .long tr_, .ref bn_, .ref bt_, .ref bs_, .ref bk_, .ref bp_, .ref bi_, .ref bl_, .int it_, .int ub_, .int db_, .ref bx_, .int tp_, .int nx_, .int tk_, .int pl_, .int vl_, .int fa_, .ref bc_, .ref bf_])), (bn_, .inl (cy 0, 24, .inl (nbF nb_))), (bt_, .inl (cy 0, 6, .inl ft_)), (bs_, .inl (cy 0, 29, .inl sf_)), (bl_, .inl (cy 0, 10, .inl lw_))] H := hP
  have hD : va_D A [(b0_, .inr (9, [.int 0, .long tr_, .ref bn_, .ref bt_, .ref bs_, .ref bk_, .ref bp_, .ref bi_, .ref bl_, .int it_, .int ub_, .int db_, .ref bx_, .int tp_, .int nx_, .int tk_, .int pl_, .int vl_, .int fa_, .ref bc_, .ref bf_])), (bn_, .inl (cy 0, 24, .inl (nbF nb_))), (bt_, .inl (cy 0, 6, .inl ft_)), (bs_, .inl (cy 0, 29, .inl sf_)), (bl_, .inl (cy 0, 10, .inl lw_))] := hD
  refine lv_iload_n hx hb dX9_ticks_5 rfl (lv_at hl 1 rfl) ?_
  refine lv_iconst (v := 1) hx hb dX9_ticks_6 (by decide) ?_
  refine lv_sipush (v := 200) hx hb dX9_ticks_7 (by decide) ?_
  refine ca_S (n := 3) (rest := []) (wr := [(b0_, .inr (9, [.int 0, .long tr_, .ref bn_, .ref bt_, .ref bs_, .ref bk_, .ref bp_, .ref bi_, .ref bl_, .int it_, .int ub_, .int db_, .ref bx_, .int tp_, .int nx_, .int tk_, .int pl_, .int vl_, .int fa_, .ref bc_, .ref bf_])), (bn_, .inl (cy 0, 24, .inl (nbF nb_))), (bt_, .inl (cy 0, 6, .inl ft_)), (bs_, .inl (cy 0, 29, .inl sf_)), (bl_, .inl (cy 0, 10, .inl lw_))]) F hK hE hA hP hD hS hl.1 (kX9_in (l := l) (D := D) (cy := cy) (sa := sa) n_ 1 200) gX9_ticks_X9_in rfl rfl rfl (by decide +kernel) ⟨by decide, by decide⟩ [] [0, 1, 2, 3, 4] rfl rfl rfl rfl (by decide) rfl rfl (Nat.le_of_ble_eq_true rfl) dX9_ticks_10 ⟨by decide, by decide⟩ (fun v9 u9 H locs hv hP hD hS => ?_)
  subst hv
  have hP : va_P D vwCl [(b0_, .inr (9, [.int 0, .long tr_, .ref bn_, .ref bt_, .ref bs_, .ref bk_, .ref bp_, .ref bi_, .ref bl_, .int it_, .int ub_, .int db_, .ref bx_, .int tp_, .int nx_, .int tk_, .int pl_, .int vl_, .int fa_, .ref bc_, .ref bf_])), (bn_, .inl (cy 0, 24, .inl (nbF nb_))), (bt_, .inl (cy 0, 6, .inl ft_)), (bs_, .inl (cy 0, 29, .inl sf_)), (bl_, .inl (cy 0, 10, .inl lw_))] H := hP
  have hD : va_D A [(b0_, .inr (9, [.int 0, .long tr_, .ref bn_, .ref bt_, .ref bs_, .ref bk_, .ref bp_, .ref bi_, .ref bl_, .int it_, .int ub_, .int db_, .ref bx_, .int tp_, .int nx_, .int tk_, .int pl_, .int vl_, .int fa_, .ref bc_, .ref bf_])), (bn_, .inl (cy 0, 24, .inl (nbF nb_))), (bt_, .inl (cy 0, 6, .inl ft_)), (bs_, .inl (cy 0, 29, .inl sf_)), (bl_, .inl (cy 0, 10, .inl lw_))] := hD
  refine W.eq (g2 := F0 m 13 ls [.int (bI (inR n_ 1 200))]) rfl ?_
  refine bz_ne (tgt := 18) hx hb dX9_ticks_13 (by decide) (fun c_13 => ?_) (fun c_13 => ?_)
  · refine lv_aload_n hx hb dX9_ticks_18 rfl (lv_at hl 0 rfl) ?_
    refine va_get (D := D) (ci := 9) (v := .ref bs_) (C := RX9) (T := TX9) (N := 21) hx hb hts winX9 hown hK hP 0 rfl rfl 4 (by decide) wf16 (fun _ h9 => h9) rfl dX9_ticks_19 ?_
    refine lv_bipush (v := 8) hx hb dX9_ticks_22 (by decide) ?_
    refine al_i hx hb hK hP 3 rfl 8 (rfl) (by decide) (by decide) dX9_ticks_24 ?_
    refine lv_iconst (v := 1) hx hb dX9_ticks_25 (by decide) ?_
    refine lv_icmp_ne (tgt := 32) hx hb dX9_ticks_26 (by decide) (fun c_26 => ?_) (fun c_26 => ?_)
    · obtain ⟨n1_, hn1p, hn1, rfl⟩ := inR_1 200 (by decide) rfl c_13
      refine lv_iconst (v := 0) hx hb dX9_ticks_32 (by decide) ?_
      refine lv_istore_n (lv' := [(2, .int 0), (0, .ref b0_), (1, .int (nI n1_))]) hx hb dX9_ticks_33 rfl hl (by decide) rfl (fun ls hl => ?_)
      have L_34 : ∀ (n_ : Nat) (c1_ : Nat) (q_ : Nat) (sfc_ : Nat → Int32) (ftc_ : Nat → Int32), (c1_ + q_ = n1_) → (tks (nb_ i_) lw_ d_ q_ sfc_ c1_ = tks (nb_ i_) lw_ d_ n1_ sf_ 0) → (sfc_ 0 = nI i_) → q_ < n_ → ∀ (H : Heap) (locs : List Loc), va_P D vwCl [(b0_, .inr (9, [.int 0, .long tr_, .ref bn_, .ref bt_, .ref bs_, .ref bk_, .ref bp_, .ref bi_, .ref bl_, .int it_, .int ub_, .int db_, .ref bx_, .int tp_, .int nx_, .int tk_, .int pl_, .int vl_, .int fa_, .ref bc_, .ref bf_])), (bn_, .inl (cy 0, 24, .inl (nbF nb_))), (bt_, .inl (cy 0, 6, .inl ftc_)), (bs_, .inl (cy 0, 29, .inl sfc_)), (bl_, .inl (cy 0, 10, .inl lw_))] H → va_D A [(b0_, .inr (9, [.int 0, .long tr_, .ref bn_, .ref bt_, .ref bs_, .ref bk_, .ref bp_, .ref bi_, .ref bl_, .int it_, .int ub_, .int db_, .ref bx_, .int tp_, .int nx_, .int tk_, .int pl_, .int vl_, .int fa_, .ref bc_, .ref bf_])), (bn_, .inl (cy 0, 24, .inl (nbF nb_))), (bt_, .inl (cy 0, 6, .inl ftc_)), (bs_, .inl (cy 0, 29, .inl sfc_)), (bl_, .inl (cy 0, 10, .inl lw_))] → va_S A s.heap H locs → ∀ (ls : Array Slot), lv_has ls 3 [(2, .int (nI c1_)), (0, .ref b0_), (1, .int (nI n1_))] → W p l e rmkX9_ticks s m args below meth c H locs 0 0 Q (F0 m 34 ls []) := by
        intro n_
        induction n_ with
        | zero => intro c1_ q_ sfc_ ftc_ hcq hR hofc hn; exact absurd hn (Nat.not_lt_zero _)
        | succ n_ ih_34 =>
          intro c1_ q_ sfc_ ftc_ hcq hR hofc hn_34 H locs hP hD hS ls hl
          refine lv_iload_n hx hb dX9_ticks_34 rfl (lv_at hl 0 rfl) ?_
          refine lv_iload_n hx hb dX9_ticks_35 rfl (lv_at hl 2 rfl) ?_
          refine cn_ge (tgt := 59) hx hb c1_ n1_ rfl rfl (by omega) (by omega) dX9_ticks_36 (by decide) (fun c_36 => ?_) (fun c_36 => ?_)
          · refine lv_iload_n hx hb dX9_ticks_59 rfl (lv_at hl 0 rfl) ?_
            have hfin : tks (nb_ i_) lw_ d_ n1_ sf_ 0 = (c1_, sfc_) := by rw [← hR]; first | (rw [show q_ = 0 by omega]; rfl) | rw [show q_ = (q_ - 1) + 1 by omega, tks, if_neg c_46]
            have hc9 : sfc_ = n_ticks (nb_ i_) lw_ sf_ d_ (nI n1_) := by rw [n_ticks, if_pos c_13, if_neg c_26, cl_n (by omega), hfin]
            rw [hc9] at hP hD
            refine lv_eqi (y := r_ticks (nb_ i_) lw_ sf_ d_ (nI n1_)) (by rw [r_ticks, if_pos c_13, if_neg c_26, cl_n (by omega), hfin]) ?_
            exact RT _ _ (ftc_) H locs 60 ls (rt_i dX9_ticks_60) rfl hP hD hS
          · refine lv_aload_n hx hb dX9_ticks_39 rfl (lv_at hl 1 rfl) ?_
            refine va_get (D := D) (ci := 9) (v := .ref bs_) (C := RX9) (T := TX9) (N := 21) hx hb hts winX9 hown hK hP 0 rfl rfl 4 (by decide) wf16 (fun _ h9 => h9) rfl dX9_ticks_40 ?_
            refine lv_bipush (v := 8) hx hb dX9_ticks_43 (by decide) ?_
            refine al_i hx hb hK hP 3 rfl 8 (rfl) (by decide) (by decide) dX9_ticks_45 ?_
            refine lv_if_ne (tgt := 59) hx hb dX9_ticks_46 (by decide) (fun c_46 => ?_) (fun c_46 => ?_)
            · refine lv_iload_n hx hb dX9_ticks_59 rfl (lv_at hl 0 rfl) ?_
              have hfin : tks (nb_ i_) lw_ d_ n1_ sf_ 0 = (c1_, sfc_) := by rw [← hR]; first | (rw [show q_ = 0 by omega]; rfl) | rw [show q_ = (q_ - 1) + 1 by omega, tks, if_neg c_46]
              have hc9 : sfc_ = n_ticks (nb_ i_) lw_ sf_ d_ (nI n1_) := by rw [n_ticks, if_pos c_13, if_neg c_26, cl_n (by omega), hfin]
              rw [hc9] at hP hD
              refine lv_eqi (y := r_ticks (nb_ i_) lw_ sf_ d_ (nI n1_)) (by rw [r_ticks, if_pos c_13, if_neg c_26, cl_n (by omega), hfin]) ?_
              exact RT _ _ (ftc_) H locs 60 ls (rt_i dX9_ticks_60) rfl hP hD hS
            · refine lv_aload_n hx hb dX9_ticks_49 rfl (lv_at hl 1 rfl) ?_
              refine ca_V (q0 := 0) (n := 0) (rest := []) (wr := []) F hK hE hA hP hD hS hl.1 (kX9_tick (l := l) (D := D) (cy := cy) (sa := sa) b0_ 0 tr_ bn_ bt_ bs_ bk_ bp_ bi_ bl_ it_ ub_ db_ bx_ tp_ nx_ tk_ pl_ vl_ fa_ bc_ bf_ nb_ ftc_ sfc_ lw_ i_ d_ (by first | assumption | omega | decide) (by first | assumption | omega | decide) (by first | assumption | omega | decide) (by first | assumption | omega | decide) (by first | assumption | omega | decide) (by first | assumption | omega | decide)) gX9_ticks_X9_tick rfl rfl rfl rfl rfl rfl (by decide +kernel) ⟨by decide, by decide⟩ [0, 1, 2, 3, 4] [] rfl rfl rfl rfl (by decide) rfl rfl (Nat.le_of_ble_eq_true rfl) dX9_ticks_50 ⟨by decide, by decide⟩ (fun v9 u9 H locs hv hP hD hS => ?_)
              subst hv
              obtain ⟨hP, hD⟩ := re_ws (ws' := [(b0_, .inr (9, [.int 0, .long tr_, .ref bn_, .ref bt_, .ref bs_, .ref bk_, .ref bp_, .ref bi_, .ref bl_, .int it_, .int ub_, .int db_, .ref bx_, .int tp_, .int nx_, .int tk_, .int pl_, .int vl_, .int fa_, .ref bc_, .ref bf_])), (bn_, .inl (cy 0, 24, .inl (nbF nb_))), (bt_, .inl (cy 0, 6, .inl (nb_ i_))), (bs_, .inl (cy 0, 29, .inl (tickF (nb_ i_) lw_ sfc_ d_))), (bl_, .inl (cy 0, 10, .inl lw_))]) hP hD [0, 1, 2, 3, 4] rfl rfl
              refine W.eq (g2 := F0 m 53 ls []) rfl ?_
              refine lv_iinc (v := nI (c1_ + 1)) (lv' := [(2, .int (nI (c1_ + 1))), (0, .ref b0_), (1, .int (nI n1_))]) hx hb dX9_ticks_53 hl (k := 0) rfl (nI_add c1_ 1) (by decide) rfl (fun ls hl => ?_)
              refine lv_goto (tgt := 34) hx hb dX9_ticks_56 (by decide) ?_
              exact ih_34 (c1_ + 1) (q_ - 1) (tickF (nb_ i_) lw_ sfc_ d_) (nb_ i_) (by first | assumption | omega | decide) (by rw [show q_ = (q_ - 1) + 1 by omega, tks, if_pos c_46] at hR; exact hR) ((tickF_0 _ _ _ _).trans hofc) (by omega) H locs hP hD hS ls (lv_sub hl [0, 1, 2] rfl)
      exact L_34 _ 0 n1_ sf_ ft_ (Nat.zero_add _) (rfl) (hof) (Nat.lt_succ_self _) H locs hP hD hS ls (lv_sub hl [0, 1, 2] rfl)
    · refine lv_bipush (v := (-2)) hx hb dX9_ticks_29 (by decide) ?_
      have hc9 : sf_ = n_ticks (nb_ i_) lw_ sf_ d_ n_ := by rw [n_ticks, if_pos c_13, if_pos c_26]
      rw [hc9] at hP hD
      refine lv_eqi (y := r_ticks (nb_ i_) lw_ sf_ d_ n_) (by rw [r_ticks, if_pos c_13, if_pos c_26]) ?_
      exact RT _ _ (ft_) H locs 31 ls (rt_i dX9_ticks_31) rfl hP hD hS
  · refine lv_iconst (v := (-1)) hx hb dX9_ticks_16 (by decide) ?_
    have hc9 : sf_ = n_ticks (nb_ i_) lw_ sf_ d_ n_ := (if_neg c_13).symm
    rw [hc9] at hP hD
    refine lv_eqi (y := r_ticks (nb_ i_) lw_ sf_ d_ n_) ((if_neg c_13).symm) ?_
    exact RT _ _ (ft_) H locs 17 ls (rt_i dX9_ticks_17) rfl hP hD hS
abbrev rmkX9_bears : Room := { frames := 2, cells := 0, slots := 0, locals := 51 }
set_option maxHeartbeats 4000000 in
set_option maxRecDepth 100000 in
theorem kX9_bears {l : Launch} {D : va_G} {cy : Nat → ClassId} {sa : Nat → Nat} (b0_ : Nat) (th_ : Int32) (tr_ : Int64) (bn_ : Nat) (bt_ : Nat) (bs_ : Nat) (bk_ : Nat) (bp_ : Nat) (bi_ : Nat) (bl_ : Nat) (it_ : Int32) (ub_ : Int32) (db_ : Int32) (bx_ : Nat) (tp_ : Int32) (nx_ : Int32) (tk_ : Int32) (pl_ : Int32) (vl_ : Int32) (fa_ : Int32) (bc_ : Nat) (bf_ : Nat) (nb_ : Nat → Nat → Int32) (ft_ : Nat → Int32) (sf_ : Nat → Int32) (lw_ : Nat → Int32) (i_ : Nat) (d_ : Nat) (sp_ : Nat → Int32) (n_ : Int32) (hi : i_ < 4) (hof : sf_ 0 = nI i_) (hd : lw_ 3 = nI d_) (hd5 : d_ ≤ 5) (h4 : ¬ nb_ i_ 4 = 0) (h40 : ¬ 10 * nb_ i_ 4 = 0) : CT (S := (Nat → Int32) × (Nat → Int32)) l D cy sa yX9_bears wsX9_bears rmkX9_bears [.ref b0_, .int n_] [(b0_, .inr (9, [.int th_, .long tr_, .ref bn_, .ref bt_, .ref bs_, .ref bk_, .ref bp_, .ref bi_, .ref bl_, .int it_, .int ub_, .int db_, .ref bx_, .int tp_, .int nx_, .int tk_, .int pl_, .int vl_, .int fa_, .ref bc_, .ref bf_])), (bn_, .inl (cy 0, 24, .inl (nbF nb_))), (bt_, .inl (cy 0, 6, .inl ft_)), (bs_, .inl (cy 0, 29, .inl sf_)), (bp_, .inl (cy 0, 29, .inl sp_)), (bl_, .inl (cy 0, 10, .inl lw_))] (fun v9 u9 => match u9 with | (ft2, sp2) => v9 = some (.int (r_bears (nb_ i_) lw_ sf_ d_ n_))) (fun u9 => match u9 with | (ft2, sp2) => [(b0_, .inr (9, [.int 0, .long tr_, .ref bn_, .ref bt_, .ref bs_, .ref bk_, .ref bp_, .ref bi_, .ref bl_, .int it_, .int ub_, .int db_, .ref bx_, .int tp_, .int nx_, .int tk_, .int pl_, .int vl_, .int fa_, .ref bc_, .ref bf_])), (bn_, .inl (cy 0, 24, .inl (nbF nb_))), (bt_, .inl (cy 0, 6, .inl ft2)), (bs_, .inl (cy 0, 29, .inl sf_)), (bp_, .inl (cy 0, 29, .inl sp2)), (bl_, .inl (cy 0, 10, .inl lw_))]) 0 0 := by
  refine CT.of cX9_bears 5 (some .int) (by decide) rfl (Nat.le_of_ble_eq_true rfl) ?_
  intro p e s m args below meth c A Q ls F hmn hK hE hA hP hD hS hl RT
  obtain ⟨hx, hb, hml, hown, hts⟩ := id F
  have winX9 : ∀ w ∈ u_ws RX9 TX9 21, w ∈ wsX9_bears := by decide +kernel
  have wf48 := hts (.fieldLink RX9 48 "SelfSteerModel" "thrown" "I") (by decide +kernel)
  have wf16 := hts (.fieldLink RX9 16 "SelfSteerModel" "s" "[I") (by decide +kernel)
  have wf22 := hts (.fieldLink RX9 22 "SelfSteerModel" "spare" "[I") (by decide +kernel)
  have hl : lv_has ls 5 [(0, .ref b0_), (1, .int n_)] := hl
  have hP : va_P D vwCl [(b0_, .inr (9, [.int th_, .long tr_, .ref bn_, .ref bt_, .ref bs_, .ref bk_, .ref bp_, .ref bi_, .ref bl_, .int it_, .int ub_, .int db_, .ref bx_, .int tp_, .int nx_, .int tk_, .int pl_, .int vl_, .int fa_, .ref bc_, .ref bf_])), (bn_, .inl (cy 0, 24, .inl (nbF nb_))), (bt_, .inl (cy 0, 6, .inl ft_)), (bs_, .inl (cy 0, 29, .inl sf_)), (bp_, .inl (cy 0, 29, .inl sp_)), (bl_, .inl (cy 0, 10, .inl lw_))] s.heap := hP
  have hD : va_D A [(b0_, .inr (9, [.int th_, .long tr_, .ref bn_, .ref bt_, .ref bs_, .ref bk_, .ref bp_, .ref bi_, .ref bl_, .int it_, .int ub_, .int db_, .ref bx_, .int tp_, .int nx_, .int tk_, .int pl_, .int vl_, .int fa_, .ref bc_, .ref bf_])), (bn_, .inl (cy 0, 24, .inl (nbF nb_))), (bt_, .inl (cy 0, 6, .inl ft_)), (bs_, .inl (cy 0, 29, .inl sf_)), (bp_, .inl (cy 0, 29, .inl sp_)), (bl_, .inl (cy 0, 10, .inl lw_))] := hD
  obtain ⟨H, hH⟩ : ∃ H0 : Heap, H0 = s.heap := ⟨_, rfl⟩
  obtain ⟨locs, hlo⟩ : ∃ L0 : List Loc, L0 = [] := ⟨_, rfl⟩
  have hS : va_S A s.heap H locs := by rw [hH, hlo]; exact hS
  rw [← hH] at hP
  show W p l e rmkX9_bears s m args below meth c s.heap [] 0 0 Q (F0 m 0 ls [])
  suffices hgo : W p l e rmkX9_bears s m args below meth c H locs 0 0 Q (F0 m 0 ls []) by rw [hH, hlo] at hgo; exact hgo
  clear hH hlo
  refine lv_aload_n hx hb dX9_bears_0 rfl (lv_at hl 0 rfl) ?_
  refine lv_iconst (v := 0) hx hb dX9_bears_1 (by decide) ?_
  refine va_put (D := D) (ci := 9) (v := .int 0) (ty := .int) (C := RX9) (T := TX9) (N := 21) hx hb hts winX9 tyX9 tyX9_ok nmX9 hown hK hP hD hS 0 rfl rfl 0 (by decide) wf48 (fun _ h9 => h9) rfl (by decide +kernel) rfl rfl (Nat.le_of_ble_eq_true rfl) dX9_bears_2 (fun H locs hP hD hS => ?_)
  have hP : va_P D vwCl [(b0_, .inr (9, [.int 0, .long tr_, .ref bn_, .ref bt_, .ref bs_, .ref bk_, .ref bp_, .ref bi_, .ref bl_, .int it_, .int ub_, .int db_, .ref bx_, .int tp_, .int nx_, .int tk_, .int pl_, .int vl_, .int fa_, .ref bc_, .ref bf_])), (bn_, .inl (cy 0, 24, .inl (nbF nb_))), (bt_, .inl (cy 0, 6, .inl ft_)), (bs_, .inl (cy 0, 29, .inl sf_)), (bp_, .inl (cy 0, 29, .inl sp_)), (bl_, .inl (cy 0, 10, .inl lw_))] H := hP
  have hD : va_D A [(b0_, .inr (9, [.int 0, .long tr_, .ref bn_, .ref bt_, .ref bs_, .ref bk_, .ref bp_, .ref bi_, .ref bl_, .int it_, .int ub_, .int db_, .ref bx_, .int tp_, .int nx_, .int tk_, .int pl_, .int vl_, .int fa_, .ref bc_, .ref bf_])), (bn_, .inl (cy 0, 24, .inl (nbF nb_))), (bt_, .inl (cy 0, 6, .inl ft_)), (bs_, .inl (cy 0, 29, .inl sf_)), (bp_, .inl (cy 0, 29, .inl sp_)), (bl_, .inl (cy 0, 10, .inl lw_))] := hD
  refine lv_iload_n hx hb dX9_bears_5 rfl (lv_at hl 1 rfl) ?_
  refine lv_iconst (v := 1) hx hb dX9_bears_6 (by decide) ?_
  refine lv_sipush (v := 200) hx hb dX9_bears_7 (by decide) ?_
  refine ca_S (n := 3) (rest := []) (wr := [(b0_, .inr (9, [.int 0, .long tr_, .ref bn_, .ref bt_, .ref bs_, .ref bk_, .ref bp_, .ref bi_, .ref bl_, .int it_, .int ub_, .int db_, .ref bx_, .int tp_, .int nx_, .int tk_, .int pl_, .int vl_, .int fa_, .ref bc_, .ref bf_])), (bn_, .inl (cy 0, 24, .inl (nbF nb_))), (bt_, .inl (cy 0, 6, .inl ft_)), (bs_, .inl (cy 0, 29, .inl sf_)), (bp_, .inl (cy 0, 29, .inl sp_)), (bl_, .inl (cy 0, 10, .inl lw_))]) F hK hE hA hP hD hS hl.1 (kX9_in (l := l) (D := D) (cy := cy) (sa := sa) n_ 1 200) gX9_bears_X9_in rfl rfl rfl (by decide +kernel) ⟨by decide, by decide⟩ [] [0, 1, 2, 3, 4, 5] rfl rfl rfl rfl (by decide) rfl rfl (Nat.le_of_ble_eq_true rfl) dX9_bears_10 ⟨by decide, by decide⟩ (fun v9 u9 H locs hv hP hD hS => ?_)
  subst hv
  have hP : va_P D vwCl [(b0_, .inr (9, [.int 0, .long tr_, .ref bn_, .ref bt_, .ref bs_, .ref bk_, .ref bp_, .ref bi_, .ref bl_, .int it_, .int ub_, .int db_, .ref bx_, .int tp_, .int nx_, .int tk_, .int pl_, .int vl_, .int fa_, .ref bc_, .ref bf_])), (bn_, .inl (cy 0, 24, .inl (nbF nb_))), (bt_, .inl (cy 0, 6, .inl ft_)), (bs_, .inl (cy 0, 29, .inl sf_)), (bp_, .inl (cy 0, 29, .inl sp_)), (bl_, .inl (cy 0, 10, .inl lw_))] H := hP
  have hD : va_D A [(b0_, .inr (9, [.int 0, .long tr_, .ref bn_, .ref bt_, .ref bs_, .ref bk_, .ref bp_, .ref bi_, .ref bl_, .int it_, .int ub_, .int db_, .ref bx_, .int tp_, .int nx_, .int tk_, .int pl_, .int vl_, .int fa_, .ref bc_, .ref bf_])), (bn_, .inl (cy 0, 24, .inl (nbF nb_))), (bt_, .inl (cy 0, 6, .inl ft_)), (bs_, .inl (cy 0, 29, .inl sf_)), (bp_, .inl (cy 0, 29, .inl sp_)), (bl_, .inl (cy 0, 10, .inl lw_))] := hD
  refine W.eq (g2 := F0 m 13 ls [.int (bI (inR n_ 1 200))]) rfl ?_
  refine bz_ne (tgt := 18) hx hb dX9_bears_13 (by decide) (fun c_13 => ?_) (fun c_13 => ?_)
  · obtain ⟨n1_, hn1p, hn1, rfl⟩ := inR_1 200 (by decide) rfl c_13
    refine lv_iconst (v := 0) hx hb dX9_bears_18 (by decide) ?_
    refine lv_istore_n (lv' := [(2, .int 0), (0, .ref b0_), (1, .int (nI n1_))]) hx hb dX9_bears_19 rfl hl (by decide) rfl (fun ls hl => ?_)
    have L_20 : ∀ (n_ : Nat) (j_ : Nat), (j_ ≤ 29) → 29 - j_ < n_ → ∀ (H : Heap) (locs : List Loc), va_P D vwCl [(b0_, .inr (9, [.int 0, .long tr_, .ref bn_, .ref bt_, .ref bs_, .ref bk_, .ref bp_, .ref bi_, .ref bl_, .int it_, .int ub_, .int db_, .ref bx_, .int tp_, .int nx_, .int tk_, .int pl_, .int vl_, .int fa_, .ref bc_, .ref bf_])), (bn_, .inl (cy 0, 24, .inl (nbF nb_))), (bt_, .inl (cy 0, 6, .inl ft_)), (bs_, .inl (cy 0, 29, .inl sf_)), (bp_, .inl (cy 0, 29, .inl (fil sf_ sp_ j_))), (bl_, .inl (cy 0, 10, .inl lw_))] H → va_D A [(b0_, .inr (9, [.int 0, .long tr_, .ref bn_, .ref bt_, .ref bs_, .ref bk_, .ref bp_, .ref bi_, .ref bl_, .int it_, .int ub_, .int db_, .ref bx_, .int tp_, .int nx_, .int tk_, .int pl_, .int vl_, .int fa_, .ref bc_, .ref bf_])), (bn_, .inl (cy 0, 24, .inl (nbF nb_))), (bt_, .inl (cy 0, 6, .inl ft_)), (bs_, .inl (cy 0, 29, .inl sf_)), (bp_, .inl (cy 0, 29, .inl (fil sf_ sp_ j_))), (bl_, .inl (cy 0, 10, .inl lw_))] → va_S A s.heap H locs → ∀ (ls : Array Slot), lv_has ls 5 [(2, .int (nI j_)), (0, .ref b0_), (1, .int (nI n1_))] → W p l e rmkX9_bears s m args below meth c H locs 0 0 Q (F0 m 20 ls []) := by
      intro n_
      induction n_ with
      | zero => intro j_ hj hn; exact absurd hn (Nat.not_lt_zero _)
      | succ n_ ih_20 =>
        intro j_ hj hn_20 H locs hP hD hS ls hl
        refine lv_iload_n hx hb dX9_bears_20 rfl (lv_at hl 0 rfl) ?_
        refine lv_bipush (v := 29) hx hb dX9_bears_21 (by decide) ?_
        refine cn_ge (tgt := 44) hx hb j_ 29 rfl rfl (by omega) (by omega) dX9_bears_23 (by decide) (fun c_23 => ?_) (fun c_23 => ?_)
        · obtain rfl : 29 = j_ := by omega
          refine lv_bipush (v := (-9)) hx hb dX9_bears_44 (by decide) ?_
          refine lv_istore_n (lv' := [(2, .int (-9)), (0, .ref b0_), (1, .int (nI n1_))]) hx hb dX9_bears_46 rfl hl (by decide) rfl (fun ls hl => ?_)
          refine lv_iconst (v := 1) hx hb dX9_bears_47 (by decide) ?_
          refine lv_istore_n (lv' := [(3, .int 1), (2, .int (-9)), (0, .ref b0_), (1, .int (nI n1_))]) hx hb dX9_bears_48 rfl hl (by decide) rfl (fun ls hl => ?_)
          have L_49 : ∀ (n_ : Nat) (b1_ : Nat) (q_ : Nat) (pv_ : Int32) (sfc_ : Nat → Int32) (ftc_ : Nat → Int32), (b1_ + q_ = 1001) → (1 ≤ b1_) → ((if pv_ = -9 then brs (nb_ i_) lw_ d_ n1_ (setF sf_ (sf_ 0) (sf_ 1) (sf_ 2)) q_ b1_ else pv_) = brs (nb_ i_) lw_ d_ n1_ (setF sf_ (sf_ 0) (sf_ 1) (sf_ 2)) 1000 1) → (∀ z, 25 ≤ z → sfc_ z = sf_ z) → q_ < n_ → ∀ (H : Heap) (locs : List Loc), va_P D vwCl [(b0_, .inr (9, [.int 0, .long tr_, .ref bn_, .ref bt_, .ref bs_, .ref bk_, .ref bp_, .ref bi_, .ref bl_, .int it_, .int ub_, .int db_, .ref bx_, .int tp_, .int nx_, .int tk_, .int pl_, .int vl_, .int fa_, .ref bc_, .ref bf_])), (bn_, .inl (cy 0, 24, .inl (nbF nb_))), (bt_, .inl (cy 0, 6, .inl ftc_)), (bs_, .inl (cy 0, 29, .inl sfc_)), (bp_, .inl (cy 0, 29, .inl (fil sf_ sp_ 29))), (bl_, .inl (cy 0, 10, .inl lw_))] H → va_D A [(b0_, .inr (9, [.int 0, .long tr_, .ref bn_, .ref bt_, .ref bs_, .ref bk_, .ref bp_, .ref bi_, .ref bl_, .int it_, .int ub_, .int db_, .ref bx_, .int tp_, .int nx_, .int tk_, .int pl_, .int vl_, .int fa_, .ref bc_, .ref bf_])), (bn_, .inl (cy 0, 24, .inl (nbF nb_))), (bt_, .inl (cy 0, 6, .inl ftc_)), (bs_, .inl (cy 0, 29, .inl sfc_)), (bp_, .inl (cy 0, 29, .inl (fil sf_ sp_ 29))), (bl_, .inl (cy 0, 10, .inl lw_))] → va_S A s.heap H locs → ∀ (ls : Array Slot), lv_has ls 5 [(3, .int (nI b1_)), (2, .int pv_), (0, .ref b0_), (1, .int (nI n1_))] → W p l e rmkX9_bears s m args below meth c H locs 0 0 Q (F0 m 49 ls []) := by
            intro n_
            induction n_ with
            | zero => intro b1_ q_ pv_ sfc_ ftc_ hbq hb1 hRb h25 hn; exact absurd hn (Nat.not_lt_zero _)
            | succ n_ ih_49 =>
              intro b1_ q_ pv_ sfc_ ftc_ hbq hb1 hRb h25 hn_49 H locs hP hD hS ls hl
              refine lv_iload_n hx hb dX9_bears_49 rfl (lv_at hl 0 rfl) ?_
              refine lv_sipush (v := 1001) hx hb dX9_bears_50 (by decide) ?_
              refine cn_ge (tgt := 144) hx hb b1_ 1001 rfl rfl (by omega) (by omega) dX9_bears_53 (by decide) (fun c_53 => ?_) (fun c_53 => ?_)
              · refine lv_iconst (v := 0) hx hb dX9_bears_144 (by decide) ?_
                refine lv_istore_n (lv' := [(3, .int 0), (2, .int pv_), (0, .ref b0_), (1, .int (nI n1_))]) hx hb dX9_bears_145 rfl hl (by decide) rfl (fun ls hl => ?_)
                have L_146 : ∀ (n_ : Nat) (j4_ : Nat), (j4_ ≤ 29) → 29 - j4_ < n_ → ∀ (H : Heap) (locs : List Loc), va_P D vwCl [(b0_, .inr (9, [.int 0, .long tr_, .ref bn_, .ref bt_, .ref bs_, .ref bk_, .ref bp_, .ref bi_, .ref bl_, .int it_, .int ub_, .int db_, .ref bx_, .int tp_, .int nx_, .int tk_, .int pl_, .int vl_, .int fa_, .ref bc_, .ref bf_])), (bn_, .inl (cy 0, 24, .inl (nbF nb_))), (bt_, .inl (cy 0, 6, .inl ftc_)), (bs_, .inl (cy 0, 29, .inl (fil sf_ sfc_ j4_))), (bp_, .inl (cy 0, 29, .inl (fil sf_ sp_ 29))), (bl_, .inl (cy 0, 10, .inl lw_))] H → va_D A [(b0_, .inr (9, [.int 0, .long tr_, .ref bn_, .ref bt_, .ref bs_, .ref bk_, .ref bp_, .ref bi_, .ref bl_, .int it_, .int ub_, .int db_, .ref bx_, .int tp_, .int nx_, .int tk_, .int pl_, .int vl_, .int fa_, .ref bc_, .ref bf_])), (bn_, .inl (cy 0, 24, .inl (nbF nb_))), (bt_, .inl (cy 0, 6, .inl ftc_)), (bs_, .inl (cy 0, 29, .inl (fil sf_ sfc_ j4_))), (bp_, .inl (cy 0, 29, .inl (fil sf_ sp_ 29))), (bl_, .inl (cy 0, 10, .inl lw_))] → va_S A s.heap H locs → ∀ (ls : Array Slot), lv_has ls 5 [(3, .int (nI j4_)), (2, .int pv_), (0, .ref b0_), (1, .int (nI n1_))] → W p l e rmkX9_bears s m args below meth c H locs 0 0 Q (F0 m 146 ls []) := by
                  intro n_
                  induction n_ with
                  | zero => intro j4_ hj4 hn; exact absurd hn (Nat.not_lt_zero _)
                  | succ n_ ih_146 =>
                    intro j4_ hj4 hn_146 H locs hP hD hS ls hl
                    refine lv_iload_n hx hb dX9_bears_146 rfl (lv_at hl 0 rfl) ?_
                    refine lv_bipush (v := 29) hx hb dX9_bears_147 (by decide) ?_
                    refine cn_ge (tgt := 170) hx hb j4_ 29 rfl rfl (by omega) (by omega) dX9_bears_149 (by decide) (fun c_149 => ?_) (fun c_149 => ?_)
                    · refine lv_iload_n hx hb dX9_bears_170 rfl (lv_at hl 1 rfl) ?_
                      have hpv : pv_ = brs (nb_ i_) lw_ d_ n1_ (setF sf_ (sf_ 0) (sf_ 1) (sf_ 2)) 1000 1 := by first | (rw [if_neg c_59] at hRb; exact hRb) | (rw [show q_ = 0 by omega] at hRb; by_cases h9 : pv_ = -9 <;> first | (rw [if_pos h9] at hRb; rw [← hRb, h9]; rfl) | (rw [if_neg h9] at hRb; exact hRb))
                      obtain ⟨hP, hD⟩ := ro_ws (g := sf_) hP hD 3 rfl (fun z hz => fil_lt (by omega))
                      have hP : va_P D vwCl [(b0_, .inr (9, [.int 0, .long tr_, .ref bn_, .ref bt_, .ref bs_, .ref bk_, .ref bp_, .ref bi_, .ref bl_, .int it_, .int ub_, .int db_, .ref bx_, .int tp_, .int nx_, .int tk_, .int pl_, .int vl_, .int fa_, .ref bc_, .ref bf_])), (bn_, .inl (cy 0, 24, .inl (nbF nb_))), (bt_, .inl (cy 0, 6, .inl ftc_)), (bs_, .inl (cy 0, 29, .inl sf_)), (bp_, .inl (cy 0, 29, .inl (fil sf_ sp_ 29))), (bl_, .inl (cy 0, 10, .inl lw_))] H := hP
                      have hD : va_D A [(b0_, .inr (9, [.int 0, .long tr_, .ref bn_, .ref bt_, .ref bs_, .ref bk_, .ref bp_, .ref bi_, .ref bl_, .int it_, .int ub_, .int db_, .ref bx_, .int tp_, .int nx_, .int tk_, .int pl_, .int vl_, .int fa_, .ref bc_, .ref bf_])), (bn_, .inl (cy 0, 24, .inl (nbF nb_))), (bt_, .inl (cy 0, 6, .inl ftc_)), (bs_, .inl (cy 0, 29, .inl sf_)), (bp_, .inl (cy 0, 29, .inl (fil sf_ sp_ 29))), (bl_, .inl (cy 0, 10, .inl lw_))] := hD
                      refine lv_eqi (y := r_bears (nb_ i_) lw_ sf_ d_ (nI n1_)) (by rw [r_bears, if_pos c_13, cl_n (by omega)]; exact hpv) ?_
                      exact RT _ _ (ftc_, fil sf_ sp_ 29) H locs 171 ls (rt_i dX9_bears_171) rfl hP hD hS
                    · refine lv_aload_n hx hb dX9_bears_152 rfl (lv_at hl 2 rfl) ?_
                      refine va_get (D := D) (ci := 9) (v := .ref bs_) (C := RX9) (T := TX9) (N := 21) hx hb hts winX9 hown hK hP 0 rfl rfl 4 (by decide) wf16 (fun _ h9 => h9) rfl dX9_bears_153 ?_
                      refine lv_iload_n hx hb dX9_bears_156 rfl (lv_at hl 0 rfl) ?_
                      refine lv_aload_n hx hb dX9_bears_157 rfl (lv_at hl 2 rfl) ?_
                      refine va_get (D := D) (ci := 9) (v := .ref bp_) (C := RX9) (T := TX9) (N := 21) hx hb hts winX9 hown hK hP 0 rfl rfl 6 (by decide) wf22 (fun _ h9 => h9) rfl dX9_bears_158 ?_
                      refine lv_iload_n hx hb dX9_bears_161 rfl (lv_at hl 0 rfl) ?_
                      refine al_i hx hb hK hP 4 rfl j4_ (rfl) (by omega) (by decide) dX9_bears_162 ?_
                      refine lv_eqi (y := sf_ j4_) (fil_lt (by omega)) ?_
                      refine as_i (x := sf_ j4_) hx hb hK hP hD hS 3 rfl j4_ (rfl) (by omega) (by decide) dX9_bears_163 (fun H locs hP hD hS => ?_)
                      have hP : va_P D vwCl [(b0_, .inr (9, [.int 0, .long tr_, .ref bn_, .ref bt_, .ref bs_, .ref bk_, .ref bp_, .ref bi_, .ref bl_, .int it_, .int ub_, .int db_, .ref bx_, .int tp_, .int nx_, .int tk_, .int pl_, .int vl_, .int fa_, .ref bc_, .ref bf_])), (bn_, .inl (cy 0, 24, .inl (nbF nb_))), (bt_, .inl (cy 0, 6, .inl ftc_)), (bs_, .inl (cy 0, 29, .inl (upd (fil sf_ sfc_ j4_) j4_ (sf_ j4_)))), (bp_, .inl (cy 0, 29, .inl (fil sf_ sp_ 29))), (bl_, .inl (cy 0, 10, .inl lw_))] H := hP
                      have hD : va_D A [(b0_, .inr (9, [.int 0, .long tr_, .ref bn_, .ref bt_, .ref bs_, .ref bk_, .ref bp_, .ref bi_, .ref bl_, .int it_, .int ub_, .int db_, .ref bx_, .int tp_, .int nx_, .int tk_, .int pl_, .int vl_, .int fa_, .ref bc_, .ref bf_])), (bn_, .inl (cy 0, 24, .inl (nbF nb_))), (bt_, .inl (cy 0, 6, .inl ftc_)), (bs_, .inl (cy 0, 29, .inl (upd (fil sf_ sfc_ j4_) j4_ (sf_ j4_)))), (bp_, .inl (cy 0, 29, .inl (fil sf_ sp_ 29))), (bl_, .inl (cy 0, 10, .inl lw_))] := hD
                      refine lv_iinc (v := nI (j4_ + 1)) (lv' := [(3, .int (nI (j4_ + 1))), (2, .int pv_), (0, .ref b0_), (1, .int (nI n1_))]) hx hb dX9_bears_164 hl (k := 0) rfl (nI_add j4_ 1) (by decide) rfl (fun ls hl => ?_)
                      refine lv_goto (tgt := 146) hx hb dX9_bears_167 (by decide) ?_
                      have hc9 : upd (fil sf_ sfc_ j4_) j4_ (sf_ j4_) = fil sf_ sfc_ (j4_ + 1) := fil_s _ _ _
                      rw [hc9] at hP hD
                      exact ih_146 (j4_ + 1) (by first | assumption | omega | decide) (by omega) H locs hP hD hS ls (lv_sub hl [0, 1, 2, 3] rfl)
                have hc9 : sfc_ = fil sf_ sfc_ 0 := (fil_0 _ _).symm
                rw [hc9] at hP hD
                exact L_146 _ 0 (by first | assumption | omega | decide) (Nat.lt_succ_self _) H locs hP hD hS ls (lv_sub hl [0, 1, 2, 3] rfl)
              · refine lv_iload_n hx hb dX9_bears_56 rfl (lv_at hl 1 rfl) ?_
                refine lv_bipush (v := (-9)) hx hb dX9_bears_57 (by decide) ?_
                refine lv_icmp_ne (tgt := 144) hx hb dX9_bears_59 (by decide) (fun c_59 => ?_) (fun c_59 => ?_)
                · refine lv_iconst (v := 0) hx hb dX9_bears_144 (by decide) ?_
                  refine lv_istore_n (lv' := [(3, .int 0), (2, .int pv_), (0, .ref b0_), (1, .int (nI n1_))]) hx hb dX9_bears_145 rfl hl (by decide) rfl (fun ls hl => ?_)
                  have L_146 : ∀ (n_ : Nat) (j4_ : Nat), (j4_ ≤ 29) → 29 - j4_ < n_ → ∀ (H : Heap) (locs : List Loc), va_P D vwCl [(b0_, .inr (9, [.int 0, .long tr_, .ref bn_, .ref bt_, .ref bs_, .ref bk_, .ref bp_, .ref bi_, .ref bl_, .int it_, .int ub_, .int db_, .ref bx_, .int tp_, .int nx_, .int tk_, .int pl_, .int vl_, .int fa_, .ref bc_, .ref bf_])), (bn_, .inl (cy 0, 24, .inl (nbF nb_))), (bt_, .inl (cy 0, 6, .inl ftc_)), (bs_, .inl (cy 0, 29, .inl (fil sf_ sfc_ j4_))), (bp_, .inl (cy 0, 29, .inl (fil sf_ sp_ 29))), (bl_, .inl (cy 0, 10, .inl lw_))] H → va_D A [(b0_, .inr (9, [.int 0, .long tr_, .ref bn_, .ref bt_, .ref bs_, .ref bk_, .ref bp_, .ref bi_, .ref bl_, .int it_, .int ub_, .int db_, .ref bx_, .int tp_, .int nx_, .int tk_, .int pl_, .int vl_, .int fa_, .ref bc_, .ref bf_])), (bn_, .inl (cy 0, 24, .inl (nbF nb_))), (bt_, .inl (cy 0, 6, .inl ftc_)), (bs_, .inl (cy 0, 29, .inl (fil sf_ sfc_ j4_))), (bp_, .inl (cy 0, 29, .inl (fil sf_ sp_ 29))), (bl_, .inl (cy 0, 10, .inl lw_))] → va_S A s.heap H locs → ∀ (ls : Array Slot), lv_has ls 5 [(3, .int (nI j4_)), (2, .int pv_), (0, .ref b0_), (1, .int (nI n1_))] → W p l e rmkX9_bears s m args below meth c H locs 0 0 Q (F0 m 146 ls []) := by
                    intro n_
                    induction n_ with
                    | zero => intro j4_ hj4 hn; exact absurd hn (Nat.not_lt_zero _)
                    | succ n_ ih_146 =>
                      intro j4_ hj4 hn_146 H locs hP hD hS ls hl
                      refine lv_iload_n hx hb dX9_bears_146 rfl (lv_at hl 0 rfl) ?_
                      refine lv_bipush (v := 29) hx hb dX9_bears_147 (by decide) ?_
                      refine cn_ge (tgt := 170) hx hb j4_ 29 rfl rfl (by omega) (by omega) dX9_bears_149 (by decide) (fun c_149 => ?_) (fun c_149 => ?_)
                      · refine lv_iload_n hx hb dX9_bears_170 rfl (lv_at hl 1 rfl) ?_
                        have hpv : pv_ = brs (nb_ i_) lw_ d_ n1_ (setF sf_ (sf_ 0) (sf_ 1) (sf_ 2)) 1000 1 := by first | (rw [if_neg c_59] at hRb; exact hRb) | (rw [show q_ = 0 by omega] at hRb; by_cases h9 : pv_ = -9 <;> first | (rw [if_pos h9] at hRb; rw [← hRb, h9]; rfl) | (rw [if_neg h9] at hRb; exact hRb))
                        obtain ⟨hP, hD⟩ := ro_ws (g := sf_) hP hD 3 rfl (fun z hz => fil_lt (by omega))
                        have hP : va_P D vwCl [(b0_, .inr (9, [.int 0, .long tr_, .ref bn_, .ref bt_, .ref bs_, .ref bk_, .ref bp_, .ref bi_, .ref bl_, .int it_, .int ub_, .int db_, .ref bx_, .int tp_, .int nx_, .int tk_, .int pl_, .int vl_, .int fa_, .ref bc_, .ref bf_])), (bn_, .inl (cy 0, 24, .inl (nbF nb_))), (bt_, .inl (cy 0, 6, .inl ftc_)), (bs_, .inl (cy 0, 29, .inl sf_)), (bp_, .inl (cy 0, 29, .inl (fil sf_ sp_ 29))), (bl_, .inl (cy 0, 10, .inl lw_))] H := hP
                        have hD : va_D A [(b0_, .inr (9, [.int 0, .long tr_, .ref bn_, .ref bt_, .ref bs_, .ref bk_, .ref bp_, .ref bi_, .ref bl_, .int it_, .int ub_, .int db_, .ref bx_, .int tp_, .int nx_, .int tk_, .int pl_, .int vl_, .int fa_, .ref bc_, .ref bf_])), (bn_, .inl (cy 0, 24, .inl (nbF nb_))), (bt_, .inl (cy 0, 6, .inl ftc_)), (bs_, .inl (cy 0, 29, .inl sf_)), (bp_, .inl (cy 0, 29, .inl (fil sf_ sp_ 29))), (bl_, .inl (cy 0, 10, .inl lw_))] := hD
                        refine lv_eqi (y := r_bears (nb_ i_) lw_ sf_ d_ (nI n1_)) (by rw [r_bears, if_pos c_13, cl_n (by omega)]; exact hpv) ?_
                        exact RT _ _ (ftc_, fil sf_ sp_ 29) H locs 171 ls (rt_i dX9_bears_171) rfl hP hD hS
                      · refine lv_aload_n hx hb dX9_bears_152 rfl (lv_at hl 2 rfl) ?_
                        refine va_get (D := D) (ci := 9) (v := .ref bs_) (C := RX9) (T := TX9) (N := 21) hx hb hts winX9 hown hK hP 0 rfl rfl 4 (by decide) wf16 (fun _ h9 => h9) rfl dX9_bears_153 ?_
                        refine lv_iload_n hx hb dX9_bears_156 rfl (lv_at hl 0 rfl) ?_
                        refine lv_aload_n hx hb dX9_bears_157 rfl (lv_at hl 2 rfl) ?_
                        refine va_get (D := D) (ci := 9) (v := .ref bp_) (C := RX9) (T := TX9) (N := 21) hx hb hts winX9 hown hK hP 0 rfl rfl 6 (by decide) wf22 (fun _ h9 => h9) rfl dX9_bears_158 ?_
                        refine lv_iload_n hx hb dX9_bears_161 rfl (lv_at hl 0 rfl) ?_
                        refine al_i hx hb hK hP 4 rfl j4_ (rfl) (by omega) (by decide) dX9_bears_162 ?_
                        refine lv_eqi (y := sf_ j4_) (fil_lt (by omega)) ?_
                        refine as_i (x := sf_ j4_) hx hb hK hP hD hS 3 rfl j4_ (rfl) (by omega) (by decide) dX9_bears_163 (fun H locs hP hD hS => ?_)
                        have hP : va_P D vwCl [(b0_, .inr (9, [.int 0, .long tr_, .ref bn_, .ref bt_, .ref bs_, .ref bk_, .ref bp_, .ref bi_, .ref bl_, .int it_, .int ub_, .int db_, .ref bx_, .int tp_, .int nx_, .int tk_, .int pl_, .int vl_, .int fa_, .ref bc_, .ref bf_])), (bn_, .inl (cy 0, 24, .inl (nbF nb_))), (bt_, .inl (cy 0, 6, .inl ftc_)), (bs_, .inl (cy 0, 29, .inl (upd (fil sf_ sfc_ j4_) j4_ (sf_ j4_)))), (bp_, .inl (cy 0, 29, .inl (fil sf_ sp_ 29))), (bl_, .inl (cy 0, 10, .inl lw_))] H := hP
                        have hD : va_D A [(b0_, .inr (9, [.int 0, .long tr_, .ref bn_, .ref bt_, .ref bs_, .ref bk_, .ref bp_, .ref bi_, .ref bl_, .int it_, .int ub_, .int db_, .ref bx_, .int tp_, .int nx_, .int tk_, .int pl_, .int vl_, .int fa_, .ref bc_, .ref bf_])), (bn_, .inl (cy 0, 24, .inl (nbF nb_))), (bt_, .inl (cy 0, 6, .inl ftc_)), (bs_, .inl (cy 0, 29, .inl (upd (fil sf_ sfc_ j4_) j4_ (sf_ j4_)))), (bp_, .inl (cy 0, 29, .inl (fil sf_ sp_ 29))), (bl_, .inl (cy 0, 10, .inl lw_))] := hD
                        refine lv_iinc (v := nI (j4_ + 1)) (lv' := [(3, .int (nI (j4_ + 1))), (2, .int pv_), (0, .ref b0_), (1, .int (nI n1_))]) hx hb dX9_bears_164 hl (k := 0) rfl (nI_add j4_ 1) (by decide) rfl (fun ls hl => ?_)
                        refine lv_goto (tgt := 146) hx hb dX9_bears_167 (by decide) ?_
                        have hc9 : upd (fil sf_ sfc_ j4_) j4_ (sf_ j4_) = fil sf_ sfc_ (j4_ + 1) := fil_s _ _ _
                        rw [hc9] at hP hD
                        exact ih_146 (j4_ + 1) (by first | assumption | omega | decide) (by omega) H locs hP hD hS ls (lv_sub hl [0, 1, 2, 3] rfl)
                  have hc9 : sfc_ = fil sf_ sfc_ 0 := (fil_0 _ _).symm
                  rw [hc9] at hP hD
                  exact L_146 _ 0 (by first | assumption | omega | decide) (Nat.lt_succ_self _) H locs hP hD hS ls (lv_sub hl [0, 1, 2, 3] rfl)
                · refine lv_aload_n hx hb dX9_bears_62 rfl (lv_at hl 2 rfl) ?_
                  refine lv_aload_n hx hb dX9_bears_63 rfl (lv_at hl 2 rfl) ?_
                  refine va_get (D := D) (ci := 9) (v := .ref bp_) (C := RX9) (T := TX9) (N := 21) hx hb hts winX9 hown hK hP 0 rfl rfl 6 (by decide) wf22 (fun _ h9 => h9) rfl dX9_bears_64 ?_
                  refine lv_iconst (v := 0) hx hb dX9_bears_67 (by decide) ?_
                  refine al_i hx hb hK hP 4 rfl 0 (rfl) (by decide) (by decide) dX9_bears_68 ?_
                  refine lv_eqi (y := sf_ 0) (rfl) ?_
                  refine lv_aload_n hx hb dX9_bears_69 rfl (lv_at hl 2 rfl) ?_
                  refine va_get (D := D) (ci := 9) (v := .ref bp_) (C := RX9) (T := TX9) (N := 21) hx hb hts winX9 hown hK hP 0 rfl rfl 6 (by decide) wf22 (fun _ h9 => h9) rfl dX9_bears_70 ?_
                  refine lv_iconst (v := 1) hx hb dX9_bears_73 (by decide) ?_
                  refine al_i hx hb hK hP 4 rfl 1 (rfl) (by decide) (by decide) dX9_bears_74 ?_
                  refine lv_eqi (y := sf_ 1) (rfl) ?_
                  refine lv_aload_n hx hb dX9_bears_75 rfl (lv_at hl 2 rfl) ?_
                  refine va_get (D := D) (ci := 9) (v := .ref bp_) (C := RX9) (T := TX9) (N := 21) hx hb hts winX9 hown hK hP 0 rfl rfl 6 (by decide) wf22 (fun _ h9 => h9) rfl dX9_bears_76 ?_
                  refine lv_iconst (v := 2) hx hb dX9_bears_79 (by decide) ?_
                  refine al_i hx hb hK hP 4 rfl 2 (rfl) (by decide) (by decide) dX9_bears_80 ?_
                  refine lv_eqi (y := sf_ 2) (rfl) ?_
                  refine ca_V (q0 := 0) (n := 3) (rest := []) (wr := [(bn_, .inl (cy 0, 24, .inl (nbF nb_))), (bt_, .inl (cy 0, 6, .inl ftc_)), (bp_, .inl (cy 0, 29, .inl (fil sf_ sp_ 29))), (bl_, .inl (cy 0, 10, .inl lw_))]) F hK hE hA hP hD hS hl.1 (kX9_sets (l := l) (D := D) (cy := cy) (sa := sa) b0_ 0 tr_ bn_ bt_ bs_ bk_ bp_ bi_ bl_ it_ ub_ db_ bx_ tp_ nx_ tk_ pl_ vl_ fa_ bc_ bf_ sfc_ (sf_ 0) (sf_ 1) (sf_ 2)) gX9_bears_X9_sets rfl rfl rfl rfl rfl rfl (by decide +kernel) ⟨by decide, by decide⟩ [0, 3] [1, 2, 4, 5] rfl rfl rfl rfl (by decide) rfl rfl (Nat.le_of_ble_eq_true rfl) dX9_bears_81 ⟨by decide, by decide⟩ (fun v9 u9 H locs hv hP hD hS => ?_)
                  subst hv
                  obtain ⟨hP, hD⟩ := re_ws (ws' := [(b0_, .inr (9, [.int 0, .long tr_, .ref bn_, .ref bt_, .ref bs_, .ref bk_, .ref bp_, .ref bi_, .ref bl_, .int it_, .int ub_, .int db_, .ref bx_, .int tp_, .int nx_, .int tk_, .int pl_, .int vl_, .int fa_, .ref bc_, .ref bf_])), (bn_, .inl (cy 0, 24, .inl (nbF nb_))), (bt_, .inl (cy 0, 6, .inl ftc_)), (bs_, .inl (cy 0, 29, .inl (setF sfc_ (sf_ 0) (sf_ 1) (sf_ 2)))), (bp_, .inl (cy 0, 29, .inl (fil sf_ sp_ 29))), (bl_, .inl (cy 0, 10, .inl lw_))]) hP hD [4, 0, 1, 5, 2, 3] rfl rfl
                  refine W.eq (g2 := F0 m 84 ls []) rfl ?_
                  have hc9 : setF sfc_ (sf_ 0) (sf_ 1) (sf_ 2) = setF sf_ (sf_ 0) (sf_ 1) (sf_ 2) := setF_ext h25 _ _ _
                  rw [hc9] at hP hD
                  refine lv_aload_n hx hb dX9_bears_84 rfl (lv_at hl 2 rfl) ?_
                  refine va_get (D := D) (ci := 9) (v := .ref bs_) (C := RX9) (T := TX9) (N := 21) hx hb hts winX9 hown hK hP 0 rfl rfl 4 (by decide) wf16 (fun _ h9 => h9) rfl dX9_bears_85 ?_
                  refine lv_iconst (v := 3) hx hb dX9_bears_88 (by decide) ?_
                  refine lv_iload_n hx hb dX9_bears_89 rfl (lv_at hl 0 rfl) ?_
                  refine as_i (x := nI b1_) hx hb hK hP hD hS 3 rfl 3 (rfl) (by decide) (by decide) dX9_bears_90 (fun H locs hP hD hS => ?_)
                  have hP : va_P D vwCl [(b0_, .inr (9, [.int 0, .long tr_, .ref bn_, .ref bt_, .ref bs_, .ref bk_, .ref bp_, .ref bi_, .ref bl_, .int it_, .int ub_, .int db_, .ref bx_, .int tp_, .int nx_, .int tk_, .int pl_, .int vl_, .int fa_, .ref bc_, .ref bf_])), (bn_, .inl (cy 0, 24, .inl (nbF nb_))), (bt_, .inl (cy 0, 6, .inl ftc_)), (bs_, .inl (cy 0, 29, .inl (upd (setF sf_ (sf_ 0) (sf_ 1) (sf_ 2)) 3 (nI b1_)))), (bp_, .inl (cy 0, 29, .inl (fil sf_ sp_ 29))), (bl_, .inl (cy 0, 10, .inl lw_))] H := hP
                  have hD : va_D A [(b0_, .inr (9, [.int 0, .long tr_, .ref bn_, .ref bt_, .ref bs_, .ref bk_, .ref bp_, .ref bi_, .ref bl_, .int it_, .int ub_, .int db_, .ref bx_, .int tp_, .int nx_, .int tk_, .int pl_, .int vl_, .int fa_, .ref bc_, .ref bf_])), (bn_, .inl (cy 0, 24, .inl (nbF nb_))), (bt_, .inl (cy 0, 6, .inl ftc_)), (bs_, .inl (cy 0, 29, .inl (upd (setF sf_ (sf_ 0) (sf_ 1) (sf_ 2)) 3 (nI b1_)))), (bp_, .inl (cy 0, 29, .inl (fil sf_ sp_ 29))), (bl_, .inl (cy 0, 10, .inl lw_))] := hD
                  refine lv_iconst (v := 0) hx hb dX9_bears_91 (by decide) ?_
                  refine lv_istore (lv' := [(4, .int 0), (3, .int (nI b1_)), (2, .int pv_), (0, .ref b0_), (1, .int (nI n1_))]) hx hb dX9_bears_92 hl (by decide) rfl (fun ls hl => ?_)
                  have L_94 : ∀ (n_ : Nat) (c1_ : Nat) (q3_ : Nat) (sfe_ : Nat → Int32) (fte_ : Nat → Int32), (c1_ + q3_ = n1_) → (tks (nb_ i_) lw_ d_ q3_ sfe_ c1_ = tks (nb_ i_) lw_ d_ n1_ (upd (setF sf_ (sf_ 0) (sf_ 1) (sf_ 2)) 3 (nI b1_)) 0) → (sfe_ 0 = nI i_) → (∀ z, 25 ≤ z → sfe_ z = sf_ z) → q3_ < n_ → ∀ (H : Heap) (locs : List Loc), va_P D vwCl [(b0_, .inr (9, [.int 0, .long tr_, .ref bn_, .ref bt_, .ref bs_, .ref bk_, .ref bp_, .ref bi_, .ref bl_, .int it_, .int ub_, .int db_, .ref bx_, .int tp_, .int nx_, .int tk_, .int pl_, .int vl_, .int fa_, .ref bc_, .ref bf_])), (bn_, .inl (cy 0, 24, .inl (nbF nb_))), (bt_, .inl (cy 0, 6, .inl fte_)), (bs_, .inl (cy 0, 29, .inl sfe_)), (bp_, .inl (cy 0, 29, .inl (fil sf_ sp_ 29))), (bl_, .inl (cy 0, 10, .inl lw_))] H → va_D A [(b0_, .inr (9, [.int 0, .long tr_, .ref bn_, .ref bt_, .ref bs_, .ref bk_, .ref bp_, .ref bi_, .ref bl_, .int it_, .int ub_, .int db_, .ref bx_, .int tp_, .int nx_, .int tk_, .int pl_, .int vl_, .int fa_, .ref bc_, .ref bf_])), (bn_, .inl (cy 0, 24, .inl (nbF nb_))), (bt_, .inl (cy 0, 6, .inl fte_)), (bs_, .inl (cy 0, 29, .inl sfe_)), (bp_, .inl (cy 0, 29, .inl (fil sf_ sp_ 29))), (bl_, .inl (cy 0, 10, .inl lw_))] → va_S A s.heap H locs → ∀ (ls : Array Slot), lv_has ls 5 [(4, .int (nI c1_)), (3, .int (nI b1_)), (2, .int pv_), (0, .ref b0_), (1, .int (nI n1_))] → W p l e rmkX9_bears s m args below meth c H locs 0 0 Q (F0 m 94 ls []) := by
                    intro n_
                    induction n_ with
                    | zero => intro c1_ q3_ sfe_ fte_ hcq hR hofc h25e hn; exact absurd hn (Nat.not_lt_zero _)
                    | succ n_ ih_94 =>
                      intro c1_ q3_ sfe_ fte_ hcq hR hofc h25e hn_94 H locs hP hD hS ls hl
                      refine lv_iload hx hb dX9_bears_94 (lv_at hl 0 rfl) ?_
                      refine lv_iload_n hx hb dX9_bears_96 rfl (lv_at hl 4 rfl) ?_
                      refine cn_ge (tgt := 120) hx hb c1_ n1_ rfl rfl (by omega) (by omega) dX9_bears_97 (by decide) (fun c_97 => ?_) (fun c_97 => ?_)
                      · have hfin : tks (nb_ i_) lw_ d_ n1_ (upd (setF sf_ (sf_ 0) (sf_ 1) (sf_ 2)) 3 (nI b1_)) 0 = (c1_, sfe_) := by rw [← hR]; first | (rw [show q3_ = 0 by omega]; rfl) | rw [show q3_ = (q3_ - 1) + 1 by omega, tks, if_neg c_107]
                        refine lv_aload_n hx hb dX9_bears_120 rfl (lv_at hl 3 rfl) ?_
                        refine va_get (D := D) (ci := 9) (v := .ref bs_) (C := RX9) (T := TX9) (N := 21) hx hb hts winX9 hown hK hP 0 rfl rfl 4 (by decide) wf16 (fun _ h9 => h9) rfl dX9_bears_121 ?_
                        refine lv_bipush (v := 8) hx hb dX9_bears_124 (by decide) ?_
                        refine al_i hx hb hK hP 3 rfl 8 (rfl) (by decide) (by decide) dX9_bears_126 ?_
                        refine lv_iconst (v := 1) hx hb dX9_bears_127 (by decide) ?_
                        have J_128_173 : ∀ (z128 : Int32), z128 = (if (sfe_ 8) = 1 then (nI b1_) else (-9)) → ∀ (H : Heap) (locs : List Loc), va_P D vwCl [(b0_, .inr (9, [.int 0, .long tr_, .ref bn_, .ref bt_, .ref bs_, .ref bk_, .ref bp_, .ref bi_, .ref bl_, .int it_, .int ub_, .int db_, .ref bx_, .int tp_, .int nx_, .int tk_, .int pl_, .int vl_, .int fa_, .ref bc_, .ref bf_])), (bn_, .inl (cy 0, 24, .inl (nbF nb_))), (bt_, .inl (cy 0, 6, .inl fte_)), (bs_, .inl (cy 0, 29, .inl sfe_)), (bp_, .inl (cy 0, 29, .inl (fil sf_ sp_ 29))), (bl_, .inl (cy 0, 10, .inl lw_))] H → va_D A [(b0_, .inr (9, [.int 0, .long tr_, .ref bn_, .ref bt_, .ref bs_, .ref bk_, .ref bp_, .ref bi_, .ref bl_, .int it_, .int ub_, .int db_, .ref bx_, .int tp_, .int nx_, .int tk_, .int pl_, .int vl_, .int fa_, .ref bc_, .ref bf_])), (bn_, .inl (cy 0, 24, .inl (nbF nb_))), (bt_, .inl (cy 0, 6, .inl fte_)), (bs_, .inl (cy 0, 29, .inl sfe_)), (bp_, .inl (cy 0, 29, .inl (fil sf_ sp_ 29))), (bl_, .inl (cy 0, 10, .inl lw_))] → va_S A s.heap H locs → ∀ (ls : Array Slot), lv_has ls 5 [(4, .int (nI c1_)), (3, .int (nI b1_)), (2, .int pv_), (0, .ref b0_), (1, .int (nI n1_))] → W p l e rmkX9_bears s m args below meth c H locs 0 0 Q (F0 m 137 ls [.int z128]) := by
                          intro z128 ez128 H locs hP hD hS ls hl
                          refine lv_istore_n (lv' := [(2, .int z128), (4, .int (nI c1_)), (3, .int (nI b1_)), (0, .ref b0_), (1, .int (nI n1_))]) hx hb dX9_bears_137 rfl hl (by decide) rfl (fun ls hl => ?_)
                          refine lv_iinc (v := nI (b1_ + 1)) (lv' := [(3, .int (nI (b1_ + 1))), (2, .int z128), (4, .int (nI c1_)), (0, .ref b0_), (1, .int (nI n1_))]) hx hb dX9_bears_138 hl (k := 2) rfl (nI_add b1_ 1) (by decide) rfl (fun ls hl => ?_)
                          refine lv_goto (tgt := 49) hx hb dX9_bears_141 (by decide) ?_
                          exact ih_49 (b1_ + 1) (q_ - 1) z128 sfe_ fte_ (by first | assumption | omega | decide) (by first | assumption | omega | decide) (by rw [if_pos c_59, show q_ = (q_ - 1) + 1 by omega, brs, hfin] at hRb; dsimp only at hRb; by_cases h8 : sfe_ 8 = 1 <;> rw [ez128] <;> first | (rw [if_pos h8] at hRb ⊢; rw [if_neg (nI_ne_m9 (by omega))]; exact hRb) | (rw [if_neg h8] at hRb ⊢; rw [if_pos rfl]; exact hRb)) (h25e) (by omega) H locs hP hD hS ls (lv_sub hl [0, 1, 3, 4] rfl)
                        refine lv_icmp_ne (tgt := 135) hx hb dX9_bears_128 (by decide) (fun c_128 => ?_) (fun c_128 => ?_)
                        · refine lv_bipush (v := (-9)) hx hb dX9_bears_135 (by decide) ?_
                          exact J_128_173 _ ((if_neg c_128).symm) H locs hP hD hS ls (lv_sub hl [0, 1, 2, 3, 4] rfl)
                        · refine lv_iload_n hx hb dX9_bears_131 rfl (lv_at hl 1 rfl) ?_
                          refine lv_goto (tgt := 137) hx hb dX9_bears_132 (by decide) ?_
                          exact J_128_173 _ ((if_pos c_128).symm) H locs hP hD hS ls (lv_sub hl [0, 1, 2, 3, 4] rfl)
                      · refine lv_aload_n hx hb dX9_bears_100 rfl (lv_at hl 3 rfl) ?_
                        refine va_get (D := D) (ci := 9) (v := .ref bs_) (C := RX9) (T := TX9) (N := 21) hx hb hts winX9 hown hK hP 0 rfl rfl 4 (by decide) wf16 (fun _ h9 => h9) rfl dX9_bears_101 ?_
                        refine lv_bipush (v := 8) hx hb dX9_bears_104 (by decide) ?_
                        refine al_i hx hb hK hP 3 rfl 8 (rfl) (by decide) (by decide) dX9_bears_106 ?_
                        refine lv_if_ne (tgt := 120) hx hb dX9_bears_107 (by decide) (fun c_107 => ?_) (fun c_107 => ?_)
                        · have hfin : tks (nb_ i_) lw_ d_ n1_ (upd (setF sf_ (sf_ 0) (sf_ 1) (sf_ 2)) 3 (nI b1_)) 0 = (c1_, sfe_) := by rw [← hR]; first | (rw [show q3_ = 0 by omega]; rfl) | rw [show q3_ = (q3_ - 1) + 1 by omega, tks, if_neg c_107]
                          refine lv_aload_n hx hb dX9_bears_120 rfl (lv_at hl 3 rfl) ?_
                          refine va_get (D := D) (ci := 9) (v := .ref bs_) (C := RX9) (T := TX9) (N := 21) hx hb hts winX9 hown hK hP 0 rfl rfl 4 (by decide) wf16 (fun _ h9 => h9) rfl dX9_bears_121 ?_
                          refine lv_bipush (v := 8) hx hb dX9_bears_124 (by decide) ?_
                          refine al_i hx hb hK hP 3 rfl 8 (rfl) (by decide) (by decide) dX9_bears_126 ?_
                          refine lv_iconst (v := 1) hx hb dX9_bears_127 (by decide) ?_
                          have J_128_196 : ∀ (z128 : Int32), z128 = (if (sfe_ 8) = 1 then (nI b1_) else (-9)) → ∀ (H : Heap) (locs : List Loc), va_P D vwCl [(b0_, .inr (9, [.int 0, .long tr_, .ref bn_, .ref bt_, .ref bs_, .ref bk_, .ref bp_, .ref bi_, .ref bl_, .int it_, .int ub_, .int db_, .ref bx_, .int tp_, .int nx_, .int tk_, .int pl_, .int vl_, .int fa_, .ref bc_, .ref bf_])), (bn_, .inl (cy 0, 24, .inl (nbF nb_))), (bt_, .inl (cy 0, 6, .inl fte_)), (bs_, .inl (cy 0, 29, .inl sfe_)), (bp_, .inl (cy 0, 29, .inl (fil sf_ sp_ 29))), (bl_, .inl (cy 0, 10, .inl lw_))] H → va_D A [(b0_, .inr (9, [.int 0, .long tr_, .ref bn_, .ref bt_, .ref bs_, .ref bk_, .ref bp_, .ref bi_, .ref bl_, .int it_, .int ub_, .int db_, .ref bx_, .int tp_, .int nx_, .int tk_, .int pl_, .int vl_, .int fa_, .ref bc_, .ref bf_])), (bn_, .inl (cy 0, 24, .inl (nbF nb_))), (bt_, .inl (cy 0, 6, .inl fte_)), (bs_, .inl (cy 0, 29, .inl sfe_)), (bp_, .inl (cy 0, 29, .inl (fil sf_ sp_ 29))), (bl_, .inl (cy 0, 10, .inl lw_))] → va_S A s.heap H locs → ∀ (ls : Array Slot), lv_has ls 5 [(4, .int (nI c1_)), (3, .int (nI b1_)), (2, .int pv_), (0, .ref b0_), (1, .int (nI n1_))] → W p l e rmkX9_bears s m args below meth c H locs 0 0 Q (F0 m 137 ls [.int z128]) := by
                            intro z128 ez128 H locs hP hD hS ls hl
                            refine lv_istore_n (lv' := [(2, .int z128), (4, .int (nI c1_)), (3, .int (nI b1_)), (0, .ref b0_), (1, .int (nI n1_))]) hx hb dX9_bears_137 rfl hl (by decide) rfl (fun ls hl => ?_)
                            refine lv_iinc (v := nI (b1_ + 1)) (lv' := [(3, .int (nI (b1_ + 1))), (2, .int z128), (4, .int (nI c1_)), (0, .ref b0_), (1, .int (nI n1_))]) hx hb dX9_bears_138 hl (k := 2) rfl (nI_add b1_ 1) (by decide) rfl (fun ls hl => ?_)
                            refine lv_goto (tgt := 49) hx hb dX9_bears_141 (by decide) ?_
                            exact ih_49 (b1_ + 1) (q_ - 1) z128 sfe_ fte_ (by first | assumption | omega | decide) (by first | assumption | omega | decide) (by rw [if_pos c_59, show q_ = (q_ - 1) + 1 by omega, brs, hfin] at hRb; dsimp only at hRb; by_cases h8 : sfe_ 8 = 1 <;> rw [ez128] <;> first | (rw [if_pos h8] at hRb ⊢; rw [if_neg (nI_ne_m9 (by omega))]; exact hRb) | (rw [if_neg h8] at hRb ⊢; rw [if_pos rfl]; exact hRb)) (h25e) (by omega) H locs hP hD hS ls (lv_sub hl [0, 1, 3, 4] rfl)
                          refine lv_icmp_ne (tgt := 135) hx hb dX9_bears_128 (by decide) (fun c_128 => ?_) (fun c_128 => ?_)
                          · refine lv_bipush (v := (-9)) hx hb dX9_bears_135 (by decide) ?_
                            exact J_128_196 _ ((if_neg c_128).symm) H locs hP hD hS ls (lv_sub hl [0, 1, 2, 3, 4] rfl)
                          · refine lv_iload_n hx hb dX9_bears_131 rfl (lv_at hl 1 rfl) ?_
                            refine lv_goto (tgt := 137) hx hb dX9_bears_132 (by decide) ?_
                            exact J_128_196 _ ((if_pos c_128).symm) H locs hP hD hS ls (lv_sub hl [0, 1, 2, 3, 4] rfl)
                        · refine lv_aload_n hx hb dX9_bears_110 rfl (lv_at hl 3 rfl) ?_
                          refine ca_V (q0 := 0) (n := 0) (rest := []) (wr := [(bp_, .inl (cy 0, 29, .inl (fil sf_ sp_ 29)))]) F hK hE hA hP hD hS hl.1 (kX9_tick (l := l) (D := D) (cy := cy) (sa := sa) b0_ 0 tr_ bn_ bt_ bs_ bk_ bp_ bi_ bl_ it_ ub_ db_ bx_ tp_ nx_ tk_ pl_ vl_ fa_ bc_ bf_ nb_ fte_ sfe_ lw_ i_ d_ (by first | assumption | omega | decide) (by first | assumption | omega | decide) (by first | assumption | omega | decide) (by first | assumption | omega | decide) (by first | assumption | omega | decide) (by first | assumption | omega | decide)) gX9_bears_X9_tick rfl rfl rfl rfl rfl rfl (by decide +kernel) ⟨by decide, by decide⟩ [0, 1, 2, 3, 5] [4] rfl rfl rfl rfl (by decide) rfl rfl (Nat.le_of_ble_eq_true rfl) dX9_bears_111 ⟨by decide, by decide⟩ (fun v9 u9 H locs hv hP hD hS => ?_)
                          subst hv
                          obtain ⟨hP, hD⟩ := re_ws (ws' := [(b0_, .inr (9, [.int 0, .long tr_, .ref bn_, .ref bt_, .ref bs_, .ref bk_, .ref bp_, .ref bi_, .ref bl_, .int it_, .int ub_, .int db_, .ref bx_, .int tp_, .int nx_, .int tk_, .int pl_, .int vl_, .int fa_, .ref bc_, .ref bf_])), (bn_, .inl (cy 0, 24, .inl (nbF nb_))), (bt_, .inl (cy 0, 6, .inl (nb_ i_))), (bs_, .inl (cy 0, 29, .inl (tickF (nb_ i_) lw_ sfe_ d_))), (bp_, .inl (cy 0, 29, .inl (fil sf_ sp_ 29))), (bl_, .inl (cy 0, 10, .inl lw_))]) hP hD [1, 2, 3, 4, 0, 5] rfl rfl
                          refine W.eq (g2 := F0 m 114 ls []) rfl ?_
                          refine lv_iinc (v := nI (c1_ + 1)) (lv' := [(4, .int (nI (c1_ + 1))), (3, .int (nI b1_)), (2, .int pv_), (0, .ref b0_), (1, .int (nI n1_))]) hx hb dX9_bears_114 hl (k := 0) rfl (nI_add c1_ 1) (by decide) rfl (fun ls hl => ?_)
                          refine lv_goto (tgt := 94) hx hb dX9_bears_117 (by decide) ?_
                          exact ih_94 (c1_ + 1) (q3_ - 1) (tickF (nb_ i_) lw_ sfe_ d_) (nb_ i_) (by first | assumption | omega | decide) (by rw [show q3_ = (q3_ - 1) + 1 by omega, tks, if_pos c_107] at hR; exact hR) ((tickF_0 _ _ _ _).trans hofc) (fun z hz => (tickF_hi _ _ _ _ hz).trans (h25e z hz)) (by omega) H locs hP hD hS ls (lv_sub hl [0, 1, 2, 3, 4] rfl)
                  exact L_94 _ 0 n1_ (upd (setF sf_ (sf_ 0) (sf_ 1) (sf_ 2)) 3 (nI b1_)) ftc_ (Nat.zero_add _) (rfl) (hof) (fun z hz => by rw [upd_ne _ _ (by omega)]; exact setF_hi _ _ _ _ hz) (Nat.lt_succ_self _) H locs hP hD hS ls (lv_sub hl [0, 1, 2, 3, 4] rfl)
          exact L_49 _ 1 1000 (-9) sf_ ft_ (rfl) (Nat.le_refl _) (if_pos rfl) (fun _ _ => rfl) (Nat.lt_succ_self _) H locs hP hD hS ls (lv_sub hl [0, 1, 2, 3] rfl)
        · refine lv_aload_n hx hb dX9_bears_26 rfl (lv_at hl 1 rfl) ?_
          refine va_get (D := D) (ci := 9) (v := .ref bp_) (C := RX9) (T := TX9) (N := 21) hx hb hts winX9 hown hK hP 0 rfl rfl 6 (by decide) wf22 (fun _ h9 => h9) rfl dX9_bears_27 ?_
          refine lv_iload_n hx hb dX9_bears_30 rfl (lv_at hl 0 rfl) ?_
          refine lv_aload_n hx hb dX9_bears_31 rfl (lv_at hl 1 rfl) ?_
          refine va_get (D := D) (ci := 9) (v := .ref bs_) (C := RX9) (T := TX9) (N := 21) hx hb hts winX9 hown hK hP 0 rfl rfl 4 (by decide) wf16 (fun _ h9 => h9) rfl dX9_bears_32 ?_
          refine lv_iload_n hx hb dX9_bears_35 rfl (lv_at hl 0 rfl) ?_
          refine al_i hx hb hK hP 3 rfl j_ (rfl) (by omega) (by decide) dX9_bears_36 ?_
          refine as_i (x := sf_ j_) hx hb hK hP hD hS 4 rfl j_ (rfl) (by omega) (by decide) dX9_bears_37 (fun H locs hP hD hS => ?_)
          have hP : va_P D vwCl [(b0_, .inr (9, [.int 0, .long tr_, .ref bn_, .ref bt_, .ref bs_, .ref bk_, .ref bp_, .ref bi_, .ref bl_, .int it_, .int ub_, .int db_, .ref bx_, .int tp_, .int nx_, .int tk_, .int pl_, .int vl_, .int fa_, .ref bc_, .ref bf_])), (bn_, .inl (cy 0, 24, .inl (nbF nb_))), (bt_, .inl (cy 0, 6, .inl ft_)), (bs_, .inl (cy 0, 29, .inl sf_)), (bp_, .inl (cy 0, 29, .inl (upd (fil sf_ sp_ j_) j_ (sf_ j_)))), (bl_, .inl (cy 0, 10, .inl lw_))] H := hP
          have hD : va_D A [(b0_, .inr (9, [.int 0, .long tr_, .ref bn_, .ref bt_, .ref bs_, .ref bk_, .ref bp_, .ref bi_, .ref bl_, .int it_, .int ub_, .int db_, .ref bx_, .int tp_, .int nx_, .int tk_, .int pl_, .int vl_, .int fa_, .ref bc_, .ref bf_])), (bn_, .inl (cy 0, 24, .inl (nbF nb_))), (bt_, .inl (cy 0, 6, .inl ft_)), (bs_, .inl (cy 0, 29, .inl sf_)), (bp_, .inl (cy 0, 29, .inl (upd (fil sf_ sp_ j_) j_ (sf_ j_)))), (bl_, .inl (cy 0, 10, .inl lw_))] := hD
          refine lv_iinc (v := nI (j_ + 1)) (lv' := [(2, .int (nI (j_ + 1))), (0, .ref b0_), (1, .int (nI n1_))]) hx hb dX9_bears_38 hl (k := 0) rfl (nI_add j_ 1) (by decide) rfl (fun ls hl => ?_)
          refine lv_goto (tgt := 20) hx hb dX9_bears_41 (by decide) ?_
          have hc9 : upd (fil sf_ sp_ j_) j_ (sf_ j_) = fil sf_ sp_ (j_ + 1) := fil_s _ _ _
          rw [hc9] at hP hD
          exact ih_20 (j_ + 1) (by first | assumption | omega | decide) (by omega) H locs hP hD hS ls (lv_sub hl [0, 1, 2] rfl)
    have hc9 : sp_ = fil sf_ sp_ 0 := (fil_0 _ _).symm
    rw [hc9] at hP hD
    exact L_20 _ 0 (by first | assumption | omega | decide) (Nat.lt_succ_self _) H locs hP hD hS ls (lv_sub hl [0, 1, 2] rfl)
  · refine lv_iconst (v := (-1)) hx hb dX9_bears_16 (by decide) ?_
    refine lv_eqi (y := r_bears (nb_ i_) lw_ sf_ d_ n_) ((if_neg c_13).symm) ?_
    exact RT _ _ (ft_, sp_) H locs 17 ls (rt_i dX9_bears_17) rfl hP hD hS
abbrev rmkX9_weeks : Room := { frames := 1, cells := 0, slots := 0, locals := 22 }
set_option maxHeartbeats 4000000 in
set_option maxRecDepth 100000 in
theorem kX9_weeks {l : Launch} {D : va_G} {cy : Nat → ClassId} {sa : Nat → Nat} (b0_ : Nat) (th_ : Int32) (tr_ : Int64) (bn_ : Nat) (bt_ : Nat) (bs_ : Nat) (bk_ : Nat) (bp_ : Nat) (bi_ : Nat) (bl_ : Nat) (it_ : Int32) (ub_ : Int32) (db_ : Int32) (bx_ : Nat) (tp_ : Int32) (nx_ : Int32) (tk_ : Int32) (pl_ : Int32) (vl_ : Int32) (fa_ : Int32) (bc_ : Nat) (bf_ : Nat) (sf_ : Nat → Int32) (w_ : Int32) (n_ : Int32)  : CD l D cy sa yX9_weeks wsX9_weeks rmkX9_weeks [.ref b0_, .int w_, .int n_] [(b0_, .inr (9, [.int th_, .long tr_, .ref bn_, .ref bt_, .ref bs_, .ref bk_, .ref bp_, .ref bi_, .ref bl_, .int it_, .int ub_, .int db_, .ref bx_, .int tp_, .int nx_, .int tk_, .int pl_, .int vl_, .int fa_, .ref bc_, .ref bf_])), (bs_, .inl (cy 0, 29, .inl sf_))] (some (.int (r_weeks sf_ ub_ db_ w_ n_))) [(b0_, .inr (9, [.int 0, .long tr_, .ref bn_, .ref bt_, .ref bs_, .ref bk_, .ref bp_, .ref bi_, .ref bl_, .int it_, .int ub_, .int db_, .ref bx_, .int tp_, .int nx_, .int tk_, .int pl_, .int vl_, .int fa_, .ref bc_, .ref bf_])), (bs_, .inl (cy 0, 29, .inl (n_weeks sf_ ub_ db_ w_ n_)))] := by
  refine CT.of cX9_weeks 7 (some .int) (by decide) rfl (Nat.le_of_ble_eq_true rfl) ?_
  intro p e s m args below meth c A Q ls F hmn hK hE hA hP hD hS hl RT
  obtain ⟨hx, hb, hml, hown, hts⟩ := id F
  have winX9 : ∀ w_ ∈ u_ws RX9 TX9 21, w_ ∈ wsX9_weeks := by decide +kernel
  have wf48 := hts (.fieldLink RX9 48 "SelfSteerModel" "thrown" "I") (by decide +kernel)
  have wf16 := hts (.fieldLink RX9 16 "SelfSteerModel" "s" "[I") (by decide +kernel)
  have wf32 := hts (.fieldLink RX9 32 "SelfSteerModel" "upBy" "I") (by decide +kernel)
  have wf36 := hts (.fieldLink RX9 36 "SelfSteerModel" "downBy" "I") (by decide +kernel)
  have hl : lv_has ls 7 [(0, .ref b0_), (1, .int w_), (2, .int n_)] := hl
  have hP : va_P D vwCl [(b0_, .inr (9, [.int th_, .long tr_, .ref bn_, .ref bt_, .ref bs_, .ref bk_, .ref bp_, .ref bi_, .ref bl_, .int it_, .int ub_, .int db_, .ref bx_, .int tp_, .int nx_, .int tk_, .int pl_, .int vl_, .int fa_, .ref bc_, .ref bf_])), (bs_, .inl (cy 0, 29, .inl sf_))] s.heap := hP
  have hD : va_D A [(b0_, .inr (9, [.int th_, .long tr_, .ref bn_, .ref bt_, .ref bs_, .ref bk_, .ref bp_, .ref bi_, .ref bl_, .int it_, .int ub_, .int db_, .ref bx_, .int tp_, .int nx_, .int tk_, .int pl_, .int vl_, .int fa_, .ref bc_, .ref bf_])), (bs_, .inl (cy 0, 29, .inl sf_))] := hD
  obtain ⟨H, hH⟩ : ∃ H0 : Heap, H0 = s.heap := ⟨_, rfl⟩
  obtain ⟨locs, hlo⟩ : ∃ L0 : List Loc, L0 = [] := ⟨_, rfl⟩
  have hS : va_S A s.heap H locs := by rw [hH, hlo]; exact hS
  rw [← hH] at hP
  show W p l e rmkX9_weeks s m args below meth c s.heap [] 0 0 Q (F0 m 0 ls [])
  suffices hgo : W p l e rmkX9_weeks s m args below meth c H locs 0 0 Q (F0 m 0 ls []) by rw [hH, hlo] at hgo; exact hgo
  clear hH hlo
  refine lv_aload_n hx hb dX9_weeks_0 rfl (lv_at hl 0 rfl) ?_
  refine lv_iconst (v := 0) hx hb dX9_weeks_1 (by decide) ?_
  refine va_put (D := D) (ci := 9) (v := .int 0) (ty := .int) (C := RX9) (T := TX9) (N := 21) hx hb hts winX9 tyX9 tyX9_ok nmX9 hown hK hP hD hS 0 rfl rfl 0 (by decide) wf48 (fun _ h9 => h9) rfl (by decide +kernel) rfl rfl (Nat.le_of_ble_eq_true rfl) dX9_weeks_2 (fun H locs hP hD hS => ?_)
  have hP : va_P D vwCl [(b0_, .inr (9, [.int 0, .long tr_, .ref bn_, .ref bt_, .ref bs_, .ref bk_, .ref bp_, .ref bi_, .ref bl_, .int it_, .int ub_, .int db_, .ref bx_, .int tp_, .int nx_, .int tk_, .int pl_, .int vl_, .int fa_, .ref bc_, .ref bf_])), (bs_, .inl (cy 0, 29, .inl sf_))] H := hP
  have hD : va_D A [(b0_, .inr (9, [.int 0, .long tr_, .ref bn_, .ref bt_, .ref bs_, .ref bk_, .ref bp_, .ref bi_, .ref bl_, .int it_, .int ub_, .int db_, .ref bx_, .int tp_, .int nx_, .int tk_, .int pl_, .int vl_, .int fa_, .ref bc_, .ref bf_])), (bs_, .inl (cy 0, 29, .inl sf_))] := hD
  refine lv_iload_n hx hb dX9_weeks_5 rfl (lv_at hl 1 rfl) ?_
  refine lv_iconst (v := 0) hx hb dX9_weeks_6 (by decide) ?_
  refine lv_iconst (v := 1) hx hb dX9_weeks_7 (by decide) ?_
  refine ca_S (n := 3) (rest := []) (wr := [(b0_, .inr (9, [.int 0, .long tr_, .ref bn_, .ref bt_, .ref bs_, .ref bk_, .ref bp_, .ref bi_, .ref bl_, .int it_, .int ub_, .int db_, .ref bx_, .int tp_, .int nx_, .int tk_, .int pl_, .int vl_, .int fa_, .ref bc_, .ref bf_])), (bs_, .inl (cy 0, 29, .inl sf_))]) F hK hE hA hP hD hS hl.1 (kX9_in (l := l) (D := D) (cy := cy) (sa := sa) w_ 0 1) gX9_weeks_X9_in rfl rfl rfl (by decide +kernel) ⟨by decide, by decide⟩ [] [0, 1] rfl rfl rfl rfl (by decide) rfl rfl (Nat.le_of_ble_eq_true rfl) dX9_weeks_8 ⟨by decide, by decide⟩ (fun v9 u9 H locs hv hP hD hS => ?_)
  subst hv
  have hP : va_P D vwCl [(b0_, .inr (9, [.int 0, .long tr_, .ref bn_, .ref bt_, .ref bs_, .ref bk_, .ref bp_, .ref bi_, .ref bl_, .int it_, .int ub_, .int db_, .ref bx_, .int tp_, .int nx_, .int tk_, .int pl_, .int vl_, .int fa_, .ref bc_, .ref bf_])), (bs_, .inl (cy 0, 29, .inl sf_))] H := hP
  have hD : va_D A [(b0_, .inr (9, [.int 0, .long tr_, .ref bn_, .ref bt_, .ref bs_, .ref bk_, .ref bp_, .ref bi_, .ref bl_, .int it_, .int ub_, .int db_, .ref bx_, .int tp_, .int nx_, .int tk_, .int pl_, .int vl_, .int fa_, .ref bc_, .ref bf_])), (bs_, .inl (cy 0, 29, .inl sf_))] := hD
  refine W.eq (g2 := F0 m 11 ls [.int (bI (inR w_ 0 1))]) rfl ?_
  refine bz_eq (tgt := 24) hx hb dX9_weeks_11 (by decide) (fun c_11 => ?_) (fun c_11 => ?_)
  · refine lv_iconst (v := (-1)) hx hb dX9_weeks_24 (by decide) ?_
    have hno : ¬ okWk w_ n_ := by first | exact fun z => c_11 z.1 | exact fun z => c_21 z.2
    have hc9 : sf_ = n_weeks sf_ ub_ db_ w_ n_ := (if_neg hno).symm
    rw [hc9] at hP hD
    refine lv_eqi (y := r_weeks sf_ ub_ db_ w_ n_) ((if_neg hno).symm) ?_
    exact RT _ _ () H locs 25 ls (rt_i dX9_weeks_25) rfl hP hD hS
  · obtain ⟨x1_, hx1, rfl⟩ := inR_n 1 (by decide) rfl c_11
    refine lv_iload_n hx hb dX9_weeks_14 rfl (lv_at hl 2 rfl) ?_
    refine lv_iconst (v := 1) hx hb dX9_weeks_15 (by decide) ?_
    refine lv_bipush (v := 50) hx hb dX9_weeks_16 (by decide) ?_
    refine ca_S (n := 3) (rest := []) (wr := [(b0_, .inr (9, [.int 0, .long tr_, .ref bn_, .ref bt_, .ref bs_, .ref bk_, .ref bp_, .ref bi_, .ref bl_, .int it_, .int ub_, .int db_, .ref bx_, .int tp_, .int nx_, .int tk_, .int pl_, .int vl_, .int fa_, .ref bc_, .ref bf_])), (bs_, .inl (cy 0, 29, .inl sf_))]) F hK hE hA hP hD hS hl.1 (kX9_in (l := l) (D := D) (cy := cy) (sa := sa) n_ 1 50) gX9_weeks_X9_in rfl rfl rfl (by decide +kernel) ⟨by decide, by decide⟩ [] [0, 1] rfl rfl rfl rfl (by decide) rfl rfl (Nat.le_of_ble_eq_true rfl) dX9_weeks_18 ⟨by decide, by decide⟩ (fun v9 u9 H locs hv hP hD hS => ?_)
    subst hv
    have hP : va_P D vwCl [(b0_, .inr (9, [.int 0, .long tr_, .ref bn_, .ref bt_, .ref bs_, .ref bk_, .ref bp_, .ref bi_, .ref bl_, .int it_, .int ub_, .int db_, .ref bx_, .int tp_, .int nx_, .int tk_, .int pl_, .int vl_, .int fa_, .ref bc_, .ref bf_])), (bs_, .inl (cy 0, 29, .inl sf_))] H := hP
    have hD : va_D A [(b0_, .inr (9, [.int 0, .long tr_, .ref bn_, .ref bt_, .ref bs_, .ref bk_, .ref bp_, .ref bi_, .ref bl_, .int it_, .int ub_, .int db_, .ref bx_, .int tp_, .int nx_, .int tk_, .int pl_, .int vl_, .int fa_, .ref bc_, .ref bf_])), (bs_, .inl (cy 0, 29, .inl sf_))] := hD
    refine W.eq (g2 := F0 m 21 ls [.int (bI (inR n_ 1 50))]) rfl ?_
    refine bz_ne (tgt := 26) hx hb dX9_weeks_21 (by decide) (fun c_21 => ?_) (fun c_21 => ?_)
    · obtain ⟨n1_, hn1p, hn1, rfl⟩ := inR_1 50 (by decide) rfl c_21
      refine lv_iconst (v := 1) hx hb dX9_weeks_26 (by decide) ?_
      refine lv_iload_n hx hb dX9_weeks_27 rfl (lv_at hl 1 rfl) ?_
      refine lv_isub hx hb dX9_weeks_28 ?_
      refine lv_eqi (y := nI (1 - x1_)) (pk_sub (a := 1) (b := x1_) (by omega)) ?_
      refine lv_istore_n (lv' := [(3, .int (nI (1 - x1_))), (0, .ref b0_), (1, .int (nI x1_)), (2, .int (nI n1_))]) hx hb dX9_weeks_29 rfl hl (by decide) rfl (fun ls hl => ?_)
      refine lv_iconst (v := 0) hx hb dX9_weeks_30 (by decide) ?_
      refine lv_istore (lv' := [(4, .int 0), (3, .int (nI (1 - x1_))), (0, .ref b0_), (1, .int (nI x1_)), (2, .int (nI n1_))]) hx hb dX9_weeks_31 hl (by decide) rfl (fun ls hl => ?_)
      have L_33 : ∀ (n_ : Nat) (c1_ : Nat) (q_ : Nat) (sfc_ : Nat → Int32), (c1_ + q_ = n1_) → (wkN ub_ db_ x1_ q_ sfc_ = wkN ub_ db_ x1_ n1_ sf_) → q_ < n_ → ∀ (H : Heap) (locs : List Loc), va_P D vwCl [(b0_, .inr (9, [.int 0, .long tr_, .ref bn_, .ref bt_, .ref bs_, .ref bk_, .ref bp_, .ref bi_, .ref bl_, .int it_, .int ub_, .int db_, .ref bx_, .int tp_, .int nx_, .int tk_, .int pl_, .int vl_, .int fa_, .ref bc_, .ref bf_])), (bs_, .inl (cy 0, 29, .inl sfc_))] H → va_D A [(b0_, .inr (9, [.int 0, .long tr_, .ref bn_, .ref bt_, .ref bs_, .ref bk_, .ref bp_, .ref bi_, .ref bl_, .int it_, .int ub_, .int db_, .ref bx_, .int tp_, .int nx_, .int tk_, .int pl_, .int vl_, .int fa_, .ref bc_, .ref bf_])), (bs_, .inl (cy 0, 29, .inl sfc_))] → va_S A s.heap H locs → ∀ (ls : Array Slot), lv_has ls 7 [(4, .int (nI c1_)), (3, .int (nI (1 - x1_))), (0, .ref b0_), (1, .int (nI x1_)), (2, .int (nI n1_))] → W p l e rmkX9_weeks s m args below meth c H locs 0 0 Q (F0 m 33 ls []) := by
        intro n_
        induction n_ with
        | zero => intro c1_ q_ sfc_ hcq hR hn; exact absurd hn (Nat.not_lt_zero _)
        | succ n_ ih_33 =>
          intro c1_ q_ sfc_ hcq hR hn_33 H locs hP hD hS ls hl
          refine lv_iload hx hb dX9_weeks_33 (lv_at hl 0 rfl) ?_
          refine lv_iload_n hx hb dX9_weeks_35 rfl (lv_at hl 4 rfl) ?_
          refine cn_ge (tgt := 169) hx hb c1_ n1_ rfl rfl (by omega) (by omega) dX9_weeks_36 (by decide) (fun c_36 => ?_) (fun c_36 => ?_)
          · refine lv_aload_n hx hb dX9_weeks_169 rfl (lv_at hl 2 rfl) ?_
            refine va_get (D := D) (ci := 9) (v := .ref bs_) (C := RX9) (T := TX9) (N := 21) hx hb hts winX9 hown hK hP 0 rfl rfl 4 (by decide) wf16 (fun _ h9 => h9) rfl dX9_weeks_170 ?_
            refine lv_bipush (v := 25) hx hb dX9_weeks_173 (by decide) ?_
            refine lv_iload_n hx hb dX9_weeks_175 rfl (lv_at hl 3 rfl) ?_
            refine lv_iadd hx hb dX9_weeks_176 ?_
            refine lv_eqi (y := nI (25 + x1_)) (nI_add 25 x1_) ?_
            refine al_i hx hb hK hP 1 rfl (25 + x1_) (rfl) (by omega) (by decide) dX9_weeks_177 ?_
            have hfin : wkN ub_ db_ x1_ n1_ sf_ = sfc_ := by rw [← hR, show q_ = 0 by omega]; rfl
            have hc9 : sfc_ = n_weeks sf_ ub_ db_ (nI x1_) (nI n1_) := by rw [n_weeks, if_pos ⟨c_11, c_21⟩, cl_n (by omega), cl_n (by omega), hfin]
            rw [hc9] at hP hD
            refine lv_eqi (y := r_weeks sf_ ub_ db_ (nI x1_) (nI n1_)) (by rw [r_weeks, if_pos ⟨c_11, c_21⟩, cl_n (by omega), cl_n (by omega), hfin]) ?_
            exact RT _ _ () H locs 178 ls (rt_i dX9_weeks_178) rfl hP hD hS
          · refine lv_aload_n hx hb dX9_weeks_39 rfl (lv_at hl 2 rfl) ?_
            refine va_get (D := D) (ci := 9) (v := .ref bs_) (C := RX9) (T := TX9) (N := 21) hx hb hts winX9 hown hK hP 0 rfl rfl 4 (by decide) wf16 (fun _ h9 => h9) rfl dX9_weeks_40 ?_
            refine lv_bipush (v := 25) hx hb dX9_weeks_43 (by decide) ?_
            refine lv_iload_n hx hb dX9_weeks_45 rfl (lv_at hl 3 rfl) ?_
            refine lv_iadd hx hb dX9_weeks_46 ?_
            refine lv_eqi (y := nI (25 + x1_)) (nI_add 25 x1_) ?_
            refine al_i hx hb hK hP 1 rfl (25 + x1_) (rfl) (by omega) (by decide) dX9_weeks_47 ?_
            refine lv_aload_n hx hb dX9_weeks_48 rfl (lv_at hl 2 rfl) ?_
            refine va_get (D := D) (ci := 9) (v := .int ub_) (C := RX9) (T := TX9) (N := 21) hx hb hts winX9 hown hK hP 0 rfl rfl 10 (by decide) wf32 (fun _ h9 => h9) rfl dX9_weeks_49 ?_
            refine lv_iadd hx hb dX9_weeks_52 ?_
            refine lv_topi (fun x53 ex53 => ?_)
            refine lv_istore (lv' := [(5, .int x53), (4, .int (nI c1_)), (3, .int (nI (1 - x1_))), (0, .ref b0_), (1, .int (nI x1_)), (2, .int (nI n1_))]) hx hb dX9_weeks_53 hl (by decide) rfl (fun ls hl => ?_)
            refine lv_aload_n hx hb dX9_weeks_55 rfl (lv_at hl 3 rfl) ?_
            refine va_get (D := D) (ci := 9) (v := .ref bs_) (C := RX9) (T := TX9) (N := 21) hx hb hts winX9 hown hK hP 0 rfl rfl 4 (by decide) wf16 (fun _ h9 => h9) rfl dX9_weeks_56 ?_
            refine lv_bipush (v := 25) hx hb dX9_weeks_59 (by decide) ?_
            refine lv_iload_n hx hb dX9_weeks_61 rfl (lv_at hl 2 rfl) ?_
            refine lv_iadd hx hb dX9_weeks_62 ?_
            refine lv_eqi (y := nI (25 + (1 - x1_))) (nI_add 25 (1 - x1_)) ?_
            refine al_i hx hb hK hP 1 rfl (25 + (1 - x1_)) (rfl) (by omega) (by decide) dX9_weeks_63 ?_
            refine lv_aload_n hx hb dX9_weeks_64 rfl (lv_at hl 3 rfl) ?_
            refine va_get (D := D) (ci := 9) (v := .int db_) (C := RX9) (T := TX9) (N := 21) hx hb hts winX9 hown hK hP 0 rfl rfl 11 (by decide) wf36 (fun _ h9 => h9) rfl dX9_weeks_65 ?_
            refine lv_isub hx hb dX9_weeks_68 ?_
            refine lv_topi (fun x69 ex69 => ?_)
            refine lv_istore (lv' := [(6, .int x69), (5, .int x53), (4, .int (nI c1_)), (3, .int (nI (1 - x1_))), (0, .ref b0_), (1, .int (nI x1_)), (2, .int (nI n1_))]) hx hb dX9_weeks_69 hl (by decide) rfl (fun ls hl => ?_)
            refine lv_aload_n hx hb dX9_weeks_71 rfl (lv_at hl 4 rfl) ?_
            refine va_get (D := D) (ci := 9) (v := .ref bs_) (C := RX9) (T := TX9) (N := 21) hx hb hts winX9 hown hK hP 0 rfl rfl 4 (by decide) wf16 (fun _ h9 => h9) rfl dX9_weeks_72 ?_
            refine lv_bipush (v := 25) hx hb dX9_weeks_75 (by decide) ?_
            refine lv_iload_n hx hb dX9_weeks_77 rfl (lv_at hl 5 rfl) ?_
            refine lv_iadd hx hb dX9_weeks_78 ?_
            refine lv_eqi (y := nI (25 + x1_)) (nI_add 25 x1_) ?_
            refine lv_aload_n hx hb dX9_weeks_79 rfl (lv_at hl 4 rfl) ?_
            refine va_get (D := D) (ci := 9) (v := .ref bs_) (C := RX9) (T := TX9) (N := 21) hx hb hts winX9 hown hK hP 0 rfl rfl 4 (by decide) wf16 (fun _ h9 => h9) rfl dX9_weeks_80 ?_
            refine lv_bipush (v := 27) hx hb dX9_weeks_83 (by decide) ?_
            refine lv_iload_n hx hb dX9_weeks_85 rfl (lv_at hl 5 rfl) ?_
            refine lv_iadd hx hb dX9_weeks_86 ?_
            refine lv_eqi (y := nI (27 + x1_)) (nI_add 27 x1_) ?_
            refine al_i hx hb hK hP 1 rfl (27 + x1_) (rfl) (by omega) (by decide) dX9_weeks_87 ?_
            refine lv_iconst (v := 1) hx hb dX9_weeks_88 (by decide) ?_
            have J_89_107 : ∀ (z89 : Int32), z89 = (if (sfc_ (27 + x1_)) = 1 then 100 else (if x53 ≤ 100 then x53 else 100)) → ∀ (H : Heap) (locs : List Loc), va_P D vwCl [(b0_, .inr (9, [.int 0, .long tr_, .ref bn_, .ref bt_, .ref bs_, .ref bk_, .ref bp_, .ref bi_, .ref bl_, .int it_, .int ub_, .int db_, .ref bx_, .int tp_, .int nx_, .int tk_, .int pl_, .int vl_, .int fa_, .ref bc_, .ref bf_])), (bs_, .inl (cy 0, 29, .inl sfc_))] H → va_D A [(b0_, .inr (9, [.int 0, .long tr_, .ref bn_, .ref bt_, .ref bs_, .ref bk_, .ref bp_, .ref bi_, .ref bl_, .int it_, .int ub_, .int db_, .ref bx_, .int tp_, .int nx_, .int tk_, .int pl_, .int vl_, .int fa_, .ref bc_, .ref bf_])), (bs_, .inl (cy 0, 29, .inl sfc_))] → va_S A s.heap H locs → ∀ (ls : Array Slot), lv_has ls 7 [(6, .int x69), (5, .int x53), (4, .int (nI c1_)), (3, .int (nI (1 - x1_))), (0, .ref b0_), (1, .int (nI x1_)), (2, .int (nI n1_))] → W p l e rmkX9_weeks s m args below meth c H locs 0 0 Q (F0 m 106 ls [.int z89, .int (nI (25 + x1_)), .ref bs_]) := by
              intro z89 ez89 H locs hP hD hS ls hl
              refine as_i (x := z89) hx hb hK hP hD hS 1 rfl (25 + x1_) (rfl) (by omega) (by decide) dX9_weeks_106 (fun H locs hP hD hS => ?_)
              have hP : va_P D vwCl [(b0_, .inr (9, [.int 0, .long tr_, .ref bn_, .ref bt_, .ref bs_, .ref bk_, .ref bp_, .ref bi_, .ref bl_, .int it_, .int ub_, .int db_, .ref bx_, .int tp_, .int nx_, .int tk_, .int pl_, .int vl_, .int fa_, .ref bc_, .ref bf_])), (bs_, .inl (cy 0, 29, .inl (upd sfc_ (25 + x1_) z89)))] H := hP
              have hD : va_D A [(b0_, .inr (9, [.int 0, .long tr_, .ref bn_, .ref bt_, .ref bs_, .ref bk_, .ref bp_, .ref bi_, .ref bl_, .int it_, .int ub_, .int db_, .ref bx_, .int tp_, .int nx_, .int tk_, .int pl_, .int vl_, .int fa_, .ref bc_, .ref bf_])), (bs_, .inl (cy 0, 29, .inl (upd sfc_ (25 + x1_) z89)))] := hD
              refine lv_aload_n hx hb dX9_weeks_107 rfl (lv_at hl 4 rfl) ?_
              refine va_get (D := D) (ci := 9) (v := .ref bs_) (C := RX9) (T := TX9) (N := 21) hx hb hts winX9 hown hK hP 0 rfl rfl 4 (by decide) wf16 (fun _ h9 => h9) rfl dX9_weeks_108 ?_
              refine lv_bipush (v := 25) hx hb dX9_weeks_111 (by decide) ?_
              refine lv_iload_n hx hb dX9_weeks_113 rfl (lv_at hl 3 rfl) ?_
              refine lv_iadd hx hb dX9_weeks_114 ?_
              refine lv_eqi (y := nI (25 + (1 - x1_))) (nI_add 25 (1 - x1_)) ?_
              refine lv_iload hx hb dX9_weeks_115 (lv_at hl 0 rfl) ?_
              have J_117_119 : ∀ (z117 : Int32), z117 = (if 0 ≤ x69 then x69 else 0) → ∀ (H : Heap) (locs : List Loc), va_P D vwCl [(b0_, .inr (9, [.int 0, .long tr_, .ref bn_, .ref bt_, .ref bs_, .ref bk_, .ref bp_, .ref bi_, .ref bl_, .int it_, .int ub_, .int db_, .ref bx_, .int tp_, .int nx_, .int tk_, .int pl_, .int vl_, .int fa_, .ref bc_, .ref bf_])), (bs_, .inl (cy 0, 29, .inl (upd sfc_ (25 + x1_) z89)))] H → va_D A [(b0_, .inr (9, [.int 0, .long tr_, .ref bn_, .ref bt_, .ref bs_, .ref bk_, .ref bp_, .ref bi_, .ref bl_, .int it_, .int ub_, .int db_, .ref bx_, .int tp_, .int nx_, .int tk_, .int pl_, .int vl_, .int fa_, .ref bc_, .ref bf_])), (bs_, .inl (cy 0, 29, .inl (upd sfc_ (25 + x1_) z89)))] → va_S A s.heap H locs → ∀ (ls : Array Slot), lv_has ls 7 [(6, .int x69), (5, .int x53), (4, .int (nI c1_)), (3, .int (nI (1 - x1_))), (0, .ref b0_), (1, .int (nI x1_)), (2, .int (nI n1_))] → W p l e rmkX9_weeks s m args below meth c H locs 0 0 Q (F0 m 126 ls [.int z117, .int (nI (25 + (1 - x1_))), .ref bs_]) := by
                intro z117 ez117 H locs hP hD hS ls hl
                refine as_i (x := z117) hx hb hK hP hD hS 1 rfl (25 + (1 - x1_)) (rfl) (by omega) (by decide) dX9_weeks_126 (fun H locs hP hD hS => ?_)
                have hP : va_P D vwCl [(b0_, .inr (9, [.int 0, .long tr_, .ref bn_, .ref bt_, .ref bs_, .ref bk_, .ref bp_, .ref bi_, .ref bl_, .int it_, .int ub_, .int db_, .ref bx_, .int tp_, .int nx_, .int tk_, .int pl_, .int vl_, .int fa_, .ref bc_, .ref bf_])), (bs_, .inl (cy 0, 29, .inl (upd (upd sfc_ (25 + x1_) z89) (25 + (1 - x1_)) z117)))] H := hP
                have hD : va_D A [(b0_, .inr (9, [.int 0, .long tr_, .ref bn_, .ref bt_, .ref bs_, .ref bk_, .ref bp_, .ref bi_, .ref bl_, .int it_, .int ub_, .int db_, .ref bx_, .int tp_, .int nx_, .int tk_, .int pl_, .int vl_, .int fa_, .ref bc_, .ref bf_])), (bs_, .inl (cy 0, 29, .inl (upd (upd sfc_ (25 + x1_) z89) (25 + (1 - x1_)) z117)))] := hD
                refine lv_aload_n hx hb dX9_weeks_127 rfl (lv_at hl 4 rfl) ?_
                refine va_get (D := D) (ci := 9) (v := .ref bs_) (C := RX9) (T := TX9) (N := 21) hx hb hts winX9 hown hK hP 0 rfl rfl 4 (by decide) wf16 (fun _ h9 => h9) rfl dX9_weeks_128 ?_
                refine lv_bipush (v := 27) hx hb dX9_weeks_131 (by decide) ?_
                refine lv_iload_n hx hb dX9_weeks_133 rfl (lv_at hl 5 rfl) ?_
                refine lv_iadd hx hb dX9_weeks_134 ?_
                refine lv_eqi (y := nI (27 + x1_)) (nI_add 27 x1_) ?_
                refine lv_aload_n hx hb dX9_weeks_135 rfl (lv_at hl 4 rfl) ?_
                refine va_get (D := D) (ci := 9) (v := .ref bs_) (C := RX9) (T := TX9) (N := 21) hx hb hts winX9 hown hK hP 0 rfl rfl 4 (by decide) wf16 (fun _ h9 => h9) rfl dX9_weeks_136 ?_
                refine lv_bipush (v := 25) hx hb dX9_weeks_139 (by decide) ?_
                refine lv_iload_n hx hb dX9_weeks_141 rfl (lv_at hl 5 rfl) ?_
                refine lv_iadd hx hb dX9_weeks_142 ?_
                refine lv_eqi (y := nI (25 + x1_)) (nI_add 25 x1_) ?_
                refine al_i hx hb hK hP 1 rfl (25 + x1_) (rfl) (by omega) (by decide) dX9_weeks_143 ?_
                refine lv_bipush (v := 100) hx hb dX9_weeks_144 (by decide) ?_
                have J_146_138 : ∀ (z146 : Int32), z146 = (if ((upd (upd sfc_ (25 + x1_) z89) (25 + (1 - x1_)) z117) (25 + x1_)) = 100 then 1 else ((upd (upd sfc_ (25 + x1_) z89) (25 + (1 - x1_)) z117) (27 + x1_))) → ∀ (H : Heap) (locs : List Loc), va_P D vwCl [(b0_, .inr (9, [.int 0, .long tr_, .ref bn_, .ref bt_, .ref bs_, .ref bk_, .ref bp_, .ref bi_, .ref bl_, .int it_, .int ub_, .int db_, .ref bx_, .int tp_, .int nx_, .int tk_, .int pl_, .int vl_, .int fa_, .ref bc_, .ref bf_])), (bs_, .inl (cy 0, 29, .inl (upd (upd sfc_ (25 + x1_) z89) (25 + (1 - x1_)) z117)))] H → va_D A [(b0_, .inr (9, [.int 0, .long tr_, .ref bn_, .ref bt_, .ref bs_, .ref bk_, .ref bp_, .ref bi_, .ref bl_, .int it_, .int ub_, .int db_, .ref bx_, .int tp_, .int nx_, .int tk_, .int pl_, .int vl_, .int fa_, .ref bc_, .ref bf_])), (bs_, .inl (cy 0, 29, .inl (upd (upd sfc_ (25 + x1_) z89) (25 + (1 - x1_)) z117)))] → va_S A s.heap H locs → ∀ (ls : Array Slot), lv_has ls 7 [(6, .int x69), (5, .int x53), (4, .int (nI c1_)), (3, .int (nI (1 - x1_))), (0, .ref b0_), (1, .int (nI x1_)), (2, .int (nI n1_))] → W p l e rmkX9_weeks s m args below meth c H locs 0 0 Q (F0 m 162 ls [.int z146, .int (nI (27 + x1_)), .ref bs_]) := by
                  intro z146 ez146 H locs hP hD hS ls hl
                  refine as_i (x := z146) hx hb hK hP hD hS 1 rfl (27 + x1_) (rfl) (by omega) (by decide) dX9_weeks_162 (fun H locs hP hD hS => ?_)
                  have hP : va_P D vwCl [(b0_, .inr (9, [.int 0, .long tr_, .ref bn_, .ref bt_, .ref bs_, .ref bk_, .ref bp_, .ref bi_, .ref bl_, .int it_, .int ub_, .int db_, .ref bx_, .int tp_, .int nx_, .int tk_, .int pl_, .int vl_, .int fa_, .ref bc_, .ref bf_])), (bs_, .inl (cy 0, 29, .inl (upd (upd (upd sfc_ (25 + x1_) z89) (25 + (1 - x1_)) z117) (27 + x1_) z146)))] H := hP
                  have hD : va_D A [(b0_, .inr (9, [.int 0, .long tr_, .ref bn_, .ref bt_, .ref bs_, .ref bk_, .ref bp_, .ref bi_, .ref bl_, .int it_, .int ub_, .int db_, .ref bx_, .int tp_, .int nx_, .int tk_, .int pl_, .int vl_, .int fa_, .ref bc_, .ref bf_])), (bs_, .inl (cy 0, 29, .inl (upd (upd (upd sfc_ (25 + x1_) z89) (25 + (1 - x1_)) z117) (27 + x1_) z146)))] := hD
                  refine lv_iinc (v := nI (c1_ + 1)) (lv' := [(4, .int (nI (c1_ + 1))), (6, .int x69), (5, .int x53), (3, .int (nI (1 - x1_))), (0, .ref b0_), (1, .int (nI x1_)), (2, .int (nI n1_))]) hx hb dX9_weeks_163 hl (k := 2) rfl (nI_add c1_ 1) (by decide) rfl (fun ls hl => ?_)
                  refine lv_goto (tgt := 33) hx hb dX9_weeks_166 (by decide) ?_
                  have hc9 : upd (upd (upd sfc_ (25 + x1_) z89) (25 + (1 - x1_)) z117) (27 + x1_) z146 = (wkF sfc_ ub_ db_ x1_) := by subst ez146 ez117 ez89 ex69 ex53; rfl
                  rw [hc9] at hP hD
                  exact ih_33 (c1_ + 1) (q_ - 1) (wkF sfc_ ub_ db_ x1_) (by first | assumption | omega | decide) (by rw [show q_ = (q_ - 1) + 1 by omega, wkN] at hR; exact hR) (by omega) H locs hP hD hS ls (lv_sub hl [0, 3, 4, 5, 6] rfl)
                refine lv_icmp_ne (tgt := 153) hx hb dX9_weeks_146 (by decide) (fun c_146 => ?_) (fun c_146 => ?_)
                · refine lv_aload_n hx hb dX9_weeks_153 rfl (lv_at hl 4 rfl) ?_
                  refine va_get (D := D) (ci := 9) (v := .ref bs_) (C := RX9) (T := TX9) (N := 21) hx hb hts winX9 hown hK hP 0 rfl rfl 4 (by decide) wf16 (fun _ h9 => h9) rfl dX9_weeks_154 ?_
                  refine lv_bipush (v := 27) hx hb dX9_weeks_157 (by decide) ?_
                  refine lv_iload_n hx hb dX9_weeks_159 rfl (lv_at hl 5 rfl) ?_
                  refine lv_iadd hx hb dX9_weeks_160 ?_
                  refine lv_eqi (y := nI (27 + x1_)) (nI_add 27 x1_) ?_
                  refine al_i hx hb hK hP 1 rfl (27 + x1_) (rfl) (by omega) (by decide) dX9_weeks_161 ?_
                  exact J_146_138 _ ((if_neg c_146).symm) H locs hP hD hS ls (lv_sub hl [0, 1, 2, 3, 4, 5, 6] rfl)
                · refine lv_iconst (v := 1) hx hb dX9_weeks_149 (by decide) ?_
                  refine lv_goto (tgt := 162) hx hb dX9_weeks_150 (by decide) ?_
                  exact J_146_138 _ ((if_pos c_146).symm) H locs hP hD hS ls (lv_sub hl [0, 1, 2, 3, 4, 5, 6] rfl)
              refine lv_if_ge (tgt := 124) hx hb dX9_weeks_117 (by decide) (fun c_117 => ?_) (fun c_117 => ?_)
              · refine lv_iload hx hb dX9_weeks_124 (lv_at hl 0 rfl) ?_
                exact J_117_119 _ ((if_pos c_117).symm) H locs hP hD hS ls (lv_sub hl [0, 1, 2, 3, 4, 5, 6] rfl)
              · refine lv_iconst (v := 0) hx hb dX9_weeks_120 (by decide) ?_
                refine lv_goto (tgt := 126) hx hb dX9_weeks_121 (by decide) ?_
                exact J_117_119 _ ((if_neg c_117).symm) H locs hP hD hS ls (lv_sub hl [0, 1, 2, 3, 4, 5, 6] rfl)
            refine lv_icmp_eq (tgt := 99) hx hb dX9_weeks_89 (by decide) (fun c_89 => ?_) (fun c_89 => ?_)
            · refine lv_bipush (v := 100) hx hb dX9_weeks_99 (by decide) ?_
              refine lv_goto (tgt := 106) hx hb dX9_weeks_101 (by decide) ?_
              exact J_89_107 _ ((if_pos c_89).symm) H locs hP hD hS ls (lv_sub hl [0, 1, 2, 3, 4, 5, 6] rfl)
            · refine lv_iload hx hb dX9_weeks_92 (lv_at hl 1 rfl) ?_
              refine lv_bipush (v := 100) hx hb dX9_weeks_94 (by decide) ?_
              refine lv_icmp_le (tgt := 104) hx hb dX9_weeks_96 (by decide) (fun c_96 => ?_) (fun c_96 => ?_)
              · refine lv_iload hx hb dX9_weeks_104 (lv_at hl 1 rfl) ?_
                exact J_89_107 _ (((if_neg c_89).trans (if_pos c_96)).symm) H locs hP hD hS ls (lv_sub hl [0, 1, 2, 3, 4, 5, 6] rfl)
              · refine lv_bipush (v := 100) hx hb dX9_weeks_99 (by decide) ?_
                refine lv_goto (tgt := 106) hx hb dX9_weeks_101 (by decide) ?_
                exact J_89_107 _ (((if_neg c_89).trans (if_neg c_96)).symm) H locs hP hD hS ls (lv_sub hl [0, 1, 2, 3, 4, 5, 6] rfl)
      exact L_33 _ 0 n1_ sf_ (Nat.zero_add _) (rfl) (Nat.lt_succ_self _) H locs hP hD hS ls (lv_sub hl [0, 1, 2, 3, 4] rfl)
    · refine lv_iconst (v := (-1)) hx hb dX9_weeks_24 (by decide) ?_
      have hno : ¬ okWk (nI x1_) n_ := by first | exact fun z => c_11 z.1 | exact fun z => c_21 z.2
      have hc9 : sf_ = n_weeks sf_ ub_ db_ (nI x1_) n_ := (if_neg hno).symm
      rw [hc9] at hP hD
      refine lv_eqi (y := r_weeks sf_ ub_ db_ (nI x1_) n_) ((if_neg hno).symm) ?_
      exact RT _ _ () H locs 25 ls (rt_i dX9_weeks_25) rfl hP hD hS
abbrev rmkX9_tune : Room := { frames := 1, cells := 0, slots := 0, locals := 22 }
set_option maxHeartbeats 4000000 in
set_option maxRecDepth 100000 in
theorem kX9_tune {l : Launch} {D : va_G} {cy : Nat → ClassId} {sa : Nat → Nat} (b0_ : Nat) (th_ : Int32) (tr_ : Int64) (bn_ : Nat) (bt_ : Nat) (bs_ : Nat) (bk_ : Nat) (bp_ : Nat) (bi_ : Nat) (bl_ : Nat) (it_ : Int32) (ub_ : Int32) (db_ : Int32) (bx_ : Nat) (tp_ : Int32) (nx_ : Int32) (tk_ : Int32) (pl_ : Int32) (vl_ : Int32) (fa_ : Int32) (bc_ : Nat) (bf_ : Nat) (w_ : Int32) (v_ : Int32)  : CD l D cy sa yX9_tune wsX9_tune rmkX9_tune [.ref b0_, .int w_, .int v_] [(b0_, .inr (9, [.int th_, .long tr_, .ref bn_, .ref bt_, .ref bs_, .ref bk_, .ref bp_, .ref bi_, .ref bl_, .int it_, .int ub_, .int db_, .ref bx_, .int tp_, .int nx_, .int tk_, .int pl_, .int vl_, .int fa_, .ref bc_, .ref bf_]))] (some (.int (r_tune ub_ db_ w_ v_))) [(b0_, .inr (9, [.int 0, .long tr_, .ref bn_, .ref bt_, .ref bs_, .ref bk_, .ref bp_, .ref bi_, .ref bl_, .int it_, .int (n_ub ub_ w_ v_), .int (n_db db_ w_ v_), .ref bx_, .int tp_, .int nx_, .int tk_, .int pl_, .int vl_, .int fa_, .ref bc_, .ref bf_]))] := by
  refine CT.of cX9_tune 4 (some .int) (by decide) rfl (Nat.le_of_ble_eq_true rfl) ?_
  intro p e s m args below meth c A Q ls F hmn hK hE hA hP hD hS hl RT
  obtain ⟨hx, hb, hml, hown, hts⟩ := id F
  have winX9 : ∀ w_ ∈ u_ws RX9 TX9 21, w_ ∈ wsX9_tune := by decide +kernel
  have wf48 := hts (.fieldLink RX9 48 "SelfSteerModel" "thrown" "I") (by decide +kernel)
  have wf36 := hts (.fieldLink RX9 36 "SelfSteerModel" "downBy" "I") (by decide +kernel)
  have wf32 := hts (.fieldLink RX9 32 "SelfSteerModel" "upBy" "I") (by decide +kernel)
  have hl : lv_has ls 4 [(0, .ref b0_), (1, .int w_), (2, .int v_)] := hl
  have hP : va_P D vwCl [(b0_, .inr (9, [.int th_, .long tr_, .ref bn_, .ref bt_, .ref bs_, .ref bk_, .ref bp_, .ref bi_, .ref bl_, .int it_, .int ub_, .int db_, .ref bx_, .int tp_, .int nx_, .int tk_, .int pl_, .int vl_, .int fa_, .ref bc_, .ref bf_]))] s.heap := hP
  have hD : va_D A [(b0_, .inr (9, [.int th_, .long tr_, .ref bn_, .ref bt_, .ref bs_, .ref bk_, .ref bp_, .ref bi_, .ref bl_, .int it_, .int ub_, .int db_, .ref bx_, .int tp_, .int nx_, .int tk_, .int pl_, .int vl_, .int fa_, .ref bc_, .ref bf_]))] := hD
  obtain ⟨H, hH⟩ : ∃ H0 : Heap, H0 = s.heap := ⟨_, rfl⟩
  obtain ⟨locs, hlo⟩ : ∃ L0 : List Loc, L0 = [] := ⟨_, rfl⟩
  have hS : va_S A s.heap H locs := by rw [hH, hlo]; exact hS
  rw [← hH] at hP
  show W p l e rmkX9_tune s m args below meth c s.heap [] 0 0 Q (F0 m 0 ls [])
  suffices hgo : W p l e rmkX9_tune s m args below meth c H locs 0 0 Q (F0 m 0 ls []) by rw [hH, hlo] at hgo; exact hgo
  clear hH hlo
  refine lv_aload_n hx hb dX9_tune_0 rfl (lv_at hl 0 rfl) ?_
  refine lv_iconst (v := 0) hx hb dX9_tune_1 (by decide) ?_
  refine va_put (D := D) (ci := 9) (v := .int 0) (ty := .int) (C := RX9) (T := TX9) (N := 21) hx hb hts winX9 tyX9 tyX9_ok nmX9 hown hK hP hD hS 0 rfl rfl 0 (by decide) wf48 (fun _ h9 => h9) rfl (by decide +kernel) rfl rfl (Nat.le_of_ble_eq_true rfl) dX9_tune_2 (fun H locs hP hD hS => ?_)
  have hP : va_P D vwCl [(b0_, .inr (9, [.int 0, .long tr_, .ref bn_, .ref bt_, .ref bs_, .ref bk_, .ref bp_, .ref bi_, .ref bl_, .int it_, .int ub_, .int db_, .ref bx_, .int tp_, .int nx_, .int tk_, .int pl_, .int vl_, .int fa_, .ref bc_, .ref bf_]))] H := hP
  have hD : va_D A [(b0_, .inr (9, [.int 0, .long tr_, .ref bn_, .ref bt_, .ref bs_, .ref bk_, .ref bp_, .ref bi_, .ref bl_, .int it_, .int ub_, .int db_, .ref bx_, .int tp_, .int nx_, .int tk_, .int pl_, .int vl_, .int fa_, .ref bc_, .ref bf_]))] := hD
  refine lv_iload_n hx hb dX9_tune_5 rfl (lv_at hl 1 rfl) ?_
  refine lv_iconst (v := 0) hx hb dX9_tune_6 (by decide) ?_
  refine lv_iconst (v := 1) hx hb dX9_tune_7 (by decide) ?_
  refine ca_S (n := 3) (rest := []) (wr := [(b0_, .inr (9, [.int 0, .long tr_, .ref bn_, .ref bt_, .ref bs_, .ref bk_, .ref bp_, .ref bi_, .ref bl_, .int it_, .int ub_, .int db_, .ref bx_, .int tp_, .int nx_, .int tk_, .int pl_, .int vl_, .int fa_, .ref bc_, .ref bf_]))]) F hK hE hA hP hD hS hl.1 (kX9_in (l := l) (D := D) (cy := cy) (sa := sa) w_ 0 1) gX9_tune_X9_in rfl rfl rfl (by decide +kernel) ⟨by decide, by decide⟩ [] [0] rfl rfl rfl rfl (by decide) rfl rfl (Nat.le_of_ble_eq_true rfl) dX9_tune_8 ⟨by decide, by decide⟩ (fun v9 u9 H locs hv hP hD hS => ?_)
  subst hv
  have hP : va_P D vwCl [(b0_, .inr (9, [.int 0, .long tr_, .ref bn_, .ref bt_, .ref bs_, .ref bk_, .ref bp_, .ref bi_, .ref bl_, .int it_, .int ub_, .int db_, .ref bx_, .int tp_, .int nx_, .int tk_, .int pl_, .int vl_, .int fa_, .ref bc_, .ref bf_]))] H := hP
  have hD : va_D A [(b0_, .inr (9, [.int 0, .long tr_, .ref bn_, .ref bt_, .ref bs_, .ref bk_, .ref bp_, .ref bi_, .ref bl_, .int it_, .int ub_, .int db_, .ref bx_, .int tp_, .int nx_, .int tk_, .int pl_, .int vl_, .int fa_, .ref bc_, .ref bf_]))] := hD
  refine W.eq (g2 := F0 m 11 ls [.int (bI (inR w_ 0 1))]) rfl ?_
  refine bz_eq (tgt := 32) hx hb dX9_tune_11 (by decide) (fun c_11 => ?_) (fun c_11 => ?_)
  · refine lv_iconst (v := (-1)) hx hb dX9_tune_32 (by decide) ?_
    have hno : ¬ okTune w_ v_ := by first | exact fun z => c_11 z.1 | exact fun z => c_29 z.2
    have hc9 : Value.int ub_ = Value.int (n_ub ub_ w_ v_) := congrArg _ (show ub_ = n_ub ub_ w_ v_ from (if_neg hno).symm)
    rw [hc9] at hP hD
    have hc9 : Value.int db_ = Value.int (n_db db_ w_ v_) := congrArg _ (show db_ = n_db db_ w_ v_ from (if_neg hno).symm)
    rw [hc9] at hP hD
    refine lv_eqi (y := r_tune ub_ db_ w_ v_) ((if_neg hno).symm) ?_
    exact RT _ _ () H locs 33 ls (rt_i dX9_tune_33) rfl hP hD hS
  · refine lv_iload_n hx hb dX9_tune_14 rfl (lv_at hl 2 rfl) ?_
    refine lv_iload_n hx hb dX9_tune_15 rfl (lv_at hl 1 rfl) ?_
    have J_16_34 : ∀ (H : Heap) (locs : List Loc), va_P D vwCl [(b0_, .inr (9, [.int 0, .long tr_, .ref bn_, .ref bt_, .ref bs_, .ref bk_, .ref bp_, .ref bi_, .ref bl_, .int it_, .int ub_, .int db_, .ref bx_, .int tp_, .int nx_, .int tk_, .int pl_, .int vl_, .int fa_, .ref bc_, .ref bf_]))] H → va_D A [(b0_, .inr (9, [.int 0, .long tr_, .ref bn_, .ref bt_, .ref bs_, .ref bk_, .ref bp_, .ref bi_, .ref bl_, .int it_, .int ub_, .int db_, .ref bx_, .int tp_, .int nx_, .int tk_, .int pl_, .int vl_, .int fa_, .ref bc_, .ref bf_]))] → va_S A s.heap H locs → ∀ (ls : Array Slot), lv_has ls 4 [(0, .ref b0_), (1, .int w_), (2, .int v_)] → W p l e rmkX9_tune s m args below meth c H locs 0 0 Q (F0 m 24 ls [.int (bI (w_ = 0)), .int v_]) := by
      intro H locs hP hD hS ls hl
      refine lv_bipush (v := 50) hx hb dX9_tune_24 (by decide) ?_
      refine ca_S (n := 3) (rest := []) (wr := [(b0_, .inr (9, [.int 0, .long tr_, .ref bn_, .ref bt_, .ref bs_, .ref bk_, .ref bp_, .ref bi_, .ref bl_, .int it_, .int ub_, .int db_, .ref bx_, .int tp_, .int nx_, .int tk_, .int pl_, .int vl_, .int fa_, .ref bc_, .ref bf_]))]) F hK hE hA hP hD hS hl.1 (kX9_in (l := l) (D := D) (cy := cy) (sa := sa) v_ (bI (w_ = 0)) 50) gX9_tune_X9_in rfl rfl rfl (by decide +kernel) ⟨by decide, by decide⟩ [] [0] rfl rfl rfl rfl (by decide) rfl rfl (Nat.le_of_ble_eq_true rfl) dX9_tune_26 ⟨by decide, by decide⟩ (fun v9 u9 H locs hv hP hD hS => ?_)
      subst hv
      have hP : va_P D vwCl [(b0_, .inr (9, [.int 0, .long tr_, .ref bn_, .ref bt_, .ref bs_, .ref bk_, .ref bp_, .ref bi_, .ref bl_, .int it_, .int ub_, .int db_, .ref bx_, .int tp_, .int nx_, .int tk_, .int pl_, .int vl_, .int fa_, .ref bc_, .ref bf_]))] H := hP
      have hD : va_D A [(b0_, .inr (9, [.int 0, .long tr_, .ref bn_, .ref bt_, .ref bs_, .ref bk_, .ref bp_, .ref bi_, .ref bl_, .int it_, .int ub_, .int db_, .ref bx_, .int tp_, .int nx_, .int tk_, .int pl_, .int vl_, .int fa_, .ref bc_, .ref bf_]))] := hD
      refine W.eq (g2 := F0 m 29 ls [.int (bI (inR v_ (bI (w_ = 0)) 50))]) rfl ?_
      refine bz_ne (tgt := 34) hx hb dX9_tune_29 (by decide) (fun c_29 => ?_) (fun c_29 => ?_)
      · refine lv_iload_n hx hb dX9_tune_34 rfl (lv_at hl 1 rfl) ?_
        have J_35_44 : ∀ (z35 : Int32), z35 = (if w_ = 0 then ub_ else db_) → ∀ (H : Heap) (locs : List Loc), va_P D vwCl [(b0_, .inr (9, [.int 0, .long tr_, .ref bn_, .ref bt_, .ref bs_, .ref bk_, .ref bp_, .ref bi_, .ref bl_, .int it_, .int ub_, .int db_, .ref bx_, .int tp_, .int nx_, .int tk_, .int pl_, .int vl_, .int fa_, .ref bc_, .ref bf_]))] H → va_D A [(b0_, .inr (9, [.int 0, .long tr_, .ref bn_, .ref bt_, .ref bs_, .ref bk_, .ref bp_, .ref bi_, .ref bl_, .int it_, .int ub_, .int db_, .ref bx_, .int tp_, .int nx_, .int tk_, .int pl_, .int vl_, .int fa_, .ref bc_, .ref bf_]))] → va_S A s.heap H locs → ∀ (ls : Array Slot), lv_has ls 4 [(0, .ref b0_), (1, .int w_), (2, .int v_)] → W p l e rmkX9_tune s m args below meth c H locs 0 0 Q (F0 m 49 ls [.int z35]) := by
          intro z35 ez35 H locs hP hD hS ls hl
          refine lv_istore_n (lv' := [(3, .int z35), (0, .ref b0_), (1, .int w_), (2, .int v_)]) hx hb dX9_tune_49 rfl hl (by decide) rfl (fun ls hl => ?_)
          refine lv_aload_n hx hb dX9_tune_50 rfl (lv_at hl 1 rfl) ?_
          refine lv_iload_n hx hb dX9_tune_51 rfl (lv_at hl 2 rfl) ?_
          have J_52_49 : ∀ (z52 : Int32), z52 = (if w_ = 0 then v_ else ub_) → ∀ (H : Heap) (locs : List Loc), va_P D vwCl [(b0_, .inr (9, [.int 0, .long tr_, .ref bn_, .ref bt_, .ref bs_, .ref bk_, .ref bp_, .ref bi_, .ref bl_, .int it_, .int ub_, .int db_, .ref bx_, .int tp_, .int nx_, .int tk_, .int pl_, .int vl_, .int fa_, .ref bc_, .ref bf_]))] H → va_D A [(b0_, .inr (9, [.int 0, .long tr_, .ref bn_, .ref bt_, .ref bs_, .ref bk_, .ref bp_, .ref bi_, .ref bl_, .int it_, .int ub_, .int db_, .ref bx_, .int tp_, .int nx_, .int tk_, .int pl_, .int vl_, .int fa_, .ref bc_, .ref bf_]))] → va_S A s.heap H locs → ∀ (ls : Array Slot), lv_has ls 4 [(3, .int z35), (0, .ref b0_), (1, .int w_), (2, .int v_)] → W p l e rmkX9_tune s m args below meth c H locs 0 0 Q (F0 m 63 ls [.int z52, .ref b0_]) := by
            intro z52 ez52 H locs hP hD hS ls hl
            refine va_put (D := D) (ci := 9) (v := .int z52) (ty := .int) (C := RX9) (T := TX9) (N := 21) hx hb hts winX9 tyX9 tyX9_ok nmX9 hown hK hP hD hS 0 rfl rfl 10 (by decide) wf32 (fun _ h9 => h9) rfl (by decide +kernel) rfl rfl (Nat.le_of_ble_eq_true rfl) dX9_tune_63 (fun H locs hP hD hS => ?_)
            have hP : va_P D vwCl [(b0_, .inr (9, [.int 0, .long tr_, .ref bn_, .ref bt_, .ref bs_, .ref bk_, .ref bp_, .ref bi_, .ref bl_, .int it_, .int z52, .int db_, .ref bx_, .int tp_, .int nx_, .int tk_, .int pl_, .int vl_, .int fa_, .ref bc_, .ref bf_]))] H := hP
            have hD : va_D A [(b0_, .inr (9, [.int 0, .long tr_, .ref bn_, .ref bt_, .ref bs_, .ref bk_, .ref bp_, .ref bi_, .ref bl_, .int it_, .int z52, .int db_, .ref bx_, .int tp_, .int nx_, .int tk_, .int pl_, .int vl_, .int fa_, .ref bc_, .ref bf_]))] := hD
            refine lv_aload_n hx hb dX9_tune_66 rfl (lv_at hl 1 rfl) ?_
            refine lv_iload_n hx hb dX9_tune_67 rfl (lv_at hl 2 rfl) ?_
            refine lv_iconst (v := 1) hx hb dX9_tune_68 (by decide) ?_
            have J_69_57 : ∀ (z69 : Int32), z69 = (if w_ = 1 then v_ else db_) → ∀ (H : Heap) (locs : List Loc), va_P D vwCl [(b0_, .inr (9, [.int 0, .long tr_, .ref bn_, .ref bt_, .ref bs_, .ref bk_, .ref bp_, .ref bi_, .ref bl_, .int it_, .int z52, .int db_, .ref bx_, .int tp_, .int nx_, .int tk_, .int pl_, .int vl_, .int fa_, .ref bc_, .ref bf_]))] H → va_D A [(b0_, .inr (9, [.int 0, .long tr_, .ref bn_, .ref bt_, .ref bs_, .ref bk_, .ref bp_, .ref bi_, .ref bl_, .int it_, .int z52, .int db_, .ref bx_, .int tp_, .int nx_, .int tk_, .int pl_, .int vl_, .int fa_, .ref bc_, .ref bf_]))] → va_S A s.heap H locs → ∀ (ls : Array Slot), lv_has ls 4 [(3, .int z35), (0, .ref b0_), (1, .int w_), (2, .int v_)] → W p l e rmkX9_tune s m args below meth c H locs 0 0 Q (F0 m 80 ls [.int z69, .ref b0_]) := by
              intro z69 ez69 H locs hP hD hS ls hl
              refine va_put (D := D) (ci := 9) (v := .int z69) (ty := .int) (C := RX9) (T := TX9) (N := 21) hx hb hts winX9 tyX9 tyX9_ok nmX9 hown hK hP hD hS 0 rfl rfl 11 (by decide) wf36 (fun _ h9 => h9) rfl (by decide +kernel) rfl rfl (Nat.le_of_ble_eq_true rfl) dX9_tune_80 (fun H locs hP hD hS => ?_)
              have hP : va_P D vwCl [(b0_, .inr (9, [.int 0, .long tr_, .ref bn_, .ref bt_, .ref bs_, .ref bk_, .ref bp_, .ref bi_, .ref bl_, .int it_, .int z52, .int z69, .ref bx_, .int tp_, .int nx_, .int tk_, .int pl_, .int vl_, .int fa_, .ref bc_, .ref bf_]))] H := hP
              have hD : va_D A [(b0_, .inr (9, [.int 0, .long tr_, .ref bn_, .ref bt_, .ref bs_, .ref bk_, .ref bp_, .ref bi_, .ref bl_, .int it_, .int z52, .int z69, .ref bx_, .int tp_, .int nx_, .int tk_, .int pl_, .int vl_, .int fa_, .ref bc_, .ref bf_]))] := hD
              refine lv_iload_n hx hb dX9_tune_83 rfl (lv_at hl 0 rfl) ?_
              have hok : okTune w_ v_ := ⟨c_11, c_29⟩
              have hc9 : Value.int z52 = Value.int (n_ub ub_ w_ v_) := congrArg _ (show z52 = n_ub ub_ w_ v_ from by rw [ez52, n_ub, if_pos hok])
              rw [hc9] at hP hD
              have hc9 : Value.int z69 = Value.int (n_db db_ w_ v_) := congrArg _ (show z69 = n_db db_ w_ v_ from by rw [ez69, n_db, if_pos hok])
              rw [hc9] at hP hD
              refine lv_eqi (y := r_tune ub_ db_ w_ v_) (by rw [ez35, r_tune, if_pos hok]) ?_
              exact RT _ _ () H locs 84 ls (rt_i dX9_tune_84) rfl hP hD hS
            refine lv_icmp_ne (tgt := 76) hx hb dX9_tune_69 (by decide) (fun c_69 => ?_) (fun c_69 => ?_)
            · refine lv_aload_n hx hb dX9_tune_76 rfl (lv_at hl 1 rfl) ?_
              refine va_get (D := D) (ci := 9) (v := .int db_) (C := RX9) (T := TX9) (N := 21) hx hb hts winX9 hown hK hP 0 rfl rfl 11 (by decide) wf36 (fun _ h9 => h9) rfl dX9_tune_77 ?_
              exact J_69_57 _ ((if_neg c_69).symm) H locs hP hD hS ls (lv_sub hl [0, 1, 2, 3] rfl)
            · refine lv_iload_n hx hb dX9_tune_72 rfl (lv_at hl 3 rfl) ?_
              refine lv_goto (tgt := 80) hx hb dX9_tune_73 (by decide) ?_
              exact J_69_57 _ ((if_pos c_69).symm) H locs hP hD hS ls (lv_sub hl [0, 1, 2, 3] rfl)
          refine lv_if_ne (tgt := 59) hx hb dX9_tune_52 (by decide) (fun c_52 => ?_) (fun c_52 => ?_)
          · refine lv_aload_n hx hb dX9_tune_59 rfl (lv_at hl 1 rfl) ?_
            refine va_get (D := D) (ci := 9) (v := .int ub_) (C := RX9) (T := TX9) (N := 21) hx hb hts winX9 hown hK hP 0 rfl rfl 10 (by decide) wf32 (fun _ h9 => h9) rfl dX9_tune_60 ?_
            exact J_52_49 _ ((if_neg c_52).symm) H locs hP hD hS ls (lv_sub hl [0, 1, 2, 3] rfl)
          · refine lv_iload_n hx hb dX9_tune_55 rfl (lv_at hl 3 rfl) ?_
            refine lv_goto (tgt := 63) hx hb dX9_tune_56 (by decide) ?_
            exact J_52_49 _ ((if_pos c_52).symm) H locs hP hD hS ls (lv_sub hl [0, 1, 2, 3] rfl)
        refine lv_if_ne (tgt := 45) hx hb dX9_tune_35 (by decide) (fun c_35 => ?_) (fun c_35 => ?_)
        · refine lv_aload_n hx hb dX9_tune_45 rfl (lv_at hl 0 rfl) ?_
          refine va_get (D := D) (ci := 9) (v := .int db_) (C := RX9) (T := TX9) (N := 21) hx hb hts winX9 hown hK hP 0 rfl rfl 11 (by decide) wf36 (fun _ h9 => h9) rfl dX9_tune_46 ?_
          exact J_35_44 _ ((if_neg c_35).symm) H locs hP hD hS ls (lv_sub hl [0, 1, 2] rfl)
        · refine lv_aload_n hx hb dX9_tune_38 rfl (lv_at hl 0 rfl) ?_
          refine va_get (D := D) (ci := 9) (v := .int ub_) (C := RX9) (T := TX9) (N := 21) hx hb hts winX9 hown hK hP 0 rfl rfl 10 (by decide) wf32 (fun _ h9 => h9) rfl dX9_tune_39 ?_
          refine lv_goto (tgt := 49) hx hb dX9_tune_42 (by decide) ?_
          exact J_35_44 _ ((if_pos c_35).symm) H locs hP hD hS ls (lv_sub hl [0, 1, 2] rfl)
      · refine lv_iconst (v := (-1)) hx hb dX9_tune_32 (by decide) ?_
        have hno : ¬ okTune w_ v_ := by first | exact fun z => c_11 z.1 | exact fun z => c_29 z.2
        have hc9 : Value.int ub_ = Value.int (n_ub ub_ w_ v_) := congrArg _ (show ub_ = n_ub ub_ w_ v_ from (if_neg hno).symm)
        rw [hc9] at hP hD
        have hc9 : Value.int db_ = Value.int (n_db db_ w_ v_) := congrArg _ (show db_ = n_db db_ w_ v_ from (if_neg hno).symm)
        rw [hc9] at hP hD
        refine lv_eqi (y := r_tune ub_ db_ w_ v_) ((if_neg hno).symm) ?_
        exact RT _ _ () H locs 33 ls (rt_i dX9_tune_33) rfl hP hD hS
    refine lv_if_ne (tgt := 23) hx hb dX9_tune_16 (by decide) (fun c_16 => ?_) (fun c_16 => ?_)
    · refine lv_iconst (v := 0) hx hb dX9_tune_23 (by decide) ?_
      refine lv_eqi (y := bI (w_ = 0)) (bI_congr (pa_f c_16)) ?_
      exact J_16_34 H locs hP hD hS ls (lv_sub hl [0, 1, 2] rfl)
    · refine lv_iconst (v := 1) hx hb dX9_tune_19 (by decide) ?_
      refine lv_goto (tgt := 24) hx hb dX9_tune_20 (by decide) ?_
      refine lv_eqi (y := bI (w_ = 0)) (bI_congr (pa_t c_16)) ?_
      exact J_16_34 H locs hP hD hS ls (lv_sub hl [0, 1, 2] rfl)
abbrev rmkX9_habit : Room := { frames := 1, cells := 0, slots := 0, locals := 22 }
set_option maxHeartbeats 4000000 in
set_option maxRecDepth 100000 in
theorem kX9_habit {l : Launch} {D : va_G} {cy : Nat → ClassId} {sa : Nat → Nat} (b0_ : Nat) (th_ : Int32) (tr_ : Int64) (bn_ : Nat) (bt_ : Nat) (bs_ : Nat) (bk_ : Nat) (bp_ : Nat) (bi_ : Nat) (bl_ : Nat) (it_ : Int32) (ub_ : Int32) (db_ : Int32) (bx_ : Nat) (tp_ : Int32) (nx_ : Int32) (tk_ : Int32) (pl_ : Int32) (vl_ : Int32) (fa_ : Int32) (bc_ : Nat) (bf_ : Nat) (sf_ : Nat → Int32) (w_ : Int32) (u_ : Int32) (hub : ¬ ub_ = 0) : CD l D cy sa yX9_habit wsX9_habit rmkX9_habit [.ref b0_, .int w_, .int u_] [(b0_, .inr (9, [.int th_, .long tr_, .ref bn_, .ref bt_, .ref bs_, .ref bk_, .ref bp_, .ref bi_, .ref bl_, .int it_, .int ub_, .int db_, .ref bx_, .int tp_, .int nx_, .int tk_, .int pl_, .int vl_, .int fa_, .ref bc_, .ref bf_])), (bs_, .inl (cy 0, 29, .inl sf_))] (some (.int (r_habit sf_ ub_ w_ u_))) [(b0_, .inr (9, [.int 0, .long tr_, .ref bn_, .ref bt_, .ref bs_, .ref bk_, .ref bp_, .ref bi_, .ref bl_, .int it_, .int ub_, .int db_, .ref bx_, .int tp_, .int nx_, .int tk_, .int pl_, .int vl_, .int fa_, .ref bc_, .ref bf_])), (bs_, .inl (cy 0, 29, .inl sf_))] := by
  refine CT.of cX9_habit 4 (some .int) (by decide) rfl (Nat.le_of_ble_eq_true rfl) ?_
  intro p e s m args below meth c A Q ls F hmn hK hE hA hP hD hS hl RT
  obtain ⟨hx, hb, hml, hown, hts⟩ := id F
  have winX9 : ∀ w_ ∈ u_ws RX9 TX9 21, w_ ∈ wsX9_habit := by decide +kernel
  have wf48 := hts (.fieldLink RX9 48 "SelfSteerModel" "thrown" "I") (by decide +kernel)
  have wf16 := hts (.fieldLink RX9 16 "SelfSteerModel" "s" "[I") (by decide +kernel)
  have wf32 := hts (.fieldLink RX9 32 "SelfSteerModel" "upBy" "I") (by decide +kernel)
  have hl : lv_has ls 4 [(0, .ref b0_), (1, .int w_), (2, .int u_)] := hl
  have hP : va_P D vwCl [(b0_, .inr (9, [.int th_, .long tr_, .ref bn_, .ref bt_, .ref bs_, .ref bk_, .ref bp_, .ref bi_, .ref bl_, .int it_, .int ub_, .int db_, .ref bx_, .int tp_, .int nx_, .int tk_, .int pl_, .int vl_, .int fa_, .ref bc_, .ref bf_])), (bs_, .inl (cy 0, 29, .inl sf_))] s.heap := hP
  have hD : va_D A [(b0_, .inr (9, [.int th_, .long tr_, .ref bn_, .ref bt_, .ref bs_, .ref bk_, .ref bp_, .ref bi_, .ref bl_, .int it_, .int ub_, .int db_, .ref bx_, .int tp_, .int nx_, .int tk_, .int pl_, .int vl_, .int fa_, .ref bc_, .ref bf_])), (bs_, .inl (cy 0, 29, .inl sf_))] := hD
  obtain ⟨H, hH⟩ : ∃ H0 : Heap, H0 = s.heap := ⟨_, rfl⟩
  obtain ⟨locs, hlo⟩ : ∃ L0 : List Loc, L0 = [] := ⟨_, rfl⟩
  have hS : va_S A s.heap H locs := by rw [hH, hlo]; exact hS
  rw [← hH] at hP
  show W p l e rmkX9_habit s m args below meth c s.heap [] 0 0 Q (F0 m 0 ls [])
  suffices hgo : W p l e rmkX9_habit s m args below meth c H locs 0 0 Q (F0 m 0 ls []) by rw [hH, hlo] at hgo; exact hgo
  clear hH hlo
  refine lv_aload_n hx hb dX9_habit_0 rfl (lv_at hl 0 rfl) ?_
  refine lv_iconst (v := 0) hx hb dX9_habit_1 (by decide) ?_
  refine va_put (D := D) (ci := 9) (v := .int 0) (ty := .int) (C := RX9) (T := TX9) (N := 21) hx hb hts winX9 tyX9 tyX9_ok nmX9 hown hK hP hD hS 0 rfl rfl 0 (by decide) wf48 (fun _ h9 => h9) rfl (by decide +kernel) rfl rfl (Nat.le_of_ble_eq_true rfl) dX9_habit_2 (fun H locs hP hD hS => ?_)
  have hP : va_P D vwCl [(b0_, .inr (9, [.int 0, .long tr_, .ref bn_, .ref bt_, .ref bs_, .ref bk_, .ref bp_, .ref bi_, .ref bl_, .int it_, .int ub_, .int db_, .ref bx_, .int tp_, .int nx_, .int tk_, .int pl_, .int vl_, .int fa_, .ref bc_, .ref bf_])), (bs_, .inl (cy 0, 29, .inl sf_))] H := hP
  have hD : va_D A [(b0_, .inr (9, [.int 0, .long tr_, .ref bn_, .ref bt_, .ref bs_, .ref bk_, .ref bp_, .ref bi_, .ref bl_, .int it_, .int ub_, .int db_, .ref bx_, .int tp_, .int nx_, .int tk_, .int pl_, .int vl_, .int fa_, .ref bc_, .ref bf_])), (bs_, .inl (cy 0, 29, .inl sf_))] := hD
  refine lv_iload_n hx hb dX9_habit_5 rfl (lv_at hl 1 rfl) ?_
  refine lv_iconst (v := 0) hx hb dX9_habit_6 (by decide) ?_
  refine lv_iconst (v := 1) hx hb dX9_habit_7 (by decide) ?_
  refine ca_S (n := 3) (rest := []) (wr := [(b0_, .inr (9, [.int 0, .long tr_, .ref bn_, .ref bt_, .ref bs_, .ref bk_, .ref bp_, .ref bi_, .ref bl_, .int it_, .int ub_, .int db_, .ref bx_, .int tp_, .int nx_, .int tk_, .int pl_, .int vl_, .int fa_, .ref bc_, .ref bf_])), (bs_, .inl (cy 0, 29, .inl sf_))]) F hK hE hA hP hD hS hl.1 (kX9_in (l := l) (D := D) (cy := cy) (sa := sa) w_ 0 1) gX9_habit_X9_in rfl rfl rfl (by decide +kernel) ⟨by decide, by decide⟩ [] [0, 1] rfl rfl rfl rfl (by decide) rfl rfl (Nat.le_of_ble_eq_true rfl) dX9_habit_8 ⟨by decide, by decide⟩ (fun v9 u9 H locs hv hP hD hS => ?_)
  subst hv
  have hP : va_P D vwCl [(b0_, .inr (9, [.int 0, .long tr_, .ref bn_, .ref bt_, .ref bs_, .ref bk_, .ref bp_, .ref bi_, .ref bl_, .int it_, .int ub_, .int db_, .ref bx_, .int tp_, .int nx_, .int tk_, .int pl_, .int vl_, .int fa_, .ref bc_, .ref bf_])), (bs_, .inl (cy 0, 29, .inl sf_))] H := hP
  have hD : va_D A [(b0_, .inr (9, [.int 0, .long tr_, .ref bn_, .ref bt_, .ref bs_, .ref bk_, .ref bp_, .ref bi_, .ref bl_, .int it_, .int ub_, .int db_, .ref bx_, .int tp_, .int nx_, .int tk_, .int pl_, .int vl_, .int fa_, .ref bc_, .ref bf_])), (bs_, .inl (cy 0, 29, .inl sf_))] := hD
  refine W.eq (g2 := F0 m 11 ls [.int (bI (inR w_ 0 1))]) rfl ?_
  refine bz_eq (tgt := 23) hx hb dX9_habit_11 (by decide) (fun c_11 => ?_) (fun c_11 => ?_)
  · refine lv_iconst (v := (-1)) hx hb dX9_habit_23 (by decide) ?_
    have hno : ¬ okHab w_ u_ := by first | exact fun z => c_11 z.1 | exact fun z => c_20 z.2
    refine lv_eqi (y := r_habit sf_ ub_ w_ u_) ((if_neg hno).symm) ?_
    exact RT _ _ () H locs 24 ls (rt_i dX9_habit_24) rfl hP hD hS
  · obtain ⟨x1_, hx1, rfl⟩ := inR_n 1 (by decide) rfl c_11
    refine lv_iload_n hx hb dX9_habit_14 rfl (lv_at hl 2 rfl) ?_
    refine lv_iconst (v := 0) hx hb dX9_habit_15 (by decide) ?_
    refine lv_iconst (v := 1) hx hb dX9_habit_16 (by decide) ?_
    refine ca_S (n := 3) (rest := []) (wr := [(b0_, .inr (9, [.int 0, .long tr_, .ref bn_, .ref bt_, .ref bs_, .ref bk_, .ref bp_, .ref bi_, .ref bl_, .int it_, .int ub_, .int db_, .ref bx_, .int tp_, .int nx_, .int tk_, .int pl_, .int vl_, .int fa_, .ref bc_, .ref bf_])), (bs_, .inl (cy 0, 29, .inl sf_))]) F hK hE hA hP hD hS hl.1 (kX9_in (l := l) (D := D) (cy := cy) (sa := sa) u_ 0 1) gX9_habit_X9_in rfl rfl rfl (by decide +kernel) ⟨by decide, by decide⟩ [] [0, 1] rfl rfl rfl rfl (by decide) rfl rfl (Nat.le_of_ble_eq_true rfl) dX9_habit_17 ⟨by decide, by decide⟩ (fun v9 u9 H locs hv hP hD hS => ?_)
    subst hv
    have hP : va_P D vwCl [(b0_, .inr (9, [.int 0, .long tr_, .ref bn_, .ref bt_, .ref bs_, .ref bk_, .ref bp_, .ref bi_, .ref bl_, .int it_, .int ub_, .int db_, .ref bx_, .int tp_, .int nx_, .int tk_, .int pl_, .int vl_, .int fa_, .ref bc_, .ref bf_])), (bs_, .inl (cy 0, 29, .inl sf_))] H := hP
    have hD : va_D A [(b0_, .inr (9, [.int 0, .long tr_, .ref bn_, .ref bt_, .ref bs_, .ref bk_, .ref bp_, .ref bi_, .ref bl_, .int it_, .int ub_, .int db_, .ref bx_, .int tp_, .int nx_, .int tk_, .int pl_, .int vl_, .int fa_, .ref bc_, .ref bf_])), (bs_, .inl (cy 0, 29, .inl sf_))] := hD
    refine W.eq (g2 := F0 m 20 ls [.int (bI (inR u_ 0 1))]) rfl ?_
    refine bz_ne (tgt := 25) hx hb dX9_habit_20 (by decide) (fun c_20 => ?_) (fun c_20 => ?_)
    · refine lv_aload_n hx hb dX9_habit_25 rfl (lv_at hl 0 rfl) ?_
      refine va_get (D := D) (ci := 9) (v := .ref bs_) (C := RX9) (T := TX9) (N := 21) hx hb hts winX9 hown hK hP 0 rfl rfl 4 (by decide) wf16 (fun _ h9 => h9) rfl dX9_habit_26 ?_
      refine lv_bipush (v := 25) hx hb dX9_habit_29 (by decide) ?_
      refine lv_iload_n hx hb dX9_habit_31 rfl (lv_at hl 1 rfl) ?_
      refine lv_iadd hx hb dX9_habit_32 ?_
      refine lv_eqi (y := nI (25 + x1_)) (nI_add 25 x1_) ?_
      refine al_i hx hb hK hP 1 rfl (25 + x1_) (rfl) (by omega) (by decide) dX9_habit_33 ?_
      refine lv_istore_n (lv' := [(3, .int (sf_ (25 + x1_))), (0, .ref b0_), (1, .int (nI x1_)), (2, .int u_)]) hx hb dX9_habit_34 rfl hl (by decide) rfl (fun ls hl => ?_)
      refine lv_iload_n hx hb dX9_habit_35 rfl (lv_at hl 3 rfl) ?_
      refine lv_if_ne (tgt := 41) hx hb dX9_habit_36 (by decide) (fun c_36 => ?_) (fun c_36 => ?_)
      · refine lv_iload_n hx hb dX9_habit_41 rfl (lv_at hl 0 rfl) ?_
        refine lv_bipush (v := 100) hx hb dX9_habit_42 (by decide) ?_
        refine lv_icmp_ne (tgt := 51) hx hb dX9_habit_44 (by decide) (fun c_44 => ?_) (fun c_44 => ?_)
        · refine lv_aload_n hx hb dX9_habit_51 rfl (lv_at hl 1 rfl) ?_
          refine va_get (D := D) (ci := 9) (v := .ref bs_) (C := RX9) (T := TX9) (N := 21) hx hb hts winX9 hown hK hP 0 rfl rfl 4 (by decide) wf16 (fun _ h9 => h9) rfl dX9_habit_52 ?_
          refine lv_bipush (v := 27) hx hb dX9_habit_55 (by decide) ?_
          refine lv_iload_n hx hb dX9_habit_57 rfl (lv_at hl 2 rfl) ?_
          refine lv_iadd hx hb dX9_habit_58 ?_
          refine lv_eqi (y := nI (27 + x1_)) (nI_add 27 x1_) ?_
          refine al_i hx hb hK hP 1 rfl (27 + x1_) (rfl) (by omega) (by decide) dX9_habit_59 ?_
          refine lv_iconst (v := 1) hx hb dX9_habit_60 (by decide) ?_
          refine lv_icmp_ne (tgt := 68) hx hb dX9_habit_61 (by decide) (fun c_61 => ?_) (fun c_61 => ?_)
          · refine lv_bipush (v := 100) hx hb dX9_habit_68 (by decide) ?_
            refine lv_iload_n hx hb dX9_habit_70 rfl (lv_at hl 0 rfl) ?_
            refine lv_isub hx hb dX9_habit_71 ?_
            refine lv_aload_n hx hb dX9_habit_72 rfl (lv_at hl 1 rfl) ?_
            refine va_get (D := D) (ci := 9) (v := .int ub_) (C := RX9) (T := TX9) (N := 21) hx hb hts winX9 hown hK hP 0 rfl rfl 10 (by decide) wf32 (fun _ h9 => h9) rfl dX9_habit_73 ?_
            refine lv_iadd hx hb dX9_habit_76 ?_
            refine lv_iconst (v := 1) hx hb dX9_habit_77 (by decide) ?_
            refine lv_isub hx hb dX9_habit_78 ?_
            refine lv_aload_n hx hb dX9_habit_79 rfl (lv_at hl 1 rfl) ?_
            refine va_get (D := D) (ci := 9) (v := .int ub_) (C := RX9) (T := TX9) (N := 21) hx hb hts winX9 hown hK hP 0 rfl rfl 10 (by decide) wf32 (fun _ h9 => h9) rfl dX9_habit_80 ?_
            refine lv_idiv hx hb dX9_habit_83 (hub) ?_
            refine lv_eqi (y := r_habit sf_ ub_ (nI x1_) u_) (by rw [r_habit, if_pos ⟨c_11, c_20⟩, if_neg c_36, cl_n (by omega), hbN]; first | (rw [if_pos c_44]; done) | (rw [if_neg c_44, if_pos c_61]; done) | rw [if_neg c_44, if_neg c_61]) ?_
            exact RT _ _ () H locs 84 ls (rt_i dX9_habit_84) rfl hP hD hS
          · refine lv_iconst (v := 1) hx hb dX9_habit_64 (by decide) ?_
            refine lv_goto (tgt := 84) hx hb dX9_habit_65 (by decide) ?_
            refine lv_eqi (y := r_habit sf_ ub_ (nI x1_) u_) (by rw [r_habit, if_pos ⟨c_11, c_20⟩, if_neg c_36, cl_n (by omega), hbN]; first | (rw [if_pos c_44]; done) | (rw [if_neg c_44, if_pos c_61]; done) | rw [if_neg c_44, if_neg c_61]) ?_
            exact RT _ _ () H locs 84 ls (rt_i dX9_habit_84) rfl hP hD hS
        · refine lv_iconst (v := 0) hx hb dX9_habit_47 (by decide) ?_
          refine lv_goto (tgt := 84) hx hb dX9_habit_48 (by decide) ?_
          refine lv_eqi (y := r_habit sf_ ub_ (nI x1_) u_) (by rw [r_habit, if_pos ⟨c_11, c_20⟩, if_neg c_36, cl_n (by omega), hbN]; first | (rw [if_pos c_44]; done) | (rw [if_neg c_44, if_pos c_61]; done) | rw [if_neg c_44, if_neg c_61]) ?_
          exact RT _ _ () H locs 84 ls (rt_i dX9_habit_84) rfl hP hD hS
      · refine lv_iload_n hx hb dX9_habit_39 rfl (lv_at hl 0 rfl) ?_
        refine lv_eqi (y := r_habit sf_ ub_ (nI x1_) u_) (by rw [r_habit, if_pos ⟨c_11, c_20⟩, if_pos c_36, cl_n (by omega)]) ?_
        exact RT _ _ () H locs 40 ls (rt_i dX9_habit_40) rfl hP hD hS
    · refine lv_iconst (v := (-1)) hx hb dX9_habit_23 (by decide) ?_
      have hno : ¬ okHab (nI x1_) u_ := by first | exact fun z => c_11 z.1 | exact fun z => c_20 z.2
      refine lv_eqi (y := r_habit sf_ ub_ (nI x1_) u_) ((if_neg hno).symm) ?_
      exact RT _ _ () H locs 24 ls (rt_i dX9_habit_24) rfl hP hD hS
