abbrev rmkX9_within : Room := { frames := 0, cells := 0, slots := 0, locals := 0 }
set_option maxHeartbeats 4000000 in
set_option maxRecDepth 100000 in
theorem kX9_within {l : Launch} {D : va_G} {cy : Nat → ClassId} {sa : Nat → Nat} (v_ : Int32) (w_ : Int32)  : CD l D cy sa yX9_within wsX9_within rmkX9_within [.int v_, .int w_] [] (some (.int (wth v_ w_))) [] := by
  refine CT.of cX9_within 2 (some .int) (by decide) rfl (Nat.le_of_ble_eq_true rfl) ?_
  intro p e s m args below meth c A Q ls F hmn hK hE hA hP hD hS hl RT
  obtain ⟨hx, hb, hml, hown, hts⟩ := id F
  have hl : lv_has ls 2 [(0, .int v_), (1, .int w_)] := hl
  have hP : va_P D vwCl [] s.heap := hP
  have hD : va_D A [] := hD
  obtain ⟨H, hH⟩ : ∃ H0 : Heap, H0 = s.heap := ⟨_, rfl⟩
  obtain ⟨locs, hlo⟩ : ∃ L0 : List Loc, L0 = [] := ⟨_, rfl⟩
  have hS : va_S A s.heap H locs := by rw [hH, hlo]; exact hS
  rw [← hH] at hP
  show W p l e rmkX9_within s m args below meth c s.heap [] 0 0 Q (F0 m 0 ls [])
  suffices hgo : W p l e rmkX9_within s m args below meth c H locs 0 0 Q (F0 m 0 ls []) by rw [hH, hlo] at hgo; exact hgo
  clear hH hlo
  refine lv_iload_n hx hb dX9_within_0 rfl (lv_at hl 0 rfl) ?_
  refine lv_iload_n hx hb dX9_within_1 rfl (lv_at hl 1 rfl) ?_
  have J_2_12 : ∀ (z2 : Int32), z2 = (if v_ ≤ w_ then (if (-w_) ≤ v_ then v_ else (-w_)) else w_) → ∀ (H : Heap) (locs : List Loc), va_P D vwCl [] H → va_D A [] → va_S A s.heap H locs → ∀ (ls : Array Slot), lv_has ls 2 [(0, .int v_), (1, .int w_)] → W p l e rmkX9_within s m args below meth c H locs 0 0 Q (F0 m 21 ls [.int z2]) := by
    intro z2 ez2 H locs hP hD hS ls hl
    refine lv_eqi (y := wth v_ w_) (ez2) ?_
    exact RT _ _ () H locs 21 ls (rt_i dX9_within_21) rfl hP hD hS
  refine lv_icmp_le (tgt := 9) hx hb dX9_within_2 (by decide) (fun c_2 => ?_) (fun c_2 => ?_)
  · refine lv_iload_n hx hb dX9_within_9 rfl (lv_at hl 0 rfl) ?_
    refine lv_iload_n hx hb dX9_within_10 rfl (lv_at hl 1 rfl) ?_
    refine lv_ineg hx hb dX9_within_11 ?_
    refine lv_icmp_ge (tgt := 20) hx hb dX9_within_12 (by decide) (fun c_12 => ?_) (fun c_12 => ?_)
    · refine lv_iload_n hx hb dX9_within_20 rfl (lv_at hl 0 rfl) ?_
      exact J_2_12 _ (((if_pos c_2).trans (if_pos c_12)).symm) H locs hP hD hS ls (lv_sub hl [0, 1] rfl)
    · refine lv_iload_n hx hb dX9_within_15 rfl (lv_at hl 1 rfl) ?_
      refine lv_ineg hx hb dX9_within_16 ?_
      refine lv_goto (tgt := 21) hx hb dX9_within_17 (by decide) ?_
      exact J_2_12 _ (((if_pos c_2).trans (if_neg c_12)).symm) H locs hP hD hS ls (lv_sub hl [0, 1] rfl)
  · refine lv_iload_n hx hb dX9_within_5 rfl (lv_at hl 1 rfl) ?_
    refine lv_goto (tgt := 21) hx hb dX9_within_6 (by decide) ?_
    exact J_2_12 _ ((if_neg c_2).symm) H locs hP hD hS ls (lv_sub hl [0, 1] rfl)
abbrev rmkX9_tick : Room := { frames := 1, cells := 0, slots := 0, locals := 22 }
set_option maxHeartbeats 4000000 in
set_option maxRecDepth 100000 in
theorem kX9_tick {l : Launch} {D : va_G} {cy : Nat → ClassId} {sa : Nat → Nat} (b0_ : Nat) (th_ : Int32) (tr_ : Int64) (bn_ : Nat) (bt_ : Nat) (bs_ : Nat) (bk_ : Nat) (bp_ : Nat) (bi_ : Nat) (bl_ : Nat) (it_ : Int32) (ub_ : Int32) (db_ : Int32) (bx_ : Nat) (tp_ : Int32) (nx_ : Int32) (tk_ : Int32) (pl_ : Int32) (vl_ : Int32) (fa_ : Int32) (bc_ : Nat) (bf_ : Nat) (nb_ : Nat → Nat → Int32) (ft_ : Nat → Int32) (sf_ : Nat → Int32) (lw_ : Nat → Int32) (i_ : Nat) (d_ : Nat) (hi : i_ < 4) (hof : sf_ 0 = nI i_) (hd : lw_ 3 = nI d_) (hd5 : d_ ≤ 5) (h4 : ¬ nb_ i_ 4 = 0) (h40 : ¬ 10 * nb_ i_ 4 = 0) : CD l D cy sa yX9_tick wsX9_tick rmkX9_tick [.ref b0_] [(b0_, .inr (9, [.int th_, .long tr_, .ref bn_, .ref bt_, .ref bs_, .ref bk_, .ref bp_, .ref bi_, .ref bl_, .int it_, .int ub_, .int db_, .ref bx_, .int tp_, .int nx_, .int tk_, .int pl_, .int vl_, .int fa_, .ref bc_, .ref bf_])), (bn_, .inl (cy 0, 24, .inl (nbF nb_))), (bt_, .inl (cy 0, 6, .inl ft_)), (bs_, .inl (cy 0, 29, .inl sf_)), (bl_, .inl (cy 0, 10, .inl lw_))] (none) [(b0_, .inr (9, [.int th_, .long tr_, .ref bn_, .ref bt_, .ref bs_, .ref bk_, .ref bp_, .ref bi_, .ref bl_, .int it_, .int ub_, .int db_, .ref bx_, .int tp_, .int nx_, .int tk_, .int pl_, .int vl_, .int fa_, .ref bc_, .ref bf_])), (bn_, .inl (cy 0, 24, .inl (nbF nb_))), (bt_, .inl (cy 0, 6, .inl (nb_ i_))), (bs_, .inl (cy 0, 29, .inl (tickF (nb_ i_) lw_ sf_ d_))), (bl_, .inl (cy 0, 10, .inl lw_))] := by
  refine CT.of cX9_tick 10 none (by decide) rfl (Nat.le_of_ble_eq_true rfl) ?_
  intro p e s m args below meth c A Q ls F hmn hK hE hA hP hD hS hl RT
  obtain ⟨hx, hb, hml, hown, hts⟩ := id F
  have winX9 : ∀ w ∈ u_ws RX9 TX9 21, w ∈ wsX9_tick := by decide +kernel
  have wf16 := hts (.fieldLink RX9 16 "SelfSteerModel" "s" "[I") (by decide +kernel)
  have wf29 := hts (.fieldLink RX9 29 "SelfSteerModel" "law" "[I") (by decide +kernel)
  have wf13 := hts (.fieldLink RX9 13 "SelfSteerModel" "tried" "[I") (by decide +kernel)
  have wc173 := hts (.constant RX9 173 (100000)) (by decide +kernel)
  have hl : lv_has ls 10 [(0, .ref b0_)] := hl
  have hP : va_P D vwCl [(b0_, .inr (9, [.int th_, .long tr_, .ref bn_, .ref bt_, .ref bs_, .ref bk_, .ref bp_, .ref bi_, .ref bl_, .int it_, .int ub_, .int db_, .ref bx_, .int tp_, .int nx_, .int tk_, .int pl_, .int vl_, .int fa_, .ref bc_, .ref bf_])), (bn_, .inl (cy 0, 24, .inl (nbF nb_))), (bt_, .inl (cy 0, 6, .inl ft_)), (bs_, .inl (cy 0, 29, .inl sf_)), (bl_, .inl (cy 0, 10, .inl lw_))] s.heap := hP
  have hD : va_D A [(b0_, .inr (9, [.int th_, .long tr_, .ref bn_, .ref bt_, .ref bs_, .ref bk_, .ref bp_, .ref bi_, .ref bl_, .int it_, .int ub_, .int db_, .ref bx_, .int tp_, .int nx_, .int tk_, .int pl_, .int vl_, .int fa_, .ref bc_, .ref bf_])), (bn_, .inl (cy 0, 24, .inl (nbF nb_))), (bt_, .inl (cy 0, 6, .inl ft_)), (bs_, .inl (cy 0, 29, .inl sf_)), (bl_, .inl (cy 0, 10, .inl lw_))] := hD
  obtain ⟨H, hH⟩ : ∃ H0 : Heap, H0 = s.heap := ⟨_, rfl⟩
  obtain ⟨locs, hlo⟩ : ∃ L0 : List Loc, L0 = [] := ⟨_, rfl⟩
  have hS : va_S A s.heap H locs := by rw [hH, hlo]; exact hS
  rw [← hH] at hP
  show W p l e rmkX9_tick s m args below meth c s.heap [] 0 0 Q (F0 m 0 ls [])
  suffices hgo : W p l e rmkX9_tick s m args below meth c H locs 0 0 Q (F0 m 0 ls []) by rw [hH, hlo] at hgo; exact hgo
  clear hH hlo
  refine lv_aload_n hx hb dX9_tick_0 rfl (lv_at hl 0 rfl) ?_
  refine lv_aload_n hx hb dX9_tick_1 rfl (lv_at hl 0 rfl) ?_
  refine va_get (D := D) (ci := 9) (v := .ref bs_) (C := RX9) (T := TX9) (N := 21) hx hb hts winX9 hown hK hP 0 rfl rfl 4 (by decide) wf16 (fun _ h9 => h9) rfl dX9_tick_2 ?_
  refine lv_iconst (v := 0) hx hb dX9_tick_5 (by decide) ?_
  refine al_i hx hb hK hP 3 rfl 0 (rfl) (by decide) (by decide) dX9_tick_6 ?_
  refine lv_eqi (y := nI i_) (hof) ?_
  refine ca_V (q0 := 0) (n := 1) (rest := []) (wr := [(bs_, .inl (cy 0, 29, .inl sf_)), (bl_, .inl (cy 0, 10, .inl lw_))]) F hK hE hA hP hD hS hl.1 (kX9_takes (l := l) (D := D) (cy := cy) (sa := sa) b0_ th_ tr_ bn_ bt_ bs_ bk_ bp_ bi_ bl_ it_ ub_ db_ bx_ tp_ nx_ tk_ pl_ vl_ fa_ bc_ bf_ nb_ ft_ i_ (by first | assumption | omega | decide)) gX9_tick_X9_takes rfl rfl rfl rfl rfl rfl (by decide +kernel) ⟨by decide, by decide⟩ [0, 1, 2] [3, 4] rfl rfl rfl rfl (by decide) rfl rfl (Nat.le_of_ble_eq_true rfl) dX9_tick_7 ⟨by decide, by decide⟩ (fun v9 u9 H locs hv hP hD hS => ?_)
  subst hv
  obtain ⟨hP, hD⟩ := re_ws (ws' := [(b0_, .inr (9, [.int th_, .long tr_, .ref bn_, .ref bt_, .ref bs_, .ref bk_, .ref bp_, .ref bi_, .ref bl_, .int it_, .int ub_, .int db_, .ref bx_, .int tp_, .int nx_, .int tk_, .int pl_, .int vl_, .int fa_, .ref bc_, .ref bf_])), (bn_, .inl (cy 0, 24, .inl (nbF nb_))), (bt_, .inl (cy 0, 6, .inl (nb_ i_))), (bs_, .inl (cy 0, 29, .inl sf_)), (bl_, .inl (cy 0, 10, .inl lw_))]) hP hD [2, 3, 4, 0, 1] rfl rfl
  refine W.eq (g2 := F0 m 10 ls []) rfl ?_
  refine lv_aload_n hx hb dX9_tick_10 rfl (lv_at hl 0 rfl) ?_
  refine va_get (D := D) (ci := 9) (v := .ref bs_) (C := RX9) (T := TX9) (N := 21) hx hb hts winX9 hown hK hP 0 rfl rfl 4 (by decide) wf16 (fun _ h9 => h9) rfl dX9_tick_11 ?_
  refine lv_iconst (v := 1) hx hb dX9_tick_14 (by decide) ?_
  refine al_i hx hb hK hP 3 rfl 1 (rfl) (by decide) (by decide) dX9_tick_15 ?_
  refine lv_istore_n (lv' := [(1, .int (sf_ 1)), (0, .ref b0_)]) hx hb dX9_tick_16 rfl hl (by decide) rfl (fun ls hl => ?_)
  refine lv_aload_n hx hb dX9_tick_17 rfl (lv_at hl 1 rfl) ?_
  refine va_get (D := D) (ci := 9) (v := .ref bl_) (C := RX9) (T := TX9) (N := 21) hx hb hts winX9 hown hK hP 0 rfl rfl 8 (by decide) wf29 (fun _ h9 => h9) rfl dX9_tick_18 ?_
  refine lv_iconst (v := 3) hx hb dX9_tick_21 (by decide) ?_
  refine al_i hx hb hK hP 4 rfl 3 (rfl) (by decide) (by decide) dX9_tick_22 ?_
  refine lv_eqi (y := nI d_) (hd) ?_
  refine lv_istore_n (lv' := [(2, .int (nI d_)), (1, .int (sf_ 1)), (0, .ref b0_)]) hx hb dX9_tick_23 rfl hl (by decide) rfl (fun ls hl => ?_)
  refine lv_iload_n hx hb dX9_tick_24 rfl (lv_at hl 0 rfl) ?_
  have J_25_32 : ∀ (z25 : Int32), z25 = (if d_ = 0 then (sf_ 3) else (sf_ (10 + (3 * (d_ - 1))))) → ∀ (H : Heap) (locs : List Loc), va_P D vwCl [(b0_, .inr (9, [.int th_, .long tr_, .ref bn_, .ref bt_, .ref bs_, .ref bk_, .ref bp_, .ref bi_, .ref bl_, .int it_, .int ub_, .int db_, .ref bx_, .int tp_, .int nx_, .int tk_, .int pl_, .int vl_, .int fa_, .ref bc_, .ref bf_])), (bn_, .inl (cy 0, 24, .inl (nbF nb_))), (bt_, .inl (cy 0, 6, .inl (nb_ i_))), (bs_, .inl (cy 0, 29, .inl sf_)), (bl_, .inl (cy 0, 10, .inl lw_))] H → va_D A [(b0_, .inr (9, [.int th_, .long tr_, .ref bn_, .ref bt_, .ref bs_, .ref bk_, .ref bp_, .ref bi_, .ref bl_, .int it_, .int ub_, .int db_, .ref bx_, .int tp_, .int nx_, .int tk_, .int pl_, .int vl_, .int fa_, .ref bc_, .ref bf_])), (bn_, .inl (cy 0, 24, .inl (nbF nb_))), (bt_, .inl (cy 0, 6, .inl (nb_ i_))), (bs_, .inl (cy 0, 29, .inl sf_)), (bl_, .inl (cy 0, 10, .inl lw_))] → va_S A s.heap H locs → ∀ (ls : Array Slot), lv_has ls 10 [(2, .int (nI d_)), (1, .int (sf_ 1)), (0, .ref b0_)] → W p l e rmkX9_tick s m args below meth c H locs 0 0 Q (F0 m 50 ls [.int z25]) := by
    intro z25 ez25 H locs hP hD hS ls hl
    refine lv_istore_n (lv' := [(3, .int z25), (2, .int (nI d_)), (1, .int (sf_ 1)), (0, .ref b0_)]) hx hb dX9_tick_50 rfl hl (by decide) rfl (fun ls hl => ?_)
    refine lv_iload_n hx hb dX9_tick_51 rfl (lv_at hl 1 rfl) ?_
    have J_52_36 : ∀ (z52 : Int32), z52 = (if d_ = 0 then (sf_ 5) else (sf_ ((10 + (3 * (d_ - 1))) + 1))) → ∀ (H : Heap) (locs : List Loc), va_P D vwCl [(b0_, .inr (9, [.int th_, .long tr_, .ref bn_, .ref bt_, .ref bs_, .ref bk_, .ref bp_, .ref bi_, .ref bl_, .int it_, .int ub_, .int db_, .ref bx_, .int tp_, .int nx_, .int tk_, .int pl_, .int vl_, .int fa_, .ref bc_, .ref bf_])), (bn_, .inl (cy 0, 24, .inl (nbF nb_))), (bt_, .inl (cy 0, 6, .inl (nb_ i_))), (bs_, .inl (cy 0, 29, .inl sf_)), (bl_, .inl (cy 0, 10, .inl lw_))] H → va_D A [(b0_, .inr (9, [.int th_, .long tr_, .ref bn_, .ref bt_, .ref bs_, .ref bk_, .ref bp_, .ref bi_, .ref bl_, .int it_, .int ub_, .int db_, .ref bx_, .int tp_, .int nx_, .int tk_, .int pl_, .int vl_, .int fa_, .ref bc_, .ref bf_])), (bn_, .inl (cy 0, 24, .inl (nbF nb_))), (bt_, .inl (cy 0, 6, .inl (nb_ i_))), (bs_, .inl (cy 0, 29, .inl sf_)), (bl_, .inl (cy 0, 10, .inl lw_))] → va_S A s.heap H locs → ∀ (ls : Array Slot), lv_has ls 10 [(3, .int z25), (2, .int (nI d_)), (1, .int (sf_ 1)), (0, .ref b0_)] → W p l e rmkX9_tick s m args below meth c H locs 0 0 Q (F0 m 79 ls [.int z52]) := by
      intro z52 ez52 H locs hP hD hS ls hl
      refine lv_istore (lv' := [(4, .int z52), (3, .int z25), (2, .int (nI d_)), (1, .int (sf_ 1)), (0, .ref b0_)]) hx hb dX9_tick_79 hl (by decide) rfl (fun ls hl => ?_)
      refine lv_iload_n hx hb dX9_tick_81 rfl (lv_at hl 2 rfl) ?_
      have J_82_40 : ∀ (z82 : Int32), z82 = (if d_ = 0 then (sf_ 4) else (sf_ ((10 + (3 * (d_ - 1))) + 2))) → ∀ (H : Heap) (locs : List Loc), va_P D vwCl [(b0_, .inr (9, [.int th_, .long tr_, .ref bn_, .ref bt_, .ref bs_, .ref bk_, .ref bp_, .ref bi_, .ref bl_, .int it_, .int ub_, .int db_, .ref bx_, .int tp_, .int nx_, .int tk_, .int pl_, .int vl_, .int fa_, .ref bc_, .ref bf_])), (bn_, .inl (cy 0, 24, .inl (nbF nb_))), (bt_, .inl (cy 0, 6, .inl (nb_ i_))), (bs_, .inl (cy 0, 29, .inl sf_)), (bl_, .inl (cy 0, 10, .inl lw_))] H → va_D A [(b0_, .inr (9, [.int th_, .long tr_, .ref bn_, .ref bt_, .ref bs_, .ref bk_, .ref bp_, .ref bi_, .ref bl_, .int it_, .int ub_, .int db_, .ref bx_, .int tp_, .int nx_, .int tk_, .int pl_, .int vl_, .int fa_, .ref bc_, .ref bf_])), (bn_, .inl (cy 0, 24, .inl (nbF nb_))), (bt_, .inl (cy 0, 6, .inl (nb_ i_))), (bs_, .inl (cy 0, 29, .inl sf_)), (bl_, .inl (cy 0, 10, .inl lw_))] → va_S A s.heap H locs → ∀ (ls : Array Slot), lv_has ls 10 [(4, .int z52), (3, .int z25), (2, .int (nI d_)), (1, .int (sf_ 1)), (0, .ref b0_)] → W p l e rmkX9_tick s m args below meth c H locs 0 0 Q (F0 m 109 ls [.int z82]) := by
        intro z82 ez82 H locs hP hD hS ls hl
        refine lv_istore (lv' := [(5, .int z82), (4, .int z52), (3, .int z25), (2, .int (nI d_)), (1, .int (sf_ 1)), (0, .ref b0_)]) hx hb dX9_tick_109 hl (by decide) rfl (fun ls hl => ?_)
        refine lv_aload_n hx hb dX9_tick_111 rfl (lv_at hl 5 rfl) ?_
        refine va_get (D := D) (ci := 9) (v := .ref bl_) (C := RX9) (T := TX9) (N := 21) hx hb hts winX9 hown hK hP 0 rfl rfl 8 (by decide) wf29 (fun _ h9 => h9) rfl dX9_tick_112 ?_
        refine lv_iconst (v := 0) hx hb dX9_tick_115 (by decide) ?_
        refine al_i hx hb hK hP 4 rfl 0 (rfl) (by decide) (by decide) dX9_tick_116 ?_
        refine lv_iload_n hx hb dX9_tick_117 rfl (lv_at hl 2 rfl) ?_
        refine lv_imul hx hb dX9_tick_118 ?_
        refine lv_aload_n hx hb dX9_tick_119 rfl (lv_at hl 5 rfl) ?_
        refine va_get (D := D) (ci := 9) (v := .ref bl_) (C := RX9) (T := TX9) (N := 21) hx hb hts winX9 hown hK hP 0 rfl rfl 8 (by decide) wf29 (fun _ h9 => h9) rfl dX9_tick_120 ?_
        refine lv_iconst (v := 1) hx hb dX9_tick_123 (by decide) ?_
        refine al_i hx hb hK hP 4 rfl 1 (rfl) (by decide) (by decide) dX9_tick_124 ?_
        refine lv_iload hx hb dX9_tick_125 (lv_at hl 1 rfl) ?_
        refine lv_imul hx hb dX9_tick_127 ?_
        refine lv_iadd hx hb dX9_tick_128 ?_
        refine lv_aload_n hx hb dX9_tick_129 rfl (lv_at hl 5 rfl) ?_
        refine va_get (D := D) (ci := 9) (v := .ref bl_) (C := RX9) (T := TX9) (N := 21) hx hb hts winX9 hown hK hP 0 rfl rfl 8 (by decide) wf29 (fun _ h9 => h9) rfl dX9_tick_130 ?_
        refine lv_iconst (v := 2) hx hb dX9_tick_133 (by decide) ?_
        refine al_i hx hb hK hP 4 rfl 2 (rfl) (by decide) (by decide) dX9_tick_134 ?_
        refine lv_iload hx hb dX9_tick_135 (lv_at hl 0 rfl) ?_
        refine lv_imul hx hb dX9_tick_137 ?_
        refine lv_iadd hx hb dX9_tick_138 ?_
        refine lv_bipush (v := 10) hx hb dX9_tick_139 (by decide) ?_
        refine lv_idiv hx hb dX9_tick_141 (by decide) ?_
        refine lv_topi (fun x142 ex142 => ?_)
        refine lv_istore (lv' := [(6, .int x142), (5, .int z82), (4, .int z52), (3, .int z25), (2, .int (nI d_)), (1, .int (sf_ 1)), (0, .ref b0_)]) hx hb dX9_tick_142 hl (by decide) rfl (fun ls hl => ?_)
        refine lv_iload hx hb dX9_tick_144 (lv_at hl 0 rfl) ?_
        refine lv_aload_n hx hb dX9_tick_146 rfl (lv_at hl 6 rfl) ?_
        refine va_get (D := D) (ci := 9) (v := .ref bl_) (C := RX9) (T := TX9) (N := 21) hx hb hts winX9 hown hK hP 0 rfl rfl 8 (by decide) wf29 (fun _ h9 => h9) rfl dX9_tick_147 ?_
        refine lv_iconst (v := 4) hx hb dX9_tick_150 (by decide) ?_
        refine al_i hx hb hK hP 4 rfl 4 (rfl) (by decide) (by decide) dX9_tick_151 ?_
        have J_152_72 : ∀ (z152 : Int32), z152 = (if x142 ≤ (lw_ 4) then (if (-(lw_ 4)) ≤ x142 then x142 else (-(lw_ 4))) else (lw_ 4)) → ∀ (H : Heap) (locs : List Loc), va_P D vwCl [(b0_, .inr (9, [.int th_, .long tr_, .ref bn_, .ref bt_, .ref bs_, .ref bk_, .ref bp_, .ref bi_, .ref bl_, .int it_, .int ub_, .int db_, .ref bx_, .int tp_, .int nx_, .int tk_, .int pl_, .int vl_, .int fa_, .ref bc_, .ref bf_])), (bn_, .inl (cy 0, 24, .inl (nbF nb_))), (bt_, .inl (cy 0, 6, .inl (nb_ i_))), (bs_, .inl (cy 0, 29, .inl sf_)), (bl_, .inl (cy 0, 10, .inl lw_))] H → va_D A [(b0_, .inr (9, [.int th_, .long tr_, .ref bn_, .ref bt_, .ref bs_, .ref bk_, .ref bp_, .ref bi_, .ref bl_, .int it_, .int ub_, .int db_, .ref bx_, .int tp_, .int nx_, .int tk_, .int pl_, .int vl_, .int fa_, .ref bc_, .ref bf_])), (bn_, .inl (cy 0, 24, .inl (nbF nb_))), (bt_, .inl (cy 0, 6, .inl (nb_ i_))), (bs_, .inl (cy 0, 29, .inl sf_)), (bl_, .inl (cy 0, 10, .inl lw_))] → va_S A s.heap H locs → ∀ (ls : Array Slot), lv_has ls 10 [(6, .int x142), (5, .int z82), (4, .int z52), (3, .int z25), (2, .int (nI d_)), (1, .int (sf_ 1)), (0, .ref b0_)] → W p l e rmkX9_tick s m args below meth c H locs 0 0 Q (F0 m 188 ls [.int z152]) := by
          intro z152 ez152 H locs hP hD hS ls hl
          refine lv_istore (lv' := [(6, .int z152), (5, .int z82), (4, .int z52), (3, .int z25), (2, .int (nI d_)), (1, .int (sf_ 1)), (0, .ref b0_)]) hx hb dX9_tick_188 hl (by decide) rfl (fun ls hl => ?_)
          refine lv_aload_n hx hb dX9_tick_190 rfl (lv_at hl 6 rfl) ?_
          refine va_get (D := D) (ci := 9) (v := .ref bs_) (C := RX9) (T := TX9) (N := 21) hx hb hts winX9 hown hK hP 0 rfl rfl 4 (by decide) wf16 (fun _ h9 => h9) rfl dX9_tick_191 ?_
          refine lv_iconst (v := 2) hx hb dX9_tick_194 (by decide) ?_
          refine al_i hx hb hK hP 3 rfl 2 (rfl) (by decide) (by decide) dX9_tick_195 ?_
          refine lv_iconst (v := 1) hx hb dX9_tick_196 (by decide) ?_
          have J_197_80 : ∀ (z197 : Int32), z197 = (if (sf_ 2) = 1 then (-z152) else z152) → ∀ (H : Heap) (locs : List Loc), va_P D vwCl [(b0_, .inr (9, [.int th_, .long tr_, .ref bn_, .ref bt_, .ref bs_, .ref bk_, .ref bp_, .ref bi_, .ref bl_, .int it_, .int ub_, .int db_, .ref bx_, .int tp_, .int nx_, .int tk_, .int pl_, .int vl_, .int fa_, .ref bc_, .ref bf_])), (bn_, .inl (cy 0, 24, .inl (nbF nb_))), (bt_, .inl (cy 0, 6, .inl (nb_ i_))), (bs_, .inl (cy 0, 29, .inl sf_)), (bl_, .inl (cy 0, 10, .inl lw_))] H → va_D A [(b0_, .inr (9, [.int th_, .long tr_, .ref bn_, .ref bt_, .ref bs_, .ref bk_, .ref bp_, .ref bi_, .ref bl_, .int it_, .int ub_, .int db_, .ref bx_, .int tp_, .int nx_, .int tk_, .int pl_, .int vl_, .int fa_, .ref bc_, .ref bf_])), (bn_, .inl (cy 0, 24, .inl (nbF nb_))), (bt_, .inl (cy 0, 6, .inl (nb_ i_))), (bs_, .inl (cy 0, 29, .inl sf_)), (bl_, .inl (cy 0, 10, .inl lw_))] → va_S A s.heap H locs → ∀ (ls : Array Slot), lv_has ls 10 [(6, .int z152), (5, .int z82), (4, .int z52), (3, .int z25), (2, .int (nI d_)), (1, .int (sf_ 1)), (0, .ref b0_)] → W p l e rmkX9_tick s m args below meth c H locs 0 0 Q (F0 m 208 ls [.int z197]) := by
            intro z197 ez197 H locs hP hD hS ls hl
            refine lv_istore (lv' := [(6, .int z197), (5, .int z82), (4, .int z52), (3, .int z25), (2, .int (nI d_)), (1, .int (sf_ 1)), (0, .ref b0_)]) hx hb dX9_tick_208 hl (by decide) rfl (fun ls hl => ?_)
            refine lv_aload_n hx hb dX9_tick_210 rfl (lv_at hl 6 rfl) ?_
            refine va_get (D := D) (ci := 9) (v := .ref bt_) (C := RX9) (T := TX9) (N := 21) hx hb hts winX9 hown hK hP 0 rfl rfl 3 (by decide) wf13 (fun _ h9 => h9) rfl dX9_tick_211 ?_
            refine lv_iconst (v := 3) hx hb dX9_tick_214 (by decide) ?_
            refine al_i hx hb hK hP 2 rfl 3 (rfl) (by decide) (by decide) dX9_tick_215 ?_
            refine lv_aload_n hx hb dX9_tick_216 rfl (lv_at hl 6 rfl) ?_
            refine va_get (D := D) (ci := 9) (v := .ref bs_) (C := RX9) (T := TX9) (N := 21) hx hb hts winX9 hown hK hP 0 rfl rfl 4 (by decide) wf16 (fun _ h9 => h9) rfl dX9_tick_217 ?_
            refine lv_iconst (v := 3) hx hb dX9_tick_220 (by decide) ?_
            refine al_i hx hb hK hP 3 rfl 3 (rfl) (by decide) (by decide) dX9_tick_221 ?_
            refine lv_imul hx hb dX9_tick_222 ?_
            refine lv_iload_n hx hb dX9_tick_223 rfl (lv_at hl 5 rfl) ?_
            refine lv_iload_n hx hb dX9_tick_224 rfl (lv_at hl 5 rfl) ?_
            refine lv_imul hx hb dX9_tick_225 ?_
            refine lv_aload_n hx hb dX9_tick_226 rfl (lv_at hl 6 rfl) ?_
            refine va_get (D := D) (ci := 9) (v := .ref bs_) (C := RX9) (T := TX9) (N := 21) hx hb hts winX9 hown hK hP 0 rfl rfl 4 (by decide) wf16 (fun _ h9 => h9) rfl dX9_tick_227 ?_
            refine lv_iconst (v := 4) hx hb dX9_tick_230 (by decide) ?_
            refine al_i hx hb hK hP 3 rfl 4 (rfl) (by decide) (by decide) dX9_tick_231 ?_
            refine lv_imul hx hb dX9_tick_232 ?_
            refine lv_aload_n hx hb dX9_tick_233 rfl (lv_at hl 6 rfl) ?_
            refine va_get (D := D) (ci := 9) (v := .ref bt_) (C := RX9) (T := TX9) (N := 21) hx hb hts winX9 hown hK hP 0 rfl rfl 3 (by decide) wf13 (fun _ h9 => h9) rfl dX9_tick_234 ?_
            refine lv_iconst (v := 4) hx hb dX9_tick_237 (by decide) ?_
            refine al_i hx hb hK hP 2 rfl 4 (rfl) (by decide) (by decide) dX9_tick_238 ?_
            refine lv_idiv hx hb dX9_tick_239 (h4) ?_
            refine lv_isub hx hb dX9_tick_240 ?_
            refine lv_aload_n hx hb dX9_tick_241 rfl (lv_at hl 6 rfl) ?_
            refine va_get (D := D) (ci := 9) (v := .ref bt_) (C := RX9) (T := TX9) (N := 21) hx hb hts winX9 hown hK hP 0 rfl rfl 3 (by decide) wf13 (fun _ h9 => h9) rfl dX9_tick_242 ?_
            refine lv_iconst (v := 0) hx hb dX9_tick_245 (by decide) ?_
            refine al_i hx hb hK hP 2 rfl 0 (rfl) (by decide) (by decide) dX9_tick_246 ?_
            refine lv_iload_n hx hb dX9_tick_247 rfl (lv_at hl 5 rfl) ?_
            refine lv_imul hx hb dX9_tick_248 ?_
            refine lv_aload_n hx hb dX9_tick_249 rfl (lv_at hl 6 rfl) ?_
            refine va_get (D := D) (ci := 9) (v := .ref bs_) (C := RX9) (T := TX9) (N := 21) hx hb hts winX9 hown hK hP 0 rfl rfl 4 (by decide) wf16 (fun _ h9 => h9) rfl dX9_tick_250 ?_
            refine lv_bipush (v := 6) hx hb dX9_tick_253 (by decide) ?_
            refine al_i hx hb hK hP 3 rfl 6 (rfl) (by decide) (by decide) dX9_tick_255 ?_
            refine lv_imul hx hb dX9_tick_256 ?_
            refine lv_bipush (v := 10) hx hb dX9_tick_257 (by decide) ?_
            refine lv_idiv hx hb dX9_tick_259 (by decide) ?_
            refine lv_isub hx hb dX9_tick_260 ?_
            refine lv_topi (fun x261 ex261 => ?_)
            refine lv_istore (lv' := [(7, .int x261), (6, .int z197), (5, .int z82), (4, .int z52), (3, .int z25), (2, .int (nI d_)), (1, .int (sf_ 1)), (0, .ref b0_)]) hx hb dX9_tick_261 hl (by decide) rfl (fun ls hl => ?_)
            refine lv_aload_n hx hb dX9_tick_263 rfl (lv_at hl 7 rfl) ?_
            refine va_get (D := D) (ci := 9) (v := .ref bt_) (C := RX9) (T := TX9) (N := 21) hx hb hts winX9 hown hK hP 0 rfl rfl 3 (by decide) wf13 (fun _ h9 => h9) rfl dX9_tick_264 ?_
            refine lv_iconst (v := 1) hx hb dX9_tick_267 (by decide) ?_
            refine al_i hx hb hK hP 2 rfl 1 (rfl) (by decide) (by decide) dX9_tick_268 ?_
            refine lv_aload_n hx hb dX9_tick_269 rfl (lv_at hl 7 rfl) ?_
            refine va_get (D := D) (ci := 9) (v := .ref bt_) (C := RX9) (T := TX9) (N := 21) hx hb hts winX9 hown hK hP 0 rfl rfl 3 (by decide) wf13 (fun _ h9 => h9) rfl dX9_tick_270 ?_
            refine lv_iconst (v := 2) hx hb dX9_tick_273 (by decide) ?_
            refine al_i hx hb hK hP 2 rfl 2 (rfl) (by decide) (by decide) dX9_tick_274 ?_
            refine lv_iadd hx hb dX9_tick_275 ?_
            refine lv_aload_n hx hb dX9_tick_276 rfl (lv_at hl 7 rfl) ?_
            refine va_get (D := D) (ci := 9) (v := .ref bs_) (C := RX9) (T := TX9) (N := 21) hx hb hts winX9 hown hK hP 0 rfl rfl 4 (by decide) wf16 (fun _ h9 => h9) rfl dX9_tick_277 ?_
            refine lv_iconst (v := 3) hx hb dX9_tick_280 (by decide) ?_
            refine al_i hx hb hK hP 3 rfl 3 (rfl) (by decide) (by decide) dX9_tick_281 ?_
            refine lv_imul hx hb dX9_tick_282 ?_
            refine lv_aload_n hx hb dX9_tick_283 rfl (lv_at hl 7 rfl) ?_
            refine va_get (D := D) (ci := 9) (v := .ref bt_) (C := RX9) (T := TX9) (N := 21) hx hb hts winX9 hown hK hP 0 rfl rfl 3 (by decide) wf13 (fun _ h9 => h9) rfl dX9_tick_284 ?_
            refine lv_iconst (v := 0) hx hb dX9_tick_287 (by decide) ?_
            refine al_i hx hb hK hP 2 rfl 0 (rfl) (by decide) (by decide) dX9_tick_288 ?_
            refine lv_iload_n hx hb dX9_tick_289 rfl (lv_at hl 6 rfl) ?_
            refine lv_imul hx hb dX9_tick_290 ?_
            refine lv_aload_n hx hb dX9_tick_291 rfl (lv_at hl 7 rfl) ?_
            refine va_get (D := D) (ci := 9) (v := .ref bs_) (C := RX9) (T := TX9) (N := 21) hx hb hts winX9 hown hK hP 0 rfl rfl 4 (by decide) wf16 (fun _ h9 => h9) rfl dX9_tick_292 ?_
            refine lv_iconst (v := 5) hx hb dX9_tick_295 (by decide) ?_
            refine al_i hx hb hK hP 3 rfl 5 (rfl) (by decide) (by decide) dX9_tick_296 ?_
            refine lv_imul hx hb dX9_tick_297 ?_
            refine lv_bipush (v := 10) hx hb dX9_tick_298 (by decide) ?_
            refine lv_idiv hx hb dX9_tick_300 (by decide) ?_
            refine lv_iadd hx hb dX9_tick_301 ?_
            refine lv_aload_n hx hb dX9_tick_302 rfl (lv_at hl 7 rfl) ?_
            refine va_get (D := D) (ci := 9) (v := .ref bt_) (C := RX9) (T := TX9) (N := 21) hx hb hts winX9 hown hK hP 0 rfl rfl 3 (by decide) wf13 (fun _ h9 => h9) rfl dX9_tick_303 ?_
            refine lv_iconst (v := 1) hx hb dX9_tick_306 (by decide) ?_
            refine al_i hx hb hK hP 2 rfl 1 (rfl) (by decide) (by decide) dX9_tick_307 ?_
            refine lv_iload_n hx hb dX9_tick_308 rfl (lv_at hl 6 rfl) ?_
            refine lv_imul hx hb dX9_tick_309 ?_
            refine lv_iload_n hx hb dX9_tick_310 rfl (lv_at hl 6 rfl) ?_
            refine lv_imul hx hb dX9_tick_311 ?_
            refine lv_aload_n hx hb dX9_tick_312 rfl (lv_at hl 7 rfl) ?_
            refine va_get (D := D) (ci := 9) (v := .ref bs_) (C := RX9) (T := TX9) (N := 21) hx hb hts winX9 hown hK hP 0 rfl rfl 4 (by decide) wf16 (fun _ h9 => h9) rfl dX9_tick_313 ?_
            refine lv_iconst (v := 4) hx hb dX9_tick_316 (by decide) ?_
            refine al_i hx hb hK hP 3 rfl 4 (rfl) (by decide) (by decide) dX9_tick_317 ?_
            refine lv_imul hx hb dX9_tick_318 ?_
            refine lv_bipush (v := 10) hx hb dX9_tick_319 (by decide) ?_
            refine lv_aload_n hx hb dX9_tick_321 rfl (lv_at hl 7 rfl) ?_
            refine va_get (D := D) (ci := 9) (v := .ref bt_) (C := RX9) (T := TX9) (N := 21) hx hb hts winX9 hown hK hP 0 rfl rfl 3 (by decide) wf13 (fun _ h9 => h9) rfl dX9_tick_322 ?_
            refine lv_iconst (v := 4) hx hb dX9_tick_325 (by decide) ?_
            refine al_i hx hb hK hP 2 rfl 4 (rfl) (by decide) (by decide) dX9_tick_326 ?_
            refine lv_imul hx hb dX9_tick_327 ?_
            refine lv_idiv hx hb dX9_tick_328 (h40) ?_
            refine lv_isub hx hb dX9_tick_329 ?_
            refine lv_aload_n hx hb dX9_tick_330 rfl (lv_at hl 7 rfl) ?_
            refine va_get (D := D) (ci := 9) (v := .ref bt_) (C := RX9) (T := TX9) (N := 21) hx hb hts winX9 hown hK hP 0 rfl rfl 3 (by decide) wf13 (fun _ h9 => h9) rfl dX9_tick_331 ?_
            refine lv_iconst (v := 5) hx hb dX9_tick_334 (by decide) ?_
            refine al_i hx hb hK hP 2 rfl 5 (rfl) (by decide) (by decide) dX9_tick_335 ?_
            refine lv_aload_n hx hb dX9_tick_336 rfl (lv_at hl 7 rfl) ?_
            refine va_get (D := D) (ci := 9) (v := .ref bs_) (C := RX9) (T := TX9) (N := 21) hx hb hts winX9 hown hK hP 0 rfl rfl 4 (by decide) wf16 (fun _ h9 => h9) rfl dX9_tick_337 ?_
            refine lv_bipush (v := 6) hx hb dX9_tick_340 (by decide) ?_
            refine al_i hx hb hK hP 3 rfl 6 (rfl) (by decide) (by decide) dX9_tick_342 ?_
            refine lv_imul hx hb dX9_tick_343 ?_
            refine lv_isub hx hb dX9_tick_344 ?_
            refine lv_iload hx hb dX9_tick_345 (lv_at hl 1 rfl) ?_
            refine lv_iadd hx hb dX9_tick_347 ?_
            refine lv_topi (fun x348 ex348 => ?_)
            refine lv_istore (lv' := [(8, .int x348), (7, .int x261), (6, .int z197), (5, .int z82), (4, .int z52), (3, .int z25), (2, .int (nI d_)), (1, .int (sf_ 1)), (0, .ref b0_)]) hx hb dX9_tick_348 hl (by decide) rfl (fun ls hl => ?_)
            refine lv_bipush (v := 14) hx hb dX9_tick_350 (by decide) ?_
            refine lv_istore (lv' := [(9, .int 14), (8, .int x348), (7, .int x261), (6, .int z197), (5, .int z82), (4, .int z52), (3, .int z25), (2, .int (nI d_)), (1, .int (sf_ 1)), (0, .ref b0_)]) hx hb dX9_tick_352 hl (by decide) rfl (fun ls hl => ?_)
            have L_354 : ∀ (n : Nat) (j_ : Nat), 2 ≤ j_ → j_ ≤ 14 → j_ < n → ∀ (H : Heap) (locs : List Loc), va_P D vwCl [(b0_, .inr (9, [.int th_, .long tr_, .ref bn_, .ref bt_, .ref bs_, .ref bk_, .ref bp_, .ref bi_, .ref bl_, .int it_, .int ub_, .int db_, .ref bx_, .int tp_, .int nx_, .int tk_, .int pl_, .int vl_, .int fa_, .ref bc_, .ref bf_])), (bn_, .inl (cy 0, 24, .inl (nbF nb_))), (bt_, .inl (cy 0, 6, .inl (nb_ i_))), (bs_, .inl (cy 0, 29, .inl (shf sf_ (j_ + 1)))), (bl_, .inl (cy 0, 10, .inl lw_))] H → va_D A [(b0_, .inr (9, [.int th_, .long tr_, .ref bn_, .ref bt_, .ref bs_, .ref bk_, .ref bp_, .ref bi_, .ref bl_, .int it_, .int ub_, .int db_, .ref bx_, .int tp_, .int nx_, .int tk_, .int pl_, .int vl_, .int fa_, .ref bc_, .ref bf_])), (bn_, .inl (cy 0, 24, .inl (nbF nb_))), (bt_, .inl (cy 0, 6, .inl (nb_ i_))), (bs_, .inl (cy 0, 29, .inl (shf sf_ (j_ + 1)))), (bl_, .inl (cy 0, 10, .inl lw_))] → va_S A s.heap H locs → ∀ (ls : Array Slot), lv_has ls 10 [(9, .int (nI j_)), (8, .int x348), (7, .int x261), (6, .int z197), (5, .int z82), (4, .int z52), (3, .int z25), (2, .int (nI d_)), (1, .int (sf_ 1)), (0, .ref b0_)] → W p l e rmkX9_tick s m args below meth c H locs 0 0 Q (F0 m 354 ls []) := by
              intro n
              induction n with
              | zero => intro j_ hj2 hj hn; exact absurd hn (Nat.not_lt_zero _)
              | succ n ih_354 =>
                intro j_ hj2 hj hn_354 H locs hP hD hS ls hl
                refine lv_iload hx hb dX9_tick_354 (lv_at hl 0 rfl) ?_
                refine lv_iconst (v := 2) hx hb dX9_tick_356 (by decide) ?_
                refine cn_le (tgt := 388) hx hb j_ 2 rfl rfl (by omega) (by omega) dX9_tick_357 (by decide) (fun c_357 => ?_) (fun c_357 => ?_)
                · obtain rfl : j_ = 2 := by omega
                  have hP : va_P D vwCl [(b0_, .inr (9, [.int th_, .long tr_, .ref bn_, .ref bt_, .ref bs_, .ref bk_, .ref bp_, .ref bi_, .ref bl_, .int it_, .int ub_, .int db_, .ref bx_, .int tp_, .int nx_, .int tk_, .int pl_, .int vl_, .int fa_, .ref bc_, .ref bf_])), (bn_, .inl (cy 0, 24, .inl (nbF nb_))), (bt_, .inl (cy 0, 6, .inl (nb_ i_))), (bs_, .inl (cy 0, 29, .inl (shf sf_ 3))), (bl_, .inl (cy 0, 10, .inl lw_))] H := hP
                  have hD : va_D A [(b0_, .inr (9, [.int th_, .long tr_, .ref bn_, .ref bt_, .ref bs_, .ref bk_, .ref bp_, .ref bi_, .ref bl_, .int it_, .int ub_, .int db_, .ref bx_, .int tp_, .int nx_, .int tk_, .int pl_, .int vl_, .int fa_, .ref bc_, .ref bf_])), (bn_, .inl (cy 0, 24, .inl (nbF nb_))), (bt_, .inl (cy 0, 6, .inl (nb_ i_))), (bs_, .inl (cy 0, 29, .inl (shf sf_ 3))), (bl_, .inl (cy 0, 10, .inl lw_))] := hD
                  refine lv_aload_n hx hb dX9_tick_388 rfl (lv_at hl 9 rfl) ?_
                  refine va_get (D := D) (ci := 9) (v := .ref bs_) (C := RX9) (T := TX9) (N := 21) hx hb hts winX9 hown hK hP 0 rfl rfl 4 (by decide) wf16 (fun _ h9 => h9) rfl dX9_tick_389 ?_
                  refine lv_bipush (v := 10) hx hb dX9_tick_392 (by decide) ?_
                  refine lv_aload_n hx hb dX9_tick_394 rfl (lv_at hl 9 rfl) ?_
                  refine va_get (D := D) (ci := 9) (v := .ref bs_) (C := RX9) (T := TX9) (N := 21) hx hb hts winX9 hown hK hP 0 rfl rfl 4 (by decide) wf16 (fun _ h9 => h9) rfl dX9_tick_395 ?_
                  refine lv_iconst (v := 3) hx hb dX9_tick_398 (by decide) ?_
                  refine al_i hx hb hK hP 3 rfl 3 (rfl) (by decide) (by decide) dX9_tick_399 ?_
                  refine lv_eqi (y := sf_ 3) rfl ?_
                  refine as_i (x := sf_ 3) hx hb hK hP hD hS 3 rfl 10 (rfl) (by decide) (by decide) dX9_tick_400 (fun H locs hP hD hS => ?_)
                  have hP : va_P D vwCl [(b0_, .inr (9, [.int th_, .long tr_, .ref bn_, .ref bt_, .ref bs_, .ref bk_, .ref bp_, .ref bi_, .ref bl_, .int it_, .int ub_, .int db_, .ref bx_, .int tp_, .int nx_, .int tk_, .int pl_, .int vl_, .int fa_, .ref bc_, .ref bf_])), (bn_, .inl (cy 0, 24, .inl (nbF nb_))), (bt_, .inl (cy 0, 6, .inl (nb_ i_))), (bs_, .inl (cy 0, 29, .inl (upd (shf sf_ 3) 10 (sf_ 3)))), (bl_, .inl (cy 0, 10, .inl lw_))] H := hP
                  have hD : va_D A [(b0_, .inr (9, [.int th_, .long tr_, .ref bn_, .ref bt_, .ref bs_, .ref bk_, .ref bp_, .ref bi_, .ref bl_, .int it_, .int ub_, .int db_, .ref bx_, .int tp_, .int nx_, .int tk_, .int pl_, .int vl_, .int fa_, .ref bc_, .ref bf_])), (bn_, .inl (cy 0, 24, .inl (nbF nb_))), (bt_, .inl (cy 0, 6, .inl (nb_ i_))), (bs_, .inl (cy 0, 29, .inl (upd (shf sf_ 3) 10 (sf_ 3)))), (bl_, .inl (cy 0, 10, .inl lw_))] := hD
                  refine lv_aload_n hx hb dX9_tick_401 rfl (lv_at hl 9 rfl) ?_
                  refine va_get (D := D) (ci := 9) (v := .ref bs_) (C := RX9) (T := TX9) (N := 21) hx hb hts winX9 hown hK hP 0 rfl rfl 4 (by decide) wf16 (fun _ h9 => h9) rfl dX9_tick_402 ?_
                  refine lv_bipush (v := 11) hx hb dX9_tick_405 (by decide) ?_
                  refine lv_aload_n hx hb dX9_tick_407 rfl (lv_at hl 9 rfl) ?_
                  refine va_get (D := D) (ci := 9) (v := .ref bs_) (C := RX9) (T := TX9) (N := 21) hx hb hts winX9 hown hK hP 0 rfl rfl 4 (by decide) wf16 (fun _ h9 => h9) rfl dX9_tick_408 ?_
                  refine lv_iconst (v := 5) hx hb dX9_tick_411 (by decide) ?_
                  refine al_i hx hb hK hP 3 rfl 5 (rfl) (by decide) (by decide) dX9_tick_412 ?_
                  refine lv_eqi (y := sf_ 5) rfl ?_
                  refine as_i (x := sf_ 5) hx hb hK hP hD hS 3 rfl 11 (rfl) (by decide) (by decide) dX9_tick_413 (fun H locs hP hD hS => ?_)
                  have hP : va_P D vwCl [(b0_, .inr (9, [.int th_, .long tr_, .ref bn_, .ref bt_, .ref bs_, .ref bk_, .ref bp_, .ref bi_, .ref bl_, .int it_, .int ub_, .int db_, .ref bx_, .int tp_, .int nx_, .int tk_, .int pl_, .int vl_, .int fa_, .ref bc_, .ref bf_])), (bn_, .inl (cy 0, 24, .inl (nbF nb_))), (bt_, .inl (cy 0, 6, .inl (nb_ i_))), (bs_, .inl (cy 0, 29, .inl (upd (upd (shf sf_ 3) 10 (sf_ 3)) 11 (sf_ 5)))), (bl_, .inl (cy 0, 10, .inl lw_))] H := hP
                  have hD : va_D A [(b0_, .inr (9, [.int th_, .long tr_, .ref bn_, .ref bt_, .ref bs_, .ref bk_, .ref bp_, .ref bi_, .ref bl_, .int it_, .int ub_, .int db_, .ref bx_, .int tp_, .int nx_, .int tk_, .int pl_, .int vl_, .int fa_, .ref bc_, .ref bf_])), (bn_, .inl (cy 0, 24, .inl (nbF nb_))), (bt_, .inl (cy 0, 6, .inl (nb_ i_))), (bs_, .inl (cy 0, 29, .inl (upd (upd (shf sf_ 3) 10 (sf_ 3)) 11 (sf_ 5)))), (bl_, .inl (cy 0, 10, .inl lw_))] := hD
                  refine lv_aload_n hx hb dX9_tick_414 rfl (lv_at hl 9 rfl) ?_
                  refine va_get (D := D) (ci := 9) (v := .ref bs_) (C := RX9) (T := TX9) (N := 21) hx hb hts winX9 hown hK hP 0 rfl rfl 4 (by decide) wf16 (fun _ h9 => h9) rfl dX9_tick_415 ?_
                  refine lv_bipush (v := 12) hx hb dX9_tick_418 (by decide) ?_
                  refine lv_aload_n hx hb dX9_tick_420 rfl (lv_at hl 9 rfl) ?_
                  refine va_get (D := D) (ci := 9) (v := .ref bs_) (C := RX9) (T := TX9) (N := 21) hx hb hts winX9 hown hK hP 0 rfl rfl 4 (by decide) wf16 (fun _ h9 => h9) rfl dX9_tick_421 ?_
                  refine lv_iconst (v := 4) hx hb dX9_tick_424 (by decide) ?_
                  refine al_i hx hb hK hP 3 rfl 4 (rfl) (by decide) (by decide) dX9_tick_425 ?_
                  refine lv_eqi (y := sf_ 4) rfl ?_
                  refine as_i (x := sf_ 4) hx hb hK hP hD hS 3 rfl 12 (rfl) (by decide) (by decide) dX9_tick_426 (fun H locs hP hD hS => ?_)
                  have hP : va_P D vwCl [(b0_, .inr (9, [.int th_, .long tr_, .ref bn_, .ref bt_, .ref bs_, .ref bk_, .ref bp_, .ref bi_, .ref bl_, .int it_, .int ub_, .int db_, .ref bx_, .int tp_, .int nx_, .int tk_, .int pl_, .int vl_, .int fa_, .ref bc_, .ref bf_])), (bn_, .inl (cy 0, 24, .inl (nbF nb_))), (bt_, .inl (cy 0, 6, .inl (nb_ i_))), (bs_, .inl (cy 0, 29, .inl (upd (upd (upd (shf sf_ 3) 10 (sf_ 3)) 11 (sf_ 5)) 12 (sf_ 4)))), (bl_, .inl (cy 0, 10, .inl lw_))] H := hP
                  have hD : va_D A [(b0_, .inr (9, [.int th_, .long tr_, .ref bn_, .ref bt_, .ref bs_, .ref bk_, .ref bp_, .ref bi_, .ref bl_, .int it_, .int ub_, .int db_, .ref bx_, .int tp_, .int nx_, .int tk_, .int pl_, .int vl_, .int fa_, .ref bc_, .ref bf_])), (bn_, .inl (cy 0, 24, .inl (nbF nb_))), (bt_, .inl (cy 0, 6, .inl (nb_ i_))), (bs_, .inl (cy 0, 29, .inl (upd (upd (upd (shf sf_ 3) 10 (sf_ 3)) 11 (sf_ 5)) 12 (sf_ 4)))), (bl_, .inl (cy 0, 10, .inl lw_))] := hD
                  refine lv_aload_n hx hb dX9_tick_427 rfl (lv_at hl 9 rfl) ?_
                  refine va_get (D := D) (ci := 9) (v := .ref bs_) (C := RX9) (T := TX9) (N := 21) hx hb hts winX9 hown hK hP 0 rfl rfl 4 (by decide) wf16 (fun _ h9 => h9) rfl dX9_tick_428 ?_
                  refine lv_iconst (v := 5) hx hb dX9_tick_431 (by decide) ?_
                  refine lv_aload_n hx hb dX9_tick_432 rfl (lv_at hl 9 rfl) ?_
                  refine va_get (D := D) (ci := 9) (v := .ref bs_) (C := RX9) (T := TX9) (N := 21) hx hb hts winX9 hown hK hP 0 rfl rfl 4 (by decide) wf16 (fun _ h9 => h9) rfl dX9_tick_433 ?_
                  refine lv_iconst (v := 5) hx hb dX9_tick_436 (by decide) ?_
                  refine al_i hx hb hK hP 3 rfl 5 (rfl) (by decide) (by decide) dX9_tick_437 ?_
                  refine lv_eqi (y := sf_ 5) rfl ?_
                  refine lv_iload hx hb dX9_tick_438 (lv_at hl 2 rfl) ?_
                  refine lv_bipush (v := 20) hx hb dX9_tick_440 (by decide) ?_
                  refine lv_idiv hx hb dX9_tick_442 (by decide) ?_
                  refine lv_iadd hx hb dX9_tick_443 ?_
                  refine lv_ldc (v := 100000) hx hb hown wc173 dX9_tick_444 ?_
                  refine ca_S (n := 2) (rest := [.int 5, .ref bs_]) (wr := [(b0_, .inr (9, [.int th_, .long tr_, .ref bn_, .ref bt_, .ref bs_, .ref bk_, .ref bp_, .ref bi_, .ref bl_, .int it_, .int ub_, .int db_, .ref bx_, .int tp_, .int nx_, .int tk_, .int pl_, .int vl_, .int fa_, .ref bc_, .ref bf_])), (bn_, .inl (cy 0, 24, .inl (nbF nb_))), (bt_, .inl (cy 0, 6, .inl (nb_ i_))), (bs_, .inl (cy 0, 29, .inl (upd (upd (upd (shf sf_ 3) 10 (sf_ 3)) 11 (sf_ 5)) 12 (sf_ 4)))), (bl_, .inl (cy 0, 10, .inl lw_))]) F hK hE hA hP hD hS hl.1 (kX9_within (l := l) (D := D) (cy := cy) (sa := sa) ((sf_ 5) + (x261 / 20)) 100000) gX9_tick_X9_within rfl rfl rfl (by decide +kernel) ⟨by decide, by decide⟩ [] [0, 1, 2, 3, 4] rfl rfl rfl rfl (by decide) rfl rfl (Nat.le_of_ble_eq_true rfl) dX9_tick_446 ⟨by decide, by decide⟩ (fun v9 u9 H locs hv hP hD hS => ?_)
                  subst hv
                  have hP : va_P D vwCl [(b0_, .inr (9, [.int th_, .long tr_, .ref bn_, .ref bt_, .ref bs_, .ref bk_, .ref bp_, .ref bi_, .ref bl_, .int it_, .int ub_, .int db_, .ref bx_, .int tp_, .int nx_, .int tk_, .int pl_, .int vl_, .int fa_, .ref bc_, .ref bf_])), (bn_, .inl (cy 0, 24, .inl (nbF nb_))), (bt_, .inl (cy 0, 6, .inl (nb_ i_))), (bs_, .inl (cy 0, 29, .inl (upd (upd (upd (shf sf_ 3) 10 (sf_ 3)) 11 (sf_ 5)) 12 (sf_ 4)))), (bl_, .inl (cy 0, 10, .inl lw_))] H := hP
                  have hD : va_D A [(b0_, .inr (9, [.int th_, .long tr_, .ref bn_, .ref bt_, .ref bs_, .ref bk_, .ref bp_, .ref bi_, .ref bl_, .int it_, .int ub_, .int db_, .ref bx_, .int tp_, .int nx_, .int tk_, .int pl_, .int vl_, .int fa_, .ref bc_, .ref bf_])), (bn_, .inl (cy 0, 24, .inl (nbF nb_))), (bt_, .inl (cy 0, 6, .inl (nb_ i_))), (bs_, .inl (cy 0, 29, .inl (upd (upd (upd (shf sf_ 3) 10 (sf_ 3)) 11 (sf_ 5)) 12 (sf_ 4)))), (bl_, .inl (cy 0, 10, .inl lw_))] := hD
                  refine W.eq (g2 := F0 m 449 ls [.int (wth ((sf_ 5) + (x261 / 20)) 100000), .int 5, .ref bs_]) rfl ?_
                  refine as_i (x := wth ((sf_ 5) + (x261 / 20)) 100000) hx hb hK hP hD hS 3 rfl 5 (rfl) (by decide) (by decide) dX9_tick_449 (fun H locs hP hD hS => ?_)
                  have hP : va_P D vwCl [(b0_, .inr (9, [.int th_, .long tr_, .ref bn_, .ref bt_, .ref bs_, .ref bk_, .ref bp_, .ref bi_, .ref bl_, .int it_, .int ub_, .int db_, .ref bx_, .int tp_, .int nx_, .int tk_, .int pl_, .int vl_, .int fa_, .ref bc_, .ref bf_])), (bn_, .inl (cy 0, 24, .inl (nbF nb_))), (bt_, .inl (cy 0, 6, .inl (nb_ i_))), (bs_, .inl (cy 0, 29, .inl (upd (upd (upd (upd (shf sf_ 3) 10 (sf_ 3)) 11 (sf_ 5)) 12 (sf_ 4)) 5 (wth ((sf_ 5) + (x261 / 20)) 100000)))), (bl_, .inl (cy 0, 10, .inl lw_))] H := hP
                  have hD : va_D A [(b0_, .inr (9, [.int th_, .long tr_, .ref bn_, .ref bt_, .ref bs_, .ref bk_, .ref bp_, .ref bi_, .ref bl_, .int it_, .int ub_, .int db_, .ref bx_, .int tp_, .int nx_, .int tk_, .int pl_, .int vl_, .int fa_, .ref bc_, .ref bf_])), (bn_, .inl (cy 0, 24, .inl (nbF nb_))), (bt_, .inl (cy 0, 6, .inl (nb_ i_))), (bs_, .inl (cy 0, 29, .inl (upd (upd (upd (upd (shf sf_ 3) 10 (sf_ 3)) 11 (sf_ 5)) 12 (sf_ 4)) 5 (wth ((sf_ 5) + (x261 / 20)) 100000)))), (bl_, .inl (cy 0, 10, .inl lw_))] := hD
                  refine lv_aload_n hx hb dX9_tick_450 rfl (lv_at hl 9 rfl) ?_
                  refine va_get (D := D) (ci := 9) (v := .ref bs_) (C := RX9) (T := TX9) (N := 21) hx hb hts winX9 hown hK hP 0 rfl rfl 4 (by decide) wf16 (fun _ h9 => h9) rfl dX9_tick_451 ?_
                  refine lv_bipush (v := 6) hx hb dX9_tick_454 (by decide) ?_
                  refine lv_aload_n hx hb dX9_tick_456 rfl (lv_at hl 9 rfl) ?_
                  refine va_get (D := D) (ci := 9) (v := .ref bs_) (C := RX9) (T := TX9) (N := 21) hx hb hts winX9 hown hK hP 0 rfl rfl 4 (by decide) wf16 (fun _ h9 => h9) rfl dX9_tick_457 ?_
                  refine lv_bipush (v := 6) hx hb dX9_tick_460 (by decide) ?_
                  refine al_i hx hb hK hP 3 rfl 6 (rfl) (by decide) (by decide) dX9_tick_462 ?_
                  refine lv_eqi (y := sf_ 6) rfl ?_
                  refine lv_iload hx hb dX9_tick_463 (lv_at hl 1 rfl) ?_
                  refine lv_bipush (v := 20) hx hb dX9_tick_465 (by decide) ?_
                  refine lv_idiv hx hb dX9_tick_467 (by decide) ?_
                  refine lv_iadd hx hb dX9_tick_468 ?_
                  refine lv_ldc (v := 100000) hx hb hown wc173 dX9_tick_469 ?_
                  refine ca_S (n := 2) (rest := [.int 6, .ref bs_]) (wr := [(b0_, .inr (9, [.int th_, .long tr_, .ref bn_, .ref bt_, .ref bs_, .ref bk_, .ref bp_, .ref bi_, .ref bl_, .int it_, .int ub_, .int db_, .ref bx_, .int tp_, .int nx_, .int tk_, .int pl_, .int vl_, .int fa_, .ref bc_, .ref bf_])), (bn_, .inl (cy 0, 24, .inl (nbF nb_))), (bt_, .inl (cy 0, 6, .inl (nb_ i_))), (bs_, .inl (cy 0, 29, .inl (upd (upd (upd (upd (shf sf_ 3) 10 (sf_ 3)) 11 (sf_ 5)) 12 (sf_ 4)) 5 (wth ((sf_ 5) + (x261 / 20)) 100000)))), (bl_, .inl (cy 0, 10, .inl lw_))]) F hK hE hA hP hD hS hl.1 (kX9_within (l := l) (D := D) (cy := cy) (sa := sa) ((sf_ 6) + (x348 / 20)) 100000) gX9_tick_X9_within rfl rfl rfl (by decide +kernel) ⟨by decide, by decide⟩ [] [0, 1, 2, 3, 4] rfl rfl rfl rfl (by decide) rfl rfl (Nat.le_of_ble_eq_true rfl) dX9_tick_471 ⟨by decide, by decide⟩ (fun v9 u9 H locs hv hP hD hS => ?_)
                  subst hv
                  have hP : va_P D vwCl [(b0_, .inr (9, [.int th_, .long tr_, .ref bn_, .ref bt_, .ref bs_, .ref bk_, .ref bp_, .ref bi_, .ref bl_, .int it_, .int ub_, .int db_, .ref bx_, .int tp_, .int nx_, .int tk_, .int pl_, .int vl_, .int fa_, .ref bc_, .ref bf_])), (bn_, .inl (cy 0, 24, .inl (nbF nb_))), (bt_, .inl (cy 0, 6, .inl (nb_ i_))), (bs_, .inl (cy 0, 29, .inl (upd (upd (upd (upd (shf sf_ 3) 10 (sf_ 3)) 11 (sf_ 5)) 12 (sf_ 4)) 5 (wth ((sf_ 5) + (x261 / 20)) 100000)))), (bl_, .inl (cy 0, 10, .inl lw_))] H := hP
                  have hD : va_D A [(b0_, .inr (9, [.int th_, .long tr_, .ref bn_, .ref bt_, .ref bs_, .ref bk_, .ref bp_, .ref bi_, .ref bl_, .int it_, .int ub_, .int db_, .ref bx_, .int tp_, .int nx_, .int tk_, .int pl_, .int vl_, .int fa_, .ref bc_, .ref bf_])), (bn_, .inl (cy 0, 24, .inl (nbF nb_))), (bt_, .inl (cy 0, 6, .inl (nb_ i_))), (bs_, .inl (cy 0, 29, .inl (upd (upd (upd (upd (shf sf_ 3) 10 (sf_ 3)) 11 (sf_ 5)) 12 (sf_ 4)) 5 (wth ((sf_ 5) + (x261 / 20)) 100000)))), (bl_, .inl (cy 0, 10, .inl lw_))] := hD
                  refine W.eq (g2 := F0 m 474 ls [.int (wth ((sf_ 6) + (x348 / 20)) 100000), .int 6, .ref bs_]) rfl ?_
                  refine as_i (x := wth ((sf_ 6) + (x348 / 20)) 100000) hx hb hK hP hD hS 3 rfl 6 (rfl) (by decide) (by decide) dX9_tick_474 (fun H locs hP hD hS => ?_)
                  have hP : va_P D vwCl [(b0_, .inr (9, [.int th_, .long tr_, .ref bn_, .ref bt_, .ref bs_, .ref bk_, .ref bp_, .ref bi_, .ref bl_, .int it_, .int ub_, .int db_, .ref bx_, .int tp_, .int nx_, .int tk_, .int pl_, .int vl_, .int fa_, .ref bc_, .ref bf_])), (bn_, .inl (cy 0, 24, .inl (nbF nb_))), (bt_, .inl (cy 0, 6, .inl (nb_ i_))), (bs_, .inl (cy 0, 29, .inl (upd (upd (upd (upd (upd (shf sf_ 3) 10 (sf_ 3)) 11 (sf_ 5)) 12 (sf_ 4)) 5 (wth ((sf_ 5) + (x261 / 20)) 100000)) 6 (wth ((sf_ 6) + (x348 / 20)) 100000)))), (bl_, .inl (cy 0, 10, .inl lw_))] H := hP
                  have hD : va_D A [(b0_, .inr (9, [.int th_, .long tr_, .ref bn_, .ref bt_, .ref bs_, .ref bk_, .ref bp_, .ref bi_, .ref bl_, .int it_, .int ub_, .int db_, .ref bx_, .int tp_, .int nx_, .int tk_, .int pl_, .int vl_, .int fa_, .ref bc_, .ref bf_])), (bn_, .inl (cy 0, 24, .inl (nbF nb_))), (bt_, .inl (cy 0, 6, .inl (nb_ i_))), (bs_, .inl (cy 0, 29, .inl (upd (upd (upd (upd (upd (shf sf_ 3) 10 (sf_ 3)) 11 (sf_ 5)) 12 (sf_ 4)) 5 (wth ((sf_ 5) + (x261 / 20)) 100000)) 6 (wth ((sf_ 6) + (x348 / 20)) 100000)))), (bl_, .inl (cy 0, 10, .inl lw_))] := hD
                  refine lv_aload_n hx hb dX9_tick_475 rfl (lv_at hl 9 rfl) ?_
                  refine va_get (D := D) (ci := 9) (v := .ref bs_) (C := RX9) (T := TX9) (N := 21) hx hb hts winX9 hown hK hP 0 rfl rfl 4 (by decide) wf16 (fun _ h9 => h9) rfl dX9_tick_476 ?_
                  refine lv_iconst (v := 3) hx hb dX9_tick_479 (by decide) ?_
                  refine lv_dup2_11 hx hb dX9_tick_480 rfl rfl ?_
                  refine al_i hx hb hK hP 3 rfl 3 (rfl) (by decide) (by decide) dX9_tick_481 ?_
                  refine lv_eqi (y := sf_ 3) rfl ?_
                  refine lv_aload_n hx hb dX9_tick_482 rfl (lv_at hl 9 rfl) ?_
                  refine va_get (D := D) (ci := 9) (v := .ref bs_) (C := RX9) (T := TX9) (N := 21) hx hb hts winX9 hown hK hP 0 rfl rfl 4 (by decide) wf16 (fun _ h9 => h9) rfl dX9_tick_483 ?_
                  refine lv_iconst (v := 5) hx hb dX9_tick_486 (by decide) ?_
                  refine al_i hx hb hK hP 3 rfl 5 (rfl) (by decide) (by decide) dX9_tick_487 ?_
                  refine lv_eqi (y := (wth ((sf_ 5) + (x261 / 20)) 100000)) rfl ?_
                  refine lv_bipush (v := 20) hx hb dX9_tick_488 (by decide) ?_
                  refine lv_idiv hx hb dX9_tick_490 (by decide) ?_
                  refine lv_iadd hx hb dX9_tick_491 ?_
                  refine as_i (x := (sf_ 3) + ((wth ((sf_ 5) + (x261 / 20)) 100000) / 20)) hx hb hK hP hD hS 3 rfl 3 (rfl) (by decide) (by decide) dX9_tick_492 (fun H locs hP hD hS => ?_)
                  have hP : va_P D vwCl [(b0_, .inr (9, [.int th_, .long tr_, .ref bn_, .ref bt_, .ref bs_, .ref bk_, .ref bp_, .ref bi_, .ref bl_, .int it_, .int ub_, .int db_, .ref bx_, .int tp_, .int nx_, .int tk_, .int pl_, .int vl_, .int fa_, .ref bc_, .ref bf_])), (bn_, .inl (cy 0, 24, .inl (nbF nb_))), (bt_, .inl (cy 0, 6, .inl (nb_ i_))), (bs_, .inl (cy 0, 29, .inl (upd (upd (upd (upd (upd (upd (shf sf_ 3) 10 (sf_ 3)) 11 (sf_ 5)) 12 (sf_ 4)) 5 (wth ((sf_ 5) + (x261 / 20)) 100000)) 6 (wth ((sf_ 6) + (x348 / 20)) 100000)) 3 ((sf_ 3) + ((wth ((sf_ 5) + (x261 / 20)) 100000) / 20))))), (bl_, .inl (cy 0, 10, .inl lw_))] H := hP
                  have hD : va_D A [(b0_, .inr (9, [.int th_, .long tr_, .ref bn_, .ref bt_, .ref bs_, .ref bk_, .ref bp_, .ref bi_, .ref bl_, .int it_, .int ub_, .int db_, .ref bx_, .int tp_, .int nx_, .int tk_, .int pl_, .int vl_, .int fa_, .ref bc_, .ref bf_])), (bn_, .inl (cy 0, 24, .inl (nbF nb_))), (bt_, .inl (cy 0, 6, .inl (nb_ i_))), (bs_, .inl (cy 0, 29, .inl (upd (upd (upd (upd (upd (upd (shf sf_ 3) 10 (sf_ 3)) 11 (sf_ 5)) 12 (sf_ 4)) 5 (wth ((sf_ 5) + (x261 / 20)) 100000)) 6 (wth ((sf_ 6) + (x348 / 20)) 100000)) 3 ((sf_ 3) + ((wth ((sf_ 5) + (x261 / 20)) 100000) / 20))))), (bl_, .inl (cy 0, 10, .inl lw_))] := hD
                  refine lv_aload_n hx hb dX9_tick_493 rfl (lv_at hl 9 rfl) ?_
                  refine va_get (D := D) (ci := 9) (v := .ref bs_) (C := RX9) (T := TX9) (N := 21) hx hb hts winX9 hown hK hP 0 rfl rfl 4 (by decide) wf16 (fun _ h9 => h9) rfl dX9_tick_494 ?_
                  refine lv_iconst (v := 4) hx hb dX9_tick_497 (by decide) ?_
                  refine lv_aload_n hx hb dX9_tick_498 rfl (lv_at hl 9 rfl) ?_
                  refine va_get (D := D) (ci := 9) (v := .ref bs_) (C := RX9) (T := TX9) (N := 21) hx hb hts winX9 hown hK hP 0 rfl rfl 4 (by decide) wf16 (fun _ h9 => h9) rfl dX9_tick_499 ?_
                  refine lv_iconst (v := 4) hx hb dX9_tick_502 (by decide) ?_
                  refine al_i hx hb hK hP 3 rfl 4 (rfl) (by decide) (by decide) dX9_tick_503 ?_
                  refine lv_eqi (y := sf_ 4) rfl ?_
                  refine lv_aload_n hx hb dX9_tick_504 rfl (lv_at hl 9 rfl) ?_
                  refine va_get (D := D) (ci := 9) (v := .ref bs_) (C := RX9) (T := TX9) (N := 21) hx hb hts winX9 hown hK hP 0 rfl rfl 4 (by decide) wf16 (fun _ h9 => h9) rfl dX9_tick_505 ?_
                  refine lv_bipush (v := 6) hx hb dX9_tick_508 (by decide) ?_
                  refine al_i hx hb hK hP 3 rfl 6 (rfl) (by decide) (by decide) dX9_tick_510 ?_
                  refine lv_eqi (y := (wth ((sf_ 6) + (x348 / 20)) 100000)) rfl ?_
                  refine lv_bipush (v := 20) hx hb dX9_tick_511 (by decide) ?_
                  refine lv_idiv hx hb dX9_tick_513 (by decide) ?_
                  refine lv_iadd hx hb dX9_tick_514 ?_
                  refine lv_sipush (v := 10000) hx hb dX9_tick_515 (by decide) ?_
                  refine ca_S (n := 2) (rest := [.int 4, .ref bs_]) (wr := [(b0_, .inr (9, [.int th_, .long tr_, .ref bn_, .ref bt_, .ref bs_, .ref bk_, .ref bp_, .ref bi_, .ref bl_, .int it_, .int ub_, .int db_, .ref bx_, .int tp_, .int nx_, .int tk_, .int pl_, .int vl_, .int fa_, .ref bc_, .ref bf_])), (bn_, .inl (cy 0, 24, .inl (nbF nb_))), (bt_, .inl (cy 0, 6, .inl (nb_ i_))), (bs_, .inl (cy 0, 29, .inl (upd (upd (upd (upd (upd (upd (shf sf_ 3) 10 (sf_ 3)) 11 (sf_ 5)) 12 (sf_ 4)) 5 (wth ((sf_ 5) + (x261 / 20)) 100000)) 6 (wth ((sf_ 6) + (x348 / 20)) 100000)) 3 ((sf_ 3) + ((wth ((sf_ 5) + (x261 / 20)) 100000) / 20))))), (bl_, .inl (cy 0, 10, .inl lw_))]) F hK hE hA hP hD hS hl.1 (kX9_within (l := l) (D := D) (cy := cy) (sa := sa) ((sf_ 4) + ((wth ((sf_ 6) + (x348 / 20)) 100000) / 20)) 10000) gX9_tick_X9_within rfl rfl rfl (by decide +kernel) ⟨by decide, by decide⟩ [] [0, 1, 2, 3, 4] rfl rfl rfl rfl (by decide) rfl rfl (Nat.le_of_ble_eq_true rfl) dX9_tick_518 ⟨by decide, by decide⟩ (fun v9 u9 H locs hv hP hD hS => ?_)
                  subst hv
                  have hP : va_P D vwCl [(b0_, .inr (9, [.int th_, .long tr_, .ref bn_, .ref bt_, .ref bs_, .ref bk_, .ref bp_, .ref bi_, .ref bl_, .int it_, .int ub_, .int db_, .ref bx_, .int tp_, .int nx_, .int tk_, .int pl_, .int vl_, .int fa_, .ref bc_, .ref bf_])), (bn_, .inl (cy 0, 24, .inl (nbF nb_))), (bt_, .inl (cy 0, 6, .inl (nb_ i_))), (bs_, .inl (cy 0, 29, .inl (upd (upd (upd (upd (upd (upd (shf sf_ 3) 10 (sf_ 3)) 11 (sf_ 5)) 12 (sf_ 4)) 5 (wth ((sf_ 5) + (x261 / 20)) 100000)) 6 (wth ((sf_ 6) + (x348 / 20)) 100000)) 3 ((sf_ 3) + ((wth ((sf_ 5) + (x261 / 20)) 100000) / 20))))), (bl_, .inl (cy 0, 10, .inl lw_))] H := hP
                  have hD : va_D A [(b0_, .inr (9, [.int th_, .long tr_, .ref bn_, .ref bt_, .ref bs_, .ref bk_, .ref bp_, .ref bi_, .ref bl_, .int it_, .int ub_, .int db_, .ref bx_, .int tp_, .int nx_, .int tk_, .int pl_, .int vl_, .int fa_, .ref bc_, .ref bf_])), (bn_, .inl (cy 0, 24, .inl (nbF nb_))), (bt_, .inl (cy 0, 6, .inl (nb_ i_))), (bs_, .inl (cy 0, 29, .inl (upd (upd (upd (upd (upd (upd (shf sf_ 3) 10 (sf_ 3)) 11 (sf_ 5)) 12 (sf_ 4)) 5 (wth ((sf_ 5) + (x261 / 20)) 100000)) 6 (wth ((sf_ 6) + (x348 / 20)) 100000)) 3 ((sf_ 3) + ((wth ((sf_ 5) + (x261 / 20)) 100000) / 20))))), (bl_, .inl (cy 0, 10, .inl lw_))] := hD
                  refine W.eq (g2 := F0 m 521 ls [.int (wth ((sf_ 4) + ((wth ((sf_ 6) + (x348 / 20)) 100000) / 20)) 10000), .int 4, .ref bs_]) rfl ?_
                  refine as_i (x := wth ((sf_ 4) + ((wth ((sf_ 6) + (x348 / 20)) 100000) / 20)) 10000) hx hb hK hP hD hS 3 rfl 4 (rfl) (by decide) (by decide) dX9_tick_521 (fun H locs hP hD hS => ?_)
                  have hP : va_P D vwCl [(b0_, .inr (9, [.int th_, .long tr_, .ref bn_, .ref bt_, .ref bs_, .ref bk_, .ref bp_, .ref bi_, .ref bl_, .int it_, .int ub_, .int db_, .ref bx_, .int tp_, .int nx_, .int tk_, .int pl_, .int vl_, .int fa_, .ref bc_, .ref bf_])), (bn_, .inl (cy 0, 24, .inl (nbF nb_))), (bt_, .inl (cy 0, 6, .inl (nb_ i_))), (bs_, .inl (cy 0, 29, .inl (upd (upd (upd (upd (upd (upd (upd (shf sf_ 3) 10 (sf_ 3)) 11 (sf_ 5)) 12 (sf_ 4)) 5 (wth ((sf_ 5) + (x261 / 20)) 100000)) 6 (wth ((sf_ 6) + (x348 / 20)) 100000)) 3 ((sf_ 3) + ((wth ((sf_ 5) + (x261 / 20)) 100000) / 20))) 4 (wth ((sf_ 4) + ((wth ((sf_ 6) + (x348 / 20)) 100000) / 20)) 10000)))), (bl_, .inl (cy 0, 10, .inl lw_))] H := hP
                  have hD : va_D A [(b0_, .inr (9, [.int th_, .long tr_, .ref bn_, .ref bt_, .ref bs_, .ref bk_, .ref bp_, .ref bi_, .ref bl_, .int it_, .int ub_, .int db_, .ref bx_, .int tp_, .int nx_, .int tk_, .int pl_, .int vl_, .int fa_, .ref bc_, .ref bf_])), (bn_, .inl (cy 0, 24, .inl (nbF nb_))), (bt_, .inl (cy 0, 6, .inl (nb_ i_))), (bs_, .inl (cy 0, 29, .inl (upd (upd (upd (upd (upd (upd (upd (shf sf_ 3) 10 (sf_ 3)) 11 (sf_ 5)) 12 (sf_ 4)) 5 (wth ((sf_ 5) + (x261 / 20)) 100000)) 6 (wth ((sf_ 6) + (x348 / 20)) 100000)) 3 ((sf_ 3) + ((wth ((sf_ 5) + (x261 / 20)) 100000) / 20))) 4 (wth ((sf_ 4) + ((wth ((sf_ 6) + (x348 / 20)) 100000) / 20)) 10000)))), (bl_, .inl (cy 0, 10, .inl lw_))] := hD
                  refine lv_aload_n hx hb dX9_tick_522 rfl (lv_at hl 9 rfl) ?_
                  refine va_get (D := D) (ci := 9) (v := .ref bs_) (C := RX9) (T := TX9) (N := 21) hx hb hts winX9 hown hK hP 0 rfl rfl 4 (by decide) wf16 (fun _ h9 => h9) rfl dX9_tick_523 ?_
                  refine lv_bipush (v := 9) hx hb dX9_tick_526 (by decide) ?_
                  refine lv_iload hx hb dX9_tick_528 (lv_at hl 3 rfl) ?_
                  refine as_i (x := z197) hx hb hK hP hD hS 3 rfl 9 (rfl) (by decide) (by decide) dX9_tick_530 (fun H locs hP hD hS => ?_)
                  have hP : va_P D vwCl [(b0_, .inr (9, [.int th_, .long tr_, .ref bn_, .ref bt_, .ref bs_, .ref bk_, .ref bp_, .ref bi_, .ref bl_, .int it_, .int ub_, .int db_, .ref bx_, .int tp_, .int nx_, .int tk_, .int pl_, .int vl_, .int fa_, .ref bc_, .ref bf_])), (bn_, .inl (cy 0, 24, .inl (nbF nb_))), (bt_, .inl (cy 0, 6, .inl (nb_ i_))), (bs_, .inl (cy 0, 29, .inl (upd (upd (upd (upd (upd (upd (upd (upd (shf sf_ 3) 10 (sf_ 3)) 11 (sf_ 5)) 12 (sf_ 4)) 5 (wth ((sf_ 5) + (x261 / 20)) 100000)) 6 (wth ((sf_ 6) + (x348 / 20)) 100000)) 3 ((sf_ 3) + ((wth ((sf_ 5) + (x261 / 20)) 100000) / 20))) 4 (wth ((sf_ 4) + ((wth ((sf_ 6) + (x348 / 20)) 100000) / 20)) 10000)) 9 z197))), (bl_, .inl (cy 0, 10, .inl lw_))] H := hP
                  have hD : va_D A [(b0_, .inr (9, [.int th_, .long tr_, .ref bn_, .ref bt_, .ref bs_, .ref bk_, .ref bp_, .ref bi_, .ref bl_, .int it_, .int ub_, .int db_, .ref bx_, .int tp_, .int nx_, .int tk_, .int pl_, .int vl_, .int fa_, .ref bc_, .ref bf_])), (bn_, .inl (cy 0, 24, .inl (nbF nb_))), (bt_, .inl (cy 0, 6, .inl (nb_ i_))), (bs_, .inl (cy 0, 29, .inl (upd (upd (upd (upd (upd (upd (upd (upd (shf sf_ 3) 10 (sf_ 3)) 11 (sf_ 5)) 12 (sf_ 4)) 5 (wth ((sf_ 5) + (x261 / 20)) 100000)) 6 (wth ((sf_ 6) + (x348 / 20)) 100000)) 3 ((sf_ 3) + ((wth ((sf_ 5) + (x261 / 20)) 100000) / 20))) 4 (wth ((sf_ 4) + ((wth ((sf_ 6) + (x348 / 20)) 100000) / 20)) 10000)) 9 z197))), (bl_, .inl (cy 0, 10, .inl lw_))] := hD
                  refine lv_aload_n hx hb dX9_tick_531 rfl (lv_at hl 9 rfl) ?_
                  refine va_get (D := D) (ci := 9) (v := .ref bs_) (C := RX9) (T := TX9) (N := 21) hx hb hts winX9 hown hK hP 0 rfl rfl 4 (by decide) wf16 (fun _ h9 => h9) rfl dX9_tick_532 ?_
                  refine lv_bipush (v := 7) hx hb dX9_tick_535 (by decide) ?_
                  refine lv_dup2_11 hx hb dX9_tick_537 rfl rfl ?_
                  refine al_i hx hb hK hP 3 rfl 7 (rfl) (by decide) (by decide) dX9_tick_538 ?_
                  refine lv_eqi (y := sf_ 7) rfl ?_
                  refine lv_iconst (v := 1) hx hb dX9_tick_539 (by decide) ?_
                  refine lv_iadd hx hb dX9_tick_540 ?_
                  refine as_i (x := (sf_ 7) + 1) hx hb hK hP hD hS 3 rfl 7 (rfl) (by decide) (by decide) dX9_tick_541 (fun H locs hP hD hS => ?_)
                  have hP : va_P D vwCl [(b0_, .inr (9, [.int th_, .long tr_, .ref bn_, .ref bt_, .ref bs_, .ref bk_, .ref bp_, .ref bi_, .ref bl_, .int it_, .int ub_, .int db_, .ref bx_, .int tp_, .int nx_, .int tk_, .int pl_, .int vl_, .int fa_, .ref bc_, .ref bf_])), (bn_, .inl (cy 0, 24, .inl (nbF nb_))), (bt_, .inl (cy 0, 6, .inl (nb_ i_))), (bs_, .inl (cy 0, 29, .inl (upd (upd (upd (upd (upd (upd (upd (upd (upd (shf sf_ 3) 10 (sf_ 3)) 11 (sf_ 5)) 12 (sf_ 4)) 5 (wth ((sf_ 5) + (x261 / 20)) 100000)) 6 (wth ((sf_ 6) + (x348 / 20)) 100000)) 3 ((sf_ 3) + ((wth ((sf_ 5) + (x261 / 20)) 100000) / 20))) 4 (wth ((sf_ 4) + ((wth ((sf_ 6) + (x348 / 20)) 100000) / 20)) 10000)) 9 z197) 7 ((sf_ 7) + 1)))), (bl_, .inl (cy 0, 10, .inl lw_))] H := hP
                  have hD : va_D A [(b0_, .inr (9, [.int th_, .long tr_, .ref bn_, .ref bt_, .ref bs_, .ref bk_, .ref bp_, .ref bi_, .ref bl_, .int it_, .int ub_, .int db_, .ref bx_, .int tp_, .int nx_, .int tk_, .int pl_, .int vl_, .int fa_, .ref bc_, .ref bf_])), (bn_, .inl (cy 0, 24, .inl (nbF nb_))), (bt_, .inl (cy 0, 6, .inl (nb_ i_))), (bs_, .inl (cy 0, 29, .inl (upd (upd (upd (upd (upd (upd (upd (upd (upd (shf sf_ 3) 10 (sf_ 3)) 11 (sf_ 5)) 12 (sf_ 4)) 5 (wth ((sf_ 5) + (x261 / 20)) 100000)) 6 (wth ((sf_ 6) + (x348 / 20)) 100000)) 3 ((sf_ 3) + ((wth ((sf_ 5) + (x261 / 20)) 100000) / 20))) 4 (wth ((sf_ 4) + ((wth ((sf_ 6) + (x348 / 20)) 100000) / 20)) 10000)) 9 z197) 7 ((sf_ 7) + 1)))), (bl_, .inl (cy 0, 10, .inl lw_))] := hD
                  refine lv_aload_n hx hb dX9_tick_542 rfl (lv_at hl 9 rfl) ?_
                  refine va_get (D := D) (ci := 9) (v := .ref bs_) (C := RX9) (T := TX9) (N := 21) hx hb hts winX9 hown hK hP 0 rfl rfl 4 (by decide) wf16 (fun _ h9 => h9) rfl dX9_tick_543 ?_
                  refine lv_bipush (v := 8) hx hb dX9_tick_546 (by decide) ?_
                  refine lv_aload_n hx hb dX9_tick_548 rfl (lv_at hl 9 rfl) ?_
                  refine va_get (D := D) (ci := 9) (v := .ref bs_) (C := RX9) (T := TX9) (N := 21) hx hb hts winX9 hown hK hP 0 rfl rfl 4 (by decide) wf16 (fun _ h9 => h9) rfl dX9_tick_549 ?_
                  refine lv_iconst (v := 3) hx hb dX9_tick_552 (by decide) ?_
                  refine al_i hx hb hK hP 3 rfl 3 (rfl) (by decide) (by decide) dX9_tick_553 ?_
                  refine lv_eqi (y := ((sf_ 3) + ((wth ((sf_ 5) + (x261 / 20)) 100000) / 20))) rfl ?_
                  refine lv_sipush (v := 1000) hx hb dX9_tick_554 (by decide) ?_
                  have J_557_343 : ∀ (H : Heap) (locs : List Loc), va_P D vwCl [(b0_, .inr (9, [.int th_, .long tr_, .ref bn_, .ref bt_, .ref bs_, .ref bk_, .ref bp_, .ref bi_, .ref bl_, .int it_, .int ub_, .int db_, .ref bx_, .int tp_, .int nx_, .int tk_, .int pl_, .int vl_, .int fa_, .ref bc_, .ref bf_])), (bn_, .inl (cy 0, 24, .inl (nbF nb_))), (bt_, .inl (cy 0, 6, .inl (nb_ i_))), (bs_, .inl (cy 0, 29, .inl (upd (upd (upd (upd (upd (upd (upd (upd (upd (shf sf_ 3) 10 (sf_ 3)) 11 (sf_ 5)) 12 (sf_ 4)) 5 (wth ((sf_ 5) + (x261 / 20)) 100000)) 6 (wth ((sf_ 6) + (x348 / 20)) 100000)) 3 ((sf_ 3) + ((wth ((sf_ 5) + (x261 / 20)) 100000) / 20))) 4 (wth ((sf_ 4) + ((wth ((sf_ 6) + (x348 / 20)) 100000) / 20)) 10000)) 9 z197) 7 ((sf_ 7) + 1)))), (bl_, .inl (cy 0, 10, .inl lw_))] H → va_D A [(b0_, .inr (9, [.int th_, .long tr_, .ref bn_, .ref bt_, .ref bs_, .ref bk_, .ref bp_, .ref bi_, .ref bl_, .int it_, .int ub_, .int db_, .ref bx_, .int tp_, .int nx_, .int tk_, .int pl_, .int vl_, .int fa_, .ref bc_, .ref bf_])), (bn_, .inl (cy 0, 24, .inl (nbF nb_))), (bt_, .inl (cy 0, 6, .inl (nb_ i_))), (bs_, .inl (cy 0, 29, .inl (upd (upd (upd (upd (upd (upd (upd (upd (upd (shf sf_ 3) 10 (sf_ 3)) 11 (sf_ 5)) 12 (sf_ 4)) 5 (wth ((sf_ 5) + (x261 / 20)) 100000)) 6 (wth ((sf_ 6) + (x348 / 20)) 100000)) 3 ((sf_ 3) + ((wth ((sf_ 5) + (x261 / 20)) 100000) / 20))) 4 (wth ((sf_ 4) + ((wth ((sf_ 6) + (x348 / 20)) 100000) / 20)) 10000)) 9 z197) 7 ((sf_ 7) + 1)))), (bl_, .inl (cy 0, 10, .inl lw_))] → va_S A s.heap H locs → ∀ (ls : Array Slot), lv_has ls 10 [(9, .int (nI 2)), (8, .int x348), (7, .int x261), (6, .int z197), (5, .int z82), (4, .int z52), (3, .int z25), (2, .int (nI d_)), (1, .int (sf_ 1)), (0, .ref b0_)] → W p l e rmkX9_tick s m args below meth c H locs 0 0 Q (F0 m 577 ls [.int (bI ((1000 < ((sf_ 3) + ((wth ((sf_ 5) + (x261 / 20)) 100000) / 20))) ∨ (¬ ((-1000) ≤ ((sf_ 3) + ((wth ((sf_ 5) + (x261 / 20)) 100000) / 20)))))), .int 8, .ref bs_]) := by
                    intro H locs hP hD hS ls hl
                    refine as_i (x := bI ((1000 < ((sf_ 3) + ((wth ((sf_ 5) + (x261 / 20)) 100000) / 20))) ∨ (¬ ((-1000) ≤ ((sf_ 3) + ((wth ((sf_ 5) + (x261 / 20)) 100000) / 20)))))) hx hb hK hP hD hS 3 rfl 8 (rfl) (by decide) (by decide) dX9_tick_577 (fun H locs hP hD hS => ?_)
                    have hP : va_P D vwCl [(b0_, .inr (9, [.int th_, .long tr_, .ref bn_, .ref bt_, .ref bs_, .ref bk_, .ref bp_, .ref bi_, .ref bl_, .int it_, .int ub_, .int db_, .ref bx_, .int tp_, .int nx_, .int tk_, .int pl_, .int vl_, .int fa_, .ref bc_, .ref bf_])), (bn_, .inl (cy 0, 24, .inl (nbF nb_))), (bt_, .inl (cy 0, 6, .inl (nb_ i_))), (bs_, .inl (cy 0, 29, .inl (upd (upd (upd (upd (upd (upd (upd (upd (upd (upd (shf sf_ 3) 10 (sf_ 3)) 11 (sf_ 5)) 12 (sf_ 4)) 5 (wth ((sf_ 5) + (x261 / 20)) 100000)) 6 (wth ((sf_ 6) + (x348 / 20)) 100000)) 3 ((sf_ 3) + ((wth ((sf_ 5) + (x261 / 20)) 100000) / 20))) 4 (wth ((sf_ 4) + ((wth ((sf_ 6) + (x348 / 20)) 100000) / 20)) 10000)) 9 z197) 7 ((sf_ 7) + 1)) 8 (bI ((1000 < ((sf_ 3) + ((wth ((sf_ 5) + (x261 / 20)) 100000) / 20))) ∨ (¬ ((-1000) ≤ ((sf_ 3) + ((wth ((sf_ 5) + (x261 / 20)) 100000) / 20))))))))), (bl_, .inl (cy 0, 10, .inl lw_))] H := hP
                    have hD : va_D A [(b0_, .inr (9, [.int th_, .long tr_, .ref bn_, .ref bt_, .ref bs_, .ref bk_, .ref bp_, .ref bi_, .ref bl_, .int it_, .int ub_, .int db_, .ref bx_, .int tp_, .int nx_, .int tk_, .int pl_, .int vl_, .int fa_, .ref bc_, .ref bf_])), (bn_, .inl (cy 0, 24, .inl (nbF nb_))), (bt_, .inl (cy 0, 6, .inl (nb_ i_))), (bs_, .inl (cy 0, 29, .inl (upd (upd (upd (upd (upd (upd (upd (upd (upd (upd (shf sf_ 3) 10 (sf_ 3)) 11 (sf_ 5)) 12 (sf_ 4)) 5 (wth ((sf_ 5) + (x261 / 20)) 100000)) 6 (wth ((sf_ 6) + (x348 / 20)) 100000)) 3 ((sf_ 3) + ((wth ((sf_ 5) + (x261 / 20)) 100000) / 20))) 4 (wth ((sf_ 4) + ((wth ((sf_ 6) + (x348 / 20)) 100000) / 20)) 10000)) 9 z197) 7 ((sf_ 7) + 1)) 8 (bI ((1000 < ((sf_ 3) + ((wth ((sf_ 5) + (x261 / 20)) 100000) / 20))) ∨ (¬ ((-1000) ≤ ((sf_ 3) + ((wth ((sf_ 5) + (x261 / 20)) 100000) / 20))))))))), (bl_, .inl (cy 0, 10, .inl lw_))] := hD
                    subst ex348 ex261 ez197 ez152 ex142 ez82 ez52 ez25
                    exact RT _ _ () H locs 578 ls (rt_v dX9_tick_578) rfl hP hD hS
                  refine lv_icmp_gt (tgt := 572) hx hb dX9_tick_557 (by decide) (fun c_557 => ?_) (fun c_557 => ?_)
                  · refine lv_iconst (v := 1) hx hb dX9_tick_572 (by decide) ?_
                    refine lv_goto (tgt := 577) hx hb dX9_tick_573 (by decide) ?_
                    refine lv_eqi (y := bI ((1000 < ((sf_ 3) + ((wth ((sf_ 5) + (x261 / 20)) 100000) / 20))) ∨ (¬ ((-1000) ≤ ((sf_ 3) + ((wth ((sf_ 5) + (x261 / 20)) 100000) / 20)))))) (bI_congr (po_t c_557)) ?_
                    exact J_557_343 H locs hP hD hS ls (lv_sub hl [0, 1, 2, 3, 4, 5, 6, 7, 8, 9] rfl)
                  · refine lv_aload_n hx hb dX9_tick_560 rfl (lv_at hl 9 rfl) ?_
                    refine va_get (D := D) (ci := 9) (v := .ref bs_) (C := RX9) (T := TX9) (N := 21) hx hb hts winX9 hown hK hP 0 rfl rfl 4 (by decide) wf16 (fun _ h9 => h9) rfl dX9_tick_561 ?_
                    refine lv_iconst (v := 3) hx hb dX9_tick_564 (by decide) ?_
                    refine al_i hx hb hK hP 3 rfl 3 (rfl) (by decide) (by decide) dX9_tick_565 ?_
                    refine lv_eqi (y := ((sf_ 3) + ((wth ((sf_ 5) + (x261 / 20)) 100000) / 20))) rfl ?_
                    refine lv_sipush (v := (-1000)) hx hb dX9_tick_566 (by decide) ?_
                    refine lv_icmp_ge (tgt := 576) hx hb dX9_tick_569 (by decide) (fun c_569 => ?_) (fun c_569 => ?_)
                    · refine lv_iconst (v := 0) hx hb dX9_tick_576 (by decide) ?_
                      refine lv_eqi (y := bI ((1000 < ((sf_ 3) + ((wth ((sf_ 5) + (x261 / 20)) 100000) / 20))) ∨ (¬ ((-1000) ≤ ((sf_ 3) + ((wth ((sf_ 5) + (x261 / 20)) 100000) / 20)))))) (bI_congr (po_f c_557 (pn_t c_569))) ?_
                      exact J_557_343 H locs hP hD hS ls (lv_sub hl [0, 1, 2, 3, 4, 5, 6, 7, 8, 9] rfl)
                    · refine lv_iconst (v := 1) hx hb dX9_tick_572 (by decide) ?_
                      refine lv_goto (tgt := 577) hx hb dX9_tick_573 (by decide) ?_
                      refine lv_eqi (y := bI ((1000 < ((sf_ 3) + ((wth ((sf_ 5) + (x261 / 20)) 100000) / 20))) ∨ (¬ ((-1000) ≤ ((sf_ 3) + ((wth ((sf_ 5) + (x261 / 20)) 100000) / 20)))))) (bI_congr (po_f c_557 (pn_f c_569))) ?_
                      exact J_557_343 H locs hP hD hS ls (lv_sub hl [0, 1, 2, 3, 4, 5, 6, 7, 8, 9] rfl)
                · refine lv_aload_n hx hb dX9_tick_360 rfl (lv_at hl 9 rfl) ?_
                  refine va_get (D := D) (ci := 9) (v := .ref bs_) (C := RX9) (T := TX9) (N := 21) hx hb hts winX9 hown hK hP 0 rfl rfl 4 (by decide) wf16 (fun _ h9 => h9) rfl dX9_tick_361 ?_
                  refine lv_bipush (v := 10) hx hb dX9_tick_364 (by decide) ?_
                  refine lv_iload hx hb dX9_tick_366 (lv_at hl 0 rfl) ?_
                  refine lv_iadd hx hb dX9_tick_368 ?_
                  refine lv_eqi (y := nI (10 + j_)) (nI_add 10 j_) ?_
                  refine lv_aload_n hx hb dX9_tick_369 rfl (lv_at hl 9 rfl) ?_
                  refine va_get (D := D) (ci := 9) (v := .ref bs_) (C := RX9) (T := TX9) (N := 21) hx hb hts winX9 hown hK hP 0 rfl rfl 4 (by decide) wf16 (fun _ h9 => h9) rfl dX9_tick_370 ?_
                  refine lv_bipush (v := 10) hx hb dX9_tick_373 (by decide) ?_
                  refine lv_iload hx hb dX9_tick_375 (lv_at hl 0 rfl) ?_
                  refine lv_iadd hx hb dX9_tick_377 ?_
                  refine lv_eqi (y := nI (10 + j_)) (nI_add 10 j_) ?_
                  refine lv_iconst (v := 3) hx hb dX9_tick_378 (by decide) ?_
                  refine lv_isub hx hb dX9_tick_379 ?_
                  refine lv_eqi (y := nI (10 + j_ - 3)) (pk_sub (a := 10 + j_) (b := 3) (by omega)) ?_
                  refine al_i hx hb hK hP 3 rfl (10 + j_ - 3) (rfl) (by omega) (by decide) dX9_tick_380 ?_
                  refine lv_eqi (y := sf_ (10 + j_ - 3)) (shf_lo _ (by omega)) ?_
                  refine as_i (x := sf_ (10 + j_ - 3)) hx hb hK hP hD hS 3 rfl (10 + j_) (rfl) (by omega) (by decide) dX9_tick_381 (fun H locs hP hD hS => ?_)
                  have hP : va_P D vwCl [(b0_, .inr (9, [.int th_, .long tr_, .ref bn_, .ref bt_, .ref bs_, .ref bk_, .ref bp_, .ref bi_, .ref bl_, .int it_, .int ub_, .int db_, .ref bx_, .int tp_, .int nx_, .int tk_, .int pl_, .int vl_, .int fa_, .ref bc_, .ref bf_])), (bn_, .inl (cy 0, 24, .inl (nbF nb_))), (bt_, .inl (cy 0, 6, .inl (nb_ i_))), (bs_, .inl (cy 0, 29, .inl (upd (shf sf_ (j_ + 1)) (10 + j_) (sf_ (10 + j_ - 3))))), (bl_, .inl (cy 0, 10, .inl lw_))] H := hP
                  have hD : va_D A [(b0_, .inr (9, [.int th_, .long tr_, .ref bn_, .ref bt_, .ref bs_, .ref bk_, .ref bp_, .ref bi_, .ref bl_, .int it_, .int ub_, .int db_, .ref bx_, .int tp_, .int nx_, .int tk_, .int pl_, .int vl_, .int fa_, .ref bc_, .ref bf_])), (bn_, .inl (cy 0, 24, .inl (nbF nb_))), (bt_, .inl (cy 0, 6, .inl (nb_ i_))), (bs_, .inl (cy 0, 29, .inl (upd (shf sf_ (j_ + 1)) (10 + j_) (sf_ (10 + j_ - 3))))), (bl_, .inl (cy 0, 10, .inl lw_))] := hD
                  refine lv_iinc (v := nI (j_ - 1)) (lv' := [(9, .int (nI (j_ - 1))), (8, .int x348), (7, .int x261), (6, .int z197), (5, .int z82), (4, .int z52), (3, .int z25), (2, .int (nI d_)), (1, .int (sf_ 1)), (0, .ref b0_)]) hx hb dX9_tick_382 hl (k := 0) rfl (by rw [show j_ = (j_ - 1) + 1 by omega]; exact pk_m1 _) (by decide) rfl (fun ls hl => ?_)
                  refine lv_goto (tgt := 354) hx hb dX9_tick_385 (by decide) ?_
                  have hc9 : upd (shf sf_ (j_ + 1)) (10 + j_) (sf_ (10 + j_ - 3)) = shf sf_ ((j_ - 1) + 1) := by rw [shf_s _ (by omega) (by omega), show j_ - 1 + 1 = j_ by omega]
                  rw [hc9] at hP hD
                  exact ih_354 (j_ - 1) (by first | assumption | omega | decide) (by first | assumption | omega | decide) (by omega) H locs hP hD hS ls (lv_sub hl [0, 1, 2, 3, 4, 5, 6, 7, 8, 9] rfl)
            have hc9 : sf_ = shf sf_ (14 + 1) := (shf_15 _).symm
            rw [hc9] at hP hD
            exact L_354 _ 14 (by first | assumption | omega | decide) (by first | assumption | omega | decide) (Nat.lt_succ_self _) H locs hP hD hS ls (lv_sub hl [0, 1, 2, 3, 4, 5, 6, 7, 8, 9] rfl)
          refine lv_icmp_ne (tgt := 206) hx hb dX9_tick_197 (by decide) (fun c_197 => ?_) (fun c_197 => ?_)
          · refine lv_iload hx hb dX9_tick_206 (lv_at hl 0 rfl) ?_
            exact J_197_80 _ ((if_neg c_197).symm) H locs hP hD hS ls (lv_sub hl [0, 1, 2, 3, 4, 5, 6] rfl)
          · refine lv_iload hx hb dX9_tick_200 (lv_at hl 0 rfl) ?_
            refine lv_ineg hx hb dX9_tick_202 ?_
            refine lv_goto (tgt := 208) hx hb dX9_tick_203 (by decide) ?_
            exact J_197_80 _ ((if_pos c_197).symm) H locs hP hD hS ls (lv_sub hl [0, 1, 2, 3, 4, 5, 6] rfl)
        refine lv_icmp_le (tgt := 164) hx hb dX9_tick_152 (by decide) (fun c_152 => ?_) (fun c_152 => ?_)
        · refine lv_iload hx hb dX9_tick_164 (lv_at hl 0 rfl) ?_
          refine lv_aload_n hx hb dX9_tick_166 rfl (lv_at hl 6 rfl) ?_
          refine va_get (D := D) (ci := 9) (v := .ref bl_) (C := RX9) (T := TX9) (N := 21) hx hb hts winX9 hown hK hP 0 rfl rfl 8 (by decide) wf29 (fun _ h9 => h9) rfl dX9_tick_167 ?_
          refine lv_iconst (v := 4) hx hb dX9_tick_170 (by decide) ?_
          refine al_i hx hb hK hP 4 rfl 4 (rfl) (by decide) (by decide) dX9_tick_171 ?_
          refine lv_ineg hx hb dX9_tick_172 ?_
          refine lv_icmp_ge (tgt := 186) hx hb dX9_tick_173 (by decide) (fun c_173 => ?_) (fun c_173 => ?_)
          · refine lv_iload hx hb dX9_tick_186 (lv_at hl 0 rfl) ?_
            exact J_152_72 _ (((if_pos c_152).trans (if_pos c_173)).symm) H locs hP hD hS ls (lv_sub hl [0, 1, 2, 3, 4, 5, 6] rfl)
          · refine lv_aload_n hx hb dX9_tick_176 rfl (lv_at hl 6 rfl) ?_
            refine va_get (D := D) (ci := 9) (v := .ref bl_) (C := RX9) (T := TX9) (N := 21) hx hb hts winX9 hown hK hP 0 rfl rfl 8 (by decide) wf29 (fun _ h9 => h9) rfl dX9_tick_177 ?_
            refine lv_iconst (v := 4) hx hb dX9_tick_180 (by decide) ?_
            refine al_i hx hb hK hP 4 rfl 4 (rfl) (by decide) (by decide) dX9_tick_181 ?_
            refine lv_ineg hx hb dX9_tick_182 ?_
            refine lv_goto (tgt := 188) hx hb dX9_tick_183 (by decide) ?_
            exact J_152_72 _ (((if_pos c_152).trans (if_neg c_173)).symm) H locs hP hD hS ls (lv_sub hl [0, 1, 2, 3, 4, 5, 6] rfl)
        · refine lv_aload_n hx hb dX9_tick_155 rfl (lv_at hl 6 rfl) ?_
          refine va_get (D := D) (ci := 9) (v := .ref bl_) (C := RX9) (T := TX9) (N := 21) hx hb hts winX9 hown hK hP 0 rfl rfl 8 (by decide) wf29 (fun _ h9 => h9) rfl dX9_tick_156 ?_
          refine lv_iconst (v := 4) hx hb dX9_tick_159 (by decide) ?_
          refine al_i hx hb hK hP 4 rfl 4 (rfl) (by decide) (by decide) dX9_tick_160 ?_
          refine lv_goto (tgt := 188) hx hb dX9_tick_161 (by decide) ?_
          exact J_152_72 _ ((if_neg c_152).symm) H locs hP hD hS ls (lv_sub hl [0, 1, 2, 3, 4, 5, 6] rfl)
      refine cz_ne (tgt := 94) hx hb d_ rfl (by omega) dX9_tick_82 (by decide) (fun c_82 => ?_) (fun c_82 => ?_)
      · refine lv_aload_n hx hb dX9_tick_94 rfl (lv_at hl 4 rfl) ?_
        refine va_get (D := D) (ci := 9) (v := .ref bs_) (C := RX9) (T := TX9) (N := 21) hx hb hts winX9 hown hK hP 0 rfl rfl 4 (by decide) wf16 (fun _ h9 => h9) rfl dX9_tick_95 ?_
        refine lv_bipush (v := 10) hx hb dX9_tick_98 (by decide) ?_
        refine lv_iconst (v := 3) hx hb dX9_tick_100 (by decide) ?_
        refine lv_iload_n hx hb dX9_tick_101 rfl (lv_at hl 2 rfl) ?_
        refine lv_iconst (v := 1) hx hb dX9_tick_102 (by decide) ?_
        refine lv_isub hx hb dX9_tick_103 ?_
        refine lv_eqi (y := nI (d_ - 1)) (pk_sub (a := d_) (b := 1) (by omega)) ?_
        refine lv_imul hx hb dX9_tick_104 ?_
        refine lv_eqi (y := nI (3 * (d_ - 1))) (pk_mul 3 (d_ - 1)) ?_
        refine lv_iadd hx hb dX9_tick_105 ?_
        refine lv_eqi (y := nI (10 + (3 * (d_ - 1)))) (nI_add 10 (3 * (d_ - 1))) ?_
        refine lv_iconst (v := 2) hx hb dX9_tick_106 (by decide) ?_
        refine lv_iadd hx hb dX9_tick_107 ?_
        refine lv_eqi (y := nI ((10 + (3 * (d_ - 1))) + 2)) (nI_add (10 + (3 * (d_ - 1))) 2) ?_
        refine al_i hx hb hK hP 3 rfl ((10 + (3 * (d_ - 1))) + 2) (rfl) (by omega) (by decide) dX9_tick_108 ?_
        exact J_82_40 _ ((if_neg c_82).symm) H locs hP hD hS ls (lv_sub hl [0, 1, 2, 3, 4] rfl)
      · refine lv_aload_n hx hb dX9_tick_85 rfl (lv_at hl 4 rfl) ?_
        refine va_get (D := D) (ci := 9) (v := .ref bs_) (C := RX9) (T := TX9) (N := 21) hx hb hts winX9 hown hK hP 0 rfl rfl 4 (by decide) wf16 (fun _ h9 => h9) rfl dX9_tick_86 ?_
        refine lv_iconst (v := 4) hx hb dX9_tick_89 (by decide) ?_
        refine al_i hx hb hK hP 3 rfl 4 (rfl) (by decide) (by decide) dX9_tick_90 ?_
        refine lv_goto (tgt := 109) hx hb dX9_tick_91 (by decide) ?_
        exact J_82_40 _ ((if_pos c_82).symm) H locs hP hD hS ls (lv_sub hl [0, 1, 2, 3, 4] rfl)
    refine cz_ne (tgt := 64) hx hb d_ rfl (by omega) dX9_tick_52 (by decide) (fun c_52 => ?_) (fun c_52 => ?_)
    · refine lv_aload_n hx hb dX9_tick_64 rfl (lv_at hl 3 rfl) ?_
      refine va_get (D := D) (ci := 9) (v := .ref bs_) (C := RX9) (T := TX9) (N := 21) hx hb hts winX9 hown hK hP 0 rfl rfl 4 (by decide) wf16 (fun _ h9 => h9) rfl dX9_tick_65 ?_
      refine lv_bipush (v := 10) hx hb dX9_tick_68 (by decide) ?_
      refine lv_iconst (v := 3) hx hb dX9_tick_70 (by decide) ?_
      refine lv_iload_n hx hb dX9_tick_71 rfl (lv_at hl 1 rfl) ?_
      refine lv_iconst (v := 1) hx hb dX9_tick_72 (by decide) ?_
      refine lv_isub hx hb dX9_tick_73 ?_
      refine lv_eqi (y := nI (d_ - 1)) (pk_sub (a := d_) (b := 1) (by omega)) ?_
      refine lv_imul hx hb dX9_tick_74 ?_
      refine lv_eqi (y := nI (3 * (d_ - 1))) (pk_mul 3 (d_ - 1)) ?_
      refine lv_iadd hx hb dX9_tick_75 ?_
      refine lv_eqi (y := nI (10 + (3 * (d_ - 1)))) (nI_add 10 (3 * (d_ - 1))) ?_
      refine lv_iconst (v := 1) hx hb dX9_tick_76 (by decide) ?_
      refine lv_iadd hx hb dX9_tick_77 ?_
      refine lv_eqi (y := nI ((10 + (3 * (d_ - 1))) + 1)) (nI_add (10 + (3 * (d_ - 1))) 1) ?_
      refine al_i hx hb hK hP 3 rfl ((10 + (3 * (d_ - 1))) + 1) (rfl) (by omega) (by decide) dX9_tick_78 ?_
      exact J_52_36 _ ((if_neg c_52).symm) H locs hP hD hS ls (lv_sub hl [0, 1, 2, 3] rfl)
    · refine lv_aload_n hx hb dX9_tick_55 rfl (lv_at hl 3 rfl) ?_
      refine va_get (D := D) (ci := 9) (v := .ref bs_) (C := RX9) (T := TX9) (N := 21) hx hb hts winX9 hown hK hP 0 rfl rfl 4 (by decide) wf16 (fun _ h9 => h9) rfl dX9_tick_56 ?_
      refine lv_iconst (v := 5) hx hb dX9_tick_59 (by decide) ?_
      refine al_i hx hb hK hP 3 rfl 5 (rfl) (by decide) (by decide) dX9_tick_60 ?_
      refine lv_goto (tgt := 79) hx hb dX9_tick_61 (by decide) ?_
      exact J_52_36 _ ((if_pos c_52).symm) H locs hP hD hS ls (lv_sub hl [0, 1, 2, 3] rfl)
  refine cz_ne (tgt := 37) hx hb d_ rfl (by omega) dX9_tick_25 (by decide) (fun c_25 => ?_) (fun c_25 => ?_)
  · refine lv_aload_n hx hb dX9_tick_37 rfl (lv_at hl 2 rfl) ?_
    refine va_get (D := D) (ci := 9) (v := .ref bs_) (C := RX9) (T := TX9) (N := 21) hx hb hts winX9 hown hK hP 0 rfl rfl 4 (by decide) wf16 (fun _ h9 => h9) rfl dX9_tick_38 ?_
    refine lv_bipush (v := 10) hx hb dX9_tick_41 (by decide) ?_
    refine lv_iconst (v := 3) hx hb dX9_tick_43 (by decide) ?_
    refine lv_iload_n hx hb dX9_tick_44 rfl (lv_at hl 0 rfl) ?_
    refine lv_iconst (v := 1) hx hb dX9_tick_45 (by decide) ?_
    refine lv_isub hx hb dX9_tick_46 ?_
    refine lv_eqi (y := nI (d_ - 1)) (pk_sub (a := d_) (b := 1) (by omega)) ?_
    refine lv_imul hx hb dX9_tick_47 ?_
    refine lv_eqi (y := nI (3 * (d_ - 1))) (pk_mul 3 (d_ - 1)) ?_
    refine lv_iadd hx hb dX9_tick_48 ?_
    refine lv_eqi (y := nI (10 + (3 * (d_ - 1)))) (nI_add 10 (3 * (d_ - 1))) ?_
    refine al_i hx hb hK hP 3 rfl (10 + (3 * (d_ - 1))) (rfl) (by omega) (by decide) dX9_tick_49 ?_
    exact J_25_32 _ ((if_neg c_25).symm) H locs hP hD hS ls (lv_sub hl [0, 1, 2] rfl)
  · refine lv_aload_n hx hb dX9_tick_28 rfl (lv_at hl 2 rfl) ?_
    refine va_get (D := D) (ci := 9) (v := .ref bs_) (C := RX9) (T := TX9) (N := 21) hx hb hts winX9 hown hK hP 0 rfl rfl 4 (by decide) wf16 (fun _ h9 => h9) rfl dX9_tick_29 ?_
    refine lv_iconst (v := 3) hx hb dX9_tick_32 (by decide) ?_
    refine al_i hx hb hK hP 3 rfl 3 (rfl) (by decide) (by decide) dX9_tick_33 ?_
    refine lv_goto (tgt := 50) hx hb dX9_tick_34 (by decide) ?_
    exact J_25_32 _ ((if_pos c_25).symm) H locs hP hD hS ls (lv_sub hl [0, 1, 2] rfl)
