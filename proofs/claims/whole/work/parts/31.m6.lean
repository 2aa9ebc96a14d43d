abbrev rmkX9_tries : Room := { frames := 3, cells := 0, slots := 0, locals := 85 }
set_option maxHeartbeats 4000000 in
set_option maxRecDepth 100000 in
theorem kX9_tries {l : Launch} {D : va_G} {cy : Nat → ClassId} {sa : Nat → Nat} (b0_ : Nat) (th_ : Int32) (tr_ : Int64) (bn_ : Nat) (bt_ : Nat) (bs_ : Nat) (bk_ : Nat) (bp_ : Nat) (bi_ : Nat) (bl_ : Nat) (it_ : Int32) (ub_ : Int32) (db_ : Int32) (bx_ : Nat) (tp_ : Int32) (nx_ : Int32) (tk_ : Int32) (pl_ : Int32) (vl_ : Int32) (fa_ : Int32) (bc_ : Nat) (bf_ : Nat) (nb_ : Nat → Nat → Int32) (ft_ : Nat → Int32) (cf_ : Nat → Int32) (i_ : Nat) (hi : i_ < 4) : CT (S := (Nat → Int32)) l D cy sa yX9_tries wsX9_tries rmkX9_tries [.ref b0_, .int (nI i_)] [(b0_, .inr (9, [.int th_, .long tr_, .ref bn_, .ref bt_, .ref bs_, .ref bk_, .ref bp_, .ref bi_, .ref bl_, .int it_, .int ub_, .int db_, .ref bx_, .int tp_, .int nx_, .int tk_, .int pl_, .int vl_, .int fa_, .ref bc_, .ref bf_])), (bn_, .inl (cy 0, 24, .inl (nbF nb_))), (bt_, .inl (cy 0, 6, .inl ft_)), (bc_, .inl (cy 0, 729, .inl cf_))] (fun v9 ft2 => v9 = none) (fun ft2 => [(b0_, .inr (9, [.int th_, .long tr_, .ref bn_, .ref bt_, .ref bs_, .ref bk_, .ref bp_, .ref bi_, .ref bl_, .int it_, .int ub_, .int db_, .ref bx_, .int tp_, .int nx_, .int tk_, .int pl_, .int vl_, .int fa_, .ref bc_, .ref bf_])), (bn_, .inl (cy 0, 24, .inl (nbF nb_))), (bt_, .inl (cy 0, 6, .inl ft2)), (bc_, .inl (cy 0, 729, .inl (csV (nb_ i_))))]) 0 0 := by
  refine CT.of cX9_tries 6 none (by decide) rfl (Nat.le_of_ble_eq_true rfl) ?_
  intro p e s m args below meth c A Q ls F hmn hK hE hA hP hD hS hl RT
  obtain ⟨hx, hb, hml, hown, hts⟩ := id F
  have winX9 : ∀ w ∈ u_ws RX9 TX9 21, w ∈ wsX9_tries := by decide +kernel
  have wf42 := hts (.fieldLink RX9 42 "SelfSteerModel" "counts" "[I") (by decide +kernel)
  have wf13 := hts (.fieldLink RX9 13 "SelfSteerModel" "tried" "[I") (by decide +kernel)
  have wf7 := hts (.fieldLink RX9 7 "SelfSteerModel" "numbers" "[I") (by decide +kernel)
  have hl : lv_has ls 6 [(0, .ref b0_), (1, .int (nI i_))] := hl
  have hP : va_P D vwCl [(b0_, .inr (9, [.int th_, .long tr_, .ref bn_, .ref bt_, .ref bs_, .ref bk_, .ref bp_, .ref bi_, .ref bl_, .int it_, .int ub_, .int db_, .ref bx_, .int tp_, .int nx_, .int tk_, .int pl_, .int vl_, .int fa_, .ref bc_, .ref bf_])), (bn_, .inl (cy 0, 24, .inl (nbF nb_))), (bt_, .inl (cy 0, 6, .inl ft_)), (bc_, .inl (cy 0, 729, .inl cf_))] s.heap := hP
  have hD : va_D A [(b0_, .inr (9, [.int th_, .long tr_, .ref bn_, .ref bt_, .ref bs_, .ref bk_, .ref bp_, .ref bi_, .ref bl_, .int it_, .int ub_, .int db_, .ref bx_, .int tp_, .int nx_, .int tk_, .int pl_, .int vl_, .int fa_, .ref bc_, .ref bf_])), (bn_, .inl (cy 0, 24, .inl (nbF nb_))), (bt_, .inl (cy 0, 6, .inl ft_)), (bc_, .inl (cy 0, 729, .inl cf_))] := hD
  obtain ⟨H, hH⟩ : ∃ H0 : Heap, H0 = s.heap := ⟨_, rfl⟩
  obtain ⟨locs, hlo⟩ : ∃ L0 : List Loc, L0 = [] := ⟨_, rfl⟩
  have hS : va_S A s.heap H locs := by rw [hH, hlo]; exact hS
  rw [← hH] at hP
  show W p l e rmkX9_tries s m args below meth c s.heap [] 0 0 Q (F0 m 0 ls [])
  suffices hgo : W p l e rmkX9_tries s m args below meth c H locs 0 0 Q (F0 m 0 ls []) by rw [hH, hlo] at hgo; exact hgo
  clear hH hlo
  refine lv_iconst (v := 0) hx hb dX9_tries_0 (by decide) ?_
  refine lv_istore_n (lv' := [(2, .int 0), (0, .ref b0_), (1, .int (nI i_))]) hx hb dX9_tries_1 rfl hl (by decide) rfl (fun ls hl => ?_)
  have L_2 : ∀ (n : Nat) (q_ : Nat) (ftc_ : Nat → Int32), (q_ ≤ 729) → 729 - q_ < n → ∀ (H : Heap) (locs : List Loc), va_P D vwCl [(b0_, .inr (9, [.int th_, .long tr_, .ref bn_, .ref bt_, .ref bs_, .ref bk_, .ref bp_, .ref bi_, .ref bl_, .int it_, .int ub_, .int db_, .ref bx_, .int tp_, .int nx_, .int tk_, .int pl_, .int vl_, .int fa_, .ref bc_, .ref bf_])), (bn_, .inl (cy 0, 24, .inl (nbF nb_))), (bt_, .inl (cy 0, 6, .inl ftc_)), (bc_, .inl (cy 0, 729, .inl (fil (csV (nb_ i_)) cf_ q_)))] H → va_D A [(b0_, .inr (9, [.int th_, .long tr_, .ref bn_, .ref bt_, .ref bs_, .ref bk_, .ref bp_, .ref bi_, .ref bl_, .int it_, .int ub_, .int db_, .ref bx_, .int tp_, .int nx_, .int tk_, .int pl_, .int vl_, .int fa_, .ref bc_, .ref bf_])), (bn_, .inl (cy 0, 24, .inl (nbF nb_))), (bt_, .inl (cy 0, 6, .inl ftc_)), (bc_, .inl (cy 0, 729, .inl (fil (csV (nb_ i_)) cf_ q_)))] → va_S A s.heap H locs → ∀ (ls : Array Slot), lv_has ls 6 [(2, .int (nI q_)), (0, .ref b0_), (1, .int (nI i_))] → W p l e rmkX9_tries s m args below meth c H locs 0 0 Q (F0 m 2 ls []) := by
    intro n
    induction n with
    | zero => intro q_ ftc_ hq hn; exact absurd hn (Nat.not_lt_zero _)
    | succ n ih_2 =>
      intro q_ ftc_ hq hn_2 H locs hP hD hS ls hl
      refine lv_iload_n hx hb dX9_tries_2 rfl (lv_at hl 0 rfl) ?_
      refine lv_sipush (v := 729) hx hb dX9_tries_3 (by decide) ?_
      refine cn_ge (tgt := 112) hx hb q_ 729 rfl rfl (by omega) (by omega) dX9_tries_6 (by decide) (fun c_6 => ?_) (fun c_6 => ?_)
      · obtain ⟨hP, hD⟩ := ro_ws (g := csV (nb_ i_)) hP hD 3 rfl (fun z hz => fil_lt (by omega))
        have hP : va_P D vwCl [(b0_, .inr (9, [.int th_, .long tr_, .ref bn_, .ref bt_, .ref bs_, .ref bk_, .ref bp_, .ref bi_, .ref bl_, .int it_, .int ub_, .int db_, .ref bx_, .int tp_, .int nx_, .int tk_, .int pl_, .int vl_, .int fa_, .ref bc_, .ref bf_])), (bn_, .inl (cy 0, 24, .inl (nbF nb_))), (bt_, .inl (cy 0, 6, .inl ftc_)), (bc_, .inl (cy 0, 729, .inl (csV (nb_ i_))))] H := hP
        have hD : va_D A [(b0_, .inr (9, [.int th_, .long tr_, .ref bn_, .ref bt_, .ref bs_, .ref bk_, .ref bp_, .ref bi_, .ref bl_, .int it_, .int ub_, .int db_, .ref bx_, .int tp_, .int nx_, .int tk_, .int pl_, .int vl_, .int fa_, .ref bc_, .ref bf_])), (bn_, .inl (cy 0, 24, .inl (nbF nb_))), (bt_, .inl (cy 0, 6, .inl ftc_)), (bc_, .inl (cy 0, 729, .inl (csV (nb_ i_))))] := hD
        exact RT _ _ (ftc_) H locs 112 ls (rt_v dX9_tries_112) rfl hP hD hS
      · refine lv_iload_n hx hb dX9_tries_9 rfl (lv_at hl 0 rfl) ?_
        refine lv_istore_n (lv' := [(3, .int (nI q_)), (2, .int (nI q_)), (0, .ref b0_), (1, .int (nI i_))]) hx hb dX9_tries_10 rfl hl (by decide) rfl (fun ls hl => ?_)
        refine lv_iconst (v := 1) hx hb dX9_tries_11 (by decide) ?_
        refine lv_istore (lv' := [(4, .int 1), (3, .int (nI q_)), (2, .int (nI q_)), (0, .ref b0_), (1, .int (nI i_))]) hx hb dX9_tries_12 hl (by decide) rfl (fun ls hl => ?_)
        refine lv_iconst (v := 0) hx hb dX9_tries_14 (by decide) ?_
        refine lv_istore (lv' := [(5, .int 0), (4, .int 1), (3, .int (nI q_)), (2, .int (nI q_)), (0, .ref b0_), (1, .int (nI i_))]) hx hb dX9_tries_15 hl (by decide) rfl (fun ls hl => ?_)
        have L_17 : ∀ (n : Nat) (k_ : Nat), (k_ ≤ 6) → 6 - k_ < n → ∀ (H : Heap) (locs : List Loc), va_P D vwCl [(b0_, .inr (9, [.int th_, .long tr_, .ref bn_, .ref bt_, .ref bs_, .ref bk_, .ref bp_, .ref bi_, .ref bl_, .int it_, .int ub_, .int db_, .ref bx_, .int tp_, .int nx_, .int tk_, .int pl_, .int vl_, .int fa_, .ref bc_, .ref bf_])), (bn_, .inl (cy 0, 24, .inl (nbF nb_))), (bt_, .inl (cy 0, 6, .inl (fil (tsF (nb_ i_) q_) ftc_ k_))), (bc_, .inl (cy 0, 729, .inl (fil (csV (nb_ i_)) cf_ q_)))] H → va_D A [(b0_, .inr (9, [.int th_, .long tr_, .ref bn_, .ref bt_, .ref bs_, .ref bk_, .ref bp_, .ref bi_, .ref bl_, .int it_, .int ub_, .int db_, .ref bx_, .int tp_, .int nx_, .int tk_, .int pl_, .int vl_, .int fa_, .ref bc_, .ref bf_])), (bn_, .inl (cy 0, 24, .inl (nbF nb_))), (bt_, .inl (cy 0, 6, .inl (fil (tsF (nb_ i_) q_) ftc_ k_))), (bc_, .inl (cy 0, 729, .inl (fil (csV (nb_ i_)) cf_ q_)))] → va_S A s.heap H locs → ∀ (ls : Array Slot), lv_has ls 6 [(5, .int (nI k_)), (4, .int (bI (mayB (tsF (nb_ i_) q_) k_ = true))), (3, .int (nI (q_ / 3 ^ k_))), (2, .int (nI q_)), (0, .ref b0_), (1, .int (nI i_))] → W p l e rmkX9_tries s m args below meth c H locs 0 0 Q (F0 m 17 ls []) := by
          intro n
          induction n with
          | zero => intro k_ hk hn; exact absurd hn (Nat.not_lt_zero _)
          | succ n ih_17 =>
            intro k_ hk hn_17 H locs hP hD hS ls hl
            refine lv_iload hx hb dX9_tries_17 (lv_at hl 0 rfl) ?_
            refine lv_bipush (v := 6) hx hb dX9_tries_19 (by decide) ?_
            refine cn_ge (tgt := 86) hx hb k_ 6 rfl rfl (by omega) (by omega) dX9_tries_21 (by decide) (fun c_21 => ?_) (fun c_21 => ?_)
            · obtain rfl : 6 = k_ := by omega
              obtain ⟨hP, hD⟩ := ro_ws (g := tsF (nb_ i_) q_) hP hD 2 rfl (fun z hz => fil_lt (by omega))
              have hP : va_P D vwCl [(b0_, .inr (9, [.int th_, .long tr_, .ref bn_, .ref bt_, .ref bs_, .ref bk_, .ref bp_, .ref bi_, .ref bl_, .int it_, .int ub_, .int db_, .ref bx_, .int tp_, .int nx_, .int tk_, .int pl_, .int vl_, .int fa_, .ref bc_, .ref bf_])), (bn_, .inl (cy 0, 24, .inl (nbF nb_))), (bt_, .inl (cy 0, 6, .inl (tsF (nb_ i_) q_))), (bc_, .inl (cy 0, 729, .inl (fil (csV (nb_ i_)) cf_ q_)))] H := hP
              have hD : va_D A [(b0_, .inr (9, [.int th_, .long tr_, .ref bn_, .ref bt_, .ref bs_, .ref bk_, .ref bp_, .ref bi_, .ref bl_, .int it_, .int ub_, .int db_, .ref bx_, .int tp_, .int nx_, .int tk_, .int pl_, .int vl_, .int fa_, .ref bc_, .ref bf_])), (bn_, .inl (cy 0, 24, .inl (nbF nb_))), (bt_, .inl (cy 0, 6, .inl (tsF (nb_ i_) q_))), (bc_, .inl (cy 0, 729, .inl (fil (csV (nb_ i_)) cf_ q_)))] := hD
              refine lv_aload_n hx hb dX9_tries_86 rfl (lv_at hl 4 rfl) ?_
              refine va_get (D := D) (ci := 9) (v := .ref bc_) (C := RX9) (T := TX9) (N := 21) hx hb hts winX9 hown hK hP 0 rfl rfl 19 (by decide) wf42 (fun _ h9 => h9) rfl dX9_tries_87 ?_
              refine lv_iload_n hx hb dX9_tries_90 rfl (lv_at hl 3 rfl) ?_
              refine lv_iload hx hb dX9_tries_91 (lv_at hl 1 rfl) ?_
              have J_93_48 : ∀ (z93 : Int32), z93 = (if mayB (tsF (nb_ i_) q_) 6 = true then (ct (tsF (nb_ i_) q_) 41) else (-9)) → ∀ (H : Heap) (locs : List Loc), va_P D vwCl [(b0_, .inr (9, [.int th_, .long tr_, .ref bn_, .ref bt_, .ref bs_, .ref bk_, .ref bp_, .ref bi_, .ref bl_, .int it_, .int ub_, .int db_, .ref bx_, .int tp_, .int nx_, .int tk_, .int pl_, .int vl_, .int fa_, .ref bc_, .ref bf_])), (bn_, .inl (cy 0, 24, .inl (nbF nb_))), (bt_, .inl (cy 0, 6, .inl (tsF (nb_ i_) q_))), (bc_, .inl (cy 0, 729, .inl (fil (csV (nb_ i_)) cf_ q_)))] H → va_D A [(b0_, .inr (9, [.int th_, .long tr_, .ref bn_, .ref bt_, .ref bs_, .ref bk_, .ref bp_, .ref bi_, .ref bl_, .int it_, .int ub_, .int db_, .ref bx_, .int tp_, .int nx_, .int tk_, .int pl_, .int vl_, .int fa_, .ref bc_, .ref bf_])), (bn_, .inl (cy 0, 24, .inl (nbF nb_))), (bt_, .inl (cy 0, 6, .inl (tsF (nb_ i_) q_))), (bc_, .inl (cy 0, 729, .inl (fil (csV (nb_ i_)) cf_ q_)))] → va_S A s.heap H locs → ∀ (ls : Array Slot), lv_has ls 6 [(5, .int (nI 6)), (4, .int (bI (mayB (tsF (nb_ i_) q_) 6 = true))), (3, .int (nI (q_ / 3 ^ 6))), (2, .int (nI q_)), (0, .ref b0_), (1, .int (nI i_))] → W p l e rmkX9_tries s m args below meth c H locs 0 0 Q (F0 m 105 ls [.int z93, .int (nI q_), .ref bc_]) := by
                intro z93 ez93 H locs hP hD hS ls hl
                refine as_i (x := z93) hx hb hK hP hD hS 3 rfl q_ (rfl) (by omega) (by decide) dX9_tries_105 (fun H locs hP hD hS => ?_)
                have hP : va_P D vwCl [(b0_, .inr (9, [.int th_, .long tr_, .ref bn_, .ref bt_, .ref bs_, .ref bk_, .ref bp_, .ref bi_, .ref bl_, .int it_, .int ub_, .int db_, .ref bx_, .int tp_, .int nx_, .int tk_, .int pl_, .int vl_, .int fa_, .ref bc_, .ref bf_])), (bn_, .inl (cy 0, 24, .inl (nbF nb_))), (bt_, .inl (cy 0, 6, .inl (tsF (nb_ i_) q_))), (bc_, .inl (cy 0, 729, .inl (upd (fil (csV (nb_ i_)) cf_ q_) q_ z93)))] H := hP
                have hD : va_D A [(b0_, .inr (9, [.int th_, .long tr_, .ref bn_, .ref bt_, .ref bs_, .ref bk_, .ref bp_, .ref bi_, .ref bl_, .int it_, .int ub_, .int db_, .ref bx_, .int tp_, .int nx_, .int tk_, .int pl_, .int vl_, .int fa_, .ref bc_, .ref bf_])), (bn_, .inl (cy 0, 24, .inl (nbF nb_))), (bt_, .inl (cy 0, 6, .inl (tsF (nb_ i_) q_))), (bc_, .inl (cy 0, 729, .inl (upd (fil (csV (nb_ i_)) cf_ q_) q_ z93)))] := hD
                refine lv_iinc (v := nI (q_ + 1)) (lv' := [(2, .int (nI (q_ + 1))), (5, .int (nI 6)), (4, .int (bI (mayB (tsF (nb_ i_) q_) 6 = true))), (3, .int (nI (q_ / 3 ^ 6))), (0, .ref b0_), (1, .int (nI i_))]) hx hb dX9_tries_106 hl (k := 3) rfl (nI_add q_ 1) (by decide) rfl (fun ls hl => ?_)
                refine lv_goto (tgt := 2) hx hb dX9_tries_109 (by decide) ?_
                have hc9 : upd (fil (csV (nb_ i_)) cf_ q_) q_ z93 = fil (csV (nb_ i_)) cf_ (q_ + 1) := by rw [ez93]; exact fil_s (csV (nb_ i_)) cf_ q_
                rw [hc9] at hP hD
                exact ih_2 (q_ + 1) (tsF (nb_ i_) q_) (by first | assumption | omega | decide) (by omega) H locs hP hD hS ls (lv_sub hl [0, 4, 5] rfl)
              refine bz_eq (tgt := 103) hx hb dX9_tries_93 (by decide) (fun c_93 => ?_) (fun c_93 => ?_)
              · refine lv_bipush (v := (-9)) hx hb dX9_tries_103 (by decide) ?_
                exact J_93_48 _ ((if_neg c_93).symm) H locs hP hD hS ls (lv_sub hl [0, 1, 2, 3, 4, 5] rfl)
              · refine lv_aload_n hx hb dX9_tries_96 rfl (lv_at hl 4 rfl) ?_
                refine ca_V (q0 := 0) (n := 0) (rest := [.int (nI q_), .ref bc_]) (wr := [(bn_, .inl (cy 0, 24, .inl (nbF nb_))), (bc_, .inl (cy 0, 729, .inl (fil (csV (nb_ i_)) cf_ q_)))]) F hK hE hA hP hD hS hl.1 (kX9_manySpeeds (l := l) (D := D) (cy := cy) (sa := sa) b0_ th_ tr_ bn_ bt_ bs_ bk_ bp_ bi_ bl_ it_ ub_ db_ bx_ tp_ nx_ tk_ pl_ vl_ fa_ bc_ bf_ (tsF (nb_ i_) q_)) gX9_tries_X9_manySpeeds rfl rfl rfl rfl rfl rfl (by decide +kernel) ⟨by decide, by decide⟩ [0, 2] [1, 3] rfl rfl rfl rfl (by decide) rfl rfl (Nat.le_of_ble_eq_true rfl) dX9_tries_97 ⟨by decide, by decide⟩ (fun v9 u9 H locs hv hP hD hS => ?_)
                subst hv
                obtain ⟨hP, hD⟩ := re_ws (ws' := [(b0_, .inr (9, [.int th_, .long tr_, .ref bn_, .ref bt_, .ref bs_, .ref bk_, .ref bp_, .ref bi_, .ref bl_, .int it_, .int ub_, .int db_, .ref bx_, .int tp_, .int nx_, .int tk_, .int pl_, .int vl_, .int fa_, .ref bc_, .ref bf_])), (bn_, .inl (cy 0, 24, .inl (nbF nb_))), (bt_, .inl (cy 0, 6, .inl (tsF (nb_ i_) q_))), (bc_, .inl (cy 0, 729, .inl (fil (csV (nb_ i_)) cf_ q_)))]) hP hD [2, 0, 3, 1] rfl rfl
                refine W.eq (g2 := F0 m 100 ls [.int (ct (tsF (nb_ i_) q_) 41), .int (nI q_), .ref bc_]) rfl ?_
                refine lv_goto (tgt := 105) hx hb dX9_tries_100 (by decide) ?_
                exact J_93_48 _ ((if_pos c_93).symm) H locs hP hD hS ls (lv_sub hl [0, 1, 2, 3, 4, 5] rfl)
            · refine lv_aload_n hx hb dX9_tries_24 rfl (lv_at hl 4 rfl) ?_
              refine va_get (D := D) (ci := 9) (v := .ref bt_) (C := RX9) (T := TX9) (N := 21) hx hb hts winX9 hown hK hP 0 rfl rfl 3 (by decide) wf13 (fun _ h9 => h9) rfl dX9_tries_25 ?_
              refine lv_iload hx hb dX9_tries_28 (lv_at hl 0 rfl) ?_
              refine lv_aload_n hx hb dX9_tries_30 rfl (lv_at hl 4 rfl) ?_
              refine va_get (D := D) (ci := 9) (v := .ref bn_) (C := RX9) (T := TX9) (N := 21) hx hb hts winX9 hown hK hP 0 rfl rfl 2 (by decide) wf7 (fun _ h9 => h9) rfl dX9_tries_31 ?_
              refine lv_bipush (v := 6) hx hb dX9_tries_34 (by decide) ?_
              refine lv_iload_n hx hb dX9_tries_36 rfl (lv_at hl 5 rfl) ?_
              refine lv_imul hx hb dX9_tries_37 ?_
              refine lv_eqi (y := nI (6 * i_)) (pk_mul 6 i_) ?_
              refine lv_iload hx hb dX9_tries_38 (lv_at hl 0 rfl) ?_
              refine lv_iadd hx hb dX9_tries_40 ?_
              refine lv_eqi (y := nI ((6 * i_) + k_)) (nI_add (6 * i_) k_) ?_
              refine al_i hx hb hK hP 1 rfl ((6 * i_) + k_) (rfl) (by omega) (by decide) dX9_tries_41 ?_
              refine lv_eqi (y := nb_ i_ k_) (nbF_at nb_ i_ (by omega)) ?_
              refine lv_iload_n hx hb dX9_tries_42 rfl (lv_at hl 2 rfl) ?_
              refine lv_iconst (v := 3) hx hb dX9_tries_43 (by decide) ?_
              refine lv_irem hx hb dX9_tries_44 (by decide) ?_
              refine lv_eqi (y := nI (q_ / 3 ^ k_ % 3)) (rem3_n (by omega)) ?_
              refine lv_iadd hx hb dX9_tries_45 ?_
              refine lv_iconst (v := 1) hx hb dX9_tries_46 (by decide) ?_
              refine lv_isub hx hb dX9_tries_47 ?_
              refine lv_eqi (y := (tsF (nb_ i_) q_) k_) (rfl) ?_
              refine as_i (x := (tsF (nb_ i_) q_) k_) hx hb hK hP hD hS 2 rfl k_ (rfl) (by omega) (by decide) dX9_tries_48 (fun H locs hP hD hS => ?_)
              have hP : va_P D vwCl [(b0_, .inr (9, [.int th_, .long tr_, .ref bn_, .ref bt_, .ref bs_, .ref bk_, .ref bp_, .ref bi_, .ref bl_, .int it_, .int ub_, .int db_, .ref bx_, .int tp_, .int nx_, .int tk_, .int pl_, .int vl_, .int fa_, .ref bc_, .ref bf_])), (bn_, .inl (cy 0, 24, .inl (nbF nb_))), (bt_, .inl (cy 0, 6, .inl (upd (fil (tsF (nb_ i_) q_) ftc_ k_) k_ ((tsF (nb_ i_) q_) k_)))), (bc_, .inl (cy 0, 729, .inl (fil (csV (nb_ i_)) cf_ q_)))] H := hP
              have hD : va_D A [(b0_, .inr (9, [.int th_, .long tr_, .ref bn_, .ref bt_, .ref bs_, .ref bk_, .ref bp_, .ref bi_, .ref bl_, .int it_, .int ub_, .int db_, .ref bx_, .int tp_, .int nx_, .int tk_, .int pl_, .int vl_, .int fa_, .ref bc_, .ref bf_])), (bn_, .inl (cy 0, 24, .inl (nbF nb_))), (bt_, .inl (cy 0, 6, .inl (upd (fil (tsF (nb_ i_) q_) ftc_ k_) k_ ((tsF (nb_ i_) q_) k_)))), (bc_, .inl (cy 0, 729, .inl (fil (csV (nb_ i_)) cf_ q_)))] := hD
              refine lv_iload_n hx hb dX9_tries_49 rfl (lv_at hl 2 rfl) ?_
              refine lv_iconst (v := 3) hx hb dX9_tries_50 (by decide) ?_
              refine lv_idiv hx hb dX9_tries_51 (by decide) ?_
              refine lv_eqi (y := nI (q_ / 3 ^ (k_ + 1))) (div3_n (by omega)) ?_
              refine lv_istore_n (lv' := [(3, .int (nI (q_ / 3 ^ (k_ + 1)))), (5, .int (nI k_)), (4, .int (bI (mayB (tsF (nb_ i_) q_) k_ = true))), (2, .int (nI q_)), (0, .ref b0_), (1, .int (nI i_))]) hx hb dX9_tries_52 rfl hl (by decide) rfl (fun ls hl => ?_)
              refine lv_iload hx hb dX9_tries_53 (lv_at hl 2 rfl) ?_
              have J_55_99 : ∀ (H : Heap) (locs : List Loc), va_P D vwCl [(b0_, .inr (9, [.int th_, .long tr_, .ref bn_, .ref bt_, .ref bs_, .ref bk_, .ref bp_, .ref bi_, .ref bl_, .int it_, .int ub_, .int db_, .ref bx_, .int tp_, .int nx_, .int tk_, .int pl_, .int vl_, .int fa_, .ref bc_, .ref bf_])), (bn_, .inl (cy 0, 24, .inl (nbF nb_))), (bt_, .inl (cy 0, 6, .inl (upd (fil (tsF (nb_ i_) q_) ftc_ k_) k_ ((tsF (nb_ i_) q_) k_)))), (bc_, .inl (cy 0, 729, .inl (fil (csV (nb_ i_)) cf_ q_)))] H → va_D A [(b0_, .inr (9, [.int th_, .long tr_, .ref bn_, .ref bt_, .ref bs_, .ref bk_, .ref bp_, .ref bi_, .ref bl_, .int it_, .int ub_, .int db_, .ref bx_, .int tp_, .int nx_, .int tk_, .int pl_, .int vl_, .int fa_, .ref bc_, .ref bf_])), (bn_, .inl (cy 0, 24, .inl (nbF nb_))), (bt_, .inl (cy 0, 6, .inl (upd (fil (tsF (nb_ i_) q_) ftc_ k_) k_ ((tsF (nb_ i_) q_) k_)))), (bc_, .inl (cy 0, 729, .inl (fil (csV (nb_ i_)) cf_ q_)))] → va_S A s.heap H locs → ∀ (ls : Array Slot), lv_has ls 6 [(3, .int (nI (q_ / 3 ^ (k_ + 1)))), (5, .int (nI k_)), (4, .int (bI (mayB (tsF (nb_ i_) q_) k_ = true))), (2, .int (nI q_)), (0, .ref b0_), (1, .int (nI i_))] → W p l e rmkX9_tries s m args below meth c H locs 0 0 Q (F0 m 78 ls [.int (bI ((mayB (tsF (nb_ i_) q_) k_ = true) ∧ (inR ((tsF (nb_ i_) q_) k_) (bot (nI k_)) 9)))]) := by
                intro H locs hP hD hS ls hl
                refine lv_eqi (y := bI (mayB (tsF (nb_ i_) q_) (k_ + 1) = true)) (bI_congr (mayB_s _ _)) ?_
                refine lv_istore (lv' := [(4, .int (bI (mayB (tsF (nb_ i_) q_) (k_ + 1) = true))), (3, .int (nI (q_ / 3 ^ (k_ + 1)))), (5, .int (nI k_)), (2, .int (nI q_)), (0, .ref b0_), (1, .int (nI i_))]) hx hb dX9_tries_78 hl (by decide) rfl (fun ls hl => ?_)
                refine lv_iinc (v := nI (k_ + 1)) (lv' := [(5, .int (nI (k_ + 1))), (4, .int (bI (mayB (tsF (nb_ i_) q_) (k_ + 1) = true))), (3, .int (nI (q_ / 3 ^ (k_ + 1)))), (2, .int (nI q_)), (0, .ref b0_), (1, .int (nI i_))]) hx hb dX9_tries_80 hl (k := 2) rfl (nI_add k_ 1) (by decide) rfl (fun ls hl => ?_)
                refine lv_goto (tgt := 17) hx hb dX9_tries_83 (by decide) ?_
                have hc9 : upd (fil (tsF (nb_ i_) q_) ftc_ k_) k_ ((tsF (nb_ i_) q_) k_) = fil (tsF (nb_ i_) q_) ftc_ (k_ + 1) := fil_s (tsF (nb_ i_) q_) ftc_ k_
                rw [hc9] at hP hD
                exact ih_17 (k_ + 1) (by first | assumption | omega | decide) (by omega) H locs hP hD hS ls (lv_sub hl [0, 1, 2, 3, 4, 5] rfl)
              refine bz_eq (tgt := 77) hx hb dX9_tries_55 (by decide) (fun c_55 => ?_) (fun c_55 => ?_)
              · refine lv_iconst (v := 0) hx hb dX9_tries_77 (by decide) ?_
                refine lv_eqi (y := bI ((mayB (tsF (nb_ i_) q_) k_ = true) ∧ (inR ((tsF (nb_ i_) q_) k_) (bot (nI k_)) 9))) (bI_congr (pd_f c_55)) ?_
                exact J_55_99 H locs hP hD hS ls (lv_sub hl [0, 1, 2, 3, 4, 5] rfl)
              · refine lv_iload hx hb dX9_tries_58 (lv_at hl 1 rfl) ?_
                refine lv_aload_n hx hb dX9_tries_60 rfl (lv_at hl 4 rfl) ?_
                refine va_get (D := D) (ci := 9) (v := .ref bt_) (C := RX9) (T := TX9) (N := 21) hx hb hts winX9 hown hK hP 0 rfl rfl 3 (by decide) wf13 (fun _ h9 => h9) rfl dX9_tries_61 ?_
                refine lv_iload hx hb dX9_tries_64 (lv_at hl 1 rfl) ?_
                refine al_i hx hb hK hP 2 rfl k_ (rfl) (by omega) (by decide) dX9_tries_66 ?_
                refine lv_eqi (y := (tsF (nb_ i_) q_) k_) (upd_at _ _ _) ?_
                refine ca_S (n := 2) (rest := []) (wr := [(b0_, .inr (9, [.int th_, .long tr_, .ref bn_, .ref bt_, .ref bs_, .ref bk_, .ref bp_, .ref bi_, .ref bl_, .int it_, .int ub_, .int db_, .ref bx_, .int tp_, .int nx_, .int tk_, .int pl_, .int vl_, .int fa_, .ref bc_, .ref bf_])), (bn_, .inl (cy 0, 24, .inl (nbF nb_))), (bt_, .inl (cy 0, 6, .inl (upd (fil (tsF (nb_ i_) q_) ftc_ k_) k_ ((tsF (nb_ i_) q_) k_)))), (bc_, .inl (cy 0, 729, .inl (fil (csV (nb_ i_)) cf_ q_)))]) F hK hE hA hP hD hS hl.1 (kX9_mayBe (l := l) (D := D) (cy := cy) (sa := sa) (nI k_) ((tsF (nb_ i_) q_) k_)) gX9_tries_X9_mayBe rfl rfl rfl (by decide +kernel) ⟨by decide, by decide⟩ [] [0, 1, 2, 3] rfl rfl rfl rfl (by decide) rfl rfl (Nat.le_of_ble_eq_true rfl) dX9_tries_67 ⟨by decide, by decide⟩ (fun v9 u9 H locs hv hP hD hS => ?_)
                subst hv
                have hP : va_P D vwCl [(b0_, .inr (9, [.int th_, .long tr_, .ref bn_, .ref bt_, .ref bs_, .ref bk_, .ref bp_, .ref bi_, .ref bl_, .int it_, .int ub_, .int db_, .ref bx_, .int tp_, .int nx_, .int tk_, .int pl_, .int vl_, .int fa_, .ref bc_, .ref bf_])), (bn_, .inl (cy 0, 24, .inl (nbF nb_))), (bt_, .inl (cy 0, 6, .inl (upd (fil (tsF (nb_ i_) q_) ftc_ k_) k_ ((tsF (nb_ i_) q_) k_)))), (bc_, .inl (cy 0, 729, .inl (fil (csV (nb_ i_)) cf_ q_)))] H := hP
                have hD : va_D A [(b0_, .inr (9, [.int th_, .long tr_, .ref bn_, .ref bt_, .ref bs_, .ref bk_, .ref bp_, .ref bi_, .ref bl_, .int it_, .int ub_, .int db_, .ref bx_, .int tp_, .int nx_, .int tk_, .int pl_, .int vl_, .int fa_, .ref bc_, .ref bf_])), (bn_, .inl (cy 0, 24, .inl (nbF nb_))), (bt_, .inl (cy 0, 6, .inl (upd (fil (tsF (nb_ i_) q_) ftc_ k_) k_ ((tsF (nb_ i_) q_) k_)))), (bc_, .inl (cy 0, 729, .inl (fil (csV (nb_ i_)) cf_ q_)))] := hD
                refine W.eq (g2 := F0 m 70 ls [.int (bI (inR ((tsF (nb_ i_) q_) k_) (bot (nI k_)) 9))]) rfl ?_
                refine bz_eq (tgt := 77) hx hb dX9_tries_70 (by decide) (fun c_70 => ?_) (fun c_70 => ?_)
                · refine lv_iconst (v := 0) hx hb dX9_tries_77 (by decide) ?_
                  refine lv_eqi (y := bI ((mayB (tsF (nb_ i_) q_) k_ = true) ∧ (inR ((tsF (nb_ i_) q_) k_) (bot (nI k_)) 9))) (bI_congr (pd_t c_55 (pa_f c_70))) ?_
                  exact J_55_99 H locs hP hD hS ls (lv_sub hl [0, 1, 2, 3, 4, 5] rfl)
                · refine lv_iconst (v := 1) hx hb dX9_tries_73 (by decide) ?_
                  refine lv_goto (tgt := 78) hx hb dX9_tries_74 (by decide) ?_
                  refine lv_eqi (y := bI ((mayB (tsF (nb_ i_) q_) k_ = true) ∧ (inR ((tsF (nb_ i_) q_) k_) (bot (nI k_)) 9))) (bI_congr (pd_t c_55 (pa_t c_70))) ?_
                  exact J_55_99 H locs hP hD hS ls (lv_sub hl [0, 1, 2, 3, 4, 5] rfl)
        have hc9 : ftc_ = fil (tsF (nb_ i_) q_) ftc_ 0 := (fil_0 _ _).symm
        rw [hc9] at hP hD
        rw [show ((3, .int (nI q_)) : Nat × Value) = (3, .int (nI (q_ / 3 ^ 0))) from congrArg (fun y9 => ((3, Value.int y9) : Nat × Value)) (show nI q_ = nI (q_ / 3 ^ 0) from by rw [Nat.pow_zero, Nat.div_one])] at hl
        exact L_17 _ 0 (by first | assumption | omega | decide) (Nat.lt_succ_self _) H locs hP hD hS ls (lv_sub hl [0, 1, 2, 3, 4, 5] rfl)
  have hc9 : cf_ = fil (csV (nb_ i_)) cf_ 0 := (fil_0 _ _).symm
  rw [hc9] at hP hD
  exact L_2 _ 0 ft_ (by first | assumption | omega | decide) (Nat.lt_succ_self _) H locs hP hD hS ls (lv_sub hl [0, 1, 2] rfl)
abbrev rmkX9_spreadOf : Room := { frames := 0, cells := 0, slots := 0, locals := 0 }
set_option maxHeartbeats 4000000 in
set_option maxRecDepth 100000 in
theorem kX9_spreadOf {l : Launch} {D : va_G} {cy : Nat → ClassId} {sa : Nat → Nat} (b0_ : Nat) (th_ : Int32) (tr_ : Int64) (bn_ : Nat) (bt_ : Nat) (bs_ : Nat) (bk_ : Nat) (bp_ : Nat) (bi_ : Nat) (bl_ : Nat) (it_ : Int32) (ub_ : Int32) (db_ : Int32) (bx_ : Nat) (tp_ : Int32) (nx_ : Int32) (tk_ : Int32) (pl_ : Int32) (vl_ : Int32) (fa_ : Int32) (bc_ : Nat) (bf_ : Nat) (cf_ : Nat → Int32) (t_ : Nat) (ht : t_ < 64) : CD l D cy sa yX9_spreadOf wsX9_spreadOf rmkX9_spreadOf [.ref b0_, .int (nI t_)] [(b0_, .inr (9, [.int th_, .long tr_, .ref bn_, .ref bt_, .ref bs_, .ref bk_, .ref bp_, .ref bi_, .ref bl_, .int it_, .int ub_, .int db_, .ref bx_, .int tp_, .int nx_, .int tk_, .int pl_, .int vl_, .int fa_, .ref bc_, .ref bf_])), (bc_, .inl (cy 0, 729, .inl cf_))] (some (.int (spN cf_ t_))) [(b0_, .inr (9, [.int th_, .long tr_, .ref bn_, .ref bt_, .ref bs_, .ref bk_, .ref bp_, .ref bi_, .ref bl_, .int it_, .int ub_, .int db_, .ref bx_, .int tp_, .int nx_, .int tk_, .int pl_, .int vl_, .int fa_, .ref bc_, .ref bf_])), (bc_, .inl (cy 0, 729, .inl cf_))] := by
  refine CT.of cX9_spreadOf 8 (some .int) (by decide) rfl (Nat.le_of_ble_eq_true rfl) ?_
  intro p e s m args below meth c A Q ls F hmn hK hE hA hP hD hS hl RT
  obtain ⟨hx, hb, hml, hown, hts⟩ := id F
  have winX9 : ∀ w ∈ u_ws RX9 TX9 21, w ∈ wsX9_spreadOf := by decide +kernel
  have wf42 := hts (.fieldLink RX9 42 "SelfSteerModel" "counts" "[I") (by decide +kernel)
  have hl : lv_has ls 8 [(0, .ref b0_), (1, .int (nI t_))] := hl
  have hP : va_P D vwCl [(b0_, .inr (9, [.int th_, .long tr_, .ref bn_, .ref bt_, .ref bs_, .ref bk_, .ref bp_, .ref bi_, .ref bl_, .int it_, .int ub_, .int db_, .ref bx_, .int tp_, .int nx_, .int tk_, .int pl_, .int vl_, .int fa_, .ref bc_, .ref bf_])), (bc_, .inl (cy 0, 729, .inl cf_))] s.heap := hP
  have hD : va_D A [(b0_, .inr (9, [.int th_, .long tr_, .ref bn_, .ref bt_, .ref bs_, .ref bk_, .ref bp_, .ref bi_, .ref bl_, .int it_, .int ub_, .int db_, .ref bx_, .int tp_, .int nx_, .int tk_, .int pl_, .int vl_, .int fa_, .ref bc_, .ref bf_])), (bc_, .inl (cy 0, 729, .inl cf_))] := hD
  obtain ⟨H, hH⟩ : ∃ H0 : Heap, H0 = s.heap := ⟨_, rfl⟩
  obtain ⟨locs, hlo⟩ : ∃ L0 : List Loc, L0 = [] := ⟨_, rfl⟩
  have hS : va_S A s.heap H locs := by rw [hH, hlo]; exact hS
  rw [← hH] at hP
  show W p l e rmkX9_spreadOf s m args below meth c s.heap [] 0 0 Q (F0 m 0 ls [])
  suffices hgo : W p l e rmkX9_spreadOf s m args below meth c H locs 0 0 Q (F0 m 0 ls []) by rw [hH, hlo] at hgo; exact hgo
  clear hH hlo
  refine lv_bipush (v := 99) hx hb dX9_spreadOf_0 (by decide) ?_
  refine lv_istore_n (lv' := [(2, .int 99), (0, .ref b0_), (1, .int (nI t_))]) hx hb dX9_spreadOf_2 rfl hl (by decide) rfl (fun ls hl => ?_)
  refine lv_iconst (v := 0) hx hb dX9_spreadOf_3 (by decide) ?_
  refine lv_istore_n (lv' := [(3, .int 0), (2, .int 99), (0, .ref b0_), (1, .int (nI t_))]) hx hb dX9_spreadOf_4 rfl hl (by decide) rfl (fun ls hl => ?_)
  refine lv_iconst (v := 0) hx hb dX9_spreadOf_5 (by decide) ?_
  refine lv_istore (lv' := [(4, .int 0), (3, .int 0), (2, .int 99), (0, .ref b0_), (1, .int (nI t_))]) hx hb dX9_spreadOf_6 hl (by decide) rfl (fun ls hl => ?_)
  have L_8 : ∀ (n : Nat) (q_ : Nat), (q_ ≤ 729) → 729 - q_ < n → ∀ (H : Heap) (locs : List Loc), va_P D vwCl [(b0_, .inr (9, [.int th_, .long tr_, .ref bn_, .ref bt_, .ref bs_, .ref bk_, .ref bp_, .ref bi_, .ref bl_, .int it_, .int ub_, .int db_, .ref bx_, .int tp_, .int nx_, .int tk_, .int pl_, .int vl_, .int fa_, .ref bc_, .ref bf_])), (bc_, .inl (cy 0, 729, .inl cf_))] H → va_D A [(b0_, .inr (9, [.int th_, .long tr_, .ref bn_, .ref bt_, .ref bs_, .ref bk_, .ref bp_, .ref bi_, .ref bl_, .int it_, .int ub_, .int db_, .ref bx_, .int tp_, .int nx_, .int tk_, .int pl_, .int vl_, .int fa_, .ref bc_, .ref bf_])), (bc_, .inl (cy 0, 729, .inl cf_))] → va_S A s.heap H locs → ∀ (ls : Array Slot), lv_has ls 8 [(4, .int (nI q_)), (3, .int (msA cf_ t_ q_)), (2, .int (lsA cf_ t_ q_)), (0, .ref b0_), (1, .int (nI t_))] → W p l e rmkX9_spreadOf s m args below meth c H locs 0 0 Q (F0 m 8 ls []) := by
    intro n
    induction n with
    | zero => intro q_ hq hn; exact absurd hn (Nat.not_lt_zero _)
    | succ n ih_8 =>
      intro q_ hq hn_8 H locs hP hD hS ls hl
      refine lv_iload hx hb dX9_spreadOf_8 (lv_at hl 0 rfl) ?_
      refine lv_sipush (v := 729) hx hb dX9_spreadOf_10 (by decide) ?_
      refine cn_ge (tgt := 152) hx hb q_ 729 rfl rfl (by omega) (by omega) dX9_spreadOf_13 (by decide) (fun c_13 => ?_) (fun c_13 => ?_)
      · refine lv_iload_n hx hb dX9_spreadOf_152 rfl (lv_at hl 1 rfl) ?_
        refine lv_iload_n hx hb dX9_spreadOf_153 rfl (lv_at hl 2 rfl) ?_
        refine lv_isub hx hb dX9_spreadOf_154 ?_
        refine lv_eqi (y := spN cf_ t_) (by rw [show q_ = 729 by omega]; rfl) ?_
        exact RT _ _ () H locs 155 ls (rt_i dX9_spreadOf_155) rfl hP hD hS
      · refine lv_iload hx hb dX9_spreadOf_16 (lv_at hl 0 rfl) ?_
        refine lv_istore (lv' := [(5, .int (nI q_)), (4, .int (nI q_)), (3, .int (msA cf_ t_ q_)), (2, .int (lsA cf_ t_ q_)), (0, .ref b0_), (1, .int (nI t_))]) hx hb dX9_spreadOf_18 hl (by decide) rfl (fun ls hl => ?_)
        refine lv_aload_n hx hb dX9_spreadOf_20 rfl (lv_at hl 4 rfl) ?_
        refine va_get (D := D) (ci := 9) (v := .ref bc_) (C := RX9) (T := TX9) (N := 21) hx hb hts winX9 hown hK hP 0 rfl rfl 19 (by decide) wf42 (fun _ h9 => h9) rfl dX9_spreadOf_21 ?_
        refine lv_iload hx hb dX9_spreadOf_24 (lv_at hl 1 rfl) ?_
        refine al_i hx hb hK hP 1 rfl q_ (rfl) (by omega) (by decide) dX9_spreadOf_26 ?_
        refine lv_bipush (v := (-9)) hx hb dX9_spreadOf_27 (by decide) ?_
        have J_29_37 : ∀ (H : Heap) (locs : List Loc), va_P D vwCl [(b0_, .inr (9, [.int th_, .long tr_, .ref bn_, .ref bt_, .ref bs_, .ref bk_, .ref bp_, .ref bi_, .ref bl_, .int it_, .int ub_, .int db_, .ref bx_, .int tp_, .int nx_, .int tk_, .int pl_, .int vl_, .int fa_, .ref bc_, .ref bf_])), (bc_, .inl (cy 0, 729, .inl cf_))] H → va_D A [(b0_, .inr (9, [.int th_, .long tr_, .ref bn_, .ref bt_, .ref bs_, .ref bk_, .ref bp_, .ref bi_, .ref bl_, .int it_, .int ub_, .int db_, .ref bx_, .int tp_, .int nx_, .int tk_, .int pl_, .int vl_, .int fa_, .ref bc_, .ref bf_])), (bc_, .inl (cy 0, 729, .inl cf_))] → va_S A s.heap H locs → ∀ (ls : Array Slot), lv_has ls 8 [(5, .int (nI q_)), (4, .int (nI q_)), (3, .int (msA cf_ t_ q_)), (2, .int (lsA cf_ t_ q_)), (0, .ref b0_), (1, .int (nI t_))] → W p l e rmkX9_spreadOf s m args below meth c H locs 0 0 Q (F0 m 37 ls [.int (bI (¬ ((cf_ q_) = (-9))))]) := by
          intro H locs hP hD hS ls hl
          refine lv_istore (lv' := [(6, .int (bI (¬ ((cf_ q_) = (-9))))), (5, .int (nI q_)), (4, .int (nI q_)), (3, .int (msA cf_ t_ q_)), (2, .int (lsA cf_ t_ q_)), (0, .ref b0_), (1, .int (nI t_))]) hx hb dX9_spreadOf_37 hl (by decide) rfl (fun ls hl => ?_)
          refine lv_iconst (v := 0) hx hb dX9_spreadOf_39 (by decide) ?_
          refine lv_istore (lv' := [(7, .int 0), (6, .int (bI (¬ ((cf_ q_) = (-9))))), (5, .int (nI q_)), (4, .int (nI q_)), (3, .int (msA cf_ t_ q_)), (2, .int (lsA cf_ t_ q_)), (0, .ref b0_), (1, .int (nI t_))]) hx hb dX9_spreadOf_40 hl (by decide) rfl (fun ls hl => ?_)
          have L_42 : ∀ (n : Nat) (k_ : Nat), (k_ ≤ 6) → 6 - k_ < n → ∀ (H : Heap) (locs : List Loc), va_P D vwCl [(b0_, .inr (9, [.int th_, .long tr_, .ref bn_, .ref bt_, .ref bs_, .ref bk_, .ref bp_, .ref bi_, .ref bl_, .int it_, .int ub_, .int db_, .ref bx_, .int tp_, .int nx_, .int tk_, .int pl_, .int vl_, .int fa_, .ref bc_, .ref bf_])), (bc_, .inl (cy 0, 729, .inl cf_))] H → va_D A [(b0_, .inr (9, [.int th_, .long tr_, .ref bn_, .ref bt_, .ref bs_, .ref bk_, .ref bp_, .ref bi_, .ref bl_, .int it_, .int ub_, .int db_, .ref bx_, .int tp_, .int nx_, .int tk_, .int pl_, .int vl_, .int fa_, .ref bc_, .ref bf_])), (bc_, .inl (cy 0, 729, .inl cf_))] → va_S A s.heap H locs → ∀ (ls : Array Slot), lv_has ls 8 [(7, .int (nI k_)), (6, .int (bI (isB cf_ t_ q_ k_ = true))), (5, .int (nI (q_ / 3 ^ k_))), (4, .int (nI q_)), (3, .int (msA cf_ t_ q_)), (2, .int (lsA cf_ t_ q_)), (0, .ref b0_), (1, .int (nI t_))] → W p l e rmkX9_spreadOf s m args below meth c H locs 0 0 Q (F0 m 42 ls []) := by
            intro n
            induction n with
            | zero => intro k_ hk hn; exact absurd hn (Nat.not_lt_zero _)
            | succ n ih_42 =>
              intro k_ hk hn_42 H locs hP hD hS ls hl
              refine lv_iload hx hb dX9_spreadOf_42 (lv_at hl 0 rfl) ?_
              refine lv_bipush (v := 6) hx hb dX9_spreadOf_44 (by decide) ?_
              refine cn_ge (tgt := 90) hx hb k_ 6 rfl rfl (by omega) (by omega) dX9_spreadOf_46 (by decide) (fun c_46 => ?_) (fun c_46 => ?_)
              · obtain rfl : 6 = k_ := by omega
                refine lv_iload hx hb dX9_spreadOf_90 (lv_at hl 1 rfl) ?_
                have J_92_53 : ∀ (z92 : Int32), z92 = (if isB cf_ t_ q_ 6 = true then (if (lsA cf_ t_ q_) ≤ (cf_ q_) then (lsA cf_ t_ q_) else (cf_ q_)) else (lsA cf_ t_ q_)) → ∀ (H : Heap) (locs : List Loc), va_P D vwCl [(b0_, .inr (9, [.int th_, .long tr_, .ref bn_, .ref bt_, .ref bs_, .ref bk_, .ref bp_, .ref bi_, .ref bl_, .int it_, .int ub_, .int db_, .ref bx_, .int tp_, .int nx_, .int tk_, .int pl_, .int vl_, .int fa_, .ref bc_, .ref bf_])), (bc_, .inl (cy 0, 729, .inl cf_))] H → va_D A [(b0_, .inr (9, [.int th_, .long tr_, .ref bn_, .ref bt_, .ref bs_, .ref bk_, .ref bp_, .ref bi_, .ref bl_, .int it_, .int ub_, .int db_, .ref bx_, .int tp_, .int nx_, .int tk_, .int pl_, .int vl_, .int fa_, .ref bc_, .ref bf_])), (bc_, .inl (cy 0, 729, .inl cf_))] → va_S A s.heap H locs → ∀ (ls : Array Slot), lv_has ls 8 [(7, .int (nI 6)), (6, .int (bI (isB cf_ t_ q_ 6 = true))), (5, .int (nI (q_ / 3 ^ 6))), (4, .int (nI q_)), (3, .int (msA cf_ t_ q_)), (2, .int (lsA cf_ t_ q_)), (0, .ref b0_), (1, .int (nI t_))] → W p l e rmkX9_spreadOf s m args below meth c H locs 0 0 Q (F0 m 117 ls [.int z92]) := by
                  intro z92 ez92 H locs hP hD hS ls hl
                  refine lv_eqi (y := lsA cf_ t_ (q_ + 1)) (by rw [ez92]; rfl) ?_
                  refine lv_istore_n (lv' := [(2, .int (lsA cf_ t_ (q_ + 1))), (7, .int (nI 6)), (6, .int (bI (isB cf_ t_ q_ 6 = true))), (5, .int (nI (q_ / 3 ^ 6))), (4, .int (nI q_)), (3, .int (msA cf_ t_ q_)), (0, .ref b0_), (1, .int (nI t_))]) hx hb dX9_spreadOf_117 rfl hl (by decide) rfl (fun ls hl => ?_)
                  refine lv_iload hx hb dX9_spreadOf_118 (lv_at hl 2 rfl) ?_
                  have J_120_58 : ∀ (z120 : Int32), z120 = (if isB cf_ t_ q_ 6 = true then (if (cf_ q_) ≤ (msA cf_ t_ q_) then (msA cf_ t_ q_) else (cf_ q_)) else (msA cf_ t_ q_)) → ∀ (H : Heap) (locs : List Loc), va_P D vwCl [(b0_, .inr (9, [.int th_, .long tr_, .ref bn_, .ref bt_, .ref bs_, .ref bk_, .ref bp_, .ref bi_, .ref bl_, .int it_, .int ub_, .int db_, .ref bx_, .int tp_, .int nx_, .int tk_, .int pl_, .int vl_, .int fa_, .ref bc_, .ref bf_])), (bc_, .inl (cy 0, 729, .inl cf_))] H → va_D A [(b0_, .inr (9, [.int th_, .long tr_, .ref bn_, .ref bt_, .ref bs_, .ref bk_, .ref bp_, .ref bi_, .ref bl_, .int it_, .int ub_, .int db_, .ref bx_, .int tp_, .int nx_, .int tk_, .int pl_, .int vl_, .int fa_, .ref bc_, .ref bf_])), (bc_, .inl (cy 0, 729, .inl cf_))] → va_S A s.heap H locs → ∀ (ls : Array Slot), lv_has ls 8 [(2, .int (lsA cf_ t_ (q_ + 1))), (7, .int (nI 6)), (6, .int (bI (isB cf_ t_ q_ 6 = true))), (5, .int (nI (q_ / 3 ^ 6))), (4, .int (nI q_)), (3, .int (msA cf_ t_ q_)), (0, .ref b0_), (1, .int (nI t_))] → W p l e rmkX9_spreadOf s m args below meth c H locs 0 0 Q (F0 m 145 ls [.int z120]) := by
                    intro z120 ez120 H locs hP hD hS ls hl
                    refine lv_eqi (y := msA cf_ t_ (q_ + 1)) (by rw [ez120]; rfl) ?_
                    refine lv_istore_n (lv' := [(3, .int (msA cf_ t_ (q_ + 1))), (2, .int (lsA cf_ t_ (q_ + 1))), (7, .int (nI 6)), (6, .int (bI (isB cf_ t_ q_ 6 = true))), (5, .int (nI (q_ / 3 ^ 6))), (4, .int (nI q_)), (0, .ref b0_), (1, .int (nI t_))]) hx hb dX9_spreadOf_145 rfl hl (by decide) rfl (fun ls hl => ?_)
                    refine lv_iinc (v := nI (q_ + 1)) (lv' := [(4, .int (nI (q_ + 1))), (3, .int (msA cf_ t_ (q_ + 1))), (2, .int (lsA cf_ t_ (q_ + 1))), (7, .int (nI 6)), (6, .int (bI (isB cf_ t_ q_ 6 = true))), (5, .int (nI (q_ / 3 ^ 6))), (0, .ref b0_), (1, .int (nI t_))]) hx hb dX9_spreadOf_146 hl (k := 5) rfl (nI_add q_ 1) (by decide) rfl (fun ls hl => ?_)
                    refine lv_goto (tgt := 8) hx hb dX9_spreadOf_149 (by decide) ?_
                    exact ih_8 (q_ + 1) (by first | assumption | omega | decide) (by omega) H locs hP hD hS ls (lv_sub hl [0, 1, 2, 6, 7] rfl)
                  refine bz_eq (tgt := 144) hx hb dX9_spreadOf_120 (by decide) (fun c_120 => ?_) (fun c_120 => ?_)
                  · refine lv_iload_n hx hb dX9_spreadOf_144 rfl (lv_at hl 5 rfl) ?_
                    exact J_120_58 _ ((if_neg c_120).symm) H locs hP hD hS ls (lv_sub hl [0, 1, 2, 3, 4, 5, 6, 7] rfl)
                  · refine lv_aload_n hx hb dX9_spreadOf_123 rfl (lv_at hl 6 rfl) ?_
                    refine va_get (D := D) (ci := 9) (v := .ref bc_) (C := RX9) (T := TX9) (N := 21) hx hb hts winX9 hown hK hP 0 rfl rfl 19 (by decide) wf42 (fun _ h9 => h9) rfl dX9_spreadOf_124 ?_
                    refine lv_iload hx hb dX9_spreadOf_127 (lv_at hl 4 rfl) ?_
                    refine al_i hx hb hK hP 1 rfl q_ (rfl) (by omega) (by decide) dX9_spreadOf_129 ?_
                    refine lv_iload_n hx hb dX9_spreadOf_130 rfl (lv_at hl 5 rfl) ?_
                    refine lv_icmp_le (tgt := 144) hx hb dX9_spreadOf_131 (by decide) (fun c_131 => ?_) (fun c_131 => ?_)
                    · refine lv_iload_n hx hb dX9_spreadOf_144 rfl (lv_at hl 5 rfl) ?_
                      exact J_120_58 _ (((if_pos c_120).trans (if_pos c_131)).symm) H locs hP hD hS ls (lv_sub hl [0, 1, 2, 3, 4, 5, 6, 7] rfl)
                    · refine lv_aload_n hx hb dX9_spreadOf_134 rfl (lv_at hl 6 rfl) ?_
                      refine va_get (D := D) (ci := 9) (v := .ref bc_) (C := RX9) (T := TX9) (N := 21) hx hb hts winX9 hown hK hP 0 rfl rfl 19 (by decide) wf42 (fun _ h9 => h9) rfl dX9_spreadOf_135 ?_
                      refine lv_iload hx hb dX9_spreadOf_138 (lv_at hl 4 rfl) ?_
                      refine al_i hx hb hK hP 1 rfl q_ (rfl) (by omega) (by decide) dX9_spreadOf_140 ?_
                      refine lv_goto (tgt := 145) hx hb dX9_spreadOf_141 (by decide) ?_
                      exact J_120_58 _ (((if_pos c_120).trans (if_neg c_131)).symm) H locs hP hD hS ls (lv_sub hl [0, 1, 2, 3, 4, 5, 6, 7] rfl)
                refine bz_eq (tgt := 116) hx hb dX9_spreadOf_92 (by decide) (fun c_92 => ?_) (fun c_92 => ?_)
                · refine lv_iload_n hx hb dX9_spreadOf_116 rfl (lv_at hl 5 rfl) ?_
                  exact J_92_53 _ ((if_neg c_92).symm) H locs hP hD hS ls (lv_sub hl [0, 1, 2, 3, 4, 5, 6, 7] rfl)
                · refine lv_aload_n hx hb dX9_spreadOf_95 rfl (lv_at hl 6 rfl) ?_
                  refine va_get (D := D) (ci := 9) (v := .ref bc_) (C := RX9) (T := TX9) (N := 21) hx hb hts winX9 hown hK hP 0 rfl rfl 19 (by decide) wf42 (fun _ h9 => h9) rfl dX9_spreadOf_96 ?_
                  refine lv_iload hx hb dX9_spreadOf_99 (lv_at hl 3 rfl) ?_
                  refine al_i hx hb hK hP 1 rfl q_ (rfl) (by omega) (by decide) dX9_spreadOf_101 ?_
                  refine lv_iload_n hx hb dX9_spreadOf_102 rfl (lv_at hl 5 rfl) ?_
                  refine lv_icmp_ge (tgt := 116) hx hb dX9_spreadOf_103 (by decide) (fun c_103 => ?_) (fun c_103 => ?_)
                  · refine lv_iload_n hx hb dX9_spreadOf_116 rfl (lv_at hl 5 rfl) ?_
                    exact J_92_53 _ (((if_pos c_92).trans (if_pos c_103)).symm) H locs hP hD hS ls (lv_sub hl [0, 1, 2, 3, 4, 5, 6, 7] rfl)
                  · refine lv_aload_n hx hb dX9_spreadOf_106 rfl (lv_at hl 6 rfl) ?_
                    refine va_get (D := D) (ci := 9) (v := .ref bc_) (C := RX9) (T := TX9) (N := 21) hx hb hts winX9 hown hK hP 0 rfl rfl 19 (by decide) wf42 (fun _ h9 => h9) rfl dX9_spreadOf_107 ?_
                    refine lv_iload hx hb dX9_spreadOf_110 (lv_at hl 3 rfl) ?_
                    refine al_i hx hb hK hP 1 rfl q_ (rfl) (by omega) (by decide) dX9_spreadOf_112 ?_
                    refine lv_goto (tgt := 117) hx hb dX9_spreadOf_113 (by decide) ?_
                    exact J_92_53 _ (((if_pos c_92).trans (if_neg c_103)).symm) H locs hP hD hS ls (lv_sub hl [0, 1, 2, 3, 4, 5, 6, 7] rfl)
              · refine lv_iload hx hb dX9_spreadOf_49 (lv_at hl 1 rfl) ?_
                have J_51_100 : ∀ (H : Heap) (locs : List Loc), va_P D vwCl [(b0_, .inr (9, [.int th_, .long tr_, .ref bn_, .ref bt_, .ref bs_, .ref bk_, .ref bp_, .ref bi_, .ref bl_, .int it_, .int ub_, .int db_, .ref bx_, .int tp_, .int nx_, .int tk_, .int pl_, .int vl_, .int fa_, .ref bc_, .ref bf_])), (bc_, .inl (cy 0, 729, .inl cf_))] H → va_D A [(b0_, .inr (9, [.int th_, .long tr_, .ref bn_, .ref bt_, .ref bs_, .ref bk_, .ref bp_, .ref bi_, .ref bl_, .int it_, .int ub_, .int db_, .ref bx_, .int tp_, .int nx_, .int tk_, .int pl_, .int vl_, .int fa_, .ref bc_, .ref bf_])), (bc_, .inl (cy 0, 729, .inl cf_))] → va_S A s.heap H locs → ∀ (ls : Array Slot), lv_has ls 8 [(7, .int (nI k_)), (6, .int (bI (isB cf_ t_ q_ k_ = true))), (5, .int (nI (q_ / 3 ^ k_))), (4, .int (nI q_)), (3, .int (msA cf_ t_ q_)), (2, .int (lsA cf_ t_ q_)), (0, .ref b0_), (1, .int (nI t_))] → W p l e rmkX9_spreadOf s m args below meth c H locs 0 0 Q (F0 m 76 ls [.int (bI ((isB cf_ t_ q_ k_ = true) ∧ (((t_ / 2 ^ k_ % 2) = 0) ∨ ((q_ / 3 ^ k_ % 3) = 1))))]) := by
                  intro H locs hP hD hS ls hl
                  refine lv_eqi (y := bI (isB cf_ t_ q_ (k_ + 1) = true)) (bI_congr (isB_s _ _ _ _)) ?_
                  refine lv_istore (lv' := [(6, .int (bI (isB cf_ t_ q_ (k_ + 1) = true))), (7, .int (nI k_)), (5, .int (nI (q_ / 3 ^ k_))), (4, .int (nI q_)), (3, .int (msA cf_ t_ q_)), (2, .int (lsA cf_ t_ q_)), (0, .ref b0_), (1, .int (nI t_))]) hx hb dX9_spreadOf_76 hl (by decide) rfl (fun ls hl => ?_)
                  refine lv_iload hx hb dX9_spreadOf_78 (lv_at hl 2 rfl) ?_
                  refine lv_iconst (v := 3) hx hb dX9_spreadOf_80 (by decide) ?_
                  refine lv_idiv hx hb dX9_spreadOf_81 (by decide) ?_
                  refine lv_eqi (y := nI (q_ / 3 ^ (k_ + 1))) (div3_n (by omega)) ?_
                  refine lv_istore (lv' := [(5, .int (nI (q_ / 3 ^ (k_ + 1)))), (6, .int (bI (isB cf_ t_ q_ (k_ + 1) = true))), (7, .int (nI k_)), (4, .int (nI q_)), (3, .int (msA cf_ t_ q_)), (2, .int (lsA cf_ t_ q_)), (0, .ref b0_), (1, .int (nI t_))]) hx hb dX9_spreadOf_82 hl (by decide) rfl (fun ls hl => ?_)
                  refine lv_iinc (v := nI (k_ + 1)) (lv' := [(7, .int (nI (k_ + 1))), (5, .int (nI (q_ / 3 ^ (k_ + 1)))), (6, .int (bI (isB cf_ t_ q_ (k_ + 1) = true))), (4, .int (nI q_)), (3, .int (msA cf_ t_ q_)), (2, .int (lsA cf_ t_ q_)), (0, .ref b0_), (1, .int (nI t_))]) hx hb dX9_spreadOf_84 hl (k := 2) rfl (nI_add k_ 1) (by decide) rfl (fun ls hl => ?_)
                  refine lv_goto (tgt := 42) hx hb dX9_spreadOf_87 (by decide) ?_
                  exact ih_42 (k_ + 1) (by first | assumption | omega | decide) (by omega) H locs hP hD hS ls (lv_sub hl [0, 2, 1, 3, 4, 5, 6, 7] rfl)
                refine bz_eq (tgt := 75) hx hb dX9_spreadOf_51 (by decide) (fun c_51 => ?_) (fun c_51 => ?_)
                · refine lv_iconst (v := 0) hx hb dX9_spreadOf_75 (by decide) ?_
                  refine lv_eqi (y := bI ((isB cf_ t_ q_ k_ = true) ∧ (((t_ / 2 ^ k_ % 2) = 0) ∨ ((q_ / 3 ^ k_ % 3) = 1)))) (bI_congr (pd_f c_51)) ?_
                  exact J_51_100 H locs hP hD hS ls (lv_sub hl [0, 1, 2, 3, 4, 5, 6, 7] rfl)
                · refine lv_iload_n hx hb dX9_spreadOf_54 rfl (lv_at hl 7 rfl) ?_
                  refine lv_iload hx hb dX9_spreadOf_55 (lv_at hl 0 rfl) ?_
                  refine lv_ishr hx hb dX9_spreadOf_57 ?_
                  refine lv_eqi (y := nI (t_ / 2 ^ k_)) (shr_n (by omega) (by omega)) ?_
                  refine lv_iconst (v := 1) hx hb dX9_spreadOf_58 (by decide) ?_
                  refine lv_iand hx hb dX9_spreadOf_59 ?_
                  refine lv_eqi (y := nI (t_ / 2 ^ k_ % 2)) (and1_n (Nat.lt_of_le_of_lt (Nat.div_le_self _ _) (by omega))) ?_
                  refine cz_eq (tgt := 71) hx hb (t_ / 2 ^ k_ % 2) rfl (by omega) dX9_spreadOf_60 (by decide) (fun c_60 => ?_) (fun c_60 => ?_)
                  · refine lv_iconst (v := 1) hx hb dX9_spreadOf_71 (by decide) ?_
                    refine lv_goto (tgt := 76) hx hb dX9_spreadOf_72 (by decide) ?_
                    refine lv_eqi (y := bI ((isB cf_ t_ q_ k_ = true) ∧ (((t_ / 2 ^ k_ % 2) = 0) ∨ ((q_ / 3 ^ k_ % 3) = 1)))) (bI_congr (pd_t c_51 (po_t c_60))) ?_
                    exact J_51_100 H locs hP hD hS ls (lv_sub hl [0, 1, 2, 3, 4, 5, 6, 7] rfl)
                  · refine lv_iload hx hb dX9_spreadOf_63 (lv_at hl 2 rfl) ?_
                    refine lv_iconst (v := 3) hx hb dX9_spreadOf_65 (by decide) ?_
                    refine lv_irem hx hb dX9_spreadOf_66 (by decide) ?_
                    refine lv_eqi (y := nI (q_ / 3 ^ k_ % 3)) (rem3_n (by omega)) ?_
                    refine lv_iconst (v := 1) hx hb dX9_spreadOf_67 (by decide) ?_
                    refine cn_ne (tgt := 75) hx hb (q_ / 3 ^ k_ % 3) 1 rfl rfl (by omega) (by omega) dX9_spreadOf_68 (by decide) (fun c_68 => ?_) (fun c_68 => ?_)
                    · refine lv_iconst (v := 0) hx hb dX9_spreadOf_75 (by decide) ?_
                      refine lv_eqi (y := bI ((isB cf_ t_ q_ k_ = true) ∧ (((t_ / 2 ^ k_ % 2) = 0) ∨ ((q_ / 3 ^ k_ % 3) = 1)))) (bI_congr (pd_t c_51 (po_f c_60 (pa_f c_68)))) ?_
                      exact J_51_100 H locs hP hD hS ls (lv_sub hl [0, 1, 2, 3, 4, 5, 6, 7] rfl)
                    · refine lv_iconst (v := 1) hx hb dX9_spreadOf_71 (by decide) ?_
                      refine lv_goto (tgt := 76) hx hb dX9_spreadOf_72 (by decide) ?_
                      refine lv_eqi (y := bI ((isB cf_ t_ q_ k_ = true) ∧ (((t_ / 2 ^ k_ % 2) = 0) ∨ ((q_ / 3 ^ k_ % 3) = 1)))) (bI_congr (pd_t c_51 (po_f c_60 (pa_t c_68)))) ?_
                      exact J_51_100 H locs hP hD hS ls (lv_sub hl [0, 1, 2, 3, 4, 5, 6, 7] rfl)
          rw [show ((6, .int (bI (¬ ((cf_ q_) = (-9))))) : Nat × Value) = (6, .int (bI (isB cf_ t_ q_ 0 = true))) from congrArg (fun y9 => ((6, Value.int y9) : Nat × Value)) (show bI (¬ ((cf_ q_) = (-9))) = bI (isB cf_ t_ q_ 0 = true) from bI_congr (isB_0 _ _ _))] at hl
          rw [show ((5, .int (nI q_)) : Nat × Value) = (5, .int (nI (q_ / 3 ^ 0))) from congrArg (fun y9 => ((5, Value.int y9) : Nat × Value)) (show nI q_ = nI (q_ / 3 ^ 0) from by rw [Nat.pow_zero, Nat.div_one])] at hl
          exact L_42 _ 0 (by first | assumption | omega | decide) (Nat.lt_succ_self _) H locs hP hD hS ls (lv_sub hl [0, 1, 2, 3, 4, 5, 6, 7] rfl)
        refine lv_icmp_eq (tgt := 36) hx hb dX9_spreadOf_29 (by decide) (fun c_29 => ?_) (fun c_29 => ?_)
        · refine lv_iconst (v := 0) hx hb dX9_spreadOf_36 (by decide) ?_
          refine lv_eqi (y := bI (¬ ((cf_ q_) = (-9)))) (bI_congr (pn_t c_29)) ?_
          exact J_29_37 H locs hP hD hS ls (lv_sub hl [0, 1, 2, 3, 4, 5] rfl)
        · refine lv_iconst (v := 1) hx hb dX9_spreadOf_32 (by decide) ?_
          refine lv_goto (tgt := 37) hx hb dX9_spreadOf_33 (by decide) ?_
          refine lv_eqi (y := bI (¬ ((cf_ q_) = (-9)))) (bI_congr (pn_f c_29)) ?_
          exact J_29_37 H locs hP hD hS ls (lv_sub hl [0, 1, 2, 3, 4, 5] rfl)
  exact L_8 _ 0 (by first | assumption | omega | decide) (Nat.lt_succ_self _) H locs hP hD hS ls (lv_sub hl [0, 1, 2, 3, 4] rfl)
abbrev rmkX9_ones : Room := { frames := 0, cells := 0, slots := 0, locals := 0 }
set_option maxHeartbeats 4000000 in
set_option maxRecDepth 100000 in
theorem kX9_ones {l : Launch} {D : va_G} {cy : Nat → ClassId} {sa : Nat → Nat} (x_ : Int32)  : CD l D cy sa yX9_ones wsX9_ones rmkX9_ones [.int x_] [] (some (.int (onA x_ 6))) [] := by
  refine CT.of cX9_ones 3 (some .int) (by decide) rfl (Nat.le_of_ble_eq_true rfl) ?_
  intro p e s m args below meth c A Q ls F hmn hK hE hA hP hD hS hl RT
  obtain ⟨hx, hb, hml, hown, hts⟩ := id F
  have hl : lv_has ls 3 [(0, .int x_)] := hl
  have hP : va_P D vwCl [] s.heap := hP
  have hD : va_D A [] := hD
  obtain ⟨H, hH⟩ : ∃ H0 : Heap, H0 = s.heap := ⟨_, rfl⟩
  obtain ⟨locs, hlo⟩ : ∃ L0 : List Loc, L0 = [] := ⟨_, rfl⟩
  have hS : va_S A s.heap H locs := by rw [hH, hlo]; exact hS
  rw [← hH] at hP
  show W p l e rmkX9_ones s m args below meth c s.heap [] 0 0 Q (F0 m 0 ls [])
  suffices hgo : W p l e rmkX9_ones s m args below meth c H locs 0 0 Q (F0 m 0 ls []) by rw [hH, hlo] at hgo; exact hgo
  clear hH hlo
  refine lv_iconst (v := 0) hx hb dX9_ones_0 (by decide) ?_
  refine lv_istore_n (lv' := [(1, .int 0), (0, .int x_)]) hx hb dX9_ones_1 rfl hl (by decide) rfl (fun ls hl => ?_)
  refine lv_iconst (v := 0) hx hb dX9_ones_2 (by decide) ?_
  refine lv_istore_n (lv' := [(2, .int 0), (1, .int 0), (0, .int x_)]) hx hb dX9_ones_3 rfl hl (by decide) rfl (fun ls hl => ?_)
  have L_4 : ∀ (n : Nat) (k_ : Nat), (k_ ≤ 6) → 6 - k_ < n → ∀ (H : Heap) (locs : List Loc), va_P D vwCl [] H → va_D A [] → va_S A s.heap H locs → ∀ (ls : Array Slot), lv_has ls 3 [(2, .int (nI k_)), (1, .int (onA x_ k_)), (0, .int x_)] → W p l e rmkX9_ones s m args below meth c H locs 0 0 Q (F0 m 4 ls []) := by
    intro n
    induction n with
    | zero => intro k_ hk hn; exact absurd hn (Nat.not_lt_zero _)
    | succ n ih_4 =>
      intro k_ hk hn_4 H locs hP hD hS ls hl
      refine lv_iload_n hx hb dX9_ones_4 rfl (lv_at hl 0 rfl) ?_
      refine lv_bipush (v := 6) hx hb dX9_ones_5 (by decide) ?_
      refine cn_ge (tgt := 24) hx hb k_ 6 rfl rfl (by omega) (by omega) dX9_ones_7 (by decide) (fun c_7 => ?_) (fun c_7 => ?_)
      · refine lv_iload_n hx hb dX9_ones_24 rfl (lv_at hl 1 rfl) ?_
        refine lv_eqi (y := onA x_ 6) (by rw [show k_ = 6 by omega]) ?_
        exact RT _ _ () H locs 25 ls (rt_i dX9_ones_25) rfl hP hD hS
      · refine lv_iload_n hx hb dX9_ones_10 rfl (lv_at hl 1 rfl) ?_
        refine lv_iload_n hx hb dX9_ones_11 rfl (lv_at hl 2 rfl) ?_
        refine lv_iload_n hx hb dX9_ones_12 rfl (lv_at hl 0 rfl) ?_
        refine lv_ishr hx hb dX9_ones_13 ?_
        refine lv_iconst (v := 1) hx hb dX9_ones_14 (by decide) ?_
        refine lv_iand hx hb dX9_ones_15 ?_
        refine lv_iadd hx hb dX9_ones_16 ?_
        refine lv_eqi (y := onA x_ (k_ + 1)) (rfl) ?_
        refine lv_istore_n (lv' := [(1, .int (onA x_ (k_ + 1))), (2, .int (nI k_)), (0, .int x_)]) hx hb dX9_ones_17 rfl hl (by decide) rfl (fun ls hl => ?_)
        refine lv_iinc (v := nI (k_ + 1)) (lv' := [(2, .int (nI (k_ + 1))), (1, .int (onA x_ (k_ + 1))), (0, .int x_)]) hx hb dX9_ones_18 hl (k := 1) rfl (nI_add k_ 1) (by decide) rfl (fun ls hl => ?_)
        refine lv_goto (tgt := 4) hx hb dX9_ones_21 (by decide) ?_
        exact ih_4 (k_ + 1) (by first | assumption | omega | decide) (by omega) H locs hP hD hS ls (lv_sub hl [0, 1, 2] rfl)
  exact L_4 _ 0 (by first | assumption | omega | decide) (Nat.lt_succ_self _) H locs hP hD hS ls (lv_sub hl [0, 1, 2] rfl)
abbrev rmkX9_spread : Room := { frames := 4, cells := 0, slots := 0, locals := 110 }
set_option maxHeartbeats 4000000 in
set_option maxRecDepth 100000 in
theorem kX9_spread {l : Launch} {D : va_G} {cy : Nat → ClassId} {sa : Nat → Nat} (b0_ : Nat) (th_ : Int32) (tr_ : Int64) (bn_ : Nat) (bt_ : Nat) (bs_ : Nat) (bk_ : Nat) (bp_ : Nat) (bi_ : Nat) (bl_ : Nat) (it_ : Int32) (ub_ : Int32) (db_ : Int32) (bx_ : Nat) (tp_ : Int32) (nx_ : Int32) (tk_ : Int32) (pl_ : Int32) (vl_ : Int32) (fa_ : Int32) (bc_ : Nat) (bf_ : Nat) (nb_ : Nat → Nat → Int32) (ft_ : Nat → Int32) (cf_ : Nat → Int32) (i_ : Int32) (u_ : Int32)  : CT (S := (Nat → Int32) × (Nat → Int32)) l D cy sa yX9_spread wsX9_spread rmkX9_spread [.ref b0_, .int i_, .int u_] [(b0_, .inr (9, [.int th_, .long tr_, .ref bn_, .ref bt_, .ref bs_, .ref bk_, .ref bp_, .ref bi_, .ref bl_, .int it_, .int ub_, .int db_, .ref bx_, .int tp_, .int nx_, .int tk_, .int pl_, .int vl_, .int fa_, .ref bc_, .ref bf_])), (bn_, .inl (cy 0, 24, .inl (nbF nb_))), (bt_, .inl (cy 0, 6, .inl ft_)), (bc_, .inl (cy 0, 729, .inl cf_))] (fun v9 u9 => match u9 with | (ft2, cf2) => v9 = some (.int (r_spread nb_ i_ u_))) (fun u9 => match u9 with | (ft2, cf2) => [(b0_, .inr (9, [.int 0, .long tr_, .ref bn_, .ref bt_, .ref bs_, .ref bk_, .ref bp_, .ref bi_, .ref bl_, .int it_, .int ub_, .int db_, .ref bx_, .int tp_, .int nx_, .int tk_, .int pl_, .int vl_, .int fa_, .ref bc_, .ref bf_])), (bn_, .inl (cy 0, 24, .inl (nbF nb_))), (bt_, .inl (cy 0, 6, .inl ft2)), (bc_, .inl (cy 0, 729, .inl cf2))]) 0 0 := by
  refine CT.of cX9_spread 3 (some .int) (by decide) rfl (Nat.le_of_ble_eq_true rfl) ?_
  intro p e s m args below meth c A Q ls F hmn hK hE hA hP hD hS hl RT
  obtain ⟨hx, hb, hml, hown, hts⟩ := id F
  have winX9 : ∀ w ∈ u_ws RX9 TX9 21, w ∈ wsX9_spread := by decide +kernel
  have wf48 := hts (.fieldLink RX9 48 "SelfSteerModel" "thrown" "I") (by decide +kernel)
  have hl : lv_has ls 3 [(0, .ref b0_), (1, .int i_), (2, .int u_)] := hl
  have hP : va_P D vwCl [(b0_, .inr (9, [.int th_, .long tr_, .ref bn_, .ref bt_, .ref bs_, .ref bk_, .ref bp_, .ref bi_, .ref bl_, .int it_, .int ub_, .int db_, .ref bx_, .int tp_, .int nx_, .int tk_, .int pl_, .int vl_, .int fa_, .ref bc_, .ref bf_])), (bn_, .inl (cy 0, 24, .inl (nbF nb_))), (bt_, .inl (cy 0, 6, .inl ft_)), (bc_, .inl (cy 0, 729, .inl cf_))] s.heap := hP
  have hD : va_D A [(b0_, .inr (9, [.int th_, .long tr_, .ref bn_, .ref bt_, .ref bs_, .ref bk_, .ref bp_, .ref bi_, .ref bl_, .int it_, .int ub_, .int db_, .ref bx_, .int tp_, .int nx_, .int tk_, .int pl_, .int vl_, .int fa_, .ref bc_, .ref bf_])), (bn_, .inl (cy 0, 24, .inl (nbF nb_))), (bt_, .inl (cy 0, 6, .inl ft_)), (bc_, .inl (cy 0, 729, .inl cf_))] := hD
  obtain ⟨H, hH⟩ : ∃ H0 : Heap, H0 = s.heap := ⟨_, rfl⟩
  obtain ⟨locs, hlo⟩ : ∃ L0 : List Loc, L0 = [] := ⟨_, rfl⟩
  have hS : va_S A s.heap H locs := by rw [hH, hlo]; exact hS
  rw [← hH] at hP
  show W p l e rmkX9_spread s m args below meth c s.heap [] 0 0 Q (F0 m 0 ls [])
  suffices hgo : W p l e rmkX9_spread s m args below meth c H locs 0 0 Q (F0 m 0 ls []) by rw [hH, hlo] at hgo; exact hgo
  clear hH hlo
  refine lv_aload_n hx hb dX9_spread_0 rfl (lv_at hl 0 rfl) ?_
  refine lv_iconst (v := 0) hx hb dX9_spread_1 (by decide) ?_
  refine va_put (D := D) (ci := 9) (v := .int 0) (ty := .int) (C := RX9) (T := TX9) (N := 21) hx hb hts winX9 tyX9 tyX9_ok nmX9 hown hK hP hD hS 0 rfl rfl 0 (by decide) wf48 (fun _ h9 => h9) rfl (by decide +kernel) rfl rfl (Nat.le_of_ble_eq_true rfl) dX9_spread_2 (fun H locs hP hD hS => ?_)
  have hP : va_P D vwCl [(b0_, .inr (9, [.int 0, .long tr_, .ref bn_, .ref bt_, .ref bs_, .ref bk_, .ref bp_, .ref bi_, .ref bl_, .int it_, .int ub_, .int db_, .ref bx_, .int tp_, .int nx_, .int tk_, .int pl_, .int vl_, .int fa_, .ref bc_, .ref bf_])), (bn_, .inl (cy 0, 24, .inl (nbF nb_))), (bt_, .inl (cy 0, 6, .inl ft_)), (bc_, .inl (cy 0, 729, .inl cf_))] H := hP
  have hD : va_D A [(b0_, .inr (9, [.int 0, .long tr_, .ref bn_, .ref bt_, .ref bs_, .ref bk_, .ref bp_, .ref bi_, .ref bl_, .int it_, .int ub_, .int db_, .ref bx_, .int tp_, .int nx_, .int tk_, .int pl_, .int vl_, .int fa_, .ref bc_, .ref bf_])), (bn_, .inl (cy 0, 24, .inl (nbF nb_))), (bt_, .inl (cy 0, 6, .inl ft_)), (bc_, .inl (cy 0, 729, .inl cf_))] := hD
  refine lv_iload_n hx hb dX9_spread_5 rfl (lv_at hl 1 rfl) ?_
  refine ca_S (n := 1) (rest := []) (wr := [(b0_, .inr (9, [.int 0, .long tr_, .ref bn_, .ref bt_, .ref bs_, .ref bk_, .ref bp_, .ref bi_, .ref bl_, .int it_, .int ub_, .int db_, .ref bx_, .int tp_, .int nx_, .int tk_, .int pl_, .int vl_, .int fa_, .ref bc_, .ref bf_])), (bn_, .inl (cy 0, 24, .inl (nbF nb_))), (bt_, .inl (cy 0, 6, .inl ft_)), (bc_, .inl (cy 0, 729, .inl cf_))]) F hK hE hA hP hD hS hl.1 (kX9_isBicycle (l := l) (D := D) (cy := cy) (sa := sa) i_) gX9_spread_X9_isBicycle rfl rfl rfl (by decide +kernel) ⟨by decide, by decide⟩ [] [0, 1, 2, 3] rfl rfl rfl rfl (by decide) rfl rfl (Nat.le_of_ble_eq_true rfl) dX9_spread_6 ⟨by decide, by decide⟩ (fun v9 u9 H locs hv hP hD hS => ?_)
  subst hv
  have hP : va_P D vwCl [(b0_, .inr (9, [.int 0, .long tr_, .ref bn_, .ref bt_, .ref bs_, .ref bk_, .ref bp_, .ref bi_, .ref bl_, .int it_, .int ub_, .int db_, .ref bx_, .int tp_, .int nx_, .int tk_, .int pl_, .int vl_, .int fa_, .ref bc_, .ref bf_])), (bn_, .inl (cy 0, 24, .inl (nbF nb_))), (bt_, .inl (cy 0, 6, .inl ft_)), (bc_, .inl (cy 0, 729, .inl cf_))] H := hP
  have hD : va_D A [(b0_, .inr (9, [.int 0, .long tr_, .ref bn_, .ref bt_, .ref bs_, .ref bk_, .ref bp_, .ref bi_, .ref bl_, .int it_, .int ub_, .int db_, .ref bx_, .int tp_, .int nx_, .int tk_, .int pl_, .int vl_, .int fa_, .ref bc_, .ref bf_])), (bn_, .inl (cy 0, 24, .inl (nbF nb_))), (bt_, .inl (cy 0, 6, .inl ft_)), (bc_, .inl (cy 0, 729, .inl cf_))] := hD
  refine W.eq (g2 := F0 m 9 ls [.int (bI (inR i_ 0 3))]) rfl ?_
  refine bz_eq (tgt := 22) hx hb dX9_spread_9 (by decide) (fun c_9 => ?_) (fun c_9 => ?_)
  · refine lv_iconst (v := (-1)) hx hb dX9_spread_22 (by decide) ?_
    have hno : ¬ okSpr i_ u_ := by first | exact fun z => c_9 z.1 | exact fun z => c_19 z.2
    refine lv_eqi (y := r_spread nb_ i_ u_) ((if_neg hno).symm) ?_
    exact RT _ _ (ft_, cf_) H locs 23 ls (rt_i dX9_spread_23) rfl hP hD hS
  · obtain ⟨i1_, hi1, rfl⟩ := inR_n 3 (by decide) rfl c_9
    refine lv_iload_n hx hb dX9_spread_12 rfl (lv_at hl 2 rfl) ?_
    refine lv_iconst (v := 0) hx hb dX9_spread_13 (by decide) ?_
    refine lv_bipush (v := 63) hx hb dX9_spread_14 (by decide) ?_
    refine ca_S (n := 3) (rest := []) (wr := [(b0_, .inr (9, [.int 0, .long tr_, .ref bn_, .ref bt_, .ref bs_, .ref bk_, .ref bp_, .ref bi_, .ref bl_, .int it_, .int ub_, .int db_, .ref bx_, .int tp_, .int nx_, .int tk_, .int pl_, .int vl_, .int fa_, .ref bc_, .ref bf_])), (bn_, .inl (cy 0, 24, .inl (nbF nb_))), (bt_, .inl (cy 0, 6, .inl ft_)), (bc_, .inl (cy 0, 729, .inl cf_))]) F hK hE hA hP hD hS hl.1 (kX9_in (l := l) (D := D) (cy := cy) (sa := sa) u_ 0 63) gX9_spread_X9_in rfl rfl rfl (by decide +kernel) ⟨by decide, by decide⟩ [] [0, 1, 2, 3] rfl rfl rfl rfl (by decide) rfl rfl (Nat.le_of_ble_eq_true rfl) dX9_spread_16 ⟨by decide, by decide⟩ (fun v9 u9 H locs hv hP hD hS => ?_)
    subst hv
    have hP : va_P D vwCl [(b0_, .inr (9, [.int 0, .long tr_, .ref bn_, .ref bt_, .ref bs_, .ref bk_, .ref bp_, .ref bi_, .ref bl_, .int it_, .int ub_, .int db_, .ref bx_, .int tp_, .int nx_, .int tk_, .int pl_, .int vl_, .int fa_, .ref bc_, .ref bf_])), (bn_, .inl (cy 0, 24, .inl (nbF nb_))), (bt_, .inl (cy 0, 6, .inl ft_)), (bc_, .inl (cy 0, 729, .inl cf_))] H := hP
    have hD : va_D A [(b0_, .inr (9, [.int 0, .long tr_, .ref bn_, .ref bt_, .ref bs_, .ref bk_, .ref bp_, .ref bi_, .ref bl_, .int it_, .int ub_, .int db_, .ref bx_, .int tp_, .int nx_, .int tk_, .int pl_, .int vl_, .int fa_, .ref bc_, .ref bf_])), (bn_, .inl (cy 0, 24, .inl (nbF nb_))), (bt_, .inl (cy 0, 6, .inl ft_)), (bc_, .inl (cy 0, 729, .inl cf_))] := hD
    refine W.eq (g2 := F0 m 19 ls [.int (bI (inR u_ 0 63))]) rfl ?_
    refine bz_ne (tgt := 24) hx hb dX9_spread_19 (by decide) (fun c_19 => ?_) (fun c_19 => ?_)
    · obtain ⟨u1_, hu1, rfl⟩ := inR_n 63 (by decide) rfl c_19
      refine lv_aload_n hx hb dX9_spread_24 rfl (lv_at hl 0 rfl) ?_
      refine lv_iload_n hx hb dX9_spread_25 rfl (lv_at hl 1 rfl) ?_
      refine ca_V (q0 := 0) (n := 1) (rest := []) (wr := []) F hK hE hA hP hD hS hl.1 (kX9_tries (l := l) (D := D) (cy := cy) (sa := sa) b0_ 0 tr_ bn_ bt_ bs_ bk_ bp_ bi_ bl_ it_ ub_ db_ bx_ tp_ nx_ tk_ pl_ vl_ fa_ bc_ bf_ nb_ ft_ cf_ i1_ (by first | assumption | omega | decide)) gX9_spread_X9_tries rfl rfl rfl rfl rfl rfl (by decide +kernel) ⟨by decide, by decide⟩ [0, 1, 2, 3] [] rfl rfl rfl rfl (by decide) rfl rfl (Nat.le_of_ble_eq_true rfl) dX9_spread_26 ⟨by decide, by decide⟩ (fun v9 u9 H locs hv hP hD hS => ?_)
      obtain ⟨u_1, hu9⟩ : ∃ z, z = u9 := ⟨_, rfl⟩
      subst hu9
      skip
      subst hv
      obtain ⟨hP, hD⟩ := re_ws (ws' := [(b0_, .inr (9, [.int 0, .long tr_, .ref bn_, .ref bt_, .ref bs_, .ref bk_, .ref bp_, .ref bi_, .ref bl_, .int it_, .int ub_, .int db_, .ref bx_, .int tp_, .int nx_, .int tk_, .int pl_, .int vl_, .int fa_, .ref bc_, .ref bf_])), (bn_, .inl (cy 0, 24, .inl (nbF nb_))), (bt_, .inl (cy 0, 6, .inl u_1)), (bc_, .inl (cy 0, 729, .inl (csV (nb_ i1_))))]) hP hD [0, 1, 2, 3] rfl rfl
      refine W.eq (g2 := F0 m 29 ls []) rfl ?_
      refine lv_aload_n hx hb dX9_spread_29 rfl (lv_at hl 0 rfl) ?_
      refine lv_iload_n hx hb dX9_spread_30 rfl (lv_at hl 2 rfl) ?_
      refine ca_V (q0 := 0) (n := 1) (rest := []) (wr := [(bn_, .inl (cy 0, 24, .inl (nbF nb_))), (bt_, .inl (cy 0, 6, .inl u_1))]) F hK hE hA hP hD hS hl.1 (kX9_spreadOf (l := l) (D := D) (cy := cy) (sa := sa) b0_ 0 tr_ bn_ bt_ bs_ bk_ bp_ bi_ bl_ it_ ub_ db_ bx_ tp_ nx_ tk_ pl_ vl_ fa_ bc_ bf_ (csV (nb_ i1_)) u1_ (by first | assumption | omega | decide)) gX9_spread_X9_spreadOf rfl rfl rfl rfl rfl rfl (by decide +kernel) ⟨by decide, by decide⟩ [0, 3] [1, 2] rfl rfl rfl rfl (by decide) rfl rfl (Nat.le_of_ble_eq_true rfl) dX9_spread_31 ⟨by decide, by decide⟩ (fun v9 u9 H locs hv hP hD hS => ?_)
      subst hv
      obtain ⟨hP, hD⟩ := re_ws (ws' := [(b0_, .inr (9, [.int 0, .long tr_, .ref bn_, .ref bt_, .ref bs_, .ref bk_, .ref bp_, .ref bi_, .ref bl_, .int it_, .int ub_, .int db_, .ref bx_, .int tp_, .int nx_, .int tk_, .int pl_, .int vl_, .int fa_, .ref bc_, .ref bf_])), (bn_, .inl (cy 0, 24, .inl (nbF nb_))), (bt_, .inl (cy 0, 6, .inl u_1)), (bc_, .inl (cy 0, 729, .inl (csV (nb_ i1_))))]) hP hD [2, 0, 1, 3] rfl rfl
      refine W.eq (g2 := F0 m 34 ls [.int (spN (csV (nb_ i1_)) u1_)]) rfl ?_
      refine lv_eqi (y := r_spread nb_ (nI i1_) (nI u1_)) (by rw [r_spread, if_pos ⟨c_9, c_19⟩, cl_n (by omega), cl_n (by omega)]) ?_
      exact RT _ _ (u_1, (csV (nb_ i1_))) H locs 34 ls (rt_i dX9_spread_34) rfl hP hD hS
    · refine lv_iconst (v := (-1)) hx hb dX9_spread_22 (by decide) ?_
      have hno : ¬ okSpr (nI i1_) u_ := by first | exact fun z => c_9 z.1 | exact fun z => c_19 z.2
      refine lv_eqi (y := r_spread nb_ (nI i1_) u_) ((if_neg hno).symm) ?_
      exact RT _ _ (ft_, cf_) H locs 23 ls (rt_i dX9_spread_23) rfl hP hD hS
abbrev rmkX9_fewest : Room := { frames := 4, cells := 0, slots := 0, locals := 110 }
set_option maxHeartbeats 4000000 in
set_option maxRecDepth 100000 in
theorem kX9_fewest {l : Launch} {D : va_G} {cy : Nat → ClassId} {sa : Nat → Nat} (b0_ : Nat) (th_ : Int32) (tr_ : Int64) (bn_ : Nat) (bt_ : Nat) (bs_ : Nat) (bk_ : Nat) (bp_ : Nat) (bi_ : Nat) (bl_ : Nat) (it_ : Int32) (ub_ : Int32) (db_ : Int32) (bx_ : Nat) (tp_ : Int32) (nx_ : Int32) (tk_ : Int32) (pl_ : Int32) (vl_ : Int32) (fa_ : Int32) (bc_ : Nat) (bf_ : Nat) (nb_ : Nat → Nat → Int32) (ft_ : Nat → Int32) (cf_ : Nat → Int32) (i_ : Int32) (d_ : Int32) (w_ : Int32)  : CT (S := (Nat → Int32) × (Nat → Int32)) l D cy sa yX9_fewest wsX9_fewest rmkX9_fewest [.ref b0_, .int i_, .int d_, .int w_] [(b0_, .inr (9, [.int th_, .long tr_, .ref bn_, .ref bt_, .ref bs_, .ref bk_, .ref bp_, .ref bi_, .ref bl_, .int it_, .int ub_, .int db_, .ref bx_, .int tp_, .int nx_, .int tk_, .int pl_, .int vl_, .int fa_, .ref bc_, .ref bf_])), (bn_, .inl (cy 0, 24, .inl (nbF nb_))), (bt_, .inl (cy 0, 6, .inl ft_)), (bc_, .inl (cy 0, 729, .inl cf_))] (fun v9 u9 => match u9 with | (ft2, cf2) => v9 = some (.int (r_fewest nb_ i_ d_ w_))) (fun u9 => match u9 with | (ft2, cf2) => [(b0_, .inr (9, [.int 0, .long tr_, .ref bn_, .ref bt_, .ref bs_, .ref bk_, .ref bp_, .ref bi_, .ref bl_, .int it_, .int ub_, .int db_, .ref bx_, .int tp_, .int nx_, .int tk_, .int pl_, .int vl_, .int fa_, .ref bc_, .ref bf_])), (bn_, .inl (cy 0, 24, .inl (nbF nb_))), (bt_, .inl (cy 0, 6, .inl ft2)), (bc_, .inl (cy 0, 729, .inl cf2))]) 0 0 := by
  refine CT.of cX9_fewest 6 (some .int) (by decide) rfl (Nat.le_of_ble_eq_true rfl) ?_
  intro p e s m args below meth c A Q ls F hmn hK hE hA hP hD hS hl RT
  obtain ⟨hx, hb, hml, hown, hts⟩ := id F
  have winX9 : ∀ w_ ∈ u_ws RX9 TX9 21, w_ ∈ wsX9_fewest := by decide +kernel
  have wf48 := hts (.fieldLink RX9 48 "SelfSteerModel" "thrown" "I") (by decide +kernel)
  have hl : lv_has ls 6 [(0, .ref b0_), (1, .int i_), (2, .int d_), (3, .int w_)] := hl
  have hP : va_P D vwCl [(b0_, .inr (9, [.int th_, .long tr_, .ref bn_, .ref bt_, .ref bs_, .ref bk_, .ref bp_, .ref bi_, .ref bl_, .int it_, .int ub_, .int db_, .ref bx_, .int tp_, .int nx_, .int tk_, .int pl_, .int vl_, .int fa_, .ref bc_, .ref bf_])), (bn_, .inl (cy 0, 24, .inl (nbF nb_))), (bt_, .inl (cy 0, 6, .inl ft_)), (bc_, .inl (cy 0, 729, .inl cf_))] s.heap := hP
  have hD : va_D A [(b0_, .inr (9, [.int th_, .long tr_, .ref bn_, .ref bt_, .ref bs_, .ref bk_, .ref bp_, .ref bi_, .ref bl_, .int it_, .int ub_, .int db_, .ref bx_, .int tp_, .int nx_, .int tk_, .int pl_, .int vl_, .int fa_, .ref bc_, .ref bf_])), (bn_, .inl (cy 0, 24, .inl (nbF nb_))), (bt_, .inl (cy 0, 6, .inl ft_)), (bc_, .inl (cy 0, 729, .inl cf_))] := hD
  obtain ⟨H, hH⟩ : ∃ H0 : Heap, H0 = s.heap := ⟨_, rfl⟩
  obtain ⟨locs, hlo⟩ : ∃ L0 : List Loc, L0 = [] := ⟨_, rfl⟩
  have hS : va_S A s.heap H locs := by rw [hH, hlo]; exact hS
  rw [← hH] at hP
  show W p l e rmkX9_fewest s m args below meth c s.heap [] 0 0 Q (F0 m 0 ls [])
  suffices hgo : W p l e rmkX9_fewest s m args below meth c H locs 0 0 Q (F0 m 0 ls []) by rw [hH, hlo] at hgo; exact hgo
  clear hH hlo
  refine lv_aload_n hx hb dX9_fewest_0 rfl (lv_at hl 0 rfl) ?_
  refine lv_iconst (v := 0) hx hb dX9_fewest_1 (by decide) ?_
  refine va_put (D := D) (ci := 9) (v := .int 0) (ty := .int) (C := RX9) (T := TX9) (N := 21) hx hb hts winX9 tyX9 tyX9_ok nmX9 hown hK hP hD hS 0 rfl rfl 0 (by decide) wf48 (fun _ h9 => h9) rfl (by decide +kernel) rfl rfl (Nat.le_of_ble_eq_true rfl) dX9_fewest_2 (fun H locs hP hD hS => ?_)
  have hP : va_P D vwCl [(b0_, .inr (9, [.int 0, .long tr_, .ref bn_, .ref bt_, .ref bs_, .ref bk_, .ref bp_, .ref bi_, .ref bl_, .int it_, .int ub_, .int db_, .ref bx_, .int tp_, .int nx_, .int tk_, .int pl_, .int vl_, .int fa_, .ref bc_, .ref bf_])), (bn_, .inl (cy 0, 24, .inl (nbF nb_))), (bt_, .inl (cy 0, 6, .inl ft_)), (bc_, .inl (cy 0, 729, .inl cf_))] H := hP
  have hD : va_D A [(b0_, .inr (9, [.int 0, .long tr_, .ref bn_, .ref bt_, .ref bs_, .ref bk_, .ref bp_, .ref bi_, .ref bl_, .int it_, .int ub_, .int db_, .ref bx_, .int tp_, .int nx_, .int tk_, .int pl_, .int vl_, .int fa_, .ref bc_, .ref bf_])), (bn_, .inl (cy 0, 24, .inl (nbF nb_))), (bt_, .inl (cy 0, 6, .inl ft_)), (bc_, .inl (cy 0, 729, .inl cf_))] := hD
  refine lv_iload_n hx hb dX9_fewest_5 rfl (lv_at hl 1 rfl) ?_
  refine ca_S (n := 1) (rest := []) (wr := [(b0_, .inr (9, [.int 0, .long tr_, .ref bn_, .ref bt_, .ref bs_, .ref bk_, .ref bp_, .ref bi_, .ref bl_, .int it_, .int ub_, .int db_, .ref bx_, .int tp_, .int nx_, .int tk_, .int pl_, .int vl_, .int fa_, .ref bc_, .ref bf_])), (bn_, .inl (cy 0, 24, .inl (nbF nb_))), (bt_, .inl (cy 0, 6, .inl ft_)), (bc_, .inl (cy 0, 729, .inl cf_))]) F hK hE hA hP hD hS hl.1 (kX9_isBicycle (l := l) (D := D) (cy := cy) (sa := sa) i_) gX9_fewest_X9_isBicycle rfl rfl rfl (by decide +kernel) ⟨by decide, by decide⟩ [] [0, 1, 2, 3] rfl rfl rfl rfl (by decide) rfl rfl (Nat.le_of_ble_eq_true rfl) dX9_fewest_6 ⟨by decide, by decide⟩ (fun v9 u9 H locs hv hP hD hS => ?_)
  subst hv
  have hP : va_P D vwCl [(b0_, .inr (9, [.int 0, .long tr_, .ref bn_, .ref bt_, .ref bs_, .ref bk_, .ref bp_, .ref bi_, .ref bl_, .int it_, .int ub_, .int db_, .ref bx_, .int tp_, .int nx_, .int tk_, .int pl_, .int vl_, .int fa_, .ref bc_, .ref bf_])), (bn_, .inl (cy 0, 24, .inl (nbF nb_))), (bt_, .inl (cy 0, 6, .inl ft_)), (bc_, .inl (cy 0, 729, .inl cf_))] H := hP
  have hD : va_D A [(b0_, .inr (9, [.int 0, .long tr_, .ref bn_, .ref bt_, .ref bs_, .ref bk_, .ref bp_, .ref bi_, .ref bl_, .int it_, .int ub_, .int db_, .ref bx_, .int tp_, .int nx_, .int tk_, .int pl_, .int vl_, .int fa_, .ref bc_, .ref bf_])), (bn_, .inl (cy 0, 24, .inl (nbF nb_))), (bt_, .inl (cy 0, 6, .inl ft_)), (bc_, .inl (cy 0, 729, .inl cf_))] := hD
  refine W.eq (g2 := F0 m 9 ls [.int (bI (inR i_ 0 3))]) rfl ?_
  refine bz_eq (tgt := 31) hx hb dX9_fewest_9 (by decide) (fun c_9 => ?_) (fun c_9 => ?_)
  · refine lv_iconst (v := (-1)) hx hb dX9_fewest_31 (by decide) ?_
    have hno : ¬ okFew i_ d_ w_ := by first | exact fun z => c_9 z.1 | exact fun z => c_19 z.2.1 | exact fun z => c_28 z.2.2
    refine lv_eqi (y := r_fewest nb_ i_ d_ w_) ((if_neg hno).symm) ?_
    exact RT _ _ (ft_, cf_) H locs 32 ls (rt_i dX9_fewest_32) rfl hP hD hS
  · obtain ⟨i1_, hi1, rfl⟩ := inR_n 3 (by decide) rfl c_9
    refine lv_iload_n hx hb dX9_fewest_12 rfl (lv_at hl 2 rfl) ?_
    refine lv_iconst (v := 0) hx hb dX9_fewest_13 (by decide) ?_
    refine lv_bipush (v := 40) hx hb dX9_fewest_14 (by decide) ?_
    refine ca_S (n := 3) (rest := []) (wr := [(b0_, .inr (9, [.int 0, .long tr_, .ref bn_, .ref bt_, .ref bs_, .ref bk_, .ref bp_, .ref bi_, .ref bl_, .int it_, .int ub_, .int db_, .ref bx_, .int tp_, .int nx_, .int tk_, .int pl_, .int vl_, .int fa_, .ref bc_, .ref bf_])), (bn_, .inl (cy 0, 24, .inl (nbF nb_))), (bt_, .inl (cy 0, 6, .inl ft_)), (bc_, .inl (cy 0, 729, .inl cf_))]) F hK hE hA hP hD hS hl.1 (kX9_in (l := l) (D := D) (cy := cy) (sa := sa) d_ 0 40) gX9_fewest_X9_in rfl rfl rfl (by decide +kernel) ⟨by decide, by decide⟩ [] [0, 1, 2, 3] rfl rfl rfl rfl (by decide) rfl rfl (Nat.le_of_ble_eq_true rfl) dX9_fewest_16 ⟨by decide, by decide⟩ (fun v9 u9 H locs hv hP hD hS => ?_)
    subst hv
    have hP : va_P D vwCl [(b0_, .inr (9, [.int 0, .long tr_, .ref bn_, .ref bt_, .ref bs_, .ref bk_, .ref bp_, .ref bi_, .ref bl_, .int it_, .int ub_, .int db_, .ref bx_, .int tp_, .int nx_, .int tk_, .int pl_, .int vl_, .int fa_, .ref bc_, .ref bf_])), (bn_, .inl (cy 0, 24, .inl (nbF nb_))), (bt_, .inl (cy 0, 6, .inl ft_)), (bc_, .inl (cy 0, 729, .inl cf_))] H := hP
    have hD : va_D A [(b0_, .inr (9, [.int 0, .long tr_, .ref bn_, .ref bt_, .ref bs_, .ref bk_, .ref bp_, .ref bi_, .ref bl_, .int it_, .int ub_, .int db_, .ref bx_, .int tp_, .int nx_, .int tk_, .int pl_, .int vl_, .int fa_, .ref bc_, .ref bf_])), (bn_, .inl (cy 0, 24, .inl (nbF nb_))), (bt_, .inl (cy 0, 6, .inl ft_)), (bc_, .inl (cy 0, 729, .inl cf_))] := hD
    refine W.eq (g2 := F0 m 19 ls [.int (bI (inR d_ 0 40))]) rfl ?_
    refine bz_eq (tgt := 31) hx hb dX9_fewest_19 (by decide) (fun c_19 => ?_) (fun c_19 => ?_)
    · refine lv_iconst (v := (-1)) hx hb dX9_fewest_31 (by decide) ?_
      have hno : ¬ okFew (nI i1_) d_ w_ := by first | exact fun z => c_9 z.1 | exact fun z => c_19 z.2.1 | exact fun z => c_28 z.2.2
      refine lv_eqi (y := r_fewest nb_ (nI i1_) d_ w_) ((if_neg hno).symm) ?_
      exact RT _ _ (ft_, cf_) H locs 32 ls (rt_i dX9_fewest_32) rfl hP hD hS
    · refine lv_iload_n hx hb dX9_fewest_22 rfl (lv_at hl 3 rfl) ?_
      refine lv_iconst (v := 0) hx hb dX9_fewest_23 (by decide) ?_
      refine lv_iconst (v := 1) hx hb dX9_fewest_24 (by decide) ?_
      refine ca_S (n := 3) (rest := []) (wr := [(b0_, .inr (9, [.int 0, .long tr_, .ref bn_, .ref bt_, .ref bs_, .ref bk_, .ref bp_, .ref bi_, .ref bl_, .int it_, .int ub_, .int db_, .ref bx_, .int tp_, .int nx_, .int tk_, .int pl_, .int vl_, .int fa_, .ref bc_, .ref bf_])), (bn_, .inl (cy 0, 24, .inl (nbF nb_))), (bt_, .inl (cy 0, 6, .inl ft_)), (bc_, .inl (cy 0, 729, .inl cf_))]) F hK hE hA hP hD hS hl.1 (kX9_in (l := l) (D := D) (cy := cy) (sa := sa) w_ 0 1) gX9_fewest_X9_in rfl rfl rfl (by decide +kernel) ⟨by decide, by decide⟩ [] [0, 1, 2, 3] rfl rfl rfl rfl (by decide) rfl rfl (Nat.le_of_ble_eq_true rfl) dX9_fewest_25 ⟨by decide, by decide⟩ (fun v9 u9 H locs hv hP hD hS => ?_)
      subst hv
      have hP : va_P D vwCl [(b0_, .inr (9, [.int 0, .long tr_, .ref bn_, .ref bt_, .ref bs_, .ref bk_, .ref bp_, .ref bi_, .ref bl_, .int it_, .int ub_, .int db_, .ref bx_, .int tp_, .int nx_, .int tk_, .int pl_, .int vl_, .int fa_, .ref bc_, .ref bf_])), (bn_, .inl (cy 0, 24, .inl (nbF nb_))), (bt_, .inl (cy 0, 6, .inl ft_)), (bc_, .inl (cy 0, 729, .inl cf_))] H := hP
      have hD : va_D A [(b0_, .inr (9, [.int 0, .long tr_, .ref bn_, .ref bt_, .ref bs_, .ref bk_, .ref bp_, .ref bi_, .ref bl_, .int it_, .int ub_, .int db_, .ref bx_, .int tp_, .int nx_, .int tk_, .int pl_, .int vl_, .int fa_, .ref bc_, .ref bf_])), (bn_, .inl (cy 0, 24, .inl (nbF nb_))), (bt_, .inl (cy 0, 6, .inl ft_)), (bc_, .inl (cy 0, 729, .inl cf_))] := hD
      refine W.eq (g2 := F0 m 28 ls [.int (bI (inR w_ 0 1))]) rfl ?_
      refine bz_ne (tgt := 33) hx hb dX9_fewest_28 (by decide) (fun c_28 => ?_) (fun c_28 => ?_)
      · refine lv_aload_n hx hb dX9_fewest_33 rfl (lv_at hl 0 rfl) ?_
        refine lv_iload_n hx hb dX9_fewest_34 rfl (lv_at hl 1 rfl) ?_
        refine ca_V (q0 := 0) (n := 1) (rest := []) (wr := []) F hK hE hA hP hD hS hl.1 (kX9_tries (l := l) (D := D) (cy := cy) (sa := sa) b0_ 0 tr_ bn_ bt_ bs_ bk_ bp_ bi_ bl_ it_ ub_ db_ bx_ tp_ nx_ tk_ pl_ vl_ fa_ bc_ bf_ nb_ ft_ cf_ i1_ (by first | assumption | omega | decide)) gX9_fewest_X9_tries rfl rfl rfl rfl rfl rfl (by decide +kernel) ⟨by decide, by decide⟩ [0, 1, 2, 3] [] rfl rfl rfl rfl (by decide) rfl rfl (Nat.le_of_ble_eq_true rfl) dX9_fewest_35 ⟨by decide, by decide⟩ (fun v9 u9 H locs hv hP hD hS => ?_)
        obtain ⟨u_1, hu9⟩ : ∃ z, z = u9 := ⟨_, rfl⟩
        subst hu9
        skip
        subst hv
        obtain ⟨hP, hD⟩ := re_ws (ws' := [(b0_, .inr (9, [.int 0, .long tr_, .ref bn_, .ref bt_, .ref bs_, .ref bk_, .ref bp_, .ref bi_, .ref bl_, .int it_, .int ub_, .int db_, .ref bx_, .int tp_, .int nx_, .int tk_, .int pl_, .int vl_, .int fa_, .ref bc_, .ref bf_])), (bn_, .inl (cy 0, 24, .inl (nbF nb_))), (bt_, .inl (cy 0, 6, .inl u_1)), (bc_, .inl (cy 0, 729, .inl (csV (nb_ i1_))))]) hP hD [0, 1, 2, 3] rfl rfl
        refine W.eq (g2 := F0 m 38 ls []) rfl ?_
        refine lv_bipush (v := 63) hx hb dX9_fewest_38 (by decide) ?_
        refine lv_istore (lv' := [(4, .int 63), (0, .ref b0_), (1, .int (nI i1_)), (2, .int d_), (3, .int w_)]) hx hb dX9_fewest_40 hl (by decide) rfl (fun ls hl => ?_)
        refine lv_iconst (v := 0) hx hb dX9_fewest_42 (by decide) ?_
        refine lv_istore (lv' := [(5, .int 0), (4, .int 63), (0, .ref b0_), (1, .int (nI i1_)), (2, .int d_), (3, .int w_)]) hx hb dX9_fewest_43 hl (by decide) rfl (fun ls hl => ?_)
        have L_45 : ∀ (n : Nat) (t_ : Nat), (t_ ≤ 63) → 63 - t_ < n → ∀ (H : Heap) (locs : List Loc), va_P D vwCl [(b0_, .inr (9, [.int 0, .long tr_, .ref bn_, .ref bt_, .ref bs_, .ref bk_, .ref bp_, .ref bi_, .ref bl_, .int it_, .int ub_, .int db_, .ref bx_, .int tp_, .int nx_, .int tk_, .int pl_, .int vl_, .int fa_, .ref bc_, .ref bf_])), (bn_, .inl (cy 0, 24, .inl (nbF nb_))), (bt_, .inl (cy 0, 6, .inl u_1)), (bc_, .inl (cy 0, 729, .inl (csV (nb_ i1_))))] H → va_D A [(b0_, .inr (9, [.int 0, .long tr_, .ref bn_, .ref bt_, .ref bs_, .ref bk_, .ref bp_, .ref bi_, .ref bl_, .int it_, .int ub_, .int db_, .ref bx_, .int tp_, .int nx_, .int tk_, .int pl_, .int vl_, .int fa_, .ref bc_, .ref bf_])), (bn_, .inl (cy 0, 24, .inl (nbF nb_))), (bt_, .inl (cy 0, 6, .inl u_1)), (bc_, .inl (cy 0, 729, .inl (csV (nb_ i1_))))] → va_S A s.heap H locs → ∀ (ls : Array Slot), lv_has ls 6 [(5, .int (nI t_)), (4, .int (nI (fwA (csV (nb_ i1_)) d_ t_))), (0, .ref b0_), (1, .int (nI i1_)), (2, .int d_), (3, .int w_)] → W p l e rmkX9_fewest s m args below meth c H locs 0 0 Q (F0 m 45 ls []) := by
          intro n
          induction n with
          | zero => intro t_ ht hn; exact absurd hn (Nat.not_lt_zero _)
          | succ n ih_45 =>
            intro t_ ht hn_45 H locs hP hD hS ls hl
            refine lv_iload hx hb dX9_fewest_45 (lv_at hl 0 rfl) ?_
            refine lv_bipush (v := 63) hx hb dX9_fewest_47 (by decide) ?_
            refine cn_ge (tgt := 90) hx hb t_ 63 rfl rfl (by omega) (by omega) dX9_fewest_49 (by decide) (fun c_49 => ?_) (fun c_49 => ?_)
            · obtain rfl : 63 = t_ := by omega
              refine lv_iload_n hx hb dX9_fewest_90 rfl (lv_at hl 5 rfl) ?_
              refine lv_if_ne (tgt := 102) hx hb dX9_fewest_91 (by decide) (fun c_91 => ?_) (fun c_91 => ?_)
              · refine lv_iload hx hb dX9_fewest_102 (lv_at hl 1 rfl) ?_
                refine lv_eqi (y := r_fewest nb_ (nI i1_) d_ w_) (by rw [r_fewest, if_pos ⟨c_9, c_19, c_28⟩, cl_n (by omega)]; first | (rw [if_pos c_91]; done) | (rw [if_neg c_91]; done)) ?_
                exact RT _ _ (u_1, csV (nb_ i1_)) H locs 104 ls (rt_i dX9_fewest_104) rfl hP hD hS
              · refine lv_iload hx hb dX9_fewest_94 (lv_at hl 1 rfl) ?_
                refine ca_S (n := 1) (rest := []) (wr := [(b0_, .inr (9, [.int 0, .long tr_, .ref bn_, .ref bt_, .ref bs_, .ref bk_, .ref bp_, .ref bi_, .ref bl_, .int it_, .int ub_, .int db_, .ref bx_, .int tp_, .int nx_, .int tk_, .int pl_, .int vl_, .int fa_, .ref bc_, .ref bf_])), (bn_, .inl (cy 0, 24, .inl (nbF nb_))), (bt_, .inl (cy 0, 6, .inl u_1)), (bc_, .inl (cy 0, 729, .inl (csV (nb_ i1_))))]) F hK hE hA hP hD hS hl.1 (kX9_ones (l := l) (D := D) (cy := cy) (sa := sa) (nI (fwA (csV (nb_ i1_)) d_ 63))) gX9_fewest_X9_ones rfl rfl rfl (by decide +kernel) ⟨by decide, by decide⟩ [] [0, 1, 2, 3] rfl rfl rfl rfl (by decide) rfl rfl (Nat.le_of_ble_eq_true rfl) dX9_fewest_96 ⟨by decide, by decide⟩ (fun v9 u9 H locs hv hP hD hS => ?_)
                subst hv
                have hP : va_P D vwCl [(b0_, .inr (9, [.int 0, .long tr_, .ref bn_, .ref bt_, .ref bs_, .ref bk_, .ref bp_, .ref bi_, .ref bl_, .int it_, .int ub_, .int db_, .ref bx_, .int tp_, .int nx_, .int tk_, .int pl_, .int vl_, .int fa_, .ref bc_, .ref bf_])), (bn_, .inl (cy 0, 24, .inl (nbF nb_))), (bt_, .inl (cy 0, 6, .inl u_1)), (bc_, .inl (cy 0, 729, .inl (csV (nb_ i1_))))] H := hP
                have hD : va_D A [(b0_, .inr (9, [.int 0, .long tr_, .ref bn_, .ref bt_, .ref bs_, .ref bk_, .ref bp_, .ref bi_, .ref bl_, .int it_, .int ub_, .int db_, .ref bx_, .int tp_, .int nx_, .int tk_, .int pl_, .int vl_, .int fa_, .ref bc_, .ref bf_])), (bn_, .inl (cy 0, 24, .inl (nbF nb_))), (bt_, .inl (cy 0, 6, .inl u_1)), (bc_, .inl (cy 0, 729, .inl (csV (nb_ i1_))))] := hD
                refine W.eq (g2 := F0 m 99 ls [.int (onA (nI (fwA (csV (nb_ i1_)) d_ 63)) 6)]) rfl ?_
                refine lv_goto (tgt := 104) hx hb dX9_fewest_99 (by decide) ?_
                refine lv_eqi (y := r_fewest nb_ (nI i1_) d_ w_) (by rw [r_fewest, if_pos ⟨c_9, c_19, c_28⟩, cl_n (by omega)]; first | (rw [if_pos c_91]; done) | (rw [if_neg c_91]; done)) ?_
                exact RT _ _ (u_1, csV (nb_ i1_)) H locs 104 ls (rt_i dX9_fewest_104) rfl hP hD hS
            · refine lv_iload hx hb dX9_fewest_52 (lv_at hl 0 rfl) ?_
              refine ca_S (n := 1) (rest := []) (wr := [(b0_, .inr (9, [.int 0, .long tr_, .ref bn_, .ref bt_, .ref bs_, .ref bk_, .ref bp_, .ref bi_, .ref bl_, .int it_, .int ub_, .int db_, .ref bx_, .int tp_, .int nx_, .int tk_, .int pl_, .int vl_, .int fa_, .ref bc_, .ref bf_])), (bn_, .inl (cy 0, 24, .inl (nbF nb_))), (bt_, .inl (cy 0, 6, .inl u_1)), (bc_, .inl (cy 0, 729, .inl (csV (nb_ i1_))))]) F hK hE hA hP hD hS hl.1 (kX9_ones (l := l) (D := D) (cy := cy) (sa := sa) (nI t_)) gX9_fewest_X9_ones rfl rfl rfl (by decide +kernel) ⟨by decide, by decide⟩ [] [0, 1, 2, 3] rfl rfl rfl rfl (by decide) rfl rfl (Nat.le_of_ble_eq_true rfl) dX9_fewest_54 ⟨by decide, by decide⟩ (fun v9 u9 H locs hv hP hD hS => ?_)
              subst hv
              have hP : va_P D vwCl [(b0_, .inr (9, [.int 0, .long tr_, .ref bn_, .ref bt_, .ref bs_, .ref bk_, .ref bp_, .ref bi_, .ref bl_, .int it_, .int ub_, .int db_, .ref bx_, .int tp_, .int nx_, .int tk_, .int pl_, .int vl_, .int fa_, .ref bc_, .ref bf_])), (bn_, .inl (cy 0, 24, .inl (nbF nb_))), (bt_, .inl (cy 0, 6, .inl u_1)), (bc_, .inl (cy 0, 729, .inl (csV (nb_ i1_))))] H := hP
              have hD : va_D A [(b0_, .inr (9, [.int 0, .long tr_, .ref bn_, .ref bt_, .ref bs_, .ref bk_, .ref bp_, .ref bi_, .ref bl_, .int it_, .int ub_, .int db_, .ref bx_, .int tp_, .int nx_, .int tk_, .int pl_, .int vl_, .int fa_, .ref bc_, .ref bf_])), (bn_, .inl (cy 0, 24, .inl (nbF nb_))), (bt_, .inl (cy 0, 6, .inl u_1)), (bc_, .inl (cy 0, 729, .inl (csV (nb_ i1_))))] := hD
              refine W.eq (g2 := F0 m 57 ls [.int (onA (nI t_) 6)]) rfl ?_
              refine lv_iload hx hb dX9_fewest_57 (lv_at hl 1 rfl) ?_
              refine ca_S (n := 1) (rest := [.int (onA (nI t_) 6)]) (wr := [(b0_, .inr (9, [.int 0, .long tr_, .ref bn_, .ref bt_, .ref bs_, .ref bk_, .ref bp_, .ref bi_, .ref bl_, .int it_, .int ub_, .int db_, .ref bx_, .int tp_, .int nx_, .int tk_, .int pl_, .int vl_, .int fa_, .ref bc_, .ref bf_])), (bn_, .inl (cy 0, 24, .inl (nbF nb_))), (bt_, .inl (cy 0, 6, .inl u_1)), (bc_, .inl (cy 0, 729, .inl (csV (nb_ i1_))))]) F hK hE hA hP hD hS hl.1 (kX9_ones (l := l) (D := D) (cy := cy) (sa := sa) (nI (fwA (csV (nb_ i1_)) d_ t_))) gX9_fewest_X9_ones rfl rfl rfl (by decide +kernel) ⟨by decide, by decide⟩ [] [0, 1, 2, 3] rfl rfl rfl rfl (by decide) rfl rfl (Nat.le_of_ble_eq_true rfl) dX9_fewest_59 ⟨by decide, by decide⟩ (fun v9 u9 H locs hv hP hD hS => ?_)
              subst hv
              have hP : va_P D vwCl [(b0_, .inr (9, [.int 0, .long tr_, .ref bn_, .ref bt_, .ref bs_, .ref bk_, .ref bp_, .ref bi_, .ref bl_, .int it_, .int ub_, .int db_, .ref bx_, .int tp_, .int nx_, .int tk_, .int pl_, .int vl_, .int fa_, .ref bc_, .ref bf_])), (bn_, .inl (cy 0, 24, .inl (nbF nb_))), (bt_, .inl (cy 0, 6, .inl u_1)), (bc_, .inl (cy 0, 729, .inl (csV (nb_ i1_))))] H := hP
              have hD : va_D A [(b0_, .inr (9, [.int 0, .long tr_, .ref bn_, .ref bt_, .ref bs_, .ref bk_, .ref bp_, .ref bi_, .ref bl_, .int it_, .int ub_, .int db_, .ref bx_, .int tp_, .int nx_, .int tk_, .int pl_, .int vl_, .int fa_, .ref bc_, .ref bf_])), (bn_, .inl (cy 0, 24, .inl (nbF nb_))), (bt_, .inl (cy 0, 6, .inl u_1)), (bc_, .inl (cy 0, 729, .inl (csV (nb_ i1_))))] := hD
              refine W.eq (g2 := F0 m 62 ls [.int (onA (nI (fwA (csV (nb_ i1_)) d_ t_)) 6), .int (onA (nI t_) 6)]) rfl ?_
              have J_62_98 : ∀ (z62 : Int32), z62 = (if (onA (nI (fwA (csV (nb_ i1_)) d_ t_)) 6) ≤ (onA (nI t_) 6) then (nI (fwA (csV (nb_ i1_)) d_ t_)) else (if d_ < (spN (csV (nb_ i1_)) t_) then (nI (fwA (csV (nb_ i1_)) d_ t_)) else (nI t_))) → ∀ (H : Heap) (locs : List Loc), va_P D vwCl [(b0_, .inr (9, [.int 0, .long tr_, .ref bn_, .ref bt_, .ref bs_, .ref bk_, .ref bp_, .ref bi_, .ref bl_, .int it_, .int ub_, .int db_, .ref bx_, .int tp_, .int nx_, .int tk_, .int pl_, .int vl_, .int fa_, .ref bc_, .ref bf_])), (bn_, .inl (cy 0, 24, .inl (nbF nb_))), (bt_, .inl (cy 0, 6, .inl u_1)), (bc_, .inl (cy 0, 729, .inl (csV (nb_ i1_))))] H → va_D A [(b0_, .inr (9, [.int 0, .long tr_, .ref bn_, .ref bt_, .ref bs_, .ref bk_, .ref bp_, .ref bi_, .ref bl_, .int it_, .int ub_, .int db_, .ref bx_, .int tp_, .int nx_, .int tk_, .int pl_, .int vl_, .int fa_, .ref bc_, .ref bf_])), (bn_, .inl (cy 0, 24, .inl (nbF nb_))), (bt_, .inl (cy 0, 6, .inl u_1)), (bc_, .inl (cy 0, 729, .inl (csV (nb_ i1_))))] → va_S A s.heap H locs → ∀ (ls : Array Slot), lv_has ls 6 [(5, .int (nI t_)), (4, .int (nI (fwA (csV (nb_ i1_)) d_ t_))), (0, .ref b0_), (1, .int (nI i1_)), (2, .int d_), (3, .int w_)] → W p l e rmkX9_fewest s m args below meth c H locs 0 0 Q (F0 m 82 ls [.int z62]) := by
                intro z62 ez62 H locs hP hD hS ls hl
                refine lv_eqi (y := nI (fwA (csV (nb_ i1_)) d_ (t_ + 1))) (by rw [ez62, fwA, apply_ite nI, apply_ite nI]) ?_
                refine lv_istore (lv' := [(4, .int (nI (fwA (csV (nb_ i1_)) d_ (t_ + 1)))), (5, .int (nI t_)), (0, .ref b0_), (1, .int (nI i1_)), (2, .int d_), (3, .int w_)]) hx hb dX9_fewest_82 hl (by decide) rfl (fun ls hl => ?_)
                refine lv_iinc (v := nI (t_ + 1)) (lv' := [(5, .int (nI (t_ + 1))), (4, .int (nI (fwA (csV (nb_ i1_)) d_ (t_ + 1)))), (0, .ref b0_), (1, .int (nI i1_)), (2, .int d_), (3, .int w_)]) hx hb dX9_fewest_84 hl (k := 1) rfl (nI_add t_ 1) (by decide) rfl (fun ls hl => ?_)
                refine lv_goto (tgt := 45) hx hb dX9_fewest_87 (by decide) ?_
                exact ih_45 (t_ + 1) (by first | assumption | omega | decide) (by omega) H locs hP hD hS ls (lv_sub hl [0, 1, 2, 3, 4, 5] rfl)
              refine lv_icmp_ge (tgt := 80) hx hb dX9_fewest_62 (by decide) (fun c_62 => ?_) (fun c_62 => ?_)
              · refine lv_iload hx hb dX9_fewest_80 (lv_at hl 1 rfl) ?_
                exact J_62_98 _ ((if_pos c_62).symm) H locs hP hD hS ls (lv_sub hl [0, 1, 2, 3, 4, 5] rfl)
              · refine lv_aload_n hx hb dX9_fewest_65 rfl (lv_at hl 2 rfl) ?_
                refine lv_iload hx hb dX9_fewest_66 (lv_at hl 0 rfl) ?_
                refine ca_V (q0 := 0) (n := 1) (rest := []) (wr := [(bn_, .inl (cy 0, 24, .inl (nbF nb_))), (bt_, .inl (cy 0, 6, .inl u_1))]) F hK hE hA hP hD hS hl.1 (kX9_spreadOf (l := l) (D := D) (cy := cy) (sa := sa) b0_ 0 tr_ bn_ bt_ bs_ bk_ bp_ bi_ bl_ it_ ub_ db_ bx_ tp_ nx_ tk_ pl_ vl_ fa_ bc_ bf_ (csV (nb_ i1_)) t_ (by first | assumption | omega | decide)) gX9_fewest_X9_spreadOf rfl rfl rfl rfl rfl rfl (by decide +kernel) ⟨by decide, by decide⟩ [0, 3] [1, 2] rfl rfl rfl rfl (by decide) rfl rfl (Nat.le_of_ble_eq_true rfl) dX9_fewest_68 ⟨by decide, by decide⟩ (fun v9 u9 H locs hv hP hD hS => ?_)
                subst hv
                obtain ⟨hP, hD⟩ := re_ws (ws' := [(b0_, .inr (9, [.int 0, .long tr_, .ref bn_, .ref bt_, .ref bs_, .ref bk_, .ref bp_, .ref bi_, .ref bl_, .int it_, .int ub_, .int db_, .ref bx_, .int tp_, .int nx_, .int tk_, .int pl_, .int vl_, .int fa_, .ref bc_, .ref bf_])), (bn_, .inl (cy 0, 24, .inl (nbF nb_))), (bt_, .inl (cy 0, 6, .inl u_1)), (bc_, .inl (cy 0, 729, .inl (csV (nb_ i1_))))]) hP hD [2, 0, 1, 3] rfl rfl
                refine W.eq (g2 := F0 m 71 ls [.int (spN (csV (nb_ i1_)) t_)]) rfl ?_
                refine lv_iload_n hx hb dX9_fewest_71 rfl (lv_at hl 4 rfl) ?_
                refine lv_icmp_gt (tgt := 80) hx hb dX9_fewest_72 (by decide) (fun c_72 => ?_) (fun c_72 => ?_)
                · refine lv_iload hx hb dX9_fewest_80 (lv_at hl 1 rfl) ?_
                  exact J_62_98 _ (((if_neg c_62).trans (if_pos c_72)).symm) H locs hP hD hS ls (lv_sub hl [0, 1, 2, 3, 4, 5] rfl)
                · refine lv_iload hx hb dX9_fewest_75 (lv_at hl 0 rfl) ?_
                  refine lv_goto (tgt := 82) hx hb dX9_fewest_77 (by decide) ?_
                  exact J_62_98 _ (((if_neg c_62).trans (if_neg c_72)).symm) H locs hP hD hS ls (lv_sub hl [0, 1, 2, 3, 4, 5] rfl)
        exact L_45 _ 0 (by first | assumption | omega | decide) (Nat.lt_succ_self _) H locs hP hD hS ls (lv_sub hl [0, 1, 2, 3, 4, 5] rfl)
      · refine lv_iconst (v := (-1)) hx hb dX9_fewest_31 (by decide) ?_
        have hno : ¬ okFew (nI i1_) d_ w_ := by first | exact fun z => c_9 z.1 | exact fun z => c_19 z.2.1 | exact fun z => c_28 z.2.2
        refine lv_eqi (y := r_fewest nb_ (nI i1_) d_ w_) ((if_neg hno).symm) ?_
        exact RT _ _ (ft_, cf_) H locs 32 ls (rt_i dX9_fewest_32) rfl hP hD hS
