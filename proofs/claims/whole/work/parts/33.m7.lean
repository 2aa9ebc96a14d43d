abbrev rmkX9_allTheSame : Room := { frames := 3, cells := 0, slots := 0, locals := 86 }
set_option maxHeartbeats 4000000 in
set_option maxRecDepth 100000 in
theorem kX9_allTheSame {l : Launch} {D : va_G} {cy : Nat → ClassId} {sa : Nat → Nat} (b0_ : Nat) (th_ : Int32) (tr_ : Int64) (bn_ : Nat) (bt_ : Nat) (bs_ : Nat) (bk_ : Nat) (bp_ : Nat) (bi_ : Nat) (bl_ : Nat) (it_ : Int32) (ub_ : Int32) (db_ : Int32) (bx_ : Nat) (tp_ : Int32) (nx_ : Int32) (tk_ : Int32) (pl_ : Int32) (vl_ : Int32) (fa_ : Int32) (bc_ : Nat) (bf_ : Nat) (nb_ : Nat → Nat → Int32) (ft_ : Nat → Int32) (fd_ : Nat → Int32) (i_ : Nat) (k_ : Nat) (hi : i_ < 4) (hk : k_ < 3) : CT (S := (Nat → Int32)) l D cy sa yX9_allTheSame wsX9_allTheSame rmkX9_allTheSame [.ref b0_, .int (nI i_), .int (nI k_)] [(b0_, .inr (9, [.int th_, .long tr_, .ref bn_, .ref bt_, .ref bs_, .ref bk_, .ref bp_, .ref bi_, .ref bl_, .int it_, .int ub_, .int db_, .ref bx_, .int tp_, .int nx_, .int tk_, .int pl_, .int vl_, .int fa_, .ref bc_, .ref bf_])), (bn_, .inl (cy 0, 24, .inl (nbF nb_))), (bt_, .inl (cy 0, 6, .inl ft_)), (bf_, .inl (cy 0, 6, .inl fd_))] (fun v9 ft2 => v9 = some (.int (atR (nb_ i_) k_))) (fun ft2 => [(b0_, .inr (9, [.int th_, .long tr_, .ref bn_, .ref bt_, .ref bs_, .ref bk_, .ref bp_, .ref bi_, .ref bl_, .int it_, .int ub_, .int db_, .ref bx_, .int tp_, .int nx_, .int tk_, .int pl_, .int vl_, .int fa_, .ref bc_, .ref bf_])), (bn_, .inl (cy 0, 24, .inl (nbF nb_))), (bt_, .inl (cy 0, 6, .inl ft2)), (bf_, .inl (cy 0, 6, .inl (fdA (nb_ i_) k_ fd_ 371293)))]) 0 0 := by
  refine CT.of cX9_allTheSame 10 (some .int) (by decide) rfl (Nat.le_of_ble_eq_true rfl) ?_
  intro p e s m args below meth c A Q ls F hmn hK hE hA hP hD hS hl RT
  obtain ⟨hx, hb, hml, hown, hts⟩ := id F
  have wc102 := hts (.constant RX9 102 (371293)) (by decide +kernel)
  have winX9 : ∀ w ∈ u_ws RX9 TX9 21, w ∈ wsX9_allTheSame := by decide +kernel
  have wf45 := hts (.fieldLink RX9 45 "SelfSteerModel" "found" "[I") (by decide +kernel)
  have wf13 := hts (.fieldLink RX9 13 "SelfSteerModel" "tried" "[I") (by decide +kernel)
  have wf7 := hts (.fieldLink RX9 7 "SelfSteerModel" "numbers" "[I") (by decide +kernel)
  have hl : lv_has ls 10 [(0, .ref b0_), (1, .int (nI i_)), (2, .int (nI k_))] := hl
  have hP : va_P D vwCl [(b0_, .inr (9, [.int th_, .long tr_, .ref bn_, .ref bt_, .ref bs_, .ref bk_, .ref bp_, .ref bi_, .ref bl_, .int it_, .int ub_, .int db_, .ref bx_, .int tp_, .int nx_, .int tk_, .int pl_, .int vl_, .int fa_, .ref bc_, .ref bf_])), (bn_, .inl (cy 0, 24, .inl (nbF nb_))), (bt_, .inl (cy 0, 6, .inl ft_)), (bf_, .inl (cy 0, 6, .inl fd_))] s.heap := hP
  have hD : va_D A [(b0_, .inr (9, [.int th_, .long tr_, .ref bn_, .ref bt_, .ref bs_, .ref bk_, .ref bp_, .ref bi_, .ref bl_, .int it_, .int ub_, .int db_, .ref bx_, .int tp_, .int nx_, .int tk_, .int pl_, .int vl_, .int fa_, .ref bc_, .ref bf_])), (bn_, .inl (cy 0, 24, .inl (nbF nb_))), (bt_, .inl (cy 0, 6, .inl ft_)), (bf_, .inl (cy 0, 6, .inl fd_))] := hD
  obtain ⟨H, hH⟩ : ∃ H0 : Heap, H0 = s.heap := ⟨_, rfl⟩
  obtain ⟨locs, hlo⟩ : ∃ L0 : List Loc, L0 = [] := ⟨_, rfl⟩
  have hS : va_S A s.heap H locs := by rw [hH, hlo]; exact hS
  rw [← hH] at hP
  show W p l e rmkX9_allTheSame s m args below meth c s.heap [] 0 0 Q (F0 m 0 ls [])
  suffices hgo : W p l e rmkX9_allTheSame s m args below meth c H locs 0 0 Q (F0 m 0 ls []) by rw [hH, hlo] at hgo; exact hgo
  clear hH hlo
  refine lv_bipush (v := 7) hx hb dX9_allTheSame_0 (by decide) ?_
  refine lv_istore_n (lv' := [(3, .int 7), (0, .ref b0_), (1, .int (nI i_)), (2, .int (nI k_))]) hx hb dX9_allTheSame_2 rfl hl (by decide) rfl (fun ls hl => ?_)
  refine lv_iconst (v := 0) hx hb dX9_allTheSame_3 (by decide) ?_
  refine lv_istore (lv' := [(4, .int 0), (3, .int 7), (0, .ref b0_), (1, .int (nI i_)), (2, .int (nI k_))]) hx hb dX9_allTheSame_4 hl (by decide) rfl (fun ls hl => ?_)
  have L_6 : ∀ (nF : Nat) (n_ : Nat) (ftc_ : Nat → Int32), (n_ ≤ 371293) → 371293 - n_ < nF → ∀ (H : Heap) (locs : List Loc), va_P D vwCl [(b0_, .inr (9, [.int th_, .long tr_, .ref bn_, .ref bt_, .ref bs_, .ref bk_, .ref bp_, .ref bi_, .ref bl_, .int it_, .int ub_, .int db_, .ref bx_, .int tp_, .int nx_, .int tk_, .int pl_, .int vl_, .int fa_, .ref bc_, .ref bf_])), (bn_, .inl (cy 0, 24, .inl (nbF nb_))), (bt_, .inl (cy 0, 6, .inl ftc_)), (bf_, .inl (cy 0, 6, .inl (fdA (nb_ i_) k_ fd_ n_)))] H → va_D A [(b0_, .inr (9, [.int th_, .long tr_, .ref bn_, .ref bt_, .ref bs_, .ref bk_, .ref bp_, .ref bi_, .ref bl_, .int it_, .int ub_, .int db_, .ref bx_, .int tp_, .int nx_, .int tk_, .int pl_, .int vl_, .int fa_, .ref bc_, .ref bf_])), (bn_, .inl (cy 0, 24, .inl (nbF nb_))), (bt_, .inl (cy 0, 6, .inl ftc_)), (bf_, .inl (cy 0, 6, .inl (fdA (nb_ i_) k_ fd_ n_)))] → va_S A s.heap H locs → ∀ (ls : Array Slot), lv_has ls 10 [(4, .int (nI n_)), (3, .int (bsA (nb_ i_) k_ n_)), (0, .ref b0_), (1, .int (nI i_)), (2, .int (nI k_))] → W p l e rmkX9_allTheSame s m args below meth c H locs 0 0 Q (F0 m 6 ls []) := by
    intro nF
    induction nF with
    | zero => intro n_ ftc_ hn hnF; exact absurd hnF (Nat.not_lt_zero _)
    | succ nF ih_6 =>
      intro n_ ftc_ hn hn_6 H locs hP hD hS ls hl
      refine lv_iload hx hb dX9_allTheSame_6 (lv_at hl 0 rfl) ?_
      refine lv_ldc (v := 371293) hx hb hown wc102 dX9_allTheSame_8 ?_
      refine cn_ge (tgt := 197) hx hb n_ 371293 rfl rfl (by omega) (by omega) dX9_allTheSame_10 (by decide) (fun c_10 => ?_) (fun c_10 => ?_)
      · obtain rfl : 371293 = n_ := by omega
        refine lv_iload_n hx hb dX9_allTheSame_197 rfl (lv_at hl 1 rfl) ?_
        refine lv_bipush (v := 7) hx hb dX9_allTheSame_198 (by decide) ?_
        have J_200_26 : ∀ (z200 : Int32), z200 = (if (bsA (nb_ i_) k_ 371293) = 7 then (-9) else (bsA (nb_ i_) k_ 371293)) → ∀ (H : Heap) (locs : List Loc), va_P D vwCl [(b0_, .inr (9, [.int th_, .long tr_, .ref bn_, .ref bt_, .ref bs_, .ref bk_, .ref bp_, .ref bi_, .ref bl_, .int it_, .int ub_, .int db_, .ref bx_, .int tp_, .int nx_, .int tk_, .int pl_, .int vl_, .int fa_, .ref bc_, .ref bf_])), (bn_, .inl (cy 0, 24, .inl (nbF nb_))), (bt_, .inl (cy 0, 6, .inl ftc_)), (bf_, .inl (cy 0, 6, .inl (fdA (nb_ i_) k_ fd_ 371293)))] H → va_D A [(b0_, .inr (9, [.int th_, .long tr_, .ref bn_, .ref bt_, .ref bs_, .ref bk_, .ref bp_, .ref bi_, .ref bl_, .int it_, .int ub_, .int db_, .ref bx_, .int tp_, .int nx_, .int tk_, .int pl_, .int vl_, .int fa_, .ref bc_, .ref bf_])), (bn_, .inl (cy 0, 24, .inl (nbF nb_))), (bt_, .inl (cy 0, 6, .inl ftc_)), (bf_, .inl (cy 0, 6, .inl (fdA (nb_ i_) k_ fd_ 371293)))] → va_S A s.heap H locs → ∀ (ls : Array Slot), lv_has ls 10 [(4, .int (nI 371293)), (3, .int (bsA (nb_ i_) k_ 371293)), (0, .ref b0_), (1, .int (nI i_)), (2, .int (nI k_))] → W p l e rmkX9_allTheSame s m args below meth c H locs 0 0 Q (F0 m 209 ls [.int z200]) := by
          intro z200 ez200 H locs hP hD hS ls hl
          refine lv_eqi (y := atR (nb_ i_) k_) (ez200) ?_
          exact RT _ _ (ftc_) H locs 209 ls (rt_i dX9_allTheSame_209) rfl hP hD hS
        refine lv_icmp_ne (tgt := 208) hx hb dX9_allTheSame_200 (by decide) (fun c_200 => ?_) (fun c_200 => ?_)
        · refine lv_iload_n hx hb dX9_allTheSame_208 rfl (lv_at hl 1 rfl) ?_
          exact J_200_26 _ ((if_neg c_200).symm) H locs hP hD hS ls (lv_sub hl [0, 1, 2, 3, 4] rfl)
        · refine lv_bipush (v := (-9)) hx hb dX9_allTheSame_203 (by decide) ?_
          refine lv_goto (tgt := 209) hx hb dX9_allTheSame_205 (by decide) ?_
          exact J_200_26 _ ((if_pos c_200).symm) H locs hP hD hS ls (lv_sub hl [0, 1, 2, 3, 4] rfl)
      · refine lv_iload hx hb dX9_allTheSame_13 (lv_at hl 0 rfl) ?_
        refine lv_istore (lv' := [(5, .int (nI n_)), (4, .int (nI n_)), (3, .int (bsA (nb_ i_) k_ n_)), (0, .ref b0_), (1, .int (nI i_)), (2, .int (nI k_))]) hx hb dX9_allTheSame_15 hl (by decide) rfl (fun ls hl => ?_)
        refine lv_iconst (v := 0) hx hb dX9_allTheSame_17 (by decide) ?_
        refine lv_istore (lv' := [(6, .int 0), (5, .int (nI n_)), (4, .int (nI n_)), (3, .int (bsA (nb_ i_) k_ n_)), (0, .ref b0_), (1, .int (nI i_)), (2, .int (nI k_))]) hx hb dX9_allTheSame_18 hl (by decide) rfl (fun ls hl => ?_)
        refine lv_iconst (v := 1) hx hb dX9_allTheSame_20 (by decide) ?_
        refine lv_istore (lv' := [(7, .int 1), (6, .int 0), (5, .int (nI n_)), (4, .int (nI n_)), (3, .int (bsA (nb_ i_) k_ n_)), (0, .ref b0_), (1, .int (nI i_)), (2, .int (nI k_))]) hx hb dX9_allTheSame_21 hl (by decide) rfl (fun ls hl => ?_)
        refine lv_iconst (v := 5) hx hb dX9_allTheSame_23 (by decide) ?_
        refine lv_istore (lv' := [(8, .int 5), (7, .int 1), (6, .int 0), (5, .int (nI n_)), (4, .int (nI n_)), (3, .int (bsA (nb_ i_) k_ n_)), (0, .ref b0_), (1, .int (nI i_)), (2, .int (nI k_))]) hx hb dX9_allTheSame_24 hl (by decide) rfl (fun ls hl => ?_)
        have L_26 : ∀ (nF : Nat) (c1_ : Nat) (q_ : Nat), (c1_ + q_ = 6) → q_ < nF → ∀ (H : Heap) (locs : List Loc), va_P D vwCl [(b0_, .inr (9, [.int th_, .long tr_, .ref bn_, .ref bt_, .ref bs_, .ref bk_, .ref bp_, .ref bi_, .ref bl_, .int it_, .int ub_, .int db_, .ref bx_, .int tp_, .int nx_, .int tk_, .int pl_, .int vl_, .int fa_, .ref bc_, .ref bf_])), (bn_, .inl (cy 0, 24, .inl (nbF nb_))), (bt_, .inl (cy 0, 6, .inl (top6 (atT (nb_ i_) k_ n_) ftc_ c1_))), (bf_, .inl (cy 0, 6, .inl (fdA (nb_ i_) k_ fd_ n_)))] H → va_D A [(b0_, .inr (9, [.int th_, .long tr_, .ref bn_, .ref bt_, .ref bs_, .ref bk_, .ref bp_, .ref bi_, .ref bl_, .int it_, .int ub_, .int db_, .ref bx_, .int tp_, .int nx_, .int tk_, .int pl_, .int vl_, .int fa_, .ref bc_, .ref bf_])), (bn_, .inl (cy 0, 24, .inl (nbF nb_))), (bt_, .inl (cy 0, 6, .inl (top6 (atT (nb_ i_) k_ n_) ftc_ c1_))), (bf_, .inl (cy 0, 6, .inl (fdA (nb_ i_) k_ fd_ n_)))] → va_S A s.heap H locs → ∀ (ls : Array Slot), lv_has ls 10 [(8, .int (nI q_ - 1)), (7, .int (bI (mayC (nb_ i_) k_ n_ c1_ = true))), (6, .int (chC k_ n_ c1_)), (5, .int (nI (n_ / 13 ^ posC k_ c1_))), (4, .int (nI n_)), (3, .int (bsA (nb_ i_) k_ n_)), (0, .ref b0_), (1, .int (nI i_)), (2, .int (nI k_))] → W p l e rmkX9_allTheSame s m args below meth c H locs 0 0 Q (F0 m 26 ls []) := by
          intro nF
          induction nF with
          | zero => intro c1_ q_ hcq hnF; exact absurd hnF (Nat.not_lt_zero _)
          | succ nF ih_26 =>
            intro c1_ q_ hcq hn_26 H locs hP hD hS ls hl
            refine lv_iload hx hb dX9_allTheSame_26 (lv_at hl 0 rfl) ?_
            refine lv_if_lt (tgt := 138) hx hb dX9_allTheSame_28 (by decide) (fun c_28 => ?_) (fun c_28 => ?_)
            · have hq0 : q_ = 0 := (sub1_lt (by omega)).mp c_28
              obtain rfl : 0 = q_ := hq0.symm
              obtain rfl : 6 = c1_ := by omega
              obtain ⟨hP, hD⟩ := ro_ws (g := atT (nb_ i_) k_ n_) hP hD 2 rfl (fun z hz => if_pos (by omega))
              have hP : va_P D vwCl [(b0_, .inr (9, [.int th_, .long tr_, .ref bn_, .ref bt_, .ref bs_, .ref bk_, .ref bp_, .ref bi_, .ref bl_, .int it_, .int ub_, .int db_, .ref bx_, .int tp_, .int nx_, .int tk_, .int pl_, .int vl_, .int fa_, .ref bc_, .ref bf_])), (bn_, .inl (cy 0, 24, .inl (nbF nb_))), (bt_, .inl (cy 0, 6, .inl (atT (nb_ i_) k_ n_))), (bf_, .inl (cy 0, 6, .inl (fdA (nb_ i_) k_ fd_ n_)))] H := hP
              have hD : va_D A [(b0_, .inr (9, [.int th_, .long tr_, .ref bn_, .ref bt_, .ref bs_, .ref bk_, .ref bp_, .ref bi_, .ref bl_, .int it_, .int ub_, .int db_, .ref bx_, .int tp_, .int nx_, .int tk_, .int pl_, .int vl_, .int fa_, .ref bc_, .ref bf_])), (bn_, .inl (cy 0, 24, .inl (nbF nb_))), (bt_, .inl (cy 0, 6, .inl (atT (nb_ i_) k_ n_))), (bf_, .inl (cy 0, 6, .inl (fdA (nb_ i_) k_ fd_ n_)))] := hD
              refine lv_iload hx hb dX9_allTheSame_138 (lv_at hl 1 rfl) ?_
              refine bz_eq (tgt := 191) hx hb dX9_allTheSame_140 (by decide) (fun c_140 => ?_) (fun c_140 => ?_)
              · refine lv_iinc (v := nI (n_ + 1)) (lv' := [(4, .int (nI (n_ + 1))), (8, .int (nI 0 - 1)), (7, .int (bI (mayC (nb_ i_) k_ n_ 6 = true))), (6, .int (chC k_ n_ 6)), (5, .int (nI (n_ / 13 ^ posC k_ 6))), (3, .int (bsA (nb_ i_) k_ n_)), (0, .ref b0_), (1, .int (nI i_)), (2, .int (nI k_))]) hx hb dX9_allTheSame_191 hl (k := 4) rfl (nI_add n_ 1) (by decide) rfl (fun ls hl => ?_)
                refine lv_goto (tgt := 6) hx hb dX9_allTheSame_194 (by decide) ?_
                obtain ⟨hP, hD⟩ := ro_ws (g := fdA (nb_ i_) k_ fd_ (n_ + 1)) hP hD 3 rfl (fun z9 _ => congrFun (show fdA (nb_ i_) k_ fd_ n_ = fdA (nb_ i_) k_ fd_ (n_ + 1) from (by first | (refine (if_neg ?_).symm; exact fun z => c_140 z.1) | (refine (if_neg ?_).symm; exact fun z => z.2.1 c_146) | (refine (if_neg ?_).symm; exact fun z => z.2.2 c_155) | (refine (if_pos ?_).symm; exact ⟨c_140, c_146, c_155⟩))) z9)
                have hP : va_P D vwCl [(b0_, .inr (9, [.int th_, .long tr_, .ref bn_, .ref bt_, .ref bs_, .ref bk_, .ref bp_, .ref bi_, .ref bl_, .int it_, .int ub_, .int db_, .ref bx_, .int tp_, .int nx_, .int tk_, .int pl_, .int vl_, .int fa_, .ref bc_, .ref bf_])), (bn_, .inl (cy 0, 24, .inl (nbF nb_))), (bt_, .inl (cy 0, 6, .inl (atT (nb_ i_) k_ n_))), (bf_, .inl (cy 0, 6, .inl (fdA (nb_ i_) k_ fd_ (n_ + 1))))] H := hP
                have hD : va_D A [(b0_, .inr (9, [.int th_, .long tr_, .ref bn_, .ref bt_, .ref bs_, .ref bk_, .ref bp_, .ref bi_, .ref bl_, .int it_, .int ub_, .int db_, .ref bx_, .int tp_, .int nx_, .int tk_, .int pl_, .int vl_, .int fa_, .ref bc_, .ref bf_])), (bn_, .inl (cy 0, 24, .inl (nbF nb_))), (bt_, .inl (cy 0, 6, .inl (atT (nb_ i_) k_ n_))), (bf_, .inl (cy 0, 6, .inl (fdA (nb_ i_) k_ fd_ (n_ + 1))))] := hD
                rw [show ((3, .int (bsA (nb_ i_) k_ n_)) : Nat × Value) = (3, .int (bsA (nb_ i_) k_ (n_ + 1))) from congrArg (fun y9 => ((3, Value.int y9) : Nat × Value)) (show bsA (nb_ i_) k_ n_ = bsA (nb_ i_) k_ (n_ + 1) from (by first | (refine (if_neg ?_).symm; exact fun z => c_140 z.1) | (refine (if_neg ?_).symm; exact fun z => z.2.1 c_146) | (refine (if_neg ?_).symm; exact fun z => z.2.2 c_155) | (refine (if_pos ?_).symm; exact ⟨c_140, c_146, c_155⟩)))] at hl
                exact ih_6 (n_ + 1) (atT (nb_ i_) k_ n_) (by first | assumption | omega | decide) (by omega) H locs hP hD hS ls (lv_sub hl [0, 5, 6, 7, 8] rfl)
              · refine lv_iload hx hb dX9_allTheSame_143 (lv_at hl 2 rfl) ?_
                refine lv_iload_n hx hb dX9_allTheSame_145 rfl (lv_at hl 5 rfl) ?_
                refine lv_icmp_ge (tgt := 191) hx hb dX9_allTheSame_146 (by decide) (fun c_146 => ?_) (fun c_146 => ?_)
                · refine lv_iinc (v := nI (n_ + 1)) (lv' := [(4, .int (nI (n_ + 1))), (8, .int (nI 0 - 1)), (7, .int (bI (mayC (nb_ i_) k_ n_ 6 = true))), (6, .int (chC k_ n_ 6)), (5, .int (nI (n_ / 13 ^ posC k_ 6))), (3, .int (bsA (nb_ i_) k_ n_)), (0, .ref b0_), (1, .int (nI i_)), (2, .int (nI k_))]) hx hb dX9_allTheSame_191 hl (k := 4) rfl (nI_add n_ 1) (by decide) rfl (fun ls hl => ?_)
                  refine lv_goto (tgt := 6) hx hb dX9_allTheSame_194 (by decide) ?_
                  obtain ⟨hP, hD⟩ := ro_ws (g := fdA (nb_ i_) k_ fd_ (n_ + 1)) hP hD 3 rfl (fun z9 _ => congrFun (show fdA (nb_ i_) k_ fd_ n_ = fdA (nb_ i_) k_ fd_ (n_ + 1) from (by first | (refine (if_neg ?_).symm; exact fun z => c_140 z.1) | (refine (if_neg ?_).symm; exact fun z => z.2.1 c_146) | (refine (if_neg ?_).symm; exact fun z => z.2.2 c_155) | (refine (if_pos ?_).symm; exact ⟨c_140, c_146, c_155⟩))) z9)
                  have hP : va_P D vwCl [(b0_, .inr (9, [.int th_, .long tr_, .ref bn_, .ref bt_, .ref bs_, .ref bk_, .ref bp_, .ref bi_, .ref bl_, .int it_, .int ub_, .int db_, .ref bx_, .int tp_, .int nx_, .int tk_, .int pl_, .int vl_, .int fa_, .ref bc_, .ref bf_])), (bn_, .inl (cy 0, 24, .inl (nbF nb_))), (bt_, .inl (cy 0, 6, .inl (atT (nb_ i_) k_ n_))), (bf_, .inl (cy 0, 6, .inl (fdA (nb_ i_) k_ fd_ (n_ + 1))))] H := hP
                  have hD : va_D A [(b0_, .inr (9, [.int th_, .long tr_, .ref bn_, .ref bt_, .ref bs_, .ref bk_, .ref bp_, .ref bi_, .ref bl_, .int it_, .int ub_, .int db_, .ref bx_, .int tp_, .int nx_, .int tk_, .int pl_, .int vl_, .int fa_, .ref bc_, .ref bf_])), (bn_, .inl (cy 0, 24, .inl (nbF nb_))), (bt_, .inl (cy 0, 6, .inl (atT (nb_ i_) k_ n_))), (bf_, .inl (cy 0, 6, .inl (fdA (nb_ i_) k_ fd_ (n_ + 1))))] := hD
                  rw [show ((3, .int (bsA (nb_ i_) k_ n_)) : Nat × Value) = (3, .int (bsA (nb_ i_) k_ (n_ + 1))) from congrArg (fun y9 => ((3, Value.int y9) : Nat × Value)) (show bsA (nb_ i_) k_ n_ = bsA (nb_ i_) k_ (n_ + 1) from (by first | (refine (if_neg ?_).symm; exact fun z => c_140 z.1) | (refine (if_neg ?_).symm; exact fun z => z.2.1 c_146) | (refine (if_neg ?_).symm; exact fun z => z.2.2 c_155) | (refine (if_pos ?_).symm; exact ⟨c_140, c_146, c_155⟩)))] at hl
                  exact ih_6 (n_ + 1) (atT (nb_ i_) k_ n_) (by first | assumption | omega | decide) (by omega) H locs hP hD hS ls (lv_sub hl [0, 5, 6, 7, 8] rfl)
                · refine lv_aload_n hx hb dX9_allTheSame_149 rfl (lv_at hl 6 rfl) ?_
                  refine ca_V (q0 := 0) (n := 0) (rest := []) (wr := [(bn_, .inl (cy 0, 24, .inl (nbF nb_))), (bf_, .inl (cy 0, 6, .inl (fdA (nb_ i_) k_ fd_ n_)))]) F hK hE hA hP hD hS hl.1 (kX9_speeds (l := l) (D := D) (cy := cy) (sa := sa) b0_ th_ tr_ bn_ bt_ bs_ bk_ bp_ bi_ bl_ it_ ub_ db_ bx_ tp_ nx_ tk_ pl_ vl_ fa_ bc_ bf_ (atT (nb_ i_) k_ n_)) gX9_allTheSame_X9_speeds rfl rfl rfl rfl rfl rfl (by decide +kernel) ⟨by decide, by decide⟩ [0, 2] [1, 3] rfl rfl rfl rfl (by decide) rfl rfl (Nat.le_of_ble_eq_true rfl) dX9_allTheSame_150 ⟨by decide, by decide⟩ (fun v9 u9 H locs hv hP hD hS => ?_)
                  subst hv
                  obtain ⟨hP, hD⟩ := re_ws (ws' := [(b0_, .inr (9, [.int th_, .long tr_, .ref bn_, .ref bt_, .ref bs_, .ref bk_, .ref bp_, .ref bi_, .ref bl_, .int it_, .int ub_, .int db_, .ref bx_, .int tp_, .int nx_, .int tk_, .int pl_, .int vl_, .int fa_, .ref bc_, .ref bf_])), (bn_, .inl (cy 0, 24, .inl (nbF nb_))), (bt_, .inl (cy 0, 6, .inl (atT (nb_ i_) k_ n_))), (bf_, .inl (cy 0, 6, .inl (fdA (nb_ i_) k_ fd_ n_)))]) hP hD [2, 0, 3, 1] rfl rfl
                  refine W.eq (g2 := F0 m 153 ls [.long (rg (atT (nb_ i_) k_ n_) 41)]) rfl ?_
                  refine lv_lconst (v := 0) hx hb dX9_allTheSame_153 (by decide) ?_
                  refine W.lcmp hx hb dX9_allTheSame_154 ?_
                  refine lc_eq (tgt := 191) hx hb dX9_allTheSame_155 (by decide) (fun c_155 => ?_) (fun c_155 => ?_)
                  · refine lv_iinc (v := nI (n_ + 1)) (lv' := [(4, .int (nI (n_ + 1))), (8, .int (nI 0 - 1)), (7, .int (bI (mayC (nb_ i_) k_ n_ 6 = true))), (6, .int (chC k_ n_ 6)), (5, .int (nI (n_ / 13 ^ posC k_ 6))), (3, .int (bsA (nb_ i_) k_ n_)), (0, .ref b0_), (1, .int (nI i_)), (2, .int (nI k_))]) hx hb dX9_allTheSame_191 hl (k := 4) rfl (nI_add n_ 1) (by decide) rfl (fun ls hl => ?_)
                    refine lv_goto (tgt := 6) hx hb dX9_allTheSame_194 (by decide) ?_
                    obtain ⟨hP, hD⟩ := ro_ws (g := fdA (nb_ i_) k_ fd_ (n_ + 1)) hP hD 3 rfl (fun z9 _ => congrFun (show fdA (nb_ i_) k_ fd_ n_ = fdA (nb_ i_) k_ fd_ (n_ + 1) from (by first | (refine (if_neg ?_).symm; exact fun z => c_140 z.1) | (refine (if_neg ?_).symm; exact fun z => z.2.1 c_146) | (refine (if_neg ?_).symm; exact fun z => z.2.2 c_155) | (refine (if_pos ?_).symm; exact ⟨c_140, c_146, c_155⟩))) z9)
                    have hP : va_P D vwCl [(b0_, .inr (9, [.int th_, .long tr_, .ref bn_, .ref bt_, .ref bs_, .ref bk_, .ref bp_, .ref bi_, .ref bl_, .int it_, .int ub_, .int db_, .ref bx_, .int tp_, .int nx_, .int tk_, .int pl_, .int vl_, .int fa_, .ref bc_, .ref bf_])), (bn_, .inl (cy 0, 24, .inl (nbF nb_))), (bt_, .inl (cy 0, 6, .inl (atT (nb_ i_) k_ n_))), (bf_, .inl (cy 0, 6, .inl (fdA (nb_ i_) k_ fd_ (n_ + 1))))] H := hP
                    have hD : va_D A [(b0_, .inr (9, [.int th_, .long tr_, .ref bn_, .ref bt_, .ref bs_, .ref bk_, .ref bp_, .ref bi_, .ref bl_, .int it_, .int ub_, .int db_, .ref bx_, .int tp_, .int nx_, .int tk_, .int pl_, .int vl_, .int fa_, .ref bc_, .ref bf_])), (bn_, .inl (cy 0, 24, .inl (nbF nb_))), (bt_, .inl (cy 0, 6, .inl (atT (nb_ i_) k_ n_))), (bf_, .inl (cy 0, 6, .inl (fdA (nb_ i_) k_ fd_ (n_ + 1))))] := hD
                    rw [show ((3, .int (bsA (nb_ i_) k_ n_)) : Nat × Value) = (3, .int (bsA (nb_ i_) k_ (n_ + 1))) from congrArg (fun y9 => ((3, Value.int y9) : Nat × Value)) (show bsA (nb_ i_) k_ n_ = bsA (nb_ i_) k_ (n_ + 1) from (by first | (refine (if_neg ?_).symm; exact fun z => c_140 z.1) | (refine (if_neg ?_).symm; exact fun z => z.2.1 c_146) | (refine (if_neg ?_).symm; exact fun z => z.2.2 c_155) | (refine (if_pos ?_).symm; exact ⟨c_140, c_146, c_155⟩)))] at hl
                    exact ih_6 (n_ + 1) (atT (nb_ i_) k_ n_) (by first | assumption | omega | decide) (by omega) H locs hP hD hS ls (lv_sub hl [0, 5, 6, 7, 8] rfl)
                  · refine lv_iload hx hb dX9_allTheSame_158 (lv_at hl 2 rfl) ?_
                    refine lv_istore_n (lv' := [(3, .int (chC k_ n_ 6)), (8, .int (nI 0 - 1)), (7, .int (bI (mayC (nb_ i_) k_ n_ 6 = true))), (6, .int (chC k_ n_ 6)), (5, .int (nI (n_ / 13 ^ posC k_ 6))), (4, .int (nI n_)), (0, .ref b0_), (1, .int (nI i_)), (2, .int (nI k_))]) hx hb dX9_allTheSame_160 rfl hl (by decide) rfl (fun ls hl => ?_)
                    refine lv_iconst (v := 0) hx hb dX9_allTheSame_161 (by decide) ?_
                    refine lv_istore (lv' := [(8, .int 0), (3, .int (chC k_ n_ 6)), (7, .int (bI (mayC (nb_ i_) k_ n_ 6 = true))), (6, .int (chC k_ n_ 6)), (5, .int (nI (n_ / 13 ^ posC k_ 6))), (4, .int (nI n_)), (0, .ref b0_), (1, .int (nI i_)), (2, .int (nI k_))]) hx hb dX9_allTheSame_162 hl (by decide) rfl (fun ls hl => ?_)
                    have L_164 : ∀ (nF : Nat) (j_ : Nat), (j_ ≤ 6) → 6 - j_ < nF → ∀ (H : Heap) (locs : List Loc), va_P D vwCl [(b0_, .inr (9, [.int th_, .long tr_, .ref bn_, .ref bt_, .ref bs_, .ref bk_, .ref bp_, .ref bi_, .ref bl_, .int it_, .int ub_, .int db_, .ref bx_, .int tp_, .int nx_, .int tk_, .int pl_, .int vl_, .int fa_, .ref bc_, .ref bf_])), (bn_, .inl (cy 0, 24, .inl (nbF nb_))), (bt_, .inl (cy 0, 6, .inl (atT (nb_ i_) k_ n_))), (bf_, .inl (cy 0, 6, .inl (fil (atT (nb_ i_) k_ n_) (fdA (nb_ i_) k_ fd_ n_) j_)))] H → va_D A [(b0_, .inr (9, [.int th_, .long tr_, .ref bn_, .ref bt_, .ref bs_, .ref bk_, .ref bp_, .ref bi_, .ref bl_, .int it_, .int ub_, .int db_, .ref bx_, .int tp_, .int nx_, .int tk_, .int pl_, .int vl_, .int fa_, .ref bc_, .ref bf_])), (bn_, .inl (cy 0, 24, .inl (nbF nb_))), (bt_, .inl (cy 0, 6, .inl (atT (nb_ i_) k_ n_))), (bf_, .inl (cy 0, 6, .inl (fil (atT (nb_ i_) k_ n_) (fdA (nb_ i_) k_ fd_ n_) j_)))] → va_S A s.heap H locs → ∀ (ls : Array Slot), lv_has ls 10 [(8, .int (nI j_)), (3, .int (chC k_ n_ 6)), (7, .int (bI (mayC (nb_ i_) k_ n_ 6 = true))), (6, .int (chC k_ n_ 6)), (5, .int (nI (n_ / 13 ^ posC k_ 6))), (4, .int (nI n_)), (0, .ref b0_), (1, .int (nI i_)), (2, .int (nI k_))] → W p l e rmkX9_allTheSame s m args below meth c H locs 0 0 Q (F0 m 164 ls []) := by
                      intro nF
                      induction nF with
                      | zero => intro j_ hj hnF; exact absurd hnF (Nat.not_lt_zero _)
                      | succ nF ih_164 =>
                        intro j_ hj hn_164 H locs hP hD hS ls hl
                        refine lv_iload hx hb dX9_allTheSame_164 (lv_at hl 0 rfl) ?_
                        refine lv_bipush (v := 6) hx hb dX9_allTheSame_166 (by decide) ?_
                        refine cn_ge (tgt := 191) hx hb j_ 6 rfl rfl (by omega) (by omega) dX9_allTheSame_168 (by decide) (fun c_168 => ?_) (fun c_168 => ?_)
                        · obtain rfl : 6 = j_ := by omega
                          obtain ⟨hP, hD⟩ := ro_ws (g := atT (nb_ i_) k_ n_) hP hD 3 rfl (fun z hz => fil_lt (by omega))
                          have hP : va_P D vwCl [(b0_, .inr (9, [.int th_, .long tr_, .ref bn_, .ref bt_, .ref bs_, .ref bk_, .ref bp_, .ref bi_, .ref bl_, .int it_, .int ub_, .int db_, .ref bx_, .int tp_, .int nx_, .int tk_, .int pl_, .int vl_, .int fa_, .ref bc_, .ref bf_])), (bn_, .inl (cy 0, 24, .inl (nbF nb_))), (bt_, .inl (cy 0, 6, .inl (atT (nb_ i_) k_ n_))), (bf_, .inl (cy 0, 6, .inl (atT (nb_ i_) k_ n_)))] H := hP
                          have hD : va_D A [(b0_, .inr (9, [.int th_, .long tr_, .ref bn_, .ref bt_, .ref bs_, .ref bk_, .ref bp_, .ref bi_, .ref bl_, .int it_, .int ub_, .int db_, .ref bx_, .int tp_, .int nx_, .int tk_, .int pl_, .int vl_, .int fa_, .ref bc_, .ref bf_])), (bn_, .inl (cy 0, 24, .inl (nbF nb_))), (bt_, .inl (cy 0, 6, .inl (atT (nb_ i_) k_ n_))), (bf_, .inl (cy 0, 6, .inl (atT (nb_ i_) k_ n_)))] := hD
                          refine lv_iinc (v := nI (n_ + 1)) (lv' := [(4, .int (nI (n_ + 1))), (8, .int (nI 6)), (3, .int (chC k_ n_ 6)), (7, .int (bI (mayC (nb_ i_) k_ n_ 6 = true))), (6, .int (chC k_ n_ 6)), (5, .int (nI (n_ / 13 ^ posC k_ 6))), (0, .ref b0_), (1, .int (nI i_)), (2, .int (nI k_))]) hx hb dX9_allTheSame_191 hl (k := 5) rfl (nI_add n_ 1) (by decide) rfl (fun ls hl => ?_)
                          refine lv_goto (tgt := 6) hx hb dX9_allTheSame_194 (by decide) ?_
                          obtain ⟨hP, hD⟩ := ro_ws (g := fdA (nb_ i_) k_ fd_ (n_ + 1)) hP hD 3 rfl (fun z9 _ => congrFun (show atT (nb_ i_) k_ n_ = fdA (nb_ i_) k_ fd_ (n_ + 1) from (by first | (refine (if_neg ?_).symm; exact fun z => c_140 z.1) | (refine (if_neg ?_).symm; exact fun z => z.2.1 c_146) | (refine (if_neg ?_).symm; exact fun z => z.2.2 c_155) | (refine (if_pos ?_).symm; exact ⟨c_140, c_146, c_155⟩))) z9)
                          have hP : va_P D vwCl [(b0_, .inr (9, [.int th_, .long tr_, .ref bn_, .ref bt_, .ref bs_, .ref bk_, .ref bp_, .ref bi_, .ref bl_, .int it_, .int ub_, .int db_, .ref bx_, .int tp_, .int nx_, .int tk_, .int pl_, .int vl_, .int fa_, .ref bc_, .ref bf_])), (bn_, .inl (cy 0, 24, .inl (nbF nb_))), (bt_, .inl (cy 0, 6, .inl (atT (nb_ i_) k_ n_))), (bf_, .inl (cy 0, 6, .inl (fdA (nb_ i_) k_ fd_ (n_ + 1))))] H := hP
                          have hD : va_D A [(b0_, .inr (9, [.int th_, .long tr_, .ref bn_, .ref bt_, .ref bs_, .ref bk_, .ref bp_, .ref bi_, .ref bl_, .int it_, .int ub_, .int db_, .ref bx_, .int tp_, .int nx_, .int tk_, .int pl_, .int vl_, .int fa_, .ref bc_, .ref bf_])), (bn_, .inl (cy 0, 24, .inl (nbF nb_))), (bt_, .inl (cy 0, 6, .inl (atT (nb_ i_) k_ n_))), (bf_, .inl (cy 0, 6, .inl (fdA (nb_ i_) k_ fd_ (n_ + 1))))] := hD
                          rw [show ((3, .int (chC k_ n_ 6)) : Nat × Value) = (3, .int (bsA (nb_ i_) k_ (n_ + 1))) from congrArg (fun y9 => ((3, Value.int y9) : Nat × Value)) (show chC k_ n_ 6 = bsA (nb_ i_) k_ (n_ + 1) from (by first | (refine (if_neg ?_).symm; exact fun z => c_140 z.1) | (refine (if_neg ?_).symm; exact fun z => z.2.1 c_146) | (refine (if_neg ?_).symm; exact fun z => z.2.2 c_155) | (refine (if_pos ?_).symm; exact ⟨c_140, c_146, c_155⟩)))] at hl
                          exact ih_6 (n_ + 1) (atT (nb_ i_) k_ n_) (by first | assumption | omega | decide) (by omega) H locs hP hD hS ls (lv_sub hl [0, 2, 6, 7, 8] rfl)
                        · refine lv_aload_n hx hb dX9_allTheSame_171 rfl (lv_at hl 6 rfl) ?_
                          refine va_get (D := D) (ci := 9) (v := .ref bf_) (C := RX9) (T := TX9) (N := 21) hx hb hts winX9 hown hK hP 0 rfl rfl 20 (by decide) wf45 (fun _ h9 => h9) rfl dX9_allTheSame_172 ?_
                          refine lv_iload hx hb dX9_allTheSame_175 (lv_at hl 0 rfl) ?_
                          refine lv_aload_n hx hb dX9_allTheSame_177 rfl (lv_at hl 6 rfl) ?_
                          refine va_get (D := D) (ci := 9) (v := .ref bt_) (C := RX9) (T := TX9) (N := 21) hx hb hts winX9 hown hK hP 0 rfl rfl 3 (by decide) wf13 (fun _ h9 => h9) rfl dX9_allTheSame_178 ?_
                          refine lv_iload hx hb dX9_allTheSame_181 (lv_at hl 0 rfl) ?_
                          refine al_i hx hb hK hP 2 rfl j_ (rfl) (by omega) (by decide) dX9_allTheSame_183 ?_
                          refine as_i (x := (atT (nb_ i_) k_ n_) j_) hx hb hK hP hD hS 3 rfl j_ (rfl) (by omega) (by decide) dX9_allTheSame_184 (fun H locs hP hD hS => ?_)
                          have hP : va_P D vwCl [(b0_, .inr (9, [.int th_, .long tr_, .ref bn_, .ref bt_, .ref bs_, .ref bk_, .ref bp_, .ref bi_, .ref bl_, .int it_, .int ub_, .int db_, .ref bx_, .int tp_, .int nx_, .int tk_, .int pl_, .int vl_, .int fa_, .ref bc_, .ref bf_])), (bn_, .inl (cy 0, 24, .inl (nbF nb_))), (bt_, .inl (cy 0, 6, .inl (atT (nb_ i_) k_ n_))), (bf_, .inl (cy 0, 6, .inl (upd (fil (atT (nb_ i_) k_ n_) (fdA (nb_ i_) k_ fd_ n_) j_) j_ ((atT (nb_ i_) k_ n_) j_))))] H := hP
                          have hD : va_D A [(b0_, .inr (9, [.int th_, .long tr_, .ref bn_, .ref bt_, .ref bs_, .ref bk_, .ref bp_, .ref bi_, .ref bl_, .int it_, .int ub_, .int db_, .ref bx_, .int tp_, .int nx_, .int tk_, .int pl_, .int vl_, .int fa_, .ref bc_, .ref bf_])), (bn_, .inl (cy 0, 24, .inl (nbF nb_))), (bt_, .inl (cy 0, 6, .inl (atT (nb_ i_) k_ n_))), (bf_, .inl (cy 0, 6, .inl (upd (fil (atT (nb_ i_) k_ n_) (fdA (nb_ i_) k_ fd_ n_) j_) j_ ((atT (nb_ i_) k_ n_) j_))))] := hD
                          refine lv_iinc (v := nI (j_ + 1)) (lv' := [(8, .int (nI (j_ + 1))), (3, .int (chC k_ n_ 6)), (7, .int (bI (mayC (nb_ i_) k_ n_ 6 = true))), (6, .int (chC k_ n_ 6)), (5, .int (nI (n_ / 13 ^ posC k_ 6))), (4, .int (nI n_)), (0, .ref b0_), (1, .int (nI i_)), (2, .int (nI k_))]) hx hb dX9_allTheSame_185 hl (k := 0) rfl (nI_add j_ 1) (by decide) rfl (fun ls hl => ?_)
                          refine lv_goto (tgt := 164) hx hb dX9_allTheSame_188 (by decide) ?_
                          obtain ⟨hP, hD⟩ := ro_ws (g := fil (atT (nb_ i_) k_ n_) (fdA (nb_ i_) k_ fd_ n_) (j_ + 1)) hP hD 3 rfl (fun z9 _ => congrFun (show upd (fil (atT (nb_ i_) k_ n_) (fdA (nb_ i_) k_ fd_ n_) j_) j_ ((atT (nb_ i_) k_ n_) j_) = fil (atT (nb_ i_) k_ n_) (fdA (nb_ i_) k_ fd_ n_) (j_ + 1) from fil_s _ _ _) z9)
                          have hP : va_P D vwCl [(b0_, .inr (9, [.int th_, .long tr_, .ref bn_, .ref bt_, .ref bs_, .ref bk_, .ref bp_, .ref bi_, .ref bl_, .int it_, .int ub_, .int db_, .ref bx_, .int tp_, .int nx_, .int tk_, .int pl_, .int vl_, .int fa_, .ref bc_, .ref bf_])), (bn_, .inl (cy 0, 24, .inl (nbF nb_))), (bt_, .inl (cy 0, 6, .inl (atT (nb_ i_) k_ n_))), (bf_, .inl (cy 0, 6, .inl (fil (atT (nb_ i_) k_ n_) (fdA (nb_ i_) k_ fd_ n_) (j_ + 1))))] H := hP
                          have hD : va_D A [(b0_, .inr (9, [.int th_, .long tr_, .ref bn_, .ref bt_, .ref bs_, .ref bk_, .ref bp_, .ref bi_, .ref bl_, .int it_, .int ub_, .int db_, .ref bx_, .int tp_, .int nx_, .int tk_, .int pl_, .int vl_, .int fa_, .ref bc_, .ref bf_])), (bn_, .inl (cy 0, 24, .inl (nbF nb_))), (bt_, .inl (cy 0, 6, .inl (atT (nb_ i_) k_ n_))), (bf_, .inl (cy 0, 6, .inl (fil (atT (nb_ i_) k_ n_) (fdA (nb_ i_) k_ fd_ n_) (j_ + 1))))] := hD
                          exact ih_164 (j_ + 1) (by first | assumption | omega | decide) (by omega) H locs hP hD hS ls (lv_sub hl [0, 1, 2, 3, 4, 5, 6, 7, 8] rfl)
                    obtain ⟨hP, hD⟩ := ro_ws (g := fil (atT (nb_ i_) k_ n_) (fdA (nb_ i_) k_ fd_ n_) 0) hP hD 3 rfl (fun z9 _ => congrFun (show fdA (nb_ i_) k_ fd_ n_ = fil (atT (nb_ i_) k_ n_) (fdA (nb_ i_) k_ fd_ n_) 0 from (fil_0 _ _).symm) z9)
                    have hP : va_P D vwCl [(b0_, .inr (9, [.int th_, .long tr_, .ref bn_, .ref bt_, .ref bs_, .ref bk_, .ref bp_, .ref bi_, .ref bl_, .int it_, .int ub_, .int db_, .ref bx_, .int tp_, .int nx_, .int tk_, .int pl_, .int vl_, .int fa_, .ref bc_, .ref bf_])), (bn_, .inl (cy 0, 24, .inl (nbF nb_))), (bt_, .inl (cy 0, 6, .inl (atT (nb_ i_) k_ n_))), (bf_, .inl (cy 0, 6, .inl (fil (atT (nb_ i_) k_ n_) (fdA (nb_ i_) k_ fd_ n_) 0)))] H := hP
                    have hD : va_D A [(b0_, .inr (9, [.int th_, .long tr_, .ref bn_, .ref bt_, .ref bs_, .ref bk_, .ref bp_, .ref bi_, .ref bl_, .int it_, .int ub_, .int db_, .ref bx_, .int tp_, .int nx_, .int tk_, .int pl_, .int vl_, .int fa_, .ref bc_, .ref bf_])), (bn_, .inl (cy 0, 24, .inl (nbF nb_))), (bt_, .inl (cy 0, 6, .inl (atT (nb_ i_) k_ n_))), (bf_, .inl (cy 0, 6, .inl (fil (atT (nb_ i_) k_ n_) (fdA (nb_ i_) k_ fd_ n_) 0)))] := hD
                    exact L_164 _ 0 (by first | assumption | omega | decide) (Nat.lt_succ_self _) H locs hP hD hS ls (lv_sub hl [0, 1, 2, 3, 4, 5, 6, 7, 8] rfl)
            · have hq1 : 1 ≤ q_ := by rcases Nat.eq_zero_or_pos q_ with y | y; exact absurd ((sub1_lt (by omega)).mpr y) c_28; exact y
              have hsub : nI q_ - 1 = nI (q_ - 1) := pk_sub (a := q_) (b := 1) hq1
              have h5c : 5 - c1_ = q_ - 1 := by omega
              rw [hsub] at hl
              refine lv_iload hx hb dX9_allTheSame_31 (lv_at hl 0 rfl) ?_
              refine lv_iload_n hx hb dX9_allTheSame_33 rfl (lv_at hl 8 rfl) ?_
              refine cn_ne (tgt := 48) hx hb (q_ - 1) k_ rfl rfl (by omega) (by omega) dX9_allTheSame_34 (by decide) (fun c_34 => ?_) (fun c_34 => ?_)
              · refine lv_iload hx hb dX9_allTheSame_48 (lv_at hl 3 rfl) ?_
                refine lv_bipush (v := 13) hx hb dX9_allTheSame_50 (by decide) ?_
                refine lv_irem hx hb dX9_allTheSame_52 (by decide) ?_
                refine lv_eqi (y := nI (n_ / 13 ^ posC k_ c1_ % 13)) (rem_n (Nat.lt_of_le_of_lt (Nat.div_le_self _ _) (by omega)) (by decide) (by decide)) ?_
                refine lv_bipush (v := 6) hx hb dX9_allTheSame_53 (by decide) ?_
                refine lv_isub hx hb dX9_allTheSame_55 ?_
                refine lv_eqi (y := byC k_ n_ c1_) (rfl) ?_
                refine lv_istore (lv' := [(9, .int (byC k_ n_ c1_)), (8, .int (nI (q_ - 1))), (7, .int (bI (mayC (nb_ i_) k_ n_ c1_ = true))), (6, .int (chC k_ n_ c1_)), (5, .int (nI (n_ / 13 ^ posC k_ c1_))), (4, .int (nI n_)), (3, .int (bsA (nb_ i_) k_ n_)), (0, .ref b0_), (1, .int (nI i_)), (2, .int (nI k_))]) hx hb dX9_allTheSame_56 hl (by decide) rfl (fun ls hl => ?_)
                refine lv_iload hx hb dX9_allTheSame_58 (lv_at hl 4 rfl) ?_
                refine lv_bipush (v := 13) hx hb dX9_allTheSame_60 (by decide) ?_
                refine lv_idiv hx hb dX9_allTheSame_62 (by decide) ?_
                refine lv_eqi (y := nI (n_ / 13 ^ posC k_ c1_ / 13)) (pk_div (d := 13) (Nat.lt_of_le_of_lt (Nat.div_le_self _ _) (by omega)) (by decide) (by decide)) ?_
                refine lv_istore (lv' := [(5, .int (nI (n_ / 13 ^ posC k_ c1_ / 13))), (9, .int (byC k_ n_ c1_)), (8, .int (nI (q_ - 1))), (7, .int (bI (mayC (nb_ i_) k_ n_ c1_ = true))), (6, .int (chC k_ n_ c1_)), (4, .int (nI n_)), (3, .int (bsA (nb_ i_) k_ n_)), (0, .ref b0_), (1, .int (nI i_)), (2, .int (nI k_))]) hx hb dX9_allTheSame_63 hl (by decide) rfl (fun ls hl => ?_)
                refine lv_aload_n hx hb dX9_allTheSame_65 rfl (lv_at hl 7 rfl) ?_
                refine va_get (D := D) (ci := 9) (v := .ref bt_) (C := RX9) (T := TX9) (N := 21) hx hb hts winX9 hown hK hP 0 rfl rfl 3 (by decide) wf13 (fun _ h9 => h9) rfl dX9_allTheSame_66 ?_
                refine lv_iload hx hb dX9_allTheSame_69 (lv_at hl 2 rfl) ?_
                refine lv_aload_n hx hb dX9_allTheSame_71 rfl (lv_at hl 7 rfl) ?_
                refine va_get (D := D) (ci := 9) (v := .ref bn_) (C := RX9) (T := TX9) (N := 21) hx hb hts winX9 hown hK hP 0 rfl rfl 2 (by decide) wf7 (fun _ h9 => h9) rfl dX9_allTheSame_72 ?_
                refine lv_bipush (v := 6) hx hb dX9_allTheSame_75 (by decide) ?_
                refine lv_iload_n hx hb dX9_allTheSame_77 rfl (lv_at hl 8 rfl) ?_
                refine lv_imul hx hb dX9_allTheSame_78 ?_
                refine lv_eqi (y := nI (6 * i_)) (pk_mul 6 i_) ?_
                refine lv_iload hx hb dX9_allTheSame_79 (lv_at hl 2 rfl) ?_
                refine lv_iadd hx hb dX9_allTheSame_81 ?_
                refine lv_eqi (y := nI ((6 * i_) + (q_ - 1))) (nI_add (6 * i_) (q_ - 1)) ?_
                refine al_i hx hb hK hP 1 rfl ((6 * i_) + (q_ - 1)) (rfl) (by omega) (by decide) dX9_allTheSame_82 ?_
                refine lv_eqi (y := nb_ i_ (q_ - 1)) (nbF_at nb_ i_ (by omega)) ?_
                refine lv_iload hx hb dX9_allTheSame_83 (lv_at hl 1 rfl) ?_
                refine lv_iadd hx hb dX9_allTheSame_85 ?_
                refine as_i (x := (nb_ i_ (q_ - 1)) + (byC k_ n_ c1_)) hx hb hK hP hD hS 2 rfl (q_ - 1) (rfl) (by omega) (by decide) dX9_allTheSame_86 (fun H locs hP hD hS => ?_)
                have hP : va_P D vwCl [(b0_, .inr (9, [.int th_, .long tr_, .ref bn_, .ref bt_, .ref bs_, .ref bk_, .ref bp_, .ref bi_, .ref bl_, .int it_, .int ub_, .int db_, .ref bx_, .int tp_, .int nx_, .int tk_, .int pl_, .int vl_, .int fa_, .ref bc_, .ref bf_])), (bn_, .inl (cy 0, 24, .inl (nbF nb_))), (bt_, .inl (cy 0, 6, .inl (upd (top6 (atT (nb_ i_) k_ n_) ftc_ c1_) (q_ - 1) ((nb_ i_ (q_ - 1)) + (byC k_ n_ c1_))))), (bf_, .inl (cy 0, 6, .inl (fdA (nb_ i_) k_ fd_ n_)))] H := hP
                have hD : va_D A [(b0_, .inr (9, [.int th_, .long tr_, .ref bn_, .ref bt_, .ref bs_, .ref bk_, .ref bp_, .ref bi_, .ref bl_, .int it_, .int ub_, .int db_, .ref bx_, .int tp_, .int nx_, .int tk_, .int pl_, .int vl_, .int fa_, .ref bc_, .ref bf_])), (bn_, .inl (cy 0, 24, .inl (nbF nb_))), (bt_, .inl (cy 0, 6, .inl (upd (top6 (atT (nb_ i_) k_ n_) ftc_ c1_) (q_ - 1) ((nb_ i_ (q_ - 1)) + (byC k_ n_ c1_))))), (bf_, .inl (cy 0, 6, .inl (fdA (nb_ i_) k_ fd_ n_)))] := hD
                refine lv_iload hx hb dX9_allTheSame_87 (lv_at hl 4 rfl) ?_
                refine lv_iload hx hb dX9_allTheSame_89 (lv_at hl 1 rfl) ?_
                have J_91_177 : ∀ (z91 : Int32), z91 = (if 0 ≤ (byC k_ n_ c1_) then (byC k_ n_ c1_) else (-(byC k_ n_ c1_))) → ∀ (H : Heap) (locs : List Loc), va_P D vwCl [(b0_, .inr (9, [.int th_, .long tr_, .ref bn_, .ref bt_, .ref bs_, .ref bk_, .ref bp_, .ref bi_, .ref bl_, .int it_, .int ub_, .int db_, .ref bx_, .int tp_, .int nx_, .int tk_, .int pl_, .int vl_, .int fa_, .ref bc_, .ref bf_])), (bn_, .inl (cy 0, 24, .inl (nbF nb_))), (bt_, .inl (cy 0, 6, .inl (upd (top6 (atT (nb_ i_) k_ n_) ftc_ c1_) (q_ - 1) ((nb_ i_ (q_ - 1)) + (byC k_ n_ c1_))))), (bf_, .inl (cy 0, 6, .inl (fdA (nb_ i_) k_ fd_ n_)))] H → va_D A [(b0_, .inr (9, [.int th_, .long tr_, .ref bn_, .ref bt_, .ref bs_, .ref bk_, .ref bp_, .ref bi_, .ref bl_, .int it_, .int ub_, .int db_, .ref bx_, .int tp_, .int nx_, .int tk_, .int pl_, .int vl_, .int fa_, .ref bc_, .ref bf_])), (bn_, .inl (cy 0, 24, .inl (nbF nb_))), (bt_, .inl (cy 0, 6, .inl (upd (top6 (atT (nb_ i_) k_ n_) ftc_ c1_) (q_ - 1) ((nb_ i_ (q_ - 1)) + (byC k_ n_ c1_))))), (bf_, .inl (cy 0, 6, .inl (fdA (nb_ i_) k_ fd_ n_)))] → va_S A s.heap H locs → ∀ (ls : Array Slot), lv_has ls 10 [(5, .int (nI (n_ / 13 ^ posC k_ c1_ / 13))), (9, .int (byC k_ n_ c1_)), (8, .int (nI (q_ - 1))), (7, .int (bI (mayC (nb_ i_) k_ n_ c1_ = true))), (6, .int (chC k_ n_ c1_)), (4, .int (nI n_)), (3, .int (bsA (nb_ i_) k_ n_)), (0, .ref b0_), (1, .int (nI i_)), (2, .int (nI k_))] → W p l e rmkX9_allTheSame s m args below meth c H locs 0 0 Q (F0 m 102 ls [.int z91, .int (chC k_ n_ c1_)]) := by
                  intro z91 ez91 H locs hP hD hS ls hl
                  refine lv_iadd hx hb dX9_allTheSame_102 ?_
                  refine lv_istore (lv' := [(6, .int ((chC k_ n_ c1_) + z91)), (5, .int (nI (n_ / 13 ^ posC k_ c1_ / 13))), (9, .int (byC k_ n_ c1_)), (8, .int (nI (q_ - 1))), (7, .int (bI (mayC (nb_ i_) k_ n_ c1_ = true))), (4, .int (nI n_)), (3, .int (bsA (nb_ i_) k_ n_)), (0, .ref b0_), (1, .int (nI i_)), (2, .int (nI k_))]) hx hb dX9_allTheSame_103 hl (by decide) rfl (fun ls hl => ?_)
                  refine lv_iload hx hb dX9_allTheSame_105 (lv_at hl 4 rfl) ?_
                  have J_107_182 : ∀ (H : Heap) (locs : List Loc), va_P D vwCl [(b0_, .inr (9, [.int th_, .long tr_, .ref bn_, .ref bt_, .ref bs_, .ref bk_, .ref bp_, .ref bi_, .ref bl_, .int it_, .int ub_, .int db_, .ref bx_, .int tp_, .int nx_, .int tk_, .int pl_, .int vl_, .int fa_, .ref bc_, .ref bf_])), (bn_, .inl (cy 0, 24, .inl (nbF nb_))), (bt_, .inl (cy 0, 6, .inl (upd (top6 (atT (nb_ i_) k_ n_) ftc_ c1_) (q_ - 1) ((nb_ i_ (q_ - 1)) + (byC k_ n_ c1_))))), (bf_, .inl (cy 0, 6, .inl (fdA (nb_ i_) k_ fd_ n_)))] H → va_D A [(b0_, .inr (9, [.int th_, .long tr_, .ref bn_, .ref bt_, .ref bs_, .ref bk_, .ref bp_, .ref bi_, .ref bl_, .int it_, .int ub_, .int db_, .ref bx_, .int tp_, .int nx_, .int tk_, .int pl_, .int vl_, .int fa_, .ref bc_, .ref bf_])), (bn_, .inl (cy 0, 24, .inl (nbF nb_))), (bt_, .inl (cy 0, 6, .inl (upd (top6 (atT (nb_ i_) k_ n_) ftc_ c1_) (q_ - 1) ((nb_ i_ (q_ - 1)) + (byC k_ n_ c1_))))), (bf_, .inl (cy 0, 6, .inl (fdA (nb_ i_) k_ fd_ n_)))] → va_S A s.heap H locs → ∀ (ls : Array Slot), lv_has ls 10 [(6, .int ((chC k_ n_ c1_) + z91)), (5, .int (nI (n_ / 13 ^ posC k_ c1_ / 13))), (9, .int (byC k_ n_ c1_)), (8, .int (nI (q_ - 1))), (7, .int (bI (mayC (nb_ i_) k_ n_ c1_ = true))), (4, .int (nI n_)), (3, .int (bsA (nb_ i_) k_ n_)), (0, .ref b0_), (1, .int (nI i_)), (2, .int (nI k_))] → W p l e rmkX9_allTheSame s m args below meth c H locs 0 0 Q (F0 m 130 ls [.int (bI ((mayC (nb_ i_) k_ n_ c1_ = true) ∧ (inR (nb_ i_ (q_ - 1) + byC k_ n_ c1_) (bot (nI (q_ - 1))) 9)))]) := by
                    intro H locs hP hD hS ls hl
                    refine lv_eqi (y := bI (mayC (nb_ i_) k_ n_ (c1_ + 1) = true)) (bI_congr (by rw [← h5c]; exact mayC_s _ _ _ _ (by omega))) ?_
                    refine lv_istore (lv' := [(7, .int (bI (mayC (nb_ i_) k_ n_ (c1_ + 1) = true))), (6, .int ((chC k_ n_ c1_) + z91)), (5, .int (nI (n_ / 13 ^ posC k_ c1_ / 13))), (9, .int (byC k_ n_ c1_)), (8, .int (nI (q_ - 1))), (4, .int (nI n_)), (3, .int (bsA (nb_ i_) k_ n_)), (0, .ref b0_), (1, .int (nI i_)), (2, .int (nI k_))]) hx hb dX9_allTheSame_130 hl (by decide) rfl (fun ls hl => ?_)
                    refine lv_iinc (v := nI (q_ - 1) - 1) (lv' := [(8, .int (nI (q_ - 1) - 1)), (7, .int (bI (mayC (nb_ i_) k_ n_ (c1_ + 1) = true))), (6, .int ((chC k_ n_ c1_) + z91)), (5, .int (nI (n_ / 13 ^ posC k_ c1_ / 13))), (9, .int (byC k_ n_ c1_)), (4, .int (nI n_)), (3, .int (bsA (nb_ i_) k_ n_)), (0, .ref b0_), (1, .int (nI i_)), (2, .int (nI k_))]) hx hb dX9_allTheSame_132 hl (k := 4) rfl (add_m1 _) (by decide) rfl (fun ls hl => ?_)
                    refine lv_goto (tgt := 26) hx hb dX9_allTheSame_135 (by decide) ?_
                    obtain ⟨hP, hD⟩ := ro_ws (g := top6 (atT (nb_ i_) k_ n_) ftc_ (c1_ + 1)) hP hD 2 rfl (fun z hz => by first | (rw [show q_ - 1 = 5 - c1_ by omega]; exact top6_s _ _ (by omega) (atT_a (by omega)).symm z hz) | (rw [show q_ - 1 = 5 - c1_ by omega]; exact top6_s _ _ (by omega) (atT_b (by omega) (by omega)).symm z hz))
                    have hP : va_P D vwCl [(b0_, .inr (9, [.int th_, .long tr_, .ref bn_, .ref bt_, .ref bs_, .ref bk_, .ref bp_, .ref bi_, .ref bl_, .int it_, .int ub_, .int db_, .ref bx_, .int tp_, .int nx_, .int tk_, .int pl_, .int vl_, .int fa_, .ref bc_, .ref bf_])), (bn_, .inl (cy 0, 24, .inl (nbF nb_))), (bt_, .inl (cy 0, 6, .inl (top6 (atT (nb_ i_) k_ n_) ftc_ (c1_ + 1)))), (bf_, .inl (cy 0, 6, .inl (fdA (nb_ i_) k_ fd_ n_)))] H := hP
                    have hD : va_D A [(b0_, .inr (9, [.int th_, .long tr_, .ref bn_, .ref bt_, .ref bs_, .ref bk_, .ref bp_, .ref bi_, .ref bl_, .int it_, .int ub_, .int db_, .ref bx_, .int tp_, .int nx_, .int tk_, .int pl_, .int vl_, .int fa_, .ref bc_, .ref bf_])), (bn_, .inl (cy 0, 24, .inl (nbF nb_))), (bt_, .inl (cy 0, 6, .inl (top6 (atT (nb_ i_) k_ n_) ftc_ (c1_ + 1)))), (bf_, .inl (cy 0, 6, .inl (fdA (nb_ i_) k_ fd_ n_)))] := hD
                    have hpos : posC k_ (c1_ + 1) = if 5 - c1_ = k_ then posC k_ c1_ else posC k_ c1_ + 1 := rfl
                    have hch : chC k_ n_ (c1_ + 1) = if 5 - c1_ = k_ then chC k_ n_ c1_ else chC k_ n_ c1_ + (if 0 ≤ byC k_ n_ c1_ then byC k_ n_ c1_ else -byC k_ n_ c1_) := rfl
                    rw [show ((6, .int ((chC k_ n_ c1_) + z91)) : Nat × Value) = (6, .int (chC k_ n_ (c1_ + 1))) from congrArg (fun y9 => ((6, Value.int y9) : Nat × Value)) (show (chC k_ n_ c1_) + z91 = chC k_ n_ (c1_ + 1) from (by first | (rw [hch, if_pos (by omega)]; done) | rw [hch, if_neg (by omega), ez91]))] at hl
                    rw [show ((5, .int (nI (n_ / 13 ^ posC k_ c1_ / 13))) : Nat × Value) = (5, .int (nI (n_ / 13 ^ posC k_ (c1_ + 1)))) from congrArg (fun y9 => ((5, Value.int y9) : Nat × Value)) (show nI (n_ / 13 ^ posC k_ c1_ / 13) = nI (n_ / 13 ^ posC k_ (c1_ + 1)) from (by first | (rw [hpos, if_pos (by omega)]; done) | rw [hpos, if_neg (by omega), Nat.pow_succ, Nat.div_div_eq_div_mul]))] at hl
                    exact ih_26 (c1_ + 1) (q_ - 1) (by first | assumption | omega | decide) (by omega) H locs hP hD hS ls (lv_sub hl [0, 1, 2, 3, 5, 6, 7, 8, 9] rfl)
                  refine bz_eq (tgt := 129) hx hb dX9_allTheSame_107 (by decide) (fun c_107 => ?_) (fun c_107 => ?_)
                  · refine lv_iconst (v := 0) hx hb dX9_allTheSame_129 (by decide) ?_
                    refine lv_eqi (y := bI ((mayC (nb_ i_) k_ n_ c1_ = true) ∧ (inR (nb_ i_ (q_ - 1) + byC k_ n_ c1_) (bot (nI (q_ - 1))) 9))) (bI_congr (pd_f c_107)) ?_
                    exact J_107_182 H locs hP hD hS ls (lv_sub hl [0, 1, 2, 3, 4, 5, 6, 7, 8, 9] rfl)
                  · refine lv_iload hx hb dX9_allTheSame_110 (lv_at hl 3 rfl) ?_
                    refine lv_aload_n hx hb dX9_allTheSame_112 rfl (lv_at hl 7 rfl) ?_
                    refine va_get (D := D) (ci := 9) (v := .ref bt_) (C := RX9) (T := TX9) (N := 21) hx hb hts winX9 hown hK hP 0 rfl rfl 3 (by decide) wf13 (fun _ h9 => h9) rfl dX9_allTheSame_113 ?_
                    refine lv_iload hx hb dX9_allTheSame_116 (lv_at hl 3 rfl) ?_
                    refine al_i hx hb hK hP 2 rfl (q_ - 1) (rfl) (by omega) (by decide) dX9_allTheSame_118 ?_
                    refine lv_eqi (y := nb_ i_ (q_ - 1) + byC k_ n_ c1_) (upd_at _ _ _) ?_
                    refine ca_S (n := 2) (rest := []) (wr := [(b0_, .inr (9, [.int th_, .long tr_, .ref bn_, .ref bt_, .ref bs_, .ref bk_, .ref bp_, .ref bi_, .ref bl_, .int it_, .int ub_, .int db_, .ref bx_, .int tp_, .int nx_, .int tk_, .int pl_, .int vl_, .int fa_, .ref bc_, .ref bf_])), (bn_, .inl (cy 0, 24, .inl (nbF nb_))), (bt_, .inl (cy 0, 6, .inl (upd (top6 (atT (nb_ i_) k_ n_) ftc_ c1_) (q_ - 1) ((nb_ i_ (q_ - 1)) + (byC k_ n_ c1_))))), (bf_, .inl (cy 0, 6, .inl (fdA (nb_ i_) k_ fd_ n_)))]) F hK hE hA hP hD hS hl.1 (kX9_mayBe (l := l) (D := D) (cy := cy) (sa := sa) (nI (q_ - 1)) (nb_ i_ (q_ - 1) + byC k_ n_ c1_)) gX9_allTheSame_X9_mayBe rfl rfl rfl (by decide +kernel) ⟨by decide, by decide⟩ [] [0, 1, 2, 3] rfl rfl rfl rfl (by decide) rfl rfl (Nat.le_of_ble_eq_true rfl) dX9_allTheSame_119 ⟨by decide, by decide⟩ (fun v9 u9 H locs hv hP hD hS => ?_)
                    subst hv
                    have hP : va_P D vwCl [(b0_, .inr (9, [.int th_, .long tr_, .ref bn_, .ref bt_, .ref bs_, .ref bk_, .ref bp_, .ref bi_, .ref bl_, .int it_, .int ub_, .int db_, .ref bx_, .int tp_, .int nx_, .int tk_, .int pl_, .int vl_, .int fa_, .ref bc_, .ref bf_])), (bn_, .inl (cy 0, 24, .inl (nbF nb_))), (bt_, .inl (cy 0, 6, .inl (upd (top6 (atT (nb_ i_) k_ n_) ftc_ c1_) (q_ - 1) ((nb_ i_ (q_ - 1)) + (byC k_ n_ c1_))))), (bf_, .inl (cy 0, 6, .inl (fdA (nb_ i_) k_ fd_ n_)))] H := hP
                    have hD : va_D A [(b0_, .inr (9, [.int th_, .long tr_, .ref bn_, .ref bt_, .ref bs_, .ref bk_, .ref bp_, .ref bi_, .ref bl_, .int it_, .int ub_, .int db_, .ref bx_, .int tp_, .int nx_, .int tk_, .int pl_, .int vl_, .int fa_, .ref bc_, .ref bf_])), (bn_, .inl (cy 0, 24, .inl (nbF nb_))), (bt_, .inl (cy 0, 6, .inl (upd (top6 (atT (nb_ i_) k_ n_) ftc_ c1_) (q_ - 1) ((nb_ i_ (q_ - 1)) + (byC k_ n_ c1_))))), (bf_, .inl (cy 0, 6, .inl (fdA (nb_ i_) k_ fd_ n_)))] := hD
                    refine W.eq (g2 := F0 m 122 ls [.int (bI (inR (nb_ i_ (q_ - 1) + byC k_ n_ c1_) (bot (nI (q_ - 1))) 9))]) rfl ?_
                    refine bz_eq (tgt := 129) hx hb dX9_allTheSame_122 (by decide) (fun c_122 => ?_) (fun c_122 => ?_)
                    · refine lv_iconst (v := 0) hx hb dX9_allTheSame_129 (by decide) ?_
                      refine lv_eqi (y := bI ((mayC (nb_ i_) k_ n_ c1_ = true) ∧ (inR (nb_ i_ (q_ - 1) + byC k_ n_ c1_) (bot (nI (q_ - 1))) 9))) (bI_congr (pd_t c_107 (pa_f c_122))) ?_
                      exact J_107_182 H locs hP hD hS ls (lv_sub hl [0, 1, 2, 3, 4, 5, 6, 7, 8, 9] rfl)
                    · refine lv_iconst (v := 1) hx hb dX9_allTheSame_125 (by decide) ?_
                      refine lv_goto (tgt := 130) hx hb dX9_allTheSame_126 (by decide) ?_
                      refine lv_eqi (y := bI ((mayC (nb_ i_) k_ n_ c1_ = true) ∧ (inR (nb_ i_ (q_ - 1) + byC k_ n_ c1_) (bot (nI (q_ - 1))) 9))) (bI_congr (pd_t c_107 (pa_t c_122))) ?_
                      exact J_107_182 H locs hP hD hS ls (lv_sub hl [0, 1, 2, 3, 4, 5, 6, 7, 8, 9] rfl)
                refine lv_if_ge (tgt := 100) hx hb dX9_allTheSame_91 (by decide) (fun c_91 => ?_) (fun c_91 => ?_)
                · refine lv_iload hx hb dX9_allTheSame_100 (lv_at hl 1 rfl) ?_
                  exact J_91_177 _ ((if_pos c_91).symm) H locs hP hD hS ls (lv_sub hl [0, 1, 2, 3, 4, 5, 6, 7, 8, 9] rfl)
                · refine lv_iload hx hb dX9_allTheSame_94 (lv_at hl 1 rfl) ?_
                  refine lv_ineg hx hb dX9_allTheSame_96 ?_
                  refine lv_goto (tgt := 102) hx hb dX9_allTheSame_97 (by decide) ?_
                  exact J_91_177 _ ((if_neg c_91).symm) H locs hP hD hS ls (lv_sub hl [0, 1, 2, 3, 4, 5, 6, 7, 8, 9] rfl)
              · refine lv_aload_n hx hb dX9_allTheSame_37 rfl (lv_at hl 6 rfl) ?_
                refine va_get (D := D) (ci := 9) (v := .ref bt_) (C := RX9) (T := TX9) (N := 21) hx hb hts winX9 hown hK hP 0 rfl rfl 3 (by decide) wf13 (fun _ h9 => h9) rfl dX9_allTheSame_38 ?_
                refine lv_iload hx hb dX9_allTheSame_41 (lv_at hl 0 rfl) ?_
                refine lv_iconst (v := 0) hx hb dX9_allTheSame_43 (by decide) ?_
                refine as_i (x := 0) hx hb hK hP hD hS 2 rfl (q_ - 1) (rfl) (by omega) (by decide) dX9_allTheSame_44 (fun H locs hP hD hS => ?_)
                have hP : va_P D vwCl [(b0_, .inr (9, [.int th_, .long tr_, .ref bn_, .ref bt_, .ref bs_, .ref bk_, .ref bp_, .ref bi_, .ref bl_, .int it_, .int ub_, .int db_, .ref bx_, .int tp_, .int nx_, .int tk_, .int pl_, .int vl_, .int fa_, .ref bc_, .ref bf_])), (bn_, .inl (cy 0, 24, .inl (nbF nb_))), (bt_, .inl (cy 0, 6, .inl (upd (top6 (atT (nb_ i_) k_ n_) ftc_ c1_) (q_ - 1) 0))), (bf_, .inl (cy 0, 6, .inl (fdA (nb_ i_) k_ fd_ n_)))] H := hP
                have hD : va_D A [(b0_, .inr (9, [.int th_, .long tr_, .ref bn_, .ref bt_, .ref bs_, .ref bk_, .ref bp_, .ref bi_, .ref bl_, .int it_, .int ub_, .int db_, .ref bx_, .int tp_, .int nx_, .int tk_, .int pl_, .int vl_, .int fa_, .ref bc_, .ref bf_])), (bn_, .inl (cy 0, 24, .inl (nbF nb_))), (bt_, .inl (cy 0, 6, .inl (upd (top6 (atT (nb_ i_) k_ n_) ftc_ c1_) (q_ - 1) 0))), (bf_, .inl (cy 0, 6, .inl (fdA (nb_ i_) k_ fd_ n_)))] := hD
                refine lv_goto (tgt := 132) hx hb dX9_allTheSame_45 (by decide) ?_
                refine lv_iinc (v := nI (q_ - 1) - 1) (lv' := [(8, .int (nI (q_ - 1) - 1)), (7, .int (bI (mayC (nb_ i_) k_ n_ c1_ = true))), (6, .int (chC k_ n_ c1_)), (5, .int (nI (n_ / 13 ^ posC k_ c1_))), (4, .int (nI n_)), (3, .int (bsA (nb_ i_) k_ n_)), (0, .ref b0_), (1, .int (nI i_)), (2, .int (nI k_))]) hx hb dX9_allTheSame_132 hl (k := 0) rfl (add_m1 _) (by decide) rfl (fun ls hl => ?_)
                refine lv_goto (tgt := 26) hx hb dX9_allTheSame_135 (by decide) ?_
                obtain ⟨hP, hD⟩ := ro_ws (g := top6 (atT (nb_ i_) k_ n_) ftc_ (c1_ + 1)) hP hD 2 rfl (fun z hz => by first | (rw [show q_ - 1 = 5 - c1_ by omega]; exact top6_s _ _ (by omega) (atT_a (by omega)).symm z hz) | (rw [show q_ - 1 = 5 - c1_ by omega]; exact top6_s _ _ (by omega) (atT_b (by omega) (by omega)).symm z hz))
                have hP : va_P D vwCl [(b0_, .inr (9, [.int th_, .long tr_, .ref bn_, .ref bt_, .ref bs_, .ref bk_, .ref bp_, .ref bi_, .ref bl_, .int it_, .int ub_, .int db_, .ref bx_, .int tp_, .int nx_, .int tk_, .int pl_, .int vl_, .int fa_, .ref bc_, .ref bf_])), (bn_, .inl (cy 0, 24, .inl (nbF nb_))), (bt_, .inl (cy 0, 6, .inl (top6 (atT (nb_ i_) k_ n_) ftc_ (c1_ + 1)))), (bf_, .inl (cy 0, 6, .inl (fdA (nb_ i_) k_ fd_ n_)))] H := hP
                have hD : va_D A [(b0_, .inr (9, [.int th_, .long tr_, .ref bn_, .ref bt_, .ref bs_, .ref bk_, .ref bp_, .ref bi_, .ref bl_, .int it_, .int ub_, .int db_, .ref bx_, .int tp_, .int nx_, .int tk_, .int pl_, .int vl_, .int fa_, .ref bc_, .ref bf_])), (bn_, .inl (cy 0, 24, .inl (nbF nb_))), (bt_, .inl (cy 0, 6, .inl (top6 (atT (nb_ i_) k_ n_) ftc_ (c1_ + 1)))), (bf_, .inl (cy 0, 6, .inl (fdA (nb_ i_) k_ fd_ n_)))] := hD
                have hpos : posC k_ (c1_ + 1) = if 5 - c1_ = k_ then posC k_ c1_ else posC k_ c1_ + 1 := rfl
                have hch : chC k_ n_ (c1_ + 1) = if 5 - c1_ = k_ then chC k_ n_ c1_ else chC k_ n_ c1_ + (if 0 ≤ byC k_ n_ c1_ then byC k_ n_ c1_ else -byC k_ n_ c1_) := rfl
                rw [show ((7, .int (bI (mayC (nb_ i_) k_ n_ c1_ = true))) : Nat × Value) = (7, .int (bI (mayC (nb_ i_) k_ n_ (c1_ + 1) = true))) from congrArg (fun y9 => ((7, Value.int y9) : Nat × Value)) (show bI (mayC (nb_ i_) k_ n_ c1_ = true) = bI (mayC (nb_ i_) k_ n_ (c1_ + 1) = true) from (bI_congr (by rw [show mayC (nb_ i_) k_ n_ (c1_ + 1) = mayC (nb_ i_) k_ n_ c1_ from if_pos (by omega)])))] at hl
                rw [show ((6, .int (chC k_ n_ c1_)) : Nat × Value) = (6, .int (chC k_ n_ (c1_ + 1))) from congrArg (fun y9 => ((6, Value.int y9) : Nat × Value)) (show chC k_ n_ c1_ = chC k_ n_ (c1_ + 1) from (by first | (rw [hch, if_pos (by omega)]; done) | rw [hch, if_neg (by omega), ez91]))] at hl
                rw [show ((5, .int (nI (n_ / 13 ^ posC k_ c1_))) : Nat × Value) = (5, .int (nI (n_ / 13 ^ posC k_ (c1_ + 1)))) from congrArg (fun y9 => ((5, Value.int y9) : Nat × Value)) (show nI (n_ / 13 ^ posC k_ c1_) = nI (n_ / 13 ^ posC k_ (c1_ + 1)) from (by first | (rw [hpos, if_pos (by omega)]; done) | rw [hpos, if_neg (by omega), Nat.pow_succ, Nat.div_div_eq_div_mul]))] at hl
                exact ih_26 (c1_ + 1) (q_ - 1) (by first | assumption | omega | decide) (by omega) H locs hP hD hS ls (lv_sub hl [0, 1, 2, 3, 4, 5, 6, 7, 8] rfl)
        obtain ⟨hP, hD⟩ := ro_ws (g := top6 (atT (nb_ i_) k_ n_) ftc_ 0) hP hD 2 rfl (fun z hz => (if_neg (by omega)).symm)
        have hP : va_P D vwCl [(b0_, .inr (9, [.int th_, .long tr_, .ref bn_, .ref bt_, .ref bs_, .ref bk_, .ref bp_, .ref bi_, .ref bl_, .int it_, .int ub_, .int db_, .ref bx_, .int tp_, .int nx_, .int tk_, .int pl_, .int vl_, .int fa_, .ref bc_, .ref bf_])), (bn_, .inl (cy 0, 24, .inl (nbF nb_))), (bt_, .inl (cy 0, 6, .inl (top6 (atT (nb_ i_) k_ n_) ftc_ 0))), (bf_, .inl (cy 0, 6, .inl (fdA (nb_ i_) k_ fd_ n_)))] H := hP
        have hD : va_D A [(b0_, .inr (9, [.int th_, .long tr_, .ref bn_, .ref bt_, .ref bs_, .ref bk_, .ref bp_, .ref bi_, .ref bl_, .int it_, .int ub_, .int db_, .ref bx_, .int tp_, .int nx_, .int tk_, .int pl_, .int vl_, .int fa_, .ref bc_, .ref bf_])), (bn_, .inl (cy 0, 24, .inl (nbF nb_))), (bt_, .inl (cy 0, 6, .inl (top6 (atT (nb_ i_) k_ n_) ftc_ 0))), (bf_, .inl (cy 0, 6, .inl (fdA (nb_ i_) k_ fd_ n_)))] := hD
        rw [show ((8, .int 5) : Nat × Value) = (8, .int (nI 6 - 1)) from congrArg (fun y9 => ((8, Value.int y9) : Nat × Value)) (show 5 = nI 6 - 1 from rfl)] at hl
        rw [show ((5, .int (nI n_)) : Nat × Value) = (5, .int (nI (n_ / 13 ^ posC k_ 0))) from congrArg (fun y9 => ((5, Value.int y9) : Nat × Value)) (show nI n_ = nI (n_ / 13 ^ posC k_ 0) from by rw [show posC k_ 0 = 0 from rfl, Nat.pow_zero, Nat.div_one])] at hl
        exact L_26 _ 0 6 (rfl) (Nat.lt_succ_self _) H locs hP hD hS ls (lv_sub hl [0, 1, 2, 3, 4, 5, 6, 7, 8] rfl)
  exact L_6 _ 0 ft_ (by first | assumption | omega | decide) (Nat.lt_succ_self _) H locs hP hD hS ls (lv_sub hl [0, 1, 2, 3, 4] rfl)
abbrev rmkX9_reason : Room := { frames := 4, cells := 0, slots := 0, locals := 115 }
set_option maxHeartbeats 4000000 in
set_option maxRecDepth 100000 in
theorem kX9_reason {l : Launch} {D : va_G} {cy : Nat → ClassId} {sa : Nat → Nat} (b0_ : Nat) (th_ : Int32) (tr_ : Int64) (bn_ : Nat) (bt_ : Nat) (bs_ : Nat) (bk_ : Nat) (bp_ : Nat) (bi_ : Nat) (bl_ : Nat) (it_ : Int32) (ub_ : Int32) (db_ : Int32) (bx_ : Nat) (tp_ : Int32) (nx_ : Int32) (tk_ : Int32) (pl_ : Int32) (vl_ : Int32) (fa_ : Int32) (bc_ : Nat) (bf_ : Nat) (nb_ : Nat → Nat → Int32) (ft_ : Nat → Int32) (fd_ : Nat → Int32) (i_ : Int32) (k_ : Int32) (w_ : Int32)  : CT (S := (Nat → Int32) × (Nat → Int32)) l D cy sa yX9_reason wsX9_reason rmkX9_reason [.ref b0_, .int i_, .int k_, .int w_] [(b0_, .inr (9, [.int th_, .long tr_, .ref bn_, .ref bt_, .ref bs_, .ref bk_, .ref bp_, .ref bi_, .ref bl_, .int it_, .int ub_, .int db_, .ref bx_, .int tp_, .int nx_, .int tk_, .int pl_, .int vl_, .int fa_, .ref bc_, .ref bf_])), (bn_, .inl (cy 0, 24, .inl (nbF nb_))), (bt_, .inl (cy 0, 6, .inl ft_)), (bf_, .inl (cy 0, 6, .inl fd_))] (fun v9 u9 => match u9 with | (ft2, fd2) => v9 = some (.int (r_reason nb_ fd_ i_ k_ w_))) (fun u9 => match u9 with | (ft2, fd2) => [(b0_, .inr (9, [.int 0, .long tr_, .ref bn_, .ref bt_, .ref bs_, .ref bk_, .ref bp_, .ref bi_, .ref bl_, .int it_, .int ub_, .int db_, .ref bx_, .int tp_, .int nx_, .int tk_, .int pl_, .int vl_, .int fa_, .ref bc_, .ref bf_])), (bn_, .inl (cy 0, 24, .inl (nbF nb_))), (bt_, .inl (cy 0, 6, .inl ft2)), (bf_, .inl (cy 0, 6, .inl fd2))]) 0 0 := by
  refine CT.of cX9_reason 5 (some .int) (by decide) rfl (Nat.le_of_ble_eq_true rfl) ?_
  intro p e s m args below meth c A Q ls F hmn hK hE hA hP hD hS hl RT
  obtain ⟨hx, hb, hml, hown, hts⟩ := id F
  have winX9 : ∀ w_ ∈ u_ws RX9 TX9 21, w_ ∈ wsX9_reason := by decide +kernel
  have wf48 := hts (.fieldLink RX9 48 "SelfSteerModel" "thrown" "I") (by decide +kernel)
  have wc70 := hts (.constant RX9 70 (-1000000)) (by decide +kernel)
  have wf45 := hts (.fieldLink RX9 45 "SelfSteerModel" "found" "[I") (by decide +kernel)
  have hl : lv_has ls 5 [(0, .ref b0_), (1, .int i_), (2, .int k_), (3, .int w_)] := hl
  have hP : va_P D vwCl [(b0_, .inr (9, [.int th_, .long tr_, .ref bn_, .ref bt_, .ref bs_, .ref bk_, .ref bp_, .ref bi_, .ref bl_, .int it_, .int ub_, .int db_, .ref bx_, .int tp_, .int nx_, .int tk_, .int pl_, .int vl_, .int fa_, .ref bc_, .ref bf_])), (bn_, .inl (cy 0, 24, .inl (nbF nb_))), (bt_, .inl (cy 0, 6, .inl ft_)), (bf_, .inl (cy 0, 6, .inl fd_))] s.heap := hP
  have hD : va_D A [(b0_, .inr (9, [.int th_, .long tr_, .ref bn_, .ref bt_, .ref bs_, .ref bk_, .ref bp_, .ref bi_, .ref bl_, .int it_, .int ub_, .int db_, .ref bx_, .int tp_, .int nx_, .int tk_, .int pl_, .int vl_, .int fa_, .ref bc_, .ref bf_])), (bn_, .inl (cy 0, 24, .inl (nbF nb_))), (bt_, .inl (cy 0, 6, .inl ft_)), (bf_, .inl (cy 0, 6, .inl fd_))] := hD
  obtain ⟨H, hH⟩ : ∃ H0 : Heap, H0 = s.heap := ⟨_, rfl⟩
  obtain ⟨locs, hlo⟩ : ∃ L0 : List Loc, L0 = [] := ⟨_, rfl⟩
  have hS : va_S A s.heap H locs := by rw [hH, hlo]; exact hS
  rw [← hH] at hP
  show W p l e rmkX9_reason s m args below meth c s.heap [] 0 0 Q (F0 m 0 ls [])
  suffices hgo : W p l e rmkX9_reason s m args below meth c H locs 0 0 Q (F0 m 0 ls []) by rw [hH, hlo] at hgo; exact hgo
  clear hH hlo
  refine lv_aload_n hx hb dX9_reason_0 rfl (lv_at hl 0 rfl) ?_
  refine lv_iconst (v := 0) hx hb dX9_reason_1 (by decide) ?_
  refine va_put (D := D) (ci := 9) (v := .int 0) (ty := .int) (C := RX9) (T := TX9) (N := 21) hx hb hts winX9 tyX9 tyX9_ok nmX9 hown hK hP hD hS 0 rfl rfl 0 (by decide) wf48 (fun _ h9 => h9) rfl (by decide +kernel) rfl rfl (Nat.le_of_ble_eq_true rfl) dX9_reason_2 (fun H locs hP hD hS => ?_)
  have hP : va_P D vwCl [(b0_, .inr (9, [.int 0, .long tr_, .ref bn_, .ref bt_, .ref bs_, .ref bk_, .ref bp_, .ref bi_, .ref bl_, .int it_, .int ub_, .int db_, .ref bx_, .int tp_, .int nx_, .int tk_, .int pl_, .int vl_, .int fa_, .ref bc_, .ref bf_])), (bn_, .inl (cy 0, 24, .inl (nbF nb_))), (bt_, .inl (cy 0, 6, .inl ft_)), (bf_, .inl (cy 0, 6, .inl fd_))] H := hP
  have hD : va_D A [(b0_, .inr (9, [.int 0, .long tr_, .ref bn_, .ref bt_, .ref bs_, .ref bk_, .ref bp_, .ref bi_, .ref bl_, .int it_, .int ub_, .int db_, .ref bx_, .int tp_, .int nx_, .int tk_, .int pl_, .int vl_, .int fa_, .ref bc_, .ref bf_])), (bn_, .inl (cy 0, 24, .inl (nbF nb_))), (bt_, .inl (cy 0, 6, .inl ft_)), (bf_, .inl (cy 0, 6, .inl fd_))] := hD
  refine lv_iload_n hx hb dX9_reason_5 rfl (lv_at hl 1 rfl) ?_
  refine ca_S (n := 1) (rest := []) (wr := [(b0_, .inr (9, [.int 0, .long tr_, .ref bn_, .ref bt_, .ref bs_, .ref bk_, .ref bp_, .ref bi_, .ref bl_, .int it_, .int ub_, .int db_, .ref bx_, .int tp_, .int nx_, .int tk_, .int pl_, .int vl_, .int fa_, .ref bc_, .ref bf_])), (bn_, .inl (cy 0, 24, .inl (nbF nb_))), (bt_, .inl (cy 0, 6, .inl ft_)), (bf_, .inl (cy 0, 6, .inl fd_))]) F hK hE hA hP hD hS hl.1 (kX9_isBicycle (l := l) (D := D) (cy := cy) (sa := sa) i_) gX9_reason_X9_isBicycle rfl rfl rfl (by decide +kernel) ⟨by decide, by decide⟩ [] [0, 1, 2, 3] rfl rfl rfl rfl (by decide) rfl rfl (Nat.le_of_ble_eq_true rfl) dX9_reason_6 ⟨by decide, by decide⟩ (fun v9 u9 H locs hv hP hD hS => ?_)
  subst hv
  have hP : va_P D vwCl [(b0_, .inr (9, [.int 0, .long tr_, .ref bn_, .ref bt_, .ref bs_, .ref bk_, .ref bp_, .ref bi_, .ref bl_, .int it_, .int ub_, .int db_, .ref bx_, .int tp_, .int nx_, .int tk_, .int pl_, .int vl_, .int fa_, .ref bc_, .ref bf_])), (bn_, .inl (cy 0, 24, .inl (nbF nb_))), (bt_, .inl (cy 0, 6, .inl ft_)), (bf_, .inl (cy 0, 6, .inl fd_))] H := hP
  have hD : va_D A [(b0_, .inr (9, [.int 0, .long tr_, .ref bn_, .ref bt_, .ref bs_, .ref bk_, .ref bp_, .ref bi_, .ref bl_, .int it_, .int ub_, .int db_, .ref bx_, .int tp_, .int nx_, .int tk_, .int pl_, .int vl_, .int fa_, .ref bc_, .ref bf_])), (bn_, .inl (cy 0, 24, .inl (nbF nb_))), (bt_, .inl (cy 0, 6, .inl ft_)), (bf_, .inl (cy 0, 6, .inl fd_))] := hD
  refine W.eq (g2 := F0 m 9 ls [.int (bI (inR i_ 0 3))]) rfl ?_
  refine bz_eq (tgt := 31) hx hb dX9_reason_9 (by decide) (fun c_9 => ?_) (fun c_9 => ?_)
  · refine lv_ldc (v := (-1000000)) hx hb hown wc70 dX9_reason_31 ?_
    have hno : ¬ okRea i_ k_ w_ := by first | exact fun z => c_9 z.1 | exact fun z => c_18 z.2.1 | exact fun z => c_28 z.2.2
    refine lv_eqi (y := r_reason nb_ fd_ i_ k_ w_) ((if_neg hno).symm) ?_
    exact RT _ _ (ft_, fd_) H locs 33 ls (rt_i dX9_reason_33) rfl hP hD hS
  · obtain ⟨i1_, hi1, rfl⟩ := inR_n 3 (by decide) rfl c_9
    refine lv_iload_n hx hb dX9_reason_12 rfl (lv_at hl 2 rfl) ?_
    refine lv_iconst (v := 0) hx hb dX9_reason_13 (by decide) ?_
    refine lv_iconst (v := 2) hx hb dX9_reason_14 (by decide) ?_
    refine ca_S (n := 3) (rest := []) (wr := [(b0_, .inr (9, [.int 0, .long tr_, .ref bn_, .ref bt_, .ref bs_, .ref bk_, .ref bp_, .ref bi_, .ref bl_, .int it_, .int ub_, .int db_, .ref bx_, .int tp_, .int nx_, .int tk_, .int pl_, .int vl_, .int fa_, .ref bc_, .ref bf_])), (bn_, .inl (cy 0, 24, .inl (nbF nb_))), (bt_, .inl (cy 0, 6, .inl ft_)), (bf_, .inl (cy 0, 6, .inl fd_))]) F hK hE hA hP hD hS hl.1 (kX9_in (l := l) (D := D) (cy := cy) (sa := sa) k_ 0 2) gX9_reason_X9_in rfl rfl rfl (by decide +kernel) ⟨by decide, by decide⟩ [] [0, 1, 2, 3] rfl rfl rfl rfl (by decide) rfl rfl (Nat.le_of_ble_eq_true rfl) dX9_reason_15 ⟨by decide, by decide⟩ (fun v9 u9 H locs hv hP hD hS => ?_)
    subst hv
    have hP : va_P D vwCl [(b0_, .inr (9, [.int 0, .long tr_, .ref bn_, .ref bt_, .ref bs_, .ref bk_, .ref bp_, .ref bi_, .ref bl_, .int it_, .int ub_, .int db_, .ref bx_, .int tp_, .int nx_, .int tk_, .int pl_, .int vl_, .int fa_, .ref bc_, .ref bf_])), (bn_, .inl (cy 0, 24, .inl (nbF nb_))), (bt_, .inl (cy 0, 6, .inl ft_)), (bf_, .inl (cy 0, 6, .inl fd_))] H := hP
    have hD : va_D A [(b0_, .inr (9, [.int 0, .long tr_, .ref bn_, .ref bt_, .ref bs_, .ref bk_, .ref bp_, .ref bi_, .ref bl_, .int it_, .int ub_, .int db_, .ref bx_, .int tp_, .int nx_, .int tk_, .int pl_, .int vl_, .int fa_, .ref bc_, .ref bf_])), (bn_, .inl (cy 0, 24, .inl (nbF nb_))), (bt_, .inl (cy 0, 6, .inl ft_)), (bf_, .inl (cy 0, 6, .inl fd_))] := hD
    refine W.eq (g2 := F0 m 18 ls [.int (bI (inR k_ 0 2))]) rfl ?_
    refine bz_eq (tgt := 31) hx hb dX9_reason_18 (by decide) (fun c_18 => ?_) (fun c_18 => ?_)
    · refine lv_ldc (v := (-1000000)) hx hb hown wc70 dX9_reason_31 ?_
      have hno : ¬ okRea (nI i1_) k_ w_ := by first | exact fun z => c_9 z.1 | exact fun z => c_18 z.2.1 | exact fun z => c_28 z.2.2
      refine lv_eqi (y := r_reason nb_ fd_ (nI i1_) k_ w_) ((if_neg hno).symm) ?_
      exact RT _ _ (ft_, fd_) H locs 33 ls (rt_i dX9_reason_33) rfl hP hD hS
    · obtain ⟨k1_, hk1, rfl⟩ := inR_n 2 (by decide) rfl c_18
      refine lv_iload_n hx hb dX9_reason_21 rfl (lv_at hl 3 rfl) ?_
      refine lv_iconst (v := 0) hx hb dX9_reason_22 (by decide) ?_
      refine lv_bipush (v := 7) hx hb dX9_reason_23 (by decide) ?_
      refine ca_S (n := 3) (rest := []) (wr := [(b0_, .inr (9, [.int 0, .long tr_, .ref bn_, .ref bt_, .ref bs_, .ref bk_, .ref bp_, .ref bi_, .ref bl_, .int it_, .int ub_, .int db_, .ref bx_, .int tp_, .int nx_, .int tk_, .int pl_, .int vl_, .int fa_, .ref bc_, .ref bf_])), (bn_, .inl (cy 0, 24, .inl (nbF nb_))), (bt_, .inl (cy 0, 6, .inl ft_)), (bf_, .inl (cy 0, 6, .inl fd_))]) F hK hE hA hP hD hS hl.1 (kX9_in (l := l) (D := D) (cy := cy) (sa := sa) w_ 0 7) gX9_reason_X9_in rfl rfl rfl (by decide +kernel) ⟨by decide, by decide⟩ [] [0, 1, 2, 3] rfl rfl rfl rfl (by decide) rfl rfl (Nat.le_of_ble_eq_true rfl) dX9_reason_25 ⟨by decide, by decide⟩ (fun v9 u9 H locs hv hP hD hS => ?_)
      subst hv
      have hP : va_P D vwCl [(b0_, .inr (9, [.int 0, .long tr_, .ref bn_, .ref bt_, .ref bs_, .ref bk_, .ref bp_, .ref bi_, .ref bl_, .int it_, .int ub_, .int db_, .ref bx_, .int tp_, .int nx_, .int tk_, .int pl_, .int vl_, .int fa_, .ref bc_, .ref bf_])), (bn_, .inl (cy 0, 24, .inl (nbF nb_))), (bt_, .inl (cy 0, 6, .inl ft_)), (bf_, .inl (cy 0, 6, .inl fd_))] H := hP
      have hD : va_D A [(b0_, .inr (9, [.int 0, .long tr_, .ref bn_, .ref bt_, .ref bs_, .ref bk_, .ref bp_, .ref bi_, .ref bl_, .int it_, .int ub_, .int db_, .ref bx_, .int tp_, .int nx_, .int tk_, .int pl_, .int vl_, .int fa_, .ref bc_, .ref bf_])), (bn_, .inl (cy 0, 24, .inl (nbF nb_))), (bt_, .inl (cy 0, 6, .inl ft_)), (bf_, .inl (cy 0, 6, .inl fd_))] := hD
      refine W.eq (g2 := F0 m 28 ls [.int (bI (inR w_ 0 7))]) rfl ?_
      refine bz_ne (tgt := 34) hx hb dX9_reason_28 (by decide) (fun c_28 => ?_) (fun c_28 => ?_)
      · obtain ⟨w1_, hw1, rfl⟩ := inR_n 7 (by decide) rfl c_28
        refine lv_iload_n hx hb dX9_reason_34 rfl (lv_at hl 3 rfl) ?_
        refine cz_ne (tgt := 81) hx hb w1_ rfl (by omega) dX9_reason_35 (by decide) (fun c_35 => ?_) (fun c_35 => ?_)
        · refine lv_aload_n hx hb dX9_reason_81 rfl (lv_at hl 0 rfl) ?_
          refine lv_iload_n hx hb dX9_reason_82 rfl (lv_at hl 1 rfl) ?_
          refine lv_iload_n hx hb dX9_reason_83 rfl (lv_at hl 2 rfl) ?_
          refine ca_V (q0 := 0) (n := 2) (rest := []) (wr := []) F hK hE hA hP hD hS hl.1 (kX9_allTheSame (l := l) (D := D) (cy := cy) (sa := sa) b0_ 0 tr_ bn_ bt_ bs_ bk_ bp_ bi_ bl_ it_ ub_ db_ bx_ tp_ nx_ tk_ pl_ vl_ fa_ bc_ bf_ nb_ ft_ fd_ i1_ k1_ (by first | assumption | omega | decide) (by first | assumption | omega | decide)) gX9_reason_X9_allTheSame rfl rfl rfl rfl rfl rfl (by decide +kernel) ⟨by decide, by decide⟩ [0, 1, 2, 3] [] rfl rfl rfl rfl (by decide) rfl rfl (Nat.le_of_ble_eq_true rfl) dX9_reason_84 ⟨by decide, by decide⟩ (fun v9 u9 H locs hv hP hD hS => ?_)
          obtain ⟨u_1, hu9⟩ : ∃ z, z = u9 := ⟨_, rfl⟩
          subst hu9
          skip
          subst hv
          obtain ⟨hP, hD⟩ := re_ws (ws' := [(b0_, .inr (9, [.int 0, .long tr_, .ref bn_, .ref bt_, .ref bs_, .ref bk_, .ref bp_, .ref bi_, .ref bl_, .int it_, .int ub_, .int db_, .ref bx_, .int tp_, .int nx_, .int tk_, .int pl_, .int vl_, .int fa_, .ref bc_, .ref bf_])), (bn_, .inl (cy 0, 24, .inl (nbF nb_))), (bt_, .inl (cy 0, 6, .inl u_1)), (bf_, .inl (cy 0, 6, .inl (fdA (nb_ i1_) k1_ fd_ 371293)))]) hP hD [0, 1, 2, 3] rfl rfl
          refine W.eq (g2 := F0 m 87 ls [.int (atR (nb_ i1_) k1_)]) rfl ?_
          refine lv_istore (lv' := [(4, .int (atR (nb_ i1_) k1_)), (0, .ref b0_), (1, .int (nI i1_)), (2, .int (nI k1_)), (3, .int (nI w1_))]) hx hb dX9_reason_87 hl (by decide) rfl (fun ls hl => ?_)
          refine lv_iload hx hb dX9_reason_89 (lv_at hl 0 rfl) ?_
          refine lv_bipush (v := (-9)) hx hb dX9_reason_91 (by decide) ?_
          refine lv_icmp_ne (tgt := 101) hx hb dX9_reason_93 (by decide) (fun c_93 => ?_) (fun c_93 => ?_)
          · refine lv_iload_n hx hb dX9_reason_101 rfl (lv_at hl 4 rfl) ?_
            refine lv_iconst (v := 1) hx hb dX9_reason_102 (by decide) ?_
            refine cn_ne (tgt := 111) hx hb w1_ 1 rfl rfl (by omega) (by omega) dX9_reason_103 (by decide) (fun c_103 => ?_) (fun c_103 => ?_)
            · refine lv_aload_n hx hb dX9_reason_111 rfl (lv_at hl 1 rfl) ?_
              refine va_get (D := D) (ci := 9) (v := .ref bf_) (C := RX9) (T := TX9) (N := 21) hx hb hts winX9 hown hK hP 0 rfl rfl 20 (by decide) wf45 (fun _ h9 => h9) rfl dX9_reason_112 ?_
              refine lv_iload_n hx hb dX9_reason_115 rfl (lv_at hl 4 rfl) ?_
              refine lv_iconst (v := 2) hx hb dX9_reason_116 (by decide) ?_
              refine lv_isub hx hb dX9_reason_117 ?_
              refine lv_eqi (y := nI (w1_ - 2)) (pk_sub (a := w1_) (b := 2) (by omega)) ?_
              refine al_i hx hb hK hP 3 rfl (w1_ - 2) (rfl) (by omega) (by decide) dX9_reason_118 ?_
              refine lv_eqi (y := r_reason nb_ fd_ (nI i1_) (nI k1_) (nI w1_)) (by rw [r_reason, if_pos ⟨c_9, c_18, c_28⟩, cl_n (by omega), cl_n (by omega), cl_n (by omega), reaN, if_neg c_35]; first | (rw [if_pos c_93]; done) | (rw [if_neg c_93, if_pos c_103]; done) | rw [if_neg c_93, if_neg c_103]) ?_
              exact RT _ _ (u_1, fdA (nb_ i1_) k1_ fd_ 371293) H locs 119 ls (rt_i dX9_reason_119) rfl hP hD hS
            · refine lv_iload hx hb dX9_reason_106 (lv_at hl 0 rfl) ?_
              refine lv_goto (tgt := 119) hx hb dX9_reason_108 (by decide) ?_
              refine lv_eqi (y := r_reason nb_ fd_ (nI i1_) (nI k1_) (nI w1_)) (by rw [r_reason, if_pos ⟨c_9, c_18, c_28⟩, cl_n (by omega), cl_n (by omega), cl_n (by omega), reaN, if_neg c_35]; first | (rw [if_pos c_93]; done) | (rw [if_neg c_93, if_pos c_103]; done) | rw [if_neg c_93, if_neg c_103]) ?_
              exact RT _ _ (u_1, fdA (nb_ i1_) k1_ fd_ 371293) H locs 119 ls (rt_i dX9_reason_119) rfl hP hD hS
          · refine lv_ldc (v := (-1000000)) hx hb hown wc70 dX9_reason_96 ?_
            refine lv_goto (tgt := 119) hx hb dX9_reason_98 (by decide) ?_
            refine lv_eqi (y := r_reason nb_ fd_ (nI i1_) (nI k1_) (nI w1_)) (by rw [r_reason, if_pos ⟨c_9, c_18, c_28⟩, cl_n (by omega), cl_n (by omega), cl_n (by omega), reaN, if_neg c_35]; first | (rw [if_pos c_93]; done) | (rw [if_neg c_93, if_pos c_103]; done) | rw [if_neg c_93, if_neg c_103]) ?_
            exact RT _ _ (u_1, fdA (nb_ i1_) k1_ fd_ 371293) H locs 119 ls (rt_i dX9_reason_119) rfl hP hD hS
        · refine lv_aload_n hx hb dX9_reason_38 rfl (lv_at hl 0 rfl) ?_
          refine lv_iload_n hx hb dX9_reason_39 rfl (lv_at hl 1 rfl) ?_
          refine ca_V (q0 := 0) (n := 1) (rest := []) (wr := [(bf_, .inl (cy 0, 6, .inl fd_))]) F hK hE hA hP hD hS hl.1 (kX9_takes (l := l) (D := D) (cy := cy) (sa := sa) b0_ 0 tr_ bn_ bt_ bs_ bk_ bp_ bi_ bl_ it_ ub_ db_ bx_ tp_ nx_ tk_ pl_ vl_ fa_ bc_ bf_ nb_ ft_ i1_ (by first | assumption | omega | decide)) gX9_reason_X9_takes rfl rfl rfl rfl rfl rfl (by decide +kernel) ⟨by decide, by decide⟩ [0, 1, 2] [3] rfl rfl rfl rfl (by decide) rfl rfl (Nat.le_of_ble_eq_true rfl) dX9_reason_40 ⟨by decide, by decide⟩ (fun v9 u9 H locs hv hP hD hS => ?_)
          subst hv
          obtain ⟨hP, hD⟩ := re_ws (ws' := [(b0_, .inr (9, [.int 0, .long tr_, .ref bn_, .ref bt_, .ref bs_, .ref bk_, .ref bp_, .ref bi_, .ref bl_, .int it_, .int ub_, .int db_, .ref bx_, .int tp_, .int nx_, .int tk_, .int pl_, .int vl_, .int fa_, .ref bc_, .ref bf_])), (bn_, .inl (cy 0, 24, .inl (nbF nb_))), (bt_, .inl (cy 0, 6, .inl (nb_ i1_))), (bf_, .inl (cy 0, 6, .inl fd_))]) hP hD [1, 2, 3, 0] rfl rfl
          refine W.eq (g2 := F0 m 43 ls []) rfl ?_
          refine lv_aload_n hx hb dX9_reason_43 rfl (lv_at hl 0 rfl) ?_
          refine ca_V (q0 := 0) (n := 0) (rest := []) (wr := [(bn_, .inl (cy 0, 24, .inl (nbF nb_))), (bf_, .inl (cy 0, 6, .inl fd_))]) F hK hE hA hP hD hS hl.1 (kX9_speeds (l := l) (D := D) (cy := cy) (sa := sa) b0_ 0 tr_ bn_ bt_ bs_ bk_ bp_ bi_ bl_ it_ ub_ db_ bx_ tp_ nx_ tk_ pl_ vl_ fa_ bc_ bf_ (nb_ i1_)) gX9_reason_X9_speeds rfl rfl rfl rfl rfl rfl (by decide +kernel) ⟨by decide, by decide⟩ [0, 2] [1, 3] rfl rfl rfl rfl (by decide) rfl rfl (Nat.le_of_ble_eq_true rfl) dX9_reason_44 ⟨by decide, by decide⟩ (fun v9 u9 H locs hv hP hD hS => ?_)
          subst hv
          obtain ⟨hP, hD⟩ := re_ws (ws' := [(b0_, .inr (9, [.int 0, .long tr_, .ref bn_, .ref bt_, .ref bs_, .ref bk_, .ref bp_, .ref bi_, .ref bl_, .int it_, .int ub_, .int db_, .ref bx_, .int tp_, .int nx_, .int tk_, .int pl_, .int vl_, .int fa_, .ref bc_, .ref bf_])), (bn_, .inl (cy 0, 24, .inl (nbF nb_))), (bt_, .inl (cy 0, 6, .inl (nb_ i1_))), (bf_, .inl (cy 0, 6, .inl fd_))]) hP hD [2, 0, 3, 1] rfl rfl
          refine W.eq (g2 := F0 m 47 ls [.long (rg (nb_ i1_) 41)]) rfl ?_
          refine lv_lconst (v := 0) hx hb dX9_reason_47 (by decide) ?_
          refine W.lcmp hx hb dX9_reason_48 ?_
          have J_49_100 : ∀ (H : Heap) (locs : List Loc), va_P D vwCl [(b0_, .inr (9, [.int 0, .long tr_, .ref bn_, .ref bt_, .ref bs_, .ref bk_, .ref bp_, .ref bi_, .ref bl_, .int it_, .int ub_, .int db_, .ref bx_, .int tp_, .int nx_, .int tk_, .int pl_, .int vl_, .int fa_, .ref bc_, .ref bf_])), (bn_, .inl (cy 0, 24, .inl (nbF nb_))), (bt_, .inl (cy 0, 6, .inl (nb_ i1_))), (bf_, .inl (cy 0, 6, .inl fd_))] H → va_D A [(b0_, .inr (9, [.int 0, .long tr_, .ref bn_, .ref bt_, .ref bs_, .ref bk_, .ref bp_, .ref bi_, .ref bl_, .int it_, .int ub_, .int db_, .ref bx_, .int tp_, .int nx_, .int tk_, .int pl_, .int vl_, .int fa_, .ref bc_, .ref bf_])), (bn_, .inl (cy 0, 24, .inl (nbF nb_))), (bt_, .inl (cy 0, 6, .inl (nb_ i1_))), (bf_, .inl (cy 0, 6, .inl fd_))] → va_S A s.heap H locs → ∀ (ls : Array Slot), lv_has ls 5 [(0, .ref b0_), (1, .int (nI i1_)), (2, .int (nI k1_)), (3, .int (nI w1_))] → W p l e rmkX9_reason s m args below meth c H locs 0 0 Q (F0 m 57 ls [.int (bI (¬ ((rg (nb_ i1_) 41) = 0)))]) := by
            intro H locs hP hD hS ls hl
            refine lv_istore (lv' := [(4, .int (bI (¬ ((rg (nb_ i1_) 41) = 0)))), (0, .ref b0_), (1, .int (nI i1_)), (2, .int (nI k1_)), (3, .int (nI w1_))]) hx hb dX9_reason_57 hl (by decide) rfl (fun ls hl => ?_)
            refine lv_iload hx hb dX9_reason_59 (lv_at hl 0 rfl) ?_
            refine bz_eq (tgt := 79) hx hb dX9_reason_61 (by decide) (fun c_61 => ?_) (fun c_61 => ?_)
            · refine lv_iconst (v := 0) hx hb dX9_reason_79 (by decide) ?_
              refine lv_eqi (y := r_reason nb_ fd_ (nI i1_) (nI k1_) (nI w1_)) (by rw [r_reason, if_pos ⟨c_9, c_18, c_28⟩, cl_n (by omega), cl_n (by omega), cl_n (by omega), reaN, if_pos c_35]; first | exact (bI_t ⟨c_61, c_72⟩).symm | exact (bI_f (fun z => c_72 z.2)).symm | exact (bI_f (fun z => c_61 z.1)).symm) ?_
              exact RT _ _ ((nb_ i1_), fd_) H locs 80 ls (rt_i dX9_reason_80) rfl hP hD hS
            · refine lv_aload_n hx hb dX9_reason_64 rfl (lv_at hl 1 rfl) ?_
              refine lv_iload_n hx hb dX9_reason_65 rfl (lv_at hl 2 rfl) ?_
              refine lv_iload_n hx hb dX9_reason_66 rfl (lv_at hl 3 rfl) ?_
              refine ca_V (q0 := 0) (n := 2) (rest := []) (wr := [(bf_, .inl (cy 0, 6, .inl fd_))]) F hK hE hA hP hD hS hl.1 (kX9_rangeWithout (l := l) (D := D) (cy := cy) (sa := sa) b0_ 0 tr_ bn_ bt_ bs_ bk_ bp_ bi_ bl_ it_ ub_ db_ bx_ tp_ nx_ tk_ pl_ vl_ fa_ bc_ bf_ nb_ (nb_ i1_) i1_ k1_ (by first | assumption | omega | decide) (by first | assumption | omega | decide)) gX9_reason_X9_rangeWithout rfl rfl rfl rfl rfl rfl (by decide +kernel) ⟨by decide, by decide⟩ [0, 1, 2] [3] rfl rfl rfl rfl (by decide) rfl rfl (Nat.le_of_ble_eq_true rfl) dX9_reason_67 ⟨by decide, by decide⟩ (fun v9 u9 H locs hv hP hD hS => ?_)
              subst hv
              obtain ⟨hP, hD⟩ := re_ws (ws' := [(b0_, .inr (9, [.int 0, .long tr_, .ref bn_, .ref bt_, .ref bs_, .ref bk_, .ref bp_, .ref bi_, .ref bl_, .int it_, .int ub_, .int db_, .ref bx_, .int tp_, .int nx_, .int tk_, .int pl_, .int vl_, .int fa_, .ref bc_, .ref bf_])), (bn_, .inl (cy 0, 24, .inl (nbF nb_))), (bt_, .inl (cy 0, 6, .inl (upd (nb_ i1_) k1_ 0))), (bf_, .inl (cy 0, 6, .inl fd_))]) hP hD [1, 2, 3, 0] rfl rfl
              refine W.eq (g2 := F0 m 70 ls [.long (rg (upd (nb_ i1_) k1_ 0) 41)]) rfl ?_
              refine lv_lconst (v := 0) hx hb dX9_reason_70 (by decide) ?_
              refine W.lcmp hx hb dX9_reason_71 ?_
              refine lc_ne (tgt := 79) hx hb dX9_reason_72 (by decide) (fun c_72 => ?_) (fun c_72 => ?_)
              · refine lv_iconst (v := 0) hx hb dX9_reason_79 (by decide) ?_
                refine lv_eqi (y := r_reason nb_ fd_ (nI i1_) (nI k1_) (nI w1_)) (by rw [r_reason, if_pos ⟨c_9, c_18, c_28⟩, cl_n (by omega), cl_n (by omega), cl_n (by omega), reaN, if_pos c_35]; first | exact (bI_t ⟨c_61, c_72⟩).symm | exact (bI_f (fun z => c_72 z.2)).symm | exact (bI_f (fun z => c_61 z.1)).symm) ?_
                exact RT _ _ (upd (nb_ i1_) k1_ 0, fd_) H locs 80 ls (rt_i dX9_reason_80) rfl hP hD hS
              · refine lv_iconst (v := 1) hx hb dX9_reason_75 (by decide) ?_
                refine lv_goto (tgt := 80) hx hb dX9_reason_76 (by decide) ?_
                refine lv_eqi (y := r_reason nb_ fd_ (nI i1_) (nI k1_) (nI w1_)) (by rw [r_reason, if_pos ⟨c_9, c_18, c_28⟩, cl_n (by omega), cl_n (by omega), cl_n (by omega), reaN, if_pos c_35]; first | exact (bI_t ⟨c_61, c_72⟩).symm | exact (bI_f (fun z => c_72 z.2)).symm | exact (bI_f (fun z => c_61 z.1)).symm) ?_
                exact RT _ _ (upd (nb_ i1_) k1_ 0, fd_) H locs 80 ls (rt_i dX9_reason_80) rfl hP hD hS
          refine lc_eq (tgt := 56) hx hb dX9_reason_49 (by decide) (fun c_49 => ?_) (fun c_49 => ?_)
          · refine lv_iconst (v := 0) hx hb dX9_reason_56 (by decide) ?_
            refine lv_eqi (y := bI (¬ ((rg (nb_ i1_) 41) = 0))) (bI_congr (pn_t c_49)) ?_
            exact J_49_100 H locs hP hD hS ls (lv_sub hl [0, 1, 2, 3] rfl)
          · refine lv_iconst (v := 1) hx hb dX9_reason_52 (by decide) ?_
            refine lv_goto (tgt := 57) hx hb dX9_reason_53 (by decide) ?_
            refine lv_eqi (y := bI (¬ ((rg (nb_ i1_) 41) = 0))) (bI_congr (pn_f c_49)) ?_
            exact J_49_100 H locs hP hD hS ls (lv_sub hl [0, 1, 2, 3] rfl)
      · refine lv_ldc (v := (-1000000)) hx hb hown wc70 dX9_reason_31 ?_
        have hno : ¬ okRea (nI i1_) (nI k1_) w_ := by first | exact fun z => c_9 z.1 | exact fun z => c_18 z.2.1 | exact fun z => c_28 z.2.2
        refine lv_eqi (y := r_reason nb_ fd_ (nI i1_) (nI k1_) w_) ((if_neg hno).symm) ?_
        exact RT _ _ (ft_, fd_) H locs 33 ls (rt_i dX9_reason_33) rfl hP hD hS
abbrev rmkX9_grid : Room := { frames := 3, cells := 0, slots := 0, locals := 86 }
set_option maxHeartbeats 4000000 in
set_option maxRecDepth 100000 in
theorem kX9_grid {l : Launch} {D : va_G} {cy : Nat → ClassId} {sa : Nat → Nat} (b0_ : Nat) (th_ : Int32) (tr_ : Int64) (bn_ : Nat) (bt_ : Nat) (bs_ : Nat) (bk_ : Nat) (bp_ : Nat) (bi_ : Nat) (bl_ : Nat) (it_ : Int32) (ub_ : Int32) (db_ : Int32) (bx_ : Nat) (tp_ : Int32) (nx_ : Int32) (tk_ : Int32) (pl_ : Int32) (vl_ : Int32) (fa_ : Int32) (bc_ : Nat) (bf_ : Nat) (nb_ : Nat → Nat → Int32) (ft_ : Nat → Int32) (i_ : Int32) (o1_ : Int32) (o2_ : Int32) (w_ : Int32)  : CT (S := (Nat → Int32)) l D cy sa yX9_grid wsX9_grid rmkX9_grid [.ref b0_, .int i_, .int o1_, .int o2_, .int w_] [(b0_, .inr (9, [.int th_, .long tr_, .ref bn_, .ref bt_, .ref bs_, .ref bk_, .ref bp_, .ref bi_, .ref bl_, .int it_, .int ub_, .int db_, .ref bx_, .int tp_, .int nx_, .int tk_, .int pl_, .int vl_, .int fa_, .ref bc_, .ref bf_])), (bn_, .inl (cy 0, 24, .inl (nbF nb_))), (bt_, .inl (cy 0, 6, .inl ft_))] (fun v9 ft2 => v9 = some (.int (r_grid nb_ i_ o1_ o2_ w_))) (fun ft2 => [(b0_, .inr (9, [.int 0, .long tr_, .ref bn_, .ref bt_, .ref bs_, .ref bk_, .ref bp_, .ref bi_, .ref bl_, .int it_, .int ub_, .int db_, .ref bx_, .int tp_, .int nx_, .int tk_, .int pl_, .int vl_, .int fa_, .ref bc_, .ref bf_])), (bn_, .inl (cy 0, 24, .inl (nbF nb_))), (bt_, .inl (cy 0, 6, .inl ft2))]) 0 0 := by
  refine CT.of cX9_grid 10 (some .int) (by decide) rfl (Nat.le_of_ble_eq_true rfl) ?_
  intro p e s m args below meth c A Q ls F hmn hK hE hA hP hD hS hl RT
  obtain ⟨hx, hb, hml, hown, hts⟩ := id F
  have winX9 : ∀ w_ ∈ u_ws RX9 TX9 21, w_ ∈ wsX9_grid := by decide +kernel
  have wf48 := hts (.fieldLink RX9 48 "SelfSteerModel" "thrown" "I") (by decide +kernel)
  have wc70 := hts (.constant RX9 70 (-1000000)) (by decide +kernel)
  have wf13 := hts (.fieldLink RX9 13 "SelfSteerModel" "tried" "[I") (by decide +kernel)
  have hl : lv_has ls 10 [(0, .ref b0_), (1, .int i_), (2, .int o1_), (3, .int o2_), (4, .int w_)] := hl
  have hP : va_P D vwCl [(b0_, .inr (9, [.int th_, .long tr_, .ref bn_, .ref bt_, .ref bs_, .ref bk_, .ref bp_, .ref bi_, .ref bl_, .int it_, .int ub_, .int db_, .ref bx_, .int tp_, .int nx_, .int tk_, .int pl_, .int vl_, .int fa_, .ref bc_, .ref bf_])), (bn_, .inl (cy 0, 24, .inl (nbF nb_))), (bt_, .inl (cy 0, 6, .inl ft_))] s.heap := hP
  have hD : va_D A [(b0_, .inr (9, [.int th_, .long tr_, .ref bn_, .ref bt_, .ref bs_, .ref bk_, .ref bp_, .ref bi_, .ref bl_, .int it_, .int ub_, .int db_, .ref bx_, .int tp_, .int nx_, .int tk_, .int pl_, .int vl_, .int fa_, .ref bc_, .ref bf_])), (bn_, .inl (cy 0, 24, .inl (nbF nb_))), (bt_, .inl (cy 0, 6, .inl ft_))] := hD
  obtain ⟨H, hH⟩ : ∃ H0 : Heap, H0 = s.heap := ⟨_, rfl⟩
  obtain ⟨locs, hlo⟩ : ∃ L0 : List Loc, L0 = [] := ⟨_, rfl⟩
  have hS : va_S A s.heap H locs := by rw [hH, hlo]; exact hS
  rw [← hH] at hP
  show W p l e rmkX9_grid s m args below meth c s.heap [] 0 0 Q (F0 m 0 ls [])
  suffices hgo : W p l e rmkX9_grid s m args below meth c H locs 0 0 Q (F0 m 0 ls []) by rw [hH, hlo] at hgo; exact hgo
  clear hH hlo
  refine lv_aload_n hx hb dX9_grid_0 rfl (lv_at hl 0 rfl) ?_
  refine lv_iconst (v := 0) hx hb dX9_grid_1 (by decide) ?_
  refine va_put (D := D) (ci := 9) (v := .int 0) (ty := .int) (C := RX9) (T := TX9) (N := 21) hx hb hts winX9 tyX9 tyX9_ok nmX9 hown hK hP hD hS 0 rfl rfl 0 (by decide) wf48 (fun _ h9 => h9) rfl (by decide +kernel) rfl rfl (Nat.le_of_ble_eq_true rfl) dX9_grid_2 (fun H locs hP hD hS => ?_)
  have hP : va_P D vwCl [(b0_, .inr (9, [.int 0, .long tr_, .ref bn_, .ref bt_, .ref bs_, .ref bk_, .ref bp_, .ref bi_, .ref bl_, .int it_, .int ub_, .int db_, .ref bx_, .int tp_, .int nx_, .int tk_, .int pl_, .int vl_, .int fa_, .ref bc_, .ref bf_])), (bn_, .inl (cy 0, 24, .inl (nbF nb_))), (bt_, .inl (cy 0, 6, .inl ft_))] H := hP
  have hD : va_D A [(b0_, .inr (9, [.int 0, .long tr_, .ref bn_, .ref bt_, .ref bs_, .ref bk_, .ref bp_, .ref bi_, .ref bl_, .int it_, .int ub_, .int db_, .ref bx_, .int tp_, .int nx_, .int tk_, .int pl_, .int vl_, .int fa_, .ref bc_, .ref bf_])), (bn_, .inl (cy 0, 24, .inl (nbF nb_))), (bt_, .inl (cy 0, 6, .inl ft_))] := hD
  refine lv_iload_n hx hb dX9_grid_5 rfl (lv_at hl 1 rfl) ?_
  refine ca_S (n := 1) (rest := []) (wr := [(b0_, .inr (9, [.int 0, .long tr_, .ref bn_, .ref bt_, .ref bs_, .ref bk_, .ref bp_, .ref bi_, .ref bl_, .int it_, .int ub_, .int db_, .ref bx_, .int tp_, .int nx_, .int tk_, .int pl_, .int vl_, .int fa_, .ref bc_, .ref bf_])), (bn_, .inl (cy 0, 24, .inl (nbF nb_))), (bt_, .inl (cy 0, 6, .inl ft_))]) F hK hE hA hP hD hS hl.1 (kX9_isBicycle (l := l) (D := D) (cy := cy) (sa := sa) i_) gX9_grid_X9_isBicycle rfl rfl rfl (by decide +kernel) ⟨by decide, by decide⟩ [] [0, 1, 2] rfl rfl rfl rfl (by decide) rfl rfl (Nat.le_of_ble_eq_true rfl) dX9_grid_6 ⟨by decide, by decide⟩ (fun v9 u9 H locs hv hP hD hS => ?_)
  subst hv
  have hP : va_P D vwCl [(b0_, .inr (9, [.int 0, .long tr_, .ref bn_, .ref bt_, .ref bs_, .ref bk_, .ref bp_, .ref bi_, .ref bl_, .int it_, .int ub_, .int db_, .ref bx_, .int tp_, .int nx_, .int tk_, .int pl_, .int vl_, .int fa_, .ref bc_, .ref bf_])), (bn_, .inl (cy 0, 24, .inl (nbF nb_))), (bt_, .inl (cy 0, 6, .inl ft_))] H := hP
  have hD : va_D A [(b0_, .inr (9, [.int 0, .long tr_, .ref bn_, .ref bt_, .ref bs_, .ref bk_, .ref bp_, .ref bi_, .ref bl_, .int it_, .int ub_, .int db_, .ref bx_, .int tp_, .int nx_, .int tk_, .int pl_, .int vl_, .int fa_, .ref bc_, .ref bf_])), (bn_, .inl (cy 0, 24, .inl (nbF nb_))), (bt_, .inl (cy 0, 6, .inl ft_))] := hD
  refine W.eq (g2 := F0 m 9 ls [.int (bI (inR i_ 0 3))]) rfl ?_
  refine bz_eq (tgt := 41) hx hb dX9_grid_9 (by decide) (fun c_9 => ?_) (fun c_9 => ?_)
  · refine lv_ldc (v := (-1000000)) hx hb hown wc70 dX9_grid_41 ?_
    have hno : ¬ okGrd i_ o1_ o2_ w_ := by first | exact fun z => c_9 z.1 | exact fun z => c_16 z.2.1 | exact fun z => c_23 z.2.2.1 | exact fun z => z.2.2.2.1 c_28 | exact fun z => c_38 z.2.2.2.2
    refine lv_eqi (y := r_grid nb_ i_ o1_ o2_ w_) ((if_neg hno).symm) ?_
    exact RT _ _ (ft_) H locs 43 ls (rt_i dX9_grid_43) rfl hP hD hS
  · obtain ⟨i1_, hi1, rfl⟩ := inR_n 3 (by decide) rfl c_9
    refine lv_iload_n hx hb dX9_grid_12 rfl (lv_at hl 2 rfl) ?_
    refine ca_S (n := 1) (rest := []) (wr := [(b0_, .inr (9, [.int 0, .long tr_, .ref bn_, .ref bt_, .ref bs_, .ref bk_, .ref bp_, .ref bi_, .ref bl_, .int it_, .int ub_, .int db_, .ref bx_, .int tp_, .int nx_, .int tk_, .int pl_, .int vl_, .int fa_, .ref bc_, .ref bf_])), (bn_, .inl (cy 0, 24, .inl (nbF nb_))), (bt_, .inl (cy 0, 6, .inl ft_))]) F hK hE hA hP hD hS hl.1 (kX9_isNumber (l := l) (D := D) (cy := cy) (sa := sa) o1_) gX9_grid_X9_isNumber rfl rfl rfl (by decide +kernel) ⟨by decide, by decide⟩ [] [0, 1, 2] rfl rfl rfl rfl (by decide) rfl rfl (Nat.le_of_ble_eq_true rfl) dX9_grid_13 ⟨by decide, by decide⟩ (fun v9 u9 H locs hv hP hD hS => ?_)
    subst hv
    have hP : va_P D vwCl [(b0_, .inr (9, [.int 0, .long tr_, .ref bn_, .ref bt_, .ref bs_, .ref bk_, .ref bp_, .ref bi_, .ref bl_, .int it_, .int ub_, .int db_, .ref bx_, .int tp_, .int nx_, .int tk_, .int pl_, .int vl_, .int fa_, .ref bc_, .ref bf_])), (bn_, .inl (cy 0, 24, .inl (nbF nb_))), (bt_, .inl (cy 0, 6, .inl ft_))] H := hP
    have hD : va_D A [(b0_, .inr (9, [.int 0, .long tr_, .ref bn_, .ref bt_, .ref bs_, .ref bk_, .ref bp_, .ref bi_, .ref bl_, .int it_, .int ub_, .int db_, .ref bx_, .int tp_, .int nx_, .int tk_, .int pl_, .int vl_, .int fa_, .ref bc_, .ref bf_])), (bn_, .inl (cy 0, 24, .inl (nbF nb_))), (bt_, .inl (cy 0, 6, .inl ft_))] := hD
    refine W.eq (g2 := F0 m 16 ls [.int (bI (inR o1_ 0 5))]) rfl ?_
    refine bz_eq (tgt := 41) hx hb dX9_grid_16 (by decide) (fun c_16 => ?_) (fun c_16 => ?_)
    · refine lv_ldc (v := (-1000000)) hx hb hown wc70 dX9_grid_41 ?_
      have hno : ¬ okGrd (nI i1_) o1_ o2_ w_ := by first | exact fun z => c_9 z.1 | exact fun z => c_16 z.2.1 | exact fun z => c_23 z.2.2.1 | exact fun z => z.2.2.2.1 c_28 | exact fun z => c_38 z.2.2.2.2
      refine lv_eqi (y := r_grid nb_ (nI i1_) o1_ o2_ w_) ((if_neg hno).symm) ?_
      exact RT _ _ (ft_) H locs 43 ls (rt_i dX9_grid_43) rfl hP hD hS
    · refine lv_iload_n hx hb dX9_grid_19 rfl (lv_at hl 3 rfl) ?_
      refine ca_S (n := 1) (rest := []) (wr := [(b0_, .inr (9, [.int 0, .long tr_, .ref bn_, .ref bt_, .ref bs_, .ref bk_, .ref bp_, .ref bi_, .ref bl_, .int it_, .int ub_, .int db_, .ref bx_, .int tp_, .int nx_, .int tk_, .int pl_, .int vl_, .int fa_, .ref bc_, .ref bf_])), (bn_, .inl (cy 0, 24, .inl (nbF nb_))), (bt_, .inl (cy 0, 6, .inl ft_))]) F hK hE hA hP hD hS hl.1 (kX9_isNumber (l := l) (D := D) (cy := cy) (sa := sa) o2_) gX9_grid_X9_isNumber rfl rfl rfl (by decide +kernel) ⟨by decide, by decide⟩ [] [0, 1, 2] rfl rfl rfl rfl (by decide) rfl rfl (Nat.le_of_ble_eq_true rfl) dX9_grid_20 ⟨by decide, by decide⟩ (fun v9 u9 H locs hv hP hD hS => ?_)
      subst hv
      have hP : va_P D vwCl [(b0_, .inr (9, [.int 0, .long tr_, .ref bn_, .ref bt_, .ref bs_, .ref bk_, .ref bp_, .ref bi_, .ref bl_, .int it_, .int ub_, .int db_, .ref bx_, .int tp_, .int nx_, .int tk_, .int pl_, .int vl_, .int fa_, .ref bc_, .ref bf_])), (bn_, .inl (cy 0, 24, .inl (nbF nb_))), (bt_, .inl (cy 0, 6, .inl ft_))] H := hP
      have hD : va_D A [(b0_, .inr (9, [.int 0, .long tr_, .ref bn_, .ref bt_, .ref bs_, .ref bk_, .ref bp_, .ref bi_, .ref bl_, .int it_, .int ub_, .int db_, .ref bx_, .int tp_, .int nx_, .int tk_, .int pl_, .int vl_, .int fa_, .ref bc_, .ref bf_])), (bn_, .inl (cy 0, 24, .inl (nbF nb_))), (bt_, .inl (cy 0, 6, .inl ft_))] := hD
      refine W.eq (g2 := F0 m 23 ls [.int (bI (inR o2_ 0 5))]) rfl ?_
      refine bz_eq (tgt := 41) hx hb dX9_grid_23 (by decide) (fun c_23 => ?_) (fun c_23 => ?_)
      · refine lv_ldc (v := (-1000000)) hx hb hown wc70 dX9_grid_41 ?_
        have hno : ¬ okGrd (nI i1_) o1_ o2_ w_ := by first | exact fun z => c_9 z.1 | exact fun z => c_16 z.2.1 | exact fun z => c_23 z.2.2.1 | exact fun z => z.2.2.2.1 c_28 | exact fun z => c_38 z.2.2.2.2
        refine lv_eqi (y := r_grid nb_ (nI i1_) o1_ o2_ w_) ((if_neg hno).symm) ?_
        exact RT _ _ (ft_) H locs 43 ls (rt_i dX9_grid_43) rfl hP hD hS
      · refine lv_iload_n hx hb dX9_grid_26 rfl (lv_at hl 2 rfl) ?_
        refine lv_iload_n hx hb dX9_grid_27 rfl (lv_at hl 3 rfl) ?_
        refine lv_icmp_eq (tgt := 41) hx hb dX9_grid_28 (by decide) (fun c_28 => ?_) (fun c_28 => ?_)
        · refine lv_ldc (v := (-1000000)) hx hb hown wc70 dX9_grid_41 ?_
          have hno : ¬ okGrd (nI i1_) o1_ o2_ w_ := by first | exact fun z => c_9 z.1 | exact fun z => c_16 z.2.1 | exact fun z => c_23 z.2.2.1 | exact fun z => z.2.2.2.1 c_28 | exact fun z => c_38 z.2.2.2.2
          refine lv_eqi (y := r_grid nb_ (nI i1_) o1_ o2_ w_) ((if_neg hno).symm) ?_
          exact RT _ _ (ft_) H locs 43 ls (rt_i dX9_grid_43) rfl hP hD hS
        · refine lv_iload hx hb dX9_grid_31 (lv_at hl 4 rfl) ?_
          refine lv_iconst (v := 0) hx hb dX9_grid_33 (by decide) ?_
          refine lv_iconst (v := 2) hx hb dX9_grid_34 (by decide) ?_
          refine ca_S (n := 3) (rest := []) (wr := [(b0_, .inr (9, [.int 0, .long tr_, .ref bn_, .ref bt_, .ref bs_, .ref bk_, .ref bp_, .ref bi_, .ref bl_, .int it_, .int ub_, .int db_, .ref bx_, .int tp_, .int nx_, .int tk_, .int pl_, .int vl_, .int fa_, .ref bc_, .ref bf_])), (bn_, .inl (cy 0, 24, .inl (nbF nb_))), (bt_, .inl (cy 0, 6, .inl ft_))]) F hK hE hA hP hD hS hl.1 (kX9_in (l := l) (D := D) (cy := cy) (sa := sa) w_ 0 2) gX9_grid_X9_in rfl rfl rfl (by decide +kernel) ⟨by decide, by decide⟩ [] [0, 1, 2] rfl rfl rfl rfl (by decide) rfl rfl (Nat.le_of_ble_eq_true rfl) dX9_grid_35 ⟨by decide, by decide⟩ (fun v9 u9 H locs hv hP hD hS => ?_)
          subst hv
          have hP : va_P D vwCl [(b0_, .inr (9, [.int 0, .long tr_, .ref bn_, .ref bt_, .ref bs_, .ref bk_, .ref bp_, .ref bi_, .ref bl_, .int it_, .int ub_, .int db_, .ref bx_, .int tp_, .int nx_, .int tk_, .int pl_, .int vl_, .int fa_, .ref bc_, .ref bf_])), (bn_, .inl (cy 0, 24, .inl (nbF nb_))), (bt_, .inl (cy 0, 6, .inl ft_))] H := hP
          have hD : va_D A [(b0_, .inr (9, [.int 0, .long tr_, .ref bn_, .ref bt_, .ref bs_, .ref bk_, .ref bp_, .ref bi_, .ref bl_, .int it_, .int ub_, .int db_, .ref bx_, .int tp_, .int nx_, .int tk_, .int pl_, .int vl_, .int fa_, .ref bc_, .ref bf_])), (bn_, .inl (cy 0, 24, .inl (nbF nb_))), (bt_, .inl (cy 0, 6, .inl ft_))] := hD
          refine W.eq (g2 := F0 m 38 ls [.int (bI (inR w_ 0 2))]) rfl ?_
          refine bz_ne (tgt := 44) hx hb dX9_grid_38 (by decide) (fun c_38 => ?_) (fun c_38 => ?_)
          · obtain ⟨o3, ho3, rfl⟩ := inR_n 5 (by decide) rfl c_16
            obtain ⟨o4, ho4, rfl⟩ := inR_n 5 (by decide) rfl c_23
            have hne : o3 ≠ o4 := fun z => c_28 (by rw [z])
            refine lv_aload_n hx hb dX9_grid_44 rfl (lv_at hl 0 rfl) ?_
            refine lv_iload_n hx hb dX9_grid_45 rfl (lv_at hl 1 rfl) ?_
            refine ca_V (q0 := 0) (n := 1) (rest := []) (wr := []) F hK hE hA hP hD hS hl.1 (kX9_takes (l := l) (D := D) (cy := cy) (sa := sa) b0_ 0 tr_ bn_ bt_ bs_ bk_ bp_ bi_ bl_ it_ ub_ db_ bx_ tp_ nx_ tk_ pl_ vl_ fa_ bc_ bf_ nb_ ft_ i1_ (by first | assumption | omega | decide)) gX9_grid_X9_takes rfl rfl rfl rfl rfl rfl (by decide +kernel) ⟨by decide, by decide⟩ [0, 1, 2] [] rfl rfl rfl rfl (by decide) rfl rfl (Nat.le_of_ble_eq_true rfl) dX9_grid_46 ⟨by decide, by decide⟩ (fun v9 u9 H locs hv hP hD hS => ?_)
            subst hv
            obtain ⟨hP, hD⟩ := re_ws (ws' := [(b0_, .inr (9, [.int 0, .long tr_, .ref bn_, .ref bt_, .ref bs_, .ref bk_, .ref bp_, .ref bi_, .ref bl_, .int it_, .int ub_, .int db_, .ref bx_, .int tp_, .int nx_, .int tk_, .int pl_, .int vl_, .int fa_, .ref bc_, .ref bf_])), (bn_, .inl (cy 0, 24, .inl (nbF nb_))), (bt_, .inl (cy 0, 6, .inl (nb_ i1_)))]) hP hD [0, 1, 2] rfl rfl
            refine W.eq (g2 := F0 m 49 ls []) rfl ?_
            refine lv_iconst (v := 0) hx hb dX9_grid_49 (by decide) ?_
            refine lv_istore (lv' := [(5, .int 0), (0, .ref b0_), (1, .int (nI i1_)), (2, .int (nI o3)), (3, .int (nI o4)), (4, .int w_)]) hx hb dX9_grid_50 hl (by decide) rfl (fun ls hl => ?_)
            refine lv_ldc (v := (-1000000)) hx hb hown wc70 dX9_grid_52 ?_
            refine lv_istore (lv' := [(6, .int (-1000000)), (5, .int 0), (0, .ref b0_), (1, .int (nI i1_)), (2, .int (nI o3)), (3, .int (nI o4)), (4, .int w_)]) hx hb dX9_grid_54 hl (by decide) rfl (fun ls hl => ?_)
            refine lv_ldc (v := (-1000000)) hx hb hown wc70 dX9_grid_56 ?_
            refine lv_istore (lv' := [(7, .int (-1000000)), (6, .int (-1000000)), (5, .int 0), (0, .ref b0_), (1, .int (nI i1_)), (2, .int (nI o3)), (3, .int (nI o4)), (4, .int w_)]) hx hb dX9_grid_58 hl (by decide) rfl (fun ls hl => ?_)
            refine lv_iload_n hx hb dX9_grid_60 rfl (lv_at hl 5 rfl) ?_
            refine ca_S (n := 1) (rest := []) (wr := [(b0_, .inr (9, [.int 0, .long tr_, .ref bn_, .ref bt_, .ref bs_, .ref bk_, .ref bp_, .ref bi_, .ref bl_, .int it_, .int ub_, .int db_, .ref bx_, .int tp_, .int nx_, .int tk_, .int pl_, .int vl_, .int fa_, .ref bc_, .ref bf_])), (bn_, .inl (cy 0, 24, .inl (nbF nb_))), (bt_, .inl (cy 0, 6, .inl (nb_ i1_)))]) F hK hE hA hP hD hS hl.1 (kX9_bottom (l := l) (D := D) (cy := cy) (sa := sa) (nI o3)) gX9_grid_X9_bottom rfl rfl rfl (by decide +kernel) ⟨by decide, by decide⟩ [] [0, 1, 2] rfl rfl rfl rfl (by decide) rfl rfl (Nat.le_of_ble_eq_true rfl) dX9_grid_61 ⟨by decide, by decide⟩ (fun v9 u9 H locs hv hP hD hS => ?_)
            subst hv
            have hP : va_P D vwCl [(b0_, .inr (9, [.int 0, .long tr_, .ref bn_, .ref bt_, .ref bs_, .ref bk_, .ref bp_, .ref bi_, .ref bl_, .int it_, .int ub_, .int db_, .ref bx_, .int tp_, .int nx_, .int tk_, .int pl_, .int vl_, .int fa_, .ref bc_, .ref bf_])), (bn_, .inl (cy 0, 24, .inl (nbF nb_))), (bt_, .inl (cy 0, 6, .inl (nb_ i1_)))] H := hP
            have hD : va_D A [(b0_, .inr (9, [.int 0, .long tr_, .ref bn_, .ref bt_, .ref bs_, .ref bk_, .ref bp_, .ref bi_, .ref bl_, .int it_, .int ub_, .int db_, .ref bx_, .int tp_, .int nx_, .int tk_, .int pl_, .int vl_, .int fa_, .ref bc_, .ref bf_])), (bn_, .inl (cy 0, 24, .inl (nbF nb_))), (bt_, .inl (cy 0, 6, .inl (nb_ i1_)))] := hD
            refine W.eq (g2 := F0 m 64 ls [.int (bot (nI o3))]) rfl ?_
            refine lv_istore (lv' := [(8, .int (bot (nI o3))), (7, .int (-1000000)), (6, .int (-1000000)), (5, .int 0), (0, .ref b0_), (1, .int (nI i1_)), (2, .int (nI o3)), (3, .int (nI o4)), (4, .int w_)]) hx hb dX9_grid_64 hl (by decide) rfl (fun ls hl => ?_)
            have L_66 : ∀ (nF : Nat) (t_ : Nat) (ftc_ : Nat → Int32), (t_ ≤ lenK o3) → (∀ z, z < 6 → z ≠ o3 → z ≠ o4 → ftc_ z = nb_ i1_ z) → lenK o3 - t_ < nF → ∀ (H : Heap) (locs : List Loc), va_P D vwCl [(b0_, .inr (9, [.int 0, .long tr_, .ref bn_, .ref bt_, .ref bs_, .ref bk_, .ref bp_, .ref bi_, .ref bl_, .int it_, .int ub_, .int db_, .ref bx_, .int tp_, .int nx_, .int tk_, .int pl_, .int vl_, .int fa_, .ref bc_, .ref bf_])), (bn_, .inl (cy 0, 24, .inl (nbF nb_))), (bt_, .inl (cy 0, 6, .inl ftc_))] H → va_D A [(b0_, .inr (9, [.int 0, .long tr_, .ref bn_, .ref bt_, .ref bs_, .ref bk_, .ref bp_, .ref bi_, .ref bl_, .int it_, .int ub_, .int db_, .ref bx_, .int tp_, .int nx_, .int tk_, .int pl_, .int vl_, .int fa_, .ref bc_, .ref bf_])), (bn_, .inl (cy 0, 24, .inl (nbF nb_))), (bt_, .inl (cy 0, 6, .inl ftc_))] → va_S A s.heap H locs → ∀ (ls : Array Slot), lv_has ls 10 [(8, .int (bot (nI o3) + nI t_)), (7, .int ((gOut (nb_ i1_) o3 o4 t_).2.2)), (6, .int ((gOut (nb_ i1_) o3 o4 t_).2.1)), (5, .int ((gOut (nb_ i1_) o3 o4 t_).1)), (0, .ref b0_), (1, .int (nI i1_)), (2, .int (nI o3)), (3, .int (nI o4)), (4, .int w_)] → W p l e rmkX9_grid s m args below meth c H locs 0 0 Q (F0 m 66 ls []) := by
              intro nF
              induction nF with
              | zero => intro t_ ftc_ ht hkp hnF; exact absurd hnF (Nat.not_lt_zero _)
              | succ nF ih_66 =>
                intro t_ ftc_ ht hkp hn_66 H locs hP hD hS ls hl
                refine lv_iload hx hb dX9_grid_66 (lv_at hl 0 rfl) ?_
                refine lv_bipush (v := 10) hx hb dX9_grid_68 (by decide) ?_
                refine lv_icmp_ge (tgt := 154) hx hb dX9_grid_70 (by decide) (fun c_70 => ?_) (fun c_70 => ?_)
                · have ht9 : t_ = lenK o3 := (lenK_ge o3 (by omega) t_ (by have := lenK_le o3; omega) ht).mp c_70
                  refine lv_iload hx hb dX9_grid_154 (lv_at hl 8 rfl) ?_
                  refine lv_if_ne (tgt := 164) hx hb dX9_grid_156 (by decide) (fun c_156 => ?_) (fun c_156 => ?_)
                  · refine lv_iload hx hb dX9_grid_164 (lv_at hl 8 rfl) ?_
                    refine lv_iconst (v := 1) hx hb dX9_grid_166 (by decide) ?_
                    refine lv_icmp_ne (tgt := 175) hx hb dX9_grid_167 (by decide) (fun c_167 => ?_) (fun c_167 => ?_)
                    · refine lv_iload hx hb dX9_grid_175 (lv_at hl 1 rfl) ?_
                      refine lv_eqi (y := r_grid nb_ (nI i1_) (nI o3) (nI o4) w_) (by rw [r_grid, if_pos ⟨c_9, c_16, c_23, c_28, c_38⟩, cl_n (by omega), cl_n (by omega), cl_n (by omega), grN, ← ht9]; first | (rw [if_pos c_156]; done) | (rw [if_neg c_156, if_pos c_167]; done) | rw [if_neg c_156, if_neg c_167]) ?_
                      exact RT _ _ (ftc_) H locs 177 ls (rt_i dX9_grid_177) rfl hP hD hS
                    · refine lv_iload hx hb dX9_grid_170 (lv_at hl 2 rfl) ?_
                      refine lv_goto (tgt := 177) hx hb dX9_grid_172 (by decide) ?_
                      refine lv_eqi (y := r_grid nb_ (nI i1_) (nI o3) (nI o4) w_) (by rw [r_grid, if_pos ⟨c_9, c_16, c_23, c_28, c_38⟩, cl_n (by omega), cl_n (by omega), cl_n (by omega), grN, ← ht9]; first | (rw [if_pos c_156]; done) | (rw [if_neg c_156, if_pos c_167]; done) | rw [if_neg c_156, if_neg c_167]) ?_
                      exact RT _ _ (ftc_) H locs 177 ls (rt_i dX9_grid_177) rfl hP hD hS
                  · refine lv_iload hx hb dX9_grid_159 (lv_at hl 3 rfl) ?_
                    refine lv_goto (tgt := 177) hx hb dX9_grid_161 (by decide) ?_
                    refine lv_eqi (y := r_grid nb_ (nI i1_) (nI o3) (nI o4) w_) (by rw [r_grid, if_pos ⟨c_9, c_16, c_23, c_28, c_38⟩, cl_n (by omega), cl_n (by omega), cl_n (by omega), grN, ← ht9]; first | (rw [if_pos c_156]; done) | (rw [if_neg c_156, if_pos c_167]; done) | rw [if_neg c_156, if_neg c_167]) ?_
                    exact RT _ _ (ftc_) H locs 177 ls (rt_i dX9_grid_177) rfl hP hD hS
                · refine lv_iload_n hx hb dX9_grid_73 rfl (lv_at hl 7 rfl) ?_
                  refine ca_S (n := 1) (rest := []) (wr := [(b0_, .inr (9, [.int 0, .long tr_, .ref bn_, .ref bt_, .ref bs_, .ref bk_, .ref bp_, .ref bi_, .ref bl_, .int it_, .int ub_, .int db_, .ref bx_, .int tp_, .int nx_, .int tk_, .int pl_, .int vl_, .int fa_, .ref bc_, .ref bf_])), (bn_, .inl (cy 0, 24, .inl (nbF nb_))), (bt_, .inl (cy 0, 6, .inl ftc_))]) F hK hE hA hP hD hS hl.1 (kX9_bottom (l := l) (D := D) (cy := cy) (sa := sa) (nI o4)) gX9_grid_X9_bottom rfl rfl rfl (by decide +kernel) ⟨by decide, by decide⟩ [] [0, 1, 2] rfl rfl rfl rfl (by decide) rfl rfl (Nat.le_of_ble_eq_true rfl) dX9_grid_74 ⟨by decide, by decide⟩ (fun v9 u9 H locs hv hP hD hS => ?_)
                  subst hv
                  have hP : va_P D vwCl [(b0_, .inr (9, [.int 0, .long tr_, .ref bn_, .ref bt_, .ref bs_, .ref bk_, .ref bp_, .ref bi_, .ref bl_, .int it_, .int ub_, .int db_, .ref bx_, .int tp_, .int nx_, .int tk_, .int pl_, .int vl_, .int fa_, .ref bc_, .ref bf_])), (bn_, .inl (cy 0, 24, .inl (nbF nb_))), (bt_, .inl (cy 0, 6, .inl ftc_))] H := hP
                  have hD : va_D A [(b0_, .inr (9, [.int 0, .long tr_, .ref bn_, .ref bt_, .ref bs_, .ref bk_, .ref bp_, .ref bi_, .ref bl_, .int it_, .int ub_, .int db_, .ref bx_, .int tp_, .int nx_, .int tk_, .int pl_, .int vl_, .int fa_, .ref bc_, .ref bf_])), (bn_, .inl (cy 0, 24, .inl (nbF nb_))), (bt_, .inl (cy 0, 6, .inl ftc_))] := hD
                  refine W.eq (g2 := F0 m 77 ls [.int (bot (nI o4))]) rfl ?_
                  refine lv_istore (lv' := [(9, .int (bot (nI o4))), (8, .int (bot (nI o3) + nI t_)), (7, .int ((gOut (nb_ i1_) o3 o4 t_).2.2)), (6, .int ((gOut (nb_ i1_) o3 o4 t_).2.1)), (5, .int ((gOut (nb_ i1_) o3 o4 t_).1)), (0, .ref b0_), (1, .int (nI i1_)), (2, .int (nI o3)), (3, .int (nI o4)), (4, .int w_)]) hx hb dX9_grid_77 hl (by decide) rfl (fun ls hl => ?_)
                  have L_79 : ∀ (nF : Nat) (u_ : Nat) (ftd_ : Nat → Int32), (u_ ≤ lenK o4) → (∀ z, z < 6 → z ≠ o3 → z ≠ o4 → ftd_ z = nb_ i1_ z) → lenK o4 - u_ < nF → ∀ (H : Heap) (locs : List Loc), va_P D vwCl [(b0_, .inr (9, [.int 0, .long tr_, .ref bn_, .ref bt_, .ref bs_, .ref bk_, .ref bp_, .ref bi_, .ref bl_, .int it_, .int ub_, .int db_, .ref bx_, .int tp_, .int nx_, .int tk_, .int pl_, .int vl_, .int fa_, .ref bc_, .ref bf_])), (bn_, .inl (cy 0, 24, .inl (nbF nb_))), (bt_, .inl (cy 0, 6, .inl ftd_))] H → va_D A [(b0_, .inr (9, [.int 0, .long tr_, .ref bn_, .ref bt_, .ref bs_, .ref bk_, .ref bp_, .ref bi_, .ref bl_, .int it_, .int ub_, .int db_, .ref bx_, .int tp_, .int nx_, .int tk_, .int pl_, .int vl_, .int fa_, .ref bc_, .ref bf_])), (bn_, .inl (cy 0, 24, .inl (nbF nb_))), (bt_, .inl (cy 0, 6, .inl ftd_))] → va_S A s.heap H locs → ∀ (ls : Array Slot), lv_has ls 10 [(9, .int (bot (nI o4) + nI u_)), (8, .int (bot (nI o3) + nI t_)), (7, .int ((gIn (nb_ i1_) o3 o4 (bot (nI o3) + nI t_) u_ (gOut (nb_ i1_) o3 o4 t_)).2.2)), (6, .int ((gIn (nb_ i1_) o3 o4 (bot (nI o3) + nI t_) u_ (gOut (nb_ i1_) o3 o4 t_)).2.1)), (5, .int ((gIn (nb_ i1_) o3 o4 (bot (nI o3) + nI t_) u_ (gOut (nb_ i1_) o3 o4 t_)).1)), (0, .ref b0_), (1, .int (nI i1_)), (2, .int (nI o3)), (3, .int (nI o4)), (4, .int w_)] → W p l e rmkX9_grid s m args below meth c H locs 0 0 Q (F0 m 79 ls []) := by
                    intro nF
                    induction nF with
                    | zero => intro u_ ftd_ hu hkp2 hnF; exact absurd hnF (Nat.not_lt_zero _)
                    | succ nF ih_79 =>
                      intro u_ ftd_ hu hkp2 hn_79 H locs hP hD hS ls hl
                      refine lv_iload hx hb dX9_grid_79 (lv_at hl 0 rfl) ?_
                      refine lv_bipush (v := 10) hx hb dX9_grid_81 (by decide) ?_
                      refine lv_icmp_ge (tgt := 148) hx hb dX9_grid_83 (by decide) (fun c_83 => ?_) (fun c_83 => ?_)
                      · refine lv_iinc (v := bot (nI o3) + nI (t_ + 1)) (lv' := [(8, .int (bot (nI o3) + nI (t_ + 1))), (9, .int (bot (nI o4) + nI u_)), (7, .int ((gIn (nb_ i1_) o3 o4 (bot (nI o3) + nI t_) u_ (gOut (nb_ i1_) o3 o4 t_)).2.2)), (6, .int ((gIn (nb_ i1_) o3 o4 (bot (nI o3) + nI t_) u_ (gOut (nb_ i1_) o3 o4 t_)).2.1)), (5, .int ((gIn (nb_ i1_) o3 o4 (bot (nI o3) + nI t_) u_ (gOut (nb_ i1_) o3 o4 t_)).1)), (0, .ref b0_), (1, .int (nI i1_)), (2, .int (nI o3)), (3, .int (nI o4)), (4, .int w_)]) hx hb dX9_grid_148 hl (k := 1) rfl (add_nIs _ _) (by decide) rfl (fun ls hl => ?_)
                        refine lv_goto (tgt := 66) hx hb dX9_grid_151 (by decide) ?_
                        have hu9 : u_ = lenK o4 := (lenK_ge o4 (by omega) u_ (by have := lenK_le o4; omega) hu).mp c_83
                        have hg9 : gOut (nb_ i1_) o3 o4 (t_ + 1) = gIn (nb_ i1_) o3 o4 (bot (nI o3) + nI t_) u_ (gOut (nb_ i1_) o3 o4 t_) := by rw [hu9]; rfl
                        rw [show ((7, .int ((gIn (nb_ i1_) o3 o4 (bot (nI o3) + nI t_) u_ (gOut (nb_ i1_) o3 o4 t_)).2.2)) : Nat × Value) = (7, .int ((gOut (nb_ i1_) o3 o4 (t_ + 1)).2.2)) from congrArg (fun y9 => ((7, Value.int y9) : Nat × Value)) (show (gIn (nb_ i1_) o3 o4 (bot (nI o3) + nI t_) u_ (gOut (nb_ i1_) o3 o4 t_)).2.2 = (gOut (nb_ i1_) o3 o4 (t_ + 1)).2.2 from congrArg (fun g => g.2.2) hg9.symm)] at hl
                        rw [show ((6, .int ((gIn (nb_ i1_) o3 o4 (bot (nI o3) + nI t_) u_ (gOut (nb_ i1_) o3 o4 t_)).2.1)) : Nat × Value) = (6, .int ((gOut (nb_ i1_) o3 o4 (t_ + 1)).2.1)) from congrArg (fun y9 => ((6, Value.int y9) : Nat × Value)) (show (gIn (nb_ i1_) o3 o4 (bot (nI o3) + nI t_) u_ (gOut (nb_ i1_) o3 o4 t_)).2.1 = (gOut (nb_ i1_) o3 o4 (t_ + 1)).2.1 from congrArg (fun g => g.2.1) hg9.symm)] at hl
                        rw [show ((5, .int ((gIn (nb_ i1_) o3 o4 (bot (nI o3) + nI t_) u_ (gOut (nb_ i1_) o3 o4 t_)).1)) : Nat × Value) = (5, .int ((gOut (nb_ i1_) o3 o4 (t_ + 1)).1)) from congrArg (fun y9 => ((5, Value.int y9) : Nat × Value)) (show (gIn (nb_ i1_) o3 o4 (bot (nI o3) + nI t_) u_ (gOut (nb_ i1_) o3 o4 t_)).1 = (gOut (nb_ i1_) o3 o4 (t_ + 1)).1 from congrArg (fun g => g.1) hg9.symm)] at hl
                        exact ih_66 (t_ + 1) ftd_ (Nat.lt_of_le_of_ne ht (fun z => c_70 ((lenK_ge o3 (by omega) t_ (by have := lenK_le o3; omega) ht).mpr z))) (hkp2) (by have h7 : t_ < lenK o3 := Nat.lt_of_le_of_ne ht (fun z => c_70 ((lenK_ge o3 (by omega) t_ (by have := lenK_le o3; omega) ht).mpr z)); omega) H locs hP hD hS ls (lv_sub hl [0, 2, 3, 4, 5, 6, 7, 8, 9] rfl)
                      · refine lv_aload_n hx hb dX9_grid_86 rfl (lv_at hl 5 rfl) ?_
                        refine va_get (D := D) (ci := 9) (v := .ref bt_) (C := RX9) (T := TX9) (N := 21) hx hb hts winX9 hown hK hP 0 rfl rfl 3 (by decide) wf13 (fun _ h9 => h9) rfl dX9_grid_87 ?_
                        refine lv_iload_n hx hb dX9_grid_90 rfl (lv_at hl 7 rfl) ?_
                        refine lv_iload hx hb dX9_grid_91 (lv_at hl 1 rfl) ?_
                        refine as_i (x := bot (nI o3) + nI t_) hx hb hK hP hD hS 2 rfl o3 (rfl) (by omega) (by decide) dX9_grid_93 (fun H locs hP hD hS => ?_)
                        have hP : va_P D vwCl [(b0_, .inr (9, [.int 0, .long tr_, .ref bn_, .ref bt_, .ref bs_, .ref bk_, .ref bp_, .ref bi_, .ref bl_, .int it_, .int ub_, .int db_, .ref bx_, .int tp_, .int nx_, .int tk_, .int pl_, .int vl_, .int fa_, .ref bc_, .ref bf_])), (bn_, .inl (cy 0, 24, .inl (nbF nb_))), (bt_, .inl (cy 0, 6, .inl (upd ftd_ o3 (bot (nI o3) + nI t_))))] H := hP
                        have hD : va_D A [(b0_, .inr (9, [.int 0, .long tr_, .ref bn_, .ref bt_, .ref bs_, .ref bk_, .ref bp_, .ref bi_, .ref bl_, .int it_, .int ub_, .int db_, .ref bx_, .int tp_, .int nx_, .int tk_, .int pl_, .int vl_, .int fa_, .ref bc_, .ref bf_])), (bn_, .inl (cy 0, 24, .inl (nbF nb_))), (bt_, .inl (cy 0, 6, .inl (upd ftd_ o3 (bot (nI o3) + nI t_))))] := hD
                        refine lv_aload_n hx hb dX9_grid_94 rfl (lv_at hl 5 rfl) ?_
                        refine va_get (D := D) (ci := 9) (v := .ref bt_) (C := RX9) (T := TX9) (N := 21) hx hb hts winX9 hown hK hP 0 rfl rfl 3 (by decide) wf13 (fun _ h9 => h9) rfl dX9_grid_95 ?_
                        refine lv_iload_n hx hb dX9_grid_98 rfl (lv_at hl 8 rfl) ?_
                        refine lv_iload hx hb dX9_grid_99 (lv_at hl 0 rfl) ?_
                        refine as_i (x := bot (nI o4) + nI u_) hx hb hK hP hD hS 2 rfl o4 (rfl) (by omega) (by decide) dX9_grid_101 (fun H locs hP hD hS => ?_)
                        have hP : va_P D vwCl [(b0_, .inr (9, [.int 0, .long tr_, .ref bn_, .ref bt_, .ref bs_, .ref bk_, .ref bp_, .ref bi_, .ref bl_, .int it_, .int ub_, .int db_, .ref bx_, .int tp_, .int nx_, .int tk_, .int pl_, .int vl_, .int fa_, .ref bc_, .ref bf_])), (bn_, .inl (cy 0, 24, .inl (nbF nb_))), (bt_, .inl (cy 0, 6, .inl (upd (upd ftd_ o3 (bot (nI o3) + nI t_)) o4 (bot (nI o4) + nI u_))))] H := hP
                        have hD : va_D A [(b0_, .inr (9, [.int 0, .long tr_, .ref bn_, .ref bt_, .ref bs_, .ref bk_, .ref bp_, .ref bi_, .ref bl_, .int it_, .int ub_, .int db_, .ref bx_, .int tp_, .int nx_, .int tk_, .int pl_, .int vl_, .int fa_, .ref bc_, .ref bf_])), (bn_, .inl (cy 0, 24, .inl (nbF nb_))), (bt_, .inl (cy 0, 6, .inl (upd (upd ftd_ o3 (bot (nI o3) + nI t_)) o4 (bot (nI o4) + nI u_))))] := hD
                        obtain ⟨hP, hD⟩ := ro_ws (g := upd (upd (nb_ i1_) o3 (bot (nI o3) + nI t_)) o4 (bot (nI o4) + nI u_)) hP hD 2 rfl (fun z hz => upd2_ext hkp2 _ _ z hz)
                        have hP : va_P D vwCl [(b0_, .inr (9, [.int 0, .long tr_, .ref bn_, .ref bt_, .ref bs_, .ref bk_, .ref bp_, .ref bi_, .ref bl_, .int it_, .int ub_, .int db_, .ref bx_, .int tp_, .int nx_, .int tk_, .int pl_, .int vl_, .int fa_, .ref bc_, .ref bf_])), (bn_, .inl (cy 0, 24, .inl (nbF nb_))), (bt_, .inl (cy 0, 6, .inl (upd (upd (nb_ i1_) o3 (bot (nI o3) + nI t_)) o4 (bot (nI o4) + nI u_))))] H := hP
                        have hD : va_D A [(b0_, .inr (9, [.int 0, .long tr_, .ref bn_, .ref bt_, .ref bs_, .ref bk_, .ref bp_, .ref bi_, .ref bl_, .int it_, .int ub_, .int db_, .ref bx_, .int tp_, .int nx_, .int tk_, .int pl_, .int vl_, .int fa_, .ref bc_, .ref bf_])), (bn_, .inl (cy 0, 24, .inl (nbF nb_))), (bt_, .inl (cy 0, 6, .inl (upd (upd (nb_ i1_) o3 (bot (nI o3) + nI t_)) o4 (bot (nI o4) + nI u_))))] := hD
                        refine lv_aload_n hx hb dX9_grid_102 rfl (lv_at hl 5 rfl) ?_
                        refine ca_V (q0 := 0) (n := 0) (rest := []) (wr := [(bn_, .inl (cy 0, 24, .inl (nbF nb_)))]) F hK hE hA hP hD hS hl.1 (kX9_speeds (l := l) (D := D) (cy := cy) (sa := sa) b0_ 0 tr_ bn_ bt_ bs_ bk_ bp_ bi_ bl_ it_ ub_ db_ bx_ tp_ nx_ tk_ pl_ vl_ fa_ bc_ bf_ (upd (upd (nb_ i1_) o3 (bot (nI o3) + nI t_)) o4 (bot (nI o4) + nI u_))) gX9_grid_X9_speeds rfl rfl rfl rfl rfl rfl (by decide +kernel) ⟨by decide, by decide⟩ [0, 2] [1] rfl rfl rfl rfl (by decide) rfl rfl (Nat.le_of_ble_eq_true rfl) dX9_grid_103 ⟨by decide, by decide⟩ (fun v9 u9 H locs hv hP hD hS => ?_)
                        subst hv
                        obtain ⟨hP, hD⟩ := re_ws (ws' := [(b0_, .inr (9, [.int 0, .long tr_, .ref bn_, .ref bt_, .ref bs_, .ref bk_, .ref bp_, .ref bi_, .ref bl_, .int it_, .int ub_, .int db_, .ref bx_, .int tp_, .int nx_, .int tk_, .int pl_, .int vl_, .int fa_, .ref bc_, .ref bf_])), (bn_, .inl (cy 0, 24, .inl (nbF nb_))), (bt_, .inl (cy 0, 6, .inl (upd (upd (nb_ i1_) o3 (bot (nI o3) + nI t_)) o4 (bot (nI o4) + nI u_))))]) hP hD [1, 0, 2] rfl rfl
                        refine W.eq (g2 := F0 m 106 ls [.long (rg (upd (upd (nb_ i1_) o3 (bot (nI o3) + nI t_)) o4 (bot (nI o4) + nI u_)) 41)]) rfl ?_
                        refine lv_lconst (v := 0) hx hb dX9_grid_106 (by decide) ?_
                        refine W.lcmp hx hb dX9_grid_107 ?_
                        refine lc_eq (tgt := 142) hx hb dX9_grid_108 (by decide) (fun c_108 => ?_) (fun c_108 => ?_)
                        · refine lv_iinc (v := bot (nI o4) + nI (u_ + 1)) (lv' := [(9, .int (bot (nI o4) + nI (u_ + 1))), (8, .int (bot (nI o3) + nI t_)), (7, .int ((gIn (nb_ i1_) o3 o4 (bot (nI o3) + nI t_) u_ (gOut (nb_ i1_) o3 o4 t_)).2.2)), (6, .int ((gIn (nb_ i1_) o3 o4 (bot (nI o3) + nI t_) u_ (gOut (nb_ i1_) o3 o4 t_)).2.1)), (5, .int ((gIn (nb_ i1_) o3 o4 (bot (nI o3) + nI t_) u_ (gOut (nb_ i1_) o3 o4 t_)).1)), (0, .ref b0_), (1, .int (nI i1_)), (2, .int (nI o3)), (3, .int (nI o4)), (4, .int w_)]) hx hb dX9_grid_142 hl (k := 0) rfl (add_nIs _ _) (by decide) rfl (fun ls hl => ?_)
                          refine lv_goto (tgt := 79) hx hb dX9_grid_145 (by decide) ?_
                          have hu1 : u_ < lenK o4 := Nat.lt_of_le_of_ne hu (fun z => c_83 ((lenK_ge o4 (by omega) u_ (by have := lenK_le o4; omega) hu).mpr z))
                          have hg8 : gIn (nb_ i1_) o3 o4 (bot (nI o3) + nI t_) (u_ + 1) (gOut (nb_ i1_) o3 o4 t_) = gst (nb_ i1_) o3 o4 (bot (nI o3) + nI t_) (bot (nI o4) + nI u_) (gIn (nb_ i1_) o3 o4 (bot (nI o3) + nI t_) u_ (gOut (nb_ i1_) o3 o4 t_)) := rfl
                          rw [show ((7, .int ((gIn (nb_ i1_) o3 o4 (bot (nI o3) + nI t_) u_ (gOut (nb_ i1_) o3 o4 t_)).2.2)) : Nat × Value) = (7, .int ((gIn (nb_ i1_) o3 o4 (bot (nI o3) + nI t_) (u_ + 1) (gOut (nb_ i1_) o3 o4 t_)).2.2)) from congrArg (fun y9 => ((7, Value.int y9) : Nat × Value)) (show (gIn (nb_ i1_) o3 o4 (bot (nI o3) + nI t_) u_ (gOut (nb_ i1_) o3 o4 t_)).2.2 = (gIn (nb_ i1_) o3 o4 (bot (nI o3) + nI t_) (u_ + 1) (gOut (nb_ i1_) o3 o4 t_)).2.2 from (by rw [hg8, gst]; first | (rw [if_pos c_108]; done) | (rw [if_neg c_108, ez127]; done)))] at hl
                          rw [show ((6, .int ((gIn (nb_ i1_) o3 o4 (bot (nI o3) + nI t_) u_ (gOut (nb_ i1_) o3 o4 t_)).2.1)) : Nat × Value) = (6, .int ((gIn (nb_ i1_) o3 o4 (bot (nI o3) + nI t_) (u_ + 1) (gOut (nb_ i1_) o3 o4 t_)).2.1)) from congrArg (fun y9 => ((6, Value.int y9) : Nat × Value)) (show (gIn (nb_ i1_) o3 o4 (bot (nI o3) + nI t_) u_ (gOut (nb_ i1_) o3 o4 t_)).2.1 = (gIn (nb_ i1_) o3 o4 (bot (nI o3) + nI t_) (u_ + 1) (gOut (nb_ i1_) o3 o4 t_)).2.1 from (by rw [hg8, gst]; first | (rw [if_pos c_108]; done) | (rw [if_neg c_108, ez113]; done)))] at hl
                          rw [show ((5, .int ((gIn (nb_ i1_) o3 o4 (bot (nI o3) + nI t_) u_ (gOut (nb_ i1_) o3 o4 t_)).1)) : Nat × Value) = (5, .int ((gIn (nb_ i1_) o3 o4 (bot (nI o3) + nI t_) (u_ + 1) (gOut (nb_ i1_) o3 o4 t_)).1)) from congrArg (fun y9 => ((5, Value.int y9) : Nat × Value)) (show (gIn (nb_ i1_) o3 o4 (bot (nI o3) + nI t_) u_ (gOut (nb_ i1_) o3 o4 t_)).1 = (gIn (nb_ i1_) o3 o4 (bot (nI o3) + nI t_) (u_ + 1) (gOut (nb_ i1_) o3 o4 t_)).1 from (by rw [hg8, gst]; first | (rw [if_pos c_108]; done) | (rw [if_neg c_108]; done)))] at hl
                          exact ih_79 (u_ + 1) (upd (upd (nb_ i1_) o3 (bot (nI o3) + nI t_)) o4 (bot (nI o4) + nI u_)) (hu1) (upd2_keep _ _) (by omega) H locs hP hD hS ls (lv_sub hl [0, 1, 2, 3, 4, 5, 6, 7, 8, 9] rfl)
                        · refine lv_iload hx hb dX9_grid_111 (lv_at hl 4 rfl) ?_
                          have J_113_171 : ∀ (z113 : Int32), z113 = (if ((gIn (nb_ i1_) o3 o4 (bot (nI o3) + nI t_) u_ (gOut (nb_ i1_) o3 o4 t_)).1) = 0 then (bot (nI o3) + nI t_) else ((gIn (nb_ i1_) o3 o4 (bot (nI o3) + nI t_) u_ (gOut (nb_ i1_) o3 o4 t_)).2.1)) → ∀ (H : Heap) (locs : List Loc), va_P D vwCl [(b0_, .inr (9, [.int 0, .long tr_, .ref bn_, .ref bt_, .ref bs_, .ref bk_, .ref bp_, .ref bi_, .ref bl_, .int it_, .int ub_, .int db_, .ref bx_, .int tp_, .int nx_, .int tk_, .int pl_, .int vl_, .int fa_, .ref bc_, .ref bf_])), (bn_, .inl (cy 0, 24, .inl (nbF nb_))), (bt_, .inl (cy 0, 6, .inl (upd (upd (nb_ i1_) o3 (bot (nI o3) + nI t_)) o4 (bot (nI o4) + nI u_))))] H → va_D A [(b0_, .inr (9, [.int 0, .long tr_, .ref bn_, .ref bt_, .ref bs_, .ref bk_, .ref bp_, .ref bi_, .ref bl_, .int it_, .int ub_, .int db_, .ref bx_, .int tp_, .int nx_, .int tk_, .int pl_, .int vl_, .int fa_, .ref bc_, .ref bf_])), (bn_, .inl (cy 0, 24, .inl (nbF nb_))), (bt_, .inl (cy 0, 6, .inl (upd (upd (nb_ i1_) o3 (bot (nI o3) + nI t_)) o4 (bot (nI o4) + nI u_))))] → va_S A s.heap H locs → ∀ (ls : Array Slot), lv_has ls 10 [(9, .int (bot (nI o4) + nI u_)), (8, .int (bot (nI o3) + nI t_)), (7, .int ((gIn (nb_ i1_) o3 o4 (bot (nI o3) + nI t_) u_ (gOut (nb_ i1_) o3 o4 t_)).2.2)), (6, .int ((gIn (nb_ i1_) o3 o4 (bot (nI o3) + nI t_) u_ (gOut (nb_ i1_) o3 o4 t_)).2.1)), (5, .int ((gIn (nb_ i1_) o3 o4 (bot (nI o3) + nI t_) u_ (gOut (nb_ i1_) o3 o4 t_)).1)), (0, .ref b0_), (1, .int (nI i1_)), (2, .int (nI o3)), (3, .int (nI o4)), (4, .int w_)] → W p l e rmkX9_grid s m args below meth c H locs 0 0 Q (F0 m 123 ls [.int z113]) := by
                            intro z113 ez113 H locs hP hD hS ls hl
                            refine lv_istore (lv' := [(6, .int z113), (9, .int (bot (nI o4) + nI u_)), (8, .int (bot (nI o3) + nI t_)), (7, .int ((gIn (nb_ i1_) o3 o4 (bot (nI o3) + nI t_) u_ (gOut (nb_ i1_) o3 o4 t_)).2.2)), (5, .int ((gIn (nb_ i1_) o3 o4 (bot (nI o3) + nI t_) u_ (gOut (nb_ i1_) o3 o4 t_)).1)), (0, .ref b0_), (1, .int (nI i1_)), (2, .int (nI o3)), (3, .int (nI o4)), (4, .int w_)]) hx hb dX9_grid_123 hl (by decide) rfl (fun ls hl => ?_)
                            refine lv_iload hx hb dX9_grid_125 (lv_at hl 4 rfl) ?_
                            have J_127_175 : ∀ (z127 : Int32), z127 = (if ((gIn (nb_ i1_) o3 o4 (bot (nI o3) + nI t_) u_ (gOut (nb_ i1_) o3 o4 t_)).1) = 0 then (bot (nI o4) + nI u_) else ((gIn (nb_ i1_) o3 o4 (bot (nI o3) + nI t_) u_ (gOut (nb_ i1_) o3 o4 t_)).2.2)) → ∀ (H : Heap) (locs : List Loc), va_P D vwCl [(b0_, .inr (9, [.int 0, .long tr_, .ref bn_, .ref bt_, .ref bs_, .ref bk_, .ref bp_, .ref bi_, .ref bl_, .int it_, .int ub_, .int db_, .ref bx_, .int tp_, .int nx_, .int tk_, .int pl_, .int vl_, .int fa_, .ref bc_, .ref bf_])), (bn_, .inl (cy 0, 24, .inl (nbF nb_))), (bt_, .inl (cy 0, 6, .inl (upd (upd (nb_ i1_) o3 (bot (nI o3) + nI t_)) o4 (bot (nI o4) + nI u_))))] H → va_D A [(b0_, .inr (9, [.int 0, .long tr_, .ref bn_, .ref bt_, .ref bs_, .ref bk_, .ref bp_, .ref bi_, .ref bl_, .int it_, .int ub_, .int db_, .ref bx_, .int tp_, .int nx_, .int tk_, .int pl_, .int vl_, .int fa_, .ref bc_, .ref bf_])), (bn_, .inl (cy 0, 24, .inl (nbF nb_))), (bt_, .inl (cy 0, 6, .inl (upd (upd (nb_ i1_) o3 (bot (nI o3) + nI t_)) o4 (bot (nI o4) + nI u_))))] → va_S A s.heap H locs → ∀ (ls : Array Slot), lv_has ls 10 [(6, .int z113), (9, .int (bot (nI o4) + nI u_)), (8, .int (bot (nI o3) + nI t_)), (7, .int ((gIn (nb_ i1_) o3 o4 (bot (nI o3) + nI t_) u_ (gOut (nb_ i1_) o3 o4 t_)).2.2)), (5, .int ((gIn (nb_ i1_) o3 o4 (bot (nI o3) + nI t_) u_ (gOut (nb_ i1_) o3 o4 t_)).1)), (0, .ref b0_), (1, .int (nI i1_)), (2, .int (nI o3)), (3, .int (nI o4)), (4, .int w_)] → W p l e rmkX9_grid s m args below meth c H locs 0 0 Q (F0 m 137 ls [.int z127]) := by
                              intro z127 ez127 H locs hP hD hS ls hl
                              refine lv_istore (lv' := [(7, .int z127), (6, .int z113), (9, .int (bot (nI o4) + nI u_)), (8, .int (bot (nI o3) + nI t_)), (5, .int ((gIn (nb_ i1_) o3 o4 (bot (nI o3) + nI t_) u_ (gOut (nb_ i1_) o3 o4 t_)).1)), (0, .ref b0_), (1, .int (nI i1_)), (2, .int (nI o3)), (3, .int (nI o4)), (4, .int w_)]) hx hb dX9_grid_137 hl (by decide) rfl (fun ls hl => ?_)
                              refine lv_iinc (v := ((gIn (nb_ i1_) o3 o4 (bot (nI o3) + nI t_) u_ (gOut (nb_ i1_) o3 o4 t_)).1) + 1) (lv' := [(5, .int (((gIn (nb_ i1_) o3 o4 (bot (nI o3) + nI t_) u_ (gOut (nb_ i1_) o3 o4 t_)).1) + 1)), (7, .int z127), (6, .int z113), (9, .int (bot (nI o4) + nI u_)), (8, .int (bot (nI o3) + nI t_)), (0, .ref b0_), (1, .int (nI i1_)), (2, .int (nI o3)), (3, .int (nI o4)), (4, .int w_)]) hx hb dX9_grid_139 hl (k := 4) rfl (rfl) (by decide) rfl (fun ls hl => ?_)
                              refine lv_iinc (v := bot (nI o4) + nI (u_ + 1)) (lv' := [(9, .int (bot (nI o4) + nI (u_ + 1))), (5, .int (((gIn (nb_ i1_) o3 o4 (bot (nI o3) + nI t_) u_ (gOut (nb_ i1_) o3 o4 t_)).1) + 1)), (7, .int z127), (6, .int z113), (8, .int (bot (nI o3) + nI t_)), (0, .ref b0_), (1, .int (nI i1_)), (2, .int (nI o3)), (3, .int (nI o4)), (4, .int w_)]) hx hb dX9_grid_142 hl (k := 3) rfl (add_nIs _ _) (by decide) rfl (fun ls hl => ?_)
                              refine lv_goto (tgt := 79) hx hb dX9_grid_145 (by decide) ?_
                              have hu1 : u_ < lenK o4 := Nat.lt_of_le_of_ne hu (fun z => c_83 ((lenK_ge o4 (by omega) u_ (by have := lenK_le o4; omega) hu).mpr z))
                              have hg8 : gIn (nb_ i1_) o3 o4 (bot (nI o3) + nI t_) (u_ + 1) (gOut (nb_ i1_) o3 o4 t_) = gst (nb_ i1_) o3 o4 (bot (nI o3) + nI t_) (bot (nI o4) + nI u_) (gIn (nb_ i1_) o3 o4 (bot (nI o3) + nI t_) u_ (gOut (nb_ i1_) o3 o4 t_)) := rfl
                              rw [show ((5, .int (((gIn (nb_ i1_) o3 o4 (bot (nI o3) + nI t_) u_ (gOut (nb_ i1_) o3 o4 t_)).1) + 1)) : Nat × Value) = (5, .int ((gIn (nb_ i1_) o3 o4 (bot (nI o3) + nI t_) (u_ + 1) (gOut (nb_ i1_) o3 o4 t_)).1)) from congrArg (fun y9 => ((5, Value.int y9) : Nat × Value)) (show ((gIn (nb_ i1_) o3 o4 (bot (nI o3) + nI t_) u_ (gOut (nb_ i1_) o3 o4 t_)).1) + 1 = (gIn (nb_ i1_) o3 o4 (bot (nI o3) + nI t_) (u_ + 1) (gOut (nb_ i1_) o3 o4 t_)).1 from (by rw [hg8, gst]; first | (rw [if_pos c_108]; done) | (rw [if_neg c_108]; done)))] at hl
                              rw [show ((7, .int z127) : Nat × Value) = (7, .int ((gIn (nb_ i1_) o3 o4 (bot (nI o3) + nI t_) (u_ + 1) (gOut (nb_ i1_) o3 o4 t_)).2.2)) from congrArg (fun y9 => ((7, Value.int y9) : Nat × Value)) (show z127 = (gIn (nb_ i1_) o3 o4 (bot (nI o3) + nI t_) (u_ + 1) (gOut (nb_ i1_) o3 o4 t_)).2.2 from (by rw [hg8, gst]; first | (rw [if_pos c_108]; done) | (rw [if_neg c_108, ez127]; done)))] at hl
                              rw [show ((6, .int z113) : Nat × Value) = (6, .int ((gIn (nb_ i1_) o3 o4 (bot (nI o3) + nI t_) (u_ + 1) (gOut (nb_ i1_) o3 o4 t_)).2.1)) from congrArg (fun y9 => ((6, Value.int y9) : Nat × Value)) (show z113 = (gIn (nb_ i1_) o3 o4 (bot (nI o3) + nI t_) (u_ + 1) (gOut (nb_ i1_) o3 o4 t_)).2.1 from (by rw [hg8, gst]; first | (rw [if_pos c_108]; done) | (rw [if_neg c_108, ez113]; done)))] at hl
                              exact ih_79 (u_ + 1) (upd (upd (nb_ i1_) o3 (bot (nI o3) + nI t_)) o4 (bot (nI o4) + nI u_)) (hu1) (upd2_keep _ _) (by omega) H locs hP hD hS ls (lv_sub hl [0, 4, 2, 3, 1, 5, 6, 7, 8, 9] rfl)
                            refine lv_if_ne (tgt := 135) hx hb dX9_grid_127 (by decide) (fun c_127 => ?_) (fun c_127 => ?_)
                            · refine lv_iload hx hb dX9_grid_135 (lv_at hl 3 rfl) ?_
                              exact J_127_175 _ ((if_neg c_127).symm) H locs hP hD hS ls (lv_sub hl [0, 1, 2, 3, 4, 5, 6, 7, 8, 9] rfl)
                            · refine lv_iload hx hb dX9_grid_130 (lv_at hl 1 rfl) ?_
                              refine lv_goto (tgt := 137) hx hb dX9_grid_132 (by decide) ?_
                              exact J_127_175 _ ((if_pos c_127).symm) H locs hP hD hS ls (lv_sub hl [0, 1, 2, 3, 4, 5, 6, 7, 8, 9] rfl)
                          refine lv_if_ne (tgt := 121) hx hb dX9_grid_113 (by decide) (fun c_113 => ?_) (fun c_113 => ?_)
                          · refine lv_iload hx hb dX9_grid_121 (lv_at hl 3 rfl) ?_
                            exact J_113_171 _ ((if_neg c_113).symm) H locs hP hD hS ls (lv_sub hl [0, 1, 2, 3, 4, 5, 6, 7, 8, 9] rfl)
                          · refine lv_iload hx hb dX9_grid_116 (lv_at hl 1 rfl) ?_
                            refine lv_goto (tgt := 123) hx hb dX9_grid_118 (by decide) ?_
                            exact J_113_171 _ ((if_pos c_113).symm) H locs hP hD hS ls (lv_sub hl [0, 1, 2, 3, 4, 5, 6, 7, 8, 9] rfl)
                  rw [show ((9, .int (bot (nI o4))) : Nat × Value) = (9, .int (bot (nI o4) + nI 0)) from congrArg (fun y9 => ((9, Value.int y9) : Nat × Value)) (show bot (nI o4) = bot (nI o4) + nI 0 from add_nI0 _)] at hl
                  exact L_79 _ 0 ftc_ (Nat.zero_le _) (hkp) (Nat.lt_succ_self _) H locs hP hD hS ls (lv_sub hl [0, 1, 2, 3, 4, 5, 6, 7, 8, 9] rfl)
            rw [show ((8, .int (bot (nI o3))) : Nat × Value) = (8, .int (bot (nI o3) + nI 0)) from congrArg (fun y9 => ((8, Value.int y9) : Nat × Value)) (show bot (nI o3) = bot (nI o3) + nI 0 from add_nI0 _)] at hl
            exact L_66 _ 0 (nb_ i1_) (Nat.zero_le _) (fun _ _ _ _ => rfl) (Nat.lt_succ_self _) H locs hP hD hS ls (lv_sub hl [0, 1, 2, 3, 4, 5, 6, 7, 8] rfl)
          · refine lv_ldc (v := (-1000000)) hx hb hown wc70 dX9_grid_41 ?_
            have hno : ¬ okGrd (nI i1_) o1_ o2_ w_ := by first | exact fun z => c_9 z.1 | exact fun z => c_16 z.2.1 | exact fun z => c_23 z.2.2.1 | exact fun z => z.2.2.2.1 c_28 | exact fun z => c_38 z.2.2.2.2
            refine lv_eqi (y := r_grid nb_ (nI i1_) o1_ o2_ w_) ((if_neg hno).symm) ?_
            exact RT _ _ (ft_) H locs 43 ls (rt_i dX9_grid_43) rfl hP hD hS
