abbrev rmkX9_takes : Room := { frames := 0, cells := 0, slots := 0, locals := 0 }
set_option maxHeartbeats 4000000 in
set_option maxRecDepth 100000 in
theorem kX9_takes {l : Launch} {D : va_G} {cy : Nat → ClassId} {sa : Nat → Nat} (b0 : Nat) (th : Int32) (tr : Int64) (bn : Nat) (bt : Nat) (bs : Nat) (bk : Nat) (bp : Nat) (bi : Nat) (bl : Nat) (it : Int32) (ub : Int32) (db : Int32) (bx : Nat) (tp : Int32) (nx : Int32) (tk : Int32) (pl : Int32) (vl : Int32) (fa : Int32) (bc : Nat) (bf : Nat) (nb : Nat → Nat → Int32) (ft : Nat → Int32) (i : Nat) (hi : i < 4) : CD l D cy sa yX9_takes wsX9_takes rmkX9_takes [.ref b0, .int (nI i)] [(b0, .inr (9, [.int th, .long tr, .ref bn, .ref bt, .ref bs, .ref bk, .ref bp, .ref bi, .ref bl, .int it, .int ub, .int db, .ref bx, .int tp, .int nx, .int tk, .int pl, .int vl, .int fa, .ref bc, .ref bf])), (bn, .inl (cy 0, 24, .inl (nbF nb))), (bt, .inl (cy 0, 6, .inl ft))] (none) [(b0, .inr (9, [.int th, .long tr, .ref bn, .ref bt, .ref bs, .ref bk, .ref bp, .ref bi, .ref bl, .int it, .int ub, .int db, .ref bx, .int tp, .int nx, .int tk, .int pl, .int vl, .int fa, .ref bc, .ref bf])), (bn, .inl (cy 0, 24, .inl (nbF nb))), (bt, .inl (cy 0, 6, .inl (nb i)))] := by
  refine CT.of cX9_takes 3 none (by decide) rfl (Nat.le_of_ble_eq_true rfl) ?_
  intro p e s m args below meth c A Q ls F hmn hK hE hA hP hD hS hl RT
  obtain ⟨hx, hb, hml, hown, hts⟩ := id F
  have winX9 : ∀ w ∈ u_ws RX9 TX9 21, w ∈ wsX9_takes := by decide +kernel
  have wf13 := hts (.fieldLink RX9 13 "SelfSteerModel" "tried" "[I") (by decide +kernel)
  have wf7 := hts (.fieldLink RX9 7 "SelfSteerModel" "numbers" "[I") (by decide +kernel)
  have hl : lv_has ls 3 [(0, .ref b0), (1, .int (nI i))] := hl
  have hP : va_P D vwCl [(b0, .inr (9, [.int th, .long tr, .ref bn, .ref bt, .ref bs, .ref bk, .ref bp, .ref bi, .ref bl, .int it, .int ub, .int db, .ref bx, .int tp, .int nx, .int tk, .int pl, .int vl, .int fa, .ref bc, .ref bf])), (bn, .inl (cy 0, 24, .inl (nbF nb))), (bt, .inl (cy 0, 6, .inl ft))] s.heap := hP
  have hD : va_D A [(b0, .inr (9, [.int th, .long tr, .ref bn, .ref bt, .ref bs, .ref bk, .ref bp, .ref bi, .ref bl, .int it, .int ub, .int db, .ref bx, .int tp, .int nx, .int tk, .int pl, .int vl, .int fa, .ref bc, .ref bf])), (bn, .inl (cy 0, 24, .inl (nbF nb))), (bt, .inl (cy 0, 6, .inl ft))] := hD
  obtain ⟨H, hH⟩ : ∃ H0 : Heap, H0 = s.heap := ⟨_, rfl⟩
  obtain ⟨locs, hlo⟩ : ∃ L0 : List Loc, L0 = [] := ⟨_, rfl⟩
  have hS : va_S A s.heap H locs := by rw [hH, hlo]; exact hS
  rw [← hH] at hP
  show W p l e rmkX9_takes s m args below meth c s.heap [] 0 0 Q (F0 m 0 ls [])
  suffices hgo : W p l e rmkX9_takes s m args below meth c H locs 0 0 Q (F0 m 0 ls []) by rw [hH, hlo] at hgo; exact hgo
  clear hH hlo
  refine lv_iconst (v := 0) hx hb dX9_takes_0 (by decide) ?_
  refine lv_istore_n (lv' := [(2, .int 0), (0, .ref b0), (1, .int (nI i))]) hx hb dX9_takes_1 rfl hl (by decide) rfl (fun ls hl => ?_)
  have L_2 : ∀ (n : Nat) (j : Nat), j ≤ 6 → 6 - j < n → ∀ (H : Heap) (locs : List Loc), va_P D vwCl [(b0, .inr (9, [.int th, .long tr, .ref bn, .ref bt, .ref bs, .ref bk, .ref bp, .ref bi, .ref bl, .int it, .int ub, .int db, .ref bx, .int tp, .int nx, .int tk, .int pl, .int vl, .int fa, .ref bc, .ref bf])), (bn, .inl (cy 0, 24, .inl (nbF nb))), (bt, .inl (cy 0, 6, .inl (fil (nb i) ft j)))] H → va_D A [(b0, .inr (9, [.int th, .long tr, .ref bn, .ref bt, .ref bs, .ref bk, .ref bp, .ref bi, .ref bl, .int it, .int ub, .int db, .ref bx, .int tp, .int nx, .int tk, .int pl, .int vl, .int fa, .ref bc, .ref bf])), (bn, .inl (cy 0, 24, .inl (nbF nb))), (bt, .inl (cy 0, 6, .inl (fil (nb i) ft j)))] → va_S A s.heap H locs → ∀ (ls : Array Slot), lv_has ls 3 [(2, .int (nI j)), (0, .ref b0), (1, .int (nI i))] → W p l e rmkX9_takes s m args below meth c H locs 0 0 Q (F0 m 2 ls []) := by
    intro n
    induction n with
    | zero => intro j hj hn; exact absurd hn (Nat.not_lt_zero _)
    | succ n ih_2 =>
      intro j hj hn_2 H locs hP hD hS ls hl
      refine lv_iload_n hx hb dX9_takes_2 rfl (lv_at hl 0 rfl) ?_
      refine lv_bipush (v := 6) hx hb dX9_takes_3 (by decide) ?_
      refine cn_ge (tgt := 31) hx hb j 6 rfl rfl (by omega) (by omega) dX9_takes_5 (by decide) (fun c_5 => ?_) (fun c_5 => ?_)
      · obtain ⟨hP, hD⟩ := ro_ws (g := nb i) hP hD 2 rfl (fun q hq => fil_lt (by omega))
        have hP : va_P D vwCl [(b0, .inr (9, [.int th, .long tr, .ref bn, .ref bt, .ref bs, .ref bk, .ref bp, .ref bi, .ref bl, .int it, .int ub, .int db, .ref bx, .int tp, .int nx, .int tk, .int pl, .int vl, .int fa, .ref bc, .ref bf])), (bn, .inl (cy 0, 24, .inl (nbF nb))), (bt, .inl (cy 0, 6, .inl (nb i)))] H := hP
        have hD : va_D A [(b0, .inr (9, [.int th, .long tr, .ref bn, .ref bt, .ref bs, .ref bk, .ref bp, .ref bi, .ref bl, .int it, .int ub, .int db, .ref bx, .int tp, .int nx, .int tk, .int pl, .int vl, .int fa, .ref bc, .ref bf])), (bn, .inl (cy 0, 24, .inl (nbF nb))), (bt, .inl (cy 0, 6, .inl (nb i)))] := hD
        exact RT _ _ () H locs 31 ls (rt_v dX9_takes_31) rfl hP hD hS
      · refine lv_aload_n hx hb dX9_takes_8 rfl (lv_at hl 1 rfl) ?_
        refine va_get (D := D) (ci := 9) (v := .ref bt) (C := RX9) (T := TX9) (N := 21) hx hb hts winX9 hown hK hP 0 rfl rfl 3 (by decide) wf13 (fun _ h9 => h9) rfl dX9_takes_9 ?_
        refine lv_iload_n hx hb dX9_takes_12 rfl (lv_at hl 0 rfl) ?_
        refine lv_aload_n hx hb dX9_takes_13 rfl (lv_at hl 1 rfl) ?_
        refine va_get (D := D) (ci := 9) (v := .ref bn) (C := RX9) (T := TX9) (N := 21) hx hb hts winX9 hown hK hP 0 rfl rfl 2 (by decide) wf7 (fun _ h9 => h9) rfl dX9_takes_14 ?_
        refine lv_bipush (v := 6) hx hb dX9_takes_17 (by decide) ?_
        refine lv_iload_n hx hb dX9_takes_19 rfl (lv_at hl 2 rfl) ?_
        refine lv_imul hx hb dX9_takes_20 ?_
        refine lv_eqi (y := nI (6 * i)) (pk_mul 6 i) ?_
        refine lv_iload_n hx hb dX9_takes_21 rfl (lv_at hl 0 rfl) ?_
        refine lv_iadd hx hb dX9_takes_22 ?_
        refine lv_eqi (y := nI ((6 * i) + j)) (nI_add (6 * i) j) ?_
        refine al_i hx hb hK hP 1 rfl ((6 * i) + j) (rfl) (by omega) (by decide) dX9_takes_23 ?_
        refine lv_eqi (y := nb i j) (nbF_at nb i (by omega)) ?_
        refine as_i (x := nb i j) hx hb hK hP hD hS 2 rfl j (rfl) (by omega) (by decide) dX9_takes_24 (fun H locs hP hD hS => ?_)
        have hP : va_P D vwCl [(b0, .inr (9, [.int th, .long tr, .ref bn, .ref bt, .ref bs, .ref bk, .ref bp, .ref bi, .ref bl, .int it, .int ub, .int db, .ref bx, .int tp, .int nx, .int tk, .int pl, .int vl, .int fa, .ref bc, .ref bf])), (bn, .inl (cy 0, 24, .inl (nbF nb))), (bt, .inl (cy 0, 6, .inl (upd (fil (nb i) ft j) j (nb i j))))] H := hP
        have hD : va_D A [(b0, .inr (9, [.int th, .long tr, .ref bn, .ref bt, .ref bs, .ref bk, .ref bp, .ref bi, .ref bl, .int it, .int ub, .int db, .ref bx, .int tp, .int nx, .int tk, .int pl, .int vl, .int fa, .ref bc, .ref bf])), (bn, .inl (cy 0, 24, .inl (nbF nb))), (bt, .inl (cy 0, 6, .inl (upd (fil (nb i) ft j) j (nb i j))))] := hD
        refine lv_iinc (v := nI (j + 1)) (lv' := [(2, .int (nI (j + 1))), (0, .ref b0), (1, .int (nI i))]) hx hb dX9_takes_25 hl (k := 0) rfl (nI_add j 1) (by decide) rfl (fun ls hl => ?_)
        refine lv_goto (tgt := 2) hx hb dX9_takes_28 (by decide) ?_
        have hc9 : upd (fil (nb i) ft j) j (nb i j) = fil (nb i) ft (j + 1) := fil_s _ _ _
        rw [hc9] at hP hD
        exact ih_2 (j + 1) (by first | assumption | omega | decide) (by omega) H locs hP hD hS ls (lv_sub hl [0, 1, 2] rfl)
  have hc9 : ft = fil (nb i) ft 0 := (fil_0 _ _).symm
  rw [hc9] at hP hD
  exact L_2 _ 0 (by first | assumption | omega | decide) (Nat.lt_succ_self _) H locs hP hD hS ls (lv_sub hl [0, 1, 2] rfl)
abbrev rmkX9_signOf : Room := { frames := 0, cells := 0, slots := 0, locals := 0 }
set_option maxHeartbeats 4000000 in
set_option maxRecDepth 100000 in
theorem kX9_signOf {l : Launch} {D : va_G} {cy : Nat → ClassId} {sa : Nat → Nat} (b0 : Nat) (th : Int32) (tr : Int64) (bn : Nat) (bt : Nat) (bs : Nat) (bk : Nat) (bp : Nat) (bi : Nat) (bl : Nat) (it : Int32) (ub : Int32) (db : Int32) (bx : Nat) (tp : Int32) (nx : Int32) (tk : Int32) (pl : Int32) (vl : Int32) (fa : Int32) (bc : Nat) (bf : Nat) (f : Nat → Int32) (v : Int64) (k : Int64) (w : Int64) (j : Int32)  : CD l D cy sa yX9_signOf wsX9_signOf rmkX9_signOf [.ref b0, .long v, .long k, .long w, .int j] [(b0, .inr (9, [.int th, .long tr, .ref bn, .ref bt, .ref bs, .ref bk, .ref bp, .ref bi, .ref bl, .int it, .int ub, .int db, .ref bx, .int tp, .int nx, .int tk, .int pl, .int vl, .int fa, .ref bc, .ref bf])), (bt, .inl (cy 0, 6, .inl f))] (some (.long (sgn f v k w j))) [(b0, .inr (9, [.int th, .long tr, .ref bn, .ref bt, .ref bs, .ref bk, .ref bp, .ref bi, .ref bl, .int it, .int ub, .int db, .ref bx, .int tp, .int nx, .int tk, .int pl, .int vl, .int fa, .ref bc, .ref bf])), (bt, .inl (cy 0, 6, .inl f))] := by
  refine CT.of cX9_signOf 12 (some .long) (by decide) rfl (Nat.le_of_ble_eq_true rfl) ?_
  intro p e s m args below meth c A Q ls F hmn hK hE hA hP hD hS hl RT
  obtain ⟨hx, hb, hml, hown, hts⟩ := id F
  have winX9 : ∀ w ∈ u_ws RX9 TX9 21, w ∈ wsX9_signOf := by decide +kernel
  have wf13 := hts (.fieldLink RX9 13 "SelfSteerModel" "tried" "[I") (by decide +kernel)
  have wl71 := hts (.constantLong RX9 71 (100)) (by decide +kernel)
  have wl73 := hts (.constantLong RX9 73 (10)) (by decide +kernel)
  have hl : lv_has ls 12 [(0, .ref b0), (1, .long v), (3, .long k), (5, .long w), (7, .int j)] := hl
  have hP : va_P D vwCl [(b0, .inr (9, [.int th, .long tr, .ref bn, .ref bt, .ref bs, .ref bk, .ref bp, .ref bi, .ref bl, .int it, .int ub, .int db, .ref bx, .int tp, .int nx, .int tk, .int pl, .int vl, .int fa, .ref bc, .ref bf])), (bt, .inl (cy 0, 6, .inl f))] s.heap := hP
  have hD : va_D A [(b0, .inr (9, [.int th, .long tr, .ref bn, .ref bt, .ref bs, .ref bk, .ref bp, .ref bi, .ref bl, .int it, .int ub, .int db, .ref bx, .int tp, .int nx, .int tk, .int pl, .int vl, .int fa, .ref bc, .ref bf])), (bt, .inl (cy 0, 6, .inl f))] := hD
  obtain ⟨H, hH⟩ : ∃ H0 : Heap, H0 = s.heap := ⟨_, rfl⟩
  obtain ⟨locs, hlo⟩ : ∃ L0 : List Loc, L0 = [] := ⟨_, rfl⟩
  have hS : va_S A s.heap H locs := by rw [hH, hlo]; exact hS
  rw [← hH] at hP
  show W p l e rmkX9_signOf s m args below meth c s.heap [] 0 0 Q (F0 m 0 ls [])
  suffices hgo : W p l e rmkX9_signOf s m args below meth c H locs 0 0 Q (F0 m 0 ls []) by rw [hH, hlo] at hgo; exact hgo
  clear hH hlo
  refine lv_aload_n hx hb dX9_signOf_0 rfl (lv_at hl 0 rfl) ?_
  refine va_get (D := D) (ci := 9) (v := .ref bt) (C := RX9) (T := TX9) (N := 21) hx hb hts winX9 hown hK hP 0 rfl rfl 3 (by decide) wf13 (fun _ h9 => h9) rfl dX9_signOf_1 ?_
  refine lv_iconst (v := 4) hx hb dX9_signOf_4 (by decide) ?_
  refine al_i hx hb hK hP 1 rfl 4 (rfl) (by decide) (by decide) dX9_signOf_5 ?_
  refine lv_i2l (v := (f 4).toInt64) hx hb dX9_signOf_6 (rfl) ?_
  refine lv_lstore (lv' := [(8, .long ((f 4).toInt64)), (0, .ref b0), (1, .long v), (3, .long k), (5, .long w), (7, .int j)]) hx hb dX9_signOf_7 hl (by decide) rfl (fun ls hl => ?_)
  refine lv_aload_n hx hb dX9_signOf_9 rfl (lv_at hl 1 rfl) ?_
  refine va_get (D := D) (ci := 9) (v := .ref bt) (C := RX9) (T := TX9) (N := 21) hx hb hts winX9 hown hK hP 0 rfl rfl 3 (by decide) wf13 (fun _ h9 => h9) rfl dX9_signOf_10 ?_
  refine lv_iconst (v := 1) hx hb dX9_signOf_13 (by decide) ?_
  refine al_i hx hb hK hP 1 rfl 1 (rfl) (by decide) (by decide) dX9_signOf_14 ?_
  refine lv_aload_n hx hb dX9_signOf_15 rfl (lv_at hl 1 rfl) ?_
  refine va_get (D := D) (ci := 9) (v := .ref bt) (C := RX9) (T := TX9) (N := 21) hx hb hts winX9 hown hK hP 0 rfl rfl 3 (by decide) wf13 (fun _ h9 => h9) rfl dX9_signOf_16 ?_
  refine lv_iconst (v := 2) hx hb dX9_signOf_19 (by decide) ?_
  refine al_i hx hb hK hP 1 rfl 2 (rfl) (by decide) (by decide) dX9_signOf_20 ?_
  refine lv_iadd hx hb dX9_signOf_21 ?_
  refine lv_i2l (v := ((f 1) + (f 2)).toInt64) hx hb dX9_signOf_22 (rfl) ?_
  refine lv_lload_n hx hb dX9_signOf_23 rfl (lv_at hl 3 rfl) ?_
  refine lv_ladd hx hb dX9_signOf_24 ?_
  refine lv_lstore (lv' := [(10, .long ((((f 1) + (f 2)).toInt64) + k)), (8, .long ((f 4).toInt64)), (0, .ref b0), (1, .long v), (3, .long k), (5, .long w), (7, .int j)]) hx hb dX9_signOf_25 hl (by decide) rfl (fun ls hl => ?_)
  refine lv_iload hx hb dX9_signOf_27 (lv_at hl 6 rfl) ?_
  refine lv_iconst (v := 3) hx hb dX9_signOf_29 (by decide) ?_
  refine lv_icmp_ne (tgt := 48) hx hb dX9_signOf_30 (by decide) (fun c_30 => ?_) (fun c_30 => ?_)
  · refine lv_iload hx hb dX9_signOf_48 (lv_at hl 6 rfl) ?_
    refine lv_iconst (v := 2) hx hb dX9_signOf_50 (by decide) ?_
    refine lv_icmp_ne (tgt := 115) hx hb dX9_signOf_51 (by decide) (fun c_51 => ?_) (fun c_51 => ?_)
    · refine lv_iload hx hb dX9_signOf_115 (lv_at hl 6 rfl) ?_
      refine lv_iconst (v := 1) hx hb dX9_signOf_117 (by decide) ?_
      refine lv_icmp_ne (tgt := 179) hx hb dX9_signOf_118 (by decide) (fun c_118 => ?_) (fun c_118 => ?_)
      · refine lv_ldc2 (v := 100) hx hb hown wl71 dX9_signOf_179 ?_
        refine lv_lload_n hx hb dX9_signOf_182 rfl (lv_at hl 3 rfl) ?_
        refine lv_lmul hx hb dX9_signOf_183 ?_
        refine lv_lload_n hx hb dX9_signOf_184 rfl (lv_at hl 3 rfl) ?_
        refine lv_lmul hx hb dX9_signOf_185 ?_
        refine lv_lload hx hb dX9_signOf_186 (lv_at hl 0 rfl) ?_
        refine lv_lmul hx hb dX9_signOf_188 ?_
        refine lv_ldc2 (v := 10) hx hb hown wl73 dX9_signOf_189 ?_
        refine lv_aload_n hx hb dX9_signOf_192 rfl (lv_at hl 2 rfl) ?_
        refine va_get (D := D) (ci := 9) (v := .ref bt) (C := RX9) (T := TX9) (N := 21) hx hb hts winX9 hown hK hP 0 rfl rfl 3 (by decide) wf13 (fun _ h9 => h9) rfl dX9_signOf_193 ?_
        refine lv_iconst (v := 3) hx hb dX9_signOf_196 (by decide) ?_
        refine al_i hx hb hK hP 1 rfl 3 (rfl) (by decide) (by decide) dX9_signOf_197 ?_
        refine lv_i2l (v := (f 3).toInt64) hx hb dX9_signOf_198 (rfl) ?_
        refine lv_lmul hx hb dX9_signOf_199 ?_
        refine lv_aload_n hx hb dX9_signOf_200 rfl (lv_at hl 2 rfl) ?_
        refine va_get (D := D) (ci := 9) (v := .ref bt) (C := RX9) (T := TX9) (N := 21) hx hb hts winX9 hown hK hP 0 rfl rfl 3 (by decide) wf13 (fun _ h9 => h9) rfl dX9_signOf_201 ?_
        refine lv_iconst (v := 1) hx hb dX9_signOf_204 (by decide) ?_
        refine al_i hx hb hK hP 1 rfl 1 (rfl) (by decide) (by decide) dX9_signOf_205 ?_
        refine lv_i2l (v := (f 1).toInt64) hx hb dX9_signOf_206 (rfl) ?_
        refine lv_lmul hx hb dX9_signOf_207 ?_
        refine lv_lload_n hx hb dX9_signOf_208 rfl (lv_at hl 3 rfl) ?_
        refine lv_lmul hx hb dX9_signOf_209 ?_
        refine lv_lload_n hx hb dX9_signOf_210 rfl (lv_at hl 3 rfl) ?_
        refine lv_lmul hx hb dX9_signOf_211 ?_
        refine lv_lsub hx hb dX9_signOf_212 ?_
        refine lv_eql (y := sgn f v k w j) (by rw [sgn, if_neg c_30, if_neg c_51, if_neg c_118]; rfl) ?_
        exact RT _ _ () H locs 213 ls (rt_l dX9_signOf_213) rfl hP hD hS
      · refine lv_ldc2 (v := 10) hx hb hown wl73 dX9_signOf_121 ?_
        refine lv_aload_n hx hb dX9_signOf_124 rfl (lv_at hl 2 rfl) ?_
        refine va_get (D := D) (ci := 9) (v := .ref bt) (C := RX9) (T := TX9) (N := 21) hx hb hts winX9 hown hK hP 0 rfl rfl 3 (by decide) wf13 (fun _ h9 => h9) rfl dX9_signOf_125 ?_
        refine lv_iconst (v := 0) hx hb dX9_signOf_128 (by decide) ?_
        refine al_i hx hb hK hP 1 rfl 0 (rfl) (by decide) (by decide) dX9_signOf_129 ?_
        refine lv_i2l (v := (f 0).toInt64) hx hb dX9_signOf_130 (rfl) ?_
        refine lv_lmul hx hb dX9_signOf_131 ?_
        refine lv_lload_n hx hb dX9_signOf_132 rfl (lv_at hl 3 rfl) ?_
        refine lv_lmul hx hb dX9_signOf_133 ?_
        refine lv_lload_n hx hb dX9_signOf_134 rfl (lv_at hl 3 rfl) ?_
        refine lv_lload_n hx hb dX9_signOf_135 rfl (lv_at hl 3 rfl) ?_
        refine lv_lmul hx hb dX9_signOf_136 ?_
        refine lv_lload hx hb dX9_signOf_137 (lv_at hl 1 rfl) ?_
        refine lv_lload hx hb dX9_signOf_139 (lv_at hl 0 rfl) ?_
        refine lv_lmul hx hb dX9_signOf_141 ?_
        refine lv_ladd hx hb dX9_signOf_142 ?_
        refine lv_lmul hx hb dX9_signOf_143 ?_
        refine lv_ldc2 (v := 100) hx hb hown wl71 dX9_signOf_144 ?_
        refine lv_lload hx hb dX9_signOf_147 (lv_at hl 1 rfl) ?_
        refine lv_lmul hx hb dX9_signOf_149 ?_
        refine lv_aload_n hx hb dX9_signOf_150 rfl (lv_at hl 2 rfl) ?_
        refine va_get (D := D) (ci := 9) (v := .ref bt) (C := RX9) (T := TX9) (N := 21) hx hb hts winX9 hown hK hP 0 rfl rfl 3 (by decide) wf13 (fun _ h9 => h9) rfl dX9_signOf_151 ?_
        refine lv_iconst (v := 3) hx hb dX9_signOf_154 (by decide) ?_
        refine al_i hx hb hK hP 1 rfl 3 (rfl) (by decide) (by decide) dX9_signOf_155 ?_
        refine lv_i2l (v := (f 3).toInt64) hx hb dX9_signOf_156 (rfl) ?_
        refine lv_lmul hx hb dX9_signOf_157 ?_
        refine lv_aload_n hx hb dX9_signOf_158 rfl (lv_at hl 2 rfl) ?_
        refine va_get (D := D) (ci := 9) (v := .ref bt) (C := RX9) (T := TX9) (N := 21) hx hb hts winX9 hown hK hP 0 rfl rfl 3 (by decide) wf13 (fun _ h9 => h9) rfl dX9_signOf_159 ?_
        refine lv_iconst (v := 5) hx hb dX9_signOf_162 (by decide) ?_
        refine al_i hx hb hK hP 1 rfl 5 (rfl) (by decide) (by decide) dX9_signOf_163 ?_
        refine lv_i2l (v := (f 5).toInt64) hx hb dX9_signOf_164 (rfl) ?_
        refine lv_lmul hx hb dX9_signOf_165 ?_
        refine lv_lsub hx hb dX9_signOf_166 ?_
        refine lv_ldc2 (v := 100) hx hb hown wl71 dX9_signOf_167 ?_
        refine lv_lload hx hb dX9_signOf_170 (lv_at hl 5 rfl) ?_
        refine lv_lmul hx hb dX9_signOf_172 ?_
        refine lv_lload_n hx hb dX9_signOf_173 rfl (lv_at hl 3 rfl) ?_
        refine lv_lmul hx hb dX9_signOf_174 ?_
        refine lv_lload_n hx hb dX9_signOf_175 rfl (lv_at hl 3 rfl) ?_
        refine lv_lmul hx hb dX9_signOf_176 ?_
        refine lv_ladd hx hb dX9_signOf_177 ?_
        refine lv_eql (y := sgn f v k w j) (by rw [sgn, if_neg c_30, if_neg c_51, if_pos c_118]; rfl) ?_
        exact RT _ _ () H locs 178 ls (rt_l dX9_signOf_178) rfl hP hD hS
    · refine lv_ldc2 (v := 10) hx hb hown wl73 dX9_signOf_54 ?_
      refine lv_aload_n hx hb dX9_signOf_57 rfl (lv_at hl 2 rfl) ?_
      refine va_get (D := D) (ci := 9) (v := .ref bt) (C := RX9) (T := TX9) (N := 21) hx hb hts winX9 hown hK hP 0 rfl rfl 3 (by decide) wf13 (fun _ h9 => h9) rfl dX9_signOf_58 ?_
      refine lv_iconst (v := 1) hx hb dX9_signOf_61 (by decide) ?_
      refine al_i hx hb hK hP 1 rfl 1 (rfl) (by decide) (by decide) dX9_signOf_62 ?_
      refine lv_i2l (v := (f 1).toInt64) hx hb dX9_signOf_63 (rfl) ?_
      refine lv_lmul hx hb dX9_signOf_64 ?_
      refine lv_lload_n hx hb dX9_signOf_65 rfl (lv_at hl 3 rfl) ?_
      refine lv_lmul hx hb dX9_signOf_66 ?_
      refine lv_lload_n hx hb dX9_signOf_67 rfl (lv_at hl 3 rfl) ?_
      refine lv_lmul hx hb dX9_signOf_68 ?_
      refine lv_ldc2 (v := 100) hx hb hown wl71 dX9_signOf_69 ?_
      refine lv_lload hx hb dX9_signOf_72 (lv_at hl 1 rfl) ?_
      refine lv_lmul hx hb dX9_signOf_74 ?_
      refine lv_aload_n hx hb dX9_signOf_75 rfl (lv_at hl 2 rfl) ?_
      refine va_get (D := D) (ci := 9) (v := .ref bt) (C := RX9) (T := TX9) (N := 21) hx hb hts winX9 hown hK hP 0 rfl rfl 3 (by decide) wf13 (fun _ h9 => h9) rfl dX9_signOf_76 ?_
      refine lv_iconst (v := 3) hx hb dX9_signOf_79 (by decide) ?_
      refine al_i hx hb hK hP 1 rfl 3 (rfl) (by decide) (by decide) dX9_signOf_80 ?_
      refine lv_i2l (v := (f 3).toInt64) hx hb dX9_signOf_81 (rfl) ?_
      refine lv_lmul hx hb dX9_signOf_82 ?_
      refine lv_lsub hx hb dX9_signOf_83 ?_
      refine lv_lload hx hb dX9_signOf_84 (lv_at hl 1 rfl) ?_
      refine lv_aload_n hx hb dX9_signOf_86 rfl (lv_at hl 2 rfl) ?_
      refine va_get (D := D) (ci := 9) (v := .ref bt) (C := RX9) (T := TX9) (N := 21) hx hb hts winX9 hown hK hP 0 rfl rfl 3 (by decide) wf13 (fun _ h9 => h9) rfl dX9_signOf_87 ?_
      refine lv_iconst (v := 0) hx hb dX9_signOf_90 (by decide) ?_
      refine al_i hx hb hK hP 1 rfl 0 (rfl) (by decide) (by decide) dX9_signOf_91 ?_
      refine lv_i2l (v := (f 0).toInt64) hx hb dX9_signOf_92 (rfl) ?_
      refine lv_lmul hx hb dX9_signOf_93 ?_
      refine lv_lload_n hx hb dX9_signOf_94 rfl (lv_at hl 3 rfl) ?_
      refine lv_lmul hx hb dX9_signOf_95 ?_
      refine lv_aload_n hx hb dX9_signOf_96 rfl (lv_at hl 2 rfl) ?_
      refine va_get (D := D) (ci := 9) (v := .ref bt) (C := RX9) (T := TX9) (N := 21) hx hb hts winX9 hown hK hP 0 rfl rfl 3 (by decide) wf13 (fun _ h9 => h9) rfl dX9_signOf_97 ?_
      refine lv_iconst (v := 0) hx hb dX9_signOf_100 (by decide) ?_
      refine al_i hx hb hK hP 1 rfl 0 (rfl) (by decide) (by decide) dX9_signOf_101 ?_
      refine lv_i2l (v := (f 0).toInt64) hx hb dX9_signOf_102 (rfl) ?_
      refine lv_lload_n hx hb dX9_signOf_103 rfl (lv_at hl 3 rfl) ?_
      refine lv_lmul hx hb dX9_signOf_104 ?_
      refine lv_ldc2 (v := 10) hx hb hown wl73 dX9_signOf_105 ?_
      refine lv_lload hx hb dX9_signOf_108 (lv_at hl 5 rfl) ?_
      refine lv_lmul hx hb dX9_signOf_110 ?_
      refine lv_ladd hx hb dX9_signOf_111 ?_
      refine lv_lmul hx hb dX9_signOf_112 ?_
      refine lv_ladd hx hb dX9_signOf_113 ?_
      refine lv_eql (y := sgn f v k w j) (by rw [sgn, if_neg c_30, if_pos c_51]; rfl) ?_
      exact RT _ _ () H locs 114 ls (rt_l dX9_signOf_114) rfl hP hD hS
  · refine lv_ldc2 (v := 100) hx hb hown wl71 dX9_signOf_33 ?_
    refine lv_lload hx hb dX9_signOf_36 (lv_at hl 1 rfl) ?_
    refine lv_lmul hx hb dX9_signOf_38 ?_
    refine lv_aload_n hx hb dX9_signOf_39 rfl (lv_at hl 2 rfl) ?_
    refine va_get (D := D) (ci := 9) (v := .ref bt) (C := RX9) (T := TX9) (N := 21) hx hb hts winX9 hown hK hP 0 rfl rfl 3 (by decide) wf13 (fun _ h9 => h9) rfl dX9_signOf_40 ?_
    refine lv_iconst (v := 5) hx hb dX9_signOf_43 (by decide) ?_
    refine al_i hx hb hK hP 1 rfl 5 (rfl) (by decide) (by decide) dX9_signOf_44 ?_
    refine lv_i2l (v := (f 5).toInt64) hx hb dX9_signOf_45 (rfl) ?_
    refine lv_lmul hx hb dX9_signOf_46 ?_
    refine lv_eql (y := sgn f v k w j) (by rw [sgn, if_pos c_30]; rfl) ?_
    exact RT _ _ () H locs 47 ls (rt_l dX9_signOf_47) rfl hP hD hS
abbrev rmkX9_isUp : Room := { frames := 1, cells := 0, slots := 0, locals := 31 }
set_option maxHeartbeats 4000000 in
set_option maxRecDepth 100000 in
theorem kX9_isUp {l : Launch} {D : va_G} {cy : Nat → ClassId} {sa : Nat → Nat} (b0 : Nat) (th : Int32) (tr : Int64) (bn : Nat) (bt : Nat) (bs : Nat) (bk : Nat) (bp : Nat) (bi : Nat) (bl : Nat) (it : Int32) (ub : Int32) (db : Int32) (bx : Nat) (tp : Int32) (nx : Int32) (tk : Int32) (pl : Int32) (vl : Int32) (fa : Int32) (bc : Nat) (bf : Nat) (f : Nat → Int32) (v : Int32) (k : Int32) (w : Int32)  : CD l D cy sa yX9_isUp wsX9_isUp rmkX9_isUp [.ref b0, .int v, .int k, .int w] [(b0, .inr (9, [.int th, .long tr, .ref bn, .ref bt, .ref bs, .ref bk, .ref bp, .ref bi, .ref bl, .int it, .int ub, .int db, .ref bx, .int tp, .int nx, .int tk, .int pl, .int vl, .int fa, .ref bc, .ref bf])), (bt, .inl (cy 0, 6, .inl f))] (some (.int (bI (upP f v k w)))) [(b0, .inr (9, [.int th, .long tr, .ref bn, .ref bt, .ref bs, .ref bk, .ref bp, .ref bi, .ref bl, .int it, .int ub, .int db, .ref bx, .int tp, .int nx, .int tk, .int pl, .int vl, .int fa, .ref bc, .ref bf])), (bt, .inl (cy 0, 6, .inl f))] := by
  refine CT.of cX9_isUp 13 (some .boolean) (by decide) rfl (Nat.le_of_ble_eq_true rfl) ?_
  intro p e s m args below meth c A Q ls F hmn hK hE hA hP hD hS hl RT
  obtain ⟨hx, hb, hml, hown, hts⟩ := id F
  have wl71 := hts (.constantLong RX9 71 (100)) (by decide +kernel)
  have winX9 : ∀ w ∈ u_ws RX9 TX9 21, w ∈ wsX9_isUp := by decide +kernel
  have wf13 := hts (.fieldLink RX9 13 "SelfSteerModel" "tried" "[I") (by decide +kernel)
  have hl : lv_has ls 13 [(0, .ref b0), (1, .int v), (2, .int k), (3, .int w)] := hl
  have hP : va_P D vwCl [(b0, .inr (9, [.int th, .long tr, .ref bn, .ref bt, .ref bs, .ref bk, .ref bp, .ref bi, .ref bl, .int it, .int ub, .int db, .ref bx, .int tp, .int nx, .int tk, .int pl, .int vl, .int fa, .ref bc, .ref bf])), (bt, .inl (cy 0, 6, .inl f))] s.heap := hP
  have hD : va_D A [(b0, .inr (9, [.int th, .long tr, .ref bn, .ref bt, .ref bs, .ref bk, .ref bp, .ref bi, .ref bl, .int it, .int ub, .int db, .ref bx, .int tp, .int nx, .int tk, .int pl, .int vl, .int fa, .ref bc, .ref bf])), (bt, .inl (cy 0, 6, .inl f))] := hD
  obtain ⟨H, hH⟩ : ∃ H0 : Heap, H0 = s.heap := ⟨_, rfl⟩
  obtain ⟨locs, hlo⟩ : ∃ L0 : List Loc, L0 = [] := ⟨_, rfl⟩
  have hS : va_S A s.heap H locs := by rw [hH, hlo]; exact hS
  rw [← hH] at hP
  show W p l e rmkX9_isUp s m args below meth c s.heap [] 0 0 Q (F0 m 0 ls [])
  suffices hgo : W p l e rmkX9_isUp s m args below meth c H locs 0 0 Q (F0 m 0 ls []) by rw [hH, hlo] at hgo; exact hgo
  clear hH hlo
  refine lv_aload_n hx hb dX9_isUp_0 rfl (lv_at hl 0 rfl) ?_
  refine lv_iload_n hx hb dX9_isUp_1 rfl (lv_at hl 1 rfl) ?_
  refine lv_i2l (v := v.toInt64) hx hb dX9_isUp_2 (rfl) ?_
  refine lv_iload_n hx hb dX9_isUp_3 rfl (lv_at hl 2 rfl) ?_
  refine lv_i2l (v := k.toInt64) hx hb dX9_isUp_4 (rfl) ?_
  refine lv_iload_n hx hb dX9_isUp_5 rfl (lv_at hl 3 rfl) ?_
  refine lv_i2l (v := w.toInt64) hx hb dX9_isUp_6 (rfl) ?_
  refine lv_iconst (v := 3) hx hb dX9_isUp_7 (by decide) ?_
  refine ca_V (q0 := 0) (n := 4) (rest := []) (wr := []) F hK hE hA hP hD hS hl.1 (kX9_signOf (l := l) (D := D) (cy := cy) (sa := sa) b0 th tr bn bt bs bk bp bi bl it ub db bx tp nx tk pl vl fa bc bf f v.toInt64 k.toInt64 w.toInt64 3) gX9_isUp_X9_signOf rfl rfl rfl rfl rfl rfl (by decide +kernel) ⟨by decide, by decide⟩ [0, 1] [] rfl rfl rfl rfl (by decide) rfl rfl (Nat.le_of_ble_eq_true rfl) dX9_isUp_8 ⟨by decide, by decide⟩ (fun v u H locs hv hP hD hS => ?_)
  subst hv
  obtain ⟨hP, hD⟩ := re_ws (ws' := [(b0, .inr (9, [.int th, .long tr, .ref bn, .ref bt, .ref bs, .ref bk, .ref bp, .ref bi, .ref bl, .int it, .int ub, .int db, .ref bx, .int tp, .int nx, .int tk, .int pl, .int vl, .int fa, .ref bc, .ref bf])), (bt, .inl (cy 0, 6, .inl f))]) hP hD [0, 1] rfl rfl
  refine W.eq (g2 := F0 m 11 ls [.long (sgn f v.toInt64 k.toInt64 w.toInt64 3)]) rfl ?_
  refine lv_eql (y := sg3 f) (rfl) ?_
  refine lv_lstore (lv' := [(4, .long (sg3 f)), (0, .ref b0), (1, .int v), (2, .int k), (3, .int w)]) hx hb dX9_isUp_11 hl (by decide) rfl (fun ls hl => ?_)
  refine lv_aload_n hx hb dX9_isUp_13 rfl (lv_at hl 1 rfl) ?_
  refine lv_iload_n hx hb dX9_isUp_14 rfl (lv_at hl 2 rfl) ?_
  refine lv_i2l (v := v.toInt64) hx hb dX9_isUp_15 (rfl) ?_
  refine lv_iload_n hx hb dX9_isUp_16 rfl (lv_at hl 3 rfl) ?_
  refine lv_i2l (v := k.toInt64) hx hb dX9_isUp_17 (rfl) ?_
  refine lv_iload_n hx hb dX9_isUp_18 rfl (lv_at hl 4 rfl) ?_
  refine lv_i2l (v := w.toInt64) hx hb dX9_isUp_19 (rfl) ?_
  refine lv_iconst (v := 2) hx hb dX9_isUp_20 (by decide) ?_
  refine ca_V (q0 := 0) (n := 4) (rest := []) (wr := []) F hK hE hA hP hD hS hl.1 (kX9_signOf (l := l) (D := D) (cy := cy) (sa := sa) b0 th tr bn bt bs bk bp bi bl it ub db bx tp nx tk pl vl fa bc bf f v.toInt64 k.toInt64 w.toInt64 2) gX9_isUp_X9_signOf rfl rfl rfl rfl rfl rfl (by decide +kernel) ⟨by decide, by decide⟩ [0, 1] [] rfl rfl rfl rfl (by decide) rfl rfl (Nat.le_of_ble_eq_true rfl) dX9_isUp_21 ⟨by decide, by decide⟩ (fun v u H locs hv hP hD hS => ?_)
  subst hv
  obtain ⟨hP, hD⟩ := re_ws (ws' := [(b0, .inr (9, [.int th, .long tr, .ref bn, .ref bt, .ref bs, .ref bk, .ref bp, .ref bi, .ref bl, .int it, .int ub, .int db, .ref bx, .int tp, .int nx, .int tk, .int pl, .int vl, .int fa, .ref bc, .ref bf])), (bt, .inl (cy 0, 6, .inl f))]) hP hD [0, 1] rfl rfl
  refine W.eq (g2 := F0 m 24 ls [.long (sgn f v.toInt64 k.toInt64 w.toInt64 2)]) rfl ?_
  refine lv_eql (y := sg2 f v.toInt64 w.toInt64) (rfl) ?_
  refine lv_lstore (lv' := [(6, .long (sg2 f v.toInt64 w.toInt64)), (4, .long (sg3 f)), (0, .ref b0), (1, .int v), (2, .int k), (3, .int w)]) hx hb dX9_isUp_24 hl (by decide) rfl (fun ls hl => ?_)
  refine lv_aload_n hx hb dX9_isUp_26 rfl (lv_at hl 2 rfl) ?_
  refine lv_iload_n hx hb dX9_isUp_27 rfl (lv_at hl 3 rfl) ?_
  refine lv_i2l (v := v.toInt64) hx hb dX9_isUp_28 (rfl) ?_
  refine lv_iload_n hx hb dX9_isUp_29 rfl (lv_at hl 4 rfl) ?_
  refine lv_i2l (v := k.toInt64) hx hb dX9_isUp_30 (rfl) ?_
  refine lv_iload_n hx hb dX9_isUp_31 rfl (lv_at hl 5 rfl) ?_
  refine lv_i2l (v := w.toInt64) hx hb dX9_isUp_32 (rfl) ?_
  refine lv_iconst (v := 1) hx hb dX9_isUp_33 (by decide) ?_
  refine ca_V (q0 := 0) (n := 4) (rest := []) (wr := []) F hK hE hA hP hD hS hl.1 (kX9_signOf (l := l) (D := D) (cy := cy) (sa := sa) b0 th tr bn bt bs bk bp bi bl it ub db bx tp nx tk pl vl fa bc bf f v.toInt64 k.toInt64 w.toInt64 1) gX9_isUp_X9_signOf rfl rfl rfl rfl rfl rfl (by decide +kernel) ⟨by decide, by decide⟩ [0, 1] [] rfl rfl rfl rfl (by decide) rfl rfl (Nat.le_of_ble_eq_true rfl) dX9_isUp_34 ⟨by decide, by decide⟩ (fun v u H locs hv hP hD hS => ?_)
  subst hv
  obtain ⟨hP, hD⟩ := re_ws (ws' := [(b0, .inr (9, [.int th, .long tr, .ref bn, .ref bt, .ref bs, .ref bk, .ref bp, .ref bi, .ref bl, .int it, .int ub, .int db, .ref bx, .int tp, .int nx, .int tk, .int pl, .int vl, .int fa, .ref bc, .ref bf])), (bt, .inl (cy 0, 6, .inl f))]) hP hD [0, 1] rfl rfl
  refine W.eq (g2 := F0 m 37 ls [.long (sgn f v.toInt64 k.toInt64 w.toInt64 1)]) rfl ?_
  refine lv_eql (y := sg1 f v.toInt64 k.toInt64 w.toInt64) (rfl) ?_
  refine lv_lstore (lv' := [(8, .long (sg1 f v.toInt64 k.toInt64 w.toInt64)), (6, .long (sg2 f v.toInt64 w.toInt64)), (4, .long (sg3 f)), (0, .ref b0), (1, .int v), (2, .int k), (3, .int w)]) hx hb dX9_isUp_37 hl (by decide) rfl (fun ls hl => ?_)
  refine lv_aload_n hx hb dX9_isUp_39 rfl (lv_at hl 3 rfl) ?_
  refine lv_iload_n hx hb dX9_isUp_40 rfl (lv_at hl 4 rfl) ?_
  refine lv_i2l (v := v.toInt64) hx hb dX9_isUp_41 (rfl) ?_
  refine lv_iload_n hx hb dX9_isUp_42 rfl (lv_at hl 5 rfl) ?_
  refine lv_i2l (v := k.toInt64) hx hb dX9_isUp_43 (rfl) ?_
  refine lv_iload_n hx hb dX9_isUp_44 rfl (lv_at hl 6 rfl) ?_
  refine lv_i2l (v := w.toInt64) hx hb dX9_isUp_45 (rfl) ?_
  refine lv_iconst (v := 0) hx hb dX9_isUp_46 (by decide) ?_
  refine ca_V (q0 := 0) (n := 4) (rest := []) (wr := []) F hK hE hA hP hD hS hl.1 (kX9_signOf (l := l) (D := D) (cy := cy) (sa := sa) b0 th tr bn bt bs bk bp bi bl it ub db bx tp nx tk pl vl fa bc bf f v.toInt64 k.toInt64 w.toInt64 0) gX9_isUp_X9_signOf rfl rfl rfl rfl rfl rfl (by decide +kernel) ⟨by decide, by decide⟩ [0, 1] [] rfl rfl rfl rfl (by decide) rfl rfl (Nat.le_of_ble_eq_true rfl) dX9_isUp_47 ⟨by decide, by decide⟩ (fun v u H locs hv hP hD hS => ?_)
  subst hv
  obtain ⟨hP, hD⟩ := re_ws (ws' := [(b0, .inr (9, [.int th, .long tr, .ref bn, .ref bt, .ref bs, .ref bk, .ref bp, .ref bi, .ref bl, .int it, .int ub, .int db, .ref bx, .int tp, .int nx, .int tk, .int pl, .int vl, .int fa, .ref bc, .ref bf])), (bt, .inl (cy 0, 6, .inl f))]) hP hD [0, 1] rfl rfl
  refine W.eq (g2 := F0 m 50 ls [.long (sgn f v.toInt64 k.toInt64 w.toInt64 0)]) rfl ?_
  refine lv_eql (y := sg0 f v.toInt64 k.toInt64) (rfl) ?_
  refine lv_lstore (lv' := [(10, .long (sg0 f v.toInt64 k.toInt64)), (8, .long (sg1 f v.toInt64 k.toInt64 w.toInt64)), (6, .long (sg2 f v.toInt64 w.toInt64)), (4, .long (sg3 f)), (0, .ref b0), (1, .int v), (2, .int k), (3, .int w)]) hx hb dX9_isUp_50 hl (by decide) rfl (fun ls hl => ?_)
  refine lv_lload hx hb dX9_isUp_52 (lv_at hl 3 rfl) ?_
  refine lv_lconst (v := 0) hx hb dX9_isUp_54 (by decide) ?_
  refine W.lcmp hx hb dX9_isUp_55 ?_
  have J_56_69 : ∀ (H : Heap) (locs : List Loc), va_P D vwCl [(b0, .inr (9, [.int th, .long tr, .ref bn, .ref bt, .ref bs, .ref bk, .ref bp, .ref bi, .ref bl, .int it, .int ub, .int db, .ref bx, .int tp, .int nx, .int tk, .int pl, .int vl, .int fa, .ref bc, .ref bf])), (bt, .inl (cy 0, 6, .inl f))] H → va_D A [(b0, .inr (9, [.int th, .long tr, .ref bn, .ref bt, .ref bs, .ref bk, .ref bp, .ref bi, .ref bl, .int it, .int ub, .int db, .ref bx, .int tp, .int nx, .int tk, .int pl, .int vl, .int fa, .ref bc, .ref bf])), (bt, .inl (cy 0, 6, .inl f))] → va_S A s.heap H locs → ∀ (ls : Array Slot), lv_has ls 13 [(10, .long (sg0 f v.toInt64 k.toInt64)), (8, .long (sg1 f v.toInt64 k.toInt64 w.toInt64)), (6, .long (sg2 f v.toInt64 w.toInt64)), (4, .long (sg3 f)), (0, .ref b0), (1, .int v), (2, .int k), (3, .int w)] → W p l e rmkX9_isUp s m args below meth c H locs 0 0 Q (F0 m 85 ls [.int (bI (¬ ((sg3 f) ≤ 0) ∧ (¬ ((sg2 f v.toInt64 w.toInt64) ≤ 0) ∧ (¬ ((sg1 f v.toInt64 k.toInt64 w.toInt64) ≤ 0) ∧ (¬ ((sg0 f v.toInt64 k.toInt64) ≤ 0))))))]) := by
    intro H locs hP hD hS ls hl
    refine lv_istore (lv' := [(12, .int (bI (¬ ((sg3 f) ≤ 0) ∧ (¬ ((sg2 f v.toInt64 w.toInt64) ≤ 0) ∧ (¬ ((sg1 f v.toInt64 k.toInt64 w.toInt64) ≤ 0) ∧ (¬ ((sg0 f v.toInt64 k.toInt64) ≤ 0))))))), (10, .long (sg0 f v.toInt64 k.toInt64)), (8, .long (sg1 f v.toInt64 k.toInt64 w.toInt64)), (6, .long (sg2 f v.toInt64 w.toInt64)), (4, .long (sg3 f)), (0, .ref b0), (1, .int v), (2, .int k), (3, .int w)]) hx hb dX9_isUp_85 hl (by decide) rfl (fun ls hl => ?_)
    refine lv_iload hx hb dX9_isUp_87 (lv_at hl 0 rfl) ?_
    have J_89_73 : ∀ (H : Heap) (locs : List Loc), va_P D vwCl [(b0, .inr (9, [.int th, .long tr, .ref bn, .ref bt, .ref bs, .ref bk, .ref bp, .ref bi, .ref bl, .int it, .int ub, .int db, .ref bx, .int tp, .int nx, .int tk, .int pl, .int vl, .int fa, .ref bc, .ref bf])), (bt, .inl (cy 0, 6, .inl f))] H → va_D A [(b0, .inr (9, [.int th, .long tr, .ref bn, .ref bt, .ref bs, .ref bk, .ref bp, .ref bi, .ref bl, .int it, .int ub, .int db, .ref bx, .int tp, .int nx, .int tk, .int pl, .int vl, .int fa, .ref bc, .ref bf])), (bt, .inl (cy 0, 6, .inl f))] → va_S A s.heap H locs → ∀ (ls : Array Slot), lv_has ls 13 [(12, .int (bI (¬ ((sg3 f) ≤ 0) ∧ (¬ ((sg2 f v.toInt64 w.toInt64) ≤ 0) ∧ (¬ ((sg1 f v.toInt64 k.toInt64 w.toInt64) ≤ 0) ∧ (¬ ((sg0 f v.toInt64 k.toInt64) ≤ 0))))))), (10, .long (sg0 f v.toInt64 k.toInt64)), (8, .long (sg1 f v.toInt64 k.toInt64 w.toInt64)), (6, .long (sg2 f v.toInt64 w.toInt64)), (4, .long (sg3 f)), (0, .ref b0), (1, .int v), (2, .int k), (3, .int w)] → W p l e rmkX9_isUp s m args below meth c H locs 0 0 Q (F0 m 135 ls [.int (bI ((¬ ((sg3 f) ≤ 0) ∧ (¬ ((sg2 f v.toInt64 w.toInt64) ≤ 0) ∧ (¬ ((sg1 f v.toInt64 k.toInt64 w.toInt64) ≤ 0) ∧ (¬ ((sg0 f v.toInt64 k.toInt64) ≤ 0))))) ∧ (¬ ((((sg3 f) * (sg2 f v.toInt64 w.toInt64)) * (sg1 f v.toInt64 k.toInt64 w.toInt64)) ≤ ((((100 * ((f 4).toInt64)) * (sg1 f v.toInt64 k.toInt64 w.toInt64)) * (sg1 f v.toInt64 k.toInt64 w.toInt64)) + (((sg3 f) * (sg3 f)) * (sg0 f v.toInt64 k.toInt64)))))))]) := by
      intro H locs hP hD hS ls hl
      refine lv_eqi (y := bI (upP f v k w)) (rfl) ?_
      exact RT _ _ () H locs 135 ls (rt_z (bI_nar _) dX9_isUp_135) rfl hP hD hS
    refine bz_eq (tgt := 134) hx hb dX9_isUp_89 (by decide) (fun c_89 => ?_) (fun c_89 => ?_)
    · refine lv_iconst (v := 0) hx hb dX9_isUp_134 (by decide) ?_
      refine lv_eqi (y := bI ((¬ ((sg3 f) ≤ 0) ∧ (¬ ((sg2 f v.toInt64 w.toInt64) ≤ 0) ∧ (¬ ((sg1 f v.toInt64 k.toInt64 w.toInt64) ≤ 0) ∧ (¬ ((sg0 f v.toInt64 k.toInt64) ≤ 0))))) ∧ (¬ ((((sg3 f) * (sg2 f v.toInt64 w.toInt64)) * (sg1 f v.toInt64 k.toInt64 w.toInt64)) ≤ ((((100 * ((f 4).toInt64)) * (sg1 f v.toInt64 k.toInt64 w.toInt64)) * (sg1 f v.toInt64 k.toInt64 w.toInt64)) + (((sg3 f) * (sg3 f)) * (sg0 f v.toInt64 k.toInt64))))))) (bI_congr (pd_f c_89)) ?_
      exact J_89_73 H locs hP hD hS ls (lv_sub hl [0, 1, 2, 3, 4, 5, 6, 7, 8] rfl)
    · refine lv_lload hx hb dX9_isUp_92 (lv_at hl 4 rfl) ?_
      refine lv_lload hx hb dX9_isUp_94 (lv_at hl 3 rfl) ?_
      refine lv_lmul hx hb dX9_isUp_96 ?_
      refine lv_lload hx hb dX9_isUp_97 (lv_at hl 2 rfl) ?_
      refine lv_lmul hx hb dX9_isUp_99 ?_
      refine lv_ldc2 (v := 100) hx hb hown wl71 dX9_isUp_100 ?_
      refine lv_aload_n hx hb dX9_isUp_103 rfl (lv_at hl 5 rfl) ?_
      refine va_get (D := D) (ci := 9) (v := .ref bt) (C := RX9) (T := TX9) (N := 21) hx hb hts winX9 hown hK hP 0 rfl rfl 3 (by decide) wf13 (fun _ h9 => h9) rfl dX9_isUp_104 ?_
      refine lv_iconst (v := 4) hx hb dX9_isUp_107 (by decide) ?_
      refine al_i hx hb hK hP 1 rfl 4 (rfl) (by decide) (by decide) dX9_isUp_108 ?_
      refine lv_i2l (v := (f 4).toInt64) hx hb dX9_isUp_109 (rfl) ?_
      refine lv_lmul hx hb dX9_isUp_110 ?_
      refine lv_lload hx hb dX9_isUp_111 (lv_at hl 2 rfl) ?_
      refine lv_lmul hx hb dX9_isUp_113 ?_
      refine lv_lload hx hb dX9_isUp_114 (lv_at hl 2 rfl) ?_
      refine lv_lmul hx hb dX9_isUp_116 ?_
      refine lv_lload hx hb dX9_isUp_117 (lv_at hl 4 rfl) ?_
      refine lv_lload hx hb dX9_isUp_119 (lv_at hl 4 rfl) ?_
      refine lv_lmul hx hb dX9_isUp_121 ?_
      refine lv_lload hx hb dX9_isUp_122 (lv_at hl 1 rfl) ?_
      refine lv_lmul hx hb dX9_isUp_124 ?_
      refine lv_ladd hx hb dX9_isUp_125 ?_
      refine W.lcmp hx hb dX9_isUp_126 ?_
      refine lc_le (tgt := 134) hx hb dX9_isUp_127 (by decide) (fun c_127 => ?_) (fun c_127 => ?_)
      · refine lv_iconst (v := 0) hx hb dX9_isUp_134 (by decide) ?_
        refine lv_eqi (y := bI ((¬ ((sg3 f) ≤ 0) ∧ (¬ ((sg2 f v.toInt64 w.toInt64) ≤ 0) ∧ (¬ ((sg1 f v.toInt64 k.toInt64 w.toInt64) ≤ 0) ∧ (¬ ((sg0 f v.toInt64 k.toInt64) ≤ 0))))) ∧ (¬ ((((sg3 f) * (sg2 f v.toInt64 w.toInt64)) * (sg1 f v.toInt64 k.toInt64 w.toInt64)) ≤ ((((100 * ((f 4).toInt64)) * (sg1 f v.toInt64 k.toInt64 w.toInt64)) * (sg1 f v.toInt64 k.toInt64 w.toInt64)) + (((sg3 f) * (sg3 f)) * (sg0 f v.toInt64 k.toInt64))))))) (bI_congr (pd_t c_89 (pn_t c_127))) ?_
        exact J_89_73 H locs hP hD hS ls (lv_sub hl [0, 1, 2, 3, 4, 5, 6, 7, 8] rfl)
      · refine lv_iconst (v := 1) hx hb dX9_isUp_130 (by decide) ?_
        refine lv_goto (tgt := 135) hx hb dX9_isUp_131 (by decide) ?_
        refine lv_eqi (y := bI ((¬ ((sg3 f) ≤ 0) ∧ (¬ ((sg2 f v.toInt64 w.toInt64) ≤ 0) ∧ (¬ ((sg1 f v.toInt64 k.toInt64 w.toInt64) ≤ 0) ∧ (¬ ((sg0 f v.toInt64 k.toInt64) ≤ 0))))) ∧ (¬ ((((sg3 f) * (sg2 f v.toInt64 w.toInt64)) * (sg1 f v.toInt64 k.toInt64 w.toInt64)) ≤ ((((100 * ((f 4).toInt64)) * (sg1 f v.toInt64 k.toInt64 w.toInt64)) * (sg1 f v.toInt64 k.toInt64 w.toInt64)) + (((sg3 f) * (sg3 f)) * (sg0 f v.toInt64 k.toInt64))))))) (bI_congr (pd_t c_89 (pn_f c_127))) ?_
        exact J_89_73 H locs hP hD hS ls (lv_sub hl [0, 1, 2, 3, 4, 5, 6, 7, 8] rfl)
  refine lc_le (tgt := 84) hx hb dX9_isUp_56 (by decide) (fun c_56 => ?_) (fun c_56 => ?_)
  · refine lv_iconst (v := 0) hx hb dX9_isUp_84 (by decide) ?_
    refine lv_eqi (y := bI (¬ ((sg3 f) ≤ 0) ∧ (¬ ((sg2 f v.toInt64 w.toInt64) ≤ 0) ∧ (¬ ((sg1 f v.toInt64 k.toInt64 w.toInt64) ≤ 0) ∧ (¬ ((sg0 f v.toInt64 k.toInt64) ≤ 0)))))) (bI_congr (pe_t c_56)) ?_
    exact J_56_69 H locs hP hD hS ls (lv_sub hl [0, 1, 2, 3, 4, 5, 6, 7] rfl)
  · refine lv_lload hx hb dX9_isUp_59 (lv_at hl 2 rfl) ?_
    refine lv_lconst (v := 0) hx hb dX9_isUp_61 (by decide) ?_
    refine W.lcmp hx hb dX9_isUp_62 ?_
    refine lc_le (tgt := 84) hx hb dX9_isUp_63 (by decide) (fun c_63 => ?_) (fun c_63 => ?_)
    · refine lv_iconst (v := 0) hx hb dX9_isUp_84 (by decide) ?_
      refine lv_eqi (y := bI (¬ ((sg3 f) ≤ 0) ∧ (¬ ((sg2 f v.toInt64 w.toInt64) ≤ 0) ∧ (¬ ((sg1 f v.toInt64 k.toInt64 w.toInt64) ≤ 0) ∧ (¬ ((sg0 f v.toInt64 k.toInt64) ≤ 0)))))) (bI_congr (pe_f c_56 (pe_t c_63))) ?_
      exact J_56_69 H locs hP hD hS ls (lv_sub hl [0, 1, 2, 3, 4, 5, 6, 7] rfl)
    · refine lv_lload hx hb dX9_isUp_66 (lv_at hl 1 rfl) ?_
      refine lv_lconst (v := 0) hx hb dX9_isUp_68 (by decide) ?_
      refine W.lcmp hx hb dX9_isUp_69 ?_
      refine lc_le (tgt := 84) hx hb dX9_isUp_70 (by decide) (fun c_70 => ?_) (fun c_70 => ?_)
      · refine lv_iconst (v := 0) hx hb dX9_isUp_84 (by decide) ?_
        refine lv_eqi (y := bI (¬ ((sg3 f) ≤ 0) ∧ (¬ ((sg2 f v.toInt64 w.toInt64) ≤ 0) ∧ (¬ ((sg1 f v.toInt64 k.toInt64 w.toInt64) ≤ 0) ∧ (¬ ((sg0 f v.toInt64 k.toInt64) ≤ 0)))))) (bI_congr (pe_f c_56 (pe_f c_63 (pe_t c_70)))) ?_
        exact J_56_69 H locs hP hD hS ls (lv_sub hl [0, 1, 2, 3, 4, 5, 6, 7] rfl)
      · refine lv_lload hx hb dX9_isUp_73 (lv_at hl 0 rfl) ?_
        refine lv_lconst (v := 0) hx hb dX9_isUp_75 (by decide) ?_
        refine W.lcmp hx hb dX9_isUp_76 ?_
        refine lc_le (tgt := 84) hx hb dX9_isUp_77 (by decide) (fun c_77 => ?_) (fun c_77 => ?_)
        · refine lv_iconst (v := 0) hx hb dX9_isUp_84 (by decide) ?_
          refine lv_eqi (y := bI (¬ ((sg3 f) ≤ 0) ∧ (¬ ((sg2 f v.toInt64 w.toInt64) ≤ 0) ∧ (¬ ((sg1 f v.toInt64 k.toInt64 w.toInt64) ≤ 0) ∧ (¬ ((sg0 f v.toInt64 k.toInt64) ≤ 0)))))) (bI_congr (pe_f c_56 (pe_f c_63 (pe_f c_70 (pn_t c_77))))) ?_
          exact J_56_69 H locs hP hD hS ls (lv_sub hl [0, 1, 2, 3, 4, 5, 6, 7] rfl)
        · refine lv_iconst (v := 1) hx hb dX9_isUp_80 (by decide) ?_
          refine lv_goto (tgt := 85) hx hb dX9_isUp_81 (by decide) ?_
          refine lv_eqi (y := bI (¬ ((sg3 f) ≤ 0) ∧ (¬ ((sg2 f v.toInt64 w.toInt64) ≤ 0) ∧ (¬ ((sg1 f v.toInt64 k.toInt64 w.toInt64) ≤ 0) ∧ (¬ ((sg0 f v.toInt64 k.toInt64) ≤ 0)))))) (bI_congr (pe_f c_56 (pe_f c_63 (pe_f c_70 (pn_f c_77))))) ?_
          exact J_56_69 H locs hP hD hS ls (lv_sub hl [0, 1, 2, 3, 4, 5, 6, 7] rfl)
abbrev rmkX9_speeds : Room := { frames := 2, cells := 0, slots := 0, locals := 63 }
set_option maxHeartbeats 4000000 in
set_option maxRecDepth 100000 in
theorem kX9_speeds {l : Launch} {D : va_G} {cy : Nat → ClassId} {sa : Nat → Nat} (b0 : Nat) (th : Int32) (tr : Int64) (bn : Nat) (bt : Nat) (bs : Nat) (bk : Nat) (bp : Nat) (bi : Nat) (bl : Nat) (it : Int32) (ub : Int32) (db : Int32) (bx : Nat) (tp : Int32) (nx : Int32) (tk : Int32) (pl : Int32) (vl : Int32) (fa : Int32) (bc : Nat) (bf : Nat) (f : Nat → Int32)  : CD l D cy sa yX9_speeds wsX9_speeds rmkX9_speeds [.ref b0] [(b0, .inr (9, [.int th, .long tr, .ref bn, .ref bt, .ref bs, .ref bk, .ref bp, .ref bi, .ref bl, .int it, .int ub, .int db, .ref bx, .int tp, .int nx, .int tk, .int pl, .int vl, .int fa, .ref bc, .ref bf])), (bt, .inl (cy 0, 6, .inl f))] (some (.long (rg f 41))) [(b0, .inr (9, [.int th, .long tr, .ref bn, .ref bt, .ref bs, .ref bk, .ref bp, .ref bi, .ref bl, .int it, .int ub, .int db, .ref bx, .int tp, .int nx, .int tk, .int pl, .int vl, .int fa, .ref bc, .ref bf])), (bt, .inl (cy 0, 6, .inl f))] := by
  refine CT.of cX9_speeds 4 (some .long) (by decide) rfl (Nat.le_of_ble_eq_true rfl) ?_
  intro p e s m args below meth c A Q ls F hmn hK hE hA hP hD hS hl RT
  obtain ⟨hx, hb, hml, hown, hts⟩ := id F
  have hl : lv_has ls 4 [(0, .ref b0)] := hl
  have hP : va_P D vwCl [(b0, .inr (9, [.int th, .long tr, .ref bn, .ref bt, .ref bs, .ref bk, .ref bp, .ref bi, .ref bl, .int it, .int ub, .int db, .ref bx, .int tp, .int nx, .int tk, .int pl, .int vl, .int fa, .ref bc, .ref bf])), (bt, .inl (cy 0, 6, .inl f))] s.heap := hP
  have hD : va_D A [(b0, .inr (9, [.int th, .long tr, .ref bn, .ref bt, .ref bs, .ref bk, .ref bp, .ref bi, .ref bl, .int it, .int ub, .int db, .ref bx, .int tp, .int nx, .int tk, .int pl, .int vl, .int fa, .ref bc, .ref bf])), (bt, .inl (cy 0, 6, .inl f))] := hD
  obtain ⟨H, hH⟩ : ∃ H0 : Heap, H0 = s.heap := ⟨_, rfl⟩
  obtain ⟨locs, hlo⟩ : ∃ L0 : List Loc, L0 = [] := ⟨_, rfl⟩
  have hS : va_S A s.heap H locs := by rw [hH, hlo]; exact hS
  rw [← hH] at hP
  show W p l e rmkX9_speeds s m args below meth c s.heap [] 0 0 Q (F0 m 0 ls [])
  suffices hgo : W p l e rmkX9_speeds s m args below meth c H locs 0 0 Q (F0 m 0 ls []) by rw [hH, hlo] at hgo; exact hgo
  clear hH hlo
  refine lv_lconst (v := 0) hx hb dX9_speeds_0 (by decide) ?_
  refine lv_lstore_n (lv' := [(1, .long 0), (0, .ref b0)]) hx hb dX9_speeds_1 rfl hl (by decide) rfl (fun ls hl => ?_)
  refine lv_iconst (v := 0) hx hb dX9_speeds_2 (by decide) ?_
  refine lv_istore_n (lv' := [(3, .int 0), (1, .long 0), (0, .ref b0)]) hx hb dX9_speeds_3 rfl hl (by decide) rfl (fun ls hl => ?_)
  have L_4 : ∀ (n : Nat) (q : Nat), q ≤ 41 → 41 - q < n → ∀ (H : Heap) (locs : List Loc), va_P D vwCl [(b0, .inr (9, [.int th, .long tr, .ref bn, .ref bt, .ref bs, .ref bk, .ref bp, .ref bi, .ref bl, .int it, .int ub, .int db, .ref bx, .int tp, .int nx, .int tk, .int pl, .int vl, .int fa, .ref bc, .ref bf])), (bt, .inl (cy 0, 6, .inl f))] H → va_D A [(b0, .inr (9, [.int th, .long tr, .ref bn, .ref bt, .ref bs, .ref bk, .ref bp, .ref bi, .ref bl, .int it, .int ub, .int db, .ref bx, .int tp, .int nx, .int tk, .int pl, .int vl, .int fa, .ref bc, .ref bf])), (bt, .inl (cy 0, 6, .inl f))] → va_S A s.heap H locs → ∀ (ls : Array Slot), lv_has ls 4 [(3, .int (nI q)), (1, .long (rg f q)), (0, .ref b0)] → W p l e rmkX9_speeds s m args below meth c H locs 0 0 Q (F0 m 4 ls []) := by
    intro n
    induction n with
    | zero => intro q hq hn; exact absurd hn (Nat.not_lt_zero _)
    | succ n ih_4 =>
      intro q hq hn_4 H locs hP hD hS ls hl
      refine lv_iload_n hx hb dX9_speeds_4 rfl (lv_at hl 0 rfl) ?_
      refine lv_bipush (v := 41) hx hb dX9_speeds_5 (by decide) ?_
      refine cn_ge (tgt := 36) hx hb q 41 rfl rfl (by omega) (by omega) dX9_speeds_7 (by decide) (fun c_7 => ?_) (fun c_7 => ?_)
      · refine lv_lload_n hx hb dX9_speeds_36 rfl (lv_at hl 1 rfl) ?_
        refine lv_eql (y := rg f 41) (by rw [show q = 41 by omega]) ?_
        exact RT _ _ () H locs 37 ls (rt_l dX9_speeds_37) rfl hP hD hS
      · refine lv_lload_n hx hb dX9_speeds_10 rfl (lv_at hl 1 rfl) ?_
        refine lv_aload_n hx hb dX9_speeds_11 rfl (lv_at hl 2 rfl) ?_
        refine lv_iload_n hx hb dX9_speeds_12 rfl (lv_at hl 0 rfl) ?_
        refine lv_iconst (v := 0) hx hb dX9_speeds_13 (by decide) ?_
        refine lv_iconst (v := 0) hx hb dX9_speeds_14 (by decide) ?_
        refine ca_V (q0 := 0) (n := 3) (rest := [.long (rg f q)]) (wr := []) F hK hE hA hP hD hS hl.1 (kX9_isUp (l := l) (D := D) (cy := cy) (sa := sa) b0 th tr bn bt bs bk bp bi bl it ub db bx tp nx tk pl vl fa bc bf f (nI q) 0 0) gX9_speeds_X9_isUp rfl rfl rfl rfl rfl rfl (by decide +kernel) ⟨by decide, by decide⟩ [0, 1] [] rfl rfl rfl rfl (by decide) rfl rfl (Nat.le_of_ble_eq_true rfl) dX9_speeds_15 ⟨by decide, by decide⟩ (fun v u H locs hv hP hD hS => ?_)
        subst hv
        obtain ⟨hP, hD⟩ := re_ws (ws' := [(b0, .inr (9, [.int th, .long tr, .ref bn, .ref bt, .ref bs, .ref bk, .ref bp, .ref bi, .ref bl, .int it, .int ub, .int db, .ref bx, .int tp, .int nx, .int tk, .int pl, .int vl, .int fa, .ref bc, .ref bf])), (bt, .inl (cy 0, 6, .inl f))]) hP hD [0, 1] rfl rfl
        refine W.eq (g2 := F0 m 18 ls [.int (bI (upP f (nI q) 0 0)), .long (rg f q)]) rfl ?_
        have J_18_35 : ∀ (z18 : Int64), z18 = (if upP f (nI q) 0 0 then (1 <<< ((nI q).toInt64 &&& 63)) else 0) → ∀ (H : Heap) (locs : List Loc), va_P D vwCl [(b0, .inr (9, [.int th, .long tr, .ref bn, .ref bt, .ref bs, .ref bk, .ref bp, .ref bi, .ref bl, .int it, .int ub, .int db, .ref bx, .int tp, .int nx, .int tk, .int pl, .int vl, .int fa, .ref bc, .ref bf])), (bt, .inl (cy 0, 6, .inl f))] H → va_D A [(b0, .inr (9, [.int th, .long tr, .ref bn, .ref bt, .ref bs, .ref bk, .ref bp, .ref bi, .ref bl, .int it, .int ub, .int db, .ref bx, .int tp, .int nx, .int tk, .int pl, .int vl, .int fa, .ref bc, .ref bf])), (bt, .inl (cy 0, 6, .inl f))] → va_S A s.heap H locs → ∀ (ls : Array Slot), lv_has ls 4 [(3, .int (nI q)), (1, .long (rg f q)), (0, .ref b0)] → W p l e rmkX9_speeds s m args below meth c H locs 0 0 Q (F0 m 28 ls [.long z18, .long (rg f q)]) := by
          intro z18 ez18 H locs hP hD hS ls hl
          refine lv_lor hx hb dX9_speeds_28 ?_
          refine lv_eql (y := rg f (q + 1)) (by rw [ez18]; rfl) ?_
          refine lv_lstore_n (lv' := [(1, .long (rg f (q + 1))), (3, .int (nI q)), (0, .ref b0)]) hx hb dX9_speeds_29 rfl hl (by decide) rfl (fun ls hl => ?_)
          refine lv_iinc (v := nI (q + 1)) (lv' := [(3, .int (nI (q + 1))), (1, .long (rg f (q + 1))), (0, .ref b0)]) hx hb dX9_speeds_30 hl (k := 1) rfl (nI_add q 1) (by decide) rfl (fun ls hl => ?_)
          refine lv_goto (tgt := 4) hx hb dX9_speeds_33 (by decide) ?_
          exact ih_4 (q + 1) (by first | assumption | omega | decide) (by omega) H locs hP hD hS ls (lv_sub hl [0, 1, 2] rfl)
        refine bz_eq (tgt := 27) hx hb dX9_speeds_18 (by decide) (fun c_18 => ?_) (fun c_18 => ?_)
        · refine lv_lconst (v := 0) hx hb dX9_speeds_27 (by decide) ?_
          exact J_18_35 _ ((if_neg c_18).symm) H locs hP hD hS ls (lv_sub hl [0, 1, 2] rfl)
        · refine lv_lconst (v := 1) hx hb dX9_speeds_21 (by decide) ?_
          refine lv_iload_n hx hb dX9_speeds_22 rfl (lv_at hl 0 rfl) ?_
          refine lv_lshl (v := 1 <<< ((nI q).toInt64 &&& 63)) hx hb dX9_speeds_23 (rfl) ?_
          refine lv_goto (tgt := 28) hx hb dX9_speeds_24 (by decide) ?_
          exact J_18_35 _ ((if_pos c_18).symm) H locs hP hD hS ls (lv_sub hl [0, 1, 2] rfl)
  exact L_4 _ 0 (by first | assumption | omega | decide) (Nat.lt_succ_self _) H locs hP hD hS ls (lv_sub hl [0, 1, 2] rfl)
abbrev rmkX9_manySpeeds : Room := { frames := 2, cells := 0, slots := 0, locals := 63 }
set_option maxHeartbeats 4000000 in
set_option maxRecDepth 100000 in
theorem kX9_manySpeeds {l : Launch} {D : va_G} {cy : Nat → ClassId} {sa : Nat → Nat} (b0 : Nat) (th : Int32) (tr : Int64) (bn : Nat) (bt : Nat) (bs : Nat) (bk : Nat) (bp : Nat) (bi : Nat) (bl : Nat) (it : Int32) (ub : Int32) (db : Int32) (bx : Nat) (tp : Int32) (nx : Int32) (tk : Int32) (pl : Int32) (vl : Int32) (fa : Int32) (bc : Nat) (bf : Nat) (f : Nat → Int32)  : CD l D cy sa yX9_manySpeeds wsX9_manySpeeds rmkX9_manySpeeds [.ref b0] [(b0, .inr (9, [.int th, .long tr, .ref bn, .ref bt, .ref bs, .ref bk, .ref bp, .ref bi, .ref bl, .int it, .int ub, .int db, .ref bx, .int tp, .int nx, .int tk, .int pl, .int vl, .int fa, .ref bc, .ref bf])), (bt, .inl (cy 0, 6, .inl f))] (some (.int (ct f 41))) [(b0, .inr (9, [.int th, .long tr, .ref bn, .ref bt, .ref bs, .ref bk, .ref bp, .ref bi, .ref bl, .int it, .int ub, .int db, .ref bx, .int tp, .int nx, .int tk, .int pl, .int vl, .int fa, .ref bc, .ref bf])), (bt, .inl (cy 0, 6, .inl f))] := by
  refine CT.of cX9_manySpeeds 3 (some .int) (by decide) rfl (Nat.le_of_ble_eq_true rfl) ?_
  intro p e s m args below meth c A Q ls F hmn hK hE hA hP hD hS hl RT
  obtain ⟨hx, hb, hml, hown, hts⟩ := id F
  have hl : lv_has ls 3 [(0, .ref b0)] := hl
  have hP : va_P D vwCl [(b0, .inr (9, [.int th, .long tr, .ref bn, .ref bt, .ref bs, .ref bk, .ref bp, .ref bi, .ref bl, .int it, .int ub, .int db, .ref bx, .int tp, .int nx, .int tk, .int pl, .int vl, .int fa, .ref bc, .ref bf])), (bt, .inl (cy 0, 6, .inl f))] s.heap := hP
  have hD : va_D A [(b0, .inr (9, [.int th, .long tr, .ref bn, .ref bt, .ref bs, .ref bk, .ref bp, .ref bi, .ref bl, .int it, .int ub, .int db, .ref bx, .int tp, .int nx, .int tk, .int pl, .int vl, .int fa, .ref bc, .ref bf])), (bt, .inl (cy 0, 6, .inl f))] := hD
  obtain ⟨H, hH⟩ : ∃ H0 : Heap, H0 = s.heap := ⟨_, rfl⟩
  obtain ⟨locs, hlo⟩ : ∃ L0 : List Loc, L0 = [] := ⟨_, rfl⟩
  have hS : va_S A s.heap H locs := by rw [hH, hlo]; exact hS
  rw [← hH] at hP
  show W p l e rmkX9_manySpeeds s m args below meth c s.heap [] 0 0 Q (F0 m 0 ls [])
  suffices hgo : W p l e rmkX9_manySpeeds s m args below meth c H locs 0 0 Q (F0 m 0 ls []) by rw [hH, hlo] at hgo; exact hgo
  clear hH hlo
  refine lv_iconst (v := 0) hx hb dX9_manySpeeds_0 (by decide) ?_
  refine lv_istore_n (lv' := [(1, .int 0), (0, .ref b0)]) hx hb dX9_manySpeeds_1 rfl hl (by decide) rfl (fun ls hl => ?_)
  refine lv_iconst (v := 0) hx hb dX9_manySpeeds_2 (by decide) ?_
  refine lv_istore_n (lv' := [(2, .int 0), (1, .int 0), (0, .ref b0)]) hx hb dX9_manySpeeds_3 rfl hl (by decide) rfl (fun ls hl => ?_)
  have L_4 : ∀ (n : Nat) (q : Nat), q ≤ 41 → 41 - q < n → ∀ (H : Heap) (locs : List Loc), va_P D vwCl [(b0, .inr (9, [.int th, .long tr, .ref bn, .ref bt, .ref bs, .ref bk, .ref bp, .ref bi, .ref bl, .int it, .int ub, .int db, .ref bx, .int tp, .int nx, .int tk, .int pl, .int vl, .int fa, .ref bc, .ref bf])), (bt, .inl (cy 0, 6, .inl f))] H → va_D A [(b0, .inr (9, [.int th, .long tr, .ref bn, .ref bt, .ref bs, .ref bk, .ref bp, .ref bi, .ref bl, .int it, .int ub, .int db, .ref bx, .int tp, .int nx, .int tk, .int pl, .int vl, .int fa, .ref bc, .ref bf])), (bt, .inl (cy 0, 6, .inl f))] → va_S A s.heap H locs → ∀ (ls : Array Slot), lv_has ls 3 [(2, .int (nI q)), (1, .int (ct f q)), (0, .ref b0)] → W p l e rmkX9_manySpeeds s m args below meth c H locs 0 0 Q (F0 m 4 ls []) := by
    intro n
    induction n with
    | zero => intro q hq hn; exact absurd hn (Nat.not_lt_zero _)
    | succ n ih_4 =>
      intro q hq hn_4 H locs hP hD hS ls hl
      refine lv_iload_n hx hb dX9_manySpeeds_4 rfl (lv_at hl 0 rfl) ?_
      refine lv_bipush (v := 41) hx hb dX9_manySpeeds_5 (by decide) ?_
      refine cn_ge (tgt := 34) hx hb q 41 rfl rfl (by omega) (by omega) dX9_manySpeeds_7 (by decide) (fun c_7 => ?_) (fun c_7 => ?_)
      · refine lv_iload_n hx hb dX9_manySpeeds_34 rfl (lv_at hl 1 rfl) ?_
        refine lv_eqi (y := ct f 41) (by rw [show q = 41 by omega]) ?_
        exact RT _ _ () H locs 35 ls (rt_i dX9_manySpeeds_35) rfl hP hD hS
      · refine lv_iload_n hx hb dX9_manySpeeds_10 rfl (lv_at hl 1 rfl) ?_
        refine lv_aload_n hx hb dX9_manySpeeds_11 rfl (lv_at hl 2 rfl) ?_
        refine lv_iload_n hx hb dX9_manySpeeds_12 rfl (lv_at hl 0 rfl) ?_
        refine lv_iconst (v := 0) hx hb dX9_manySpeeds_13 (by decide) ?_
        refine lv_iconst (v := 0) hx hb dX9_manySpeeds_14 (by decide) ?_
        refine ca_V (q0 := 0) (n := 3) (rest := [.int (ct f q)]) (wr := []) F hK hE hA hP hD hS hl.1 (kX9_isUp (l := l) (D := D) (cy := cy) (sa := sa) b0 th tr bn bt bs bk bp bi bl it ub db bx tp nx tk pl vl fa bc bf f (nI q) 0 0) gX9_manySpeeds_X9_isUp rfl rfl rfl rfl rfl rfl (by decide +kernel) ⟨by decide, by decide⟩ [0, 1] [] rfl rfl rfl rfl (by decide) rfl rfl (Nat.le_of_ble_eq_true rfl) dX9_manySpeeds_15 ⟨by decide, by decide⟩ (fun v u H locs hv hP hD hS => ?_)
        subst hv
        obtain ⟨hP, hD⟩ := re_ws (ws' := [(b0, .inr (9, [.int th, .long tr, .ref bn, .ref bt, .ref bs, .ref bk, .ref bp, .ref bi, .ref bl, .int it, .int ub, .int db, .ref bx, .int tp, .int nx, .int tk, .int pl, .int vl, .int fa, .ref bc, .ref bf])), (bt, .inl (cy 0, 6, .inl f))]) hP hD [0, 1] rfl rfl
        refine W.eq (g2 := F0 m 18 ls [.int (bI (upP f (nI q) 0 0)), .int (ct f q)]) rfl ?_
        have J_18_35 : ∀ (H : Heap) (locs : List Loc), va_P D vwCl [(b0, .inr (9, [.int th, .long tr, .ref bn, .ref bt, .ref bs, .ref bk, .ref bp, .ref bi, .ref bl, .int it, .int ub, .int db, .ref bx, .int tp, .int nx, .int tk, .int pl, .int vl, .int fa, .ref bc, .ref bf])), (bt, .inl (cy 0, 6, .inl f))] H → va_D A [(b0, .inr (9, [.int th, .long tr, .ref bn, .ref bt, .ref bs, .ref bk, .ref bp, .ref bi, .ref bl, .int it, .int ub, .int db, .ref bx, .int tp, .int nx, .int tk, .int pl, .int vl, .int fa, .ref bc, .ref bf])), (bt, .inl (cy 0, 6, .inl f))] → va_S A s.heap H locs → ∀ (ls : Array Slot), lv_has ls 3 [(2, .int (nI q)), (1, .int (ct f q)), (0, .ref b0)] → W p l e rmkX9_manySpeeds s m args below meth c H locs 0 0 Q (F0 m 26 ls [.int (bI (upP f (nI q) 0 0)), .int (ct f q)]) := by
          intro H locs hP hD hS ls hl
          refine lv_iadd hx hb dX9_manySpeeds_26 ?_
          refine lv_eqi (y := ct f (q + 1)) (rfl) ?_
          refine lv_istore_n (lv' := [(1, .int (ct f (q + 1))), (2, .int (nI q)), (0, .ref b0)]) hx hb dX9_manySpeeds_27 rfl hl (by decide) rfl (fun ls hl => ?_)
          refine lv_iinc (v := nI (q + 1)) (lv' := [(2, .int (nI (q + 1))), (1, .int (ct f (q + 1))), (0, .ref b0)]) hx hb dX9_manySpeeds_28 hl (k := 1) rfl (nI_add q 1) (by decide) rfl (fun ls hl => ?_)
          refine lv_goto (tgt := 4) hx hb dX9_manySpeeds_31 (by decide) ?_
          exact ih_4 (q + 1) (by first | assumption | omega | decide) (by omega) H locs hP hD hS ls (lv_sub hl [0, 1, 2] rfl)
        refine bz_eq (tgt := 25) hx hb dX9_manySpeeds_18 (by decide) (fun c_18 => ?_) (fun c_18 => ?_)
        · refine lv_iconst (v := 0) hx hb dX9_manySpeeds_25 (by decide) ?_
          refine lv_eqi (y := bI (upP f (nI q) 0 0)) (bI_congr (pa_f c_18)) ?_
          exact J_18_35 H locs hP hD hS ls (lv_sub hl [0, 1, 2] rfl)
        · refine lv_iconst (v := 1) hx hb dX9_manySpeeds_21 (by decide) ?_
          refine lv_goto (tgt := 26) hx hb dX9_manySpeeds_22 (by decide) ?_
          refine lv_eqi (y := bI (upP f (nI q) 0 0)) (bI_congr (pa_t c_18)) ?_
          exact J_18_35 H locs hP hD hS ls (lv_sub hl [0, 1, 2] rfl)
  exact L_4 _ 0 (by first | assumption | omega | decide) (Nat.lt_succ_self _) H locs hP hD hS ls (lv_sub hl [0, 1, 2] rfl)
