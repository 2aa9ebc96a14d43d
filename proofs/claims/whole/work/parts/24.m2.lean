abbrev rmkX9_number : Room := { frames := 2, cells := 0, slots := 0, locals := 43 }
set_option maxHeartbeats 4000000 in
set_option maxRecDepth 100000 in
theorem kX9_number {l : Launch} {D : va_G} {cy : Nat → ClassId} {sa : Nat → Nat} (b0 : Nat) (th : Int32) (tr : Int64) (bn : Nat) (bt : Nat) (bs : Nat) (bk : Nat) (bp : Nat) (bi : Nat) (bl : Nat) (it : Int32) (ub : Int32) (db : Int32) (bx : Nat) (tp : Int32) (nx : Int32) (tk : Int32) (pl : Int32) (vl : Int32) (fa : Int32) (bc : Nat) (bf : Nat) (nb : Nat → Nat → Int32) (i : Int32) (k : Int32) (v : Int32)  : CD l D cy sa yX9_number wsX9_number rmkX9_number [.ref b0, .int i, .int k, .int v] [(b0, .inr (9, [.int th, .long tr, .ref bn, .ref bt, .ref bs, .ref bk, .ref bp, .ref bi, .ref bl, .int it, .int ub, .int db, .ref bx, .int tp, .int nx, .int tk, .int pl, .int vl, .int fa, .ref bc, .ref bf])), (bn, .inl (cy 0, 24, .inl (nbF nb)))] (some (.int (r_number nb i k v))) [(b0, .inr (9, [.int 0, .long tr, .ref bn, .ref bt, .ref bs, .ref bk, .ref bp, .ref bi, .ref bl, .int it, .int ub, .int db, .ref bx, .int tp, .int nx, .int tk, .int pl, .int vl, .int fa, .ref bc, .ref bf])), (bn, .inl (cy 0, 24, .inl (nbF (n_number nb i k v))))] := by
  refine CT.of cX9_number 5 (some .int) (by decide) rfl (Nat.le_of_ble_eq_true rfl) ?_
  intro p e s m args below meth c A Q ls F hmn hK hE hA hP hD hS hl RT
  obtain ⟨hx, hb, hml, hown, hts⟩ := id F
  have winX9 : ∀ w ∈ u_ws RX9 TX9 21, w ∈ wsX9_number := by decide +kernel
  have wf48 := hts (.fieldLink RX9 48 "SelfSteerModel" "thrown" "I") (by decide +kernel)
  have wc70 := hts (.constant RX9 70 (-1000000)) (by decide +kernel)
  have wf7 := hts (.fieldLink RX9 7 "SelfSteerModel" "numbers" "[I") (by decide +kernel)
  have hl : lv_has ls 5 [(0, .ref b0), (1, .int i), (2, .int k), (3, .int v)] := hl
  have hP : va_P D vwCl [(b0, .inr (9, [.int th, .long tr, .ref bn, .ref bt, .ref bs, .ref bk, .ref bp, .ref bi, .ref bl, .int it, .int ub, .int db, .ref bx, .int tp, .int nx, .int tk, .int pl, .int vl, .int fa, .ref bc, .ref bf])), (bn, .inl (cy 0, 24, .inl (nbF nb)))] s.heap := hP
  have hD : va_D A [(b0, .inr (9, [.int th, .long tr, .ref bn, .ref bt, .ref bs, .ref bk, .ref bp, .ref bi, .ref bl, .int it, .int ub, .int db, .ref bx, .int tp, .int nx, .int tk, .int pl, .int vl, .int fa, .ref bc, .ref bf])), (bn, .inl (cy 0, 24, .inl (nbF nb)))] := hD
  obtain ⟨H, hH⟩ : ∃ H0 : Heap, H0 = s.heap := ⟨_, rfl⟩
  obtain ⟨locs, hlo⟩ : ∃ L0 : List Loc, L0 = [] := ⟨_, rfl⟩
  have hS : va_S A s.heap H locs := by rw [hH, hlo]; exact hS
  rw [← hH] at hP
  show W p l e rmkX9_number s m args below meth c s.heap [] 0 0 Q (F0 m 0 ls [])
  suffices hgo : W p l e rmkX9_number s m args below meth c H locs 0 0 Q (F0 m 0 ls []) by rw [hH, hlo] at hgo; exact hgo
  clear hH hlo
  refine lv_aload_n hx hb dX9_number_0 rfl (lv_at hl 0 rfl) ?_
  refine lv_iconst (v := 0) hx hb dX9_number_1 (by decide) ?_
  refine va_put (D := D) (ci := 9) (v := .int 0) (ty := .int) (C := RX9) (T := TX9) (N := 21) hx hb hts winX9 tyX9 tyX9_ok nmX9 hown hK hP hD hS 0 rfl rfl 0 (by decide) wf48 (fun _ h9 => h9) rfl (by decide +kernel) rfl rfl (Nat.le_of_ble_eq_true rfl) dX9_number_2 (fun H locs hP hD hS => ?_)
  have hP : va_P D vwCl [(b0, .inr (9, [.int 0, .long tr, .ref bn, .ref bt, .ref bs, .ref bk, .ref bp, .ref bi, .ref bl, .int it, .int ub, .int db, .ref bx, .int tp, .int nx, .int tk, .int pl, .int vl, .int fa, .ref bc, .ref bf])), (bn, .inl (cy 0, 24, .inl (nbF nb)))] H := hP
  have hD : va_D A [(b0, .inr (9, [.int 0, .long tr, .ref bn, .ref bt, .ref bs, .ref bk, .ref bp, .ref bi, .ref bl, .int it, .int ub, .int db, .ref bx, .int tp, .int nx, .int tk, .int pl, .int vl, .int fa, .ref bc, .ref bf])), (bn, .inl (cy 0, 24, .inl (nbF nb)))] := hD
  refine lv_iload_n hx hb dX9_number_5 rfl (lv_at hl 1 rfl) ?_
  refine ca_S (n := 1) (rest := []) (wr := [(b0, .inr (9, [.int 0, .long tr, .ref bn, .ref bt, .ref bs, .ref bk, .ref bp, .ref bi, .ref bl, .int it, .int ub, .int db, .ref bx, .int tp, .int nx, .int tk, .int pl, .int vl, .int fa, .ref bc, .ref bf])), (bn, .inl (cy 0, 24, .inl (nbF nb)))]) F hK hE hA hP hD hS hl.1 (kX9_isBicycle (l := l) (D := D) (cy := cy) (sa := sa) i) gX9_number_X9_isBicycle rfl rfl rfl (by decide +kernel) ⟨by decide, by decide⟩ [] [0, 1] rfl rfl rfl rfl (by decide) rfl rfl (Nat.le_of_ble_eq_true rfl) dX9_number_6 ⟨by decide, by decide⟩ (fun v9 u9 H locs hv hP hD hS => ?_)
  subst hv
  have hP : va_P D vwCl [(b0, .inr (9, [.int 0, .long tr, .ref bn, .ref bt, .ref bs, .ref bk, .ref bp, .ref bi, .ref bl, .int it, .int ub, .int db, .ref bx, .int tp, .int nx, .int tk, .int pl, .int vl, .int fa, .ref bc, .ref bf])), (bn, .inl (cy 0, 24, .inl (nbF nb)))] H := hP
  have hD : va_D A [(b0, .inr (9, [.int 0, .long tr, .ref bn, .ref bt, .ref bs, .ref bk, .ref bp, .ref bi, .ref bl, .int it, .int ub, .int db, .ref bx, .int tp, .int nx, .int tk, .int pl, .int vl, .int fa, .ref bc, .ref bf])), (bn, .inl (cy 0, 24, .inl (nbF nb)))] := hD
  refine W.eq (g2 := F0 m 9 ls [.int (bI (inR i 0 3))]) rfl ?_
  refine bz_eq (tgt := 27) hx hb dX9_number_9 (by decide) (fun c_9 => ?_) (fun c_9 => ?_)
  · refine lv_ldc (v := (-1000000)) hx hb hown wc70 dX9_number_27 ?_
    have hno : ¬ okNum i k v := by first | exact fun z => c_9 z.1 | exact fun z => c_16 z.2.1 | exact fun z => c_24 z.2.2
    have hc9 : nbF nb = nbF (n_number nb i k v) := congrArg nbF (if_neg hno).symm
    rw [hc9] at hP hD
    refine lv_eqi (y := r_number nb i k v) ((if_neg hno).symm) ?_
    exact RT _ _ () H locs 29 ls (rt_i dX9_number_29) rfl hP hD hS
  · obtain ⟨i1, hi1, rfl⟩ := inR_n 3 (by decide) rfl c_9
    refine lv_iload_n hx hb dX9_number_12 rfl (lv_at hl 2 rfl) ?_
    refine ca_S (n := 1) (rest := []) (wr := [(b0, .inr (9, [.int 0, .long tr, .ref bn, .ref bt, .ref bs, .ref bk, .ref bp, .ref bi, .ref bl, .int it, .int ub, .int db, .ref bx, .int tp, .int nx, .int tk, .int pl, .int vl, .int fa, .ref bc, .ref bf])), (bn, .inl (cy 0, 24, .inl (nbF nb)))]) F hK hE hA hP hD hS hl.1 (kX9_isNumber (l := l) (D := D) (cy := cy) (sa := sa) k) gX9_number_X9_isNumber rfl rfl rfl (by decide +kernel) ⟨by decide, by decide⟩ [] [0, 1] rfl rfl rfl rfl (by decide) rfl rfl (Nat.le_of_ble_eq_true rfl) dX9_number_13 ⟨by decide, by decide⟩ (fun v9 u9 H locs hv hP hD hS => ?_)
    subst hv
    have hP : va_P D vwCl [(b0, .inr (9, [.int 0, .long tr, .ref bn, .ref bt, .ref bs, .ref bk, .ref bp, .ref bi, .ref bl, .int it, .int ub, .int db, .ref bx, .int tp, .int nx, .int tk, .int pl, .int vl, .int fa, .ref bc, .ref bf])), (bn, .inl (cy 0, 24, .inl (nbF nb)))] H := hP
    have hD : va_D A [(b0, .inr (9, [.int 0, .long tr, .ref bn, .ref bt, .ref bs, .ref bk, .ref bp, .ref bi, .ref bl, .int it, .int ub, .int db, .ref bx, .int tp, .int nx, .int tk, .int pl, .int vl, .int fa, .ref bc, .ref bf])), (bn, .inl (cy 0, 24, .inl (nbF nb)))] := hD
    refine W.eq (g2 := F0 m 16 ls [.int (bI (inR k 0 5))]) rfl ?_
    refine bz_eq (tgt := 27) hx hb dX9_number_16 (by decide) (fun c_16 => ?_) (fun c_16 => ?_)
    · refine lv_ldc (v := (-1000000)) hx hb hown wc70 dX9_number_27 ?_
      have hno : ¬ okNum (nI i1) k v := by first | exact fun z => c_9 z.1 | exact fun z => c_16 z.2.1 | exact fun z => c_24 z.2.2
      have hc9 : nbF nb = nbF (n_number nb (nI i1) k v) := congrArg nbF (if_neg hno).symm
      rw [hc9] at hP hD
      refine lv_eqi (y := r_number nb (nI i1) k v) ((if_neg hno).symm) ?_
      exact RT _ _ () H locs 29 ls (rt_i dX9_number_29) rfl hP hD hS
    · refine lv_iload_n hx hb dX9_number_19 rfl (lv_at hl 2 rfl) ?_
      refine lv_iload_n hx hb dX9_number_20 rfl (lv_at hl 3 rfl) ?_
      refine ca_S (n := 2) (rest := []) (wr := [(b0, .inr (9, [.int 0, .long tr, .ref bn, .ref bt, .ref bs, .ref bk, .ref bp, .ref bi, .ref bl, .int it, .int ub, .int db, .ref bx, .int tp, .int nx, .int tk, .int pl, .int vl, .int fa, .ref bc, .ref bf])), (bn, .inl (cy 0, 24, .inl (nbF nb)))]) F hK hE hA hP hD hS hl.1 (kX9_mayBe (l := l) (D := D) (cy := cy) (sa := sa) k v) gX9_number_X9_mayBe rfl rfl rfl (by decide +kernel) ⟨by decide, by decide⟩ [] [0, 1] rfl rfl rfl rfl (by decide) rfl rfl (Nat.le_of_ble_eq_true rfl) dX9_number_21 ⟨by decide, by decide⟩ (fun v9 u9 H locs hv hP hD hS => ?_)
      subst hv
      have hP : va_P D vwCl [(b0, .inr (9, [.int 0, .long tr, .ref bn, .ref bt, .ref bs, .ref bk, .ref bp, .ref bi, .ref bl, .int it, .int ub, .int db, .ref bx, .int tp, .int nx, .int tk, .int pl, .int vl, .int fa, .ref bc, .ref bf])), (bn, .inl (cy 0, 24, .inl (nbF nb)))] H := hP
      have hD : va_D A [(b0, .inr (9, [.int 0, .long tr, .ref bn, .ref bt, .ref bs, .ref bk, .ref bp, .ref bi, .ref bl, .int it, .int ub, .int db, .ref bx, .int tp, .int nx, .int tk, .int pl, .int vl, .int fa, .ref bc, .ref bf])), (bn, .inl (cy 0, 24, .inl (nbF nb)))] := hD
      refine W.eq (g2 := F0 m 24 ls [.int (bI (inR v (bot k) 9))]) rfl ?_
      refine bz_ne (tgt := 30) hx hb dX9_number_24 (by decide) (fun c_24 => ?_) (fun c_24 => ?_)
      · obtain ⟨k1, hk1, rfl⟩ := inR_n 5 (by decide) rfl c_16
        refine lv_aload_n hx hb dX9_number_30 rfl (lv_at hl 0 rfl) ?_
        refine va_get (D := D) (ci := 9) (v := .ref bn) (C := RX9) (T := TX9) (N := 21) hx hb hts winX9 hown hK hP 0 rfl rfl 2 (by decide) wf7 (fun _ h9 => h9) rfl dX9_number_31 ?_
        refine lv_bipush (v := 6) hx hb dX9_number_34 (by decide) ?_
        refine lv_iload_n hx hb dX9_number_36 rfl (lv_at hl 1 rfl) ?_
        refine lv_imul hx hb dX9_number_37 ?_
        refine lv_eqi (y := nI (6 * i1)) (pk_mul 6 i1) ?_
        refine lv_iload_n hx hb dX9_number_38 rfl (lv_at hl 2 rfl) ?_
        refine lv_iadd hx hb dX9_number_39 ?_
        refine lv_eqi (y := nI ((6 * i1) + k1)) (nI_add (6 * i1) k1) ?_
        refine al_i hx hb hK hP 1 rfl ((6 * i1) + k1) (rfl) (by omega) (by decide) dX9_number_40 ?_
        refine lv_eqi (y := nb i1 k1) (nbF_at nb i1 (by omega)) ?_
        refine lv_istore (lv' := [(4, .int (nb i1 k1)), (0, .ref b0), (1, .int (nI i1)), (2, .int (nI k1)), (3, .int v)]) hx hb dX9_number_41 hl (by decide) rfl (fun ls hl => ?_)
        refine lv_aload_n hx hb dX9_number_43 rfl (lv_at hl 1 rfl) ?_
        refine va_get (D := D) (ci := 9) (v := .ref bn) (C := RX9) (T := TX9) (N := 21) hx hb hts winX9 hown hK hP 0 rfl rfl 2 (by decide) wf7 (fun _ h9 => h9) rfl dX9_number_44 ?_
        refine lv_bipush (v := 6) hx hb dX9_number_47 (by decide) ?_
        refine lv_iload_n hx hb dX9_number_49 rfl (lv_at hl 2 rfl) ?_
        refine lv_imul hx hb dX9_number_50 ?_
        refine lv_eqi (y := nI (6 * i1)) (pk_mul 6 i1) ?_
        refine lv_iload_n hx hb dX9_number_51 rfl (lv_at hl 3 rfl) ?_
        refine lv_iadd hx hb dX9_number_52 ?_
        refine lv_eqi (y := nI ((6 * i1) + k1)) (nI_add (6 * i1) k1) ?_
        refine lv_iload_n hx hb dX9_number_53 rfl (lv_at hl 4 rfl) ?_
        refine as_i (x := v) hx hb hK hP hD hS 1 rfl ((6 * i1) + k1) (rfl) (by omega) (by decide) dX9_number_54 (fun H locs hP hD hS => ?_)
        have hP : va_P D vwCl [(b0, .inr (9, [.int 0, .long tr, .ref bn, .ref bt, .ref bs, .ref bk, .ref bp, .ref bi, .ref bl, .int it, .int ub, .int db, .ref bx, .int tp, .int nx, .int tk, .int pl, .int vl, .int fa, .ref bc, .ref bf])), (bn, .inl (cy 0, 24, .inl (upd (nbF nb) ((6 * i1) + k1) v)))] H := hP
        have hD : va_D A [(b0, .inr (9, [.int 0, .long tr, .ref bn, .ref bt, .ref bs, .ref bk, .ref bp, .ref bi, .ref bl, .int it, .int ub, .int db, .ref bx, .int tp, .int nx, .int tk, .int pl, .int vl, .int fa, .ref bc, .ref bf])), (bn, .inl (cy 0, 24, .inl (upd (nbF nb) ((6 * i1) + k1) v)))] := hD
        refine lv_iload hx hb dX9_number_55 (lv_at hl 0 rfl) ?_
        have hok : okNum (nI i1) (nI k1) v := ⟨c_9, c_16, c_24⟩
        have hc9 : upd (nbF nb) ((6 * i1) + k1) v = nbF (n_number nb (nI i1) (nI k1) v) := by rw [nbF_up _ _ (by omega), n_number, if_pos hok, cl_n (by omega), cl_n (by omega)]
        rw [hc9] at hP hD
        refine lv_eqi (y := r_number nb (nI i1) (nI k1) v) (by rw [r_number, if_pos hok, cl_n (by omega), cl_n (by omega)]) ?_
        exact RT _ _ () H locs 57 ls (rt_i dX9_number_57) rfl hP hD hS
      · refine lv_ldc (v := (-1000000)) hx hb hown wc70 dX9_number_27 ?_
        have hno : ¬ okNum (nI i1) k v := by first | exact fun z => c_9 z.1 | exact fun z => c_16 z.2.1 | exact fun z => c_24 z.2.2
        have hc9 : nbF nb = nbF (n_number nb (nI i1) k v) := congrArg nbF (if_neg hno).symm
        rw [hc9] at hP hD
        refine lv_eqi (y := r_number nb (nI i1) k v) ((if_neg hno).symm) ?_
        exact RT _ _ () H locs 29 ls (rt_i dX9_number_29) rfl hP hD hS
abbrev rmkX9_has : Room := { frames := 2, cells := 0, slots := 0, locals := 42 }
set_option maxHeartbeats 4000000 in
set_option maxRecDepth 100000 in
theorem kX9_has {l : Launch} {D : va_G} {cy : Nat → ClassId} {sa : Nat → Nat} (b0 : Nat) (th : Int32) (tr : Int64) (bn : Nat) (bt : Nat) (bs : Nat) (bk : Nat) (bp : Nat) (bi : Nat) (bl : Nat) (it : Int32) (ub : Int32) (db : Int32) (bx : Nat) (tp : Int32) (nx : Int32) (tk : Int32) (pl : Int32) (vl : Int32) (fa : Int32) (bc : Nat) (bf : Nat) (nb : Nat → Nat → Int32) (i : Int32) (k : Int32)  : CD l D cy sa yX9_has wsX9_has rmkX9_has [.ref b0, .int i, .int k] [(b0, .inr (9, [.int th, .long tr, .ref bn, .ref bt, .ref bs, .ref bk, .ref bp, .ref bi, .ref bl, .int it, .int ub, .int db, .ref bx, .int tp, .int nx, .int tk, .int pl, .int vl, .int fa, .ref bc, .ref bf])), (bn, .inl (cy 0, 24, .inl (nbF nb)))] (some (.int (r_has nb i k))) [(b0, .inr (9, [.int 0, .long tr, .ref bn, .ref bt, .ref bs, .ref bk, .ref bp, .ref bi, .ref bl, .int it, .int ub, .int db, .ref bx, .int tp, .int nx, .int tk, .int pl, .int vl, .int fa, .ref bc, .ref bf])), (bn, .inl (cy 0, 24, .inl (nbF nb)))] := by
  refine CT.of cX9_has 3 (some .int) (by decide) rfl (Nat.le_of_ble_eq_true rfl) ?_
  intro p e s m args below meth c A Q ls F hmn hK hE hA hP hD hS hl RT
  obtain ⟨hx, hb, hml, hown, hts⟩ := id F
  have winX9 : ∀ w ∈ u_ws RX9 TX9 21, w ∈ wsX9_has := by decide +kernel
  have wf48 := hts (.fieldLink RX9 48 "SelfSteerModel" "thrown" "I") (by decide +kernel)
  have wc70 := hts (.constant RX9 70 (-1000000)) (by decide +kernel)
  have wf7 := hts (.fieldLink RX9 7 "SelfSteerModel" "numbers" "[I") (by decide +kernel)
  have hl : lv_has ls 3 [(0, .ref b0), (1, .int i), (2, .int k)] := hl
  have hP : va_P D vwCl [(b0, .inr (9, [.int th, .long tr, .ref bn, .ref bt, .ref bs, .ref bk, .ref bp, .ref bi, .ref bl, .int it, .int ub, .int db, .ref bx, .int tp, .int nx, .int tk, .int pl, .int vl, .int fa, .ref bc, .ref bf])), (bn, .inl (cy 0, 24, .inl (nbF nb)))] s.heap := hP
  have hD : va_D A [(b0, .inr (9, [.int th, .long tr, .ref bn, .ref bt, .ref bs, .ref bk, .ref bp, .ref bi, .ref bl, .int it, .int ub, .int db, .ref bx, .int tp, .int nx, .int tk, .int pl, .int vl, .int fa, .ref bc, .ref bf])), (bn, .inl (cy 0, 24, .inl (nbF nb)))] := hD
  obtain ⟨H, hH⟩ : ∃ H0 : Heap, H0 = s.heap := ⟨_, rfl⟩
  obtain ⟨locs, hlo⟩ : ∃ L0 : List Loc, L0 = [] := ⟨_, rfl⟩
  have hS : va_S A s.heap H locs := by rw [hH, hlo]; exact hS
  rw [← hH] at hP
  show W p l e rmkX9_has s m args below meth c s.heap [] 0 0 Q (F0 m 0 ls [])
  suffices hgo : W p l e rmkX9_has s m args below meth c H locs 0 0 Q (F0 m 0 ls []) by rw [hH, hlo] at hgo; exact hgo
  clear hH hlo
  refine lv_aload_n hx hb dX9_has_0 rfl (lv_at hl 0 rfl) ?_
  refine lv_iconst (v := 0) hx hb dX9_has_1 (by decide) ?_
  refine va_put (D := D) (ci := 9) (v := .int 0) (ty := .int) (C := RX9) (T := TX9) (N := 21) hx hb hts winX9 tyX9 tyX9_ok nmX9 hown hK hP hD hS 0 rfl rfl 0 (by decide) wf48 (fun _ h9 => h9) rfl (by decide +kernel) rfl rfl (Nat.le_of_ble_eq_true rfl) dX9_has_2 (fun H locs hP hD hS => ?_)
  have hP : va_P D vwCl [(b0, .inr (9, [.int 0, .long tr, .ref bn, .ref bt, .ref bs, .ref bk, .ref bp, .ref bi, .ref bl, .int it, .int ub, .int db, .ref bx, .int tp, .int nx, .int tk, .int pl, .int vl, .int fa, .ref bc, .ref bf])), (bn, .inl (cy 0, 24, .inl (nbF nb)))] H := hP
  have hD : va_D A [(b0, .inr (9, [.int 0, .long tr, .ref bn, .ref bt, .ref bs, .ref bk, .ref bp, .ref bi, .ref bl, .int it, .int ub, .int db, .ref bx, .int tp, .int nx, .int tk, .int pl, .int vl, .int fa, .ref bc, .ref bf])), (bn, .inl (cy 0, 24, .inl (nbF nb)))] := hD
  refine lv_iload_n hx hb dX9_has_5 rfl (lv_at hl 1 rfl) ?_
  refine ca_S (n := 1) (rest := []) (wr := [(b0, .inr (9, [.int 0, .long tr, .ref bn, .ref bt, .ref bs, .ref bk, .ref bp, .ref bi, .ref bl, .int it, .int ub, .int db, .ref bx, .int tp, .int nx, .int tk, .int pl, .int vl, .int fa, .ref bc, .ref bf])), (bn, .inl (cy 0, 24, .inl (nbF nb)))]) F hK hE hA hP hD hS hl.1 (kX9_isBicycle (l := l) (D := D) (cy := cy) (sa := sa) i) gX9_has_X9_isBicycle rfl rfl rfl (by decide +kernel) ⟨by decide, by decide⟩ [] [0, 1] rfl rfl rfl rfl (by decide) rfl rfl (Nat.le_of_ble_eq_true rfl) dX9_has_6 ⟨by decide, by decide⟩ (fun v9 u9 H locs hv hP hD hS => ?_)
  subst hv
  have hP : va_P D vwCl [(b0, .inr (9, [.int 0, .long tr, .ref bn, .ref bt, .ref bs, .ref bk, .ref bp, .ref bi, .ref bl, .int it, .int ub, .int db, .ref bx, .int tp, .int nx, .int tk, .int pl, .int vl, .int fa, .ref bc, .ref bf])), (bn, .inl (cy 0, 24, .inl (nbF nb)))] H := hP
  have hD : va_D A [(b0, .inr (9, [.int 0, .long tr, .ref bn, .ref bt, .ref bs, .ref bk, .ref bp, .ref bi, .ref bl, .int it, .int ub, .int db, .ref bx, .int tp, .int nx, .int tk, .int pl, .int vl, .int fa, .ref bc, .ref bf])), (bn, .inl (cy 0, 24, .inl (nbF nb)))] := hD
  refine W.eq (g2 := F0 m 9 ls [.int (bI (inR i 0 3))]) rfl ?_
  refine bz_eq (tgt := 33) hx hb dX9_has_9 (by decide) (fun c_9 => ?_) (fun c_9 => ?_)
  · refine lv_ldc (v := (-1000000)) hx hb hown wc70 dX9_has_33 ?_
    have hno : ¬ okHas i k := by first | exact fun z => c_9 z.1 | exact fun z => c_16 z.2
    refine lv_eqi (y := r_has nb i k) ((if_neg hno).symm) ?_
    exact RT _ _ () H locs 35 ls (rt_i dX9_has_35) rfl hP hD hS
  · obtain ⟨i1, hi1, rfl⟩ := inR_n 3 (by decide) rfl c_9
    refine lv_iload_n hx hb dX9_has_12 rfl (lv_at hl 2 rfl) ?_
    refine ca_S (n := 1) (rest := []) (wr := [(b0, .inr (9, [.int 0, .long tr, .ref bn, .ref bt, .ref bs, .ref bk, .ref bp, .ref bi, .ref bl, .int it, .int ub, .int db, .ref bx, .int tp, .int nx, .int tk, .int pl, .int vl, .int fa, .ref bc, .ref bf])), (bn, .inl (cy 0, 24, .inl (nbF nb)))]) F hK hE hA hP hD hS hl.1 (kX9_isNumber (l := l) (D := D) (cy := cy) (sa := sa) k) gX9_has_X9_isNumber rfl rfl rfl (by decide +kernel) ⟨by decide, by decide⟩ [] [0, 1] rfl rfl rfl rfl (by decide) rfl rfl (Nat.le_of_ble_eq_true rfl) dX9_has_13 ⟨by decide, by decide⟩ (fun v9 u9 H locs hv hP hD hS => ?_)
    subst hv
    have hP : va_P D vwCl [(b0, .inr (9, [.int 0, .long tr, .ref bn, .ref bt, .ref bs, .ref bk, .ref bp, .ref bi, .ref bl, .int it, .int ub, .int db, .ref bx, .int tp, .int nx, .int tk, .int pl, .int vl, .int fa, .ref bc, .ref bf])), (bn, .inl (cy 0, 24, .inl (nbF nb)))] H := hP
    have hD : va_D A [(b0, .inr (9, [.int 0, .long tr, .ref bn, .ref bt, .ref bs, .ref bk, .ref bp, .ref bi, .ref bl, .int it, .int ub, .int db, .ref bx, .int tp, .int nx, .int tk, .int pl, .int vl, .int fa, .ref bc, .ref bf])), (bn, .inl (cy 0, 24, .inl (nbF nb)))] := hD
    refine W.eq (g2 := F0 m 16 ls [.int (bI (inR k 0 5))]) rfl ?_
    refine bz_eq (tgt := 33) hx hb dX9_has_16 (by decide) (fun c_16 => ?_) (fun c_16 => ?_)
    · refine lv_ldc (v := (-1000000)) hx hb hown wc70 dX9_has_33 ?_
      have hno : ¬ okHas (nI i1) k := by first | exact fun z => c_9 z.1 | exact fun z => c_16 z.2
      refine lv_eqi (y := r_has nb (nI i1) k) ((if_neg hno).symm) ?_
      exact RT _ _ () H locs 35 ls (rt_i dX9_has_35) rfl hP hD hS
    · obtain ⟨k1, hk1, rfl⟩ := inR_n 5 (by decide) rfl c_16
      refine lv_aload_n hx hb dX9_has_19 rfl (lv_at hl 0 rfl) ?_
      refine va_get (D := D) (ci := 9) (v := .ref bn) (C := RX9) (T := TX9) (N := 21) hx hb hts winX9 hown hK hP 0 rfl rfl 2 (by decide) wf7 (fun _ h9 => h9) rfl dX9_has_20 ?_
      refine lv_bipush (v := 6) hx hb dX9_has_23 (by decide) ?_
      refine lv_iload_n hx hb dX9_has_25 rfl (lv_at hl 1 rfl) ?_
      refine lv_imul hx hb dX9_has_26 ?_
      refine lv_eqi (y := nI (6 * i1)) (pk_mul 6 i1) ?_
      refine lv_iload_n hx hb dX9_has_27 rfl (lv_at hl 2 rfl) ?_
      refine lv_iadd hx hb dX9_has_28 ?_
      refine lv_eqi (y := nI ((6 * i1) + k1)) (nI_add (6 * i1) k1) ?_
      refine al_i hx hb hK hP 1 rfl ((6 * i1) + k1) (rfl) (by omega) (by decide) dX9_has_29 ?_
      refine lv_eqi (y := nb i1 k1) (nbF_at nb i1 (by omega)) ?_
      refine lv_goto (tgt := 35) hx hb dX9_has_30 (by decide) ?_
      refine lv_eqi (y := r_has nb (nI i1) (nI k1)) (by rw [r_has, if_pos ⟨c_9, c_16⟩, cl_n (by omega), cl_n (by omega)]) ?_
      exact RT _ _ () H locs 35 ls (rt_i dX9_has_35) rfl hP hD hS
abbrev rmkX9_sign : Room := { frames := 3, cells := 0, slots := 0, locals := 65 }
set_option maxHeartbeats 4000000 in
set_option maxRecDepth 100000 in
theorem kX9_sign {l : Launch} {D : va_G} {cy : Nat → ClassId} {sa : Nat → Nat} (b0 : Nat) (th : Int32) (tr : Int64) (bn : Nat) (bt : Nat) (bs : Nat) (bk : Nat) (bp : Nat) (bi : Nat) (bl : Nat) (it : Int32) (ub : Int32) (db : Int32) (bx : Nat) (tp : Int32) (nx : Int32) (tk : Int32) (pl : Int32) (vl : Int32) (fa : Int32) (bc : Nat) (bf : Nat) (nb : Nat → Nat → Int32) (ft : Nat → Int32) (i : Int32) (v : Int32) (k : Int32) (w : Int32) (j : Int32)  : CT (S := (Nat → Int32)) l D cy sa yX9_sign wsX9_sign rmkX9_sign [.ref b0, .int i, .int v, .int k, .int w, .int j] [(b0, .inr (9, [.int th, .long tr, .ref bn, .ref bt, .ref bs, .ref bk, .ref bp, .ref bi, .ref bl, .int it, .int ub, .int db, .ref bx, .int tp, .int nx, .int tk, .int pl, .int vl, .int fa, .ref bc, .ref bf])), (bn, .inl (cy 0, 24, .inl (nbF nb))), (bt, .inl (cy 0, 6, .inl ft))] (fun v9 ft2 => v9 = some (.long (r_sign nb i v k w j))) (fun ft2 => [(b0, .inr (9, [.int 0, .long tr, .ref bn, .ref bt, .ref bs, .ref bk, .ref bp, .ref bi, .ref bl, .int it, .int ub, .int db, .ref bx, .int tp, .int nx, .int tk, .int pl, .int vl, .int fa, .ref bc, .ref bf])), (bn, .inl (cy 0, 24, .inl (nbF nb))), (bt, .inl (cy 0, 6, .inl ft2))]) 0 0 := by
  refine CT.of cX9_sign 6 (some .long) (by decide) rfl (Nat.le_of_ble_eq_true rfl) ?_
  intro p e s m args below meth c A Q ls F hmn hK hE hA hP hD hS hl RT
  obtain ⟨hx, hb, hml, hown, hts⟩ := id F
  have winX9 : ∀ w ∈ u_ws RX9 TX9 21, w ∈ wsX9_sign := by decide +kernel
  have wf48 := hts (.fieldLink RX9 48 "SelfSteerModel" "thrown" "I") (by decide +kernel)
  have wl83 := hts (.constantLong RX9 83 (-9223372036854775808)) (by decide +kernel)
  have hl : lv_has ls 6 [(0, .ref b0), (1, .int i), (2, .int v), (3, .int k), (4, .int w), (5, .int j)] := hl
  have hP : va_P D vwCl [(b0, .inr (9, [.int th, .long tr, .ref bn, .ref bt, .ref bs, .ref bk, .ref bp, .ref bi, .ref bl, .int it, .int ub, .int db, .ref bx, .int tp, .int nx, .int tk, .int pl, .int vl, .int fa, .ref bc, .ref bf])), (bn, .inl (cy 0, 24, .inl (nbF nb))), (bt, .inl (cy 0, 6, .inl ft))] s.heap := hP
  have hD : va_D A [(b0, .inr (9, [.int th, .long tr, .ref bn, .ref bt, .ref bs, .ref bk, .ref bp, .ref bi, .ref bl, .int it, .int ub, .int db, .ref bx, .int tp, .int nx, .int tk, .int pl, .int vl, .int fa, .ref bc, .ref bf])), (bn, .inl (cy 0, 24, .inl (nbF nb))), (bt, .inl (cy 0, 6, .inl ft))] := hD
  obtain ⟨H, hH⟩ : ∃ H0 : Heap, H0 = s.heap := ⟨_, rfl⟩
  obtain ⟨locs, hlo⟩ : ∃ L0 : List Loc, L0 = [] := ⟨_, rfl⟩
  have hS : va_S A s.heap H locs := by rw [hH, hlo]; exact hS
  rw [← hH] at hP
  show W p l e rmkX9_sign s m args below meth c s.heap [] 0 0 Q (F0 m 0 ls [])
  suffices hgo : W p l e rmkX9_sign s m args below meth c H locs 0 0 Q (F0 m 0 ls []) by rw [hH, hlo] at hgo; exact hgo
  clear hH hlo
  refine lv_aload_n hx hb dX9_sign_0 rfl (lv_at hl 0 rfl) ?_
  refine lv_iconst (v := 0) hx hb dX9_sign_1 (by decide) ?_
  refine va_put (D := D) (ci := 9) (v := .int 0) (ty := .int) (C := RX9) (T := TX9) (N := 21) hx hb hts winX9 tyX9 tyX9_ok nmX9 hown hK hP hD hS 0 rfl rfl 0 (by decide) wf48 (fun _ h9 => h9) rfl (by decide +kernel) rfl rfl (Nat.le_of_ble_eq_true rfl) dX9_sign_2 (fun H locs hP hD hS => ?_)
  have hP : va_P D vwCl [(b0, .inr (9, [.int 0, .long tr, .ref bn, .ref bt, .ref bs, .ref bk, .ref bp, .ref bi, .ref bl, .int it, .int ub, .int db, .ref bx, .int tp, .int nx, .int tk, .int pl, .int vl, .int fa, .ref bc, .ref bf])), (bn, .inl (cy 0, 24, .inl (nbF nb))), (bt, .inl (cy 0, 6, .inl ft))] H := hP
  have hD : va_D A [(b0, .inr (9, [.int 0, .long tr, .ref bn, .ref bt, .ref bs, .ref bk, .ref bp, .ref bi, .ref bl, .int it, .int ub, .int db, .ref bx, .int tp, .int nx, .int tk, .int pl, .int vl, .int fa, .ref bc, .ref bf])), (bn, .inl (cy 0, 24, .inl (nbF nb))), (bt, .inl (cy 0, 6, .inl ft))] := hD
  refine lv_iload_n hx hb dX9_sign_5 rfl (lv_at hl 1 rfl) ?_
  refine lv_iload_n hx hb dX9_sign_6 rfl (lv_at hl 2 rfl) ?_
  refine lv_iload_n hx hb dX9_sign_7 rfl (lv_at hl 3 rfl) ?_
  refine lv_iload hx hb dX9_sign_8 (lv_at hl 4 rfl) ?_
  refine ca_S (n := 4) (rest := []) (wr := [(b0, .inr (9, [.int 0, .long tr, .ref bn, .ref bt, .ref bs, .ref bk, .ref bp, .ref bi, .ref bl, .int it, .int ub, .int db, .ref bx, .int tp, .int nx, .int tk, .int pl, .int vl, .int fa, .ref bc, .ref bf])), (bn, .inl (cy 0, 24, .inl (nbF nb))), (bt, .inl (cy 0, 6, .inl ft))]) F hK hE hA hP hD hS hl.1 (kX9_isAsked (l := l) (D := D) (cy := cy) (sa := sa) i v k w) gX9_sign_X9_isAsked rfl rfl rfl (by decide +kernel) ⟨by decide, by decide⟩ [] [0, 1, 2] rfl rfl rfl rfl (by decide) rfl rfl (Nat.le_of_ble_eq_true rfl) dX9_sign_10 ⟨by decide, by decide⟩ (fun v9 u9 H locs hv hP hD hS => ?_)
  subst hv
  have hP : va_P D vwCl [(b0, .inr (9, [.int 0, .long tr, .ref bn, .ref bt, .ref bs, .ref bk, .ref bp, .ref bi, .ref bl, .int it, .int ub, .int db, .ref bx, .int tp, .int nx, .int tk, .int pl, .int vl, .int fa, .ref bc, .ref bf])), (bn, .inl (cy 0, 24, .inl (nbF nb))), (bt, .inl (cy 0, 6, .inl ft))] H := hP
  have hD : va_D A [(b0, .inr (9, [.int 0, .long tr, .ref bn, .ref bt, .ref bs, .ref bk, .ref bp, .ref bi, .ref bl, .int it, .int ub, .int db, .ref bx, .int tp, .int nx, .int tk, .int pl, .int vl, .int fa, .ref bc, .ref bf])), (bn, .inl (cy 0, 24, .inl (nbF nb))), (bt, .inl (cy 0, 6, .inl ft))] := hD
  refine W.eq (g2 := F0 m 13 ls [.int (bI ((inR i 0 3) ∧ ((inR v 0 40) ∧ ((inR k (-99) 99) ∧ (inR w (-99) 99)))))]) rfl ?_
  refine bz_eq (tgt := 26) hx hb dX9_sign_13 (by decide) (fun c_13 => ?_) (fun c_13 => ?_)
  · refine lv_ldc2 (v := (-9223372036854775808)) hx hb hown wl83 dX9_sign_26 ?_
    have hno : ¬ (okAsk i v k w ∧ inR j 0 3) := by first | exact fun z => c_13 z.1 | exact fun z => c_23 z.2
    refine lv_eql (y := r_sign nb i v k w j) ((if_neg hno).symm) ?_
    exact RT _ _ (ft) H locs 29 ls (rt_l dX9_sign_29) rfl hP hD hS
  · refine lv_iload hx hb dX9_sign_16 (lv_at hl 5 rfl) ?_
    refine lv_iconst (v := 0) hx hb dX9_sign_18 (by decide) ?_
    refine lv_iconst (v := 3) hx hb dX9_sign_19 (by decide) ?_
    refine ca_S (n := 3) (rest := []) (wr := [(b0, .inr (9, [.int 0, .long tr, .ref bn, .ref bt, .ref bs, .ref bk, .ref bp, .ref bi, .ref bl, .int it, .int ub, .int db, .ref bx, .int tp, .int nx, .int tk, .int pl, .int vl, .int fa, .ref bc, .ref bf])), (bn, .inl (cy 0, 24, .inl (nbF nb))), (bt, .inl (cy 0, 6, .inl ft))]) F hK hE hA hP hD hS hl.1 (kX9_in (l := l) (D := D) (cy := cy) (sa := sa) j 0 3) gX9_sign_X9_in rfl rfl rfl (by decide +kernel) ⟨by decide, by decide⟩ [] [0, 1, 2] rfl rfl rfl rfl (by decide) rfl rfl (Nat.le_of_ble_eq_true rfl) dX9_sign_20 ⟨by decide, by decide⟩ (fun v9 u9 H locs hv hP hD hS => ?_)
    subst hv
    have hP : va_P D vwCl [(b0, .inr (9, [.int 0, .long tr, .ref bn, .ref bt, .ref bs, .ref bk, .ref bp, .ref bi, .ref bl, .int it, .int ub, .int db, .ref bx, .int tp, .int nx, .int tk, .int pl, .int vl, .int fa, .ref bc, .ref bf])), (bn, .inl (cy 0, 24, .inl (nbF nb))), (bt, .inl (cy 0, 6, .inl ft))] H := hP
    have hD : va_D A [(b0, .inr (9, [.int 0, .long tr, .ref bn, .ref bt, .ref bs, .ref bk, .ref bp, .ref bi, .ref bl, .int it, .int ub, .int db, .ref bx, .int tp, .int nx, .int tk, .int pl, .int vl, .int fa, .ref bc, .ref bf])), (bn, .inl (cy 0, 24, .inl (nbF nb))), (bt, .inl (cy 0, 6, .inl ft))] := hD
    refine W.eq (g2 := F0 m 23 ls [.int (bI (inR j 0 3))]) rfl ?_
    refine bz_ne (tgt := 30) hx hb dX9_sign_23 (by decide) (fun c_23 => ?_) (fun c_23 => ?_)
    · obtain ⟨i1, hi1, rfl⟩ := inR_n 3 (by decide) rfl c_13.1
      refine lv_aload_n hx hb dX9_sign_30 rfl (lv_at hl 0 rfl) ?_
      refine lv_iload_n hx hb dX9_sign_31 rfl (lv_at hl 1 rfl) ?_
      refine ca_V (q0 := 0) (n := 1) (rest := []) (wr := []) F hK hE hA hP hD hS hl.1 (kX9_takes (l := l) (D := D) (cy := cy) (sa := sa) b0 0 tr bn bt bs bk bp bi bl it ub db bx tp nx tk pl vl fa bc bf nb ft i1 (by first | assumption | omega | decide)) gX9_sign_X9_takes rfl rfl rfl rfl rfl rfl (by decide +kernel) ⟨by decide, by decide⟩ [0, 1, 2] [] rfl rfl rfl rfl (by decide) rfl rfl (Nat.le_of_ble_eq_true rfl) dX9_sign_32 ⟨by decide, by decide⟩ (fun v9 u9 H locs hv hP hD hS => ?_)
      subst hv
      obtain ⟨hP, hD⟩ := re_ws (ws' := [(b0, .inr (9, [.int 0, .long tr, .ref bn, .ref bt, .ref bs, .ref bk, .ref bp, .ref bi, .ref bl, .int it, .int ub, .int db, .ref bx, .int tp, .int nx, .int tk, .int pl, .int vl, .int fa, .ref bc, .ref bf])), (bn, .inl (cy 0, 24, .inl (nbF nb))), (bt, .inl (cy 0, 6, .inl (nb i1)))]) hP hD [0, 1, 2] rfl rfl
      refine W.eq (g2 := F0 m 35 ls []) rfl ?_
      refine lv_aload_n hx hb dX9_sign_35 rfl (lv_at hl 0 rfl) ?_
      refine lv_iload_n hx hb dX9_sign_36 rfl (lv_at hl 2 rfl) ?_
      refine lv_i2l (v := v.toInt64) hx hb dX9_sign_37 (rfl) ?_
      refine lv_iload_n hx hb dX9_sign_38 rfl (lv_at hl 3 rfl) ?_
      refine lv_i2l (v := k.toInt64) hx hb dX9_sign_39 (rfl) ?_
      refine lv_iload hx hb dX9_sign_40 (lv_at hl 4 rfl) ?_
      refine lv_i2l (v := w.toInt64) hx hb dX9_sign_42 (rfl) ?_
      refine lv_iload hx hb dX9_sign_43 (lv_at hl 5 rfl) ?_
      refine ca_V (q0 := 0) (n := 4) (rest := []) (wr := [(bn, .inl (cy 0, 24, .inl (nbF nb)))]) F hK hE hA hP hD hS hl.1 (kX9_signOf (l := l) (D := D) (cy := cy) (sa := sa) b0 0 tr bn bt bs bk bp bi bl it ub db bx tp nx tk pl vl fa bc bf (nb i1) v.toInt64 k.toInt64 w.toInt64 j) gX9_sign_X9_signOf rfl rfl rfl rfl rfl rfl (by decide +kernel) ⟨by decide, by decide⟩ [0, 2] [1] rfl rfl rfl rfl (by decide) rfl rfl (Nat.le_of_ble_eq_true rfl) dX9_sign_45 ⟨by decide, by decide⟩ (fun v9 u9 H locs hv hP hD hS => ?_)
      subst hv
      obtain ⟨hP, hD⟩ := re_ws (ws' := [(b0, .inr (9, [.int 0, .long tr, .ref bn, .ref bt, .ref bs, .ref bk, .ref bp, .ref bi, .ref bl, .int it, .int ub, .int db, .ref bx, .int tp, .int nx, .int tk, .int pl, .int vl, .int fa, .ref bc, .ref bf])), (bn, .inl (cy 0, 24, .inl (nbF nb))), (bt, .inl (cy 0, 6, .inl (nb i1)))]) hP hD [1, 0, 2] rfl rfl
      refine W.eq (g2 := F0 m 48 ls [.long (sgn (nb i1) v.toInt64 k.toInt64 w.toInt64 j)]) rfl ?_
      refine lv_eql (y := r_sign nb (nI i1) v k w j) (by rw [r_sign, if_pos ⟨c_13, c_23⟩, cl_n (by omega)]) ?_
      exact RT _ _ ((nb i1)) H locs 48 ls (rt_l dX9_sign_48) rfl hP hD hS
    · refine lv_ldc2 (v := (-9223372036854775808)) hx hb hown wl83 dX9_sign_26 ?_
      have hno : ¬ (okAsk i v k w ∧ inR j 0 3) := by first | exact fun z => c_13 z.1 | exact fun z => c_23 z.2
      refine lv_eql (y := r_sign nb i v k w j) ((if_neg hno).symm) ?_
      exact RT _ _ (ft) H locs 29 ls (rt_l dX9_sign_29) rfl hP hD hS
abbrev rmkX9_stays : Room := { frames := 3, cells := 0, slots := 0, locals := 65 }
set_option maxHeartbeats 4000000 in
set_option maxRecDepth 100000 in
theorem kX9_stays {l : Launch} {D : va_G} {cy : Nat → ClassId} {sa : Nat → Nat} (b0 : Nat) (th : Int32) (tr : Int64) (bn : Nat) (bt : Nat) (bs : Nat) (bk : Nat) (bp : Nat) (bi : Nat) (bl : Nat) (it : Int32) (ub : Int32) (db : Int32) (bx : Nat) (tp : Int32) (nx : Int32) (tk : Int32) (pl : Int32) (vl : Int32) (fa : Int32) (bc : Nat) (bf : Nat) (nb : Nat → Nat → Int32) (ft : Nat → Int32) (i : Int32) (v : Int32) (k : Int32) (w : Int32)  : CT (S := (Nat → Int32)) l D cy sa yX9_stays wsX9_stays rmkX9_stays [.ref b0, .int i, .int v, .int k, .int w] [(b0, .inr (9, [.int th, .long tr, .ref bn, .ref bt, .ref bs, .ref bk, .ref bp, .ref bi, .ref bl, .int it, .int ub, .int db, .ref bx, .int tp, .int nx, .int tk, .int pl, .int vl, .int fa, .ref bc, .ref bf])), (bn, .inl (cy 0, 24, .inl (nbF nb))), (bt, .inl (cy 0, 6, .inl ft))] (fun v9 ft2 => v9 = some (.int (r_stays nb i v k w))) (fun ft2 => [(b0, .inr (9, [.int 0, .long tr, .ref bn, .ref bt, .ref bs, .ref bk, .ref bp, .ref bi, .ref bl, .int it, .int ub, .int db, .ref bx, .int tp, .int nx, .int tk, .int pl, .int vl, .int fa, .ref bc, .ref bf])), (bn, .inl (cy 0, 24, .inl (nbF nb))), (bt, .inl (cy 0, 6, .inl ft2))]) 0 0 := by
  refine CT.of cX9_stays 5 (some .int) (by decide) rfl (Nat.le_of_ble_eq_true rfl) ?_
  intro p e s m args below meth c A Q ls F hmn hK hE hA hP hD hS hl RT
  obtain ⟨hx, hb, hml, hown, hts⟩ := id F
  have winX9 : ∀ w ∈ u_ws RX9 TX9 21, w ∈ wsX9_stays := by decide +kernel
  have wf48 := hts (.fieldLink RX9 48 "SelfSteerModel" "thrown" "I") (by decide +kernel)
  have hl : lv_has ls 5 [(0, .ref b0), (1, .int i), (2, .int v), (3, .int k), (4, .int w)] := hl
  have hP : va_P D vwCl [(b0, .inr (9, [.int th, .long tr, .ref bn, .ref bt, .ref bs, .ref bk, .ref bp, .ref bi, .ref bl, .int it, .int ub, .int db, .ref bx, .int tp, .int nx, .int tk, .int pl, .int vl, .int fa, .ref bc, .ref bf])), (bn, .inl (cy 0, 24, .inl (nbF nb))), (bt, .inl (cy 0, 6, .inl ft))] s.heap := hP
  have hD : va_D A [(b0, .inr (9, [.int th, .long tr, .ref bn, .ref bt, .ref bs, .ref bk, .ref bp, .ref bi, .ref bl, .int it, .int ub, .int db, .ref bx, .int tp, .int nx, .int tk, .int pl, .int vl, .int fa, .ref bc, .ref bf])), (bn, .inl (cy 0, 24, .inl (nbF nb))), (bt, .inl (cy 0, 6, .inl ft))] := hD
  obtain ⟨H, hH⟩ : ∃ H0 : Heap, H0 = s.heap := ⟨_, rfl⟩
  obtain ⟨locs, hlo⟩ : ∃ L0 : List Loc, L0 = [] := ⟨_, rfl⟩
  have hS : va_S A s.heap H locs := by rw [hH, hlo]; exact hS
  rw [← hH] at hP
  show W p l e rmkX9_stays s m args below meth c s.heap [] 0 0 Q (F0 m 0 ls [])
  suffices hgo : W p l e rmkX9_stays s m args below meth c H locs 0 0 Q (F0 m 0 ls []) by rw [hH, hlo] at hgo; exact hgo
  clear hH hlo
  refine lv_aload_n hx hb dX9_stays_0 rfl (lv_at hl 0 rfl) ?_
  refine lv_iconst (v := 0) hx hb dX9_stays_1 (by decide) ?_
  refine va_put (D := D) (ci := 9) (v := .int 0) (ty := .int) (C := RX9) (T := TX9) (N := 21) hx hb hts winX9 tyX9 tyX9_ok nmX9 hown hK hP hD hS 0 rfl rfl 0 (by decide) wf48 (fun _ h9 => h9) rfl (by decide +kernel) rfl rfl (Nat.le_of_ble_eq_true rfl) dX9_stays_2 (fun H locs hP hD hS => ?_)
  have hP : va_P D vwCl [(b0, .inr (9, [.int 0, .long tr, .ref bn, .ref bt, .ref bs, .ref bk, .ref bp, .ref bi, .ref bl, .int it, .int ub, .int db, .ref bx, .int tp, .int nx, .int tk, .int pl, .int vl, .int fa, .ref bc, .ref bf])), (bn, .inl (cy 0, 24, .inl (nbF nb))), (bt, .inl (cy 0, 6, .inl ft))] H := hP
  have hD : va_D A [(b0, .inr (9, [.int 0, .long tr, .ref bn, .ref bt, .ref bs, .ref bk, .ref bp, .ref bi, .ref bl, .int it, .int ub, .int db, .ref bx, .int tp, .int nx, .int tk, .int pl, .int vl, .int fa, .ref bc, .ref bf])), (bn, .inl (cy 0, 24, .inl (nbF nb))), (bt, .inl (cy 0, 6, .inl ft))] := hD
  refine lv_iload_n hx hb dX9_stays_5 rfl (lv_at hl 1 rfl) ?_
  refine lv_iload_n hx hb dX9_stays_6 rfl (lv_at hl 2 rfl) ?_
  refine lv_iload_n hx hb dX9_stays_7 rfl (lv_at hl 3 rfl) ?_
  refine lv_iload hx hb dX9_stays_8 (lv_at hl 4 rfl) ?_
  refine ca_S (n := 4) (rest := []) (wr := [(b0, .inr (9, [.int 0, .long tr, .ref bn, .ref bt, .ref bs, .ref bk, .ref bp, .ref bi, .ref bl, .int it, .int ub, .int db, .ref bx, .int tp, .int nx, .int tk, .int pl, .int vl, .int fa, .ref bc, .ref bf])), (bn, .inl (cy 0, 24, .inl (nbF nb))), (bt, .inl (cy 0, 6, .inl ft))]) F hK hE hA hP hD hS hl.1 (kX9_isAsked (l := l) (D := D) (cy := cy) (sa := sa) i v k w) gX9_stays_X9_isAsked rfl rfl rfl (by decide +kernel) ⟨by decide, by decide⟩ [] [0, 1, 2] rfl rfl rfl rfl (by decide) rfl rfl (Nat.le_of_ble_eq_true rfl) dX9_stays_10 ⟨by decide, by decide⟩ (fun v9 u9 H locs hv hP hD hS => ?_)
  subst hv
  have hP : va_P D vwCl [(b0, .inr (9, [.int 0, .long tr, .ref bn, .ref bt, .ref bs, .ref bk, .ref bp, .ref bi, .ref bl, .int it, .int ub, .int db, .ref bx, .int tp, .int nx, .int tk, .int pl, .int vl, .int fa, .ref bc, .ref bf])), (bn, .inl (cy 0, 24, .inl (nbF nb))), (bt, .inl (cy 0, 6, .inl ft))] H := hP
  have hD : va_D A [(b0, .inr (9, [.int 0, .long tr, .ref bn, .ref bt, .ref bs, .ref bk, .ref bp, .ref bi, .ref bl, .int it, .int ub, .int db, .ref bx, .int tp, .int nx, .int tk, .int pl, .int vl, .int fa, .ref bc, .ref bf])), (bn, .inl (cy 0, 24, .inl (nbF nb))), (bt, .inl (cy 0, 6, .inl ft))] := hD
  refine W.eq (g2 := F0 m 13 ls [.int (bI ((inR i 0 3) ∧ ((inR v 0 40) ∧ ((inR k (-99) 99) ∧ (inR w (-99) 99)))))]) rfl ?_
  refine bz_ne (tgt := 18) hx hb dX9_stays_13 (by decide) (fun c_13 => ?_) (fun c_13 => ?_)
  · obtain ⟨i1, hi1, rfl⟩ := inR_n 3 (by decide) rfl c_13.1
    refine lv_aload_n hx hb dX9_stays_18 rfl (lv_at hl 0 rfl) ?_
    refine lv_iload_n hx hb dX9_stays_19 rfl (lv_at hl 1 rfl) ?_
    refine ca_V (q0 := 0) (n := 1) (rest := []) (wr := []) F hK hE hA hP hD hS hl.1 (kX9_takes (l := l) (D := D) (cy := cy) (sa := sa) b0 0 tr bn bt bs bk bp bi bl it ub db bx tp nx tk pl vl fa bc bf nb ft i1 (by first | assumption | omega | decide)) gX9_stays_X9_takes rfl rfl rfl rfl rfl rfl (by decide +kernel) ⟨by decide, by decide⟩ [0, 1, 2] [] rfl rfl rfl rfl (by decide) rfl rfl (Nat.le_of_ble_eq_true rfl) dX9_stays_20 ⟨by decide, by decide⟩ (fun v9 u9 H locs hv hP hD hS => ?_)
    subst hv
    obtain ⟨hP, hD⟩ := re_ws (ws' := [(b0, .inr (9, [.int 0, .long tr, .ref bn, .ref bt, .ref bs, .ref bk, .ref bp, .ref bi, .ref bl, .int it, .int ub, .int db, .ref bx, .int tp, .int nx, .int tk, .int pl, .int vl, .int fa, .ref bc, .ref bf])), (bn, .inl (cy 0, 24, .inl (nbF nb))), (bt, .inl (cy 0, 6, .inl (nb i1)))]) hP hD [0, 1, 2] rfl rfl
    refine W.eq (g2 := F0 m 23 ls []) rfl ?_
    refine lv_aload_n hx hb dX9_stays_23 rfl (lv_at hl 0 rfl) ?_
    refine lv_iload_n hx hb dX9_stays_24 rfl (lv_at hl 2 rfl) ?_
    refine lv_iload_n hx hb dX9_stays_25 rfl (lv_at hl 3 rfl) ?_
    refine lv_iload hx hb dX9_stays_26 (lv_at hl 4 rfl) ?_
    refine ca_V (q0 := 0) (n := 3) (rest := []) (wr := [(bn, .inl (cy 0, 24, .inl (nbF nb)))]) F hK hE hA hP hD hS hl.1 (kX9_isUp (l := l) (D := D) (cy := cy) (sa := sa) b0 0 tr bn bt bs bk bp bi bl it ub db bx tp nx tk pl vl fa bc bf (nb i1) v k w) gX9_stays_X9_isUp rfl rfl rfl rfl rfl rfl (by decide +kernel) ⟨by decide, by decide⟩ [0, 2] [1] rfl rfl rfl rfl (by decide) rfl rfl (Nat.le_of_ble_eq_true rfl) dX9_stays_28 ⟨by decide, by decide⟩ (fun v9 u9 H locs hv hP hD hS => ?_)
    subst hv
    obtain ⟨hP, hD⟩ := re_ws (ws' := [(b0, .inr (9, [.int 0, .long tr, .ref bn, .ref bt, .ref bs, .ref bk, .ref bp, .ref bi, .ref bl, .int it, .int ub, .int db, .ref bx, .int tp, .int nx, .int tk, .int pl, .int vl, .int fa, .ref bc, .ref bf])), (bn, .inl (cy 0, 24, .inl (nbF nb))), (bt, .inl (cy 0, 6, .inl (nb i1)))]) hP hD [1, 0, 2] rfl rfl
    refine W.eq (g2 := F0 m 31 ls [.int (bI (upP (nb i1) v k w))]) rfl ?_
    refine bz_eq (tgt := 38) hx hb dX9_stays_31 (by decide) (fun c_31 => ?_) (fun c_31 => ?_)
    · refine lv_aload_n hx hb dX9_stays_38 rfl (lv_at hl 0 rfl) ?_
      refine lv_iload_n hx hb dX9_stays_39 rfl (lv_at hl 2 rfl) ?_
      refine lv_i2l (v := v.toInt64) hx hb dX9_stays_40 (rfl) ?_
      refine lv_iload_n hx hb dX9_stays_41 rfl (lv_at hl 3 rfl) ?_
      refine lv_i2l (v := k.toInt64) hx hb dX9_stays_42 (rfl) ?_
      refine lv_iload hx hb dX9_stays_43 (lv_at hl 4 rfl) ?_
      refine lv_i2l (v := w.toInt64) hx hb dX9_stays_45 (rfl) ?_
      refine lv_iconst (v := 0) hx hb dX9_stays_46 (by decide) ?_
      refine ca_V (q0 := 0) (n := 4) (rest := []) (wr := [(bn, .inl (cy 0, 24, .inl (nbF nb)))]) F hK hE hA hP hD hS hl.1 (kX9_signOf (l := l) (D := D) (cy := cy) (sa := sa) b0 0 tr bn bt bs bk bp bi bl it ub db bx tp nx tk pl vl fa bc bf (nb i1) v.toInt64 k.toInt64 w.toInt64 0) gX9_stays_X9_signOf rfl rfl rfl rfl rfl rfl (by decide +kernel) ⟨by decide, by decide⟩ [0, 2] [1] rfl rfl rfl rfl (by decide) rfl rfl (Nat.le_of_ble_eq_true rfl) dX9_stays_47 ⟨by decide, by decide⟩ (fun v9 u9 H locs hv hP hD hS => ?_)
      subst hv
      obtain ⟨hP, hD⟩ := re_ws (ws' := [(b0, .inr (9, [.int 0, .long tr, .ref bn, .ref bt, .ref bs, .ref bk, .ref bp, .ref bi, .ref bl, .int it, .int ub, .int db, .ref bx, .int tp, .int nx, .int tk, .int pl, .int vl, .int fa, .ref bc, .ref bf])), (bn, .inl (cy 0, 24, .inl (nbF nb))), (bt, .inl (cy 0, 6, .inl (nb i1)))]) hP hD [1, 0, 2] rfl rfl
      refine W.eq (g2 := F0 m 50 ls [.long (sgn (nb i1) v.toInt64 k.toInt64 w.toInt64 0)]) rfl ?_
      refine lv_eql (y := sg0 (nb i1) v.toInt64 k.toInt64) (rfl) ?_
      refine lv_lconst (v := 0) hx hb dX9_stays_50 (by decide) ?_
      refine W.lcmp hx hb dX9_stays_51 ?_
      refine lc_gt (tgt := 59) hx hb dX9_stays_52 (by decide) (fun c_52 => ?_) (fun c_52 => ?_)
      · refine lv_iconst (v := 2) hx hb dX9_stays_59 (by decide) ?_
        refine lv_eqi (y := r_stays nb (nI i1) v k w) (by rw [r_stays, if_pos c_13, cl_n (by omega), stN, if_neg c_31, if_neg (fun z => absurd c_52 (Int64.not_lt.mpr z))]) ?_
        exact RT _ _ ((nb i1)) H locs 60 ls (rt_i dX9_stays_60) rfl hP hD hS
      · refine lv_iconst (v := 1) hx hb dX9_stays_55 (by decide) ?_
        refine lv_goto (tgt := 60) hx hb dX9_stays_56 (by decide) ?_
        refine lv_eqi (y := r_stays nb (nI i1) v k w) (by rw [r_stays, if_pos c_13, cl_n (by omega), stN, if_neg c_31, if_pos (Int64.not_lt.mp c_52)]) ?_
        exact RT _ _ ((nb i1)) H locs 60 ls (rt_i dX9_stays_60) rfl hP hD hS
    · refine lv_iconst (v := 0) hx hb dX9_stays_34 (by decide) ?_
      refine lv_goto (tgt := 60) hx hb dX9_stays_35 (by decide) ?_
      refine lv_eqi (y := r_stays nb (nI i1) v k w) (by rw [r_stays, if_pos c_13, cl_n (by omega), stN, if_pos c_31]) ?_
      exact RT _ _ ((nb i1)) H locs 60 ls (rt_i dX9_stays_60) rfl hP hD hS
  · refine lv_iconst (v := (-1)) hx hb dX9_stays_16 (by decide) ?_
    refine lv_eqi (y := r_stays nb i v k w) ((if_neg c_13).symm) ?_
    exact RT _ _ (ft) H locs 17 ls (rt_i dX9_stays_17) rfl hP hD hS
abbrev rmkX9_range : Room := { frames := 3, cells := 0, slots := 0, locals := 86 }
set_option maxHeartbeats 4000000 in
set_option maxRecDepth 100000 in
theorem kX9_range {l : Launch} {D : va_G} {cy : Nat → ClassId} {sa : Nat → Nat} (b0 : Nat) (th : Int32) (tr : Int64) (bn : Nat) (bt : Nat) (bs : Nat) (bk : Nat) (bp : Nat) (bi : Nat) (bl : Nat) (it : Int32) (ub : Int32) (db : Int32) (bx : Nat) (tp : Int32) (nx : Int32) (tk : Int32) (pl : Int32) (vl : Int32) (fa : Int32) (bc : Nat) (bf : Nat) (nb : Nat → Nat → Int32) (ft : Nat → Int32) (i : Int32)  : CT (S := (Nat → Int32)) l D cy sa yX9_range wsX9_range rmkX9_range [.ref b0, .int i] [(b0, .inr (9, [.int th, .long tr, .ref bn, .ref bt, .ref bs, .ref bk, .ref bp, .ref bi, .ref bl, .int it, .int ub, .int db, .ref bx, .int tp, .int nx, .int tk, .int pl, .int vl, .int fa, .ref bc, .ref bf])), (bn, .inl (cy 0, 24, .inl (nbF nb))), (bt, .inl (cy 0, 6, .inl ft))] (fun v9 ft2 => v9 = some (.long (r_range nb i))) (fun ft2 => [(b0, .inr (9, [.int 0, .long tr, .ref bn, .ref bt, .ref bs, .ref bk, .ref bp, .ref bi, .ref bl, .int it, .int ub, .int db, .ref bx, .int tp, .int nx, .int tk, .int pl, .int vl, .int fa, .ref bc, .ref bf])), (bn, .inl (cy 0, 24, .inl (nbF nb))), (bt, .inl (cy 0, 6, .inl ft2))]) 0 0 := by
  refine CT.of cX9_range 2 (some .long) (by decide) rfl (Nat.le_of_ble_eq_true rfl) ?_
  intro p e s m args below meth c A Q ls F hmn hK hE hA hP hD hS hl RT
  obtain ⟨hx, hb, hml, hown, hts⟩ := id F
  have winX9 : ∀ w ∈ u_ws RX9 TX9 21, w ∈ wsX9_range := by decide +kernel
  have wf48 := hts (.fieldLink RX9 48 "SelfSteerModel" "thrown" "I") (by decide +kernel)
  have wl92 := hts (.constantLong RX9 92 (-1)) (by decide +kernel)
  have hl : lv_has ls 2 [(0, .ref b0), (1, .int i)] := hl
  have hP : va_P D vwCl [(b0, .inr (9, [.int th, .long tr, .ref bn, .ref bt, .ref bs, .ref bk, .ref bp, .ref bi, .ref bl, .int it, .int ub, .int db, .ref bx, .int tp, .int nx, .int tk, .int pl, .int vl, .int fa, .ref bc, .ref bf])), (bn, .inl (cy 0, 24, .inl (nbF nb))), (bt, .inl (cy 0, 6, .inl ft))] s.heap := hP
  have hD : va_D A [(b0, .inr (9, [.int th, .long tr, .ref bn, .ref bt, .ref bs, .ref bk, .ref bp, .ref bi, .ref bl, .int it, .int ub, .int db, .ref bx, .int tp, .int nx, .int tk, .int pl, .int vl, .int fa, .ref bc, .ref bf])), (bn, .inl (cy 0, 24, .inl (nbF nb))), (bt, .inl (cy 0, 6, .inl ft))] := hD
  obtain ⟨H, hH⟩ : ∃ H0 : Heap, H0 = s.heap := ⟨_, rfl⟩
  obtain ⟨locs, hlo⟩ : ∃ L0 : List Loc, L0 = [] := ⟨_, rfl⟩
  have hS : va_S A s.heap H locs := by rw [hH, hlo]; exact hS
  rw [← hH] at hP
  show W p l e rmkX9_range s m args below meth c s.heap [] 0 0 Q (F0 m 0 ls [])
  suffices hgo : W p l e rmkX9_range s m args below meth c H locs 0 0 Q (F0 m 0 ls []) by rw [hH, hlo] at hgo; exact hgo
  clear hH hlo
  refine lv_aload_n hx hb dX9_range_0 rfl (lv_at hl 0 rfl) ?_
  refine lv_iconst (v := 0) hx hb dX9_range_1 (by decide) ?_
  refine va_put (D := D) (ci := 9) (v := .int 0) (ty := .int) (C := RX9) (T := TX9) (N := 21) hx hb hts winX9 tyX9 tyX9_ok nmX9 hown hK hP hD hS 0 rfl rfl 0 (by decide) wf48 (fun _ h9 => h9) rfl (by decide +kernel) rfl rfl (Nat.le_of_ble_eq_true rfl) dX9_range_2 (fun H locs hP hD hS => ?_)
  have hP : va_P D vwCl [(b0, .inr (9, [.int 0, .long tr, .ref bn, .ref bt, .ref bs, .ref bk, .ref bp, .ref bi, .ref bl, .int it, .int ub, .int db, .ref bx, .int tp, .int nx, .int tk, .int pl, .int vl, .int fa, .ref bc, .ref bf])), (bn, .inl (cy 0, 24, .inl (nbF nb))), (bt, .inl (cy 0, 6, .inl ft))] H := hP
  have hD : va_D A [(b0, .inr (9, [.int 0, .long tr, .ref bn, .ref bt, .ref bs, .ref bk, .ref bp, .ref bi, .ref bl, .int it, .int ub, .int db, .ref bx, .int tp, .int nx, .int tk, .int pl, .int vl, .int fa, .ref bc, .ref bf])), (bn, .inl (cy 0, 24, .inl (nbF nb))), (bt, .inl (cy 0, 6, .inl ft))] := hD
  refine lv_iload_n hx hb dX9_range_5 rfl (lv_at hl 1 rfl) ?_
  refine ca_S (n := 1) (rest := []) (wr := [(b0, .inr (9, [.int 0, .long tr, .ref bn, .ref bt, .ref bs, .ref bk, .ref bp, .ref bi, .ref bl, .int it, .int ub, .int db, .ref bx, .int tp, .int nx, .int tk, .int pl, .int vl, .int fa, .ref bc, .ref bf])), (bn, .inl (cy 0, 24, .inl (nbF nb))), (bt, .inl (cy 0, 6, .inl ft))]) F hK hE hA hP hD hS hl.1 (kX9_isBicycle (l := l) (D := D) (cy := cy) (sa := sa) i) gX9_range_X9_isBicycle rfl rfl rfl (by decide +kernel) ⟨by decide, by decide⟩ [] [0, 1, 2] rfl rfl rfl rfl (by decide) rfl rfl (Nat.le_of_ble_eq_true rfl) dX9_range_6 ⟨by decide, by decide⟩ (fun v9 u9 H locs hv hP hD hS => ?_)
  subst hv
  have hP : va_P D vwCl [(b0, .inr (9, [.int 0, .long tr, .ref bn, .ref bt, .ref bs, .ref bk, .ref bp, .ref bi, .ref bl, .int it, .int ub, .int db, .ref bx, .int tp, .int nx, .int tk, .int pl, .int vl, .int fa, .ref bc, .ref bf])), (bn, .inl (cy 0, 24, .inl (nbF nb))), (bt, .inl (cy 0, 6, .inl ft))] H := hP
  have hD : va_D A [(b0, .inr (9, [.int 0, .long tr, .ref bn, .ref bt, .ref bs, .ref bk, .ref bp, .ref bi, .ref bl, .int it, .int ub, .int db, .ref bx, .int tp, .int nx, .int tk, .int pl, .int vl, .int fa, .ref bc, .ref bf])), (bn, .inl (cy 0, 24, .inl (nbF nb))), (bt, .inl (cy 0, 6, .inl ft))] := hD
  refine W.eq (g2 := F0 m 9 ls [.int (bI (inR i 0 3))]) rfl ?_
  refine bz_ne (tgt := 16) hx hb dX9_range_9 (by decide) (fun c_9 => ?_) (fun c_9 => ?_)
  · obtain ⟨i1, hi1, rfl⟩ := inR_n 3 (by decide) rfl c_9
    refine lv_aload_n hx hb dX9_range_16 rfl (lv_at hl 0 rfl) ?_
    refine lv_iload_n hx hb dX9_range_17 rfl (lv_at hl 1 rfl) ?_
    refine ca_V (q0 := 0) (n := 1) (rest := []) (wr := []) F hK hE hA hP hD hS hl.1 (kX9_takes (l := l) (D := D) (cy := cy) (sa := sa) b0 0 tr bn bt bs bk bp bi bl it ub db bx tp nx tk pl vl fa bc bf nb ft i1 (by first | assumption | omega | decide)) gX9_range_X9_takes rfl rfl rfl rfl rfl rfl (by decide +kernel) ⟨by decide, by decide⟩ [0, 1, 2] [] rfl rfl rfl rfl (by decide) rfl rfl (Nat.le_of_ble_eq_true rfl) dX9_range_18 ⟨by decide, by decide⟩ (fun v9 u9 H locs hv hP hD hS => ?_)
    subst hv
    obtain ⟨hP, hD⟩ := re_ws (ws' := [(b0, .inr (9, [.int 0, .long tr, .ref bn, .ref bt, .ref bs, .ref bk, .ref bp, .ref bi, .ref bl, .int it, .int ub, .int db, .ref bx, .int tp, .int nx, .int tk, .int pl, .int vl, .int fa, .ref bc, .ref bf])), (bn, .inl (cy 0, 24, .inl (nbF nb))), (bt, .inl (cy 0, 6, .inl (nb i1)))]) hP hD [0, 1, 2] rfl rfl
    refine W.eq (g2 := F0 m 21 ls []) rfl ?_
    refine lv_aload_n hx hb dX9_range_21 rfl (lv_at hl 0 rfl) ?_
    refine ca_V (q0 := 0) (n := 0) (rest := []) (wr := [(bn, .inl (cy 0, 24, .inl (nbF nb)))]) F hK hE hA hP hD hS hl.1 (kX9_speeds (l := l) (D := D) (cy := cy) (sa := sa) b0 0 tr bn bt bs bk bp bi bl it ub db bx tp nx tk pl vl fa bc bf (nb i1)) gX9_range_X9_speeds rfl rfl rfl rfl rfl rfl (by decide +kernel) ⟨by decide, by decide⟩ [0, 2] [1] rfl rfl rfl rfl (by decide) rfl rfl (Nat.le_of_ble_eq_true rfl) dX9_range_22 ⟨by decide, by decide⟩ (fun v9 u9 H locs hv hP hD hS => ?_)
    subst hv
    obtain ⟨hP, hD⟩ := re_ws (ws' := [(b0, .inr (9, [.int 0, .long tr, .ref bn, .ref bt, .ref bs, .ref bk, .ref bp, .ref bi, .ref bl, .int it, .int ub, .int db, .ref bx, .int tp, .int nx, .int tk, .int pl, .int vl, .int fa, .ref bc, .ref bf])), (bn, .inl (cy 0, 24, .inl (nbF nb))), (bt, .inl (cy 0, 6, .inl (nb i1)))]) hP hD [1, 0, 2] rfl rfl
    refine W.eq (g2 := F0 m 25 ls [.long (rg (nb i1) 41)]) rfl ?_
    refine lv_eql (y := r_range nb (nI i1)) (by rw [r_range, if_pos c_9, cl_n (by omega)]) ?_
    exact RT _ _ ((nb i1)) H locs 25 ls (rt_l dX9_range_25) rfl hP hD hS
  · refine lv_ldc2 (v := (-1)) hx hb hown wl92 dX9_range_12 ?_
    refine lv_eql (y := r_range nb i) ((if_neg c_9).symm) ?_
    exact RT _ _ (ft) H locs 15 ls (rt_l dX9_range_15) rfl hP hD hS
abbrev rmkX9_rangeWithout : Room := { frames := 3, cells := 0, slots := 0, locals := 86 }
set_option maxHeartbeats 4000000 in
set_option maxRecDepth 100000 in
theorem kX9_rangeWithout {l : Launch} {D : va_G} {cy : Nat → ClassId} {sa : Nat → Nat} (b0 : Nat) (th : Int32) (tr : Int64) (bn : Nat) (bt : Nat) (bs : Nat) (bk : Nat) (bp : Nat) (bi : Nat) (bl : Nat) (it : Int32) (ub : Int32) (db : Int32) (bx : Nat) (tp : Int32) (nx : Int32) (tk : Int32) (pl : Int32) (vl : Int32) (fa : Int32) (bc : Nat) (bf : Nat) (nb : Nat → Nat → Int32) (ft : Nat → Int32) (i : Nat) (k : Nat) (hi : i < 4) (hk : k < 6) : CD l D cy sa yX9_rangeWithout wsX9_rangeWithout rmkX9_rangeWithout [.ref b0, .int (nI i), .int (nI k)] [(b0, .inr (9, [.int th, .long tr, .ref bn, .ref bt, .ref bs, .ref bk, .ref bp, .ref bi, .ref bl, .int it, .int ub, .int db, .ref bx, .int tp, .int nx, .int tk, .int pl, .int vl, .int fa, .ref bc, .ref bf])), (bn, .inl (cy 0, 24, .inl (nbF nb))), (bt, .inl (cy 0, 6, .inl ft))] (some (.long (rg (upd (nb i) k 0) 41))) [(b0, .inr (9, [.int th, .long tr, .ref bn, .ref bt, .ref bs, .ref bk, .ref bp, .ref bi, .ref bl, .int it, .int ub, .int db, .ref bx, .int tp, .int nx, .int tk, .int pl, .int vl, .int fa, .ref bc, .ref bf])), (bn, .inl (cy 0, 24, .inl (nbF nb))), (bt, .inl (cy 0, 6, .inl (upd (nb i) k 0)))] := by
  refine CT.of cX9_rangeWithout 3 (some .long) (by decide) rfl (Nat.le_of_ble_eq_true rfl) ?_
  intro p e s m args below meth c A Q ls F hmn hK hE hA hP hD hS hl RT
  obtain ⟨hx, hb, hml, hown, hts⟩ := id F
  have winX9 : ∀ w ∈ u_ws RX9 TX9 21, w ∈ wsX9_rangeWithout := by decide +kernel
  have wf13 := hts (.fieldLink RX9 13 "SelfSteerModel" "tried" "[I") (by decide +kernel)
  have hl : lv_has ls 3 [(0, .ref b0), (1, .int (nI i)), (2, .int (nI k))] := hl
  have hP : va_P D vwCl [(b0, .inr (9, [.int th, .long tr, .ref bn, .ref bt, .ref bs, .ref bk, .ref bp, .ref bi, .ref bl, .int it, .int ub, .int db, .ref bx, .int tp, .int nx, .int tk, .int pl, .int vl, .int fa, .ref bc, .ref bf])), (bn, .inl (cy 0, 24, .inl (nbF nb))), (bt, .inl (cy 0, 6, .inl ft))] s.heap := hP
  have hD : va_D A [(b0, .inr (9, [.int th, .long tr, .ref bn, .ref bt, .ref bs, .ref bk, .ref bp, .ref bi, .ref bl, .int it, .int ub, .int db, .ref bx, .int tp, .int nx, .int tk, .int pl, .int vl, .int fa, .ref bc, .ref bf])), (bn, .inl (cy 0, 24, .inl (nbF nb))), (bt, .inl (cy 0, 6, .inl ft))] := hD
  obtain ⟨H, hH⟩ : ∃ H0 : Heap, H0 = s.heap := ⟨_, rfl⟩
  obtain ⟨locs, hlo⟩ : ∃ L0 : List Loc, L0 = [] := ⟨_, rfl⟩
  have hS : va_S A s.heap H locs := by rw [hH, hlo]; exact hS
  rw [← hH] at hP
  show W p l e rmkX9_rangeWithout s m args below meth c s.heap [] 0 0 Q (F0 m 0 ls [])
  suffices hgo : W p l e rmkX9_rangeWithout s m args below meth c H locs 0 0 Q (F0 m 0 ls []) by rw [hH, hlo] at hgo; exact hgo
  clear hH hlo
  refine lv_aload_n hx hb dX9_rangeWithout_0 rfl (lv_at hl 0 rfl) ?_
  refine lv_iload_n hx hb dX9_rangeWithout_1 rfl (lv_at hl 1 rfl) ?_
  refine ca_V (q0 := 0) (n := 1) (rest := []) (wr := []) F hK hE hA hP hD hS hl.1 (kX9_takes (l := l) (D := D) (cy := cy) (sa := sa) b0 th tr bn bt bs bk bp bi bl it ub db bx tp nx tk pl vl fa bc bf nb ft i (by first | assumption | omega | decide)) gX9_rangeWithout_X9_takes rfl rfl rfl rfl rfl rfl (by decide +kernel) ⟨by decide, by decide⟩ [0, 1, 2] [] rfl rfl rfl rfl (by decide) rfl rfl (Nat.le_of_ble_eq_true rfl) dX9_rangeWithout_2 ⟨by decide, by decide⟩ (fun v9 u9 H locs hv hP hD hS => ?_)
  subst hv
  obtain ⟨hP, hD⟩ := re_ws (ws' := [(b0, .inr (9, [.int th, .long tr, .ref bn, .ref bt, .ref bs, .ref bk, .ref bp, .ref bi, .ref bl, .int it, .int ub, .int db, .ref bx, .int tp, .int nx, .int tk, .int pl, .int vl, .int fa, .ref bc, .ref bf])), (bn, .inl (cy 0, 24, .inl (nbF nb))), (bt, .inl (cy 0, 6, .inl (nb i)))]) hP hD [0, 1, 2] rfl rfl
  refine W.eq (g2 := F0 m 5 ls []) rfl ?_
  refine lv_aload_n hx hb dX9_rangeWithout_5 rfl (lv_at hl 0 rfl) ?_
  refine va_get (D := D) (ci := 9) (v := .ref bt) (C := RX9) (T := TX9) (N := 21) hx hb hts winX9 hown hK hP 0 rfl rfl 3 (by decide) wf13 (fun _ h9 => h9) rfl dX9_rangeWithout_6 ?_
  refine lv_iload_n hx hb dX9_rangeWithout_9 rfl (lv_at hl 2 rfl) ?_
  refine lv_iconst (v := 0) hx hb dX9_rangeWithout_10 (by decide) ?_
  refine as_i (x := 0) hx hb hK hP hD hS 2 rfl k (rfl) (by omega) (by decide) dX9_rangeWithout_11 (fun H locs hP hD hS => ?_)
  have hP : va_P D vwCl [(b0, .inr (9, [.int th, .long tr, .ref bn, .ref bt, .ref bs, .ref bk, .ref bp, .ref bi, .ref bl, .int it, .int ub, .int db, .ref bx, .int tp, .int nx, .int tk, .int pl, .int vl, .int fa, .ref bc, .ref bf])), (bn, .inl (cy 0, 24, .inl (nbF nb))), (bt, .inl (cy 0, 6, .inl (upd (nb i) k 0)))] H := hP
  have hD : va_D A [(b0, .inr (9, [.int th, .long tr, .ref bn, .ref bt, .ref bs, .ref bk, .ref bp, .ref bi, .ref bl, .int it, .int ub, .int db, .ref bx, .int tp, .int nx, .int tk, .int pl, .int vl, .int fa, .ref bc, .ref bf])), (bn, .inl (cy 0, 24, .inl (nbF nb))), (bt, .inl (cy 0, 6, .inl (upd (nb i) k 0)))] := hD
  refine lv_aload_n hx hb dX9_rangeWithout_12 rfl (lv_at hl 0 rfl) ?_
  refine ca_V (q0 := 0) (n := 0) (rest := []) (wr := [(bn, .inl (cy 0, 24, .inl (nbF nb)))]) F hK hE hA hP hD hS hl.1 (kX9_speeds (l := l) (D := D) (cy := cy) (sa := sa) b0 th tr bn bt bs bk bp bi bl it ub db bx tp nx tk pl vl fa bc bf (upd (nb i) k 0)) gX9_rangeWithout_X9_speeds rfl rfl rfl rfl rfl rfl (by decide +kernel) ⟨by decide, by decide⟩ [0, 2] [1] rfl rfl rfl rfl (by decide) rfl rfl (Nat.le_of_ble_eq_true rfl) dX9_rangeWithout_13 ⟨by decide, by decide⟩ (fun v9 u9 H locs hv hP hD hS => ?_)
  subst hv
  obtain ⟨hP, hD⟩ := re_ws (ws' := [(b0, .inr (9, [.int th, .long tr, .ref bn, .ref bt, .ref bs, .ref bk, .ref bp, .ref bi, .ref bl, .int it, .int ub, .int db, .ref bx, .int tp, .int nx, .int tk, .int pl, .int vl, .int fa, .ref bc, .ref bf])), (bn, .inl (cy 0, 24, .inl (nbF nb))), (bt, .inl (cy 0, 6, .inl (upd (nb i) k 0)))]) hP hD [1, 0, 2] rfl rfl
  refine W.eq (g2 := F0 m 16 ls [.long (rg (upd (nb i) k 0) 41)]) rfl ?_
  exact RT _ _ () H locs 16 ls (rt_l dX9_rangeWithout_16) rfl hP hD hS
abbrev rmkX9_without : Room := { frames := 4, cells := 0, slots := 0, locals := 108 }
set_option maxHeartbeats 4000000 in
set_option maxRecDepth 100000 in
theorem kX9_without {l : Launch} {D : va_G} {cy : Nat → ClassId} {sa : Nat → Nat} (b0 : Nat) (th : Int32) (tr : Int64) (bn : Nat) (bt : Nat) (bs : Nat) (bk : Nat) (bp : Nat) (bi : Nat) (bl : Nat) (it : Int32) (ub : Int32) (db : Int32) (bx : Nat) (tp : Int32) (nx : Int32) (tk : Int32) (pl : Int32) (vl : Int32) (fa : Int32) (bc : Nat) (bf : Nat) (nb : Nat → Nat → Int32) (ft : Nat → Int32) (i : Int32) (k : Int32)  : CT (S := (Nat → Int32)) l D cy sa yX9_without wsX9_without rmkX9_without [.ref b0, .int i, .int k] [(b0, .inr (9, [.int th, .long tr, .ref bn, .ref bt, .ref bs, .ref bk, .ref bp, .ref bi, .ref bl, .int it, .int ub, .int db, .ref bx, .int tp, .int nx, .int tk, .int pl, .int vl, .int fa, .ref bc, .ref bf])), (bn, .inl (cy 0, 24, .inl (nbF nb))), (bt, .inl (cy 0, 6, .inl ft))] (fun v9 ft2 => v9 = some (.long (r_without nb i k))) (fun ft2 => [(b0, .inr (9, [.int 0, .long tr, .ref bn, .ref bt, .ref bs, .ref bk, .ref bp, .ref bi, .ref bl, .int it, .int ub, .int db, .ref bx, .int tp, .int nx, .int tk, .int pl, .int vl, .int fa, .ref bc, .ref bf])), (bn, .inl (cy 0, 24, .inl (nbF nb))), (bt, .inl (cy 0, 6, .inl ft2))]) 0 0 := by
  refine CT.of cX9_without 3 (some .long) (by decide) rfl (Nat.le_of_ble_eq_true rfl) ?_
  intro p e s m args below meth c A Q ls F hmn hK hE hA hP hD hS hl RT
  obtain ⟨hx, hb, hml, hown, hts⟩ := id F
  have winX9 : ∀ w ∈ u_ws RX9 TX9 21, w ∈ wsX9_without := by decide +kernel
  have wf48 := hts (.fieldLink RX9 48 "SelfSteerModel" "thrown" "I") (by decide +kernel)
  have wl92 := hts (.constantLong RX9 92 (-1)) (by decide +kernel)
  have hl : lv_has ls 3 [(0, .ref b0), (1, .int i), (2, .int k)] := hl
  have hP : va_P D vwCl [(b0, .inr (9, [.int th, .long tr, .ref bn, .ref bt, .ref bs, .ref bk, .ref bp, .ref bi, .ref bl, .int it, .int ub, .int db, .ref bx, .int tp, .int nx, .int tk, .int pl, .int vl, .int fa, .ref bc, .ref bf])), (bn, .inl (cy 0, 24, .inl (nbF nb))), (bt, .inl (cy 0, 6, .inl ft))] s.heap := hP
  have hD : va_D A [(b0, .inr (9, [.int th, .long tr, .ref bn, .ref bt, .ref bs, .ref bk, .ref bp, .ref bi, .ref bl, .int it, .int ub, .int db, .ref bx, .int tp, .int nx, .int tk, .int pl, .int vl, .int fa, .ref bc, .ref bf])), (bn, .inl (cy 0, 24, .inl (nbF nb))), (bt, .inl (cy 0, 6, .inl ft))] := hD
  obtain ⟨H, hH⟩ : ∃ H0 : Heap, H0 = s.heap := ⟨_, rfl⟩
  obtain ⟨locs, hlo⟩ : ∃ L0 : List Loc, L0 = [] := ⟨_, rfl⟩
  have hS : va_S A s.heap H locs := by rw [hH, hlo]; exact hS
  rw [← hH] at hP
  show W p l e rmkX9_without s m args below meth c s.heap [] 0 0 Q (F0 m 0 ls [])
  suffices hgo : W p l e rmkX9_without s m args below meth c H locs 0 0 Q (F0 m 0 ls []) by rw [hH, hlo] at hgo; exact hgo
  clear hH hlo
  refine lv_aload_n hx hb dX9_without_0 rfl (lv_at hl 0 rfl) ?_
  refine lv_iconst (v := 0) hx hb dX9_without_1 (by decide) ?_
  refine va_put (D := D) (ci := 9) (v := .int 0) (ty := .int) (C := RX9) (T := TX9) (N := 21) hx hb hts winX9 tyX9 tyX9_ok nmX9 hown hK hP hD hS 0 rfl rfl 0 (by decide) wf48 (fun _ h9 => h9) rfl (by decide +kernel) rfl rfl (Nat.le_of_ble_eq_true rfl) dX9_without_2 (fun H locs hP hD hS => ?_)
  have hP : va_P D vwCl [(b0, .inr (9, [.int 0, .long tr, .ref bn, .ref bt, .ref bs, .ref bk, .ref bp, .ref bi, .ref bl, .int it, .int ub, .int db, .ref bx, .int tp, .int nx, .int tk, .int pl, .int vl, .int fa, .ref bc, .ref bf])), (bn, .inl (cy 0, 24, .inl (nbF nb))), (bt, .inl (cy 0, 6, .inl ft))] H := hP
  have hD : va_D A [(b0, .inr (9, [.int 0, .long tr, .ref bn, .ref bt, .ref bs, .ref bk, .ref bp, .ref bi, .ref bl, .int it, .int ub, .int db, .ref bx, .int tp, .int nx, .int tk, .int pl, .int vl, .int fa, .ref bc, .ref bf])), (bn, .inl (cy 0, 24, .inl (nbF nb))), (bt, .inl (cy 0, 6, .inl ft))] := hD
  refine lv_iload_n hx hb dX9_without_5 rfl (lv_at hl 1 rfl) ?_
  refine ca_S (n := 1) (rest := []) (wr := [(b0, .inr (9, [.int 0, .long tr, .ref bn, .ref bt, .ref bs, .ref bk, .ref bp, .ref bi, .ref bl, .int it, .int ub, .int db, .ref bx, .int tp, .int nx, .int tk, .int pl, .int vl, .int fa, .ref bc, .ref bf])), (bn, .inl (cy 0, 24, .inl (nbF nb))), (bt, .inl (cy 0, 6, .inl ft))]) F hK hE hA hP hD hS hl.1 (kX9_isBicycle (l := l) (D := D) (cy := cy) (sa := sa) i) gX9_without_X9_isBicycle rfl rfl rfl (by decide +kernel) ⟨by decide, by decide⟩ [] [0, 1, 2] rfl rfl rfl rfl (by decide) rfl rfl (Nat.le_of_ble_eq_true rfl) dX9_without_6 ⟨by decide, by decide⟩ (fun v9 u9 H locs hv hP hD hS => ?_)
  subst hv
  have hP : va_P D vwCl [(b0, .inr (9, [.int 0, .long tr, .ref bn, .ref bt, .ref bs, .ref bk, .ref bp, .ref bi, .ref bl, .int it, .int ub, .int db, .ref bx, .int tp, .int nx, .int tk, .int pl, .int vl, .int fa, .ref bc, .ref bf])), (bn, .inl (cy 0, 24, .inl (nbF nb))), (bt, .inl (cy 0, 6, .inl ft))] H := hP
  have hD : va_D A [(b0, .inr (9, [.int 0, .long tr, .ref bn, .ref bt, .ref bs, .ref bk, .ref bp, .ref bi, .ref bl, .int it, .int ub, .int db, .ref bx, .int tp, .int nx, .int tk, .int pl, .int vl, .int fa, .ref bc, .ref bf])), (bn, .inl (cy 0, 24, .inl (nbF nb))), (bt, .inl (cy 0, 6, .inl ft))] := hD
  refine W.eq (g2 := F0 m 9 ls [.int (bI (inR i 0 3))]) rfl ?_
  refine bz_eq (tgt := 30) hx hb dX9_without_9 (by decide) (fun c_9 => ?_) (fun c_9 => ?_)
  · refine lv_ldc2 (v := (-1)) hx hb hown wl92 dX9_without_30 ?_
    have hno : ¬ (inR i 0 3 ∧ inR k 0 2) := by first | exact fun z => c_9 z.1 | exact fun z => c_18 z.2
    refine lv_eql (y := r_without nb i k) ((if_neg hno).symm) ?_
    exact RT _ _ (ft) H locs 33 ls (rt_l dX9_without_33) rfl hP hD hS
  · obtain ⟨i1, hi1, rfl⟩ := inR_n 3 (by decide) rfl c_9
    refine lv_iload_n hx hb dX9_without_12 rfl (lv_at hl 2 rfl) ?_
    refine lv_iconst (v := 0) hx hb dX9_without_13 (by decide) ?_
    refine lv_iconst (v := 2) hx hb dX9_without_14 (by decide) ?_
    refine ca_S (n := 3) (rest := []) (wr := [(b0, .inr (9, [.int 0, .long tr, .ref bn, .ref bt, .ref bs, .ref bk, .ref bp, .ref bi, .ref bl, .int it, .int ub, .int db, .ref bx, .int tp, .int nx, .int tk, .int pl, .int vl, .int fa, .ref bc, .ref bf])), (bn, .inl (cy 0, 24, .inl (nbF nb))), (bt, .inl (cy 0, 6, .inl ft))]) F hK hE hA hP hD hS hl.1 (kX9_in (l := l) (D := D) (cy := cy) (sa := sa) k 0 2) gX9_without_X9_in rfl rfl rfl (by decide +kernel) ⟨by decide, by decide⟩ [] [0, 1, 2] rfl rfl rfl rfl (by decide) rfl rfl (Nat.le_of_ble_eq_true rfl) dX9_without_15 ⟨by decide, by decide⟩ (fun v9 u9 H locs hv hP hD hS => ?_)
    subst hv
    have hP : va_P D vwCl [(b0, .inr (9, [.int 0, .long tr, .ref bn, .ref bt, .ref bs, .ref bk, .ref bp, .ref bi, .ref bl, .int it, .int ub, .int db, .ref bx, .int tp, .int nx, .int tk, .int pl, .int vl, .int fa, .ref bc, .ref bf])), (bn, .inl (cy 0, 24, .inl (nbF nb))), (bt, .inl (cy 0, 6, .inl ft))] H := hP
    have hD : va_D A [(b0, .inr (9, [.int 0, .long tr, .ref bn, .ref bt, .ref bs, .ref bk, .ref bp, .ref bi, .ref bl, .int it, .int ub, .int db, .ref bx, .int tp, .int nx, .int tk, .int pl, .int vl, .int fa, .ref bc, .ref bf])), (bn, .inl (cy 0, 24, .inl (nbF nb))), (bt, .inl (cy 0, 6, .inl ft))] := hD
    refine W.eq (g2 := F0 m 18 ls [.int (bI (inR k 0 2))]) rfl ?_
    refine bz_eq (tgt := 30) hx hb dX9_without_18 (by decide) (fun c_18 => ?_) (fun c_18 => ?_)
    · refine lv_ldc2 (v := (-1)) hx hb hown wl92 dX9_without_30 ?_
      have hno : ¬ (inR (nI i1) 0 3 ∧ inR k 0 2) := by first | exact fun z => c_9 z.1 | exact fun z => c_18 z.2
      refine lv_eql (y := r_without nb (nI i1) k) ((if_neg hno).symm) ?_
      exact RT _ _ (ft) H locs 33 ls (rt_l dX9_without_33) rfl hP hD hS
    · obtain ⟨k1, hk1, rfl⟩ := inR_n 2 (by decide) rfl c_18
      refine lv_aload_n hx hb dX9_without_21 rfl (lv_at hl 0 rfl) ?_
      refine lv_iload_n hx hb dX9_without_22 rfl (lv_at hl 1 rfl) ?_
      refine lv_iload_n hx hb dX9_without_23 rfl (lv_at hl 2 rfl) ?_
      refine ca_V (q0 := 0) (n := 2) (rest := []) (wr := []) F hK hE hA hP hD hS hl.1 (kX9_rangeWithout (l := l) (D := D) (cy := cy) (sa := sa) b0 0 tr bn bt bs bk bp bi bl it ub db bx tp nx tk pl vl fa bc bf nb ft i1 k1 (by first | assumption | omega | decide) (by first | assumption | omega | decide)) gX9_without_X9_rangeWithout rfl rfl rfl rfl rfl rfl (by decide +kernel) ⟨by decide, by decide⟩ [0, 1, 2] [] rfl rfl rfl rfl (by decide) rfl rfl (Nat.le_of_ble_eq_true rfl) dX9_without_24 ⟨by decide, by decide⟩ (fun v9 u9 H locs hv hP hD hS => ?_)
      subst hv
      obtain ⟨hP, hD⟩ := re_ws (ws' := [(b0, .inr (9, [.int 0, .long tr, .ref bn, .ref bt, .ref bs, .ref bk, .ref bp, .ref bi, .ref bl, .int it, .int ub, .int db, .ref bx, .int tp, .int nx, .int tk, .int pl, .int vl, .int fa, .ref bc, .ref bf])), (bn, .inl (cy 0, 24, .inl (nbF nb))), (bt, .inl (cy 0, 6, .inl (upd (nb i1) k1 0)))]) hP hD [0, 1, 2] rfl rfl
      refine W.eq (g2 := F0 m 27 ls [.long (rg (upd (nb i1) k1 0) 41)]) rfl ?_
      refine lv_goto (tgt := 33) hx hb dX9_without_27 (by decide) ?_
      refine lv_eql (y := r_without nb (nI i1) (nI k1)) (by rw [r_without, if_pos ⟨c_9, c_18⟩, cl_n (by omega), cl_n (by omega)]) ?_
      exact RT _ _ (upd (nb i1) k1 0) H locs 33 ls (rt_l dX9_without_33) rfl hP hD hS
abbrev rmkX9_moves : Room := { frames := 3, cells := 0, slots := 0, locals := 85 }
set_option maxHeartbeats 4000000 in
set_option maxRecDepth 100000 in
theorem kX9_moves {l : Launch} {D : va_G} {cy : Nat → ClassId} {sa : Nat → Nat} (b0 : Nat) (th : Int32) (tr : Int64) (bn : Nat) (bt : Nat) (bs : Nat) (bk : Nat) (bp : Nat) (bi : Nat) (bl : Nat) (it : Int32) (ub : Int32) (db : Int32) (bx : Nat) (tp : Int32) (nx : Int32) (tk : Int32) (pl : Int32) (vl : Int32) (fa : Int32) (bc : Nat) (bf : Nat) (nb : Nat → Nat → Int32) (ft : Nat → Int32) (i : Int32) (k : Int32) (u : Int32)  : CT (S := (Nat → Int32)) l D cy sa yX9_moves wsX9_moves rmkX9_moves [.ref b0, .int i, .int k, .int u] [(b0, .inr (9, [.int th, .long tr, .ref bn, .ref bt, .ref bs, .ref bk, .ref bp, .ref bi, .ref bl, .int it, .int ub, .int db, .ref bx, .int tp, .int nx, .int tk, .int pl, .int vl, .int fa, .ref bc, .ref bf])), (bn, .inl (cy 0, 24, .inl (nbF nb))), (bt, .inl (cy 0, 6, .inl ft))] (fun v9 ft2 => v9 = some (.int (r_moves nb i k u))) (fun ft2 => [(b0, .inr (9, [.int 0, .long tr, .ref bn, .ref bt, .ref bs, .ref bk, .ref bp, .ref bi, .ref bl, .int it, .int ub, .int db, .ref bx, .int tp, .int nx, .int tk, .int pl, .int vl, .int fa, .ref bc, .ref bf])), (bn, .inl (cy 0, 24, .inl (nbF nb))), (bt, .inl (cy 0, 6, .inl ft2))]) 0 0 := by
  refine CT.of cX9_moves 5 (some .int) (by decide) rfl (Nat.le_of_ble_eq_true rfl) ?_
  intro p e s m args below meth c A Q ls F hmn hK hE hA hP hD hS hl RT
  obtain ⟨hx, hb, hml, hown, hts⟩ := id F
  have winX9 : ∀ w ∈ u_ws RX9 TX9 21, w ∈ wsX9_moves := by decide +kernel
  have wf48 := hts (.fieldLink RX9 48 "SelfSteerModel" "thrown" "I") (by decide +kernel)
  have wc70 := hts (.constant RX9 70 (-1000000)) (by decide +kernel)
  have wf13 := hts (.fieldLink RX9 13 "SelfSteerModel" "tried" "[I") (by decide +kernel)
  have hl : lv_has ls 5 [(0, .ref b0), (1, .int i), (2, .int k), (3, .int u)] := hl
  have hP : va_P D vwCl [(b0, .inr (9, [.int th, .long tr, .ref bn, .ref bt, .ref bs, .ref bk, .ref bp, .ref bi, .ref bl, .int it, .int ub, .int db, .ref bx, .int tp, .int nx, .int tk, .int pl, .int vl, .int fa, .ref bc, .ref bf])), (bn, .inl (cy 0, 24, .inl (nbF nb))), (bt, .inl (cy 0, 6, .inl ft))] s.heap := hP
  have hD : va_D A [(b0, .inr (9, [.int th, .long tr, .ref bn, .ref bt, .ref bs, .ref bk, .ref bp, .ref bi, .ref bl, .int it, .int ub, .int db, .ref bx, .int tp, .int nx, .int tk, .int pl, .int vl, .int fa, .ref bc, .ref bf])), (bn, .inl (cy 0, 24, .inl (nbF nb))), (bt, .inl (cy 0, 6, .inl ft))] := hD
  obtain ⟨H, hH⟩ : ∃ H0 : Heap, H0 = s.heap := ⟨_, rfl⟩
  obtain ⟨locs, hlo⟩ : ∃ L0 : List Loc, L0 = [] := ⟨_, rfl⟩
  have hS : va_S A s.heap H locs := by rw [hH, hlo]; exact hS
  rw [← hH] at hP
  show W p l e rmkX9_moves s m args below meth c s.heap [] 0 0 Q (F0 m 0 ls [])
  suffices hgo : W p l e rmkX9_moves s m args below meth c H locs 0 0 Q (F0 m 0 ls []) by rw [hH, hlo] at hgo; exact hgo
  clear hH hlo
  refine lv_aload_n hx hb dX9_moves_0 rfl (lv_at hl 0 rfl) ?_
  refine lv_iconst (v := 0) hx hb dX9_moves_1 (by decide) ?_
  refine va_put (D := D) (ci := 9) (v := .int 0) (ty := .int) (C := RX9) (T := TX9) (N := 21) hx hb hts winX9 tyX9 tyX9_ok nmX9 hown hK hP hD hS 0 rfl rfl 0 (by decide) wf48 (fun _ h9 => h9) rfl (by decide +kernel) rfl rfl (Nat.le_of_ble_eq_true rfl) dX9_moves_2 (fun H locs hP hD hS => ?_)
  have hP : va_P D vwCl [(b0, .inr (9, [.int 0, .long tr, .ref bn, .ref bt, .ref bs, .ref bk, .ref bp, .ref bi, .ref bl, .int it, .int ub, .int db, .ref bx, .int tp, .int nx, .int tk, .int pl, .int vl, .int fa, .ref bc, .ref bf])), (bn, .inl (cy 0, 24, .inl (nbF nb))), (bt, .inl (cy 0, 6, .inl ft))] H := hP
  have hD : va_D A [(b0, .inr (9, [.int 0, .long tr, .ref bn, .ref bt, .ref bs, .ref bk, .ref bp, .ref bi, .ref bl, .int it, .int ub, .int db, .ref bx, .int tp, .int nx, .int tk, .int pl, .int vl, .int fa, .ref bc, .ref bf])), (bn, .inl (cy 0, 24, .inl (nbF nb))), (bt, .inl (cy 0, 6, .inl ft))] := hD
  refine lv_iload_n hx hb dX9_moves_5 rfl (lv_at hl 1 rfl) ?_
  refine ca_S (n := 1) (rest := []) (wr := [(b0, .inr (9, [.int 0, .long tr, .ref bn, .ref bt, .ref bs, .ref bk, .ref bp, .ref bi, .ref bl, .int it, .int ub, .int db, .ref bx, .int tp, .int nx, .int tk, .int pl, .int vl, .int fa, .ref bc, .ref bf])), (bn, .inl (cy 0, 24, .inl (nbF nb))), (bt, .inl (cy 0, 6, .inl ft))]) F hK hE hA hP hD hS hl.1 (kX9_isBicycle (l := l) (D := D) (cy := cy) (sa := sa) i) gX9_moves_X9_isBicycle rfl rfl rfl (by decide +kernel) ⟨by decide, by decide⟩ [] [0, 1, 2] rfl rfl rfl rfl (by decide) rfl rfl (Nat.le_of_ble_eq_true rfl) dX9_moves_6 ⟨by decide, by decide⟩ (fun v9 u9 H locs hv hP hD hS => ?_)
  subst hv
  have hP : va_P D vwCl [(b0, .inr (9, [.int 0, .long tr, .ref bn, .ref bt, .ref bs, .ref bk, .ref bp, .ref bi, .ref bl, .int it, .int ub, .int db, .ref bx, .int tp, .int nx, .int tk, .int pl, .int vl, .int fa, .ref bc, .ref bf])), (bn, .inl (cy 0, 24, .inl (nbF nb))), (bt, .inl (cy 0, 6, .inl ft))] H := hP
  have hD : va_D A [(b0, .inr (9, [.int 0, .long tr, .ref bn, .ref bt, .ref bs, .ref bk, .ref bp, .ref bi, .ref bl, .int it, .int ub, .int db, .ref bx, .int tp, .int nx, .int tk, .int pl, .int vl, .int fa, .ref bc, .ref bf])), (bn, .inl (cy 0, 24, .inl (nbF nb))), (bt, .inl (cy 0, 6, .inl ft))] := hD
  refine W.eq (g2 := F0 m 9 ls [.int (bI (inR i 0 3))]) rfl ?_
  refine bz_eq (tgt := 28) hx hb dX9_moves_9 (by decide) (fun c_9 => ?_) (fun c_9 => ?_)
  · refine lv_ldc (v := (-1000000)) hx hb hown wc70 dX9_moves_28 ?_
    have hno : ¬ okMov i k u := by first | exact fun z => c_9 z.1 | exact fun z => c_16 z.2.1 | exact fun z => c_25 z.2.2
    refine lv_eqi (y := r_moves nb i k u) ((if_neg hno).symm) ?_
    exact RT _ _ (ft) H locs 30 ls (rt_i dX9_moves_30) rfl hP hD hS
  · obtain ⟨i1, hi1, rfl⟩ := inR_n 3 (by decide) rfl c_9
    refine lv_iload_n hx hb dX9_moves_12 rfl (lv_at hl 2 rfl) ?_
    refine ca_S (n := 1) (rest := []) (wr := [(b0, .inr (9, [.int 0, .long tr, .ref bn, .ref bt, .ref bs, .ref bk, .ref bp, .ref bi, .ref bl, .int it, .int ub, .int db, .ref bx, .int tp, .int nx, .int tk, .int pl, .int vl, .int fa, .ref bc, .ref bf])), (bn, .inl (cy 0, 24, .inl (nbF nb))), (bt, .inl (cy 0, 6, .inl ft))]) F hK hE hA hP hD hS hl.1 (kX9_isNumber (l := l) (D := D) (cy := cy) (sa := sa) k) gX9_moves_X9_isNumber rfl rfl rfl (by decide +kernel) ⟨by decide, by decide⟩ [] [0, 1, 2] rfl rfl rfl rfl (by decide) rfl rfl (Nat.le_of_ble_eq_true rfl) dX9_moves_13 ⟨by decide, by decide⟩ (fun v9 u9 H locs hv hP hD hS => ?_)
    subst hv
    have hP : va_P D vwCl [(b0, .inr (9, [.int 0, .long tr, .ref bn, .ref bt, .ref bs, .ref bk, .ref bp, .ref bi, .ref bl, .int it, .int ub, .int db, .ref bx, .int tp, .int nx, .int tk, .int pl, .int vl, .int fa, .ref bc, .ref bf])), (bn, .inl (cy 0, 24, .inl (nbF nb))), (bt, .inl (cy 0, 6, .inl ft))] H := hP
    have hD : va_D A [(b0, .inr (9, [.int 0, .long tr, .ref bn, .ref bt, .ref bs, .ref bk, .ref bp, .ref bi, .ref bl, .int it, .int ub, .int db, .ref bx, .int tp, .int nx, .int tk, .int pl, .int vl, .int fa, .ref bc, .ref bf])), (bn, .inl (cy 0, 24, .inl (nbF nb))), (bt, .inl (cy 0, 6, .inl ft))] := hD
    refine W.eq (g2 := F0 m 16 ls [.int (bI (inR k 0 5))]) rfl ?_
    refine bz_eq (tgt := 28) hx hb dX9_moves_16 (by decide) (fun c_16 => ?_) (fun c_16 => ?_)
    · refine lv_ldc (v := (-1000000)) hx hb hown wc70 dX9_moves_28 ?_
      have hno : ¬ okMov (nI i1) k u := by first | exact fun z => c_9 z.1 | exact fun z => c_16 z.2.1 | exact fun z => c_25 z.2.2
      refine lv_eqi (y := r_moves nb (nI i1) k u) ((if_neg hno).symm) ?_
      exact RT _ _ (ft) H locs 30 ls (rt_i dX9_moves_30) rfl hP hD hS
    · obtain ⟨k1, hk1, rfl⟩ := inR_n 5 (by decide) rfl c_16
      refine lv_iload_n hx hb dX9_moves_19 rfl (lv_at hl 3 rfl) ?_
      refine lv_iconst (v := 0) hx hb dX9_moves_20 (by decide) ?_
      refine lv_iconst (v := 1) hx hb dX9_moves_21 (by decide) ?_
      refine ca_S (n := 3) (rest := []) (wr := [(b0, .inr (9, [.int 0, .long tr, .ref bn, .ref bt, .ref bs, .ref bk, .ref bp, .ref bi, .ref bl, .int it, .int ub, .int db, .ref bx, .int tp, .int nx, .int tk, .int pl, .int vl, .int fa, .ref bc, .ref bf])), (bn, .inl (cy 0, 24, .inl (nbF nb))), (bt, .inl (cy 0, 6, .inl ft))]) F hK hE hA hP hD hS hl.1 (kX9_in (l := l) (D := D) (cy := cy) (sa := sa) u 0 1) gX9_moves_X9_in rfl rfl rfl (by decide +kernel) ⟨by decide, by decide⟩ [] [0, 1, 2] rfl rfl rfl rfl (by decide) rfl rfl (Nat.le_of_ble_eq_true rfl) dX9_moves_22 ⟨by decide, by decide⟩ (fun v9 u9 H locs hv hP hD hS => ?_)
      subst hv
      have hP : va_P D vwCl [(b0, .inr (9, [.int 0, .long tr, .ref bn, .ref bt, .ref bs, .ref bk, .ref bp, .ref bi, .ref bl, .int it, .int ub, .int db, .ref bx, .int tp, .int nx, .int tk, .int pl, .int vl, .int fa, .ref bc, .ref bf])), (bn, .inl (cy 0, 24, .inl (nbF nb))), (bt, .inl (cy 0, 6, .inl ft))] H := hP
      have hD : va_D A [(b0, .inr (9, [.int 0, .long tr, .ref bn, .ref bt, .ref bs, .ref bk, .ref bp, .ref bi, .ref bl, .int it, .int ub, .int db, .ref bx, .int tp, .int nx, .int tk, .int pl, .int vl, .int fa, .ref bc, .ref bf])), (bn, .inl (cy 0, 24, .inl (nbF nb))), (bt, .inl (cy 0, 6, .inl ft))] := hD
      refine W.eq (g2 := F0 m 25 ls [.int (bI (inR u 0 1))]) rfl ?_
      refine bz_ne (tgt := 31) hx hb dX9_moves_25 (by decide) (fun c_25 => ?_) (fun c_25 => ?_)
      · refine lv_aload_n hx hb dX9_moves_31 rfl (lv_at hl 0 rfl) ?_
        refine lv_iload_n hx hb dX9_moves_32 rfl (lv_at hl 1 rfl) ?_
        refine ca_V (q0 := 0) (n := 1) (rest := []) (wr := []) F hK hE hA hP hD hS hl.1 (kX9_takes (l := l) (D := D) (cy := cy) (sa := sa) b0 0 tr bn bt bs bk bp bi bl it ub db bx tp nx tk pl vl fa bc bf nb ft i1 (by first | assumption | omega | decide)) gX9_moves_X9_takes rfl rfl rfl rfl rfl rfl (by decide +kernel) ⟨by decide, by decide⟩ [0, 1, 2] [] rfl rfl rfl rfl (by decide) rfl rfl (Nat.le_of_ble_eq_true rfl) dX9_moves_33 ⟨by decide, by decide⟩ (fun v9 u9 H locs hv hP hD hS => ?_)
        subst hv
        obtain ⟨hP, hD⟩ := re_ws (ws' := [(b0, .inr (9, [.int 0, .long tr, .ref bn, .ref bt, .ref bs, .ref bk, .ref bp, .ref bi, .ref bl, .int it, .int ub, .int db, .ref bx, .int tp, .int nx, .int tk, .int pl, .int vl, .int fa, .ref bc, .ref bf])), (bn, .inl (cy 0, 24, .inl (nbF nb))), (bt, .inl (cy 0, 6, .inl (nb i1)))]) hP hD [0, 1, 2] rfl rfl
        refine W.eq (g2 := F0 m 36 ls []) rfl ?_
        refine lv_aload_n hx hb dX9_moves_36 rfl (lv_at hl 0 rfl) ?_
        refine ca_V (q0 := 0) (n := 0) (rest := []) (wr := [(bn, .inl (cy 0, 24, .inl (nbF nb)))]) F hK hE hA hP hD hS hl.1 (kX9_manySpeeds (l := l) (D := D) (cy := cy) (sa := sa) b0 0 tr bn bt bs bk bp bi bl it ub db bx tp nx tk pl vl fa bc bf (nb i1)) gX9_moves_X9_manySpeeds rfl rfl rfl rfl rfl rfl (by decide +kernel) ⟨by decide, by decide⟩ [0, 2] [1] rfl rfl rfl rfl (by decide) rfl rfl (Nat.le_of_ble_eq_true rfl) dX9_moves_37 ⟨by decide, by decide⟩ (fun v9 u9 H locs hv hP hD hS => ?_)
        subst hv
        obtain ⟨hP, hD⟩ := re_ws (ws' := [(b0, .inr (9, [.int 0, .long tr, .ref bn, .ref bt, .ref bs, .ref bk, .ref bp, .ref bi, .ref bl, .int it, .int ub, .int db, .ref bx, .int tp, .int nx, .int tk, .int pl, .int vl, .int fa, .ref bc, .ref bf])), (bn, .inl (cy 0, 24, .inl (nbF nb))), (bt, .inl (cy 0, 6, .inl (nb i1)))]) hP hD [1, 0, 2] rfl rfl
        refine W.eq (g2 := F0 m 40 ls [.int (ct (nb i1) 41)]) rfl ?_
        refine lv_istore (lv' := [(4, .int (ct (nb i1) 41)), (0, .ref b0), (1, .int (nI i1)), (2, .int (nI k1)), (3, .int u)]) hx hb dX9_moves_40 hl (by decide) rfl (fun ls hl => ?_)
        refine lv_aload_n hx hb dX9_moves_42 rfl (lv_at hl 1 rfl) ?_
        refine va_get (D := D) (ci := 9) (v := .ref bt) (C := RX9) (T := TX9) (N := 21) hx hb hts winX9 hown hK hP 0 rfl rfl 3 (by decide) wf13 (fun _ h9 => h9) rfl dX9_moves_43 ?_
        refine lv_iload_n hx hb dX9_moves_46 rfl (lv_at hl 3 rfl) ?_
        refine lv_dup2_11 hx hb dX9_moves_47 rfl rfl ?_
        refine al_i hx hb hK hP 2 rfl k1 (rfl) (by omega) (by decide) dX9_moves_48 ?_
        refine lv_iload_n hx hb dX9_moves_49 rfl (lv_at hl 4 rfl) ?_
        refine lv_iconst (v := 1) hx hb dX9_moves_50 (by decide) ?_
        have J_51_67 : ∀ (z51 : Int32), z51 = (if u = 1 then 1 else (-1)) → ∀ (H : Heap) (locs : List Loc), va_P D vwCl [(b0, .inr (9, [.int 0, .long tr, .ref bn, .ref bt, .ref bs, .ref bk, .ref bp, .ref bi, .ref bl, .int it, .int ub, .int db, .ref bx, .int tp, .int nx, .int tk, .int pl, .int vl, .int fa, .ref bc, .ref bf])), (bn, .inl (cy 0, 24, .inl (nbF nb))), (bt, .inl (cy 0, 6, .inl (nb i1)))] H → va_D A [(b0, .inr (9, [.int 0, .long tr, .ref bn, .ref bt, .ref bs, .ref bk, .ref bp, .ref bi, .ref bl, .int it, .int ub, .int db, .ref bx, .int tp, .int nx, .int tk, .int pl, .int vl, .int fa, .ref bc, .ref bf])), (bn, .inl (cy 0, 24, .inl (nbF nb))), (bt, .inl (cy 0, 6, .inl (nb i1)))] → va_S A s.heap H locs → ∀ (ls : Array Slot), lv_has ls 5 [(4, .int (ct (nb i1) 41)), (0, .ref b0), (1, .int (nI i1)), (2, .int (nI k1)), (3, .int u)] → W p l e rmkX9_moves s m args below meth c H locs 0 0 Q (F0 m 59 ls [.int z51, .int ((nb i1) k1), .int (nI k1), .ref bt]) := by
          intro z51 ez51 H locs hP hD hS ls hl
          refine lv_iadd hx hb dX9_moves_59 ?_
          refine as_i (x := ((nb i1) k1) + z51) hx hb hK hP hD hS 2 rfl k1 (rfl) (by omega) (by decide) dX9_moves_60 (fun H locs hP hD hS => ?_)
          have hP : va_P D vwCl [(b0, .inr (9, [.int 0, .long tr, .ref bn, .ref bt, .ref bs, .ref bk, .ref bp, .ref bi, .ref bl, .int it, .int ub, .int db, .ref bx, .int tp, .int nx, .int tk, .int pl, .int vl, .int fa, .ref bc, .ref bf])), (bn, .inl (cy 0, 24, .inl (nbF nb))), (bt, .inl (cy 0, 6, .inl (upd (nb i1) k1 (((nb i1) k1) + z51))))] H := hP
          have hD : va_D A [(b0, .inr (9, [.int 0, .long tr, .ref bn, .ref bt, .ref bs, .ref bk, .ref bp, .ref bi, .ref bl, .int it, .int ub, .int db, .ref bx, .int tp, .int nx, .int tk, .int pl, .int vl, .int fa, .ref bc, .ref bf])), (bn, .inl (cy 0, 24, .inl (nbF nb))), (bt, .inl (cy 0, 6, .inl (upd (nb i1) k1 (((nb i1) k1) + z51))))] := hD
          refine lv_iload_n hx hb dX9_moves_61 rfl (lv_at hl 3 rfl) ?_
          refine lv_aload_n hx hb dX9_moves_62 rfl (lv_at hl 1 rfl) ?_
          refine va_get (D := D) (ci := 9) (v := .ref bt) (C := RX9) (T := TX9) (N := 21) hx hb hts winX9 hown hK hP 0 rfl rfl 3 (by decide) wf13 (fun _ h9 => h9) rfl dX9_moves_63 ?_
          refine lv_iload_n hx hb dX9_moves_66 rfl (lv_at hl 3 rfl) ?_
          refine al_i hx hb hK hP 2 rfl k1 (rfl) (by omega) (by decide) dX9_moves_67 ?_
          refine lv_eqi (y := nb i1 k1 + z51) (upd_at _ _ _) ?_
          refine ca_S (n := 2) (rest := []) (wr := [(b0, .inr (9, [.int 0, .long tr, .ref bn, .ref bt, .ref bs, .ref bk, .ref bp, .ref bi, .ref bl, .int it, .int ub, .int db, .ref bx, .int tp, .int nx, .int tk, .int pl, .int vl, .int fa, .ref bc, .ref bf])), (bn, .inl (cy 0, 24, .inl (nbF nb))), (bt, .inl (cy 0, 6, .inl (upd (nb i1) k1 (((nb i1) k1) + z51))))]) F hK hE hA hP hD hS hl.1 (kX9_mayBe (l := l) (D := D) (cy := cy) (sa := sa) (nI k1) (nb i1 k1 + z51)) gX9_moves_X9_mayBe rfl rfl rfl (by decide +kernel) ⟨by decide, by decide⟩ [] [0, 1, 2] rfl rfl rfl rfl (by decide) rfl rfl (Nat.le_of_ble_eq_true rfl) dX9_moves_68 ⟨by decide, by decide⟩ (fun v9 u9 H locs hv hP hD hS => ?_)
          subst hv
          have hP : va_P D vwCl [(b0, .inr (9, [.int 0, .long tr, .ref bn, .ref bt, .ref bs, .ref bk, .ref bp, .ref bi, .ref bl, .int it, .int ub, .int db, .ref bx, .int tp, .int nx, .int tk, .int pl, .int vl, .int fa, .ref bc, .ref bf])), (bn, .inl (cy 0, 24, .inl (nbF nb))), (bt, .inl (cy 0, 6, .inl (upd (nb i1) k1 (((nb i1) k1) + z51))))] H := hP
          have hD : va_D A [(b0, .inr (9, [.int 0, .long tr, .ref bn, .ref bt, .ref bs, .ref bk, .ref bp, .ref bi, .ref bl, .int it, .int ub, .int db, .ref bx, .int tp, .int nx, .int tk, .int pl, .int vl, .int fa, .ref bc, .ref bf])), (bn, .inl (cy 0, 24, .inl (nbF nb))), (bt, .inl (cy 0, 6, .inl (upd (nb i1) k1 (((nb i1) k1) + z51))))] := hD
          refine W.eq (g2 := F0 m 71 ls [.int (bI (inR (nb i1 k1 + z51) (bot (nI k1)) 9))]) rfl ?_
          refine bz_eq (tgt := 84) hx hb dX9_moves_71 (by decide) (fun c_71 => ?_) (fun c_71 => ?_)
          · refine lv_iconst (v := 0) hx hb dX9_moves_84 (by decide) ?_
            have hz : z51 = (if u = 1 then 1 else -1) := ez51
            refine lv_eqi (y := r_moves nb (nI i1) (nI k1) u) (by rw [r_moves, if_pos ⟨c_9, c_16, c_25⟩, cl_n (by omega), cl_n (by omega), ← hz, mvN, if_neg c_71]) ?_
            exact RT _ _ (upd (nb i1) k1 (((nb i1) k1) + z51)) H locs 85 ls (rt_i dX9_moves_85) rfl hP hD hS
          · refine lv_aload_n hx hb dX9_moves_74 rfl (lv_at hl 1 rfl) ?_
            refine ca_V (q0 := 0) (n := 0) (rest := []) (wr := [(bn, .inl (cy 0, 24, .inl (nbF nb)))]) F hK hE hA hP hD hS hl.1 (kX9_manySpeeds (l := l) (D := D) (cy := cy) (sa := sa) b0 0 tr bn bt bs bk bp bi bl it ub db bx tp nx tk pl vl fa bc bf (upd (nb i1) k1 (((nb i1) k1) + z51))) gX9_moves_X9_manySpeeds rfl rfl rfl rfl rfl rfl (by decide +kernel) ⟨by decide, by decide⟩ [0, 2] [1] rfl rfl rfl rfl (by decide) rfl rfl (Nat.le_of_ble_eq_true rfl) dX9_moves_75 ⟨by decide, by decide⟩ (fun v9 u9 H locs hv hP hD hS => ?_)
            subst hv
            obtain ⟨hP, hD⟩ := re_ws (ws' := [(b0, .inr (9, [.int 0, .long tr, .ref bn, .ref bt, .ref bs, .ref bk, .ref bp, .ref bi, .ref bl, .int it, .int ub, .int db, .ref bx, .int tp, .int nx, .int tk, .int pl, .int vl, .int fa, .ref bc, .ref bf])), (bn, .inl (cy 0, 24, .inl (nbF nb))), (bt, .inl (cy 0, 6, .inl (upd (nb i1) k1 (((nb i1) k1) + z51))))]) hP hD [1, 0, 2] rfl rfl
            refine W.eq (g2 := F0 m 78 ls [.int (ct (upd (nb i1) k1 (((nb i1) k1) + z51)) 41)]) rfl ?_
            refine lv_iload hx hb dX9_moves_78 (lv_at hl 0 rfl) ?_
            refine lv_isub hx hb dX9_moves_80 ?_
            refine lv_goto (tgt := 85) hx hb dX9_moves_81 (by decide) ?_
            have hz : z51 = (if u = 1 then 1 else -1) := ez51
            refine lv_eqi (y := r_moves nb (nI i1) (nI k1) u) (by rw [r_moves, if_pos ⟨c_9, c_16, c_25⟩, cl_n (by omega), cl_n (by omega), ← hz, mvN, if_pos c_71]) ?_
            exact RT _ _ ((upd (nb i1) k1 (((nb i1) k1) + z51))) H locs 85 ls (rt_i dX9_moves_85) rfl hP hD hS
        refine lv_icmp_ne (tgt := 58) hx hb dX9_moves_51 (by decide) (fun c_51 => ?_) (fun c_51 => ?_)
        · refine lv_iconst (v := (-1)) hx hb dX9_moves_58 (by decide) ?_
          exact J_51_67 _ ((if_neg c_51).symm) H locs hP hD hS ls (lv_sub hl [0, 1, 2, 3, 4] rfl)
        · refine lv_iconst (v := 1) hx hb dX9_moves_54 (by decide) ?_
          refine lv_goto (tgt := 59) hx hb dX9_moves_55 (by decide) ?_
          exact J_51_67 _ ((if_pos c_51).symm) H locs hP hD hS ls (lv_sub hl [0, 1, 2, 3, 4] rfl)
      · refine lv_ldc (v := (-1000000)) hx hb hown wc70 dX9_moves_28 ?_
        have hno : ¬ okMov (nI i1) (nI k1) u := by first | exact fun z => c_9 z.1 | exact fun z => c_16 z.2.1 | exact fun z => c_25 z.2.2
        refine lv_eqi (y := r_moves nb (nI i1) (nI k1) u) ((if_neg hno).symm) ?_
        exact RT _ _ (ft) H locs 30 ls (rt_i dX9_moves_30) rfl hP hD hS
abbrev rmkX9_least : Room := { frames := 3, cells := 0, slots := 0, locals := 65 }
set_option maxHeartbeats 4000000 in
set_option maxRecDepth 100000 in
theorem kX9_least {l : Launch} {D : va_G} {cy : Nat → ClassId} {sa : Nat → Nat} (b0 : Nat) (th : Int32) (tr : Int64) (bn : Nat) (bt : Nat) (bs : Nat) (bk : Nat) (bp : Nat) (bi : Nat) (bl : Nat) (it : Int32) (ub : Int32) (db : Int32) (bx : Nat) (tp : Int32) (nx : Int32) (tk : Int32) (pl : Int32) (vl : Int32) (fa : Int32) (bc : Nat) (bf : Nat) (nb : Nat → Nat → Int32) (ft : Nat → Int32) (i : Int32) (v : Int32) (w : Int32)  : CT (S := (Nat → Int32)) l D cy sa yX9_least wsX9_least rmkX9_least [.ref b0, .int i, .int v, .int w] [(b0, .inr (9, [.int th, .long tr, .ref bn, .ref bt, .ref bs, .ref bk, .ref bp, .ref bi, .ref bl, .int it, .int ub, .int db, .ref bx, .int tp, .int nx, .int tk, .int pl, .int vl, .int fa, .ref bc, .ref bf])), (bn, .inl (cy 0, 24, .inl (nbF nb))), (bt, .inl (cy 0, 6, .inl ft))] (fun v9 ft2 => v9 = some (.int (r_least nb i v w))) (fun ft2 => [(b0, .inr (9, [.int 0, .long tr, .ref bn, .ref bt, .ref bs, .ref bk, .ref bp, .ref bi, .ref bl, .int it, .int ub, .int db, .ref bx, .int tp, .int nx, .int tk, .int pl, .int vl, .int fa, .ref bc, .ref bf])), (bn, .inl (cy 0, 24, .inl (nbF nb))), (bt, .inl (cy 0, 6, .inl ft2))]) 0 0 := by
  refine CT.of cX9_least 5 (some .int) (by decide) rfl (Nat.le_of_ble_eq_true rfl) ?_
  intro p e s m args below meth c A Q ls F hmn hK hE hA hP hD hS hl RT
  obtain ⟨hx, hb, hml, hown, hts⟩ := id F
  have winX9 : ∀ w ∈ u_ws RX9 TX9 21, w ∈ wsX9_least := by decide +kernel
  have wf48 := hts (.fieldLink RX9 48 "SelfSteerModel" "thrown" "I") (by decide +kernel)
  have wc70 := hts (.constant RX9 70 (-1000000)) (by decide +kernel)
  have hl : lv_has ls 5 [(0, .ref b0), (1, .int i), (2, .int v), (3, .int w)] := hl
  have hP : va_P D vwCl [(b0, .inr (9, [.int th, .long tr, .ref bn, .ref bt, .ref bs, .ref bk, .ref bp, .ref bi, .ref bl, .int it, .int ub, .int db, .ref bx, .int tp, .int nx, .int tk, .int pl, .int vl, .int fa, .ref bc, .ref bf])), (bn, .inl (cy 0, 24, .inl (nbF nb))), (bt, .inl (cy 0, 6, .inl ft))] s.heap := hP
  have hD : va_D A [(b0, .inr (9, [.int th, .long tr, .ref bn, .ref bt, .ref bs, .ref bk, .ref bp, .ref bi, .ref bl, .int it, .int ub, .int db, .ref bx, .int tp, .int nx, .int tk, .int pl, .int vl, .int fa, .ref bc, .ref bf])), (bn, .inl (cy 0, 24, .inl (nbF nb))), (bt, .inl (cy 0, 6, .inl ft))] := hD
  obtain ⟨H, hH⟩ : ∃ H0 : Heap, H0 = s.heap := ⟨_, rfl⟩
  obtain ⟨locs, hlo⟩ : ∃ L0 : List Loc, L0 = [] := ⟨_, rfl⟩
  have hS : va_S A s.heap H locs := by rw [hH, hlo]; exact hS
  rw [← hH] at hP
  show W p l e rmkX9_least s m args below meth c s.heap [] 0 0 Q (F0 m 0 ls [])
  suffices hgo : W p l e rmkX9_least s m args below meth c H locs 0 0 Q (F0 m 0 ls []) by rw [hH, hlo] at hgo; exact hgo
  clear hH hlo
  refine lv_aload_n hx hb dX9_least_0 rfl (lv_at hl 0 rfl) ?_
  refine lv_iconst (v := 0) hx hb dX9_least_1 (by decide) ?_
  refine va_put (D := D) (ci := 9) (v := .int 0) (ty := .int) (C := RX9) (T := TX9) (N := 21) hx hb hts winX9 tyX9 tyX9_ok nmX9 hown hK hP hD hS 0 rfl rfl 0 (by decide) wf48 (fun _ h9 => h9) rfl (by decide +kernel) rfl rfl (Nat.le_of_ble_eq_true rfl) dX9_least_2 (fun H locs hP hD hS => ?_)
  have hP : va_P D vwCl [(b0, .inr (9, [.int 0, .long tr, .ref bn, .ref bt, .ref bs, .ref bk, .ref bp, .ref bi, .ref bl, .int it, .int ub, .int db, .ref bx, .int tp, .int nx, .int tk, .int pl, .int vl, .int fa, .ref bc, .ref bf])), (bn, .inl (cy 0, 24, .inl (nbF nb))), (bt, .inl (cy 0, 6, .inl ft))] H := hP
  have hD : va_D A [(b0, .inr (9, [.int 0, .long tr, .ref bn, .ref bt, .ref bs, .ref bk, .ref bp, .ref bi, .ref bl, .int it, .int ub, .int db, .ref bx, .int tp, .int nx, .int tk, .int pl, .int vl, .int fa, .ref bc, .ref bf])), (bn, .inl (cy 0, 24, .inl (nbF nb))), (bt, .inl (cy 0, 6, .inl ft))] := hD
  refine lv_iload_n hx hb dX9_least_5 rfl (lv_at hl 1 rfl) ?_
  refine lv_iload_n hx hb dX9_least_6 rfl (lv_at hl 2 rfl) ?_
  refine lv_iconst (v := 0) hx hb dX9_least_7 (by decide) ?_
  refine lv_iload_n hx hb dX9_least_8 rfl (lv_at hl 3 rfl) ?_
  refine ca_S (n := 4) (rest := []) (wr := [(b0, .inr (9, [.int 0, .long tr, .ref bn, .ref bt, .ref bs, .ref bk, .ref bp, .ref bi, .ref bl, .int it, .int ub, .int db, .ref bx, .int tp, .int nx, .int tk, .int pl, .int vl, .int fa, .ref bc, .ref bf])), (bn, .inl (cy 0, 24, .inl (nbF nb))), (bt, .inl (cy 0, 6, .inl ft))]) F hK hE hA hP hD hS hl.1 (kX9_isAsked (l := l) (D := D) (cy := cy) (sa := sa) i v 0 w) gX9_least_X9_isAsked rfl rfl rfl (by decide +kernel) ⟨by decide, by decide⟩ [] [0, 1, 2] rfl rfl rfl rfl (by decide) rfl rfl (Nat.le_of_ble_eq_true rfl) dX9_least_9 ⟨by decide, by decide⟩ (fun v9 u9 H locs hv hP hD hS => ?_)
  subst hv
  have hP : va_P D vwCl [(b0, .inr (9, [.int 0, .long tr, .ref bn, .ref bt, .ref bs, .ref bk, .ref bp, .ref bi, .ref bl, .int it, .int ub, .int db, .ref bx, .int tp, .int nx, .int tk, .int pl, .int vl, .int fa, .ref bc, .ref bf])), (bn, .inl (cy 0, 24, .inl (nbF nb))), (bt, .inl (cy 0, 6, .inl ft))] H := hP
  have hD : va_D A [(b0, .inr (9, [.int 0, .long tr, .ref bn, .ref bt, .ref bs, .ref bk, .ref bp, .ref bi, .ref bl, .int it, .int ub, .int db, .ref bx, .int tp, .int nx, .int tk, .int pl, .int vl, .int fa, .ref bc, .ref bf])), (bn, .inl (cy 0, 24, .inl (nbF nb))), (bt, .inl (cy 0, 6, .inl ft))] := hD
  refine W.eq (g2 := F0 m 12 ls [.int (bI ((inR i 0 3) ∧ ((inR v 0 40) ∧ ((inR 0 (-99) 99) ∧ (inR w (-99) 99)))))]) rfl ?_
  refine bz_ne (tgt := 18) hx hb dX9_least_12 (by decide) (fun c_12 => ?_) (fun c_12 => ?_)
  · obtain ⟨i1, hi1, rfl⟩ := inR_n 3 (by decide) rfl c_12.1
    have hans : lsN (nb i1) v w 100 0 = r_least nb (nI i1) v w := by rw [r_least, if_pos ⟨c_12.1, c_12.2.1, c_12.2.2.2⟩, cl_n (by omega)]
    refine lv_aload_n hx hb dX9_least_18 rfl (lv_at hl 0 rfl) ?_
    refine lv_iload_n hx hb dX9_least_19 rfl (lv_at hl 1 rfl) ?_
    refine ca_V (q0 := 0) (n := 1) (rest := []) (wr := []) F hK hE hA hP hD hS hl.1 (kX9_takes (l := l) (D := D) (cy := cy) (sa := sa) b0 0 tr bn bt bs bk bp bi bl it ub db bx tp nx tk pl vl fa bc bf nb ft i1 (by first | assumption | omega | decide)) gX9_least_X9_takes rfl rfl rfl rfl rfl rfl (by decide +kernel) ⟨by decide, by decide⟩ [0, 1, 2] [] rfl rfl rfl rfl (by decide) rfl rfl (Nat.le_of_ble_eq_true rfl) dX9_least_20 ⟨by decide, by decide⟩ (fun v9 u9 H locs hv hP hD hS => ?_)
    subst hv
    obtain ⟨hP, hD⟩ := re_ws (ws' := [(b0, .inr (9, [.int 0, .long tr, .ref bn, .ref bt, .ref bs, .ref bk, .ref bp, .ref bi, .ref bl, .int it, .int ub, .int db, .ref bx, .int tp, .int nx, .int tk, .int pl, .int vl, .int fa, .ref bc, .ref bf])), (bn, .inl (cy 0, 24, .inl (nbF nb))), (bt, .inl (cy 0, 6, .inl (nb i1)))]) hP hD [0, 1, 2] rfl rfl
    refine W.eq (g2 := F0 m 23 ls []) rfl ?_
    refine lv_iconst (v := 0) hx hb dX9_least_23 (by decide) ?_
    refine lv_istore (lv' := [(4, .int 0), (0, .ref b0), (1, .int (nI i1)), (2, .int v), (3, .int w)]) hx hb dX9_least_24 hl (by decide) rfl (fun ls hl => ?_)
    have L_26 : ∀ (n : Nat) (z : Nat) (q : Nat), z + q = 100 → lsN (nb i1) v w q z = r_least nb (nI i1) v w → q < n → ∀ (H : Heap) (locs : List Loc), va_P D vwCl [(b0, .inr (9, [.int 0, .long tr, .ref bn, .ref bt, .ref bs, .ref bk, .ref bp, .ref bi, .ref bl, .int it, .int ub, .int db, .ref bx, .int tp, .int nx, .int tk, .int pl, .int vl, .int fa, .ref bc, .ref bf])), (bn, .inl (cy 0, 24, .inl (nbF nb))), (bt, .inl (cy 0, 6, .inl (nb i1)))] H → va_D A [(b0, .inr (9, [.int 0, .long tr, .ref bn, .ref bt, .ref bs, .ref bk, .ref bp, .ref bi, .ref bl, .int it, .int ub, .int db, .ref bx, .int tp, .int nx, .int tk, .int pl, .int vl, .int fa, .ref bc, .ref bf])), (bn, .inl (cy 0, 24, .inl (nbF nb))), (bt, .inl (cy 0, 6, .inl (nb i1)))] → va_S A s.heap H locs → ∀ (ls : Array Slot), lv_has ls 5 [(4, .int (nI z)), (0, .ref b0), (1, .int (nI i1)), (2, .int v), (3, .int w)] → W p l e rmkX9_least s m args below meth c H locs 0 0 Q (F0 m 26 ls []) := by
      intro n
      induction n with
      | zero => intro z q hz hr hn; exact absurd hn (Nat.not_lt_zero _)
      | succ n ih_26 =>
        intro z q hz hr hn_26 H locs hP hD hS ls hl
        refine lv_iload hx hb dX9_least_26 (lv_at hl 0 rfl) ?_
        refine lv_bipush (v := 100) hx hb dX9_least_28 (by decide) ?_
        refine cn_ge (tgt := 69) hx hb z 100 rfl rfl (by omega) (by omega) dX9_least_30 (by decide) (fun c_30 => ?_) (fun c_30 => ?_)
        · refine lv_ldc (v := (-1000000)) hx hb hown wc70 dX9_least_69 ?_
          refine lv_eqi (y := r_least nb (nI i1) v w) (by rw [← hr, show q = 0 by omega]; rfl) ?_
          exact RT _ _ (nb i1) H locs 71 ls (rt_i dX9_least_71) rfl hP hD hS
        · refine lv_aload_n hx hb dX9_least_33 rfl (lv_at hl 1 rfl) ?_
          refine lv_iload_n hx hb dX9_least_34 rfl (lv_at hl 3 rfl) ?_
          refine lv_iload hx hb dX9_least_35 (lv_at hl 0 rfl) ?_
          refine lv_iload_n hx hb dX9_least_37 rfl (lv_at hl 4 rfl) ?_
          refine ca_V (q0 := 0) (n := 3) (rest := []) (wr := [(bn, .inl (cy 0, 24, .inl (nbF nb)))]) F hK hE hA hP hD hS hl.1 (kX9_isUp (l := l) (D := D) (cy := cy) (sa := sa) b0 0 tr bn bt bs bk bp bi bl it ub db bx tp nx tk pl vl fa bc bf (nb i1) v (nI z) w) gX9_least_X9_isUp rfl rfl rfl rfl rfl rfl (by decide +kernel) ⟨by decide, by decide⟩ [0, 2] [1] rfl rfl rfl rfl (by decide) rfl rfl (Nat.le_of_ble_eq_true rfl) dX9_least_38 ⟨by decide, by decide⟩ (fun v9 u9 H locs hv hP hD hS => ?_)
          subst hv
          obtain ⟨hP, hD⟩ := re_ws (ws' := [(b0, .inr (9, [.int 0, .long tr, .ref bn, .ref bt, .ref bs, .ref bk, .ref bp, .ref bi, .ref bl, .int it, .int ub, .int db, .ref bx, .int tp, .int nx, .int tk, .int pl, .int vl, .int fa, .ref bc, .ref bf])), (bn, .inl (cy 0, 24, .inl (nbF nb))), (bt, .inl (cy 0, 6, .inl (nb i1)))]) hP hD [1, 0, 2] rfl rfl
          refine W.eq (g2 := F0 m 41 ls [.int (bI (upP (nb i1) v (nI z) w))]) rfl ?_
          refine bz_eq (tgt := 47) hx hb dX9_least_41 (by decide) (fun c_41 => ?_) (fun c_41 => ?_)
          · refine lv_aload_n hx hb dX9_least_47 rfl (lv_at hl 1 rfl) ?_
            refine lv_iload_n hx hb dX9_least_48 rfl (lv_at hl 3 rfl) ?_
            refine lv_iload hx hb dX9_least_49 (lv_at hl 0 rfl) ?_
            refine lv_ineg hx hb dX9_least_51 ?_
            refine lv_iload_n hx hb dX9_least_52 rfl (lv_at hl 4 rfl) ?_
            refine ca_V (q0 := 0) (n := 3) (rest := []) (wr := [(bn, .inl (cy 0, 24, .inl (nbF nb)))]) F hK hE hA hP hD hS hl.1 (kX9_isUp (l := l) (D := D) (cy := cy) (sa := sa) b0 0 tr bn bt bs bk bp bi bl it ub db bx tp nx tk pl vl fa bc bf (nb i1) v (-(nI z)) w) gX9_least_X9_isUp rfl rfl rfl rfl rfl rfl (by decide +kernel) ⟨by decide, by decide⟩ [0, 2] [1] rfl rfl rfl rfl (by decide) rfl rfl (Nat.le_of_ble_eq_true rfl) dX9_least_53 ⟨by decide, by decide⟩ (fun v9 u9 H locs hv hP hD hS => ?_)
            subst hv
            obtain ⟨hP, hD⟩ := re_ws (ws' := [(b0, .inr (9, [.int 0, .long tr, .ref bn, .ref bt, .ref bs, .ref bk, .ref bp, .ref bi, .ref bl, .int it, .int ub, .int db, .ref bx, .int tp, .int nx, .int tk, .int pl, .int vl, .int fa, .ref bc, .ref bf])), (bn, .inl (cy 0, 24, .inl (nbF nb))), (bt, .inl (cy 0, 6, .inl (nb i1)))]) hP hD [1, 0, 2] rfl rfl
            refine W.eq (g2 := F0 m 56 ls [.int (bI (upP (nb i1) v (-(nI z)) w))]) rfl ?_
            refine bz_eq (tgt := 63) hx hb dX9_least_56 (by decide) (fun c_56 => ?_) (fun c_56 => ?_)
            · refine lv_iinc (v := nI (z + 1)) (lv' := [(4, .int (nI (z + 1))), (0, .ref b0), (1, .int (nI i1)), (2, .int v), (3, .int w)]) hx hb dX9_least_63 hl (k := 0) rfl (nI_add z 1) (by decide) rfl (fun ls hl => ?_)
              refine lv_goto (tgt := 26) hx hb dX9_least_66 (by decide) ?_
              exact ih_26 (z + 1) (q - 1) (by first | assumption | omega | decide) (by rw [show q = (q - 1) + 1 by omega, lsN, if_neg c_41, if_neg c_56] at hr; exact hr) (by omega) H locs hP hD hS ls (lv_sub hl [0, 1, 2, 3, 4] rfl)
            · refine lv_iload hx hb dX9_least_59 (lv_at hl 0 rfl) ?_
              refine lv_ineg hx hb dX9_least_61 ?_
              refine lv_eqi (y := r_least nb (nI i1) v w) (by rw [← hr, show q = (q - 1) + 1 by omega, lsN, if_neg c_41, if_pos c_56]) ?_
              exact RT _ _ ((nb i1)) H locs 62 ls (rt_i dX9_least_62) rfl hP hD hS
          · refine lv_iload hx hb dX9_least_44 (lv_at hl 0 rfl) ?_
            refine lv_eqi (y := r_least nb (nI i1) v w) (by rw [← hr, show q = (q - 1) + 1 by omega, lsN, if_pos c_41]) ?_
            exact RT _ _ ((nb i1)) H locs 46 ls (rt_i dX9_least_46) rfl hP hD hS
    exact L_26 _ 0 100 (rfl) (hans) (Nat.lt_succ_self _) H locs hP hD hS ls (lv_sub hl [0, 1, 2, 3, 4] rfl)
  · refine lv_ldc (v := (-1000000)) hx hb hown wc70 dX9_least_15 ?_
    refine lv_eqi (y := r_least nb i v w) ((if_neg (fun z => c_12 ⟨z.1, z.2.1, by decide, z.2.2⟩)).symm) ?_
    exact RT _ _ (ft) H locs 17 ls (rt_i dX9_least_17) rfl hP hD hS
