abbrev rmkX8_type : Room := { frames := 1, cells := 0, slots := 0, locals := 22 }
set_option maxHeartbeats 4000000 in
set_option maxRecDepth 100000 in
theorem kX8_type {l : Launch} {D : va_G} {cy : Nat → ClassId} {sa : Nat → Nat} (x0_ : Nat) (xb_ : Nat) (ta_ : Nat) (c1_ : Nat) (d1_ : Nat) (xt_ : Nat) (tl_ : Int32) (e1_ : Nat) (r3_ : Nat) (r1_ : Nat) (q1_ : Nat) (o1_ : Nat) (h1_ : Nat) (ub_ : Int32) (db_ : Int32) (xi_ : Nat) (tr_ : Int64) (tx_ : Nat → Int32) (tn_ : Nat) (v_ : Int64) (n_ : Int32) (htn : tn_ ≤ 200) : CD l D cy sa yX8_type wsX8_type rmkX8_type [.ref x0_, .long v_, .int n_] [(x0_, .inr (8, [.ref xb_, .ref ta_, .ref c1_, .ref d1_, .ref xt_, .int (nI tn_), .ref e1_, .ref r3_, .ref r1_, .ref q1_, .ref o1_, .ref h1_, .int ub_, .int db_, .ref xi_, .long tr_])), (xt_, .inl (cy 0, 200, .inl tx_))] (some (.int (r_type tn_ n_))) [(x0_, .inr (8, [.ref xb_, .ref ta_, .ref c1_, .ref d1_, .ref xt_, .int (nI (n_tn tn_ n_)), .ref e1_, .ref r3_, .ref r1_, .ref q1_, .ref o1_, .ref h1_, .int ub_, .int db_, .ref xi_, .long tr_])), (xt_, .inl (cy 0, 200, .inl (n_tx tx_ tn_ v_ n_)))] := by
  refine CT.of cX8_type 5 (some .int) (by decide +kernel) rfl (Nat.le_of_ble_eq_true rfl) ?_
  intro p e s m args below meth c A Q ls F hmn hK hE hA hP hD hS hl RT
  obtain ⟨hx, hb, hml, hown, hts⟩ := id F
  have winX8 : ∀ w ∈ u_ws RX8 TX8 16, w ∈ wsX8_type := by decide +kernel
  have wf38 := hts (.fieldLink RX8 38 "SelfSteer" "textLength" "I") (by decide +kernel)
  have wf34 := hts (.fieldLink RX8 34 "SelfSteer" "text" "[I") (by decide +kernel)
  have hl : lv_has ls 5 [(0, .ref x0_), (1, .long v_), (3, .int n_)] := hl
  have hP : va_P D vwCl [(x0_, .inr (8, [.ref xb_, .ref ta_, .ref c1_, .ref d1_, .ref xt_, .int (nI tn_), .ref e1_, .ref r3_, .ref r1_, .ref q1_, .ref o1_, .ref h1_, .int ub_, .int db_, .ref xi_, .long tr_])), (xt_, .inl (cy 0, 200, .inl tx_))] s.heap := hP
  have hD : va_D A [(x0_, .inr (8, [.ref xb_, .ref ta_, .ref c1_, .ref d1_, .ref xt_, .int (nI tn_), .ref e1_, .ref r3_, .ref r1_, .ref q1_, .ref o1_, .ref h1_, .int ub_, .int db_, .ref xi_, .long tr_])), (xt_, .inl (cy 0, 200, .inl tx_))] := hD
  obtain ⟨H, hH⟩ : ∃ H0 : Heap, H0 = s.heap := ⟨_, rfl⟩
  obtain ⟨locs, hlo⟩ : ∃ L0 : List Loc, L0 = [] := ⟨_, rfl⟩
  have hS : va_S A s.heap H locs := by rw [hH, hlo]; exact hS
  rw [← hH] at hP
  show W p l e rmkX8_type s m args below meth c s.heap [] 0 0 Q (F0 m 0 ls [])
  suffices hgo : W p l e rmkX8_type s m args below meth c H locs 0 0 Q (F0 m 0 ls []) by rw [hH, hlo] at hgo; exact hgo
  clear hH hlo
  refine lv_iload_n hx hb dX8_type_0 rfl (lv_at hl 2 rfl) ?_
  refine lv_iconst (v := 1) hx hb dX8_type_1 (by decide) ?_
  refine lv_bipush (v := 8) hx hb dX8_type_2 (by decide) ?_
  refine ca_S (n := 3) (rest := []) (wr := [(x0_, .inr (8, [.ref xb_, .ref ta_, .ref c1_, .ref d1_, .ref xt_, .int (nI tn_), .ref e1_, .ref r3_, .ref r1_, .ref q1_, .ref o1_, .ref h1_, .int ub_, .int db_, .ref xi_, .long tr_])), (xt_, .inl (cy 0, 200, .inl tx_))]) F hK hE hA hP hD hS hl.1 (kX8_within (l := l) (D := D) (cy := cy) (sa := sa) n_ 1 8) gX8_type_X8_within rfl rfl rfl (by decide +kernel) ⟨by decide, by decide⟩ [] [0, 1] rfl rfl rfl rfl (by decide) rfl rfl (Nat.le_of_ble_eq_true rfl) dX8_type_4 ⟨by decide, by decide⟩ (fun v9 u9 H locs hv hP hD hS => ?_)
  subst hv
  have hP : va_P D vwCl [(x0_, .inr (8, [.ref xb_, .ref ta_, .ref c1_, .ref d1_, .ref xt_, .int (nI tn_), .ref e1_, .ref r3_, .ref r1_, .ref q1_, .ref o1_, .ref h1_, .int ub_, .int db_, .ref xi_, .long tr_])), (xt_, .inl (cy 0, 200, .inl tx_))] H := hP
  have hD : va_D A [(x0_, .inr (8, [.ref xb_, .ref ta_, .ref c1_, .ref d1_, .ref xt_, .int (nI tn_), .ref e1_, .ref r3_, .ref r1_, .ref q1_, .ref o1_, .ref h1_, .int ub_, .int db_, .ref xi_, .long tr_])), (xt_, .inl (cy 0, 200, .inl tx_))] := hD
  refine W.eq (g2 := F0 m 7 ls [.int (bI (inR n_ 1 8))]) rfl ?_
  refine bz_ne (tgt := 12) hx hb dX8_type_7 (by decide) (fun c_7 => ?_) (fun c_7 => ?_)
  · obtain ⟨n1_, hn1p, hn1, rfl⟩ := inR_1 8 (by decide) rfl c_7
    refine lv_aload_n hx hb dX8_type_12 rfl (lv_at hl 0 rfl) ?_
    refine va_get (D := D) (ci := 8) (v := .int (nI tn_)) (C := RX8) (T := TX8) (N := 16) hx hb hts winX8 hown hK hP 0 rfl rfl 5 (by decide) wf38 (fun _ h9 => h9) rfl dX8_type_13 ?_
    refine lv_iload_n hx hb dX8_type_16 rfl (lv_at hl 2 rfl) ?_
    refine lv_iadd hx hb dX8_type_17 ?_
    refine lv_eqi (y := nI (tn_ + n1_)) (nI_add tn_ n1_) ?_
    refine lv_sipush (v := 200) hx hb dX8_type_18 (by decide) ?_
    refine cn_le (tgt := 27) hx hb (tn_ + n1_) 200 rfl rfl (by omega) (by omega) dX8_type_21 (by decide) (fun c_21 => ?_) (fun c_21 => ?_)
    · refine lv_iload_n hx hb dX8_type_27 rfl (lv_at hl 2 rfl) ?_
      refine lv_iconst (v := 1) hx hb dX8_type_28 (by decide) ?_
      refine lv_isub hx hb dX8_type_29 ?_
      refine lv_istore (lv' := [(4, .int ((nI n1_) - 1)), (0, .ref x0_), (1, .long v_), (3, .int (nI n1_))]) hx hb dX8_type_30 hl (by decide) rfl (fun ls hl => ?_)
      have L_32 : ∀ (nF : Nat) (cz_ : Nat) (q_ : Nat), (cz_ + q_ = n1_) → q_ < nF → ∀ (H : Heap) (locs : List Loc), va_P D vwCl [(x0_, .inr (8, [.ref xb_, .ref ta_, .ref c1_, .ref d1_, .ref xt_, .int (nI (tn_ + cz_)), .ref e1_, .ref r3_, .ref r1_, .ref q1_, .ref o1_, .ref h1_, .int ub_, .int db_, .ref xi_, .long tr_])), (xt_, .inl (cy 0, 200, .inl (tyF tx_ tn_ v_ n1_ cz_)))] H → va_D A [(x0_, .inr (8, [.ref xb_, .ref ta_, .ref c1_, .ref d1_, .ref xt_, .int (nI (tn_ + cz_)), .ref e1_, .ref r3_, .ref r1_, .ref q1_, .ref o1_, .ref h1_, .int ub_, .int db_, .ref xi_, .long tr_])), (xt_, .inl (cy 0, 200, .inl (tyF tx_ tn_ v_ n1_ cz_)))] → va_S A s.heap H locs → ∀ (ls : Array Slot), lv_has ls 5 [(4, .int (nI q_ - 1)), (0, .ref x0_), (1, .long v_), (3, .int (nI n1_))] → W p l e rmkX8_type s m args below meth c H locs 0 0 Q (F0 m 32 ls []) := by
        intro nF
        induction nF with
        | zero => intro cz_ q_ hcq hnF; exact absurd hnF (Nat.not_lt_zero _)
        | succ nF ih_32 =>
          intro cz_ q_ hcq hn_32 H locs hP hD hS ls hl
          refine lv_iload hx hb dX8_type_32 (lv_at hl 0 rfl) ?_
          refine lv_if_lt (tgt := 74) hx hb dX8_type_34 (by decide) (fun c_34 => ?_) (fun c_34 => ?_)
          · have hq0 : q_ = 0 := (sub1_lt (by omega)).mp c_34
            obtain rfl : n1_ = cz_ := by omega
            refine lv_aload_n hx hb dX8_type_74 rfl (lv_at hl 1 rfl) ?_
            refine va_get (D := D) (ci := 8) (v := .int (nI (tn_ + n1_))) (C := RX8) (T := TX8) (N := 16) hx hb hts winX8 hown hK hP 0 rfl rfl 5 (by decide) wf38 (fun _ h9 => h9) rfl dX8_type_75 ?_
            have hok : okTy tn_ (nI n1_) := ⟨c_7, by rw [cl_n (by omega)]; exact c_21⟩
            obtain ⟨hP, hD⟩ := ob_ws (gs := [.ref xb_, .ref ta_, .ref c1_, .ref d1_, .ref xt_, .int (nI (n_tn tn_ (nI n1_))), .ref e1_, .ref r3_, .ref r1_, .ref q1_, .ref o1_, .ref h1_, .int ub_, .int db_, .ref xi_, .long tr_]) hP hD 0 rfl (cons_eq2 (rfl) (cons_eq2 (rfl) (cons_eq2 (rfl) (cons_eq2 (rfl) (cons_eq2 (rfl) (cons_eq2 (congrArg Value.int (show nI (tn_ + n1_) = nI (n_tn tn_ (nI n1_)) from by rw [n_tn, if_pos hok, cl_n (by omega)])) (rfl)))))))
            have hP : va_P D vwCl [(x0_, .inr (8, [.ref xb_, .ref ta_, .ref c1_, .ref d1_, .ref xt_, .int (nI (n_tn tn_ (nI n1_))), .ref e1_, .ref r3_, .ref r1_, .ref q1_, .ref o1_, .ref h1_, .int ub_, .int db_, .ref xi_, .long tr_])), (xt_, .inl (cy 0, 200, .inl (tyF tx_ tn_ v_ n1_ n1_)))] H := hP
            have hD : va_D A [(x0_, .inr (8, [.ref xb_, .ref ta_, .ref c1_, .ref d1_, .ref xt_, .int (nI (n_tn tn_ (nI n1_))), .ref e1_, .ref r3_, .ref r1_, .ref q1_, .ref o1_, .ref h1_, .int ub_, .int db_, .ref xi_, .long tr_])), (xt_, .inl (cy 0, 200, .inl (tyF tx_ tn_ v_ n1_ n1_)))] := hD
            obtain ⟨hP, hD⟩ := ro_ws (g := n_tx tx_ tn_ v_ (nI n1_)) hP hD 1 rfl (fun z9 _ => congrFun (show tyF tx_ tn_ v_ n1_ n1_ = n_tx tx_ tn_ v_ (nI n1_) from by rw [n_tx, if_pos hok, cl_n (by omega)]) z9)
            have hP : va_P D vwCl [(x0_, .inr (8, [.ref xb_, .ref ta_, .ref c1_, .ref d1_, .ref xt_, .int (nI (n_tn tn_ (nI n1_))), .ref e1_, .ref r3_, .ref r1_, .ref q1_, .ref o1_, .ref h1_, .int ub_, .int db_, .ref xi_, .long tr_])), (xt_, .inl (cy 0, 200, .inl (n_tx tx_ tn_ v_ (nI n1_))))] H := hP
            have hD : va_D A [(x0_, .inr (8, [.ref xb_, .ref ta_, .ref c1_, .ref d1_, .ref xt_, .int (nI (n_tn tn_ (nI n1_))), .ref e1_, .ref r3_, .ref r1_, .ref q1_, .ref o1_, .ref h1_, .int ub_, .int db_, .ref xi_, .long tr_])), (xt_, .inl (cy 0, 200, .inl (n_tx tx_ tn_ v_ (nI n1_))))] := hD
            refine lv_eqi (y := r_type tn_ (nI n1_)) (by rw [r_type, if_pos c_7, cl_n (by omega), if_pos c_21]) ?_
            exact RT _ _ () H locs 78 ls (rt_i dX8_type_78) rfl hP hD hS
          · have hq1 : 1 ≤ q_ := by rcases Nat.eq_zero_or_pos q_ with y | y; exact absurd ((sub1_lt (by omega)).mpr y) c_34; exact y
            refine lv_aload_n hx hb dX8_type_37 rfl (lv_at hl 1 rfl) ?_
            refine va_get (D := D) (ci := 8) (v := .ref xt_) (C := RX8) (T := TX8) (N := 16) hx hb hts winX8 hown hK hP 0 rfl rfl 4 (by decide) wf34 (fun _ h9 => h9) rfl dX8_type_38 ?_
            refine lv_aload_n hx hb dX8_type_41 rfl (lv_at hl 1 rfl) ?_
            refine va_get (D := D) (ci := 8) (v := .int (nI (tn_ + cz_))) (C := RX8) (T := TX8) (N := 16) hx hb hts winX8 hown hK hP 0 rfl rfl 5 (by decide) wf38 (fun _ h9 => h9) rfl dX8_type_42 ?_
            refine lv_lload_n hx hb dX8_type_45 rfl (lv_at hl 2 rfl) ?_
            refine lv_bipush (v := 8) hx hb dX8_type_46 (by decide) ?_
            refine lv_iload hx hb dX8_type_48 (lv_at hl 0 rfl) ?_
            refine lv_imul hx hb dX8_type_50 ?_
            refine lv_eqi (y := nI (8 * (q_ - 1))) (by rw [show nI q_ - 1 = nI (q_ - 1) from pk_sub (a := q_) (b := 1) hq1]; exact pk_mul 8 (q_ - 1)) ?_
            refine lv_lushr (v := (v_.toUInt64 >>> ((nI (8 * (q_ - 1))).toInt64.toUInt64 &&& Int64.toUInt64 63)).toInt64) hx hb dX8_type_51 (rfl) ?_
            refine lv_l2i (v := ((v_.toUInt64 >>> ((nI (8 * (q_ - 1))).toInt64.toUInt64 &&& Int64.toUInt64 63)).toInt64).toInt32) hx hb dX8_type_52 (rfl) ?_
            refine lv_sipush (v := 255) hx hb dX8_type_53 (by decide) ?_
            refine lv_iand hx hb dX8_type_56 ?_
            refine lv_eqi (y := byV v_ (q_ - 1)) (byV_c v_ (by omega)) ?_
            refine as_i (x := byV v_ (q_ - 1)) hx hb hK hP hD hS 1 rfl (tn_ + cz_) (rfl) (by omega) (by decide) dX8_type_57 (fun H locs hP hD hS => ?_)
            have hP : va_P D vwCl [(x0_, .inr (8, [.ref xb_, .ref ta_, .ref c1_, .ref d1_, .ref xt_, .int (nI (tn_ + cz_)), .ref e1_, .ref r3_, .ref r1_, .ref q1_, .ref o1_, .ref h1_, .int ub_, .int db_, .ref xi_, .long tr_])), (xt_, .inl (cy 0, 200, .inl (upd (tyF tx_ tn_ v_ n1_ cz_) (tn_ + cz_) (byV v_ (q_ - 1)))))] H := hP
            have hD : va_D A [(x0_, .inr (8, [.ref xb_, .ref ta_, .ref c1_, .ref d1_, .ref xt_, .int (nI (tn_ + cz_)), .ref e1_, .ref r3_, .ref r1_, .ref q1_, .ref o1_, .ref h1_, .int ub_, .int db_, .ref xi_, .long tr_])), (xt_, .inl (cy 0, 200, .inl (upd (tyF tx_ tn_ v_ n1_ cz_) (tn_ + cz_) (byV v_ (q_ - 1)))))] := hD
            refine lv_aload_n hx hb dX8_type_58 rfl (lv_at hl 1 rfl) ?_
            refine lv_dup hx hb dX8_type_59 rfl ?_
            refine va_get (D := D) (ci := 8) (v := .int (nI (tn_ + cz_))) (C := RX8) (T := TX8) (N := 16) hx hb hts winX8 hown hK hP 0 rfl rfl 5 (by decide) wf38 (fun _ h9 => h9) rfl dX8_type_60 ?_
            refine lv_iconst (v := 1) hx hb dX8_type_63 (by decide) ?_
            refine lv_iadd hx hb dX8_type_64 ?_
            refine lv_eqi (y := nI ((tn_ + cz_) + 1)) (nI_add (tn_ + cz_) 1) ?_
            refine va_put (D := D) (ci := 8) (v := .int (nI ((tn_ + cz_) + 1))) (ty := .int) (C := RX8) (T := TX8) (N := 16) hx hb hts winX8 tyX8 tyX8_ok nmX8 hown hK hP hD hS 0 rfl rfl 5 (by decide) wf38 (fun _ h9 => h9) rfl (by decide +kernel) (rfl) (rfl) (Nat.le_of_ble_eq_true rfl) dX8_type_65 (fun H locs hP hD hS => ?_)
            have hP : va_P D vwCl [(x0_, .inr (8, [.ref xb_, .ref ta_, .ref c1_, .ref d1_, .ref xt_, .int (nI ((tn_ + cz_) + 1)), .ref e1_, .ref r3_, .ref r1_, .ref q1_, .ref o1_, .ref h1_, .int ub_, .int db_, .ref xi_, .long tr_])), (xt_, .inl (cy 0, 200, .inl (upd (tyF tx_ tn_ v_ n1_ cz_) (tn_ + cz_) (byV v_ (q_ - 1)))))] H := hP
            have hD : va_D A [(x0_, .inr (8, [.ref xb_, .ref ta_, .ref c1_, .ref d1_, .ref xt_, .int (nI ((tn_ + cz_) + 1)), .ref e1_, .ref r3_, .ref r1_, .ref q1_, .ref o1_, .ref h1_, .int ub_, .int db_, .ref xi_, .long tr_])), (xt_, .inl (cy 0, 200, .inl (upd (tyF tx_ tn_ v_ n1_ cz_) (tn_ + cz_) (byV v_ (q_ - 1)))))] := hD
            refine lv_iinc (v := nI (q_ - 1) - 1) (lv' := [(4, .int (nI (q_ - 1) - 1)), (0, .ref x0_), (1, .long v_), (3, .int (nI n1_))]) hx hb dX8_type_68 hl (k := 0) rfl (by rw [show nI q_ - 1 = nI (q_ - 1) from pk_sub (a := q_) (b := 1) hq1]; exact add_m1 _) (by decide) rfl (fun ls hl => ?_)
            refine lv_goto (tgt := 32) hx hb dX8_type_71 (by decide) ?_
            skip
            obtain ⟨hP, hD⟩ := ro_ws (g := tyF tx_ tn_ v_ n1_ (cz_ + 1)) hP hD 1 rfl (fun z9 _ => congrFun (show upd (tyF tx_ tn_ v_ n1_ cz_) (tn_ + cz_) (byV v_ (q_ - 1)) = tyF tx_ tn_ v_ n1_ (cz_ + 1) from tyF_s _ _ _ hcq hq1) z9)
            have hP : va_P D vwCl [(x0_, .inr (8, [.ref xb_, .ref ta_, .ref c1_, .ref d1_, .ref xt_, .int (nI ((tn_ + cz_) + 1)), .ref e1_, .ref r3_, .ref r1_, .ref q1_, .ref o1_, .ref h1_, .int ub_, .int db_, .ref xi_, .long tr_])), (xt_, .inl (cy 0, 200, .inl (tyF tx_ tn_ v_ n1_ (cz_ + 1))))] H := hP
            have hD : va_D A [(x0_, .inr (8, [.ref xb_, .ref ta_, .ref c1_, .ref d1_, .ref xt_, .int (nI ((tn_ + cz_) + 1)), .ref e1_, .ref r3_, .ref r1_, .ref q1_, .ref o1_, .ref h1_, .int ub_, .int db_, .ref xi_, .long tr_])), (xt_, .inl (cy 0, 200, .inl (tyF tx_ tn_ v_ n1_ (cz_ + 1))))] := hD
            exact ih_32 (cz_ + 1) (q_ - 1) (by first | assumption | omega | decide) (by omega) H locs hP hD hS ls (lv_sub hl [0, 1, 2, 3] rfl)
      skip
      obtain ⟨hP, hD⟩ := ro_ws (g := tyF tx_ tn_ v_ n1_ 0) hP hD 1 rfl (fun z9 _ => congrFun (show tx_ = tyF tx_ tn_ v_ n1_ 0 from (tyF_0 _ _ _ _).symm) z9)
      have hP : va_P D vwCl [(x0_, .inr (8, [.ref xb_, .ref ta_, .ref c1_, .ref d1_, .ref xt_, .int (nI tn_), .ref e1_, .ref r3_, .ref r1_, .ref q1_, .ref o1_, .ref h1_, .int ub_, .int db_, .ref xi_, .long tr_])), (xt_, .inl (cy 0, 200, .inl (tyF tx_ tn_ v_ n1_ 0)))] H := hP
      have hD : va_D A [(x0_, .inr (8, [.ref xb_, .ref ta_, .ref c1_, .ref d1_, .ref xt_, .int (nI tn_), .ref e1_, .ref r3_, .ref r1_, .ref q1_, .ref o1_, .ref h1_, .int ub_, .int db_, .ref xi_, .long tr_])), (xt_, .inl (cy 0, 200, .inl (tyF tx_ tn_ v_ n1_ 0)))] := hD
      exact L_32 _ 0 n1_ (Nat.zero_add _) (Nat.lt_succ_self _) H locs hP hD hS ls (lv_sub hl [0, 1, 2, 3] rfl)
    · refine lv_bipush (v := (-3)) hx hb dX8_type_24 (by decide) ?_
      have hno : ¬ okTy tn_ (nI n1_) := fun z => c_21 (by have z2 := z.2; rw [cl_n (by omega)] at z2; exact z2)
      obtain ⟨hP, hD⟩ := ob_ws (gs := [.ref xb_, .ref ta_, .ref c1_, .ref d1_, .ref xt_, .int (nI (n_tn tn_ (nI n1_))), .ref e1_, .ref r3_, .ref r1_, .ref q1_, .ref o1_, .ref h1_, .int ub_, .int db_, .ref xi_, .long tr_]) hP hD 0 rfl (cons_eq2 (rfl) (cons_eq2 (rfl) (cons_eq2 (rfl) (cons_eq2 (rfl) (cons_eq2 (rfl) (cons_eq2 (congrArg Value.int (show nI tn_ = nI (n_tn tn_ (nI n1_)) from by rw [n_tn, if_neg hno])) (rfl)))))))
      have hP : va_P D vwCl [(x0_, .inr (8, [.ref xb_, .ref ta_, .ref c1_, .ref d1_, .ref xt_, .int (nI (n_tn tn_ (nI n1_))), .ref e1_, .ref r3_, .ref r1_, .ref q1_, .ref o1_, .ref h1_, .int ub_, .int db_, .ref xi_, .long tr_])), (xt_, .inl (cy 0, 200, .inl tx_))] H := hP
      have hD : va_D A [(x0_, .inr (8, [.ref xb_, .ref ta_, .ref c1_, .ref d1_, .ref xt_, .int (nI (n_tn tn_ (nI n1_))), .ref e1_, .ref r3_, .ref r1_, .ref q1_, .ref o1_, .ref h1_, .int ub_, .int db_, .ref xi_, .long tr_])), (xt_, .inl (cy 0, 200, .inl tx_))] := hD
      obtain ⟨hP, hD⟩ := ro_ws (g := n_tx tx_ tn_ v_ (nI n1_)) hP hD 1 rfl (fun z9 _ => congrFun (show tx_ = n_tx tx_ tn_ v_ (nI n1_) from by rw [n_tx, if_neg hno]) z9)
      have hP : va_P D vwCl [(x0_, .inr (8, [.ref xb_, .ref ta_, .ref c1_, .ref d1_, .ref xt_, .int (nI (n_tn tn_ (nI n1_))), .ref e1_, .ref r3_, .ref r1_, .ref q1_, .ref o1_, .ref h1_, .int ub_, .int db_, .ref xi_, .long tr_])), (xt_, .inl (cy 0, 200, .inl (n_tx tx_ tn_ v_ (nI n1_))))] H := hP
      have hD : va_D A [(x0_, .inr (8, [.ref xb_, .ref ta_, .ref c1_, .ref d1_, .ref xt_, .int (nI (n_tn tn_ (nI n1_))), .ref e1_, .ref r3_, .ref r1_, .ref q1_, .ref o1_, .ref h1_, .int ub_, .int db_, .ref xi_, .long tr_])), (xt_, .inl (cy 0, 200, .inl (n_tx tx_ tn_ v_ (nI n1_))))] := hD
      refine lv_eqi (y := r_type tn_ (nI n1_)) (by rw [r_type, if_pos c_7, cl_n (by omega), if_neg c_21]) ?_
      exact RT _ _ () H locs 26 ls (rt_i dX8_type_26) rfl hP hD hS
  · refine lv_iconst (v := (-1)) hx hb dX8_type_10 (by decide) ?_
    obtain ⟨hP, hD⟩ := ob_ws (gs := [.ref xb_, .ref ta_, .ref c1_, .ref d1_, .ref xt_, .int (nI (n_tn tn_ n_)), .ref e1_, .ref r3_, .ref r1_, .ref q1_, .ref o1_, .ref h1_, .int ub_, .int db_, .ref xi_, .long tr_]) hP hD 0 rfl (cons_eq2 (rfl) (cons_eq2 (rfl) (cons_eq2 (rfl) (cons_eq2 (rfl) (cons_eq2 (rfl) (cons_eq2 (congrArg Value.int (show nI tn_ = nI (n_tn tn_ n_) from by rw [n_tn, if_neg (fun z => c_7 z.1)])) (rfl)))))))
    have hP : va_P D vwCl [(x0_, .inr (8, [.ref xb_, .ref ta_, .ref c1_, .ref d1_, .ref xt_, .int (nI (n_tn tn_ n_)), .ref e1_, .ref r3_, .ref r1_, .ref q1_, .ref o1_, .ref h1_, .int ub_, .int db_, .ref xi_, .long tr_])), (xt_, .inl (cy 0, 200, .inl tx_))] H := hP
    have hD : va_D A [(x0_, .inr (8, [.ref xb_, .ref ta_, .ref c1_, .ref d1_, .ref xt_, .int (nI (n_tn tn_ n_)), .ref e1_, .ref r3_, .ref r1_, .ref q1_, .ref o1_, .ref h1_, .int ub_, .int db_, .ref xi_, .long tr_])), (xt_, .inl (cy 0, 200, .inl tx_))] := hD
    obtain ⟨hP, hD⟩ := ro_ws (g := n_tx tx_ tn_ v_ n_) hP hD 1 rfl (fun z9 _ => congrFun (show tx_ = n_tx tx_ tn_ v_ n_ from by rw [n_tx, if_neg (fun z => c_7 z.1)]) z9)
    have hP : va_P D vwCl [(x0_, .inr (8, [.ref xb_, .ref ta_, .ref c1_, .ref d1_, .ref xt_, .int (nI (n_tn tn_ n_)), .ref e1_, .ref r3_, .ref r1_, .ref q1_, .ref o1_, .ref h1_, .int ub_, .int db_, .ref xi_, .long tr_])), (xt_, .inl (cy 0, 200, .inl (n_tx tx_ tn_ v_ n_)))] H := hP
    have hD : va_D A [(x0_, .inr (8, [.ref xb_, .ref ta_, .ref c1_, .ref d1_, .ref xt_, .int (nI (n_tn tn_ n_)), .ref e1_, .ref r3_, .ref r1_, .ref q1_, .ref o1_, .ref h1_, .int ub_, .int db_, .ref xi_, .long tr_])), (xt_, .inl (cy 0, 200, .inl (n_tx tx_ tn_ v_ n_)))] := hD
    refine lv_eqi (y := r_type tn_ n_) ((if_neg c_7).symm) ?_
    exact RT _ _ () H locs 11 ls (rt_i dX8_type_11) rfl hP hD hS
abbrev rmkX8_rider : Room := { frames := 9, cells := 0, slots := 0, locals := 198 }
set_option maxHeartbeats 4000000 in
set_option maxRecDepth 100000 in
theorem kX8_rider {l : Launch} {D : va_G} {cy : Nat → ClassId} {sa : Nat → Nat} (x0_ : Nat) (xb_ : Nat) (ta_ : Nat) (c1_ : Nat) (d1_ : Nat) (xt_ : Nat) (tl_ : Int32) (e1_ : Nat) (r3_ : Nat) (r1_ : Nat) (q1_ : Nat) (o1_ : Nat) (h1_ : Nat) (ub_ : Int32) (db_ : Int32) (xi_ : Nat) (tr_ : Int64) (tx_ : Nat → Int32) (n_ : Nat) (eb_ : Nat) (ln_ : Int32) (pl_ : Int32) (bg_ : Int32) (tk_ : Int32) (vl_ : Int32) (r4_ : Nat) (ld_ : Nat → Int32) (td_ : Int32) (r2_ : Nat) (lw_ : Nat → Int32) (tb_ : Int32) (hn : n_ ≤ 200) : CT (S := (Int32) × (Int32) × (Int32) × (Int32) × (Int32) × (Nat → Int32)) l D cy sa yX8_rider wsX8_rider rmkX8_rider [.ref x0_] [(x0_, .inr (8, [.ref xb_, .ref ta_, .ref c1_, .ref d1_, .ref xt_, .int (nI n_), .ref e1_, .ref r3_, .ref r1_, .ref q1_, .ref o1_, .ref h1_, .int ub_, .int db_, .ref xi_, .long tr_])), (e1_, .inr (5, [.ref eb_, .int ln_, .int pl_, .int bg_, .int tk_, .int vl_])), (xt_, .inl (cy 0, 200, .inl tx_)), (r3_, .inr (7, [.ref r4_, .int td_])), (r4_, .inl (cy 0, 5, .inl ld_)), (r1_, .inr (7, [.ref r2_, .int tb_])), (r2_, .inl (cy 0, 5, .inl lw_))] (fun v9 u9 => match u9 with | (pl2, bg2, tk2, vl2, td2, ld2) => v9 = some (.int (r_rider tx_ n_))) (fun u9 => match u9 with | (pl2, bg2, tk2, vl2, td2, ld2) => [(x0_, .inr (8, [.ref xb_, .ref ta_, .ref c1_, .ref d1_, .ref xt_, .int (nI (n_tl tx_ n_)), .ref e1_, .ref r3_, .ref r1_, .ref q1_, .ref o1_, .ref h1_, .int ub_, .int db_, .ref xi_, .long tr_])), (e1_, .inr (5, [.ref xt_, .int (nI n_), .int pl2, .int bg2, .int tk2, .int vl2])), (xt_, .inl (cy 0, 200, .inl tx_)), (r3_, .inr (7, [.ref r4_, .int td2])), (r4_, .inl (cy 0, 5, .inl ld2)), (r1_, .inr (7, [.ref r2_, .int (n_told tx_ n_ tb_)])), (r2_, .inl (cy 0, 5, .inl (n_law tx_ n_ lw_)))]) 0 0 := by
  refine CT.of cX8_rider 2 (some .int) (by decide +kernel) rfl (Nat.le_of_ble_eq_true rfl) ?_
  intro p e s m args below meth c A Q ls F hmn hK hE hA hP hD hS hl RT
  obtain ⟨hx, hb, hml, hown, hts⟩ := id F
  have winX8 : ∀ w ∈ u_ws RX8 TX8 16, w ∈ wsX8_rider := by decide +kernel
  have wf45 := hts (.fieldLink RX8 45 "SelfSteer" "reader" "LSelfSteer$Reader;") (by decide +kernel)
  have wf34 := hts (.fieldLink RX8 34 "SelfSteer" "text" "[I") (by decide +kernel)
  have wf38 := hts (.fieldLink RX8 38 "SelfSteer" "textLength" "I") (by decide +kernel)
  have wf52 := hts (.fieldLink RX8 52 "SelfSteer" "draft" "LSelfSteer$Rider;") (by decide +kernel)
  have wi_X5 := hts (.initialized RX5) (by decide +kernel)
  have wn_X5_faultOf := hts (.instanceMethod yX5_faultOf) (by decide +kernel)
  have we_X5_faultOf := hts (.selects RX5 yX5_faultOf yX5_faultOf) (by decide +kernel)
  have wf56 := hts (.fieldLink RX8 56 "SelfSteer" "theRider" "LSelfSteer$Rider;") (by decide +kernel)
  have wi_X7 := hts (.initialized RX7) (by decide +kernel)
  have wn_X7_copyFrom := hts (.instanceMethod yX7_copyFrom) (by decide +kernel)
  have we_X7_copyFrom := hts (.selects RX7 yX7_copyFrom yX7_copyFrom) (by decide +kernel)
  have wn_X7_itemCount := hts (.instanceMethod yX7_itemCount) (by decide +kernel)
  have we_X7_itemCount := hts (.selects RX7 yX7_itemCount yX7_itemCount) (by decide +kernel)
  have hl : lv_has ls 2 [(0, .ref x0_)] := hl
  have hP : va_P D vwCl [(x0_, .inr (8, [.ref xb_, .ref ta_, .ref c1_, .ref d1_, .ref xt_, .int (nI n_), .ref e1_, .ref r3_, .ref r1_, .ref q1_, .ref o1_, .ref h1_, .int ub_, .int db_, .ref xi_, .long tr_])), (e1_, .inr (5, [.ref eb_, .int ln_, .int pl_, .int bg_, .int tk_, .int vl_])), (xt_, .inl (cy 0, 200, .inl tx_)), (r3_, .inr (7, [.ref r4_, .int td_])), (r4_, .inl (cy 0, 5, .inl ld_)), (r1_, .inr (7, [.ref r2_, .int tb_])), (r2_, .inl (cy 0, 5, .inl lw_))] s.heap := hP
  have hD : va_D A [(x0_, .inr (8, [.ref xb_, .ref ta_, .ref c1_, .ref d1_, .ref xt_, .int (nI n_), .ref e1_, .ref r3_, .ref r1_, .ref q1_, .ref o1_, .ref h1_, .int ub_, .int db_, .ref xi_, .long tr_])), (e1_, .inr (5, [.ref eb_, .int ln_, .int pl_, .int bg_, .int tk_, .int vl_])), (xt_, .inl (cy 0, 200, .inl tx_)), (r3_, .inr (7, [.ref r4_, .int td_])), (r4_, .inl (cy 0, 5, .inl ld_)), (r1_, .inr (7, [.ref r2_, .int tb_])), (r2_, .inl (cy 0, 5, .inl lw_))] := hD
  obtain ⟨H, hH⟩ : ∃ H0 : Heap, H0 = s.heap := ⟨_, rfl⟩
  obtain ⟨locs, hlo⟩ : ∃ L0 : List Loc, L0 = [] := ⟨_, rfl⟩
  have hS : va_S A s.heap H locs := by rw [hH, hlo]; exact hS
  rw [← hH] at hP
  show W p l e rmkX8_rider s m args below meth c s.heap [] 0 0 Q (F0 m 0 ls [])
  suffices hgo : W p l e rmkX8_rider s m args below meth c H locs 0 0 Q (F0 m 0 ls []) by rw [hH, hlo] at hgo; exact hgo
  clear hH hlo
  refine lv_aload_n hx hb dX8_rider_0 rfl (lv_at hl 0 rfl) ?_
  refine va_get (D := D) (ci := 8) (v := .ref e1_) (C := RX8) (T := TX8) (N := 16) hx hb hts winX8 hown hK hP 0 rfl rfl 6 (by decide) wf45 (fun _ h9 => h9) rfl dX8_rider_1 ?_
  refine lv_aload_n hx hb dX8_rider_4 rfl (lv_at hl 0 rfl) ?_
  refine va_get (D := D) (ci := 8) (v := .ref xt_) (C := RX8) (T := TX8) (N := 16) hx hb hts winX8 hown hK hP 0 rfl rfl 4 (by decide) wf34 (fun _ h9 => h9) rfl dX8_rider_5 ?_
  refine lv_aload_n hx hb dX8_rider_8 rfl (lv_at hl 0 rfl) ?_
  refine va_get (D := D) (ci := 8) (v := .int (nI n_)) (C := RX8) (T := TX8) (N := 16) hx hb hts winX8 hown hK hP 0 rfl rfl 5 (by decide) wf38 (fun _ h9 => h9) rfl dX8_rider_9 ?_
  refine lv_aload_n hx hb dX8_rider_12 rfl (lv_at hl 0 rfl) ?_
  refine va_get (D := D) (ci := 8) (v := .ref r3_) (C := RX8) (T := TX8) (N := 16) hx hb hts winX8 hown hK hP 0 rfl rfl 7 (by decide) wf52 (fun _ h9 => h9) rfl dX8_rider_13 ?_
  refine ca_VN (C := RX5) (q0 := 1) (n := 3) (rest := []) (wr := [(x0_, .inr (8, [.ref xb_, .ref ta_, .ref c1_, .ref d1_, .ref xt_, .int (nI n_), .ref e1_, .ref r3_, .ref r1_, .ref q1_, .ref o1_, .ref h1_, .int ub_, .int db_, .ref xi_, .long tr_])), (r1_, .inr (7, [.ref r2_, .int tb_])), (r2_, .inl (cy 0, 5, .inl lw_))]) F hK hE hA hP hD hS hl.1 (kX5_faultOf (l := l) (D := D) (cy := cy) (sa := sa) e1_ xt_ n_ tx_ eb_ ln_ pl_ bg_ tk_ vl_ r3_ r4_ ld_ td_ (by first | assumption | omega | decide)) gX8_rider_X5_faultOf_n195 (hE.nest 53 rfl) wi_X5 wn_X5_faultOf we_X5_faultOf rfl rfl rfl rfl rfl rfl (by decide +kernel) ⟨by decide, by decide⟩ [1, 2, 3, 4] [0, 5, 6] rfl rfl rfl rfl (by decide) rfl rfl (Nat.le_of_ble_eq_true rfl) dX8_rider_16 ⟨by decide, by decide⟩ (fun v9 u9 H locs hv hP hD hS => ?_)
  obtain ⟨u16_pl2, u16_bg2, u16_tk2, u16_vl2, u16_tb2, u16_lw2⟩ := u9
  obtain ⟨hv, hhy_16⟩ := hv
  subst hv
  obtain ⟨hP, hD⟩ := re_ws (ws' := [(x0_, .inr (8, [.ref xb_, .ref ta_, .ref c1_, .ref d1_, .ref xt_, .int (nI n_), .ref e1_, .ref r3_, .ref r1_, .ref q1_, .ref o1_, .ref h1_, .int ub_, .int db_, .ref xi_, .long tr_])), (e1_, .inr (5, [.ref xt_, .int (nI n_), .int u16_pl2, .int u16_bg2, .int u16_tk2, .int u16_vl2])), (xt_, .inl (cy 0, 200, .inl tx_)), (r3_, .inr (7, [.ref r4_, .int u16_tb2])), (r4_, .inl (cy 0, 5, .inl u16_lw2)), (r1_, .inr (7, [.ref r2_, .int tb_])), (r2_, .inl (cy 0, 5, .inl lw_))]) hP hD [0, 3, 4, 5, 6, 1, 2] rfl rfl
  refine W.eq (g2 := F0 m 19 ls [.int (fvI (rdA tx_ n_).1)]) rfl ?_
  refine lv_istore_n (lv' := [(1, .int (fvI (rdA tx_ n_).1)), (0, .ref x0_)]) hx hb dX8_rider_19 rfl hl (by decide) rfl (fun ls hl => ?_)
  refine lv_iload_n hx hb dX8_rider_20 rfl (lv_at hl 0 rfl) ?_
  refine lv_if_lt (tgt := 29) hx hb dX8_rider_21 (by decide) (fun c_21 => ?_) (fun c_21 => ?_)
  · refine lv_aload_n hx hb dX8_rider_29 rfl (lv_at hl 1 rfl) ?_
    refine va_get (D := D) (ci := 8) (v := .ref r1_) (C := RX8) (T := TX8) (N := 16) hx hb hts winX8 hown hK hP 0 rfl rfl 8 (by decide) wf56 (fun _ h9 => h9) rfl dX8_rider_30 ?_
    refine lv_aload_n hx hb dX8_rider_33 rfl (lv_at hl 1 rfl) ?_
    refine va_get (D := D) (ci := 8) (v := .ref r3_) (C := RX8) (T := TX8) (N := 16) hx hb hts winX8 hown hK hP 0 rfl rfl 7 (by decide) wf52 (fun _ h9 => h9) rfl dX8_rider_34 ?_
    refine ca_VN (C := RX7) (q0 := 5) (n := 1) (rest := []) (wr := [(x0_, .inr (8, [.ref xb_, .ref ta_, .ref c1_, .ref d1_, .ref xt_, .int (nI n_), .ref e1_, .ref r3_, .ref r1_, .ref q1_, .ref o1_, .ref h1_, .int ub_, .int db_, .ref xi_, .long tr_])), (e1_, .inr (5, [.ref xt_, .int (nI n_), .int u16_pl2, .int u16_bg2, .int u16_tk2, .int u16_vl2])), (xt_, .inl (cy 0, 200, .inl tx_))]) F hK hE hA hP hD hS hl.1 (kX7_copyFrom (l := l) (D := D) (cy := cy) (sa := sa) r1_ r2_ lw_ tb_ r3_ r4_ u16_lw2 u16_tb2) gX8_rider_X7_copyFrom_n199 (hE.nest 61 rfl) wi_X7 wn_X7_copyFrom we_X7_copyFrom rfl rfl rfl rfl rfl rfl (by decide +kernel) ⟨by decide, by decide⟩ [5, 6, 3, 4] [0, 1, 2] rfl rfl rfl rfl (by decide) rfl rfl (Nat.le_of_ble_eq_true rfl) dX8_rider_37 ⟨by decide, by decide⟩ (fun v9 u9 H locs hv hP hD hS => ?_)
    subst hv
    obtain ⟨hP, hD⟩ := re_ws (ws' := [(x0_, .inr (8, [.ref xb_, .ref ta_, .ref c1_, .ref d1_, .ref xt_, .int (nI n_), .ref e1_, .ref r3_, .ref r1_, .ref q1_, .ref o1_, .ref h1_, .int ub_, .int db_, .ref xi_, .long tr_])), (e1_, .inr (5, [.ref xt_, .int (nI n_), .int u16_pl2, .int u16_bg2, .int u16_tk2, .int u16_vl2])), (xt_, .inl (cy 0, 200, .inl tx_)), (r3_, .inr (7, [.ref r4_, .int u16_tb2])), (r4_, .inl (cy 0, 5, .inl u16_lw2)), (r1_, .inr (7, [.ref r2_, .int u16_tb2])), (r2_, .inl (cy 0, 5, .inl u16_lw2))]) hP hD [0, 1, 2, 5, 6, 3, 4] rfl rfl
    refine W.eq (g2 := F0 m 40 ls []) rfl ?_
    refine lv_aload_n hx hb dX8_rider_40 rfl (lv_at hl 1 rfl) ?_
    refine lv_iconst (v := 0) hx hb dX8_rider_41 (by decide) ?_
    refine va_put (D := D) (ci := 8) (v := .int 0) (ty := .int) (C := RX8) (T := TX8) (N := 16) hx hb hts winX8 tyX8 tyX8_ok nmX8 hown hK hP hD hS 0 rfl rfl 5 (by decide) wf38 (fun _ h9 => h9) rfl (by decide +kernel) (rfl) (rfl) (Nat.le_of_ble_eq_true rfl) dX8_rider_42 (fun H locs hP hD hS => ?_)
    have hP : va_P D vwCl [(x0_, .inr (8, [.ref xb_, .ref ta_, .ref c1_, .ref d1_, .ref xt_, .int 0, .ref e1_, .ref r3_, .ref r1_, .ref q1_, .ref o1_, .ref h1_, .int ub_, .int db_, .ref xi_, .long tr_])), (e1_, .inr (5, [.ref xt_, .int (nI n_), .int u16_pl2, .int u16_bg2, .int u16_tk2, .int u16_vl2])), (xt_, .inl (cy 0, 200, .inl tx_)), (r3_, .inr (7, [.ref r4_, .int u16_tb2])), (r4_, .inl (cy 0, 5, .inl u16_lw2)), (r1_, .inr (7, [.ref r2_, .int u16_tb2])), (r2_, .inl (cy 0, 5, .inl u16_lw2))] H := hP
    have hD : va_D A [(x0_, .inr (8, [.ref xb_, .ref ta_, .ref c1_, .ref d1_, .ref xt_, .int 0, .ref e1_, .ref r3_, .ref r1_, .ref q1_, .ref o1_, .ref h1_, .int ub_, .int db_, .ref xi_, .long tr_])), (e1_, .inr (5, [.ref xt_, .int (nI n_), .int u16_pl2, .int u16_bg2, .int u16_tk2, .int u16_vl2])), (xt_, .inl (cy 0, 200, .inl tx_)), (r3_, .inr (7, [.ref r4_, .int u16_tb2])), (r4_, .inl (cy 0, 5, .inl u16_lw2)), (r1_, .inr (7, [.ref r2_, .int u16_tb2])), (r2_, .inl (cy 0, 5, .inl u16_lw2))] := hD
    refine lv_aload_n hx hb dX8_rider_45 rfl (lv_at hl 1 rfl) ?_
    refine va_get (D := D) (ci := 8) (v := .ref r1_) (C := RX8) (T := TX8) (N := 16) hx hb hts winX8 hown hK hP 0 rfl rfl 8 (by decide) wf56 (fun _ h9 => h9) rfl dX8_rider_46 ?_
    refine ca_VN (C := RX7) (q0 := 5) (n := 0) (rest := []) (wr := [(x0_, .inr (8, [.ref xb_, .ref ta_, .ref c1_, .ref d1_, .ref xt_, .int 0, .ref e1_, .ref r3_, .ref r1_, .ref q1_, .ref o1_, .ref h1_, .int ub_, .int db_, .ref xi_, .long tr_])), (e1_, .inr (5, [.ref xt_, .int (nI n_), .int u16_pl2, .int u16_bg2, .int u16_tk2, .int u16_vl2])), (xt_, .inl (cy 0, 200, .inl tx_)), (r3_, .inr (7, [.ref r4_, .int u16_tb2])), (r4_, .inl (cy 0, 5, .inl u16_lw2))]) F hK hE hA hP hD hS hl.1 (kX7_itemCount (l := l) (D := D) (cy := cy) (sa := sa) r1_ r2_ u16_lw2 u16_tb2) gX8_rider_X7_itemCount_n202 (hE.nest 62 rfl) wi_X7 wn_X7_itemCount we_X7_itemCount rfl rfl rfl rfl rfl rfl (by decide +kernel) ⟨by decide, by decide⟩ [5, 6] [0, 1, 2, 3, 4] rfl rfl rfl rfl (by decide) rfl rfl (Nat.le_of_ble_eq_true rfl) dX8_rider_49 ⟨by decide, by decide⟩ (fun v9 u9 H locs hv hP hD hS => ?_)
    subst hv
    obtain ⟨hP, hD⟩ := re_ws (ws' := [(x0_, .inr (8, [.ref xb_, .ref ta_, .ref c1_, .ref d1_, .ref xt_, .int 0, .ref e1_, .ref r3_, .ref r1_, .ref q1_, .ref o1_, .ref h1_, .int ub_, .int db_, .ref xi_, .long tr_])), (e1_, .inr (5, [.ref xt_, .int (nI n_), .int u16_pl2, .int u16_bg2, .int u16_tk2, .int u16_vl2])), (xt_, .inl (cy 0, 200, .inl tx_)), (r3_, .inr (7, [.ref r4_, .int u16_tb2])), (r4_, .inl (cy 0, 5, .inl u16_lw2)), (r1_, .inr (7, [.ref r2_, .int u16_tb2])), (r2_, .inl (cy 0, 5, .inl u16_lw2))]) hP hD [0, 1, 2, 3, 4, 5, 6] rfl rfl
    refine W.eq (g2 := F0 m 52 ls [.int (pc32 u16_tb2)]) rfl ?_
    have hok := fv_none c_21 (fun z hz => Nat.le_trans (rd_le _ _ _ _ (Nat.zero_le _) z hz) hn)
    obtain ⟨hP, hD⟩ := ob_ws (gs := [.ref xb_, .ref ta_, .ref c1_, .ref d1_, .ref xt_, .int (nI (n_tl tx_ n_)), .ref e1_, .ref r3_, .ref r1_, .ref q1_, .ref o1_, .ref h1_, .int ub_, .int db_, .ref xi_, .long tr_]) hP hD 0 rfl (cons_eq2 (rfl) (cons_eq2 (rfl) (cons_eq2 (rfl) (cons_eq2 (rfl) (cons_eq2 (rfl) (cons_eq2 (congrArg Value.int (show 0 = nI (n_tl tx_ n_) from by rw [n_tl, if_pos hok]; rfl)) (rfl)))))))
    have hP : va_P D vwCl [(x0_, .inr (8, [.ref xb_, .ref ta_, .ref c1_, .ref d1_, .ref xt_, .int (nI (n_tl tx_ n_)), .ref e1_, .ref r3_, .ref r1_, .ref q1_, .ref o1_, .ref h1_, .int ub_, .int db_, .ref xi_, .long tr_])), (e1_, .inr (5, [.ref xt_, .int (nI n_), .int u16_pl2, .int u16_bg2, .int u16_tk2, .int u16_vl2])), (xt_, .inl (cy 0, 200, .inl tx_)), (r3_, .inr (7, [.ref r4_, .int u16_tb2])), (r4_, .inl (cy 0, 5, .inl u16_lw2)), (r1_, .inr (7, [.ref r2_, .int u16_tb2])), (r2_, .inl (cy 0, 5, .inl u16_lw2))] H := hP
    have hD : va_D A [(x0_, .inr (8, [.ref xb_, .ref ta_, .ref c1_, .ref d1_, .ref xt_, .int (nI (n_tl tx_ n_)), .ref e1_, .ref r3_, .ref r1_, .ref q1_, .ref o1_, .ref h1_, .int ub_, .int db_, .ref xi_, .long tr_])), (e1_, .inr (5, [.ref xt_, .int (nI n_), .int u16_pl2, .int u16_bg2, .int u16_tk2, .int u16_vl2])), (xt_, .inl (cy 0, 200, .inl tx_)), (r3_, .inr (7, [.ref r4_, .int u16_tb2])), (r4_, .inl (cy 0, 5, .inl u16_lw2)), (r1_, .inr (7, [.ref r2_, .int u16_tb2])), (r2_, .inl (cy 0, 5, .inl u16_lw2))] := hD
    obtain ⟨hP, hD⟩ := ob_ws (gs := [.ref r2_, .int (n_told tx_ n_ tb_)]) hP hD 5 rfl (cons_eq2 (rfl) (cons_eq2 (congrArg Value.int (show u16_tb2 = n_told tx_ n_ tb_ from by rw [n_told, if_pos hok, (hhy_16 hok).1])) (rfl)))
    have hP : va_P D vwCl [(x0_, .inr (8, [.ref xb_, .ref ta_, .ref c1_, .ref d1_, .ref xt_, .int (nI (n_tl tx_ n_)), .ref e1_, .ref r3_, .ref r1_, .ref q1_, .ref o1_, .ref h1_, .int ub_, .int db_, .ref xi_, .long tr_])), (e1_, .inr (5, [.ref xt_, .int (nI n_), .int u16_pl2, .int u16_bg2, .int u16_tk2, .int u16_vl2])), (xt_, .inl (cy 0, 200, .inl tx_)), (r3_, .inr (7, [.ref r4_, .int u16_tb2])), (r4_, .inl (cy 0, 5, .inl u16_lw2)), (r1_, .inr (7, [.ref r2_, .int (n_told tx_ n_ tb_)])), (r2_, .inl (cy 0, 5, .inl u16_lw2))] H := hP
    have hD : va_D A [(x0_, .inr (8, [.ref xb_, .ref ta_, .ref c1_, .ref d1_, .ref xt_, .int (nI (n_tl tx_ n_)), .ref e1_, .ref r3_, .ref r1_, .ref q1_, .ref o1_, .ref h1_, .int ub_, .int db_, .ref xi_, .long tr_])), (e1_, .inr (5, [.ref xt_, .int (nI n_), .int u16_pl2, .int u16_bg2, .int u16_tk2, .int u16_vl2])), (xt_, .inl (cy 0, 200, .inl tx_)), (r3_, .inr (7, [.ref r4_, .int u16_tb2])), (r4_, .inl (cy 0, 5, .inl u16_lw2)), (r1_, .inr (7, [.ref r2_, .int (n_told tx_ n_ tb_)])), (r2_, .inl (cy 0, 5, .inl u16_lw2))] := hD
    obtain ⟨hP, hD⟩ := ro_ws (g := n_law tx_ n_ lw_) hP hD 6 rfl (fun z9 _ => congrFun (show u16_lw2 = n_law tx_ n_ lw_ from by rw [n_law, if_pos hok, (hhy_16 hok).2]) z9)
    have hP : va_P D vwCl [(x0_, .inr (8, [.ref xb_, .ref ta_, .ref c1_, .ref d1_, .ref xt_, .int (nI (n_tl tx_ n_)), .ref e1_, .ref r3_, .ref r1_, .ref q1_, .ref o1_, .ref h1_, .int ub_, .int db_, .ref xi_, .long tr_])), (e1_, .inr (5, [.ref xt_, .int (nI n_), .int u16_pl2, .int u16_bg2, .int u16_tk2, .int u16_vl2])), (xt_, .inl (cy 0, 200, .inl tx_)), (r3_, .inr (7, [.ref r4_, .int u16_tb2])), (r4_, .inl (cy 0, 5, .inl u16_lw2)), (r1_, .inr (7, [.ref r2_, .int (n_told tx_ n_ tb_)])), (r2_, .inl (cy 0, 5, .inl (n_law tx_ n_ lw_)))] H := hP
    have hD : va_D A [(x0_, .inr (8, [.ref xb_, .ref ta_, .ref c1_, .ref d1_, .ref xt_, .int (nI (n_tl tx_ n_)), .ref e1_, .ref r3_, .ref r1_, .ref q1_, .ref o1_, .ref h1_, .int ub_, .int db_, .ref xi_, .long tr_])), (e1_, .inr (5, [.ref xt_, .int (nI n_), .int u16_pl2, .int u16_bg2, .int u16_tk2, .int u16_vl2])), (xt_, .inl (cy 0, 200, .inl tx_)), (r3_, .inr (7, [.ref r4_, .int u16_tb2])), (r4_, .inl (cy 0, 5, .inl u16_lw2)), (r1_, .inr (7, [.ref r2_, .int (n_told tx_ n_ tb_)])), (r2_, .inl (cy 0, 5, .inl (n_law tx_ n_ lw_)))] := hD
    refine lv_eqi (y := r_rider tx_ n_) (by rw [r_rider, if_pos hok, (hhy_16 hok).1]) ?_
    exact RT _ _ (u16_pl2, u16_bg2, u16_tk2, u16_vl2, u16_tb2, u16_lw2) H locs 52 ls (rt_i dX8_rider_52) rfl hP hD hS
  · refine lv_bipush (v := (-10)) hx hb dX8_rider_24 (by decide) ?_
    refine lv_iload_n hx hb dX8_rider_26 rfl (lv_at hl 0 rfl) ?_
    refine lv_isub hx hb dX8_rider_27 ?_
    have hno := fv_some c_21
    obtain ⟨hP, hD⟩ := ob_ws (gs := [.ref xb_, .ref ta_, .ref c1_, .ref d1_, .ref xt_, .int (nI (n_tl tx_ n_)), .ref e1_, .ref r3_, .ref r1_, .ref q1_, .ref o1_, .ref h1_, .int ub_, .int db_, .ref xi_, .long tr_]) hP hD 0 rfl (cons_eq2 (rfl) (cons_eq2 (rfl) (cons_eq2 (rfl) (cons_eq2 (rfl) (cons_eq2 (rfl) (cons_eq2 (congrArg Value.int (show nI n_ = nI (n_tl tx_ n_) from by rw [n_tl, if_neg hno])) (rfl)))))))
    have hP : va_P D vwCl [(x0_, .inr (8, [.ref xb_, .ref ta_, .ref c1_, .ref d1_, .ref xt_, .int (nI (n_tl tx_ n_)), .ref e1_, .ref r3_, .ref r1_, .ref q1_, .ref o1_, .ref h1_, .int ub_, .int db_, .ref xi_, .long tr_])), (e1_, .inr (5, [.ref xt_, .int (nI n_), .int u16_pl2, .int u16_bg2, .int u16_tk2, .int u16_vl2])), (xt_, .inl (cy 0, 200, .inl tx_)), (r3_, .inr (7, [.ref r4_, .int u16_tb2])), (r4_, .inl (cy 0, 5, .inl u16_lw2)), (r1_, .inr (7, [.ref r2_, .int tb_])), (r2_, .inl (cy 0, 5, .inl lw_))] H := hP
    have hD : va_D A [(x0_, .inr (8, [.ref xb_, .ref ta_, .ref c1_, .ref d1_, .ref xt_, .int (nI (n_tl tx_ n_)), .ref e1_, .ref r3_, .ref r1_, .ref q1_, .ref o1_, .ref h1_, .int ub_, .int db_, .ref xi_, .long tr_])), (e1_, .inr (5, [.ref xt_, .int (nI n_), .int u16_pl2, .int u16_bg2, .int u16_tk2, .int u16_vl2])), (xt_, .inl (cy 0, 200, .inl tx_)), (r3_, .inr (7, [.ref r4_, .int u16_tb2])), (r4_, .inl (cy 0, 5, .inl u16_lw2)), (r1_, .inr (7, [.ref r2_, .int tb_])), (r2_, .inl (cy 0, 5, .inl lw_))] := hD
    obtain ⟨hP, hD⟩ := ob_ws (gs := [.ref r2_, .int (n_told tx_ n_ tb_)]) hP hD 5 rfl (cons_eq2 (rfl) (cons_eq2 (congrArg Value.int (show tb_ = n_told tx_ n_ tb_ from by rw [n_told, if_neg hno])) (rfl)))
    have hP : va_P D vwCl [(x0_, .inr (8, [.ref xb_, .ref ta_, .ref c1_, .ref d1_, .ref xt_, .int (nI (n_tl tx_ n_)), .ref e1_, .ref r3_, .ref r1_, .ref q1_, .ref o1_, .ref h1_, .int ub_, .int db_, .ref xi_, .long tr_])), (e1_, .inr (5, [.ref xt_, .int (nI n_), .int u16_pl2, .int u16_bg2, .int u16_tk2, .int u16_vl2])), (xt_, .inl (cy 0, 200, .inl tx_)), (r3_, .inr (7, [.ref r4_, .int u16_tb2])), (r4_, .inl (cy 0, 5, .inl u16_lw2)), (r1_, .inr (7, [.ref r2_, .int (n_told tx_ n_ tb_)])), (r2_, .inl (cy 0, 5, .inl lw_))] H := hP
    have hD : va_D A [(x0_, .inr (8, [.ref xb_, .ref ta_, .ref c1_, .ref d1_, .ref xt_, .int (nI (n_tl tx_ n_)), .ref e1_, .ref r3_, .ref r1_, .ref q1_, .ref o1_, .ref h1_, .int ub_, .int db_, .ref xi_, .long tr_])), (e1_, .inr (5, [.ref xt_, .int (nI n_), .int u16_pl2, .int u16_bg2, .int u16_tk2, .int u16_vl2])), (xt_, .inl (cy 0, 200, .inl tx_)), (r3_, .inr (7, [.ref r4_, .int u16_tb2])), (r4_, .inl (cy 0, 5, .inl u16_lw2)), (r1_, .inr (7, [.ref r2_, .int (n_told tx_ n_ tb_)])), (r2_, .inl (cy 0, 5, .inl lw_))] := hD
    obtain ⟨hP, hD⟩ := ro_ws (g := n_law tx_ n_ lw_) hP hD 6 rfl (fun z9 _ => congrFun (show lw_ = n_law tx_ n_ lw_ from by rw [n_law, if_neg hno]) z9)
    have hP : va_P D vwCl [(x0_, .inr (8, [.ref xb_, .ref ta_, .ref c1_, .ref d1_, .ref xt_, .int (nI (n_tl tx_ n_)), .ref e1_, .ref r3_, .ref r1_, .ref q1_, .ref o1_, .ref h1_, .int ub_, .int db_, .ref xi_, .long tr_])), (e1_, .inr (5, [.ref xt_, .int (nI n_), .int u16_pl2, .int u16_bg2, .int u16_tk2, .int u16_vl2])), (xt_, .inl (cy 0, 200, .inl tx_)), (r3_, .inr (7, [.ref r4_, .int u16_tb2])), (r4_, .inl (cy 0, 5, .inl u16_lw2)), (r1_, .inr (7, [.ref r2_, .int (n_told tx_ n_ tb_)])), (r2_, .inl (cy 0, 5, .inl (n_law tx_ n_ lw_)))] H := hP
    have hD : va_D A [(x0_, .inr (8, [.ref xb_, .ref ta_, .ref c1_, .ref d1_, .ref xt_, .int (nI (n_tl tx_ n_)), .ref e1_, .ref r3_, .ref r1_, .ref q1_, .ref o1_, .ref h1_, .int ub_, .int db_, .ref xi_, .long tr_])), (e1_, .inr (5, [.ref xt_, .int (nI n_), .int u16_pl2, .int u16_bg2, .int u16_tk2, .int u16_vl2])), (xt_, .inl (cy 0, 200, .inl tx_)), (r3_, .inr (7, [.ref r4_, .int u16_tb2])), (r4_, .inl (cy 0, 5, .inl u16_lw2)), (r1_, .inr (7, [.ref r2_, .int (n_told tx_ n_ tb_)])), (r2_, .inl (cy 0, 5, .inl (n_law tx_ n_ lw_)))] := hD
    refine lv_eqi (y := r_rider tx_ n_) (by rw [r_rider, if_neg hno]) ?_
    exact RT _ _ (u16_pl2, u16_bg2, u16_tk2, u16_vl2, u16_tb2, u16_lw2) H locs 28 ls (rt_i dX8_rider_28) rfl hP hD hS
