abbrev rmkX4_take : Room := { frames := 2, cells := 0, slots := 0, locals := 61 }
set_option maxHeartbeats 4000000 in
set_option maxRecDepth 100000 in
theorem kX4_take {l : Launch} {D : va_G} {cy : Nat → ClassId} {sa : Nat → Nat} (i1_ : Nat) (w1_ : Nat) (w2_ : Nat) (w3_ : Nat) (w4_ : Nat) (sg_ : Nat → Int32) (tm_ : Nat) (ql_ : Nat → Int32) (qp_ : Nat → Int32) (qb_ : Nat → Int32) (g1_ : Nat) (g2_ : Nat) (g3_ : Nat) (gv_ : Nat → Int32) (gw_ : Nat → Int32) (kk_ : Int32) (q1_ : Nat) (q2_ : Nat) (q3_ : Nat) (q4_ : Nat) (sf_ : Nat → Int32) (tn_ : Nat) (pl_ : Nat → Int32) (pp_ : Nat → Int32) (pb_ : Nat → Int32) (h1_ : Nat) (h2_ : Nat) (h3_ : Nat) (hv_ : Nat → Int32) (hw_ : Nat → Int32) (hs2 : sf_ 2 = 0 ∨ sf_ 2 = 1) (hs8 : sf_ 8 = 0 ∨ sf_ 8 = 1) (hbz : ∀ z, z < 2 → vp_nar .boolean (hw_ z) = hw_ z) : CD l D cy sa yX4_take wsX4_take rmkX4_take [.ref i1_, .ref q1_, .ref h1_] [(i1_, .inr (4, [.ref w1_, .ref g1_, .int kk_])), (w1_, .inr (6, [.int (sg_ 0), .int (sg_ 1), .int (sg_ 2), .int (sg_ 3), .int (sg_ 4), .int (sg_ 5), .int (sg_ 6), .int (sg_ 9), .int (nI tm_), .int (sg_ 8), .ref w2_, .ref w3_, .ref w4_])), (w2_, .inl (cy 0, 6, .inl ql_)), (w3_, .inl (cy 0, 6, .inl qp_)), (w4_, .inl (cy 0, 6, .inl qb_)), (g1_, .inr (3, [.ref g2_, .ref g3_])), (g2_, .inl (cy 0, 2, .inl gv_)), (g3_, .inl (cy 1, 2, .inl gw_)), (q1_, .inr (6, [.int (sf_ 0), .int (sf_ 1), .int (sf_ 2), .int (sf_ 3), .int (sf_ 4), .int (sf_ 5), .int (sf_ 6), .int (sf_ 9), .int (nI tn_), .int (sf_ 8), .ref q2_, .ref q3_, .ref q4_])), (q2_, .inl (cy 0, 6, .inl pl_)), (q3_, .inl (cy 0, 6, .inl pp_)), (q4_, .inl (cy 0, 6, .inl pb_)), (h1_, .inr (3, [.ref h2_, .ref h3_])), (h2_, .inl (cy 0, 2, .inl hv_)), (h3_, .inl (cy 1, 2, .inl hw_))] (none) [(i1_, .inr (4, [.ref w1_, .ref g1_, .int 1])), (w1_, .inr (6, [.int (sf_ 0), .int (sf_ 1), .int (sf_ 2), .int (sf_ 3), .int (sf_ 4), .int (sf_ 5), .int (sf_ 6), .int (sf_ 9), .int (nI tn_), .int (sf_ 8), .ref w2_, .ref w3_, .ref w4_])), (w2_, .inl (cy 0, 6, .inl pl_)), (w3_, .inl (cy 0, 6, .inl pp_)), (w4_, .inl (cy 0, 6, .inl pb_)), (g1_, .inr (3, [.ref g2_, .ref g3_])), (g2_, .inl (cy 0, 2, .inl hv_)), (g3_, .inl (cy 1, 2, .inl hw_)), (q1_, .inr (6, [.int (sf_ 0), .int (sf_ 1), .int (sf_ 2), .int (sf_ 3), .int (sf_ 4), .int (sf_ 5), .int (sf_ 6), .int (sf_ 9), .int (nI tn_), .int (sf_ 8), .ref q2_, .ref q3_, .ref q4_])), (q2_, .inl (cy 0, 6, .inl pl_)), (q3_, .inl (cy 0, 6, .inl pp_)), (q4_, .inl (cy 0, 6, .inl pb_)), (h1_, .inr (3, [.ref h2_, .ref h3_])), (h2_, .inl (cy 0, 2, .inl hv_)), (h3_, .inl (cy 1, 2, .inl hw_))] := by
  refine CT.of cX4_take 3 none (by decide +kernel) rfl (Nat.le_of_ble_eq_true rfl) ?_
  intro p e s m args below meth c A Q ls F hmn hK hE hA hP hD hS hl RT
  obtain ⟨hx, hb, hml, hown, hts⟩ := id F
  have winX4 : ∀ w ∈ u_ws RX4 TX4 3, w ∈ wsX4_take := by decide +kernel
  have wf10 := hts (.fieldLink RX4 10 "SelfSteer$Image" "ride" "LSelfSteer$Ride;") (by decide +kernel)
  have wi_X6 := hts (.initialized RX6) (by decide +kernel)
  have wn_X6_copyFrom := hts (.instanceMethod yX6_copyFrom) (by decide +kernel)
  have we_X6_copyFrom := hts (.selects RX6 yX6_copyFrom yX6_copyFrom) (by decide +kernel)
  have wf19 := hts (.fieldLink RX4 19 "SelfSteer$Image" "habits" "LSelfSteer$Habits;") (by decide +kernel)
  have wi_X3 := hts (.initialized RX3) (by decide +kernel)
  have wn_X3_copyFrom := hts (.instanceMethod yX3_copyFrom) (by decide +kernel)
  have we_X3_copyFrom := hts (.selects RX3 yX3_copyFrom yX3_copyFrom) (by decide +kernel)
  have wf23 := hts (.fieldLink RX4 23 "SelfSteer$Image" "kept" "Z") (by decide +kernel)
  have hl : lv_has ls 3 [(0, .ref i1_), (1, .ref q1_), (2, .ref h1_)] := hl
  have hP : va_P D vwCl [(i1_, .inr (4, [.ref w1_, .ref g1_, .int kk_])), (w1_, .inr (6, [.int (sg_ 0), .int (sg_ 1), .int (sg_ 2), .int (sg_ 3), .int (sg_ 4), .int (sg_ 5), .int (sg_ 6), .int (sg_ 9), .int (nI tm_), .int (sg_ 8), .ref w2_, .ref w3_, .ref w4_])), (w2_, .inl (cy 0, 6, .inl ql_)), (w3_, .inl (cy 0, 6, .inl qp_)), (w4_, .inl (cy 0, 6, .inl qb_)), (g1_, .inr (3, [.ref g2_, .ref g3_])), (g2_, .inl (cy 0, 2, .inl gv_)), (g3_, .inl (cy 1, 2, .inl gw_)), (q1_, .inr (6, [.int (sf_ 0), .int (sf_ 1), .int (sf_ 2), .int (sf_ 3), .int (sf_ 4), .int (sf_ 5), .int (sf_ 6), .int (sf_ 9), .int (nI tn_), .int (sf_ 8), .ref q2_, .ref q3_, .ref q4_])), (q2_, .inl (cy 0, 6, .inl pl_)), (q3_, .inl (cy 0, 6, .inl pp_)), (q4_, .inl (cy 0, 6, .inl pb_)), (h1_, .inr (3, [.ref h2_, .ref h3_])), (h2_, .inl (cy 0, 2, .inl hv_)), (h3_, .inl (cy 1, 2, .inl hw_))] s.heap := hP
  have hD : va_D A [(i1_, .inr (4, [.ref w1_, .ref g1_, .int kk_])), (w1_, .inr (6, [.int (sg_ 0), .int (sg_ 1), .int (sg_ 2), .int (sg_ 3), .int (sg_ 4), .int (sg_ 5), .int (sg_ 6), .int (sg_ 9), .int (nI tm_), .int (sg_ 8), .ref w2_, .ref w3_, .ref w4_])), (w2_, .inl (cy 0, 6, .inl ql_)), (w3_, .inl (cy 0, 6, .inl qp_)), (w4_, .inl (cy 0, 6, .inl qb_)), (g1_, .inr (3, [.ref g2_, .ref g3_])), (g2_, .inl (cy 0, 2, .inl gv_)), (g3_, .inl (cy 1, 2, .inl gw_)), (q1_, .inr (6, [.int (sf_ 0), .int (sf_ 1), .int (sf_ 2), .int (sf_ 3), .int (sf_ 4), .int (sf_ 5), .int (sf_ 6), .int (sf_ 9), .int (nI tn_), .int (sf_ 8), .ref q2_, .ref q3_, .ref q4_])), (q2_, .inl (cy 0, 6, .inl pl_)), (q3_, .inl (cy 0, 6, .inl pp_)), (q4_, .inl (cy 0, 6, .inl pb_)), (h1_, .inr (3, [.ref h2_, .ref h3_])), (h2_, .inl (cy 0, 2, .inl hv_)), (h3_, .inl (cy 1, 2, .inl hw_))] := hD
  obtain ⟨H, hH⟩ : ∃ H0 : Heap, H0 = s.heap := ⟨_, rfl⟩
  obtain ⟨locs, hlo⟩ : ∃ L0 : List Loc, L0 = [] := ⟨_, rfl⟩
  have hS : va_S A s.heap H locs := by rw [hH, hlo]; exact hS
  rw [← hH] at hP
  show W p l e rmkX4_take s m args below meth c s.heap [] 0 0 Q (F0 m 0 ls [])
  suffices hgo : W p l e rmkX4_take s m args below meth c H locs 0 0 Q (F0 m 0 ls []) by rw [hH, hlo] at hgo; exact hgo
  clear hH hlo
  refine lv_aload_n hx hb dX4_take_0 rfl (lv_at hl 0 rfl) ?_
  refine va_get (D := D) (ci := 4) (v := .ref w1_) (C := RX4) (T := TX4) (N := 3) hx hb hts winX4 hown hK hP 0 rfl rfl 0 (by decide) wf10 (fun _ h9 => h9) rfl dX4_take_1 ?_
  refine lv_aload_n hx hb dX4_take_4 rfl (lv_at hl 1 rfl) ?_
  refine ca_VN (C := RX6) (q0 := 1) (n := 1) (rest := []) (wr := [(i1_, .inr (4, [.ref w1_, .ref g1_, .int kk_])), (g1_, .inr (3, [.ref g2_, .ref g3_])), (g2_, .inl (cy 0, 2, .inl gv_)), (g3_, .inl (cy 1, 2, .inl gw_)), (h1_, .inr (3, [.ref h2_, .ref h3_])), (h2_, .inl (cy 0, 2, .inl hv_)), (h3_, .inl (cy 1, 2, .inl hw_))]) F hK hE hA hP hD hS hl.1 (kX6_copyFrom (l := l) (D := D) (cy := cy) (sa := sa) w1_ w2_ w3_ w4_ (sg_ 0) (sg_ 1) (sg_ 2) (sg_ 3) (sg_ 4) (sg_ 5) (sg_ 6) (sg_ 9) (nI tm_) (sg_ 8) ql_ qp_ qb_ q1_ q2_ q3_ q4_ sf_ tn_ pl_ pp_ pb_ (by first | assumption | omega | decide) (by first | assumption | omega | decide)) gX4_take_X6_copyFrom_n27 (hE.nest 72 rfl) wi_X6 wn_X6_copyFrom we_X6_copyFrom rfl rfl rfl rfl rfl rfl (by decide +kernel) ⟨by decide, by decide⟩ [1, 2, 3, 4, 8, 9, 10, 11] [0, 5, 6, 7, 12, 13, 14] rfl rfl rfl rfl (by decide) rfl rfl (Nat.le_of_ble_eq_true rfl) dX4_take_5 ⟨by decide, by decide⟩ (fun v9 u9 H locs hv_ hP hD hS => ?_)
  subst hv_
  obtain ⟨hP, hD⟩ := re_ws (ws' := [(i1_, .inr (4, [.ref w1_, .ref g1_, .int kk_])), (w1_, .inr (6, [.int (sf_ 0), .int (sf_ 1), .int (sf_ 2), .int (sf_ 3), .int (sf_ 4), .int (sf_ 5), .int (sf_ 6), .int (sf_ 9), .int (nI tn_), .int (sf_ 8), .ref w2_, .ref w3_, .ref w4_])), (w2_, .inl (cy 0, 6, .inl pl_)), (w3_, .inl (cy 0, 6, .inl pp_)), (w4_, .inl (cy 0, 6, .inl pb_)), (g1_, .inr (3, [.ref g2_, .ref g3_])), (g2_, .inl (cy 0, 2, .inl gv_)), (g3_, .inl (cy 1, 2, .inl gw_)), (q1_, .inr (6, [.int (sf_ 0), .int (sf_ 1), .int (sf_ 2), .int (sf_ 3), .int (sf_ 4), .int (sf_ 5), .int (sf_ 6), .int (sf_ 9), .int (nI tn_), .int (sf_ 8), .ref q2_, .ref q3_, .ref q4_])), (q2_, .inl (cy 0, 6, .inl pl_)), (q3_, .inl (cy 0, 6, .inl pp_)), (q4_, .inl (cy 0, 6, .inl pb_)), (h1_, .inr (3, [.ref h2_, .ref h3_])), (h2_, .inl (cy 0, 2, .inl hv_)), (h3_, .inl (cy 1, 2, .inl hw_))]) hP hD [0, 7, 8, 9, 10, 1, 2, 3, 11, 12, 13, 14, 4, 5, 6] rfl rfl
  refine W.eq (g2 := F0 m 8 ls []) rfl ?_
  refine lv_aload_n hx hb dX4_take_8 rfl (lv_at hl 0 rfl) ?_
  refine va_get (D := D) (ci := 4) (v := .ref g1_) (C := RX4) (T := TX4) (N := 3) hx hb hts winX4 hown hK hP 0 rfl rfl 1 (by decide) wf19 (fun _ h9 => h9) rfl dX4_take_9 ?_
  refine lv_aload_n hx hb dX4_take_12 rfl (lv_at hl 2 rfl) ?_
  refine ca_VN (C := RX3) (q0 := 5) (n := 1) (rest := []) (wr := [(i1_, .inr (4, [.ref w1_, .ref g1_, .int kk_])), (w1_, .inr (6, [.int (sf_ 0), .int (sf_ 1), .int (sf_ 2), .int (sf_ 3), .int (sf_ 4), .int (sf_ 5), .int (sf_ 6), .int (sf_ 9), .int (nI tn_), .int (sf_ 8), .ref w2_, .ref w3_, .ref w4_])), (w2_, .inl (cy 0, 6, .inl pl_)), (w3_, .inl (cy 0, 6, .inl pp_)), (w4_, .inl (cy 0, 6, .inl pb_)), (q1_, .inr (6, [.int (sf_ 0), .int (sf_ 1), .int (sf_ 2), .int (sf_ 3), .int (sf_ 4), .int (sf_ 5), .int (sf_ 6), .int (sf_ 9), .int (nI tn_), .int (sf_ 8), .ref q2_, .ref q3_, .ref q4_])), (q2_, .inl (cy 0, 6, .inl pl_)), (q3_, .inl (cy 0, 6, .inl pp_)), (q4_, .inl (cy 0, 6, .inl pb_))]) F hK hE hA hP hD hS hl.1 (kX3_copyFrom (l := l) (D := D) (cy := cy) (sa := sa) g1_ g2_ g3_ gv_ gw_ h1_ h2_ h3_ hv_ hw_ (by first | assumption | omega | decide)) gX4_take_X3_copyFrom_n31 (hE.nest 73 rfl) wi_X3 wn_X3_copyFrom we_X3_copyFrom rfl rfl rfl rfl rfl rfl (by decide +kernel) ⟨by decide, by decide⟩ [5, 6, 7, 12, 13, 14] [0, 1, 2, 3, 4, 8, 9, 10, 11] rfl rfl rfl rfl (by decide) rfl rfl (Nat.le_of_ble_eq_true rfl) dX4_take_13 ⟨by decide, by decide⟩ (fun v9 u9 H locs hv_ hP hD hS => ?_)
  subst hv_
  obtain ⟨hP, hD⟩ := re_ws (ws' := [(i1_, .inr (4, [.ref w1_, .ref g1_, .int kk_])), (w1_, .inr (6, [.int (sf_ 0), .int (sf_ 1), .int (sf_ 2), .int (sf_ 3), .int (sf_ 4), .int (sf_ 5), .int (sf_ 6), .int (sf_ 9), .int (nI tn_), .int (sf_ 8), .ref w2_, .ref w3_, .ref w4_])), (w2_, .inl (cy 0, 6, .inl pl_)), (w3_, .inl (cy 0, 6, .inl pp_)), (w4_, .inl (cy 0, 6, .inl pb_)), (g1_, .inr (3, [.ref g2_, .ref g3_])), (g2_, .inl (cy 0, 2, .inl hv_)), (g3_, .inl (cy 1, 2, .inl hw_)), (q1_, .inr (6, [.int (sf_ 0), .int (sf_ 1), .int (sf_ 2), .int (sf_ 3), .int (sf_ 4), .int (sf_ 5), .int (sf_ 6), .int (sf_ 9), .int (nI tn_), .int (sf_ 8), .ref q2_, .ref q3_, .ref q4_])), (q2_, .inl (cy 0, 6, .inl pl_)), (q3_, .inl (cy 0, 6, .inl pp_)), (q4_, .inl (cy 0, 6, .inl pb_)), (h1_, .inr (3, [.ref h2_, .ref h3_])), (h2_, .inl (cy 0, 2, .inl hv_)), (h3_, .inl (cy 1, 2, .inl hw_))]) hP hD [0, 1, 2, 3, 4, 9, 10, 11, 5, 6, 7, 8, 12, 13, 14] rfl rfl
  refine W.eq (g2 := F0 m 16 ls []) rfl ?_
  refine lv_aload_n hx hb dX4_take_16 rfl (lv_at hl 0 rfl) ?_
  refine lv_iconst (v := 1) hx hb dX4_take_17 (by decide) ?_
  refine va_put (D := D) (ci := 4) (v := .int 1) (ty := .boolean) (C := RX4) (T := TX4) (N := 3) hx hb hts winX4 tyX4 tyX4_ok nmX4 hown hK hP hD hS 0 rfl rfl 2 (by decide) wf23 (fun _ h9 => h9) rfl (by decide +kernel) (rfl) (rfl) (Nat.le_of_ble_eq_true rfl) dX4_take_18 (fun H locs hP hD hS => ?_)
  have hP : va_P D vwCl [(i1_, .inr (4, [.ref w1_, .ref g1_, .int 1])), (w1_, .inr (6, [.int (sf_ 0), .int (sf_ 1), .int (sf_ 2), .int (sf_ 3), .int (sf_ 4), .int (sf_ 5), .int (sf_ 6), .int (sf_ 9), .int (nI tn_), .int (sf_ 8), .ref w2_, .ref w3_, .ref w4_])), (w2_, .inl (cy 0, 6, .inl pl_)), (w3_, .inl (cy 0, 6, .inl pp_)), (w4_, .inl (cy 0, 6, .inl pb_)), (g1_, .inr (3, [.ref g2_, .ref g3_])), (g2_, .inl (cy 0, 2, .inl hv_)), (g3_, .inl (cy 1, 2, .inl hw_)), (q1_, .inr (6, [.int (sf_ 0), .int (sf_ 1), .int (sf_ 2), .int (sf_ 3), .int (sf_ 4), .int (sf_ 5), .int (sf_ 6), .int (sf_ 9), .int (nI tn_), .int (sf_ 8), .ref q2_, .ref q3_, .ref q4_])), (q2_, .inl (cy 0, 6, .inl pl_)), (q3_, .inl (cy 0, 6, .inl pp_)), (q4_, .inl (cy 0, 6, .inl pb_)), (h1_, .inr (3, [.ref h2_, .ref h3_])), (h2_, .inl (cy 0, 2, .inl hv_)), (h3_, .inl (cy 1, 2, .inl hw_))] H := hP
  have hD : va_D A [(i1_, .inr (4, [.ref w1_, .ref g1_, .int 1])), (w1_, .inr (6, [.int (sf_ 0), .int (sf_ 1), .int (sf_ 2), .int (sf_ 3), .int (sf_ 4), .int (sf_ 5), .int (sf_ 6), .int (sf_ 9), .int (nI tn_), .int (sf_ 8), .ref w2_, .ref w3_, .ref w4_])), (w2_, .inl (cy 0, 6, .inl pl_)), (w3_, .inl (cy 0, 6, .inl pp_)), (w4_, .inl (cy 0, 6, .inl pb_)), (g1_, .inr (3, [.ref g2_, .ref g3_])), (g2_, .inl (cy 0, 2, .inl hv_)), (g3_, .inl (cy 1, 2, .inl hw_)), (q1_, .inr (6, [.int (sf_ 0), .int (sf_ 1), .int (sf_ 2), .int (sf_ 3), .int (sf_ 4), .int (sf_ 5), .int (sf_ 6), .int (sf_ 9), .int (nI tn_), .int (sf_ 8), .ref q2_, .ref q3_, .ref q4_])), (q2_, .inl (cy 0, 6, .inl pl_)), (q3_, .inl (cy 0, 6, .inl pp_)), (q4_, .inl (cy 0, 6, .inl pb_)), (h1_, .inr (3, [.ref h2_, .ref h3_])), (h2_, .inl (cy 0, 2, .inl hv_)), (h3_, .inl (cy 1, 2, .inl hw_))] := hD
  exact RT _ _ () H locs 21 ls (rt_v dX4_take_21) rfl hP hD hS
abbrev rmkX4_giveBack : Room := { frames := 2, cells := 0, slots := 0, locals := 61 }
set_option maxHeartbeats 4000000 in
set_option maxRecDepth 100000 in
theorem kX4_giveBack {l : Launch} {D : va_G} {cy : Nat → ClassId} {sa : Nat → Nat} (i1_ : Nat) (w1_ : Nat) (w2_ : Nat) (w3_ : Nat) (w4_ : Nat) (sg_ : Nat → Int32) (tm_ : Nat) (ql_ : Nat → Int32) (qp_ : Nat → Int32) (qb_ : Nat → Int32) (g1_ : Nat) (g2_ : Nat) (g3_ : Nat) (gv_ : Nat → Int32) (gw_ : Nat → Int32) (kk_ : Int32) (q1_ : Nat) (q2_ : Nat) (q3_ : Nat) (q4_ : Nat) (sf_ : Nat → Int32) (tn_ : Nat) (pl_ : Nat → Int32) (pp_ : Nat → Int32) (pb_ : Nat → Int32) (h1_ : Nat) (h2_ : Nat) (h3_ : Nat) (hv_ : Nat → Int32) (hw_ : Nat → Int32) (hs2 : sg_ 2 = 0 ∨ sg_ 2 = 1) (hs8 : sg_ 8 = 0 ∨ sg_ 8 = 1) (hbz : ∀ z, z < 2 → vp_nar .boolean (gw_ z) = gw_ z) : CD l D cy sa yX4_giveBack wsX4_giveBack rmkX4_giveBack [.ref i1_, .ref q1_, .ref h1_] [(i1_, .inr (4, [.ref w1_, .ref g1_, .int kk_])), (w1_, .inr (6, [.int (sg_ 0), .int (sg_ 1), .int (sg_ 2), .int (sg_ 3), .int (sg_ 4), .int (sg_ 5), .int (sg_ 6), .int (sg_ 9), .int (nI tm_), .int (sg_ 8), .ref w2_, .ref w3_, .ref w4_])), (w2_, .inl (cy 0, 6, .inl ql_)), (w3_, .inl (cy 0, 6, .inl qp_)), (w4_, .inl (cy 0, 6, .inl qb_)), (g1_, .inr (3, [.ref g2_, .ref g3_])), (g2_, .inl (cy 0, 2, .inl gv_)), (g3_, .inl (cy 1, 2, .inl gw_)), (q1_, .inr (6, [.int (sf_ 0), .int (sf_ 1), .int (sf_ 2), .int (sf_ 3), .int (sf_ 4), .int (sf_ 5), .int (sf_ 6), .int (sf_ 9), .int (nI tn_), .int (sf_ 8), .ref q2_, .ref q3_, .ref q4_])), (q2_, .inl (cy 0, 6, .inl pl_)), (q3_, .inl (cy 0, 6, .inl pp_)), (q4_, .inl (cy 0, 6, .inl pb_)), (h1_, .inr (3, [.ref h2_, .ref h3_])), (h2_, .inl (cy 0, 2, .inl hv_)), (h3_, .inl (cy 1, 2, .inl hw_))] (none) [(i1_, .inr (4, [.ref w1_, .ref g1_, .int kk_])), (w1_, .inr (6, [.int (sg_ 0), .int (sg_ 1), .int (sg_ 2), .int (sg_ 3), .int (sg_ 4), .int (sg_ 5), .int (sg_ 6), .int (sg_ 9), .int (nI tm_), .int (sg_ 8), .ref w2_, .ref w3_, .ref w4_])), (w2_, .inl (cy 0, 6, .inl ql_)), (w3_, .inl (cy 0, 6, .inl qp_)), (w4_, .inl (cy 0, 6, .inl qb_)), (g1_, .inr (3, [.ref g2_, .ref g3_])), (g2_, .inl (cy 0, 2, .inl gv_)), (g3_, .inl (cy 1, 2, .inl gw_)), (q1_, .inr (6, [.int (sg_ 0), .int (sg_ 1), .int (sg_ 2), .int (sg_ 3), .int (sg_ 4), .int (sg_ 5), .int (sg_ 6), .int (sg_ 9), .int (nI tm_), .int (sg_ 8), .ref q2_, .ref q3_, .ref q4_])), (q2_, .inl (cy 0, 6, .inl ql_)), (q3_, .inl (cy 0, 6, .inl qp_)), (q4_, .inl (cy 0, 6, .inl qb_)), (h1_, .inr (3, [.ref h2_, .ref h3_])), (h2_, .inl (cy 0, 2, .inl gv_)), (h3_, .inl (cy 1, 2, .inl gw_))] := by
  refine CT.of cX4_giveBack 3 none (by decide +kernel) rfl (Nat.le_of_ble_eq_true rfl) ?_
  intro p e s m args below meth c A Q ls F hmn hK hE hA hP hD hS hl RT
  obtain ⟨hx, hb, hml, hown, hts⟩ := id F
  have winX4 : ∀ w ∈ u_ws RX4 TX4 3, w ∈ wsX4_giveBack := by decide +kernel
  have wf10 := hts (.fieldLink RX4 10 "SelfSteer$Image" "ride" "LSelfSteer$Ride;") (by decide +kernel)
  have wi_X6 := hts (.initialized RX6) (by decide +kernel)
  have wn_X6_copyFrom := hts (.instanceMethod yX6_copyFrom) (by decide +kernel)
  have we_X6_copyFrom := hts (.selects RX6 yX6_copyFrom yX6_copyFrom) (by decide +kernel)
  have wf19 := hts (.fieldLink RX4 19 "SelfSteer$Image" "habits" "LSelfSteer$Habits;") (by decide +kernel)
  have wi_X3 := hts (.initialized RX3) (by decide +kernel)
  have wn_X3_copyFrom := hts (.instanceMethod yX3_copyFrom) (by decide +kernel)
  have we_X3_copyFrom := hts (.selects RX3 yX3_copyFrom yX3_copyFrom) (by decide +kernel)
  have hl : lv_has ls 3 [(0, .ref i1_), (1, .ref q1_), (2, .ref h1_)] := hl
  have hP : va_P D vwCl [(i1_, .inr (4, [.ref w1_, .ref g1_, .int kk_])), (w1_, .inr (6, [.int (sg_ 0), .int (sg_ 1), .int (sg_ 2), .int (sg_ 3), .int (sg_ 4), .int (sg_ 5), .int (sg_ 6), .int (sg_ 9), .int (nI tm_), .int (sg_ 8), .ref w2_, .ref w3_, .ref w4_])), (w2_, .inl (cy 0, 6, .inl ql_)), (w3_, .inl (cy 0, 6, .inl qp_)), (w4_, .inl (cy 0, 6, .inl qb_)), (g1_, .inr (3, [.ref g2_, .ref g3_])), (g2_, .inl (cy 0, 2, .inl gv_)), (g3_, .inl (cy 1, 2, .inl gw_)), (q1_, .inr (6, [.int (sf_ 0), .int (sf_ 1), .int (sf_ 2), .int (sf_ 3), .int (sf_ 4), .int (sf_ 5), .int (sf_ 6), .int (sf_ 9), .int (nI tn_), .int (sf_ 8), .ref q2_, .ref q3_, .ref q4_])), (q2_, .inl (cy 0, 6, .inl pl_)), (q3_, .inl (cy 0, 6, .inl pp_)), (q4_, .inl (cy 0, 6, .inl pb_)), (h1_, .inr (3, [.ref h2_, .ref h3_])), (h2_, .inl (cy 0, 2, .inl hv_)), (h3_, .inl (cy 1, 2, .inl hw_))] s.heap := hP
  have hD : va_D A [(i1_, .inr (4, [.ref w1_, .ref g1_, .int kk_])), (w1_, .inr (6, [.int (sg_ 0), .int (sg_ 1), .int (sg_ 2), .int (sg_ 3), .int (sg_ 4), .int (sg_ 5), .int (sg_ 6), .int (sg_ 9), .int (nI tm_), .int (sg_ 8), .ref w2_, .ref w3_, .ref w4_])), (w2_, .inl (cy 0, 6, .inl ql_)), (w3_, .inl (cy 0, 6, .inl qp_)), (w4_, .inl (cy 0, 6, .inl qb_)), (g1_, .inr (3, [.ref g2_, .ref g3_])), (g2_, .inl (cy 0, 2, .inl gv_)), (g3_, .inl (cy 1, 2, .inl gw_)), (q1_, .inr (6, [.int (sf_ 0), .int (sf_ 1), .int (sf_ 2), .int (sf_ 3), .int (sf_ 4), .int (sf_ 5), .int (sf_ 6), .int (sf_ 9), .int (nI tn_), .int (sf_ 8), .ref q2_, .ref q3_, .ref q4_])), (q2_, .inl (cy 0, 6, .inl pl_)), (q3_, .inl (cy 0, 6, .inl pp_)), (q4_, .inl (cy 0, 6, .inl pb_)), (h1_, .inr (3, [.ref h2_, .ref h3_])), (h2_, .inl (cy 0, 2, .inl hv_)), (h3_, .inl (cy 1, 2, .inl hw_))] := hD
  obtain ⟨H, hH⟩ : ∃ H0 : Heap, H0 = s.heap := ⟨_, rfl⟩
  obtain ⟨locs, hlo⟩ : ∃ L0 : List Loc, L0 = [] := ⟨_, rfl⟩
  have hS : va_S A s.heap H locs := by rw [hH, hlo]; exact hS
  rw [← hH] at hP
  show W p l e rmkX4_giveBack s m args below meth c s.heap [] 0 0 Q (F0 m 0 ls [])
  suffices hgo : W p l e rmkX4_giveBack s m args below meth c H locs 0 0 Q (F0 m 0 ls []) by rw [hH, hlo] at hgo; exact hgo
  clear hH hlo
  refine lv_aload_n hx hb dX4_giveBack_0 rfl (lv_at hl 1 rfl) ?_
  refine lv_aload_n hx hb dX4_giveBack_1 rfl (lv_at hl 0 rfl) ?_
  refine va_get (D := D) (ci := 4) (v := .ref w1_) (C := RX4) (T := TX4) (N := 3) hx hb hts winX4 hown hK hP 0 rfl rfl 0 (by decide) wf10 (fun _ h9 => h9) rfl dX4_giveBack_2 ?_
  refine ca_VN (C := RX6) (q0 := 8) (n := 1) (rest := []) (wr := [(i1_, .inr (4, [.ref w1_, .ref g1_, .int kk_])), (g1_, .inr (3, [.ref g2_, .ref g3_])), (g2_, .inl (cy 0, 2, .inl gv_)), (g3_, .inl (cy 1, 2, .inl gw_)), (h1_, .inr (3, [.ref h2_, .ref h3_])), (h2_, .inl (cy 0, 2, .inl hv_)), (h3_, .inl (cy 1, 2, .inl hw_))]) F hK hE hA hP hD hS hl.1 (kX6_copyFrom (l := l) (D := D) (cy := cy) (sa := sa) q1_ q2_ q3_ q4_ (sf_ 0) (sf_ 1) (sf_ 2) (sf_ 3) (sf_ 4) (sf_ 5) (sf_ 6) (sf_ 9) (nI tn_) (sf_ 8) pl_ pp_ pb_ w1_ w2_ w3_ w4_ sg_ tm_ ql_ qp_ qb_ (by first | assumption | omega | decide) (by first | assumption | omega | decide)) gX4_giveBack_X6_copyFrom_n27 (hE.nest 72 rfl) wi_X6 wn_X6_copyFrom we_X6_copyFrom rfl rfl rfl rfl rfl rfl (by decide +kernel) ⟨by decide, by decide⟩ [8, 9, 10, 11, 1, 2, 3, 4] [0, 5, 6, 7, 12, 13, 14] rfl rfl rfl rfl (by decide) rfl rfl (Nat.le_of_ble_eq_true rfl) dX4_giveBack_5 ⟨by decide, by decide⟩ (fun v9 u9 H locs hv_ hP hD hS => ?_)
  subst hv_
  obtain ⟨hP, hD⟩ := re_ws (ws' := [(i1_, .inr (4, [.ref w1_, .ref g1_, .int kk_])), (w1_, .inr (6, [.int (sg_ 0), .int (sg_ 1), .int (sg_ 2), .int (sg_ 3), .int (sg_ 4), .int (sg_ 5), .int (sg_ 6), .int (sg_ 9), .int (nI tm_), .int (sg_ 8), .ref w2_, .ref w3_, .ref w4_])), (w2_, .inl (cy 0, 6, .inl ql_)), (w3_, .inl (cy 0, 6, .inl qp_)), (w4_, .inl (cy 0, 6, .inl qb_)), (g1_, .inr (3, [.ref g2_, .ref g3_])), (g2_, .inl (cy 0, 2, .inl gv_)), (g3_, .inl (cy 1, 2, .inl gw_)), (q1_, .inr (6, [.int (sg_ 0), .int (sg_ 1), .int (sg_ 2), .int (sg_ 3), .int (sg_ 4), .int (sg_ 5), .int (sg_ 6), .int (sg_ 9), .int (nI tm_), .int (sg_ 8), .ref q2_, .ref q3_, .ref q4_])), (q2_, .inl (cy 0, 6, .inl ql_)), (q3_, .inl (cy 0, 6, .inl qp_)), (q4_, .inl (cy 0, 6, .inl qb_)), (h1_, .inr (3, [.ref h2_, .ref h3_])), (h2_, .inl (cy 0, 2, .inl hv_)), (h3_, .inl (cy 1, 2, .inl hw_))]) hP hD [0, 11, 12, 13, 14, 1, 2, 3, 7, 8, 9, 10, 4, 5, 6] rfl rfl
  refine W.eq (g2 := F0 m 8 ls []) rfl ?_
  refine lv_aload_n hx hb dX4_giveBack_8 rfl (lv_at hl 2 rfl) ?_
  refine lv_aload_n hx hb dX4_giveBack_9 rfl (lv_at hl 0 rfl) ?_
  refine va_get (D := D) (ci := 4) (v := .ref g1_) (C := RX4) (T := TX4) (N := 3) hx hb hts winX4 hown hK hP 0 rfl rfl 1 (by decide) wf19 (fun _ h9 => h9) rfl dX4_giveBack_10 ?_
  refine ca_VN (C := RX3) (q0 := 12) (n := 1) (rest := []) (wr := [(i1_, .inr (4, [.ref w1_, .ref g1_, .int kk_])), (w1_, .inr (6, [.int (sg_ 0), .int (sg_ 1), .int (sg_ 2), .int (sg_ 3), .int (sg_ 4), .int (sg_ 5), .int (sg_ 6), .int (sg_ 9), .int (nI tm_), .int (sg_ 8), .ref w2_, .ref w3_, .ref w4_])), (w2_, .inl (cy 0, 6, .inl ql_)), (w3_, .inl (cy 0, 6, .inl qp_)), (w4_, .inl (cy 0, 6, .inl qb_)), (q1_, .inr (6, [.int (sg_ 0), .int (sg_ 1), .int (sg_ 2), .int (sg_ 3), .int (sg_ 4), .int (sg_ 5), .int (sg_ 6), .int (sg_ 9), .int (nI tm_), .int (sg_ 8), .ref q2_, .ref q3_, .ref q4_])), (q2_, .inl (cy 0, 6, .inl ql_)), (q3_, .inl (cy 0, 6, .inl qp_)), (q4_, .inl (cy 0, 6, .inl qb_))]) F hK hE hA hP hD hS hl.1 (kX3_copyFrom (l := l) (D := D) (cy := cy) (sa := sa) h1_ h2_ h3_ hv_ hw_ g1_ g2_ g3_ gv_ gw_ (by first | assumption | omega | decide)) gX4_giveBack_X3_copyFrom_n31 (hE.nest 73 rfl) wi_X3 wn_X3_copyFrom we_X3_copyFrom rfl rfl rfl rfl rfl rfl (by decide +kernel) ⟨by decide, by decide⟩ [12, 13, 14, 5, 6, 7] [0, 1, 2, 3, 4, 8, 9, 10, 11] rfl rfl rfl rfl (by decide) rfl rfl (Nat.le_of_ble_eq_true rfl) dX4_giveBack_13 ⟨by decide, by decide⟩ (fun v9 u9 H locs hv_ hP hD hS => ?_)
  subst hv_
  obtain ⟨hP, hD⟩ := re_ws (ws' := [(i1_, .inr (4, [.ref w1_, .ref g1_, .int kk_])), (w1_, .inr (6, [.int (sg_ 0), .int (sg_ 1), .int (sg_ 2), .int (sg_ 3), .int (sg_ 4), .int (sg_ 5), .int (sg_ 6), .int (sg_ 9), .int (nI tm_), .int (sg_ 8), .ref w2_, .ref w3_, .ref w4_])), (w2_, .inl (cy 0, 6, .inl ql_)), (w3_, .inl (cy 0, 6, .inl qp_)), (w4_, .inl (cy 0, 6, .inl qb_)), (g1_, .inr (3, [.ref g2_, .ref g3_])), (g2_, .inl (cy 0, 2, .inl gv_)), (g3_, .inl (cy 1, 2, .inl gw_)), (q1_, .inr (6, [.int (sg_ 0), .int (sg_ 1), .int (sg_ 2), .int (sg_ 3), .int (sg_ 4), .int (sg_ 5), .int (sg_ 6), .int (sg_ 9), .int (nI tm_), .int (sg_ 8), .ref q2_, .ref q3_, .ref q4_])), (q2_, .inl (cy 0, 6, .inl ql_)), (q3_, .inl (cy 0, 6, .inl qp_)), (q4_, .inl (cy 0, 6, .inl qb_)), (h1_, .inr (3, [.ref h2_, .ref h3_])), (h2_, .inl (cy 0, 2, .inl gv_)), (h3_, .inl (cy 1, 2, .inl gw_))]) hP hD [0, 1, 2, 3, 4, 12, 13, 14, 5, 6, 7, 8, 9, 10, 11] rfl rfl
  refine W.eq (g2 := F0 m 16 ls []) rfl ?_
  exact RT _ _ () H locs 16 ls (rt_v dX4_giveBack_16) rfl hP hD hS
abbrev rmkX2_changedIn : Room := { frames := 0, cells := 0, slots := 0, locals := 0 }
set_option maxHeartbeats 4000000 in
set_option maxRecDepth 100000 in
theorem kX2_changedIn {l : Launch} {D : va_G} {cy : Nat → ClassId} {sa : Nat → Nat} (q_ : Nat) (hq : q_ < 729) : CD l D cy sa yX2_changedIn wsX2_changedIn rmkX2_changedIn [.int (nI q_)] [] (some (.int (cgF q_))) [] := by
  refine CT.of cX2_changedIn 4 (some .int) (by decide +kernel) rfl (Nat.le_of_ble_eq_true rfl) ?_
  intro p e s m args below meth c A Q ls F hmn hK hE hA hP hD hS hl RT
  obtain ⟨hx, hb, hml, hown, hts⟩ := id F
  have hl : lv_has ls 4 [(0, .int (nI q_))] := hl
  have hP : va_P D vwCl [] s.heap := hP
  have hD : va_D A [] := hD
  obtain ⟨H, hH⟩ : ∃ H0 : Heap, H0 = s.heap := ⟨_, rfl⟩
  obtain ⟨locs, hlo⟩ : ∃ L0 : List Loc, L0 = [] := ⟨_, rfl⟩
  have hS : va_S A s.heap H locs := by rw [hH, hlo]; exact hS
  rw [← hH] at hP
  show W p l e rmkX2_changedIn s m args below meth c s.heap [] 0 0 Q (F0 m 0 ls [])
  suffices hgo : W p l e rmkX2_changedIn s m args below meth c H locs 0 0 Q (F0 m 0 ls []) by rw [hH, hlo] at hgo; exact hgo
  clear hH hlo
  refine lv_iconst (v := 0) hx hb dX2_changedIn_0 (by decide) ?_
  refine lv_istore_n (lv' := [(1, .int 0), (0, .int (nI q_))]) hx hb dX2_changedIn_1 rfl hl (by decide) rfl (fun ls hl => ?_)
  refine lv_iload_n hx hb dX2_changedIn_2 rfl (lv_at hl 1 rfl) ?_
  refine lv_istore_n (lv' := [(2, .int (nI q_)), (1, .int 0), (0, .int (nI q_))]) hx hb dX2_changedIn_3 rfl hl (by decide) rfl (fun ls hl => ?_)
  refine lv_iconst (v := 0) hx hb dX2_changedIn_4 (by decide) ?_
  refine lv_istore_n (lv' := [(3, .int 0), (2, .int (nI q_)), (1, .int 0), (0, .int (nI q_))]) hx hb dX2_changedIn_5 rfl hl (by decide) rfl (fun ls hl => ?_)
  have L_6 : ∀ (nF : Nat) (k_ : Nat), (k_ ≤ 6) → 6 - k_ < nF → ∀ (H : Heap) (locs : List Loc), va_P D vwCl [] H → va_D A [] → va_S A s.heap H locs → ∀ (ls : Array Slot), lv_has ls 4 [(3, .int (nI k_)), (2, .int (nI (q_ / 3 ^ k_))), (1, .int (cgI q_ k_)), (0, .int (nI q_))] → W p l e rmkX2_changedIn s m args below meth c H locs 0 0 Q (F0 m 6 ls []) := by
    intro nF
    induction nF with
    | zero => intro k_ hk hnF; exact absurd hnF (Nat.not_lt_zero _)
    | succ nF ih_6 =>
      intro k_ hk hn_6 H locs hP hD hS ls hl
      refine lv_iload_n hx hb dX2_changedIn_6 rfl (lv_at hl 0 rfl) ?_
      refine lv_bipush (v := 6) hx hb dX2_changedIn_7 (by decide) ?_
      refine cn_ge (tgt := 34) hx hb k_ 6 rfl rfl (by omega) (by omega) dX2_changedIn_9 (by decide) (fun c_9 => ?_) (fun c_9 => ?_)
      · refine lv_iload_n hx hb dX2_changedIn_34 rfl (lv_at hl 2 rfl) ?_
        refine lv_eqi (y := cgF q_) (by rw [show k_ = 6 by omega]; rfl) ?_
        exact RT _ _ () H locs 35 ls (rt_i dX2_changedIn_35) rfl hP hD hS
      · refine lv_iload_n hx hb dX2_changedIn_12 rfl (lv_at hl 1 rfl) ?_
        refine lv_iconst (v := 3) hx hb dX2_changedIn_13 (by decide) ?_
        refine lv_irem hx hb dX2_changedIn_14 (by decide) ?_
        refine lv_eqi (y := nI (q_ / 3 ^ k_ % 3)) (rem3_n (by omega)) ?_
        have J_15_32 : ∀ (z15 : Int32), z15 = (if (q_ / 3 ^ k_ % 3) = 0 then (cgI q_ k_) else ((cgI q_ k_) ||| (1 <<< ((nI k_) &&& 31)))) → ∀ (H : Heap) (locs : List Loc), va_P D vwCl [] H → va_D A [] → va_S A s.heap H locs → ∀ (ls : Array Slot), lv_has ls 4 [(3, .int (nI k_)), (2, .int (nI (q_ / 3 ^ k_))), (1, .int z15), (0, .int (nI q_))] → W p l e rmkX2_changedIn s m args below meth c H locs 0 0 Q (F0 m 24 ls []) := by
          intro z15 ez15 H locs hP hD hS ls hl
          refine lv_iload_n hx hb dX2_changedIn_24 rfl (lv_at hl 1 rfl) ?_
          refine lv_iconst (v := 3) hx hb dX2_changedIn_25 (by decide) ?_
          refine lv_idiv hx hb dX2_changedIn_26 (by decide) ?_
          refine lv_eqi (y := nI (q_ / 3 ^ (k_ + 1))) (div3_n (by omega)) ?_
          refine lv_istore_n (lv' := [(2, .int (nI (q_ / 3 ^ (k_ + 1)))), (3, .int (nI k_)), (1, .int z15), (0, .int (nI q_))]) hx hb dX2_changedIn_27 rfl hl (by decide) rfl (fun ls hl => ?_)
          refine lv_iinc (v := nI (k_ + 1)) (lv' := [(3, .int (nI (k_ + 1))), (2, .int (nI (q_ / 3 ^ (k_ + 1)))), (1, .int z15), (0, .int (nI q_))]) hx hb dX2_changedIn_28 hl (k := 1) rfl (nI_add k_ 1) (by decide) rfl (fun ls hl => ?_)
          refine lv_goto (tgt := 6) hx hb dX2_changedIn_31 (by decide) ?_
          rw [show ((1, .int z15) : Nat × Value) = (1, .int (cgI q_ (k_ + 1))) from congrArg (fun y9 => ((1, Value.int y9) : Nat × Value)) (show z15 = cgI q_ (k_ + 1) from (by rw [ez15]; rfl))] at hl
          exact ih_6 (k_ + 1) (by first | assumption | omega | decide) (by omega) H locs hP hD hS ls (lv_sub hl [0, 1, 2, 3] rfl)
        refine cz_eq (tgt := 24) hx hb (q_ / 3 ^ k_ % 3) rfl (by omega) dX2_changedIn_15 (by decide) (fun c_15 => ?_) (fun c_15 => ?_)
        · exact J_15_32 _ ((if_pos c_15).symm) H locs hP hD hS ls (lv_sub hl [0, 1, 2, 3] rfl)
        · refine lv_iload_n hx hb dX2_changedIn_18 rfl (lv_at hl 2 rfl) ?_
          refine lv_iconst (v := 1) hx hb dX2_changedIn_19 (by decide) ?_
          refine lv_iload_n hx hb dX2_changedIn_20 rfl (lv_at hl 0 rfl) ?_
          refine lv_ishl hx hb dX2_changedIn_21 ?_
          refine lv_ior hx hb dX2_changedIn_22 ?_
          refine lv_istore_n (lv' := [(1, .int ((cgI q_ k_) ||| (1 <<< ((nI k_) &&& 31)))), (3, .int (nI k_)), (2, .int (nI (q_ / 3 ^ k_))), (0, .int (nI q_))]) hx hb dX2_changedIn_23 rfl hl (by decide) rfl (fun ls hl => ?_)
          exact J_15_32 _ ((if_neg c_15).symm) H locs hP hD hS ls (lv_sub hl [1, 2, 0, 3] rfl)
  rw [show ((2, .int (nI q_)) : Nat × Value) = (2, .int (nI (q_ / 3 ^ 0))) from congrArg (fun y9 => ((2, Value.int y9) : Nat × Value)) (show nI q_ = nI (q_ / 3 ^ 0) from by rw [Nat.pow_zero, Nat.div_one])] at hl
  exact L_6 _ 0 (by first | assumption | omega | decide) (Nat.lt_succ_self _) H locs hP hD hS ls (lv_sub hl [0, 1, 2, 3] rfl)
abbrev rmkX2_mayBe : Room := { frames := 3, cells := 0, slots := 0, locals := 64 }
set_option maxHeartbeats 4000000 in
set_option maxRecDepth 100000 in
theorem kX2_mayBe {l : Launch} {D : va_G} {cy : Nat → ClassId} {sa : Nat → Nat} (d1_ : Nat) (a2_ : Nat) (n2_ : Nat) (d2_ : Nat) (d3_ : Nat) (f2_ : Nat → Int32) (sc_ : Nat → Int32) (a1_ : Nat) (n1_ : Nat) (f_ : Nat → Int32) (q_ : Nat) (hq : q_ < 729) : CT (S := (Nat → Int32)) l D cy sa yX2_mayBe wsX2_mayBe rmkX2_mayBe [.ref d1_, .ref a1_, .int (nI q_)] [(d1_, .inr (2, [.ref a2_, .ref d2_, .ref d3_])), (a2_, .inr (0, [.ref n2_])), (n2_, .inl (cy 0, 6, .inl f2_)), (d2_, .inl (cy 0, 729, .inl cgF)), (d3_, .inl (cy 0, 729, .inl sc_)), (a1_, .inr (0, [.ref n1_])), (n1_, .inl (cy 0, 6, .inl f_))] (fun v9 ft2 => v9 = some (.int (bI (mayB (tdF f_ q_) 6 = true))) ∧ (mayB (tdF f_ q_) 6 = true → ∀ z, z < 6 → ft2 z = tdF f_ q_ z)) (fun ft2 => [(d1_, .inr (2, [.ref a2_, .ref d2_, .ref d3_])), (a2_, .inr (0, [.ref n2_])), (n2_, .inl (cy 0, 6, .inl ft2)), (d2_, .inl (cy 0, 729, .inl cgF)), (d3_, .inl (cy 0, 729, .inl sc_)), (a1_, .inr (0, [.ref n1_])), (n1_, .inl (cy 0, 6, .inl f_))]) 0 0 := by
  refine CT.of cX2_mayBe 7 (some .boolean) (by decide +kernel) rfl (Nat.le_of_ble_eq_true rfl) ?_
  intro p e s m args below meth c A Q ls F hmn hK hE hA hP hD hS hl RT
  obtain ⟨hx, hb, hml, hown, hts⟩ := id F
  have wi_X0 := hts (.initialized RX0) (by decide +kernel)
  have wn_X0_valueOf := hts (.instanceMethod yX0_valueOf) (by decide +kernel)
  have we_X0_valueOf := hts (.selects RX0 yX0_valueOf yX0_valueOf) (by decide +kernel)
  have wi_X8 := hts (.initialized RX8) (by decide +kernel)
  have ws_X8_within := hts (.static yX8_within) (by decide +kernel)
  have winX2 : ∀ w ∈ u_ws RX2 TX2 3, w ∈ wsX2_mayBe := by decide +kernel
  have wf12 := hts (.fieldLink RX2 12 "SelfSteer$Doubt" "tried" "LSelfSteer$Bicycle;") (by decide +kernel)
  have wn_X0_put := hts (.instanceMethod yX0_put) (by decide +kernel)
  have we_X0_put := hts (.selects RX0 yX0_put yX0_put) (by decide +kernel)
  have hl : lv_has ls 7 [(0, .ref d1_), (1, .ref a1_), (2, .int (nI q_))] := hl
  have hP : va_P D vwCl [(d1_, .inr (2, [.ref a2_, .ref d2_, .ref d3_])), (a2_, .inr (0, [.ref n2_])), (n2_, .inl (cy 0, 6, .inl f2_)), (d2_, .inl (cy 0, 729, .inl cgF)), (d3_, .inl (cy 0, 729, .inl sc_)), (a1_, .inr (0, [.ref n1_])), (n1_, .inl (cy 0, 6, .inl f_))] s.heap := hP
  have hD : va_D A [(d1_, .inr (2, [.ref a2_, .ref d2_, .ref d3_])), (a2_, .inr (0, [.ref n2_])), (n2_, .inl (cy 0, 6, .inl f2_)), (d2_, .inl (cy 0, 729, .inl cgF)), (d3_, .inl (cy 0, 729, .inl sc_)), (a1_, .inr (0, [.ref n1_])), (n1_, .inl (cy 0, 6, .inl f_))] := hD
  obtain ⟨H, hH⟩ : ∃ H0 : Heap, H0 = s.heap := ⟨_, rfl⟩
  obtain ⟨locs, hlo⟩ : ∃ L0 : List Loc, L0 = [] := ⟨_, rfl⟩
  have hS : va_S A s.heap H locs := by rw [hH, hlo]; exact hS
  rw [← hH] at hP
  show W p l e rmkX2_mayBe s m args below meth c s.heap [] 0 0 Q (F0 m 0 ls [])
  suffices hgo : W p l e rmkX2_mayBe s m args below meth c H locs 0 0 Q (F0 m 0 ls []) by rw [hH, hlo] at hgo; exact hgo
  clear hH hlo
  refine lv_iload_n hx hb dX2_mayBe_0 rfl (lv_at hl 2 rfl) ?_
  refine lv_istore_n (lv' := [(3, .int (nI q_)), (0, .ref d1_), (1, .ref a1_), (2, .int (nI q_))]) hx hb dX2_mayBe_1 rfl hl (by decide) rfl (fun ls hl => ?_)
  refine lv_iconst (v := 0) hx hb dX2_mayBe_2 (by decide) ?_
  refine lv_istore (lv' := [(4, .int 0), (3, .int (nI q_)), (0, .ref d1_), (1, .ref a1_), (2, .int (nI q_))]) hx hb dX2_mayBe_3 hl (by decide) rfl (fun ls hl => ?_)
  have L_5 : ∀ (nF : Nat) (k_ : Nat) (ftc_ : Nat → Int32), (k_ ≤ 6) → (mayB (tdF f_ q_) k_ = true) → (∀ z, z < k_ → ftc_ z = tdF f_ q_ z) → 6 - k_ < nF → ∀ (H : Heap) (locs : List Loc), va_P D vwCl [(d1_, .inr (2, [.ref a2_, .ref d2_, .ref d3_])), (a2_, .inr (0, [.ref n2_])), (n2_, .inl (cy 0, 6, .inl ftc_)), (d2_, .inl (cy 0, 729, .inl cgF)), (d3_, .inl (cy 0, 729, .inl sc_)), (a1_, .inr (0, [.ref n1_])), (n1_, .inl (cy 0, 6, .inl f_))] H → va_D A [(d1_, .inr (2, [.ref a2_, .ref d2_, .ref d3_])), (a2_, .inr (0, [.ref n2_])), (n2_, .inl (cy 0, 6, .inl ftc_)), (d2_, .inl (cy 0, 729, .inl cgF)), (d3_, .inl (cy 0, 729, .inl sc_)), (a1_, .inr (0, [.ref n1_])), (n1_, .inl (cy 0, 6, .inl f_))] → va_S A s.heap H locs → ∀ (ls : Array Slot), lv_has ls 7 [(4, .int (nI k_)), (3, .int (nI (q_ / 3 ^ k_))), (0, .ref d1_), (1, .ref a1_), (2, .int (nI q_))] → W p l e rmkX2_mayBe s m args below meth c H locs 0 0 Q (F0 m 5 ls []) := by
    intro nF
    induction nF with
    | zero => intro k_ ftc_ hk hmay hrow hnF; exact absurd hnF (Nat.not_lt_zero _)
    | succ nF ih_5 =>
      intro k_ ftc_ hk hmay hrow hn_5 H locs hP hD hS ls hl
      refine lv_iload hx hb dX2_mayBe_5 (lv_at hl 0 rfl) ?_
      refine lv_bipush (v := 6) hx hb dX2_mayBe_7 (by decide) ?_
      refine cn_ge (tgt := 82) hx hb k_ 6 rfl rfl (by omega) (by omega) dX2_mayBe_9 (by decide) (fun c_9 => ?_) (fun c_9 => ?_)
      · refine lv_iconst (v := 1) hx hb dX2_mayBe_82 (by decide) ?_
        have hyes : mayB (tdF f_ q_) 6 = true := by rw [show 6 = k_ by omega]; exact hmay
        refine lv_eqi (y := bI (mayB (tdF f_ q_) 6 = true)) ((bI_t hyes).symm) ?_
        exact RT _ _ (ftc_) H locs 83 ls (rt_z (bI_nar _) dX2_mayBe_83) ⟨rfl, (fun _ z hz => hrow z (by omega))⟩ hP hD hS
      · refine lv_iload_n hx hb dX2_mayBe_12 rfl (lv_at hl 1 rfl) ?_
        refine lv_iconst (v := 3) hx hb dX2_mayBe_13 (by decide) ?_
        refine lv_irem hx hb dX2_mayBe_14 (by decide) ?_
        refine lv_eqi (y := nI (q_ / 3 ^ k_ % 3)) (rem3_n (by omega)) ?_
        refine lv_istore (lv' := [(5, .int (nI (q_ / 3 ^ k_ % 3))), (4, .int (nI k_)), (3, .int (nI (q_ / 3 ^ k_))), (0, .ref d1_), (1, .ref a1_), (2, .int (nI q_))]) hx hb dX2_mayBe_15 hl (by decide) rfl (fun ls hl => ?_)
        refine lv_aload_n hx hb dX2_mayBe_17 rfl (lv_at hl 4 rfl) ?_
        refine lv_iload hx hb dX2_mayBe_18 (lv_at hl 1 rfl) ?_
        refine ca_VN (C := RX0) (q0 := 5) (n := 1) (rest := []) (wr := [(d1_, .inr (2, [.ref a2_, .ref d2_, .ref d3_])), (a2_, .inr (0, [.ref n2_])), (n2_, .inl (cy 0, 6, .inl ftc_)), (d2_, .inl (cy 0, 729, .inl cgF)), (d3_, .inl (cy 0, 729, .inl sc_))]) F hK hE hA hP hD hS hl.1 (kX0_valueOf (l := l) (D := D) (cy := cy) (sa := sa) a1_ n1_ f_ k_ (by first | assumption | omega | decide)) gX2_mayBe_X0_valueOf_n37 (hE.nest 45 rfl) wi_X0 wn_X0_valueOf we_X0_valueOf rfl rfl rfl rfl rfl rfl (by decide +kernel) ⟨by decide, by decide⟩ [5, 6] [0, 1, 2, 3, 4] rfl rfl rfl rfl (by decide) rfl rfl (Nat.le_of_ble_eq_true rfl) dX2_mayBe_20 ⟨by decide, by decide⟩ (fun v9 u9 H locs hv hP hD hS => ?_)
        subst hv
        obtain ⟨hP, hD⟩ := re_ws (ws' := [(d1_, .inr (2, [.ref a2_, .ref d2_, .ref d3_])), (a2_, .inr (0, [.ref n2_])), (n2_, .inl (cy 0, 6, .inl ftc_)), (d2_, .inl (cy 0, 729, .inl cgF)), (d3_, .inl (cy 0, 729, .inl sc_)), (a1_, .inr (0, [.ref n1_])), (n1_, .inl (cy 0, 6, .inl f_))]) hP hD [0, 1, 2, 3, 4, 5, 6] rfl rfl
        refine W.eq (g2 := F0 m 23 ls [.int (f_ k_)]) rfl ?_
        refine lv_iload hx hb dX2_mayBe_23 (lv_at hl 0 rfl) ?_
        refine lv_iconst (v := 2) hx hb dX2_mayBe_25 (by decide) ?_
        have J_26_40 : ∀ (z26 : Int32), z26 = (if (q_ / 3 ^ k_ % 3) = 2 then 1 else (-(nI (q_ / 3 ^ k_ % 3)))) → ∀ (H : Heap) (locs : List Loc), va_P D vwCl [(d1_, .inr (2, [.ref a2_, .ref d2_, .ref d3_])), (a2_, .inr (0, [.ref n2_])), (n2_, .inl (cy 0, 6, .inl ftc_)), (d2_, .inl (cy 0, 729, .inl cgF)), (d3_, .inl (cy 0, 729, .inl sc_)), (a1_, .inr (0, [.ref n1_])), (n1_, .inl (cy 0, 6, .inl f_))] H → va_D A [(d1_, .inr (2, [.ref a2_, .ref d2_, .ref d3_])), (a2_, .inr (0, [.ref n2_])), (n2_, .inl (cy 0, 6, .inl ftc_)), (d2_, .inl (cy 0, 729, .inl cgF)), (d3_, .inl (cy 0, 729, .inl sc_)), (a1_, .inr (0, [.ref n1_])), (n1_, .inl (cy 0, 6, .inl f_))] → va_S A s.heap H locs → ∀ (ls : Array Slot), lv_has ls 7 [(5, .int (nI (q_ / 3 ^ k_ % 3))), (4, .int (nI k_)), (3, .int (nI (q_ / 3 ^ k_))), (0, .ref d1_), (1, .ref a1_), (2, .int (nI q_))] → W p l e rmkX2_mayBe s m args below meth c H locs 0 0 Q (F0 m 36 ls [.int z26, .int (f_ k_)]) := by
          intro z26 ez26 H locs hP hD hS ls hl
          refine lv_iadd hx hb dX2_mayBe_36 ?_
          refine lv_eqi (y := tdF f_ q_ k_) (by rw [ez26]; rfl) ?_
          refine lv_istore (lv' := [(6, .int (tdF f_ q_ k_)), (5, .int (nI (q_ / 3 ^ k_ % 3))), (4, .int (nI k_)), (3, .int (nI (q_ / 3 ^ k_))), (0, .ref d1_), (1, .ref a1_), (2, .int (nI q_))]) hx hb dX2_mayBe_37 hl (by decide) rfl (fun ls hl => ?_)
          refine lv_iload hx hb dX2_mayBe_39 (lv_at hl 0 rfl) ?_
          refine va_getsN hx hb hE.1.1 hS hown (hE.nestB 46 rfl) (fun _ h9 => h9) dX2_mayBe_41 ?_
          refine lv_iload hx hb dX2_mayBe_44 (lv_at hl 2 rfl) ?_
          refine al_s hx hb hE.1.2 hS k_ (rfl) (by omega) (by decide) dX2_mayBe_46 ?_
          refine va_getsN hx hb hE.2.1.1 hS hown (hE.nestB 47 rfl) (fun _ h9 => h9) dX2_mayBe_47 ?_
          refine lv_iload hx hb dX2_mayBe_50 (lv_at hl 2 rfl) ?_
          refine al_s hx hb hE.2.1.2 hS k_ (rfl) (by omega) (by decide) dX2_mayBe_52 ?_
          refine ca_SN (n := 3) (rest := []) (wr := [(d1_, .inr (2, [.ref a2_, .ref d2_, .ref d3_])), (a2_, .inr (0, [.ref n2_])), (n2_, .inl (cy 0, 6, .inl ftc_)), (d2_, .inl (cy 0, 729, .inl cgF)), (d3_, .inl (cy 0, 729, .inl sc_)), (a1_, .inr (0, [.ref n1_])), (n1_, .inl (cy 0, 6, .inl f_))]) F hK hE hA hP hD hS hl.1 (kX8_within (l := l) (D := D) (cy := cy) (sa := sa) (tdF f_ q_ k_) (s_LOW k_) (s_HIGH k_)) gX2_mayBe_X8_within_n46 (hE.nest 48 rfl) wi_X8 ws_X8_within rfl rfl rfl (by decide +kernel) ⟨by decide, by decide⟩ [] [0, 1, 2, 3, 4, 5, 6] rfl rfl rfl rfl (by decide) rfl rfl (Nat.le_of_ble_eq_true rfl) dX2_mayBe_53 ⟨by decide, by decide⟩ (fun v9 u9 H locs hv hP hD hS => ?_)
          subst hv
          have hP : va_P D vwCl [(d1_, .inr (2, [.ref a2_, .ref d2_, .ref d3_])), (a2_, .inr (0, [.ref n2_])), (n2_, .inl (cy 0, 6, .inl ftc_)), (d2_, .inl (cy 0, 729, .inl cgF)), (d3_, .inl (cy 0, 729, .inl sc_)), (a1_, .inr (0, [.ref n1_])), (n1_, .inl (cy 0, 6, .inl f_))] H := hP
          have hD : va_D A [(d1_, .inr (2, [.ref a2_, .ref d2_, .ref d3_])), (a2_, .inr (0, [.ref n2_])), (n2_, .inl (cy 0, 6, .inl ftc_)), (d2_, .inl (cy 0, 729, .inl cgF)), (d3_, .inl (cy 0, 729, .inl sc_)), (a1_, .inr (0, [.ref n1_])), (n1_, .inl (cy 0, 6, .inl f_))] := hD
          refine W.eq (g2 := F0 m 56 ls [.int (bI (inR (tdF f_ q_ k_) (s_LOW k_) (s_HIGH k_)))]) rfl ?_
          refine bz_ne (tgt := 61) hx hb dX2_mayBe_56 (by decide) (fun c_56 => ?_) (fun c_56 => ?_)
          · refine lv_aload_n hx hb dX2_mayBe_61 rfl (lv_at hl 4 rfl) ?_
            refine va_get (D := D) (ci := 2) (v := .ref a2_) (C := RX2) (T := TX2) (N := 3) hx hb hts winX2 hown hK hP 0 rfl rfl 0 (by decide) wf12 (fun _ h9 => h9) rfl dX2_mayBe_62 ?_
            refine lv_iload hx hb dX2_mayBe_65 (lv_at hl 2 rfl) ?_
            refine lv_iload hx hb dX2_mayBe_67 (lv_at hl 0 rfl) ?_
            refine ca_VN (C := RX0) (q0 := 1) (n := 2) (rest := []) (wr := [(d1_, .inr (2, [.ref a2_, .ref d2_, .ref d3_])), (d2_, .inl (cy 0, 729, .inl cgF)), (d3_, .inl (cy 0, 729, .inl sc_)), (a1_, .inr (0, [.ref n1_])), (n1_, .inl (cy 0, 6, .inl f_))]) F hK hE hA hP hD hS hl.1 (kX0_put (l := l) (D := D) (cy := cy) (sa := sa) a2_ n2_ ftc_ k_ (tdF f_ q_ k_) (by first | assumption | omega | decide)) gX2_mayBe_X0_put_n50 (hE.nest 49 rfl) wi_X0 wn_X0_put we_X0_put rfl rfl rfl rfl rfl rfl (by decide +kernel) ⟨by decide, by decide⟩ [1, 2] [0, 3, 4, 5, 6] rfl rfl rfl rfl (by decide) rfl rfl (Nat.le_of_ble_eq_true rfl) dX2_mayBe_69 ⟨by decide, by decide⟩ (fun v9 u9 H locs hv hP hD hS => ?_)
            subst hv
            obtain ⟨hP, hD⟩ := re_ws (ws' := [(d1_, .inr (2, [.ref a2_, .ref d2_, .ref d3_])), (a2_, .inr (0, [.ref n2_])), (n2_, .inl (cy 0, 6, .inl (upd ftc_ k_ (tdF f_ q_ k_)))), (d2_, .inl (cy 0, 729, .inl cgF)), (d3_, .inl (cy 0, 729, .inl sc_)), (a1_, .inr (0, [.ref n1_])), (n1_, .inl (cy 0, 6, .inl f_))]) hP hD [0, 5, 6, 1, 2, 3, 4] rfl rfl
            refine W.eq (g2 := F0 m 72 ls []) rfl ?_
            refine lv_iload_n hx hb dX2_mayBe_72 rfl (lv_at hl 3 rfl) ?_
            refine lv_iconst (v := 3) hx hb dX2_mayBe_73 (by decide) ?_
            refine lv_idiv hx hb dX2_mayBe_74 (by decide) ?_
            refine lv_eqi (y := nI (q_ / 3 ^ (k_ + 1))) (div3_n (by omega)) ?_
            refine lv_istore_n (lv' := [(3, .int (nI (q_ / 3 ^ (k_ + 1)))), (6, .int (tdF f_ q_ k_)), (5, .int (nI (q_ / 3 ^ k_ % 3))), (4, .int (nI k_)), (0, .ref d1_), (1, .ref a1_), (2, .int (nI q_))]) hx hb dX2_mayBe_75 rfl hl (by decide) rfl (fun ls hl => ?_)
            refine lv_iinc (v := nI (k_ + 1)) (lv' := [(4, .int (nI (k_ + 1))), (3, .int (nI (q_ / 3 ^ (k_ + 1)))), (6, .int (tdF f_ q_ k_)), (5, .int (nI (q_ / 3 ^ k_ % 3))), (0, .ref d1_), (1, .ref a1_), (2, .int (nI q_))]) hx hb dX2_mayBe_76 hl (k := 3) rfl (nI_add k_ 1) (by decide) rfl (fun ls hl => ?_)
            refine lv_goto (tgt := 5) hx hb dX2_mayBe_79 (by decide) ?_
            exact ih_5 (k_ + 1) (upd ftc_ k_ (tdF f_ q_ k_)) (by first | assumption | omega | decide) ((mayB_s _ _).mp ⟨hmay, by rw [← low_bot k_ (by omega)]; exact c_56⟩) (fun z hz => by by_cases hz2 : z = k_ <;> first | (subst hz2; exact upd_at _ _ _) | (rw [upd_ne _ _ hz2]; exact hrow z (by omega))) (by omega) H locs hP hD hS ls (lv_sub hl [0, 1, 4, 5, 6] rfl)
          · refine lv_iconst (v := 0) hx hb dX2_mayBe_59 (by decide) ?_
            have hno : ¬ mayB (tdF f_ q_) 6 = true := fun z => c_56 (by have h9 := mayB_in (show k_ < 6 by omega) z; rw [← low_bot k_ (by omega)] at h9; exact h9)
            refine lv_eqi (y := bI (mayB (tdF f_ q_) 6 = true)) ((bI_f hno).symm) ?_
            exact RT _ _ (ftc_) H locs 60 ls (rt_z (bI_nar _) dX2_mayBe_60) ⟨rfl, (fun z => absurd z hno)⟩ hP hD hS
        refine cn_ne (tgt := 33) hx hb (q_ / 3 ^ k_ % 3) 2 rfl rfl (by omega) (by omega) dX2_mayBe_26 (by decide) (fun c_26 => ?_) (fun c_26 => ?_)
        · refine lv_iload hx hb dX2_mayBe_33 (lv_at hl 0 rfl) ?_
          refine lv_ineg hx hb dX2_mayBe_35 ?_
          exact J_26_40 _ ((if_neg c_26).symm) H locs hP hD hS ls (lv_sub hl [0, 1, 2, 3, 4, 5] rfl)
        · refine lv_iconst (v := 1) hx hb dX2_mayBe_29 (by decide) ?_
          refine lv_goto (tgt := 36) hx hb dX2_mayBe_30 (by decide) ?_
          exact J_26_40 _ ((if_pos c_26).symm) H locs hP hD hS ls (lv_sub hl [0, 1, 2, 3, 4, 5] rfl)
  rw [show ((3, .int (nI q_)) : Nat × Value) = (3, .int (nI (q_ / 3 ^ 0))) from congrArg (fun y9 => ((3, Value.int y9) : Nat × Value)) (show nI q_ = nI (q_ / 3 ^ 0) from by rw [Nat.pow_zero, Nat.div_one])] at hl
  exact L_5 _ 0 f2_ (by first | assumption | omega | decide) (rfl) (fun z hz => absurd hz (Nat.not_lt_zero z)) (Nat.lt_succ_self _) H locs hP hD hS ls (lv_sub hl [0, 1, 2, 3, 4] rfl)
abbrev rmkX2_weigh : Room := { frames := 4, cells := 0, slots := 0, locals := 101 }
set_option maxHeartbeats 4000000 in
set_option maxRecDepth 100000 in
theorem kX2_weigh {l : Launch} {D : va_G} {cy : Nat → ClassId} {sa : Nat → Nat} (d1_ : Nat) (a2_ : Nat) (n2_ : Nat) (d2_ : Nat) (d3_ : Nat) (f2_ : Nat → Int32) (sc_ : Nat → Int32) (a1_ : Nat) (n1_ : Nat) (f_ : Nat → Int32) (t_ : Nat) (ht : t_ < 64) : CT (S := (Nat → Int32)) l D cy sa yX2_weigh wsX2_weigh rmkX2_weigh [.ref d1_, .ref a1_, .int (nI t_)] [(d1_, .inr (2, [.ref a2_, .ref d2_, .ref d3_])), (a2_, .inr (0, [.ref n2_])), (n2_, .inl (cy 0, 6, .inl f2_)), (d2_, .inl (cy 0, 729, .inl cgF)), (d3_, .inl (cy 0, 729, .inl sc_)), (a1_, .inr (0, [.ref n1_])), (n1_, .inl (cy 0, 6, .inl f_))] (fun v9 ft2 => v9 = none) (fun ft2 => [(d1_, .inr (2, [.ref a2_, .ref d2_, .ref d3_])), (a2_, .inr (0, [.ref n2_])), (n2_, .inl (cy 0, 6, .inl ft2)), (d2_, .inl (cy 0, 729, .inl cgF)), (d3_, .inl (cy 0, 729, .inl (wgF f_ t_ sc_ 729))), (a1_, .inr (0, [.ref n1_])), (n1_, .inl (cy 0, 6, .inl f_))]) 0 0 := by
  refine CT.of cX2_weigh 4 none (by decide +kernel) rfl (Nat.le_of_ble_eq_true rfl) ?_
  intro p e s m args below meth c A Q ls F hmn hK hE hA hP hD hS hl RT
  obtain ⟨hx, hb, hml, hown, hts⟩ := id F
  have winX2 : ∀ w ∈ u_ws RX2 TX2 3, w ∈ wsX2_weigh := by decide +kernel
  have wf18 := hts (.fieldLink RX2 18 "SelfSteer$Doubt" "changed" "[I") (by decide +kernel)
  have wf22 := hts (.fieldLink RX2 22 "SelfSteer$Doubt" "speedCounts" "[I") (by decide +kernel)
  have wf12 := hts (.fieldLink RX2 12 "SelfSteer$Doubt" "tried" "LSelfSteer$Bicycle;") (by decide +kernel)
  have wi_X0 := hts (.initialized RX0) (by decide +kernel)
  have wn_X0_speedCount := hts (.instanceMethod yX0_speedCount) (by decide +kernel)
  have we_X0_speedCount := hts (.selects RX0 yX0_speedCount yX0_speedCount) (by decide +kernel)
  have hl : lv_has ls 4 [(0, .ref d1_), (1, .ref a1_), (2, .int (nI t_))] := hl
  have hP : va_P D vwCl [(d1_, .inr (2, [.ref a2_, .ref d2_, .ref d3_])), (a2_, .inr (0, [.ref n2_])), (n2_, .inl (cy 0, 6, .inl f2_)), (d2_, .inl (cy 0, 729, .inl cgF)), (d3_, .inl (cy 0, 729, .inl sc_)), (a1_, .inr (0, [.ref n1_])), (n1_, .inl (cy 0, 6, .inl f_))] s.heap := hP
  have hD : va_D A [(d1_, .inr (2, [.ref a2_, .ref d2_, .ref d3_])), (a2_, .inr (0, [.ref n2_])), (n2_, .inl (cy 0, 6, .inl f2_)), (d2_, .inl (cy 0, 729, .inl cgF)), (d3_, .inl (cy 0, 729, .inl sc_)), (a1_, .inr (0, [.ref n1_])), (n1_, .inl (cy 0, 6, .inl f_))] := hD
  obtain ⟨H, hH⟩ : ∃ H0 : Heap, H0 = s.heap := ⟨_, rfl⟩
  obtain ⟨locs, hlo⟩ : ∃ L0 : List Loc, L0 = [] := ⟨_, rfl⟩
  have hS : va_S A s.heap H locs := by rw [hH, hlo]; exact hS
  rw [← hH] at hP
  show W p l e rmkX2_weigh s m args below meth c s.heap [] 0 0 Q (F0 m 0 ls [])
  suffices hgo : W p l e rmkX2_weigh s m args below meth c H locs 0 0 Q (F0 m 0 ls []) by rw [hH, hlo] at hgo; exact hgo
  clear hH hlo
  refine lv_iconst (v := 0) hx hb dX2_weigh_0 (by decide) ?_
  refine lv_istore_n (lv' := [(3, .int 0), (0, .ref d1_), (1, .ref a1_), (2, .int (nI t_))]) hx hb dX2_weigh_1 rfl hl (by decide) rfl (fun ls hl => ?_)
  have L_2 : ∀ (nF : Nat) (q_ : Nat) (ftc_ : Nat → Int32), (q_ ≤ 729) → 729 - q_ < nF → ∀ (H : Heap) (locs : List Loc), va_P D vwCl [(d1_, .inr (2, [.ref a2_, .ref d2_, .ref d3_])), (a2_, .inr (0, [.ref n2_])), (n2_, .inl (cy 0, 6, .inl ftc_)), (d2_, .inl (cy 0, 729, .inl cgF)), (d3_, .inl (cy 0, 729, .inl (wgF f_ t_ sc_ q_))), (a1_, .inr (0, [.ref n1_])), (n1_, .inl (cy 0, 6, .inl f_))] H → va_D A [(d1_, .inr (2, [.ref a2_, .ref d2_, .ref d3_])), (a2_, .inr (0, [.ref n2_])), (n2_, .inl (cy 0, 6, .inl ftc_)), (d2_, .inl (cy 0, 729, .inl cgF)), (d3_, .inl (cy 0, 729, .inl (wgF f_ t_ sc_ q_))), (a1_, .inr (0, [.ref n1_])), (n1_, .inl (cy 0, 6, .inl f_))] → va_S A s.heap H locs → ∀ (ls : Array Slot), lv_has ls 4 [(3, .int (nI q_)), (0, .ref d1_), (1, .ref a1_), (2, .int (nI t_))] → W p l e rmkX2_weigh s m args below meth c H locs 0 0 Q (F0 m 2 ls []) := by
    intro nF
    induction nF with
    | zero => intro q_ ftc_ hq hnF; exact absurd hnF (Nat.not_lt_zero _)
    | succ nF ih_2 =>
      intro q_ ftc_ hq hn_2 H locs hP hD hS ls hl
      refine lv_iload_n hx hb dX2_weigh_2 rfl (lv_at hl 0 rfl) ?_
      refine lv_sipush (v := 729) hx hb dX2_weigh_3 (by decide) ?_
      refine cn_ge (tgt := 52) hx hb q_ 729 rfl rfl (by omega) (by omega) dX2_weigh_6 (by decide) (fun c_6 => ?_) (fun c_6 => ?_)
      · obtain rfl : 729 = q_ := by omega
        exact RT _ _ (ftc_) H locs 52 ls (rt_v dX2_weigh_52) rfl hP hD hS
      · refine lv_aload_n hx hb dX2_weigh_9 rfl (lv_at hl 1 rfl) ?_
        refine va_get (D := D) (ci := 2) (v := .ref d2_) (C := RX2) (T := TX2) (N := 3) hx hb hts winX2 hown hK hP 0 rfl rfl 1 (by decide) wf18 (fun _ h9 => h9) rfl dX2_weigh_10 ?_
        refine lv_iload_n hx hb dX2_weigh_13 rfl (lv_at hl 0 rfl) ?_
        refine al_i hx hb hK hP 3 rfl q_ (rfl) (by omega) (by decide) dX2_weigh_14 ?_
        refine lv_iload_n hx hb dX2_weigh_15 rfl (lv_at hl 3 rfl) ?_
        refine lv_iand hx hb dX2_weigh_16 ?_
        refine lv_if_ne (tgt := 46) hx hb dX2_weigh_17 (by decide) (fun c_17 => ?_) (fun c_17 => ?_)
        · refine lv_iinc (v := nI (q_ + 1)) (lv' := [(3, .int (nI (q_ + 1))), (0, .ref d1_), (1, .ref a1_), (2, .int (nI t_))]) hx hb dX2_weigh_46 hl (k := 0) rfl (nI_add q_ 1) (by decide) rfl (fun ls hl => ?_)
          refine lv_goto (tgt := 2) hx hb dX2_weigh_49 (by decide) ?_
          obtain ⟨hP, hD⟩ := ro_ws (g := wgF f_ t_ sc_ (q_ + 1)) hP hD 4 rfl (fun z9 _ => congrFun (show wgF f_ t_ sc_ q_ = wgF f_ t_ sc_ (q_ + 1) from (by first | exact wgF_f c_17 | (rw [ez31]; exact wgF_t c_17))) z9)
          have hP : va_P D vwCl [(d1_, .inr (2, [.ref a2_, .ref d2_, .ref d3_])), (a2_, .inr (0, [.ref n2_])), (n2_, .inl (cy 0, 6, .inl ftc_)), (d2_, .inl (cy 0, 729, .inl cgF)), (d3_, .inl (cy 0, 729, .inl (wgF f_ t_ sc_ (q_ + 1)))), (a1_, .inr (0, [.ref n1_])), (n1_, .inl (cy 0, 6, .inl f_))] H := hP
          have hD : va_D A [(d1_, .inr (2, [.ref a2_, .ref d2_, .ref d3_])), (a2_, .inr (0, [.ref n2_])), (n2_, .inl (cy 0, 6, .inl ftc_)), (d2_, .inl (cy 0, 729, .inl cgF)), (d3_, .inl (cy 0, 729, .inl (wgF f_ t_ sc_ (q_ + 1)))), (a1_, .inr (0, [.ref n1_])), (n1_, .inl (cy 0, 6, .inl f_))] := hD
          exact ih_2 (q_ + 1) ftc_ (by first | assumption | omega | decide) (by omega) H locs hP hD hS ls (lv_sub hl [0, 1, 2, 3] rfl)
        · refine lv_aload_n hx hb dX2_weigh_20 rfl (lv_at hl 1 rfl) ?_
          refine va_get (D := D) (ci := 2) (v := .ref d3_) (C := RX2) (T := TX2) (N := 3) hx hb hts winX2 hown hK hP 0 rfl rfl 2 (by decide) wf22 (fun _ h9 => h9) rfl dX2_weigh_21 ?_
          refine lv_iload_n hx hb dX2_weigh_24 rfl (lv_at hl 0 rfl) ?_
          refine lv_aload_n hx hb dX2_weigh_25 rfl (lv_at hl 1 rfl) ?_
          refine lv_aload_n hx hb dX2_weigh_26 rfl (lv_at hl 2 rfl) ?_
          refine lv_iload_n hx hb dX2_weigh_27 rfl (lv_at hl 0 rfl) ?_
          refine ca_V (q0 := 0) (n := 2) (rest := [.int (nI q_), .ref d3_]) (wr := []) F hK hE hA hP hD hS hl.1 (kX2_mayBe (l := l) (D := D) (cy := cy) (sa := sa) d1_ a2_ n2_ d2_ d3_ ftc_ (wgF f_ t_ sc_ q_) a1_ n1_ f_ q_ (by omega)) gX2_weigh_X2_mayBe rfl rfl rfl rfl rfl rfl (by decide +kernel) ⟨by decide, by decide⟩ [0, 1, 2, 3, 4, 5, 6] [] rfl rfl rfl rfl (by decide) rfl rfl (Nat.le_of_ble_eq_true rfl) dX2_weigh_28 ⟨by decide, by decide⟩ (fun v9 u9 H locs hv hP hD hS => ?_)
          obtain ⟨u28_ft2, hu9⟩ : ∃ z, z = u9 := ⟨_, rfl⟩
          subst hu9
          obtain ⟨hv, hrow_28⟩ := hv
          subst hv
          obtain ⟨hP, hD⟩ := re_ws (ws' := [(d1_, .inr (2, [.ref a2_, .ref d2_, .ref d3_])), (a2_, .inr (0, [.ref n2_])), (n2_, .inl (cy 0, 6, .inl u28_ft2)), (d2_, .inl (cy 0, 729, .inl cgF)), (d3_, .inl (cy 0, 729, .inl (wgF f_ t_ sc_ q_))), (a1_, .inr (0, [.ref n1_])), (n1_, .inl (cy 0, 6, .inl f_))]) hP hD [0, 1, 2, 3, 4, 5, 6] rfl rfl
          refine W.eq (g2 := F0 m 31 ls [.int (bI (mayB (tdF f_ q_) 6 = true)), .int (nI q_), .ref d3_]) rfl ?_
          have J_31_49 : ∀ (z31 : Int32), z31 = (if mayB (tdF f_ q_) 6 = true then (pc64 (rg (tdF f_ q_) 41)) else (-1)) → ∀ (H : Heap) (locs : List Loc), va_P D vwCl [(d1_, .inr (2, [.ref a2_, .ref d2_, .ref d3_])), (a2_, .inr (0, [.ref n2_])), (n2_, .inl (cy 0, 6, .inl u28_ft2)), (d2_, .inl (cy 0, 729, .inl cgF)), (d3_, .inl (cy 0, 729, .inl (wgF f_ t_ sc_ q_))), (a1_, .inr (0, [.ref n1_])), (n1_, .inl (cy 0, 6, .inl f_))] H → va_D A [(d1_, .inr (2, [.ref a2_, .ref d2_, .ref d3_])), (a2_, .inr (0, [.ref n2_])), (n2_, .inl (cy 0, 6, .inl u28_ft2)), (d2_, .inl (cy 0, 729, .inl cgF)), (d3_, .inl (cy 0, 729, .inl (wgF f_ t_ sc_ q_))), (a1_, .inr (0, [.ref n1_])), (n1_, .inl (cy 0, 6, .inl f_))] → va_S A s.heap H locs → ∀ (ls : Array Slot), lv_has ls 4 [(3, .int (nI q_)), (0, .ref d1_), (1, .ref a1_), (2, .int (nI t_))] → W p l e rmkX2_weigh s m args below meth c H locs 0 0 Q (F0 m 45 ls [.int z31, .int (nI q_), .ref d3_]) := by
            intro z31 ez31 H locs hP hD hS ls hl
            refine as_i (x := z31) hx hb hK hP hD hS 4 rfl q_ (rfl) (by omega) (by decide) dX2_weigh_45 (fun H locs hP hD hS => ?_)
            have hP : va_P D vwCl [(d1_, .inr (2, [.ref a2_, .ref d2_, .ref d3_])), (a2_, .inr (0, [.ref n2_])), (n2_, .inl (cy 0, 6, .inl u28_ft2)), (d2_, .inl (cy 0, 729, .inl cgF)), (d3_, .inl (cy 0, 729, .inl (upd (wgF f_ t_ sc_ q_) q_ z31))), (a1_, .inr (0, [.ref n1_])), (n1_, .inl (cy 0, 6, .inl f_))] H := hP
            have hD : va_D A [(d1_, .inr (2, [.ref a2_, .ref d2_, .ref d3_])), (a2_, .inr (0, [.ref n2_])), (n2_, .inl (cy 0, 6, .inl u28_ft2)), (d2_, .inl (cy 0, 729, .inl cgF)), (d3_, .inl (cy 0, 729, .inl (upd (wgF f_ t_ sc_ q_) q_ z31))), (a1_, .inr (0, [.ref n1_])), (n1_, .inl (cy 0, 6, .inl f_))] := hD
            refine lv_iinc (v := nI (q_ + 1)) (lv' := [(3, .int (nI (q_ + 1))), (0, .ref d1_), (1, .ref a1_), (2, .int (nI t_))]) hx hb dX2_weigh_46 hl (k := 0) rfl (nI_add q_ 1) (by decide) rfl (fun ls hl => ?_)
            refine lv_goto (tgt := 2) hx hb dX2_weigh_49 (by decide) ?_
            obtain ⟨hP, hD⟩ := ro_ws (g := wgF f_ t_ sc_ (q_ + 1)) hP hD 4 rfl (fun z9 _ => congrFun (show upd (wgF f_ t_ sc_ q_) q_ z31 = wgF f_ t_ sc_ (q_ + 1) from (by first | exact wgF_f c_17 | (rw [ez31]; exact wgF_t c_17))) z9)
            have hP : va_P D vwCl [(d1_, .inr (2, [.ref a2_, .ref d2_, .ref d3_])), (a2_, .inr (0, [.ref n2_])), (n2_, .inl (cy 0, 6, .inl u28_ft2)), (d2_, .inl (cy 0, 729, .inl cgF)), (d3_, .inl (cy 0, 729, .inl (wgF f_ t_ sc_ (q_ + 1)))), (a1_, .inr (0, [.ref n1_])), (n1_, .inl (cy 0, 6, .inl f_))] H := hP
            have hD : va_D A [(d1_, .inr (2, [.ref a2_, .ref d2_, .ref d3_])), (a2_, .inr (0, [.ref n2_])), (n2_, .inl (cy 0, 6, .inl u28_ft2)), (d2_, .inl (cy 0, 729, .inl cgF)), (d3_, .inl (cy 0, 729, .inl (wgF f_ t_ sc_ (q_ + 1)))), (a1_, .inr (0, [.ref n1_])), (n1_, .inl (cy 0, 6, .inl f_))] := hD
            exact ih_2 (q_ + 1) u28_ft2 (by first | assumption | omega | decide) (by omega) H locs hP hD hS ls (lv_sub hl [0, 1, 2, 3] rfl)
          refine bz_eq (tgt := 44) hx hb dX2_weigh_31 (by decide) (fun c_31 => ?_) (fun c_31 => ?_)
          · refine lv_iconst (v := (-1)) hx hb dX2_weigh_44 (by decide) ?_
            exact J_31_49 _ ((if_neg c_31).symm) H locs hP hD hS ls (lv_sub hl [0, 1, 2, 3] rfl)
          · refine lv_aload_n hx hb dX2_weigh_34 rfl (lv_at hl 1 rfl) ?_
            refine va_get (D := D) (ci := 2) (v := .ref a2_) (C := RX2) (T := TX2) (N := 3) hx hb hts winX2 hown hK hP 0 rfl rfl 0 (by decide) wf12 (fun _ h9 => h9) rfl dX2_weigh_35 ?_
            refine ca_VN (C := RX0) (q0 := 1) (n := 0) (rest := [.int (nI q_), .ref d3_]) (wr := [(d1_, .inr (2, [.ref a2_, .ref d2_, .ref d3_])), (d2_, .inl (cy 0, 729, .inl cgF)), (d3_, .inl (cy 0, 729, .inl (wgF f_ t_ sc_ q_))), (a1_, .inr (0, [.ref n1_])), (n1_, .inl (cy 0, 6, .inl f_))]) F hK hE hA hP hD hS hl.1 (kX0_speedCount (l := l) (D := D) (cy := cy) (sa := sa) a2_ n2_ u28_ft2 (okF_may c_31 (hrow_28 c_31))) gX2_weigh_X0_speedCount_n33 (hE.nest 50 rfl) wi_X0 wn_X0_speedCount we_X0_speedCount rfl rfl rfl rfl rfl rfl (by decide +kernel) ⟨by decide, by decide⟩ [1, 2] [0, 3, 4, 5, 6] rfl rfl rfl rfl (by decide) rfl rfl (Nat.le_of_ble_eq_true rfl) dX2_weigh_38 ⟨by decide, by decide⟩ (fun v9 u9 H locs hv hP hD hS => ?_)
            subst hv
            obtain ⟨hP, hD⟩ := re_ws (ws' := [(d1_, .inr (2, [.ref a2_, .ref d2_, .ref d3_])), (a2_, .inr (0, [.ref n2_])), (n2_, .inl (cy 0, 6, .inl u28_ft2)), (d2_, .inl (cy 0, 729, .inl cgF)), (d3_, .inl (cy 0, 729, .inl (wgF f_ t_ sc_ q_))), (a1_, .inr (0, [.ref n1_])), (n1_, .inl (cy 0, 6, .inl f_))]) hP hD [0, 5, 6, 1, 2, 3, 4] rfl rfl
            refine W.eq (g2 := F0 m 41 ls [.int (pc64 (rg u28_ft2 41)), .int (nI q_), .ref d3_]) rfl ?_
            refine lv_eqi (y := pc64 (rg (tdF f_ q_) 41)) (by rw [rg_ext (hrow_28 c_31)]) ?_
            refine lv_goto (tgt := 45) hx hb dX2_weigh_41 (by decide) ?_
            exact J_31_49 _ ((if_pos c_31).symm) H locs hP hD hS ls (lv_sub hl [0, 1, 2, 3] rfl)
  obtain ⟨hP, hD⟩ := ro_ws (g := wgF f_ t_ sc_ 0) hP hD 4 rfl (fun z9 _ => congrFun (show sc_ = wgF f_ t_ sc_ 0 from (wgF_0 _ _ _).symm) z9)
  have hP : va_P D vwCl [(d1_, .inr (2, [.ref a2_, .ref d2_, .ref d3_])), (a2_, .inr (0, [.ref n2_])), (n2_, .inl (cy 0, 6, .inl f2_)), (d2_, .inl (cy 0, 729, .inl cgF)), (d3_, .inl (cy 0, 729, .inl (wgF f_ t_ sc_ 0))), (a1_, .inr (0, [.ref n1_])), (n1_, .inl (cy 0, 6, .inl f_))] H := hP
  have hD : va_D A [(d1_, .inr (2, [.ref a2_, .ref d2_, .ref d3_])), (a2_, .inr (0, [.ref n2_])), (n2_, .inl (cy 0, 6, .inl f2_)), (d2_, .inl (cy 0, 729, .inl cgF)), (d3_, .inl (cy 0, 729, .inl (wgF f_ t_ sc_ 0))), (a1_, .inr (0, [.ref n1_])), (n1_, .inl (cy 0, 6, .inl f_))] := hD
  exact L_2 _ 0 f2_ (by first | assumption | omega | decide) (Nat.lt_succ_self _) H locs hP hD hS ls (lv_sub hl [0, 1, 2, 3] rfl)
abbrev rmkX2_spreadOf : Room := { frames := 1, cells := 0, slots := 0, locals := 40 }
set_option maxHeartbeats 4000000 in
set_option maxRecDepth 100000 in
theorem kX2_spreadOf {l : Launch} {D : va_G} {cy : Nat → ClassId} {sa : Nat → Nat} (d1_ : Nat) (a2_ : Nat) (n2_ : Nat) (d2_ : Nat) (d3_ : Nat) (f2_ : Nat → Int32) (sc_ : Nat → Int32) (t_ : Nat) (ht : t_ < 64) : CD l D cy sa yX2_spreadOf wsX2_spreadOf rmkX2_spreadOf [.ref d1_, .int (nI t_)] [(d1_, .inr (2, [.ref a2_, .ref d2_, .ref d3_])), (a2_, .inr (0, [.ref n2_])), (n2_, .inl (cy 0, 6, .inl f2_)), (d2_, .inl (cy 0, 729, .inl cgF)), (d3_, .inl (cy 0, 729, .inl sc_))] (some (.int (spC sc_ t_))) [(d1_, .inr (2, [.ref a2_, .ref d2_, .ref d3_])), (a2_, .inr (0, [.ref n2_])), (n2_, .inl (cy 0, 6, .inl f2_)), (d2_, .inl (cy 0, 729, .inl cgF)), (d3_, .inl (cy 0, 729, .inl sc_))] := by
  refine CT.of cX2_spreadOf 5 (some .int) (by decide +kernel) rfl (Nat.le_of_ble_eq_true rfl) ?_
  intro p e s m args below meth c A Q ls F hmn hK hE hA hP hD hS hl RT
  obtain ⟨hx, hb, hml, hown, hts⟩ := id F
  have winX2 : ∀ w ∈ u_ws RX2 TX2 3, w ∈ wsX2_spreadOf := by decide +kernel
  have wf22 := hts (.fieldLink RX2 22 "SelfSteer$Doubt" "speedCounts" "[I") (by decide +kernel)
  have wf18 := hts (.fieldLink RX2 18 "SelfSteer$Doubt" "changed" "[I") (by decide +kernel)
  have wm54 := hts (.methodLink RX2 54 Lib.Math.min.name) (by decide +kernel)
  have ws_min := hts (.static Lib.Math.min.name) (by decide +kernel)
  have wi_math := hts (.initialized "java/lang/Math") (by decide +kernel)
  have wk_min := hts (.code Lib.Math.min.name Lib.Math.min.code 2 (some .int)) (by decide +kernel)
  have wm60 := hts (.methodLink RX2 60 Lib.Math.max.name) (by decide +kernel)
  have ws_max := hts (.static Lib.Math.max.name) (by decide +kernel)
  have wk_max := hts (.code Lib.Math.max.name Lib.Math.max.code 2 (some .int)) (by decide +kernel)
  have hl : lv_has ls 5 [(0, .ref d1_), (1, .int (nI t_))] := hl
  have hP : va_P D vwCl [(d1_, .inr (2, [.ref a2_, .ref d2_, .ref d3_])), (a2_, .inr (0, [.ref n2_])), (n2_, .inl (cy 0, 6, .inl f2_)), (d2_, .inl (cy 0, 729, .inl cgF)), (d3_, .inl (cy 0, 729, .inl sc_))] s.heap := hP
  have hD : va_D A [(d1_, .inr (2, [.ref a2_, .ref d2_, .ref d3_])), (a2_, .inr (0, [.ref n2_])), (n2_, .inl (cy 0, 6, .inl f2_)), (d2_, .inl (cy 0, 729, .inl cgF)), (d3_, .inl (cy 0, 729, .inl sc_))] := hD
  obtain ⟨H, hH⟩ : ∃ H0 : Heap, H0 = s.heap := ⟨_, rfl⟩
  obtain ⟨locs, hlo⟩ : ∃ L0 : List Loc, L0 = [] := ⟨_, rfl⟩
  have hS : va_S A s.heap H locs := by rw [hH, hlo]; exact hS
  rw [← hH] at hP
  show W p l e rmkX2_spreadOf s m args below meth c s.heap [] 0 0 Q (F0 m 0 ls [])
  suffices hgo : W p l e rmkX2_spreadOf s m args below meth c H locs 0 0 Q (F0 m 0 ls []) by rw [hH, hlo] at hgo; exact hgo
  clear hH hlo
  refine lv_aload_n hx hb dX2_spreadOf_0 rfl (lv_at hl 0 rfl) ?_
  refine va_get (D := D) (ci := 2) (v := .ref d3_) (C := RX2) (T := TX2) (N := 3) hx hb hts winX2 hown hK hP 0 rfl rfl 2 (by decide) wf22 (fun _ h9 => h9) rfl dX2_spreadOf_1 ?_
  refine lv_iconst (v := 0) hx hb dX2_spreadOf_4 (by decide) ?_
  refine al_i hx hb hK hP 4 rfl 0 (rfl) (by decide) (by decide) dX2_spreadOf_5 ?_
  refine lv_istore_n (lv' := [(2, .int (sc_ 0)), (0, .ref d1_), (1, .int (nI t_))]) hx hb dX2_spreadOf_6 rfl hl (by decide) rfl (fun ls hl => ?_)
  refine lv_aload_n hx hb dX2_spreadOf_7 rfl (lv_at hl 1 rfl) ?_
  refine va_get (D := D) (ci := 2) (v := .ref d3_) (C := RX2) (T := TX2) (N := 3) hx hb hts winX2 hown hK hP 0 rfl rfl 2 (by decide) wf22 (fun _ h9 => h9) rfl dX2_spreadOf_8 ?_
  refine lv_iconst (v := 0) hx hb dX2_spreadOf_11 (by decide) ?_
  refine al_i hx hb hK hP 4 rfl 0 (rfl) (by decide) (by decide) dX2_spreadOf_12 ?_
  refine lv_istore_n (lv' := [(3, .int (sc_ 0)), (2, .int (sc_ 0)), (0, .ref d1_), (1, .int (nI t_))]) hx hb dX2_spreadOf_13 rfl hl (by decide) rfl (fun ls hl => ?_)
  refine lv_iconst (v := 1) hx hb dX2_spreadOf_14 (by decide) ?_
  refine lv_istore (lv' := [(4, .int 1), (3, .int (sc_ 0)), (2, .int (sc_ 0)), (0, .ref d1_), (1, .int (nI t_))]) hx hb dX2_spreadOf_15 hl (by decide) rfl (fun ls hl => ?_)
  have L_17 : ∀ (nF : Nat) (n_ : Nat), (n_ ≤ 728) → 728 - n_ < nF → ∀ (H : Heap) (locs : List Loc), va_P D vwCl [(d1_, .inr (2, [.ref a2_, .ref d2_, .ref d3_])), (a2_, .inr (0, [.ref n2_])), (n2_, .inl (cy 0, 6, .inl f2_)), (d2_, .inl (cy 0, 729, .inl cgF)), (d3_, .inl (cy 0, 729, .inl sc_))] H → va_D A [(d1_, .inr (2, [.ref a2_, .ref d2_, .ref d3_])), (a2_, .inr (0, [.ref n2_])), (n2_, .inl (cy 0, 6, .inl f2_)), (d2_, .inl (cy 0, 729, .inl cgF)), (d3_, .inl (cy 0, 729, .inl sc_))] → va_S A s.heap H locs → ∀ (ls : Array Slot), lv_has ls 5 [(4, .int (nI (n_ + 1))), (3, .int (mxC sc_ t_ n_)), (2, .int (mnC sc_ t_ n_)), (0, .ref d1_), (1, .int (nI t_))] → W p l e rmkX2_spreadOf s m args below meth c H locs 0 0 Q (F0 m 17 ls []) := by
    intro nF
    induction nF with
    | zero => intro n_ hn hnF; exact absurd hnF (Nat.not_lt_zero _)
    | succ nF ih_17 =>
      intro n_ hn hn_17 H locs hP hD hS ls hl
      refine lv_iload hx hb dX2_spreadOf_17 (lv_at hl 0 rfl) ?_
      refine lv_sipush (v := 729) hx hb dX2_spreadOf_19 (by decide) ?_
      refine cn_ge (tgt := 78) hx hb (n_ + 1) 729 rfl rfl (by omega) (by omega) dX2_spreadOf_22 (by decide) (fun c_22 => ?_) (fun c_22 => ?_)
      · refine lv_iload_n hx hb dX2_spreadOf_78 rfl (lv_at hl 1 rfl) ?_
        refine lv_iload_n hx hb dX2_spreadOf_79 rfl (lv_at hl 2 rfl) ?_
        refine lv_isub hx hb dX2_spreadOf_80 ?_
        refine lv_eqi (y := spC sc_ t_) (by rw [show n_ = 728 by omega]; rfl) ?_
        exact RT _ _ () H locs 81 ls (rt_i dX2_spreadOf_81) rfl hP hD hS
      · refine lv_aload_n hx hb dX2_spreadOf_25 rfl (lv_at hl 3 rfl) ?_
        refine va_get (D := D) (ci := 2) (v := .ref d2_) (C := RX2) (T := TX2) (N := 3) hx hb hts winX2 hown hK hP 0 rfl rfl 1 (by decide) wf18 (fun _ h9 => h9) rfl dX2_spreadOf_26 ?_
        refine lv_iload hx hb dX2_spreadOf_29 (lv_at hl 0 rfl) ?_
        refine al_i hx hb hK hP 3 rfl (n_ + 1) (rfl) (by omega) (by decide) dX2_spreadOf_31 ?_
        refine lv_iload_n hx hb dX2_spreadOf_32 rfl (lv_at hl 4 rfl) ?_
        refine lv_iand hx hb dX2_spreadOf_33 ?_
        have J_34_42 : ∀ (z34 : Int32), z34 = (if ((cgF (n_ + 1)) &&& (nI t_)) = 0 then (if (sc_ (n_ + 1)) = (-1) then (mxC sc_ t_ n_) else (if (mxC sc_ t_ n_) < (sc_ (n_ + 1)) then (sc_ (n_ + 1)) else (mxC sc_ t_ n_))) else (mxC sc_ t_ n_)) → ∀ (z34b : Int32), z34b = (if ((cgF (n_ + 1)) &&& (nI t_)) = 0 then (if (sc_ (n_ + 1)) = (-1) then (mnC sc_ t_ n_) else (if (sc_ (n_ + 1)) < (mnC sc_ t_ n_) then (sc_ (n_ + 1)) else (mnC sc_ t_ n_))) else (mnC sc_ t_ n_)) → ∀ (H : Heap) (locs : List Loc), va_P D vwCl [(d1_, .inr (2, [.ref a2_, .ref d2_, .ref d3_])), (a2_, .inr (0, [.ref n2_])), (n2_, .inl (cy 0, 6, .inl f2_)), (d2_, .inl (cy 0, 729, .inl cgF)), (d3_, .inl (cy 0, 729, .inl sc_))] H → va_D A [(d1_, .inr (2, [.ref a2_, .ref d2_, .ref d3_])), (a2_, .inr (0, [.ref n2_])), (n2_, .inl (cy 0, 6, .inl f2_)), (d2_, .inl (cy 0, 729, .inl cgF)), (d3_, .inl (cy 0, 729, .inl sc_))] → va_S A s.heap H locs → ∀ (ls : Array Slot), lv_has ls 5 [(4, .int (nI (n_ + 1))), (3, .int z34), (2, .int z34b), (0, .ref d1_), (1, .int (nI t_))] → W p l e rmkX2_spreadOf s m args below meth c H locs 0 0 Q (F0 m 72 ls []) := by
          intro z34 ez34 z34b ez34b H locs hP hD hS ls hl
          refine lv_iinc (v := nI ((n_ + 1) + 1)) (lv' := [(4, .int (nI ((n_ + 1) + 1))), (3, .int z34), (2, .int z34b), (0, .ref d1_), (1, .int (nI t_))]) hx hb dX2_spreadOf_72 hl (k := 0) rfl (nI_add (n_ + 1) 1) (by decide) rfl (fun ls hl => ?_)
          refine lv_goto (tgt := 17) hx hb dX2_spreadOf_75 (by decide) ?_
          rw [show ((3, .int z34) : Nat × Value) = (3, .int (mxC sc_ t_ (n_ + 1))) from congrArg (fun y9 => ((3, Value.int y9) : Nat × Value)) (show z34 = mxC sc_ t_ (n_ + 1) from (by first | exact ez34 | exact ez34b))] at hl
          rw [show ((2, .int z34b) : Nat × Value) = (2, .int (mnC sc_ t_ (n_ + 1))) from congrArg (fun y9 => ((2, Value.int y9) : Nat × Value)) (show z34b = mnC sc_ t_ (n_ + 1) from (by first | exact ez34 | exact ez34b))] at hl
          exact ih_17 (n_ + 1) (by first | assumption | omega | decide) (by omega) H locs hP hD hS ls (lv_sub hl [0, 1, 2, 3, 4] rfl)
        refine lv_if_ne (tgt := 72) hx hb dX2_spreadOf_34 (by decide) (fun c_34 => ?_) (fun c_34 => ?_)
        · exact J_34_42 _ ((if_neg c_34).symm) _ ((if_neg c_34).symm) H locs hP hD hS ls (lv_sub hl [0, 1, 2, 3, 4] rfl)
        · refine lv_aload_n hx hb dX2_spreadOf_37 rfl (lv_at hl 3 rfl) ?_
          refine va_get (D := D) (ci := 2) (v := .ref d3_) (C := RX2) (T := TX2) (N := 3) hx hb hts winX2 hown hK hP 0 rfl rfl 2 (by decide) wf22 (fun _ h9 => h9) rfl dX2_spreadOf_38 ?_
          refine lv_iload hx hb dX2_spreadOf_41 (lv_at hl 0 rfl) ?_
          refine al_i hx hb hK hP 4 rfl (n_ + 1) (rfl) (by omega) (by decide) dX2_spreadOf_43 ?_
          refine lv_iconst (v := (-1)) hx hb dX2_spreadOf_44 (by decide) ?_
          refine lv_icmp_eq (tgt := 72) hx hb dX2_spreadOf_45 (by decide) (fun c_45 => ?_) (fun c_45 => ?_)
          · exact J_34_42 _ (((if_pos c_34).trans (if_pos c_45)).symm) _ (((if_pos c_34).trans (if_pos c_45)).symm) H locs hP hD hS ls (lv_sub hl [0, 1, 2, 3, 4] rfl)
          · refine lv_iload_n hx hb dX2_spreadOf_48 rfl (lv_at hl 2 rfl) ?_
            refine lv_aload_n hx hb dX2_spreadOf_49 rfl (lv_at hl 3 rfl) ?_
            refine va_get (D := D) (ci := 2) (v := .ref d3_) (C := RX2) (T := TX2) (N := 3) hx hb hts winX2 hown hK hP 0 rfl rfl 2 (by decide) wf22 (fun _ h9 => h9) rfl dX2_spreadOf_50 ?_
            refine lv_iload hx hb dX2_spreadOf_53 (lv_at hl 0 rfl) ?_
            refine al_i hx hb hK hP 4 rfl (n_ + 1) (rfl) (by omega) (by decide) dX2_spreadOf_55 ?_
            refine va_mmin hx hb (hml.trans hl.1.symm) hown wm54 ws_min wi_math wk_min (by decide) (Nat.le_of_ble_eq_true rfl) (Nat.zero_le _) (Nat.zero_le _) dX2_spreadOf_56 ?_
            refine lv_istore_n (lv' := [(2, .int (if (sc_ (n_ + 1)) < (mnC sc_ t_ n_) then (sc_ (n_ + 1)) else (mnC sc_ t_ n_))), (4, .int (nI (n_ + 1))), (3, .int (mxC sc_ t_ n_)), (0, .ref d1_), (1, .int (nI t_))]) hx hb dX2_spreadOf_59 rfl hl (by decide) rfl (fun ls hl => ?_)
            refine lv_iload_n hx hb dX2_spreadOf_60 rfl (lv_at hl 2 rfl) ?_
            refine lv_aload_n hx hb dX2_spreadOf_61 rfl (lv_at hl 3 rfl) ?_
            refine va_get (D := D) (ci := 2) (v := .ref d3_) (C := RX2) (T := TX2) (N := 3) hx hb hts winX2 hown hK hP 0 rfl rfl 2 (by decide) wf22 (fun _ h9 => h9) rfl dX2_spreadOf_62 ?_
            refine lv_iload hx hb dX2_spreadOf_65 (lv_at hl 1 rfl) ?_
            refine al_i hx hb hK hP 4 rfl (n_ + 1) (rfl) (by omega) (by decide) dX2_spreadOf_67 ?_
            refine va_mmax hx hb (hml.trans hl.1.symm) hown wm60 ws_max wi_math wk_max (by decide) (Nat.le_of_ble_eq_true rfl) (Nat.zero_le _) (Nat.zero_le _) dX2_spreadOf_68 ?_
            refine lv_istore_n (lv' := [(3, .int (if (mxC sc_ t_ n_) < (sc_ (n_ + 1)) then (sc_ (n_ + 1)) else (mxC sc_ t_ n_))), (2, .int (if (sc_ (n_ + 1)) < (mnC sc_ t_ n_) then (sc_ (n_ + 1)) else (mnC sc_ t_ n_))), (4, .int (nI (n_ + 1))), (0, .ref d1_), (1, .int (nI t_))]) hx hb dX2_spreadOf_71 rfl hl (by decide) rfl (fun ls hl => ?_)
            exact J_34_42 _ (((if_pos c_34).trans (if_neg c_45)).symm) _ (((if_pos c_34).trans (if_neg c_45)).symm) H locs hP hD hS ls (lv_sub hl [2, 0, 1, 3, 4] rfl)
  exact L_17 _ 0 (by first | assumption | omega | decide) (Nat.lt_succ_self _) H locs hP hD hS ls (lv_sub hl [0, 1, 2, 3, 4] rfl)
abbrev rmkX2_fewestFor : Room := { frames := 2, cells := 0, slots := 0, locals := 64 }
set_option maxHeartbeats 4000000 in
set_option maxRecDepth 100000 in
theorem kX2_fewestFor {l : Launch} {D : va_G} {cy : Nat → ClassId} {sa : Nat → Nat} (d1_ : Nat) (a2_ : Nat) (n2_ : Nat) (d2_ : Nat) (d3_ : Nat) (f2_ : Nat → Int32) (sc_ : Nat → Int32) (d_ : Int32)  : CD l D cy sa yX2_fewestFor wsX2_fewestFor rmkX2_fewestFor [.ref d1_, .int d_] [(d1_, .inr (2, [.ref a2_, .ref d2_, .ref d3_])), (a2_, .inr (0, [.ref n2_])), (n2_, .inl (cy 0, 6, .inl f2_)), (d2_, .inl (cy 0, 729, .inl cgF)), (d3_, .inl (cy 0, 729, .inl sc_))] (some (.int (nI (fwC sc_ d_ 64)))) [(d1_, .inr (2, [.ref a2_, .ref d2_, .ref d3_])), (a2_, .inr (0, [.ref n2_])), (n2_, .inl (cy 0, 6, .inl f2_)), (d2_, .inl (cy 0, 729, .inl cgF)), (d3_, .inl (cy 0, 729, .inl sc_))] := by
  refine CT.of cX2_fewestFor 4 (some .int) (by decide +kernel) rfl (Nat.le_of_ble_eq_true rfl) ?_
  intro p e s m args below meth c A Q ls F hmn hK hE hA hP hD hS hl RT
  obtain ⟨hx, hb, hml, hown, hts⟩ := id F
  have hl : lv_has ls 4 [(0, .ref d1_), (1, .int d_)] := hl
  have hP : va_P D vwCl [(d1_, .inr (2, [.ref a2_, .ref d2_, .ref d3_])), (a2_, .inr (0, [.ref n2_])), (n2_, .inl (cy 0, 6, .inl f2_)), (d2_, .inl (cy 0, 729, .inl cgF)), (d3_, .inl (cy 0, 729, .inl sc_))] s.heap := hP
  have hD : va_D A [(d1_, .inr (2, [.ref a2_, .ref d2_, .ref d3_])), (a2_, .inr (0, [.ref n2_])), (n2_, .inl (cy 0, 6, .inl f2_)), (d2_, .inl (cy 0, 729, .inl cgF)), (d3_, .inl (cy 0, 729, .inl sc_))] := hD
  obtain ⟨H, hH⟩ : ∃ H0 : Heap, H0 = s.heap := ⟨_, rfl⟩
  obtain ⟨locs, hlo⟩ : ∃ L0 : List Loc, L0 = [] := ⟨_, rfl⟩
  have hS : va_S A s.heap H locs := by rw [hH, hlo]; exact hS
  rw [← hH] at hP
  show W p l e rmkX2_fewestFor s m args below meth c s.heap [] 0 0 Q (F0 m 0 ls [])
  suffices hgo : W p l e rmkX2_fewestFor s m args below meth c H locs 0 0 Q (F0 m 0 ls []) by rw [hH, hlo] at hgo; exact hgo
  clear hH hlo
  refine lv_bipush (v := 63) hx hb dX2_fewestFor_0 (by decide) ?_
  refine lv_istore_n (lv' := [(2, .int 63), (0, .ref d1_), (1, .int d_)]) hx hb dX2_fewestFor_2 rfl hl (by decide) rfl (fun ls hl => ?_)
  refine lv_iconst (v := 0) hx hb dX2_fewestFor_3 (by decide) ?_
  refine lv_istore_n (lv' := [(3, .int 0), (2, .int 63), (0, .ref d1_), (1, .int d_)]) hx hb dX2_fewestFor_4 rfl hl (by decide) rfl (fun ls hl => ?_)
  have L_5 : ∀ (nF : Nat) (t_ : Nat), (t_ ≤ 64) → 64 - t_ < nF → ∀ (H : Heap) (locs : List Loc), va_P D vwCl [(d1_, .inr (2, [.ref a2_, .ref d2_, .ref d3_])), (a2_, .inr (0, [.ref n2_])), (n2_, .inl (cy 0, 6, .inl f2_)), (d2_, .inl (cy 0, 729, .inl cgF)), (d3_, .inl (cy 0, 729, .inl sc_))] H → va_D A [(d1_, .inr (2, [.ref a2_, .ref d2_, .ref d3_])), (a2_, .inr (0, [.ref n2_])), (n2_, .inl (cy 0, 6, .inl f2_)), (d2_, .inl (cy 0, 729, .inl cgF)), (d3_, .inl (cy 0, 729, .inl sc_))] → va_S A s.heap H locs → ∀ (ls : Array Slot), lv_has ls 4 [(3, .int (nI t_)), (2, .int (nI (fwC sc_ d_ t_))), (0, .ref d1_), (1, .int d_)] → W p l e rmkX2_fewestFor s m args below meth c H locs 0 0 Q (F0 m 5 ls []) := by
    intro nF
    induction nF with
    | zero => intro t_ ht hnF; exact absurd hnF (Nat.not_lt_zero _)
    | succ nF ih_5 =>
      intro t_ ht hn_5 H locs hP hD hS ls hl
      refine lv_iload_n hx hb dX2_fewestFor_5 rfl (lv_at hl 0 rfl) ?_
      refine lv_bipush (v := 64) hx hb dX2_fewestFor_6 (by decide) ?_
      refine cn_ge (tgt := 39) hx hb t_ 64 rfl rfl (by omega) (by omega) dX2_fewestFor_8 (by decide) (fun c_8 => ?_) (fun c_8 => ?_)
      · refine lv_iload_n hx hb dX2_fewestFor_39 rfl (lv_at hl 1 rfl) ?_
        refine lv_eqi (y := nI (fwC sc_ d_ 64)) (by rw [show t_ = 64 by omega]) ?_
        exact RT _ _ () H locs 40 ls (rt_i dX2_fewestFor_40) rfl hP hD hS
      · refine lv_iload_n hx hb dX2_fewestFor_11 rfl (lv_at hl 0 rfl) ?_
        refine ca_S (n := 1) (rest := []) (wr := [(d1_, .inr (2, [.ref a2_, .ref d2_, .ref d3_])), (a2_, .inr (0, [.ref n2_])), (n2_, .inl (cy 0, 6, .inl f2_)), (d2_, .inl (cy 0, 729, .inl cgF)), (d3_, .inl (cy 0, 729, .inl sc_))]) F hK hE hA hP hD hS hl.1 (kJ6_bitCount (l := l) (D := D) (cy := cy) (sa := sa) (nI t_)) gX2_fewestFor_J6_bitCount_0f7a4 rfl rfl rfl (by decide +kernel) ⟨by decide, by decide⟩ [] [0, 1, 2, 3, 4] rfl rfl rfl rfl (by decide) rfl rfl (Nat.le_of_ble_eq_true rfl) dX2_fewestFor_12 ⟨by decide, by decide⟩ (fun v9 u9 H locs hv hP hD hS => ?_)
        subst hv
        have hP : va_P D vwCl [(d1_, .inr (2, [.ref a2_, .ref d2_, .ref d3_])), (a2_, .inr (0, [.ref n2_])), (n2_, .inl (cy 0, 6, .inl f2_)), (d2_, .inl (cy 0, 729, .inl cgF)), (d3_, .inl (cy 0, 729, .inl sc_))] H := hP
        have hD : va_D A [(d1_, .inr (2, [.ref a2_, .ref d2_, .ref d3_])), (a2_, .inr (0, [.ref n2_])), (n2_, .inl (cy 0, 6, .inl f2_)), (d2_, .inl (cy 0, 729, .inl cgF)), (d3_, .inl (cy 0, 729, .inl sc_))] := hD
        refine W.eq (g2 := F0 m 15 ls [.int (pc32 (nI t_))]) rfl ?_
        refine lv_iload_n hx hb dX2_fewestFor_15 rfl (lv_at hl 1 rfl) ?_
        refine ca_S (n := 1) (rest := [.int (pc32 (nI t_))]) (wr := [(d1_, .inr (2, [.ref a2_, .ref d2_, .ref d3_])), (a2_, .inr (0, [.ref n2_])), (n2_, .inl (cy 0, 6, .inl f2_)), (d2_, .inl (cy 0, 729, .inl cgF)), (d3_, .inl (cy 0, 729, .inl sc_))]) F hK hE hA hP hD hS hl.1 (kJ6_bitCount (l := l) (D := D) (cy := cy) (sa := sa) (nI (fwC sc_ d_ t_))) gX2_fewestFor_J6_bitCount_0f7a4 rfl rfl rfl (by decide +kernel) ⟨by decide, by decide⟩ [] [0, 1, 2, 3, 4] rfl rfl rfl rfl (by decide) rfl rfl (Nat.le_of_ble_eq_true rfl) dX2_fewestFor_16 ⟨by decide, by decide⟩ (fun v9 u9 H locs hv hP hD hS => ?_)
        subst hv
        have hP : va_P D vwCl [(d1_, .inr (2, [.ref a2_, .ref d2_, .ref d3_])), (a2_, .inr (0, [.ref n2_])), (n2_, .inl (cy 0, 6, .inl f2_)), (d2_, .inl (cy 0, 729, .inl cgF)), (d3_, .inl (cy 0, 729, .inl sc_))] H := hP
        have hD : va_D A [(d1_, .inr (2, [.ref a2_, .ref d2_, .ref d3_])), (a2_, .inr (0, [.ref n2_])), (n2_, .inl (cy 0, 6, .inl f2_)), (d2_, .inl (cy 0, 729, .inl cgF)), (d3_, .inl (cy 0, 729, .inl sc_))] := hD
        refine W.eq (g2 := F0 m 19 ls [.int (pc32 (nI (fwC sc_ d_ t_))), .int (pc32 (nI t_))]) rfl ?_
        have J_19_38 : ∀ (z19 : Int32), z19 = (if (pc32 (nI (fwC sc_ d_ t_))) ≤ (pc32 (nI t_)) then (nI (fwC sc_ d_ t_)) else (if d_ < (spC sc_ t_) then (nI (fwC sc_ d_ t_)) else (nI t_))) → ∀ (H : Heap) (locs : List Loc), va_P D vwCl [(d1_, .inr (2, [.ref a2_, .ref d2_, .ref d3_])), (a2_, .inr (0, [.ref n2_])), (n2_, .inl (cy 0, 6, .inl f2_)), (d2_, .inl (cy 0, 729, .inl cgF)), (d3_, .inl (cy 0, 729, .inl sc_))] H → va_D A [(d1_, .inr (2, [.ref a2_, .ref d2_, .ref d3_])), (a2_, .inr (0, [.ref n2_])), (n2_, .inl (cy 0, 6, .inl f2_)), (d2_, .inl (cy 0, 729, .inl cgF)), (d3_, .inl (cy 0, 729, .inl sc_))] → va_S A s.heap H locs → ∀ (ls : Array Slot), lv_has ls 4 [(3, .int (nI t_)), (2, .int z19), (0, .ref d1_), (1, .int d_)] → W p l e rmkX2_fewestFor s m args below meth c H locs 0 0 Q (F0 m 33 ls []) := by
          intro z19 ez19 H locs hP hD hS ls hl
          refine lv_iinc (v := nI (t_ + 1)) (lv' := [(3, .int (nI (t_ + 1))), (2, .int z19), (0, .ref d1_), (1, .int d_)]) hx hb dX2_fewestFor_33 hl (k := 0) rfl (nI_add t_ 1) (by decide) rfl (fun ls hl => ?_)
          refine lv_goto (tgt := 5) hx hb dX2_fewestFor_36 (by decide) ?_
          rw [show ((2, .int z19) : Nat × Value) = (2, .int (nI (fwC sc_ d_ (t_ + 1)))) from congrArg (fun y9 => ((2, Value.int y9) : Nat × Value)) (show z19 = nI (fwC sc_ d_ (t_ + 1)) from (by rw [ez19, fwC, apply_ite nI, apply_ite nI]))] at hl
          exact ih_5 (t_ + 1) (by first | assumption | omega | decide) (by omega) H locs hP hD hS ls (lv_sub hl [0, 1, 2, 3] rfl)
        refine lv_icmp_ge (tgt := 33) hx hb dX2_fewestFor_19 (by decide) (fun c_19 => ?_) (fun c_19 => ?_)
        · exact J_19_38 _ ((if_pos c_19).symm) H locs hP hD hS ls (lv_sub hl [0, 1, 2, 3] rfl)
        · refine lv_aload_n hx hb dX2_fewestFor_22 rfl (lv_at hl 2 rfl) ?_
          refine lv_iload_n hx hb dX2_fewestFor_23 rfl (lv_at hl 0 rfl) ?_
          refine ca_V (q0 := 0) (n := 1) (rest := []) (wr := []) F hK hE hA hP hD hS hl.1 (kX2_spreadOf (l := l) (D := D) (cy := cy) (sa := sa) d1_ a2_ n2_ d2_ d3_ f2_ sc_ t_ (by first | assumption | omega | decide)) gX2_fewestFor_X2_spreadOf rfl rfl rfl rfl rfl rfl (by decide +kernel) ⟨by decide, by decide⟩ [0, 1, 2, 3, 4] [] rfl rfl rfl rfl (by decide) rfl rfl (Nat.le_of_ble_eq_true rfl) dX2_fewestFor_24 ⟨by decide, by decide⟩ (fun v9 u9 H locs hv hP hD hS => ?_)
          subst hv
          obtain ⟨hP, hD⟩ := re_ws (ws' := [(d1_, .inr (2, [.ref a2_, .ref d2_, .ref d3_])), (a2_, .inr (0, [.ref n2_])), (n2_, .inl (cy 0, 6, .inl f2_)), (d2_, .inl (cy 0, 729, .inl cgF)), (d3_, .inl (cy 0, 729, .inl sc_))]) hP hD [0, 1, 2, 3, 4] rfl rfl
          refine W.eq (g2 := F0 m 27 ls [.int (spC sc_ t_)]) rfl ?_
          refine lv_iload_n hx hb dX2_fewestFor_27 rfl (lv_at hl 3 rfl) ?_
          refine lv_icmp_gt (tgt := 33) hx hb dX2_fewestFor_28 (by decide) (fun c_28 => ?_) (fun c_28 => ?_)
          · exact J_19_38 _ (((if_neg c_19).trans (if_pos c_28)).symm) H locs hP hD hS ls (lv_sub hl [0, 1, 2, 3] rfl)
          · refine lv_iload_n hx hb dX2_fewestFor_31 rfl (lv_at hl 0 rfl) ?_
            refine lv_istore_n (lv' := [(2, .int (nI t_)), (3, .int (nI t_)), (0, .ref d1_), (1, .int d_)]) hx hb dX2_fewestFor_32 rfl hl (by decide) rfl (fun ls hl => ?_)
            exact J_19_38 _ (((if_neg c_19).trans (if_neg c_28)).symm) H locs hP hD hS ls (lv_sub hl [1, 0, 2, 3] rfl)
  exact L_5 _ 0 (by first | assumption | omega | decide) (Nat.lt_succ_self _) H locs hP hD hS ls (lv_sub hl [0, 1, 2, 3] rfl)
