theorem xor_n (a b : Nat) : nI a ^^^ nI b = nI (a ^^^ b) := by
  apply Int32.toBitVec_inj.mp
  show (BitVec.ofNat 32 a) ^^^ (BitVec.ofNat 32 b) = BitVec.ofNat 32 (a ^^^ b)
  apply BitVec.eq_of_toNat_eq
  rw [BitVec.toNat_xor, BitVec.toNat_ofNat, BitVec.toNat_ofNat, BitVec.toNat_ofNat, Nat.xor_mod_two_pow]
theorem xor_lt {q : Nat} (h : q < 1000000) : q ^^^ 6 < 2 ^ 31 := Nat.xor_lt_two_pow (by omega) (by decide)
theorem i64_or0 (x : Int64) : x ||| 0 = x := Int64.toBitVec_inj.mp (BitVec.or_zero)
theorem hov0 (x : Int32) : (x + 0).toInt64 = x.toInt64 + (0 : Int32).toInt64 := by rw [Int32.add_zero, i64_0, Int64.add_zero]
abbrev rmkJ6_bitCount : Room := { frames := 0, cells := 0, slots := 0, locals := 0 }
set_option maxHeartbeats 4000000 in
set_option maxRecDepth 100000 in
theorem kJ6_bitCount {l : Launch} {D : va_G} {cy : Nat → ClassId} {sa : Nat → Nat} (x_ : Int32)  : CD l D cy sa yJ6_bitCount_0f7a4 wsJ6_bitCount_0f7a4 rmkJ6_bitCount [.int x_] [] (some (.int (pc32 x_))) [] := by
  refine CT.of cJ6_bitCount_0f7a4 1 (some .int) (by decide +kernel) rfl (Nat.le_of_ble_eq_true rfl) ?_
  intro p e s m args below meth c A Q ls F hmn hK hE hA hP hD hS hl RT
  obtain ⟨hx, hb, hml, hown, hts⟩ := id F
  have wc265 := hts (.constant RJ6 265 (1431655765)) (by decide +kernel)
  have wc266 := hts (.constant RJ6 266 (858993459)) (by decide +kernel)
  have wc267 := hts (.constant RJ6 267 (252645135)) (by decide +kernel)
  have hl : lv_has ls 1 [(0, .int x_)] := hl
  have hP : va_P D vwCl [] s.heap := hP
  have hD : va_D A [] := hD
  obtain ⟨H, hH⟩ : ∃ H0 : Heap, H0 = s.heap := ⟨_, rfl⟩
  obtain ⟨locs, hlo⟩ : ∃ L0 : List Loc, L0 = [] := ⟨_, rfl⟩
  have hS : va_S A s.heap H locs := by rw [hH, hlo]; exact hS
  rw [← hH] at hP
  show W p l e rmkJ6_bitCount s m args below meth c s.heap [] 0 0 Q (F0 m 0 ls [])
  suffices hgo : W p l e rmkJ6_bitCount s m args below meth c H locs 0 0 Q (F0 m 0 ls []) by rw [hH, hlo] at hgo; exact hgo
  clear hH hlo
  refine lv_iload_n hx hb dJ6_bitCount_0f7a4_0 rfl (lv_at hl 0 rfl) ?_
  refine lv_iload_n hx hb dJ6_bitCount_0f7a4_1 rfl (lv_at hl 0 rfl) ?_
  refine lv_iconst (v := 1) hx hb dJ6_bitCount_0f7a4_2 (by decide) ?_
  refine lv_iushr (v := (x_.toUInt32 >>> ((1 : Int32).toUInt32 &&& Int32.toUInt32 31)).toInt32) hx hb dJ6_bitCount_0f7a4_3 (rfl) ?_
  refine lv_ldcw (v := 1431655765) hx hb hown wc265 dJ6_bitCount_0f7a4_4 ?_
  refine lv_iand hx hb dJ6_bitCount_0f7a4_7 ?_
  refine lv_isub hx hb dJ6_bitCount_0f7a4_8 ?_
  refine lv_topi (fun x9 ex9 => ?_)
  refine lv_istore_n (lv' := [(0, .int x9)]) hx hb dJ6_bitCount_0f7a4_9 rfl hl (by decide) rfl (fun ls hl => ?_)
  refine lv_iload_n hx hb dJ6_bitCount_0f7a4_10 rfl (lv_at hl 0 rfl) ?_
  refine lv_ldcw (v := 858993459) hx hb hown wc266 dJ6_bitCount_0f7a4_11 ?_
  refine lv_iand hx hb dJ6_bitCount_0f7a4_14 ?_
  refine lv_iload_n hx hb dJ6_bitCount_0f7a4_15 rfl (lv_at hl 0 rfl) ?_
  refine lv_iconst (v := 2) hx hb dJ6_bitCount_0f7a4_16 (by decide) ?_
  refine lv_iushr (v := (x9.toUInt32 >>> ((2 : Int32).toUInt32 &&& Int32.toUInt32 31)).toInt32) hx hb dJ6_bitCount_0f7a4_17 (rfl) ?_
  refine lv_ldcw (v := 858993459) hx hb hown wc266 dJ6_bitCount_0f7a4_18 ?_
  refine lv_iand hx hb dJ6_bitCount_0f7a4_21 ?_
  refine lv_iadd hx hb dJ6_bitCount_0f7a4_22 ?_
  refine lv_topi (fun x23 ex23 => ?_)
  refine lv_istore_n (lv' := [(0, .int x23)]) hx hb dJ6_bitCount_0f7a4_23 rfl hl (by decide) rfl (fun ls hl => ?_)
  refine lv_iload_n hx hb dJ6_bitCount_0f7a4_24 rfl (lv_at hl 0 rfl) ?_
  refine lv_iload_n hx hb dJ6_bitCount_0f7a4_25 rfl (lv_at hl 0 rfl) ?_
  refine lv_iconst (v := 4) hx hb dJ6_bitCount_0f7a4_26 (by decide) ?_
  refine lv_iushr (v := (x23.toUInt32 >>> ((4 : Int32).toUInt32 &&& Int32.toUInt32 31)).toInt32) hx hb dJ6_bitCount_0f7a4_27 (rfl) ?_
  refine lv_iadd hx hb dJ6_bitCount_0f7a4_28 ?_
  refine lv_ldcw (v := 252645135) hx hb hown wc267 dJ6_bitCount_0f7a4_29 ?_
  refine lv_iand hx hb dJ6_bitCount_0f7a4_32 ?_
  refine lv_topi (fun x33 ex33 => ?_)
  refine lv_istore_n (lv' := [(0, .int x33)]) hx hb dJ6_bitCount_0f7a4_33 rfl hl (by decide) rfl (fun ls hl => ?_)
  refine lv_iload_n hx hb dJ6_bitCount_0f7a4_34 rfl (lv_at hl 0 rfl) ?_
  refine lv_iload_n hx hb dJ6_bitCount_0f7a4_35 rfl (lv_at hl 0 rfl) ?_
  refine lv_bipush (v := 8) hx hb dJ6_bitCount_0f7a4_36 (by decide) ?_
  refine lv_iushr (v := (x33.toUInt32 >>> ((8 : Int32).toUInt32 &&& Int32.toUInt32 31)).toInt32) hx hb dJ6_bitCount_0f7a4_38 (rfl) ?_
  refine lv_iadd hx hb dJ6_bitCount_0f7a4_39 ?_
  refine lv_topi (fun x40 ex40 => ?_)
  refine lv_istore_n (lv' := [(0, .int x40)]) hx hb dJ6_bitCount_0f7a4_40 rfl hl (by decide) rfl (fun ls hl => ?_)
  refine lv_iload_n hx hb dJ6_bitCount_0f7a4_41 rfl (lv_at hl 0 rfl) ?_
  refine lv_iload_n hx hb dJ6_bitCount_0f7a4_42 rfl (lv_at hl 0 rfl) ?_
  refine lv_bipush (v := 16) hx hb dJ6_bitCount_0f7a4_43 (by decide) ?_
  refine lv_iushr (v := (x40.toUInt32 >>> ((16 : Int32).toUInt32 &&& Int32.toUInt32 31)).toInt32) hx hb dJ6_bitCount_0f7a4_45 (rfl) ?_
  refine lv_iadd hx hb dJ6_bitCount_0f7a4_46 ?_
  refine lv_topi (fun x47 ex47 => ?_)
  refine lv_istore_n (lv' := [(0, .int x47)]) hx hb dJ6_bitCount_0f7a4_47 rfl hl (by decide) rfl (fun ls hl => ?_)
  refine lv_iload_n hx hb dJ6_bitCount_0f7a4_48 rfl (lv_at hl 0 rfl) ?_
  refine lv_bipush (v := 63) hx hb dJ6_bitCount_0f7a4_49 (by decide) ?_
  refine lv_iand hx hb dJ6_bitCount_0f7a4_51 ?_
  skip
  refine lv_eqi (y := pc32 x_) (by subst ex47 ex40 ex33 ex23 ex9; rfl) ?_
  exact RT _ _ () H locs 52 ls (rt_i dJ6_bitCount_0f7a4_52) rfl hP hD hS
abbrev rmkJ13_bitCount : Room := { frames := 0, cells := 0, slots := 0, locals := 0 }
set_option maxHeartbeats 4000000 in
set_option maxRecDepth 100000 in
theorem kJ13_bitCount {l : Launch} {D : va_G} {cy : Nat → ClassId} {sa : Nat → Nat} (x_ : Int64)  : CD l D cy sa yJ13_bitCount_95d88 wsJ13_bitCount_95d88 rmkJ13_bitCount [.long x_] [] (some (.int (pc64 x_))) [] := by
  refine CT.of cJ13_bitCount_95d88 2 (some .int) (by decide +kernel) rfl (Nat.le_of_ble_eq_true rfl) ?_
  intro p e s m args below meth c A Q ls F hmn hK hE hA hP hD hS hl RT
  obtain ⟨hx, hb, hml, hown, hts⟩ := id F
  have wl314 := hts (.constantLong RJ13 314 (6148914691236517205)) (by decide +kernel)
  have wl316 := hts (.constantLong RJ13 316 (3689348814741910323)) (by decide +kernel)
  have wl318 := hts (.constantLong RJ13 318 (1085102592571150095)) (by decide +kernel)
  have hl : lv_has ls 2 [(0, .long x_)] := hl
  have hP : va_P D vwCl [] s.heap := hP
  have hD : va_D A [] := hD
  obtain ⟨H, hH⟩ : ∃ H0 : Heap, H0 = s.heap := ⟨_, rfl⟩
  obtain ⟨locs, hlo⟩ : ∃ L0 : List Loc, L0 = [] := ⟨_, rfl⟩
  have hS : va_S A s.heap H locs := by rw [hH, hlo]; exact hS
  rw [← hH] at hP
  show W p l e rmkJ13_bitCount s m args below meth c s.heap [] 0 0 Q (F0 m 0 ls [])
  suffices hgo : W p l e rmkJ13_bitCount s m args below meth c H locs 0 0 Q (F0 m 0 ls []) by rw [hH, hlo] at hgo; exact hgo
  clear hH hlo
  refine lv_lload_n hx hb dJ13_bitCount_95d88_0 rfl (lv_at hl 0 rfl) ?_
  refine lv_lload_n hx hb dJ13_bitCount_95d88_1 rfl (lv_at hl 0 rfl) ?_
  refine lv_iconst (v := 1) hx hb dJ13_bitCount_95d88_2 (by decide) ?_
  refine lv_lushr (v := (x_.toUInt64 >>> ((1 : Int32).toInt64.toUInt64 &&& Int64.toUInt64 63)).toInt64) hx hb dJ13_bitCount_95d88_3 (rfl) ?_
  refine lv_ldc2 (v := 6148914691236517205) hx hb hown wl314 dJ13_bitCount_95d88_4 ?_
  refine lv_land hx hb dJ13_bitCount_95d88_7 ?_
  refine lv_lsub hx hb dJ13_bitCount_95d88_8 ?_
  refine lv_topl (fun x9 ex9 => ?_)
  refine lv_lstore_n (lv' := [(0, .long x9)]) hx hb dJ13_bitCount_95d88_9 rfl hl (by decide) rfl (fun ls hl => ?_)
  refine lv_lload_n hx hb dJ13_bitCount_95d88_10 rfl (lv_at hl 0 rfl) ?_
  refine lv_ldc2 (v := 3689348814741910323) hx hb hown wl316 dJ13_bitCount_95d88_11 ?_
  refine lv_land hx hb dJ13_bitCount_95d88_14 ?_
  refine lv_lload_n hx hb dJ13_bitCount_95d88_15 rfl (lv_at hl 0 rfl) ?_
  refine lv_iconst (v := 2) hx hb dJ13_bitCount_95d88_16 (by decide) ?_
  refine lv_lushr (v := (x9.toUInt64 >>> ((2 : Int32).toInt64.toUInt64 &&& Int64.toUInt64 63)).toInt64) hx hb dJ13_bitCount_95d88_17 (rfl) ?_
  refine lv_ldc2 (v := 3689348814741910323) hx hb hown wl316 dJ13_bitCount_95d88_18 ?_
  refine lv_land hx hb dJ13_bitCount_95d88_21 ?_
  refine lv_ladd hx hb dJ13_bitCount_95d88_22 ?_
  refine lv_topl (fun x23 ex23 => ?_)
  refine lv_lstore_n (lv' := [(0, .long x23)]) hx hb dJ13_bitCount_95d88_23 rfl hl (by decide) rfl (fun ls hl => ?_)
  refine lv_lload_n hx hb dJ13_bitCount_95d88_24 rfl (lv_at hl 0 rfl) ?_
  refine lv_lload_n hx hb dJ13_bitCount_95d88_25 rfl (lv_at hl 0 rfl) ?_
  refine lv_iconst (v := 4) hx hb dJ13_bitCount_95d88_26 (by decide) ?_
  refine lv_lushr (v := (x23.toUInt64 >>> ((4 : Int32).toInt64.toUInt64 &&& Int64.toUInt64 63)).toInt64) hx hb dJ13_bitCount_95d88_27 (rfl) ?_
  refine lv_ladd hx hb dJ13_bitCount_95d88_28 ?_
  refine lv_ldc2 (v := 1085102592571150095) hx hb hown wl318 dJ13_bitCount_95d88_29 ?_
  refine lv_land hx hb dJ13_bitCount_95d88_32 ?_
  refine lv_topl (fun x33 ex33 => ?_)
  refine lv_lstore_n (lv' := [(0, .long x33)]) hx hb dJ13_bitCount_95d88_33 rfl hl (by decide) rfl (fun ls hl => ?_)
  refine lv_lload_n hx hb dJ13_bitCount_95d88_34 rfl (lv_at hl 0 rfl) ?_
  refine lv_lload_n hx hb dJ13_bitCount_95d88_35 rfl (lv_at hl 0 rfl) ?_
  refine lv_bipush (v := 8) hx hb dJ13_bitCount_95d88_36 (by decide) ?_
  refine lv_lushr (v := (x33.toUInt64 >>> ((8 : Int32).toInt64.toUInt64 &&& Int64.toUInt64 63)).toInt64) hx hb dJ13_bitCount_95d88_38 (rfl) ?_
  refine lv_ladd hx hb dJ13_bitCount_95d88_39 ?_
  refine lv_topl (fun x40 ex40 => ?_)
  refine lv_lstore_n (lv' := [(0, .long x40)]) hx hb dJ13_bitCount_95d88_40 rfl hl (by decide) rfl (fun ls hl => ?_)
  refine lv_lload_n hx hb dJ13_bitCount_95d88_41 rfl (lv_at hl 0 rfl) ?_
  refine lv_lload_n hx hb dJ13_bitCount_95d88_42 rfl (lv_at hl 0 rfl) ?_
  refine lv_bipush (v := 16) hx hb dJ13_bitCount_95d88_43 (by decide) ?_
  refine lv_lushr (v := (x40.toUInt64 >>> ((16 : Int32).toInt64.toUInt64 &&& Int64.toUInt64 63)).toInt64) hx hb dJ13_bitCount_95d88_45 (rfl) ?_
  refine lv_ladd hx hb dJ13_bitCount_95d88_46 ?_
  refine lv_topl (fun x47 ex47 => ?_)
  refine lv_lstore_n (lv' := [(0, .long x47)]) hx hb dJ13_bitCount_95d88_47 rfl hl (by decide) rfl (fun ls hl => ?_)
  refine lv_lload_n hx hb dJ13_bitCount_95d88_48 rfl (lv_at hl 0 rfl) ?_
  refine lv_lload_n hx hb dJ13_bitCount_95d88_49 rfl (lv_at hl 0 rfl) ?_
  refine lv_bipush (v := 32) hx hb dJ13_bitCount_95d88_50 (by decide) ?_
  refine lv_lushr (v := (x47.toUInt64 >>> ((32 : Int32).toInt64.toUInt64 &&& Int64.toUInt64 63)).toInt64) hx hb dJ13_bitCount_95d88_52 (rfl) ?_
  refine lv_ladd hx hb dJ13_bitCount_95d88_53 ?_
  refine lv_topl (fun x54 ex54 => ?_)
  refine lv_lstore_n (lv' := [(0, .long x54)]) hx hb dJ13_bitCount_95d88_54 rfl hl (by decide) rfl (fun ls hl => ?_)
  refine lv_lload_n hx hb dJ13_bitCount_95d88_55 rfl (lv_at hl 0 rfl) ?_
  refine lv_l2i (v := x54.toInt32) hx hb dJ13_bitCount_95d88_56 (rfl) ?_
  refine lv_bipush (v := 127) hx hb dJ13_bitCount_95d88_57 (by decide) ?_
  refine lv_iand hx hb dJ13_bitCount_95d88_59 ?_
  refine lv_eqi (y := pc64 x_) (by subst ex54 ex47 ex40 ex33 ex23 ex9; rfl) ?_
  exact RT _ _ () H locs 60 ls (rt_i dJ13_bitCount_95d88_60) rfl hP hD hS
abbrev rmkJ9_floorMod : Room := { frames := 0, cells := 0, slots := 0, locals := 0 }
set_option maxHeartbeats 4000000 in
set_option maxRecDepth 100000 in
theorem kJ9_floorMod {l : Launch} {D : va_G} {cy : Nat → ClassId} {sa : Nat → Nat} (q_ : Nat) (hq : q_ < 1000000) : CD l D cy sa yJ9_floorMod_7cf53 wsJ9_floorMod_7cf53 rmkJ9_floorMod [.int (nI q_), .int 6] [] (some (.int (nI (q_ % 6)))) [] := by
  refine CT.ofF cJ9_floorMod_7cf53 3 (some .int) (by decide +kernel) rfl (Nat.le_of_ble_eq_true rfl) ?_
  intro p e s m args below meth c A Q ls F hmn hK hE hA hP hD hS hl RT
  obtain ⟨hx, hb, hml, hown, hts⟩ := id F
  have hl : lv_has ls 3 [(0, .int (nI q_)), (1, .int 6)] := hl
  have hP : va_P D vwCl [] s.heap := hP
  have hD : va_D A [] := hD
  obtain ⟨H, hH⟩ : ∃ H0 : Heap, H0 = s.heap := ⟨_, rfl⟩
  obtain ⟨locs, hlo⟩ : ∃ L0 : List Loc, L0 = [] := ⟨_, rfl⟩
  have hS : va_S A s.heap H locs := by rw [hH, hlo]; exact hS
  rw [← hH] at hP
  show W p l e rmkJ9_floorMod s m args below meth c s.heap [] 0 0 Q (F0 m 0 ls [])
  suffices hgo : W p l e rmkJ9_floorMod s m args below meth c H locs 0 0 Q (F0 m 0 ls []) by rw [hH, hlo] at hgo; exact hgo
  clear hH hlo
  refine lv_iload_n hx hb dJ9_floorMod_7cf53_0 rfl (lv_at hl 0 rfl) ?_
  refine lv_iload_n hx hb dJ9_floorMod_7cf53_1 rfl (lv_at hl 1 rfl) ?_
  refine lv_irem hx hb dJ9_floorMod_7cf53_2 (by decide) ?_
  refine lv_eqi (y := nI (q_ % 6)) (rem_n (by omega) (by decide) (by decide)) ?_
  refine lv_istore_n (lv' := [(2, .int (nI (q_ % 6))), (0, .int (nI q_)), (1, .int 6)]) hx hb dJ9_floorMod_7cf53_3 rfl hl (by decide) rfl (fun ls hl => ?_)
  refine lv_iload_n hx hb dJ9_floorMod_7cf53_4 rfl (lv_at hl 1 rfl) ?_
  refine lv_iload_n hx hb dJ9_floorMod_7cf53_5 rfl (lv_at hl 2 rfl) ?_
  refine lv_ixor hx hb dJ9_floorMod_7cf53_6 ?_
  refine lv_eqi (y := nI (q_ ^^^ 6)) (xor_n _ _) ?_
  refine lv_if_ge (tgt := 18) hx hb dJ9_floorMod_7cf53_7 (by decide) (fun c_7 => ?_) (fun c_7 => ?_)
  · refine lv_iload_n hx hb dJ9_floorMod_7cf53_18 rfl (lv_at hl 0 rfl) ?_
    exact RT _ _ () H locs 19 ls (rt_i dJ9_floorMod_7cf53_19) rfl hP hD hS
  · exact absurd (nI_pos' (xor_lt hq)) c_7
abbrev rmkX0_valueOf : Room := { frames := 2, cells := 0, slots := 0, locals := 42 }
set_option maxHeartbeats 4000000 in
set_option maxRecDepth 100000 in
theorem kX0_valueOf {l : Launch} {D : va_G} {cy : Nat → ClassId} {sa : Nat → Nat} (a1_ : Nat) (n1_ : Nat) (f_ : Nat → Int32) (k_ : Nat) (hk : k_ < 6) : CD l D cy sa yX0_valueOf wsX0_valueOf rmkX0_valueOf [.ref a1_, .int (nI k_)] [(a1_, .inr (0, [.ref n1_])), (n1_, .inl (cy 0, 6, .inl f_))] (some (.int (f_ k_))) [(a1_, .inr (0, [.ref n1_])), (n1_, .inl (cy 0, 6, .inl f_))] := by
  refine CT.of cX0_valueOf 2 (some .int) (by decide +kernel) rfl (Nat.le_of_ble_eq_true rfl) ?_
  intro p e s m args below meth c A Q ls F hmn hK hE hA hP hD hS hl RT
  obtain ⟨hx, hb, hml, hown, hts⟩ := id F
  have wi_X8 := hts (.initialized RX8) (by decide +kernel)
  have ws_X8_isNumber := hts (.static yX8_isNumber) (by decide +kernel)
  have winX0 : ∀ w ∈ u_ws RX0 TX0 1, w ∈ wsX0_valueOf := by decide +kernel
  have wf9 := hts (.fieldLink RX0 9 "SelfSteer$Bicycle" "numbers" "[I") (by decide +kernel)
  have hl : lv_has ls 2 [(0, .ref a1_), (1, .int (nI k_))] := hl
  have hP : va_P D vwCl [(a1_, .inr (0, [.ref n1_])), (n1_, .inl (cy 0, 6, .inl f_))] s.heap := hP
  have hD : va_D A [(a1_, .inr (0, [.ref n1_])), (n1_, .inl (cy 0, 6, .inl f_))] := hD
  obtain ⟨H, hH⟩ : ∃ H0 : Heap, H0 = s.heap := ⟨_, rfl⟩
  obtain ⟨locs, hlo⟩ : ∃ L0 : List Loc, L0 = [] := ⟨_, rfl⟩
  have hS : va_S A s.heap H locs := by rw [hH, hlo]; exact hS
  rw [← hH] at hP
  show W p l e rmkX0_valueOf s m args below meth c s.heap [] 0 0 Q (F0 m 0 ls [])
  suffices hgo : W p l e rmkX0_valueOf s m args below meth c H locs 0 0 Q (F0 m 0 ls []) by rw [hH, hlo] at hgo; exact hgo
  clear hH hlo
  refine lv_iload_n hx hb dX0_valueOf_0 rfl (lv_at hl 1 rfl) ?_
  refine ca_SN (n := 1) (rest := []) (wr := [(a1_, .inr (0, [.ref n1_])), (n1_, .inl (cy 0, 6, .inl f_))]) F hK hE hA hP hD hS hl.1 (kX8_isNumber (l := l) (D := D) (cy := cy) (sa := sa) (nI k_)) gX0_valueOf_X8_isNumber_n24 (hE.nest 27 rfl) wi_X8 ws_X8_isNumber rfl rfl rfl (by decide +kernel) ⟨by decide, by decide⟩ [] [0, 1] rfl rfl rfl rfl (by decide) rfl rfl (Nat.le_of_ble_eq_true rfl) dX0_valueOf_1 ⟨by decide, by decide⟩ (fun v9 u9 H locs hv hP hD hS => ?_)
  subst hv
  have hP : va_P D vwCl [(a1_, .inr (0, [.ref n1_])), (n1_, .inl (cy 0, 6, .inl f_))] H := hP
  have hD : va_D A [(a1_, .inr (0, [.ref n1_])), (n1_, .inl (cy 0, 6, .inl f_))] := hD
  refine W.eq (g2 := F0 m 4 ls [.int (bI (inR (nI k_) 0 5))]) rfl ?_
  refine bz_eq (tgt := 16) hx hb dX0_valueOf_4 (by decide) (fun c_4 => ?_) (fun c_4 => ?_)
  · exact absurd (inR_of (n := 5) (by decide) rfl (by omega)) c_4
  · refine lv_aload_n hx hb dX0_valueOf_7 rfl (lv_at hl 0 rfl) ?_
    refine va_get (D := D) (ci := 0) (v := .ref n1_) (C := RX0) (T := TX0) (N := 1) hx hb hts winX0 hown hK hP 0 rfl rfl 0 (by decide) wf9 (fun _ h9 => h9) rfl dX0_valueOf_8 ?_
    refine lv_iload_n hx hb dX0_valueOf_11 rfl (lv_at hl 1 rfl) ?_
    refine al_i hx hb hK hP 1 rfl k_ (rfl) (by omega) (by decide) dX0_valueOf_12 ?_
    refine lv_goto (tgt := 17) hx hb dX0_valueOf_13 (by decide) ?_
    exact RT _ _ () H locs 17 ls (rt_i dX0_valueOf_17) rfl hP hD hS
abbrev rmkX0_put : Room := { frames := 2, cells := 0, slots := 0, locals := 42 }
set_option maxHeartbeats 4000000 in
set_option maxRecDepth 100000 in
theorem kX0_put {l : Launch} {D : va_G} {cy : Nat → ClassId} {sa : Nat → Nat} (a1_ : Nat) (n1_ : Nat) (f_ : Nat → Int32) (k_ : Nat) (v_ : Int32) (hk : k_ < 6) : CD l D cy sa yX0_put wsX0_put rmkX0_put [.ref a1_, .int (nI k_), .int v_] [(a1_, .inr (0, [.ref n1_])), (n1_, .inl (cy 0, 6, .inl f_))] (none) [(a1_, .inr (0, [.ref n1_])), (n1_, .inl (cy 0, 6, .inl (upd f_ k_ v_)))] := by
  refine CT.of cX0_put 3 none (by decide +kernel) rfl (Nat.le_of_ble_eq_true rfl) ?_
  intro p e s m args below meth c A Q ls F hmn hK hE hA hP hD hS hl RT
  obtain ⟨hx, hb, hml, hown, hts⟩ := id F
  have wi_X8 := hts (.initialized RX8) (by decide +kernel)
  have ws_X8_isNumber := hts (.static yX8_isNumber) (by decide +kernel)
  have winX0 : ∀ w ∈ u_ws RX0 TX0 1, w ∈ wsX0_put := by decide +kernel
  have wf9 := hts (.fieldLink RX0 9 "SelfSteer$Bicycle" "numbers" "[I") (by decide +kernel)
  have hl : lv_has ls 3 [(0, .ref a1_), (1, .int (nI k_)), (2, .int v_)] := hl
  have hP : va_P D vwCl [(a1_, .inr (0, [.ref n1_])), (n1_, .inl (cy 0, 6, .inl f_))] s.heap := hP
  have hD : va_D A [(a1_, .inr (0, [.ref n1_])), (n1_, .inl (cy 0, 6, .inl f_))] := hD
  obtain ⟨H, hH⟩ : ∃ H0 : Heap, H0 = s.heap := ⟨_, rfl⟩
  obtain ⟨locs, hlo⟩ : ∃ L0 : List Loc, L0 = [] := ⟨_, rfl⟩
  have hS : va_S A s.heap H locs := by rw [hH, hlo]; exact hS
  rw [← hH] at hP
  show W p l e rmkX0_put s m args below meth c s.heap [] 0 0 Q (F0 m 0 ls [])
  suffices hgo : W p l e rmkX0_put s m args below meth c H locs 0 0 Q (F0 m 0 ls []) by rw [hH, hlo] at hgo; exact hgo
  clear hH hlo
  refine lv_iload_n hx hb dX0_put_0 rfl (lv_at hl 1 rfl) ?_
  refine ca_SN (n := 1) (rest := []) (wr := [(a1_, .inr (0, [.ref n1_])), (n1_, .inl (cy 0, 6, .inl f_))]) F hK hE hA hP hD hS hl.1 (kX8_isNumber (l := l) (D := D) (cy := cy) (sa := sa) (nI k_)) gX0_put_X8_isNumber_n24 (hE.nest 27 rfl) wi_X8 ws_X8_isNumber rfl rfl rfl (by decide +kernel) ⟨by decide, by decide⟩ [] [0, 1] rfl rfl rfl rfl (by decide) rfl rfl (Nat.le_of_ble_eq_true rfl) dX0_put_1 ⟨by decide, by decide⟩ (fun v9 u9 H locs hv hP hD hS => ?_)
  subst hv
  have hP : va_P D vwCl [(a1_, .inr (0, [.ref n1_])), (n1_, .inl (cy 0, 6, .inl f_))] H := hP
  have hD : va_D A [(a1_, .inr (0, [.ref n1_])), (n1_, .inl (cy 0, 6, .inl f_))] := hD
  refine W.eq (g2 := F0 m 4 ls [.int (bI (inR (nI k_) 0 5))]) rfl ?_
  refine bz_eq (tgt := 14) hx hb dX0_put_4 (by decide) (fun c_4 => ?_) (fun c_4 => ?_)
  · exact absurd (inR_of (n := 5) (by decide) rfl (by omega)) c_4
  · refine lv_aload_n hx hb dX0_put_7 rfl (lv_at hl 0 rfl) ?_
    refine va_get (D := D) (ci := 0) (v := .ref n1_) (C := RX0) (T := TX0) (N := 1) hx hb hts winX0 hown hK hP 0 rfl rfl 0 (by decide) wf9 (fun _ h9 => h9) rfl dX0_put_8 ?_
    refine lv_iload_n hx hb dX0_put_11 rfl (lv_at hl 1 rfl) ?_
    refine lv_iload_n hx hb dX0_put_12 rfl (lv_at hl 2 rfl) ?_
    refine as_i (x := v_) hx hb hK hP hD hS 1 rfl k_ (rfl) (by omega) (by decide) dX0_put_13 (fun H locs hP hD hS => ?_)
    have hP : va_P D vwCl [(a1_, .inr (0, [.ref n1_])), (n1_, .inl (cy 0, 6, .inl (upd f_ k_ v_)))] H := hP
    have hD : va_D A [(a1_, .inr (0, [.ref n1_])), (n1_, .inl (cy 0, 6, .inl (upd f_ k_ v_)))] := hD
    exact RT _ _ () H locs 14 ls (rt_v dX0_put_14) rfl hP hD hS
abbrev rmkX0_copyFrom : Room := { frames := 1, cells := 0, slots := 0, locals := 40 }
set_option maxHeartbeats 4000000 in
set_option maxRecDepth 100000 in
theorem kX0_copyFrom {l : Launch} {D : va_G} {cy : Nat → ClassId} {sa : Nat → Nat} (a1_ : Nat) (n1_ : Nat) (f_ : Nat → Int32) (a2_ : Nat) (n2_ : Nat) (g_ : Nat → Int32)  : CD l D cy sa yX0_copyFrom wsX0_copyFrom rmkX0_copyFrom [.ref a1_, .ref a2_] [(a1_, .inr (0, [.ref n1_])), (n1_, .inl (cy 0, 6, .inl f_)), (a2_, .inr (0, [.ref n2_])), (n2_, .inl (cy 0, 6, .inl g_))] (none) [(a1_, .inr (0, [.ref n1_])), (n1_, .inl (cy 0, 6, .inl g_)), (a2_, .inr (0, [.ref n2_])), (n2_, .inl (cy 0, 6, .inl g_))] := by
  refine CT.of cX0_copyFrom 2 none (by decide +kernel) rfl (Nat.le_of_ble_eq_true rfl) ?_
  intro p e s m args below meth c A Q ls F hmn hK hE hA hP hD hS hl RT
  obtain ⟨hx, hb, hml, hown, hts⟩ := id F
  have winX0 : ∀ w ∈ u_ws RX0 TX0 1, w ∈ wsX0_copyFrom := by decide +kernel
  have wf9 := hts (.fieldLink RX0 9 "SelfSteer$Bicycle" "numbers" "[I") (by decide +kernel)
  have wm18 := hts (.methodLink RX0 18 arraycopyName) (by decide +kernel)
  have wcn := hts (.native arraycopyName) (by decide +kernel)
  have wcs := hts (.static arraycopyName) (by decide +kernel)
  have wci := hts (.initialized "java/lang/System") (by decide +kernel)
  have hl : lv_has ls 2 [(0, .ref a1_), (1, .ref a2_)] := hl
  have hP : va_P D vwCl [(a1_, .inr (0, [.ref n1_])), (n1_, .inl (cy 0, 6, .inl f_)), (a2_, .inr (0, [.ref n2_])), (n2_, .inl (cy 0, 6, .inl g_))] s.heap := hP
  have hD : va_D A [(a1_, .inr (0, [.ref n1_])), (n1_, .inl (cy 0, 6, .inl f_)), (a2_, .inr (0, [.ref n2_])), (n2_, .inl (cy 0, 6, .inl g_))] := hD
  obtain ⟨H, hH⟩ : ∃ H0 : Heap, H0 = s.heap := ⟨_, rfl⟩
  obtain ⟨locs, hlo⟩ : ∃ L0 : List Loc, L0 = [] := ⟨_, rfl⟩
  have hS : va_S A s.heap H locs := by rw [hH, hlo]; exact hS
  rw [← hH] at hP
  show W p l e rmkX0_copyFrom s m args below meth c s.heap [] 0 0 Q (F0 m 0 ls [])
  suffices hgo : W p l e rmkX0_copyFrom s m args below meth c H locs 0 0 Q (F0 m 0 ls []) by rw [hH, hlo] at hgo; exact hgo
  clear hH hlo
  refine lv_aload_n hx hb dX0_copyFrom_0 rfl (lv_at hl 1 rfl) ?_
  refine va_get (D := D) (ci := 0) (v := .ref n2_) (C := RX0) (T := TX0) (N := 1) hx hb hts winX0 hown hK hP 2 rfl rfl 0 (by decide) wf9 (fun _ h9 => h9) rfl dX0_copyFrom_1 ?_
  refine lv_iconst (v := 0) hx hb dX0_copyFrom_4 (by decide) ?_
  refine lv_aload_n hx hb dX0_copyFrom_5 rfl (lv_at hl 0 rfl) ?_
  refine va_get (D := D) (ci := 0) (v := .ref n1_) (C := RX0) (T := TX0) (N := 1) hx hb hts winX0 hown hK hP 0 rfl rfl 0 (by decide) wf9 (fun _ h9 => h9) rfl dX0_copyFrom_6 ?_
  refine lv_iconst (v := 0) hx hb dX0_copyFrom_9 (by decide) ?_
  refine lv_bipush (v := 6) hx hb dX0_copyFrom_10 (by decide) ?_
  refine cp_i hx hb (hml.trans hl.1.symm) hown wm18 wcn wcs wci hK hP hD hS 3 1 rfl rfl rfl (by decide) (by decide) (by decide) dX0_copyFrom_12 (fun H locs hP hD hS => ?_)
  have hP : va_P D vwCl [(a1_, .inr (0, [.ref n1_])), (n1_, .inl (cy 0, 6, .inl g_)), (a2_, .inr (0, [.ref n2_])), (n2_, .inl (cy 0, 6, .inl g_))] H := hP
  have hD : va_D A [(a1_, .inr (0, [.ref n1_])), (n1_, .inl (cy 0, 6, .inl g_)), (a2_, .inr (0, [.ref n2_])), (n2_, .inl (cy 0, 6, .inl g_))] := hD
  exact RT _ _ () H locs 15 ls (rt_v dX0_copyFrom_15) rfl hP hD hS
abbrev rmkX0_signThree : Room := { frames := 0, cells := 0, slots := 0, locals := 0 }
set_option maxHeartbeats 4000000 in
set_option maxRecDepth 100000 in
theorem kX0_signThree {l : Launch} {D : va_G} {cy : Nat → ClassId} {sa : Nat → Nat} (a1_ : Nat) (n1_ : Nat) (f_ : Nat → Int32)  : CD l D cy sa yX0_signThree wsX0_signThree rmkX0_signThree [.ref a1_] [(a1_, .inr (0, [.ref n1_])), (n1_, .inl (cy 0, 6, .inl f_))] (some (.long (sg3 f_))) [(a1_, .inr (0, [.ref n1_])), (n1_, .inl (cy 0, 6, .inl f_))] := by
  refine CT.of cX0_signThree 1 (some .long) (by decide +kernel) rfl (Nat.le_of_ble_eq_true rfl) ?_
  intro p e s m args below meth c A Q ls F hmn hK hE hA hP hD hS hl RT
  obtain ⟨hx, hb, hml, hown, hts⟩ := id F
  have wl28 := hts (.constantLong RX0 28 (100)) (by decide +kernel)
  have winX0 : ∀ w ∈ u_ws RX0 TX0 1, w ∈ wsX0_signThree := by decide +kernel
  have wf9 := hts (.fieldLink RX0 9 "SelfSteer$Bicycle" "numbers" "[I") (by decide +kernel)
  have hl : lv_has ls 1 [(0, .ref a1_)] := hl
  have hP : va_P D vwCl [(a1_, .inr (0, [.ref n1_])), (n1_, .inl (cy 0, 6, .inl f_))] s.heap := hP
  have hD : va_D A [(a1_, .inr (0, [.ref n1_])), (n1_, .inl (cy 0, 6, .inl f_))] := hD
  obtain ⟨H, hH⟩ : ∃ H0 : Heap, H0 = s.heap := ⟨_, rfl⟩
  obtain ⟨locs, hlo⟩ : ∃ L0 : List Loc, L0 = [] := ⟨_, rfl⟩
  have hS : va_S A s.heap H locs := by rw [hH, hlo]; exact hS
  rw [← hH] at hP
  show W p l e rmkX0_signThree s m args below meth c s.heap [] 0 0 Q (F0 m 0 ls [])
  suffices hgo : W p l e rmkX0_signThree s m args below meth c H locs 0 0 Q (F0 m 0 ls []) by rw [hH, hlo] at hgo; exact hgo
  clear hH hlo
  refine lv_ldc2 (v := 100) hx hb hown wl28 dX0_signThree_0 ?_
  refine lv_aload_n hx hb dX0_signThree_3 rfl (lv_at hl 0 rfl) ?_
  refine va_get (D := D) (ci := 0) (v := .ref n1_) (C := RX0) (T := TX0) (N := 1) hx hb hts winX0 hown hK hP 0 rfl rfl 0 (by decide) wf9 (fun _ h9 => h9) rfl dX0_signThree_4 ?_
  refine lv_iconst (v := 4) hx hb dX0_signThree_7 (by decide) ?_
  refine al_i hx hb hK hP 1 rfl 4 (rfl) (by decide) (by decide) dX0_signThree_8 ?_
  refine lv_i2l (v := (f_ 4).toInt64) hx hb dX0_signThree_9 (rfl) ?_
  refine lv_lmul hx hb dX0_signThree_10 ?_
  refine lv_aload_n hx hb dX0_signThree_11 rfl (lv_at hl 0 rfl) ?_
  refine va_get (D := D) (ci := 0) (v := .ref n1_) (C := RX0) (T := TX0) (N := 1) hx hb hts winX0 hown hK hP 0 rfl rfl 0 (by decide) wf9 (fun _ h9 => h9) rfl dX0_signThree_12 ?_
  refine lv_iconst (v := 5) hx hb dX0_signThree_15 (by decide) ?_
  refine al_i hx hb hK hP 1 rfl 5 (rfl) (by decide) (by decide) dX0_signThree_16 ?_
  refine lv_i2l (v := (f_ 5).toInt64) hx hb dX0_signThree_17 (rfl) ?_
  refine lv_lmul hx hb dX0_signThree_18 ?_
  refine lv_eql (y := sg3 f_) (rfl) ?_
  exact RT _ _ () H locs 19 ls (rt_l dX0_signThree_19) rfl hP hD hS
abbrev rmkX0_signTwo : Room := { frames := 0, cells := 0, slots := 0, locals := 0 }
set_option maxHeartbeats 4000000 in
set_option maxRecDepth 100000 in
theorem kX0_signTwo {l : Launch} {D : va_G} {cy : Nat → ClassId} {sa : Nat → Nat} (a1_ : Nat) (n1_ : Nat) (f_ : Nat → Int32) (v_ : Int32) (w_ : Int32)  : CD l D cy sa yX0_signTwo wsX0_signTwo rmkX0_signTwo [.ref a1_, .int v_, .int w_] [(a1_, .inr (0, [.ref n1_])), (n1_, .inl (cy 0, 6, .inl f_))] (some (.long (sg2 f_ v_.toInt64 w_.toInt64))) [(a1_, .inr (0, [.ref n1_])), (n1_, .inl (cy 0, 6, .inl f_))] := by
  refine CT.of cX0_signTwo 5 (some .long) (by decide +kernel) rfl (Nat.le_of_ble_eq_true rfl) ?_
  intro p e s m args below meth c A Q ls F hmn hK hE hA hP hD hS hl RT
  obtain ⟨hx, hb, hml, hown, hts⟩ := id F
  have winX0 : ∀ w_ ∈ u_ws RX0 TX0 1, w_ ∈ wsX0_signTwo := by decide +kernel
  have wf9 := hts (.fieldLink RX0 9 "SelfSteer$Bicycle" "numbers" "[I") (by decide +kernel)
  have wl30 := hts (.constantLong RX0 30 (10)) (by decide +kernel)
  have wl28 := hts (.constantLong RX0 28 (100)) (by decide +kernel)
  have hl : lv_has ls 5 [(0, .ref a1_), (1, .int v_), (2, .int w_)] := hl
  have hP : va_P D vwCl [(a1_, .inr (0, [.ref n1_])), (n1_, .inl (cy 0, 6, .inl f_))] s.heap := hP
  have hD : va_D A [(a1_, .inr (0, [.ref n1_])), (n1_, .inl (cy 0, 6, .inl f_))] := hD
  obtain ⟨H, hH⟩ : ∃ H0 : Heap, H0 = s.heap := ⟨_, rfl⟩
  obtain ⟨locs, hlo⟩ : ∃ L0 : List Loc, L0 = [] := ⟨_, rfl⟩
  have hS : va_S A s.heap H locs := by rw [hH, hlo]; exact hS
  rw [← hH] at hP
  show W p l e rmkX0_signTwo s m args below meth c s.heap [] 0 0 Q (F0 m 0 ls [])
  suffices hgo : W p l e rmkX0_signTwo s m args below meth c H locs 0 0 Q (F0 m 0 ls []) by rw [hH, hlo] at hgo; exact hgo
  clear hH hlo
  refine lv_aload_n hx hb dX0_signTwo_0 rfl (lv_at hl 0 rfl) ?_
  refine va_get (D := D) (ci := 0) (v := .ref n1_) (C := RX0) (T := TX0) (N := 1) hx hb hts winX0 hown hK hP 0 rfl rfl 0 (by decide) wf9 (fun _ h9 => h9) rfl dX0_signTwo_1 ?_
  refine lv_iconst (v := 0) hx hb dX0_signTwo_4 (by decide) ?_
  refine al_i hx hb hK hP 1 rfl 0 (rfl) (by decide) (by decide) dX0_signTwo_5 ?_
  refine lv_i2l (v := (f_ 0).toInt64) hx hb dX0_signTwo_6 (rfl) ?_
  refine lv_iload_n hx hb dX0_signTwo_7 rfl (lv_at hl 1 rfl) ?_
  refine lv_i2l (v := v_.toInt64) hx hb dX0_signTwo_8 (rfl) ?_
  refine lv_lmul hx hb dX0_signTwo_9 ?_
  refine lv_lstore_n (lv' := [(3, .long (((f_ 0).toInt64) * v_.toInt64)), (0, .ref a1_), (1, .int v_), (2, .int w_)]) hx hb dX0_signTwo_10 rfl hl (by decide) rfl (fun ls hl => ?_)
  refine lv_ldc2 (v := 10) hx hb hown wl30 dX0_signTwo_11 ?_
  refine lv_aload_n hx hb dX0_signTwo_14 rfl (lv_at hl 1 rfl) ?_
  refine va_get (D := D) (ci := 0) (v := .ref n1_) (C := RX0) (T := TX0) (N := 1) hx hb hts winX0 hown hK hP 0 rfl rfl 0 (by decide) wf9 (fun _ h9 => h9) rfl dX0_signTwo_15 ?_
  refine lv_iconst (v := 1) hx hb dX0_signTwo_18 (by decide) ?_
  refine al_i hx hb hK hP 1 rfl 1 (rfl) (by decide) (by decide) dX0_signTwo_19 ?_
  refine lv_i2l (v := (f_ 1).toInt64) hx hb dX0_signTwo_20 (rfl) ?_
  refine lv_lmul hx hb dX0_signTwo_21 ?_
  refine lv_iload_n hx hb dX0_signTwo_22 rfl (lv_at hl 2 rfl) ?_
  refine lv_i2l (v := v_.toInt64) hx hb dX0_signTwo_23 (rfl) ?_
  refine lv_lmul hx hb dX0_signTwo_24 ?_
  refine lv_iload_n hx hb dX0_signTwo_25 rfl (lv_at hl 2 rfl) ?_
  refine lv_i2l (v := v_.toInt64) hx hb dX0_signTwo_26 (rfl) ?_
  refine lv_lmul hx hb dX0_signTwo_27 ?_
  refine lv_ldc2 (v := 100) hx hb hown wl28 dX0_signTwo_28 ?_
  refine lv_aload_n hx hb dX0_signTwo_31 rfl (lv_at hl 1 rfl) ?_
  refine va_get (D := D) (ci := 0) (v := .ref n1_) (C := RX0) (T := TX0) (N := 1) hx hb hts winX0 hown hK hP 0 rfl rfl 0 (by decide) wf9 (fun _ h9 => h9) rfl dX0_signTwo_32 ?_
  refine lv_iconst (v := 4) hx hb dX0_signTwo_35 (by decide) ?_
  refine al_i hx hb hK hP 1 rfl 4 (rfl) (by decide) (by decide) dX0_signTwo_36 ?_
  refine lv_i2l (v := (f_ 4).toInt64) hx hb dX0_signTwo_37 (rfl) ?_
  refine lv_lmul hx hb dX0_signTwo_38 ?_
  refine lv_aload_n hx hb dX0_signTwo_39 rfl (lv_at hl 1 rfl) ?_
  refine va_get (D := D) (ci := 0) (v := .ref n1_) (C := RX0) (T := TX0) (N := 1) hx hb hts winX0 hown hK hP 0 rfl rfl 0 (by decide) wf9 (fun _ h9 => h9) rfl dX0_signTwo_40 ?_
  refine lv_iconst (v := 3) hx hb dX0_signTwo_43 (by decide) ?_
  refine al_i hx hb hK hP 1 rfl 3 (rfl) (by decide) (by decide) dX0_signTwo_44 ?_
  refine lv_i2l (v := (f_ 3).toInt64) hx hb dX0_signTwo_45 (rfl) ?_
  refine lv_lmul hx hb dX0_signTwo_46 ?_
  refine lv_lsub hx hb dX0_signTwo_47 ?_
  refine lv_aload_n hx hb dX0_signTwo_48 rfl (lv_at hl 1 rfl) ?_
  refine va_get (D := D) (ci := 0) (v := .ref n1_) (C := RX0) (T := TX0) (N := 1) hx hb hts winX0 hown hK hP 0 rfl rfl 0 (by decide) wf9 (fun _ h9 => h9) rfl dX0_signTwo_49 ?_
  refine lv_iconst (v := 4) hx hb dX0_signTwo_52 (by decide) ?_
  refine al_i hx hb hK hP 1 rfl 4 (rfl) (by decide) (by decide) dX0_signTwo_53 ?_
  refine lv_i2l (v := (f_ 4).toInt64) hx hb dX0_signTwo_54 (rfl) ?_
  refine lv_lload_n hx hb dX0_signTwo_55 rfl (lv_at hl 0 rfl) ?_
  refine lv_lmul hx hb dX0_signTwo_56 ?_
  refine lv_lload_n hx hb dX0_signTwo_57 rfl (lv_at hl 0 rfl) ?_
  refine lv_ldc2 (v := 10) hx hb hown wl30 dX0_signTwo_58 ?_
  refine lv_iload_n hx hb dX0_signTwo_61 rfl (lv_at hl 3 rfl) ?_
  refine lv_i2l (v := w_.toInt64) hx hb dX0_signTwo_62 (rfl) ?_
  refine lv_lmul hx hb dX0_signTwo_63 ?_
  refine lv_ladd hx hb dX0_signTwo_64 ?_
  refine lv_lmul hx hb dX0_signTwo_65 ?_
  refine lv_ladd hx hb dX0_signTwo_66 ?_
  refine lv_eql (y := sg2 f_ v_.toInt64 w_.toInt64) (sg2_c _ _ _) ?_
  exact RT _ _ () H locs 67 ls (rt_l dX0_signTwo_67) rfl hP hD hS
abbrev rmkX0_signOne : Room := { frames := 0, cells := 0, slots := 0, locals := 0 }
set_option maxHeartbeats 4000000 in
set_option maxRecDepth 100000 in
theorem kX0_signOne {l : Launch} {D : va_G} {cy : Nat → ClassId} {sa : Nat → Nat} (a1_ : Nat) (n1_ : Nat) (f_ : Nat → Int32) (v_ : Int32) (k_ : Int32) (w_ : Int32) (hk : (f_ 1 + f_ 2 + k_).toInt64 = (f_ 1 + f_ 2).toInt64 + k_.toInt64) : CD l D cy sa yX0_signOne wsX0_signOne rmkX0_signOne [.ref a1_, .int v_, .int k_, .int w_] [(a1_, .inr (0, [.ref n1_])), (n1_, .inl (cy 0, 6, .inl f_))] (some (.long (sg1 f_ v_.toInt64 k_.toInt64 w_.toInt64))) [(a1_, .inr (0, [.ref n1_])), (n1_, .inl (cy 0, 6, .inl f_))] := by
  refine CT.of cX0_signOne 8 (some .long) (by decide +kernel) rfl (Nat.le_of_ble_eq_true rfl) ?_
  intro p e s m args below meth c A Q ls F hmn hK hE hA hP hD hS hl RT
  obtain ⟨hx, hb, hml, hown, hts⟩ := id F
  have winX0 : ∀ w_ ∈ u_ws RX0 TX0 1, w_ ∈ wsX0_signOne := by decide +kernel
  have wf9 := hts (.fieldLink RX0 9 "SelfSteer$Bicycle" "numbers" "[I") (by decide +kernel)
  have wl30 := hts (.constantLong RX0 30 (10)) (by decide +kernel)
  have wl28 := hts (.constantLong RX0 28 (100)) (by decide +kernel)
  have hl : lv_has ls 8 [(0, .ref a1_), (1, .int v_), (2, .int k_), (3, .int w_)] := hl
  have hP : va_P D vwCl [(a1_, .inr (0, [.ref n1_])), (n1_, .inl (cy 0, 6, .inl f_))] s.heap := hP
  have hD : va_D A [(a1_, .inr (0, [.ref n1_])), (n1_, .inl (cy 0, 6, .inl f_))] := hD
  obtain ⟨H, hH⟩ : ∃ H0 : Heap, H0 = s.heap := ⟨_, rfl⟩
  obtain ⟨locs, hlo⟩ : ∃ L0 : List Loc, L0 = [] := ⟨_, rfl⟩
  have hS : va_S A s.heap H locs := by rw [hH, hlo]; exact hS
  rw [← hH] at hP
  show W p l e rmkX0_signOne s m args below meth c s.heap [] 0 0 Q (F0 m 0 ls [])
  suffices hgo : W p l e rmkX0_signOne s m args below meth c H locs 0 0 Q (F0 m 0 ls []) by rw [hH, hlo] at hgo; exact hgo
  clear hH hlo
  refine lv_aload_n hx hb dX0_signOne_0 rfl (lv_at hl 0 rfl) ?_
  refine va_get (D := D) (ci := 0) (v := .ref n1_) (C := RX0) (T := TX0) (N := 1) hx hb hts winX0 hown hK hP 0 rfl rfl 0 (by decide) wf9 (fun _ h9 => h9) rfl dX0_signOne_1 ?_
  refine lv_iconst (v := 0) hx hb dX0_signOne_4 (by decide) ?_
  refine al_i hx hb hK hP 1 rfl 0 (rfl) (by decide) (by decide) dX0_signOne_5 ?_
  refine lv_i2l (v := (f_ 0).toInt64) hx hb dX0_signOne_6 (rfl) ?_
  refine lv_iload_n hx hb dX0_signOne_7 rfl (lv_at hl 1 rfl) ?_
  refine lv_i2l (v := v_.toInt64) hx hb dX0_signOne_8 (rfl) ?_
  refine lv_lmul hx hb dX0_signOne_9 ?_
  refine lv_lstore (lv' := [(4, .long (((f_ 0).toInt64) * v_.toInt64)), (0, .ref a1_), (1, .int v_), (2, .int k_), (3, .int w_)]) hx hb dX0_signOne_10 hl (by decide) rfl (fun ls hl => ?_)
  refine lv_iload_n hx hb dX0_signOne_12 rfl (lv_at hl 2 rfl) ?_
  refine lv_i2l (v := v_.toInt64) hx hb dX0_signOne_13 (rfl) ?_
  refine lv_iload_n hx hb dX0_signOne_14 rfl (lv_at hl 2 rfl) ?_
  refine lv_i2l (v := v_.toInt64) hx hb dX0_signOne_15 (rfl) ?_
  refine lv_lmul hx hb dX0_signOne_16 ?_
  refine lv_lstore (lv' := [(6, .long (v_.toInt64 * v_.toInt64)), (4, .long (((f_ 0).toInt64) * v_.toInt64)), (0, .ref a1_), (1, .int v_), (2, .int k_), (3, .int w_)]) hx hb dX0_signOne_17 hl (by decide) rfl (fun ls hl => ?_)
  refine lv_ldc2 (v := 10) hx hb hown wl30 dX0_signOne_19 ?_
  refine lv_lload hx hb dX0_signOne_22 (lv_at hl 1 rfl) ?_
  refine lv_lmul hx hb dX0_signOne_24 ?_
  refine lv_lload hx hb dX0_signOne_25 (lv_at hl 0 rfl) ?_
  refine lv_aload_n hx hb dX0_signOne_27 rfl (lv_at hl 2 rfl) ?_
  refine va_get (D := D) (ci := 0) (v := .ref n1_) (C := RX0) (T := TX0) (N := 1) hx hb hts winX0 hown hK hP 0 rfl rfl 0 (by decide) wf9 (fun _ h9 => h9) rfl dX0_signOne_28 ?_
  refine lv_iconst (v := 4) hx hb dX0_signOne_31 (by decide) ?_
  refine al_i hx hb hK hP 1 rfl 4 (rfl) (by decide) (by decide) dX0_signOne_32 ?_
  refine lv_i2l (v := (f_ 4).toInt64) hx hb dX0_signOne_33 (rfl) ?_
  refine lv_aload_n hx hb dX0_signOne_34 rfl (lv_at hl 2 rfl) ?_
  refine va_get (D := D) (ci := 0) (v := .ref n1_) (C := RX0) (T := TX0) (N := 1) hx hb hts winX0 hown hK hP 0 rfl rfl 0 (by decide) wf9 (fun _ h9 => h9) rfl dX0_signOne_35 ?_
  refine lv_iconst (v := 1) hx hb dX0_signOne_38 (by decide) ?_
  refine al_i hx hb hK hP 1 rfl 1 (rfl) (by decide) (by decide) dX0_signOne_39 ?_
  refine lv_aload_n hx hb dX0_signOne_40 rfl (lv_at hl 2 rfl) ?_
  refine va_get (D := D) (ci := 0) (v := .ref n1_) (C := RX0) (T := TX0) (N := 1) hx hb hts winX0 hown hK hP 0 rfl rfl 0 (by decide) wf9 (fun _ h9 => h9) rfl dX0_signOne_41 ?_
  refine lv_iconst (v := 2) hx hb dX0_signOne_44 (by decide) ?_
  refine al_i hx hb hK hP 1 rfl 2 (rfl) (by decide) (by decide) dX0_signOne_45 ?_
  refine lv_iadd hx hb dX0_signOne_46 ?_
  refine lv_iload_n hx hb dX0_signOne_47 rfl (lv_at hl 4 rfl) ?_
  refine lv_iadd hx hb dX0_signOne_48 ?_
  refine lv_i2l (v := (((f_ 1) + (f_ 2)) + k_).toInt64) hx hb dX0_signOne_49 (rfl) ?_
  refine lv_lmul hx hb dX0_signOne_50 ?_
  refine lv_ladd hx hb dX0_signOne_51 ?_
  refine lv_lmul hx hb dX0_signOne_52 ?_
  refine lv_ldc2 (v := 100) hx hb hown wl28 dX0_signOne_53 ?_
  refine lv_aload_n hx hb dX0_signOne_56 rfl (lv_at hl 2 rfl) ?_
  refine va_get (D := D) (ci := 0) (v := .ref n1_) (C := RX0) (T := TX0) (N := 1) hx hb hts winX0 hown hK hP 0 rfl rfl 0 (by decide) wf9 (fun _ h9 => h9) rfl dX0_signOne_57 ?_
  refine lv_iconst (v := 4) hx hb dX0_signOne_60 (by decide) ?_
  refine al_i hx hb hK hP 1 rfl 4 (rfl) (by decide) (by decide) dX0_signOne_61 ?_
  refine lv_i2l (v := (f_ 4).toInt64) hx hb dX0_signOne_62 (rfl) ?_
  refine lv_lmul hx hb dX0_signOne_63 ?_
  refine lv_aload_n hx hb dX0_signOne_64 rfl (lv_at hl 2 rfl) ?_
  refine va_get (D := D) (ci := 0) (v := .ref n1_) (C := RX0) (T := TX0) (N := 1) hx hb hts winX0 hown hK hP 0 rfl rfl 0 (by decide) wf9 (fun _ h9 => h9) rfl dX0_signOne_65 ?_
  refine lv_iconst (v := 3) hx hb dX0_signOne_68 (by decide) ?_
  refine al_i hx hb hK hP 1 rfl 3 (rfl) (by decide) (by decide) dX0_signOne_69 ?_
  refine lv_i2l (v := (f_ 3).toInt64) hx hb dX0_signOne_70 (rfl) ?_
  refine lv_lmul hx hb dX0_signOne_71 ?_
  refine lv_aload_n hx hb dX0_signOne_72 rfl (lv_at hl 2 rfl) ?_
  refine va_get (D := D) (ci := 0) (v := .ref n1_) (C := RX0) (T := TX0) (N := 1) hx hb hts winX0 hown hK hP 0 rfl rfl 0 (by decide) wf9 (fun _ h9 => h9) rfl dX0_signOne_73 ?_
  refine lv_iconst (v := 5) hx hb dX0_signOne_76 (by decide) ?_
  refine al_i hx hb hK hP 1 rfl 5 (rfl) (by decide) (by decide) dX0_signOne_77 ?_
  refine lv_i2l (v := (f_ 5).toInt64) hx hb dX0_signOne_78 (rfl) ?_
  refine lv_lmul hx hb dX0_signOne_79 ?_
  refine lv_lsub hx hb dX0_signOne_80 ?_
  refine lv_ldc2 (v := 100) hx hb hown wl28 dX0_signOne_81 ?_
  refine lv_iload_n hx hb dX0_signOne_84 rfl (lv_at hl 5 rfl) ?_
  refine lv_i2l (v := w_.toInt64) hx hb dX0_signOne_85 (rfl) ?_
  refine lv_lmul hx hb dX0_signOne_86 ?_
  refine lv_lload hx hb dX0_signOne_87 (lv_at hl 0 rfl) ?_
  refine lv_lmul hx hb dX0_signOne_89 ?_
  refine lv_ladd hx hb dX0_signOne_90 ?_
  refine lv_eql (y := sg1 f_ v_.toInt64 k_.toInt64 w_.toInt64) (sg1_c _ _ _ _ hk) ?_
  exact RT _ _ () H locs 91 ls (rt_l dX0_signOne_91) rfl hP hD hS
abbrev rmkX0_signZero : Room := { frames := 0, cells := 0, slots := 0, locals := 0 }
set_option maxHeartbeats 4000000 in
set_option maxRecDepth 100000 in
theorem kX0_signZero {l : Launch} {D : va_G} {cy : Nat → ClassId} {sa : Nat → Nat} (a1_ : Nat) (n1_ : Nat) (f_ : Nat → Int32) (v_ : Int32) (k_ : Int32) (hk : (f_ 1 + f_ 2 + k_).toInt64 = (f_ 1 + f_ 2).toInt64 + k_.toInt64) : CD l D cy sa yX0_signZero wsX0_signZero rmkX0_signZero [.ref a1_, .int v_, .int k_] [(a1_, .inr (0, [.ref n1_])), (n1_, .inl (cy 0, 6, .inl f_))] (some (.long (sg0 f_ v_.toInt64 k_.toInt64))) [(a1_, .inr (0, [.ref n1_])), (n1_, .inl (cy 0, 6, .inl f_))] := by
  refine CT.of cX0_signZero 5 (some .long) (by decide +kernel) rfl (Nat.le_of_ble_eq_true rfl) ?_
  intro p e s m args below meth c A Q ls F hmn hK hE hA hP hD hS hl RT
  obtain ⟨hx, hb, hml, hown, hts⟩ := id F
  have wl28 := hts (.constantLong RX0 28 (100)) (by decide +kernel)
  have winX0 : ∀ w ∈ u_ws RX0 TX0 1, w ∈ wsX0_signZero := by decide +kernel
  have wf9 := hts (.fieldLink RX0 9 "SelfSteer$Bicycle" "numbers" "[I") (by decide +kernel)
  have wl30 := hts (.constantLong RX0 30 (10)) (by decide +kernel)
  have hl : lv_has ls 5 [(0, .ref a1_), (1, .int v_), (2, .int k_)] := hl
  have hP : va_P D vwCl [(a1_, .inr (0, [.ref n1_])), (n1_, .inl (cy 0, 6, .inl f_))] s.heap := hP
  have hD : va_D A [(a1_, .inr (0, [.ref n1_])), (n1_, .inl (cy 0, 6, .inl f_))] := hD
  obtain ⟨H, hH⟩ : ∃ H0 : Heap, H0 = s.heap := ⟨_, rfl⟩
  obtain ⟨locs, hlo⟩ : ∃ L0 : List Loc, L0 = [] := ⟨_, rfl⟩
  have hS : va_S A s.heap H locs := by rw [hH, hlo]; exact hS
  rw [← hH] at hP
  show W p l e rmkX0_signZero s m args below meth c s.heap [] 0 0 Q (F0 m 0 ls [])
  suffices hgo : W p l e rmkX0_signZero s m args below meth c H locs 0 0 Q (F0 m 0 ls []) by rw [hH, hlo] at hgo; exact hgo
  clear hH hlo
  refine lv_iload_n hx hb dX0_signZero_0 rfl (lv_at hl 1 rfl) ?_
  refine lv_i2l (v := v_.toInt64) hx hb dX0_signZero_1 (rfl) ?_
  refine lv_iload_n hx hb dX0_signZero_2 rfl (lv_at hl 1 rfl) ?_
  refine lv_i2l (v := v_.toInt64) hx hb dX0_signZero_3 (rfl) ?_
  refine lv_lmul hx hb dX0_signZero_4 ?_
  refine lv_lstore_n (lv' := [(3, .long (v_.toInt64 * v_.toInt64)), (0, .ref a1_), (1, .int v_), (2, .int k_)]) hx hb dX0_signZero_5 rfl hl (by decide) rfl (fun ls hl => ?_)
  refine lv_ldc2 (v := 100) hx hb hown wl28 dX0_signZero_6 ?_
  refine lv_lload_n hx hb dX0_signZero_9 rfl (lv_at hl 0 rfl) ?_
  refine lv_lmul hx hb dX0_signZero_10 ?_
  refine lv_aload_n hx hb dX0_signZero_11 rfl (lv_at hl 1 rfl) ?_
  refine va_get (D := D) (ci := 0) (v := .ref n1_) (C := RX0) (T := TX0) (N := 1) hx hb hts winX0 hown hK hP 0 rfl rfl 0 (by decide) wf9 (fun _ h9 => h9) rfl dX0_signZero_12 ?_
  refine lv_iconst (v := 1) hx hb dX0_signZero_15 (by decide) ?_
  refine al_i hx hb hK hP 1 rfl 1 (rfl) (by decide) (by decide) dX0_signZero_16 ?_
  refine lv_aload_n hx hb dX0_signZero_17 rfl (lv_at hl 1 rfl) ?_
  refine va_get (D := D) (ci := 0) (v := .ref n1_) (C := RX0) (T := TX0) (N := 1) hx hb hts winX0 hown hK hP 0 rfl rfl 0 (by decide) wf9 (fun _ h9 => h9) rfl dX0_signZero_18 ?_
  refine lv_iconst (v := 2) hx hb dX0_signZero_21 (by decide) ?_
  refine al_i hx hb hK hP 1 rfl 2 (rfl) (by decide) (by decide) dX0_signZero_22 ?_
  refine lv_iadd hx hb dX0_signZero_23 ?_
  refine lv_iload_n hx hb dX0_signZero_24 rfl (lv_at hl 3 rfl) ?_
  refine lv_iadd hx hb dX0_signZero_25 ?_
  refine lv_i2l (v := (((f_ 1) + (f_ 2)) + k_).toInt64) hx hb dX0_signZero_26 (rfl) ?_
  refine lv_lmul hx hb dX0_signZero_27 ?_
  refine lv_ldc2 (v := 10) hx hb hown wl30 dX0_signZero_28 ?_
  refine lv_aload_n hx hb dX0_signZero_31 rfl (lv_at hl 1 rfl) ?_
  refine va_get (D := D) (ci := 0) (v := .ref n1_) (C := RX0) (T := TX0) (N := 1) hx hb hts winX0 hown hK hP 0 rfl rfl 0 (by decide) wf9 (fun _ h9 => h9) rfl dX0_signZero_32 ?_
  refine lv_iconst (v := 3) hx hb dX0_signZero_35 (by decide) ?_
  refine al_i hx hb hK hP 1 rfl 3 (rfl) (by decide) (by decide) dX0_signZero_36 ?_
  refine lv_i2l (v := (f_ 3).toInt64) hx hb dX0_signZero_37 (rfl) ?_
  refine lv_lmul hx hb dX0_signZero_38 ?_
  refine lv_aload_n hx hb dX0_signZero_39 rfl (lv_at hl 1 rfl) ?_
  refine va_get (D := D) (ci := 0) (v := .ref n1_) (C := RX0) (T := TX0) (N := 1) hx hb hts winX0 hown hK hP 0 rfl rfl 0 (by decide) wf9 (fun _ h9 => h9) rfl dX0_signZero_40 ?_
  refine lv_iconst (v := 1) hx hb dX0_signZero_43 (by decide) ?_
  refine al_i hx hb hK hP 1 rfl 1 (rfl) (by decide) (by decide) dX0_signZero_44 ?_
  refine lv_i2l (v := (f_ 1).toInt64) hx hb dX0_signZero_45 (rfl) ?_
  refine lv_lmul hx hb dX0_signZero_46 ?_
  refine lv_lload_n hx hb dX0_signZero_47 rfl (lv_at hl 0 rfl) ?_
  refine lv_lmul hx hb dX0_signZero_48 ?_
  refine lv_lsub hx hb dX0_signZero_49 ?_
  refine lv_eql (y := sg0 f_ v_.toInt64 k_.toInt64) (sg0_c _ _ _ hk) ?_
  exact RT _ _ () H locs 50 ls (rt_l dX0_signZero_50) rfl hP hD hS
abbrev rmkX0_staysUp : Room := { frames := 1, cells := 0, slots := 0, locals := 27 }
set_option maxHeartbeats 4000000 in
set_option maxRecDepth 100000 in
theorem kX0_staysUp {l : Launch} {D : va_G} {cy : Nat → ClassId} {sa : Nat → Nat} (a1_ : Nat) (n1_ : Nat) (f_ : Nat → Int32) (v_ : Int32) (k_ : Int32) (w_ : Int32) (hk : (f_ 1 + f_ 2 + k_).toInt64 = (f_ 1 + f_ 2).toInt64 + k_.toInt64) : CD l D cy sa yX0_staysUp wsX0_staysUp rmkX0_staysUp [.ref a1_, .int v_, .int k_, .int w_] [(a1_, .inr (0, [.ref n1_])), (n1_, .inl (cy 0, 6, .inl f_))] (some (.int (bI (upP f_ v_ k_ w_)))) [(a1_, .inr (0, [.ref n1_])), (n1_, .inl (cy 0, 6, .inl f_))] := by
  refine CT.of cX0_staysUp 12 (some .boolean) (by decide +kernel) rfl (Nat.le_of_ble_eq_true rfl) ?_
  intro p e s m args below meth c A Q ls F hmn hK hE hA hP hD hS hl RT
  obtain ⟨hx, hb, hml, hown, hts⟩ := id F
  have wl28 := hts (.constantLong RX0 28 (100)) (by decide +kernel)
  have winX0 : ∀ w_ ∈ u_ws RX0 TX0 1, w_ ∈ wsX0_staysUp := by decide +kernel
  have wf9 := hts (.fieldLink RX0 9 "SelfSteer$Bicycle" "numbers" "[I") (by decide +kernel)
  have hl : lv_has ls 12 [(0, .ref a1_), (1, .int v_), (2, .int k_), (3, .int w_)] := hl
  have hP : va_P D vwCl [(a1_, .inr (0, [.ref n1_])), (n1_, .inl (cy 0, 6, .inl f_))] s.heap := hP
  have hD : va_D A [(a1_, .inr (0, [.ref n1_])), (n1_, .inl (cy 0, 6, .inl f_))] := hD
  obtain ⟨H, hH⟩ : ∃ H0 : Heap, H0 = s.heap := ⟨_, rfl⟩
  obtain ⟨locs, hlo⟩ : ∃ L0 : List Loc, L0 = [] := ⟨_, rfl⟩
  have hS : va_S A s.heap H locs := by rw [hH, hlo]; exact hS
  rw [← hH] at hP
  show W p l e rmkX0_staysUp s m args below meth c s.heap [] 0 0 Q (F0 m 0 ls [])
  suffices hgo : W p l e rmkX0_staysUp s m args below meth c H locs 0 0 Q (F0 m 0 ls []) by rw [hH, hlo] at hgo; exact hgo
  clear hH hlo
  refine lv_aload_n hx hb dX0_staysUp_0 rfl (lv_at hl 0 rfl) ?_
  refine lv_iload_n hx hb dX0_staysUp_1 rfl (lv_at hl 1 rfl) ?_
  refine lv_iload_n hx hb dX0_staysUp_2 rfl (lv_at hl 2 rfl) ?_
  refine ca_V (q0 := 0) (n := 2) (rest := []) (wr := []) F hK hE hA hP hD hS hl.1 (kX0_signZero (l := l) (D := D) (cy := cy) (sa := sa) a1_ n1_ f_ v_ k_ (by first | assumption | omega | decide)) gX0_staysUp_X0_signZero rfl rfl rfl rfl rfl rfl (by decide +kernel) ⟨by decide, by decide⟩ [0, 1] [] rfl rfl rfl rfl (by decide) rfl rfl (Nat.le_of_ble_eq_true rfl) dX0_staysUp_3 ⟨by decide, by decide⟩ (fun v9 u9 H locs hv hP hD hS => ?_)
  subst hv
  obtain ⟨hP, hD⟩ := re_ws (ws' := [(a1_, .inr (0, [.ref n1_])), (n1_, .inl (cy 0, 6, .inl f_))]) hP hD [0, 1] rfl rfl
  refine W.eq (g2 := F0 m 6 ls [.long (sg0 f_ v_.toInt64 k_.toInt64)]) rfl ?_
  refine lv_lstore (lv' := [(4, .long (sg0 f_ v_.toInt64 k_.toInt64)), (0, .ref a1_), (1, .int v_), (2, .int k_), (3, .int w_)]) hx hb dX0_staysUp_6 hl (by decide) rfl (fun ls hl => ?_)
  refine lv_aload_n hx hb dX0_staysUp_8 rfl (lv_at hl 1 rfl) ?_
  refine lv_iload_n hx hb dX0_staysUp_9 rfl (lv_at hl 2 rfl) ?_
  refine lv_iload_n hx hb dX0_staysUp_10 rfl (lv_at hl 4 rfl) ?_
  refine ca_V (q0 := 0) (n := 2) (rest := []) (wr := []) F hK hE hA hP hD hS hl.1 (kX0_signTwo (l := l) (D := D) (cy := cy) (sa := sa) a1_ n1_ f_ v_ w_) gX0_staysUp_X0_signTwo rfl rfl rfl rfl rfl rfl (by decide +kernel) ⟨by decide, by decide⟩ [0, 1] [] rfl rfl rfl rfl (by decide) rfl rfl (Nat.le_of_ble_eq_true rfl) dX0_staysUp_11 ⟨by decide, by decide⟩ (fun v9 u9 H locs hv hP hD hS => ?_)
  subst hv
  obtain ⟨hP, hD⟩ := re_ws (ws' := [(a1_, .inr (0, [.ref n1_])), (n1_, .inl (cy 0, 6, .inl f_))]) hP hD [0, 1] rfl rfl
  refine W.eq (g2 := F0 m 14 ls [.long (sg2 f_ v_.toInt64 w_.toInt64)]) rfl ?_
  refine lv_lstore (lv' := [(6, .long (sg2 f_ v_.toInt64 w_.toInt64)), (4, .long (sg0 f_ v_.toInt64 k_.toInt64)), (0, .ref a1_), (1, .int v_), (2, .int k_), (3, .int w_)]) hx hb dX0_staysUp_14 hl (by decide) rfl (fun ls hl => ?_)
  refine lv_lload hx hb dX0_staysUp_16 (lv_at hl 1 rfl) ?_
  refine lv_lconst (v := 0) hx hb dX0_staysUp_18 (by decide) ?_
  refine W.lcmp hx hb dX0_staysUp_19 ?_
  refine lc_le (tgt := 30) hx hb dX0_staysUp_20 (by decide) (fun c_20 => ?_) (fun c_20 => ?_)
  · refine lv_iconst (v := 0) hx hb dX0_staysUp_30 (by decide) ?_
    refine lv_eqi (y := bI (upP f_ v_ k_ w_)) (by refine (bI_f ?_).symm; first | exact fun z => z.1.2.2.2 c_20 | exact fun z => z.1.2.1 (Int64.not_lt.mp c_27)) ?_
    exact RT _ _ () H locs 31 ls (rt_z (bI_nar _) dX0_staysUp_31) rfl hP hD hS
  · refine lv_lload hx hb dX0_staysUp_23 (lv_at hl 0 rfl) ?_
    refine lv_lconst (v := 0) hx hb dX0_staysUp_25 (by decide) ?_
    refine W.lcmp hx hb dX0_staysUp_26 ?_
    refine lc_gt (tgt := 32) hx hb dX0_staysUp_27 (by decide) (fun c_27 => ?_) (fun c_27 => ?_)
    · refine lv_aload_n hx hb dX0_staysUp_32 rfl (lv_at hl 2 rfl) ?_
      refine lv_iload_n hx hb dX0_staysUp_33 rfl (lv_at hl 3 rfl) ?_
      refine lv_iload_n hx hb dX0_staysUp_34 rfl (lv_at hl 4 rfl) ?_
      refine lv_iload_n hx hb dX0_staysUp_35 rfl (lv_at hl 5 rfl) ?_
      refine ca_V (q0 := 0) (n := 3) (rest := []) (wr := []) F hK hE hA hP hD hS hl.1 (kX0_signOne (l := l) (D := D) (cy := cy) (sa := sa) a1_ n1_ f_ v_ k_ w_ (by first | assumption | omega | decide)) gX0_staysUp_X0_signOne rfl rfl rfl rfl rfl rfl (by decide +kernel) ⟨by decide, by decide⟩ [0, 1] [] rfl rfl rfl rfl (by decide) rfl rfl (Nat.le_of_ble_eq_true rfl) dX0_staysUp_36 ⟨by decide, by decide⟩ (fun v9 u9 H locs hv hP hD hS => ?_)
      subst hv
      obtain ⟨hP, hD⟩ := re_ws (ws' := [(a1_, .inr (0, [.ref n1_])), (n1_, .inl (cy 0, 6, .inl f_))]) hP hD [0, 1] rfl rfl
      refine W.eq (g2 := F0 m 39 ls [.long (sg1 f_ v_.toInt64 k_.toInt64 w_.toInt64)]) rfl ?_
      refine lv_lstore (lv' := [(8, .long (sg1 f_ v_.toInt64 k_.toInt64 w_.toInt64)), (6, .long (sg2 f_ v_.toInt64 w_.toInt64)), (4, .long (sg0 f_ v_.toInt64 k_.toInt64)), (0, .ref a1_), (1, .int v_), (2, .int k_), (3, .int w_)]) hx hb dX0_staysUp_39 hl (by decide) rfl (fun ls hl => ?_)
      refine lv_aload_n hx hb dX0_staysUp_41 rfl (lv_at hl 3 rfl) ?_
      refine ca_V (q0 := 0) (n := 0) (rest := []) (wr := []) F hK hE hA hP hD hS hl.1 (kX0_signThree (l := l) (D := D) (cy := cy) (sa := sa) a1_ n1_ f_) gX0_staysUp_X0_signThree rfl rfl rfl rfl rfl rfl (by decide +kernel) ⟨by decide, by decide⟩ [0, 1] [] rfl rfl rfl rfl (by decide) rfl rfl (Nat.le_of_ble_eq_true rfl) dX0_staysUp_42 ⟨by decide, by decide⟩ (fun v9 u9 H locs hv hP hD hS => ?_)
      subst hv
      obtain ⟨hP, hD⟩ := re_ws (ws' := [(a1_, .inr (0, [.ref n1_])), (n1_, .inl (cy 0, 6, .inl f_))]) hP hD [0, 1] rfl rfl
      refine W.eq (g2 := F0 m 45 ls [.long (sg3 f_)]) rfl ?_
      refine lv_lstore (lv' := [(10, .long (sg3 f_)), (8, .long (sg1 f_ v_.toInt64 k_.toInt64 w_.toInt64)), (6, .long (sg2 f_ v_.toInt64 w_.toInt64)), (4, .long (sg0 f_ v_.toInt64 k_.toInt64)), (0, .ref a1_), (1, .int v_), (2, .int k_), (3, .int w_)]) hx hb dX0_staysUp_45 hl (by decide) rfl (fun ls hl => ?_)
      refine lv_lload hx hb dX0_staysUp_47 (lv_at hl 1 rfl) ?_
      refine lv_lconst (v := 0) hx hb dX0_staysUp_49 (by decide) ?_
      refine W.lcmp hx hb dX0_staysUp_50 ?_
      have J_51_55 : ∀ (H : Heap) (locs : List Loc), va_P D vwCl [(a1_, .inr (0, [.ref n1_])), (n1_, .inl (cy 0, 6, .inl f_))] H → va_D A [(a1_, .inr (0, [.ref n1_])), (n1_, .inl (cy 0, 6, .inl f_))] → va_S A s.heap H locs → ∀ (ls : Array Slot), lv_has ls 12 [(10, .long (sg3 f_)), (8, .long (sg1 f_ v_.toInt64 k_.toInt64 w_.toInt64)), (6, .long (sg2 f_ v_.toInt64 w_.toInt64)), (4, .long (sg0 f_ v_.toInt64 k_.toInt64)), (0, .ref a1_), (1, .int v_), (2, .int k_), (3, .int w_)] → W p l e rmkX0_staysUp s m args below meth c H locs 0 0 Q (F0 m 104 ls [.int (bI (¬ ((sg1 f_ v_.toInt64 k_.toInt64 w_.toInt64) ≤ 0) ∧ (¬ ((sg3 f_) ≤ 0) ∧ (¬ ((((sg3 f_) * (sg2 f_ v_.toInt64 w_.toInt64)) * (sg1 f_ v_.toInt64 k_.toInt64 w_.toInt64)) ≤ ((((100 * ((f_ 4).toInt64)) * (sg1 f_ v_.toInt64 k_.toInt64 w_.toInt64)) * (sg1 f_ v_.toInt64 k_.toInt64 w_.toInt64)) + (((sg3 f_) * (sg3 f_)) * (sg0 f_ v_.toInt64 k_.toInt64))))))))]) := by
        intro H locs hP hD hS ls hl
        refine lv_eqi (y := bI (upP f_ v_ k_ w_)) (bI_congr ⟨fun z => ⟨⟨z.2.1, Int64.not_le.mpr c_27, z.1, c_20⟩, z.2.2⟩, fun z => ⟨z.1.2.2.1, z.1.1, z.2⟩⟩) ?_
        exact RT _ _ () H locs 104 ls (rt_z (bI_nar _) dX0_staysUp_104) rfl hP hD hS
      refine lc_le (tgt := 103) hx hb dX0_staysUp_51 (by decide) (fun c_51 => ?_) (fun c_51 => ?_)
      · refine lv_iconst (v := 0) hx hb dX0_staysUp_103 (by decide) ?_
        refine lv_eqi (y := bI (¬ ((sg1 f_ v_.toInt64 k_.toInt64 w_.toInt64) ≤ 0) ∧ (¬ ((sg3 f_) ≤ 0) ∧ (¬ ((((sg3 f_) * (sg2 f_ v_.toInt64 w_.toInt64)) * (sg1 f_ v_.toInt64 k_.toInt64 w_.toInt64)) ≤ ((((100 * ((f_ 4).toInt64)) * (sg1 f_ v_.toInt64 k_.toInt64 w_.toInt64)) * (sg1 f_ v_.toInt64 k_.toInt64 w_.toInt64)) + (((sg3 f_) * (sg3 f_)) * (sg0 f_ v_.toInt64 k_.toInt64)))))))) (bI_congr (pe_t c_51)) ?_
        exact J_51_55 H locs hP hD hS ls (lv_sub hl [0, 1, 2, 3, 4, 5, 6, 7] rfl)
      · refine lv_lload hx hb dX0_staysUp_54 (lv_at hl 0 rfl) ?_
        refine lv_lconst (v := 0) hx hb dX0_staysUp_56 (by decide) ?_
        refine W.lcmp hx hb dX0_staysUp_57 ?_
        refine lc_le (tgt := 103) hx hb dX0_staysUp_58 (by decide) (fun c_58 => ?_) (fun c_58 => ?_)
        · refine lv_iconst (v := 0) hx hb dX0_staysUp_103 (by decide) ?_
          refine lv_eqi (y := bI (¬ ((sg1 f_ v_.toInt64 k_.toInt64 w_.toInt64) ≤ 0) ∧ (¬ ((sg3 f_) ≤ 0) ∧ (¬ ((((sg3 f_) * (sg2 f_ v_.toInt64 w_.toInt64)) * (sg1 f_ v_.toInt64 k_.toInt64 w_.toInt64)) ≤ ((((100 * ((f_ 4).toInt64)) * (sg1 f_ v_.toInt64 k_.toInt64 w_.toInt64)) * (sg1 f_ v_.toInt64 k_.toInt64 w_.toInt64)) + (((sg3 f_) * (sg3 f_)) * (sg0 f_ v_.toInt64 k_.toInt64)))))))) (bI_congr (pe_f c_51 (pe_t c_58))) ?_
          exact J_51_55 H locs hP hD hS ls (lv_sub hl [0, 1, 2, 3, 4, 5, 6, 7] rfl)
        · refine lv_lload hx hb dX0_staysUp_61 (lv_at hl 0 rfl) ?_
          refine lv_lload hx hb dX0_staysUp_63 (lv_at hl 2 rfl) ?_
          refine lv_lmul hx hb dX0_staysUp_65 ?_
          refine lv_lload hx hb dX0_staysUp_66 (lv_at hl 1 rfl) ?_
          refine lv_lmul hx hb dX0_staysUp_68 ?_
          refine lv_ldc2 (v := 100) hx hb hown wl28 dX0_staysUp_69 ?_
          refine lv_aload_n hx hb dX0_staysUp_72 rfl (lv_at hl 4 rfl) ?_
          refine va_get (D := D) (ci := 0) (v := .ref n1_) (C := RX0) (T := TX0) (N := 1) hx hb hts winX0 hown hK hP 0 rfl rfl 0 (by decide) wf9 (fun _ h9 => h9) rfl dX0_staysUp_73 ?_
          refine lv_iconst (v := 4) hx hb dX0_staysUp_76 (by decide) ?_
          refine al_i hx hb hK hP 1 rfl 4 (rfl) (by decide) (by decide) dX0_staysUp_77 ?_
          refine lv_i2l (v := (f_ 4).toInt64) hx hb dX0_staysUp_78 (rfl) ?_
          refine lv_lmul hx hb dX0_staysUp_79 ?_
          refine lv_lload hx hb dX0_staysUp_80 (lv_at hl 1 rfl) ?_
          refine lv_lmul hx hb dX0_staysUp_82 ?_
          refine lv_lload hx hb dX0_staysUp_83 (lv_at hl 1 rfl) ?_
          refine lv_lmul hx hb dX0_staysUp_85 ?_
          refine lv_lload hx hb dX0_staysUp_86 (lv_at hl 0 rfl) ?_
          refine lv_lload hx hb dX0_staysUp_88 (lv_at hl 0 rfl) ?_
          refine lv_lmul hx hb dX0_staysUp_90 ?_
          refine lv_lload hx hb dX0_staysUp_91 (lv_at hl 3 rfl) ?_
          refine lv_lmul hx hb dX0_staysUp_93 ?_
          refine lv_ladd hx hb dX0_staysUp_94 ?_
          refine W.lcmp hx hb dX0_staysUp_95 ?_
          refine lc_le (tgt := 103) hx hb dX0_staysUp_96 (by decide) (fun c_96 => ?_) (fun c_96 => ?_)
          · refine lv_iconst (v := 0) hx hb dX0_staysUp_103 (by decide) ?_
            refine lv_eqi (y := bI (¬ ((sg1 f_ v_.toInt64 k_.toInt64 w_.toInt64) ≤ 0) ∧ (¬ ((sg3 f_) ≤ 0) ∧ (¬ ((((sg3 f_) * (sg2 f_ v_.toInt64 w_.toInt64)) * (sg1 f_ v_.toInt64 k_.toInt64 w_.toInt64)) ≤ ((((100 * ((f_ 4).toInt64)) * (sg1 f_ v_.toInt64 k_.toInt64 w_.toInt64)) * (sg1 f_ v_.toInt64 k_.toInt64 w_.toInt64)) + (((sg3 f_) * (sg3 f_)) * (sg0 f_ v_.toInt64 k_.toInt64)))))))) (bI_congr (pe_f c_51 (pe_f c_58 (pn_t c_96)))) ?_
            exact J_51_55 H locs hP hD hS ls (lv_sub hl [0, 1, 2, 3, 4, 5, 6, 7] rfl)
          · refine lv_iconst (v := 1) hx hb dX0_staysUp_99 (by decide) ?_
            refine lv_goto (tgt := 104) hx hb dX0_staysUp_100 (by decide) ?_
            refine lv_eqi (y := bI (¬ ((sg1 f_ v_.toInt64 k_.toInt64 w_.toInt64) ≤ 0) ∧ (¬ ((sg3 f_) ≤ 0) ∧ (¬ ((((sg3 f_) * (sg2 f_ v_.toInt64 w_.toInt64)) * (sg1 f_ v_.toInt64 k_.toInt64 w_.toInt64)) ≤ ((((100 * ((f_ 4).toInt64)) * (sg1 f_ v_.toInt64 k_.toInt64 w_.toInt64)) * (sg1 f_ v_.toInt64 k_.toInt64 w_.toInt64)) + (((sg3 f_) * (sg3 f_)) * (sg0 f_ v_.toInt64 k_.toInt64)))))))) (bI_congr (pe_f c_51 (pe_f c_58 (pn_f c_96)))) ?_
            exact J_51_55 H locs hP hD hS ls (lv_sub hl [0, 1, 2, 3, 4, 5, 6, 7] rfl)
    · refine lv_iconst (v := 0) hx hb dX0_staysUp_30 (by decide) ?_
      refine lv_eqi (y := bI (upP f_ v_ k_ w_)) (by refine (bI_f ?_).symm; first | exact fun z => z.1.2.2.2 c_20 | exact fun z => z.1.2.1 (Int64.not_lt.mp c_27)) ?_
      exact RT _ _ () H locs 31 ls (rt_z (bI_nar _) dX0_staysUp_31) rfl hP hD hS
abbrev rmkX0_speeds : Room := { frames := 2, cells := 0, slots := 0, locals := 58 }
set_option maxHeartbeats 4000000 in
set_option maxRecDepth 100000 in
theorem kX0_speeds {l : Launch} {D : va_G} {cy : Nat → ClassId} {sa : Nat → Nat} (a1_ : Nat) (n1_ : Nat) (f_ : Nat → Int32) (hok : okF f_) : CD l D cy sa yX0_speeds wsX0_speeds rmkX0_speeds [.ref a1_] [(a1_, .inr (0, [.ref n1_])), (n1_, .inl (cy 0, 6, .inl f_))] (some (.long (rg f_ 41))) [(a1_, .inr (0, [.ref n1_])), (n1_, .inl (cy 0, 6, .inl f_))] := by
  refine CT.of cX0_speeds 4 (some .long) (by decide +kernel) rfl (Nat.le_of_ble_eq_true rfl) ?_
  intro p e s m args below meth c A Q ls F hmn hK hE hA hP hD hS hl RT
  obtain ⟨hx, hb, hml, hown, hts⟩ := id F
  have winX0 : ∀ w ∈ u_ws RX0 TX0 1, w ∈ wsX0_speeds := by decide +kernel
  have wf9 := hts (.fieldLink RX0 9 "SelfSteer$Bicycle" "numbers" "[I") (by decide +kernel)
  have hl : lv_has ls 4 [(0, .ref a1_)] := hl
  have hP : va_P D vwCl [(a1_, .inr (0, [.ref n1_])), (n1_, .inl (cy 0, 6, .inl f_))] s.heap := hP
  have hD : va_D A [(a1_, .inr (0, [.ref n1_])), (n1_, .inl (cy 0, 6, .inl f_))] := hD
  obtain ⟨H, hH⟩ : ∃ H0 : Heap, H0 = s.heap := ⟨_, rfl⟩
  obtain ⟨locs, hlo⟩ : ∃ L0 : List Loc, L0 = [] := ⟨_, rfl⟩
  have hS : va_S A s.heap H locs := by rw [hH, hlo]; exact hS
  rw [← hH] at hP
  show W p l e rmkX0_speeds s m args below meth c s.heap [] 0 0 Q (F0 m 0 ls [])
  suffices hgo : W p l e rmkX0_speeds s m args below meth c H locs 0 0 Q (F0 m 0 ls []) by rw [hH, hlo] at hgo; exact hgo
  clear hH hlo
  refine lv_aload_n hx hb dX0_speeds_0 rfl (lv_at hl 0 rfl) ?_
  refine va_get (D := D) (ci := 0) (v := .ref n1_) (C := RX0) (T := TX0) (N := 1) hx hb hts winX0 hown hK hP 0 rfl rfl 0 (by decide) wf9 (fun _ h9 => h9) rfl dX0_speeds_1 ?_
  refine lv_iconst (v := 0) hx hb dX0_speeds_4 (by decide) ?_
  refine al_i hx hb hK hP 1 rfl 0 (rfl) (by decide) (by decide) dX0_speeds_5 ?_
  refine lv_if_eq (tgt := 29) hx hb dX0_speeds_6 (by decide) (fun c_6 => ?_) (fun c_6 => ?_)
  · refine lv_lconst (v := 0) hx hb dX0_speeds_29 (by decide) ?_
    refine lv_eql (y := rg f_ 41) (by refine (rg_none 41 ?_).symm; first | exact fun v _ => up_spin hok c_6 _ | exact fun v _ => up_damp c_15 _ _ _ | exact fun v hv => up_zero hok (Int64.not_lt.mp c_26) (by omega)) ?_
    exact RT _ _ () H locs 30 ls (rt_l dX0_speeds_30) rfl hP hD hS
  · refine lv_aload_n hx hb dX0_speeds_9 rfl (lv_at hl 0 rfl) ?_
    refine ca_V (q0 := 0) (n := 0) (rest := []) (wr := []) F hK hE hA hP hD hS hl.1 (kX0_signThree (l := l) (D := D) (cy := cy) (sa := sa) a1_ n1_ f_) gX0_speeds_X0_signThree rfl rfl rfl rfl rfl rfl (by decide +kernel) ⟨by decide, by decide⟩ [0, 1] [] rfl rfl rfl rfl (by decide) rfl rfl (Nat.le_of_ble_eq_true rfl) dX0_speeds_10 ⟨by decide, by decide⟩ (fun v9 u9 H locs hv hP hD hS => ?_)
    subst hv
    obtain ⟨hP, hD⟩ := re_ws (ws' := [(a1_, .inr (0, [.ref n1_])), (n1_, .inl (cy 0, 6, .inl f_))]) hP hD [0, 1] rfl rfl
    refine W.eq (g2 := F0 m 13 ls [.long (sg3 f_)]) rfl ?_
    refine lv_lconst (v := 0) hx hb dX0_speeds_13 (by decide) ?_
    refine W.lcmp hx hb dX0_speeds_14 ?_
    refine lc_le (tgt := 29) hx hb dX0_speeds_15 (by decide) (fun c_15 => ?_) (fun c_15 => ?_)
    · refine lv_lconst (v := 0) hx hb dX0_speeds_29 (by decide) ?_
      refine lv_eql (y := rg f_ 41) (by refine (rg_none 41 ?_).symm; first | exact fun v _ => up_spin hok c_6 _ | exact fun v _ => up_damp c_15 _ _ _ | exact fun v hv => up_zero hok (Int64.not_lt.mp c_26) (by omega)) ?_
      exact RT _ _ () H locs 30 ls (rt_l dX0_speeds_30) rfl hP hD hS
    · refine lv_aload_n hx hb dX0_speeds_18 rfl (lv_at hl 0 rfl) ?_
      refine lv_iconst (v := 1) hx hb dX0_speeds_19 (by decide) ?_
      refine lv_iconst (v := 0) hx hb dX0_speeds_20 (by decide) ?_
      refine ca_V (q0 := 0) (n := 2) (rest := []) (wr := []) F hK hE hA hP hD hS hl.1 (kX0_signZero (l := l) (D := D) (cy := cy) (sa := sa) a1_ n1_ f_ 1 0 (hov0 _)) gX0_speeds_X0_signZero rfl rfl rfl rfl rfl rfl (by decide +kernel) ⟨by decide, by decide⟩ [0, 1] [] rfl rfl rfl rfl (by decide) rfl rfl (Nat.le_of_ble_eq_true rfl) dX0_speeds_21 ⟨by decide, by decide⟩ (fun v9 u9 H locs hv hP hD hS => ?_)
      subst hv
      obtain ⟨hP, hD⟩ := re_ws (ws' := [(a1_, .inr (0, [.ref n1_])), (n1_, .inl (cy 0, 6, .inl f_))]) hP hD [0, 1] rfl rfl
      refine W.eq (g2 := F0 m 24 ls [.long (sg0 f_ (1 : Int32).toInt64 (0 : Int32).toInt64)]) rfl ?_
      refine lv_eql (y := sg0 f_ 1 0) (rfl) ?_
      refine lv_lconst (v := 0) hx hb dX0_speeds_24 (by decide) ?_
      refine W.lcmp hx hb dX0_speeds_25 ?_
      refine lc_gt (tgt := 31) hx hb dX0_speeds_26 (by decide) (fun c_26 => ?_) (fun c_26 => ?_)
      · refine lv_lconst (v := 0) hx hb dX0_speeds_31 (by decide) ?_
        refine lv_lstore_n (lv' := [(1, .long 0), (0, .ref a1_)]) hx hb dX0_speeds_32 rfl hl (by decide) rfl (fun ls hl => ?_)
        refine lv_iconst (v := 0) hx hb dX0_speeds_33 (by decide) ?_
        refine lv_istore_n (lv' := [(3, .int 0), (1, .long 0), (0, .ref a1_)]) hx hb dX0_speeds_34 rfl hl (by decide) rfl (fun ls hl => ?_)
        have L_35 : ∀ (nF : Nat) (q_ : Nat), (q_ ≤ 41) → 41 - q_ < nF → ∀ (H : Heap) (locs : List Loc), va_P D vwCl [(a1_, .inr (0, [.ref n1_])), (n1_, .inl (cy 0, 6, .inl f_))] H → va_D A [(a1_, .inr (0, [.ref n1_])), (n1_, .inl (cy 0, 6, .inl f_))] → va_S A s.heap H locs → ∀ (ls : Array Slot), lv_has ls 4 [(3, .int (nI q_)), (1, .long (rg f_ q_)), (0, .ref a1_)] → W p l e rmkX0_speeds s m args below meth c H locs 0 0 Q (F0 m 35 ls []) := by
          intro nF
          induction nF with
          | zero => intro q_ hq hnF; exact absurd hnF (Nat.not_lt_zero _)
          | succ nF ih_35 =>
            intro q_ hq hn_35 H locs hP hD hS ls hl
            refine lv_iload_n hx hb dX0_speeds_35 rfl (lv_at hl 0 rfl) ?_
            refine lv_bipush (v := 40) hx hb dX0_speeds_36 (by decide) ?_
            refine cn_gt (tgt := 63) hx hb q_ 40 rfl rfl (by omega) (by omega) dX0_speeds_38 (by decide) (fun c_38 => ?_) (fun c_38 => ?_)
            · refine lv_lload_n hx hb dX0_speeds_63 rfl (lv_at hl 1 rfl) ?_
              refine lv_eql (y := rg f_ 41) (by rw [show q_ = 41 by omega]) ?_
              exact RT _ _ () H locs 64 ls (rt_l dX0_speeds_64) rfl hP hD hS
            · refine lv_aload_n hx hb dX0_speeds_41 rfl (lv_at hl 2 rfl) ?_
              refine lv_iload_n hx hb dX0_speeds_42 rfl (lv_at hl 0 rfl) ?_
              refine lv_iconst (v := 0) hx hb dX0_speeds_43 (by decide) ?_
              refine lv_iconst (v := 0) hx hb dX0_speeds_44 (by decide) ?_
              refine ca_V (q0 := 0) (n := 3) (rest := []) (wr := []) F hK hE hA hP hD hS hl.1 (kX0_staysUp (l := l) (D := D) (cy := cy) (sa := sa) a1_ n1_ f_ (nI q_) 0 0 (hov0 _)) gX0_speeds_X0_staysUp rfl rfl rfl rfl rfl rfl (by decide +kernel) ⟨by decide, by decide⟩ [0, 1] [] rfl rfl rfl rfl (by decide) rfl rfl (Nat.le_of_ble_eq_true rfl) dX0_speeds_45 ⟨by decide, by decide⟩ (fun v9 u9 H locs hv hP hD hS => ?_)
              subst hv
              obtain ⟨hP, hD⟩ := re_ws (ws' := [(a1_, .inr (0, [.ref n1_])), (n1_, .inl (cy 0, 6, .inl f_))]) hP hD [0, 1] rfl rfl
              refine W.eq (g2 := F0 m 48 ls [.int (bI (upP f_ (nI q_) 0 0))]) rfl ?_
              have J_48_64 : ∀ (z48 : Int64), z48 = (if upP f_ (nI q_) 0 0 then ((rg f_ q_) ||| ((1 : Int64) <<< ((nI q_).toInt64 &&& 63))) else (rg f_ q_)) → ∀ (H : Heap) (locs : List Loc), va_P D vwCl [(a1_, .inr (0, [.ref n1_])), (n1_, .inl (cy 0, 6, .inl f_))] H → va_D A [(a1_, .inr (0, [.ref n1_])), (n1_, .inl (cy 0, 6, .inl f_))] → va_S A s.heap H locs → ∀ (ls : Array Slot), lv_has ls 4 [(1, .long z48), (3, .int (nI q_)), (0, .ref a1_)] → W p l e rmkX0_speeds s m args below meth c H locs 0 0 Q (F0 m 57 ls []) := by
                intro z48 ez48 H locs hP hD hS ls hl
                refine lv_iinc (v := nI (q_ + 1)) (lv' := [(3, .int (nI (q_ + 1))), (1, .long z48), (0, .ref a1_)]) hx hb dX0_speeds_57 hl (k := 1) rfl (nI_add q_ 1) (by decide) rfl (fun ls hl => ?_)
                refine lv_goto (tgt := 35) hx hb dX0_speeds_60 (by decide) ?_
                rw [show ((1, .long z48) : Nat × Value) = (1, .long (rg f_ (q_ + 1))) from congrArg (fun y9 => ((1, Value.long y9) : Nat × Value)) (show z48 = rg f_ (q_ + 1) from (by rw [ez48, rg]; by_cases hu : upP f_ (nI q_) 0 0 <;> first | rw [if_pos hu, if_pos hu] | rw [if_neg hu, if_neg hu, i64_or0]))] at hl
                exact ih_35 (q_ + 1) (by first | assumption | omega | decide) (by omega) H locs hP hD hS ls (lv_sub hl [0, 1, 2] rfl)
              refine bz_eq (tgt := 57) hx hb dX0_speeds_48 (by decide) (fun c_48 => ?_) (fun c_48 => ?_)
              · exact J_48_64 _ ((if_neg c_48).symm) H locs hP hD hS ls (lv_sub hl [1, 0, 2] rfl)
              · refine lv_lload_n hx hb dX0_speeds_51 rfl (lv_at hl 1 rfl) ?_
                refine lv_lconst (v := 1) hx hb dX0_speeds_52 (by decide) ?_
                refine lv_iload_n hx hb dX0_speeds_53 rfl (lv_at hl 0 rfl) ?_
                refine lv_lshl (v := (1 : Int64) <<< ((nI q_).toInt64 &&& 63)) hx hb dX0_speeds_54 (rfl) ?_
                refine lv_lor hx hb dX0_speeds_55 ?_
                refine lv_lstore_n (lv' := [(1, .long ((rg f_ q_) ||| ((1 : Int64) <<< ((nI q_).toInt64 &&& 63)))), (3, .int (nI q_)), (0, .ref a1_)]) hx hb dX0_speeds_56 rfl hl (by decide) rfl (fun ls hl => ?_)
                exact J_48_64 _ ((if_pos c_48).symm) H locs hP hD hS ls (lv_sub hl [0, 1, 2] rfl)
        exact L_35 _ 0 (by first | assumption | omega | decide) (Nat.lt_succ_self _) H locs hP hD hS ls (lv_sub hl [0, 1, 2] rfl)
      · refine lv_lconst (v := 0) hx hb dX0_speeds_29 (by decide) ?_
        refine lv_eql (y := rg f_ 41) (by refine (rg_none 41 ?_).symm; first | exact fun v _ => up_spin hok c_6 _ | exact fun v _ => up_damp c_15 _ _ _ | exact fun v hv => up_zero hok (Int64.not_lt.mp c_26) (by omega)) ?_
        exact RT _ _ () H locs 30 ls (rt_l dX0_speeds_30) rfl hP hD hS
abbrev rmkX0_speedCount : Room := { frames := 3, cells := 0, slots := 0, locals := 81 }
set_option maxHeartbeats 4000000 in
set_option maxRecDepth 100000 in
theorem kX0_speedCount {l : Launch} {D : va_G} {cy : Nat → ClassId} {sa : Nat → Nat} (a1_ : Nat) (n1_ : Nat) (f_ : Nat → Int32) (hok : okF f_) : CD l D cy sa yX0_speedCount wsX0_speedCount rmkX0_speedCount [.ref a1_] [(a1_, .inr (0, [.ref n1_])), (n1_, .inl (cy 0, 6, .inl f_))] (some (.int (pc64 (rg f_ 41)))) [(a1_, .inr (0, [.ref n1_])), (n1_, .inl (cy 0, 6, .inl f_))] := by
  refine CT.of cX0_speedCount 1 (some .int) (by decide +kernel) rfl (Nat.le_of_ble_eq_true rfl) ?_
  intro p e s m args below meth c A Q ls F hmn hK hE hA hP hD hS hl RT
  obtain ⟨hx, hb, hml, hown, hts⟩ := id F
  have hl : lv_has ls 1 [(0, .ref a1_)] := hl
  have hP : va_P D vwCl [(a1_, .inr (0, [.ref n1_])), (n1_, .inl (cy 0, 6, .inl f_))] s.heap := hP
  have hD : va_D A [(a1_, .inr (0, [.ref n1_])), (n1_, .inl (cy 0, 6, .inl f_))] := hD
  obtain ⟨H, hH⟩ : ∃ H0 : Heap, H0 = s.heap := ⟨_, rfl⟩
  obtain ⟨locs, hlo⟩ : ∃ L0 : List Loc, L0 = [] := ⟨_, rfl⟩
  have hS : va_S A s.heap H locs := by rw [hH, hlo]; exact hS
  rw [← hH] at hP
  show W p l e rmkX0_speedCount s m args below meth c s.heap [] 0 0 Q (F0 m 0 ls [])
  suffices hgo : W p l e rmkX0_speedCount s m args below meth c H locs 0 0 Q (F0 m 0 ls []) by rw [hH, hlo] at hgo; exact hgo
  clear hH hlo
  refine lv_aload_n hx hb dX0_speedCount_0 rfl (lv_at hl 0 rfl) ?_
  refine ca_V (q0 := 0) (n := 0) (rest := []) (wr := []) F hK hE hA hP hD hS hl.1 (kX0_speeds (l := l) (D := D) (cy := cy) (sa := sa) a1_ n1_ f_ (by first | assumption | omega | decide)) gX0_speedCount_X0_speeds rfl rfl rfl rfl rfl rfl (by decide +kernel) ⟨by decide, by decide⟩ [0, 1] [] rfl rfl rfl rfl (by decide) rfl rfl (Nat.le_of_ble_eq_true rfl) dX0_speedCount_1 ⟨by decide, by decide⟩ (fun v9 u9 H locs hv hP hD hS => ?_)
  subst hv
  obtain ⟨hP, hD⟩ := re_ws (ws' := [(a1_, .inr (0, [.ref n1_])), (n1_, .inl (cy 0, 6, .inl f_))]) hP hD [0, 1] rfl rfl
  refine W.eq (g2 := F0 m 4 ls [.long (rg f_ 41)]) rfl ?_
  refine ca_S (n := 1) (rest := []) (wr := [(a1_, .inr (0, [.ref n1_])), (n1_, .inl (cy 0, 6, .inl f_))]) F hK hE hA hP hD hS hl.1 (kJ13_bitCount (l := l) (D := D) (cy := cy) (sa := sa) (rg f_ 41)) gX0_speedCount_J13_bitCount_95d88 rfl rfl rfl (by decide +kernel) ⟨by decide, by decide⟩ [] [0, 1] rfl rfl rfl rfl (by decide) rfl rfl (Nat.le_of_ble_eq_true rfl) dX0_speedCount_4 ⟨by decide, by decide⟩ (fun v9 u9 H locs hv hP hD hS => ?_)
  subst hv
  have hP : va_P D vwCl [(a1_, .inr (0, [.ref n1_])), (n1_, .inl (cy 0, 6, .inl f_))] H := hP
  have hD : va_D A [(a1_, .inr (0, [.ref n1_])), (n1_, .inl (cy 0, 6, .inl f_))] := hD
  refine W.eq (g2 := F0 m 7 ls [.int (pc64 (rg f_ 41))]) rfl ?_
  exact RT _ _ () H locs 7 ls (rt_i dX0_speedCount_7) rfl hP hD hS
