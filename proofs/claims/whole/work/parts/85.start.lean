/-! the law: what holds as it begins -/
theorem lw_D {args : Array Value} {s : State} (hts : ∀ w ∈ lw_tbl, w.before args s = true) : ∃ D : va_G, ∀ (k : Nat) (q : vw_C), vwCl[k]? = some q → u_Kn s q.1 q.2.1 q.2.2 (D.1 k) (D.2 k) := by
  obtain ⟨c0, i0, h0⟩ := u_known (C := RX0) (T := TX0) (N := 1) (n := 1) hts inX0 (hts (.instantiable RX0 1) (List.mem_of_getElem? (i := 89) (by decide +kernel)))
  obtain ⟨c1, i1, h1⟩ := u_known (C := RX1) (T := TX1) (N := 1) (n := 1) hts inX1 (hts (.instantiable RX1 1) (List.mem_of_getElem? (i := 106) (by decide +kernel)))
  obtain ⟨c2, i2, h2⟩ := u_known (C := RX2) (T := TX2) (N := 3) (n := 3) hts inX2 (hts (.instantiable RX2 3) (List.mem_of_getElem? (i := 118) (by decide +kernel)))
  obtain ⟨c3, i3, h3⟩ := u_known (C := RX3) (T := TX3) (N := 2) (n := 2) hts inX3 (hts (.instantiable RX3 2) (List.mem_of_getElem? (i := 237) (by decide +kernel)))
  obtain ⟨c4, i4, h4⟩ := u_known (C := RX4) (T := TX4) (N := 3) (n := 3) hts inX4 (hts (.instantiable RX4 3) (List.mem_of_getElem? (i := 252) (by decide +kernel)))
  obtain ⟨c5, i5, h5⟩ := u_known (C := RX5) (T := TX5) (N := 6) (n := 6) hts inX5 (hts (.instantiable RX5 6) (List.mem_of_getElem? (i := 139) (by decide +kernel)))
  obtain ⟨c6, i6, h6⟩ := u_known (C := RX6) (T := TX6) (N := 13) (n := 13) hts inX6 (hts (.instantiable RX6 13) (List.mem_of_getElem? (i := 181) (by decide +kernel)))
  obtain ⟨c7, i7, h7⟩ := u_known (C := RX7) (T := TX7) (N := 2) (n := 2) hts inX7 (hts (.instantiable RX7 2) (List.mem_of_getElem? (i := 164) (by decide +kernel)))
  obtain ⟨c8, i8, h8⟩ := u_known (C := RX8) (T := TX8) (N := 16) (n := 16) hts inX8 (hts (.instantiable RX8 16) (List.mem_of_getElem? (i := 80) (by decide +kernel)))
  obtain ⟨c9, i9, h9⟩ := u_known (C := RX9) (T := TX9) (N := 21) (n := 21) hts inX9 (hts (.instantiable RX9 21) (List.mem_of_getElem? (i := 768) (by decide +kernel)))
  refine ⟨(fun k => match k with | 0 => c0 | 1 => c1 | 2 => c2 | 3 => c3 | 4 => c4 | 5 => c5 | 6 => c6 | 7 => c7 | 8 => c8 | _ => c9, fun k => match k with | 0 => i0 | 1 => i1 | 2 => i2 | 3 => i3 | 4 => i4 | 5 => i5 | 6 => i6 | 7 => i7 | 8 => i8 | _ => i9), ?_⟩
  intro k q hq
  match k, hq with
  | 0, hq => cases hq; exact h0
  | 1, hq => cases hq; exact h1
  | 2, hq => cases hq; exact h2
  | 3, hq => cases hq; exact h3
  | 4, hq => cases hq; exact h4
  | 5, hq => cases hq; exact h5
  | 6, hq => cases hq; exact h6
  | 7, hq => cases hq; exact h7
  | 8, hq => cases hq; exact h8
  | 9, hq => cases hq; exact h9
  | k + 10, hq => simp [vwCl] at hq
theorem lw_cy {args : Array Value} {s : State} (hts : ∀ w ∈ lw_tbl, w.before args s = true) : ∃ cy : Nat → ClassId, ∀ (k : Nat) (q : ClassId × FieldType), (tysG cy)[k]? = some q → ArrOfT s q.1 q.2 ∧ va_RA s q.1 q.2 := by
  obtain ⟨c0, k0, m0, a1, a2, a3⟩ := Cond.arrayClass_spec (hts (.arrayClass .int) (List.mem_of_getElem? (i := 104) (by decide +kernel)))
  obtain ⟨c1, k1, m1, b1, b2, b3⟩ := Cond.arrayClass_spec (hts (.arrayClass .boolean) (List.mem_of_getElem? (i := 249) (by decide +kernel)))
  obtain ⟨m2, c2, k2, d1, d2, d3, d4, d5⟩ := Cond.arrayOver_spec (hts (.arrayOver (.object "SelfSteer$Bicycle")) (List.mem_of_getElem? (i := 88) (by decide +kernel)))
  obtain ⟨m3, c3, k3, e1, e2, e3, e4, e5⟩ := Cond.arrayOver_spec (hts (.arrayOver (.object "SelfSteer$Image")) (List.mem_of_getElem? (i := 251) (by decide +kernel)))
  refine ⟨fun k => match k with | 0 => c0 | 1 => c1 | 2 => c2 | _ => c3, ?_⟩
  intro k q hq
  match k, hq with
  | 0, hq => cases hq; exact ⟨fun n z => ⟨fun k h => (by cases h), k0, a2, m0, a3⟩, a1⟩
  | 1, hq => cases hq; exact ⟨fun n z => ⟨fun k h => (by cases h), k1, b2, m1, b3⟩, b1⟩
  | 2, hq => cases hq; exact ⟨fun n z => ⟨fun k h => (by cases h), k2, d3, m2, d4⟩, k2, m2, d3, d4, d1, d5⟩
  | 3, hq => cases hq; exact ⟨fun n z => ⟨fun k h => (by cases h), k3, e3, m3, e4⟩, k3, m3, e3, e4, e1, e5⟩
  | k + 4, hq => simp [tysG] at hq
theorem ev_s {args : Array Value} {s : State} {C n : String} {N : Nat} {f : Nat → Int32} {A : Nat → Prop} (hl : (Cond.laysStatic C n "[I").before args s = true) (hini : (Cond.initialized C).before args s = true) (harr : (Cond.arrayOf (.static C n "[I") .int).before args s = true) (hlen : (Cond.eq (.length (.static C n "[I")) (.int (Int32.ofNat N))).before args s = true) (hel : ∀ j, j < N → (Cond.eq (.elem (.static C n "[I") (.int (Int32.ofNat j))) (.int (f j))).before args s = true) (hN : N < 2 ^ 31) (hA : ∀ a : Nat, a < s.heap.size → ¬ A a) : ∃ t, EVs C n t N f A s s.heap := by
  obtain ⟨t, ht, hT⟩ := va_Tof (f := fun j => .int (f j)) hN harr (va_eqt hlen) (fun j hj => va_eqt (hel j hj)) hA
  exact ⟨t, va_Zof hl hini ht hA, hT⟩
set_option maxRecDepth 100000 in
theorem nest_at : nestW = [90, 94, 100, 107, 112, 119, 124, 140, 165, 173, 182, 187, 189, 191, 193, 195, 197, 199, 201, 203, 205, 238, 253, 258, 260, 264, 339, 343, 344, 363, 368, 373, 377, 385, 397, 414, 422, 430, 431, 432, 433, 437, 444, 461, 479, 487, 488, 489, 490, 491, 492, 493, 503, 527, 532, 543, 604, 608, 610, 612, 616, 617, 621, 631, 639, 651, 670, 692, 696, 699, 711, 734, 738, 743, 751].filterMap (fun i => lw_tbl[i]?) := by decide +kernel
theorem nest_in : ∀ w ∈ nestW, w ∈ lw_tbl := fun w hw => by
  rw [nest_at] at hw
  obtain ⟨i, -, hi⟩ := List.mem_filterMap.mp hw
  exact List.mem_of_getElem? hi
set_option maxHeartbeats 4000000 in
set_option maxRecDepth 100000 in
theorem lw_env {args : Array Value} {s : State} {A : Nat → Prop} (hts : ∀ w ∈ lw_tbl, w.before args s = true) (hgv : (Jvm.Cond.and given_1 narrow_1).before args s = true) (hA : ∀ a : Nat, a < s.heap.size → ¬ A a) : ∃ sa : Nat → Nat, EV sa A s s.heap := by
  have hs := flat_of_before _ hgv
  obtain ⟨t0, ht0⟩ := ev_s (C := "SelfSteer") (n := "LOWEST") (N := 6) (f := s_LOW) (A := A) (hts (.laysStatic "SelfSteer" "LOWEST" "[I") (List.mem_of_getElem? (i := 335) (by decide +kernel))) (hts (.initialized "SelfSteer") (List.mem_of_getElem? (i := 61) (by decide +kernel))) (hs _ (by decide +kernel)) (hs _ (by decide +kernel)) (fun j hj => by rcases (show j = 0 ∨ j = 1 ∨ j = 2 ∨ j = 3 ∨ j = 4 ∨ j = 5 by omega) with h | h | h | h | h | h <;> subst h <;> exact hs _ (by decide +kernel)) (by decide) hA
  obtain ⟨t1, ht1⟩ := ev_s (C := "SelfSteer") (n := "HIGHEST") (N := 6) (f := s_HIGH) (A := A) (hts (.laysStatic "SelfSteer" "HIGHEST" "[I") (List.mem_of_getElem? (i := 337) (by decide +kernel))) (hts (.initialized "SelfSteer") (List.mem_of_getElem? (i := 61) (by decide +kernel))) (hs _ (by decide +kernel)) (hs _ (by decide +kernel)) (fun j hj => by rcases (show j = 0 ∨ j = 1 ∨ j = 2 ∨ j = 3 ∨ j = 4 ∨ j = 5 by omega) with h | h | h | h | h | h <;> subst h <;> exact hs _ (by decide +kernel)) (by decide) hA
  obtain ⟨t2, ht2⟩ := ev_s (C := "SelfSteer") (n := "AT_FIRST") (N := 6) (f := s_FIRST) (A := A) (hts (.laysStatic "SelfSteer" "AT_FIRST" "[I") (List.mem_of_getElem? (i := 95) (by decide +kernel))) (hts (.initialized "SelfSteer") (List.mem_of_getElem? (i := 61) (by decide +kernel))) (hs _ (by decide +kernel)) (hs _ (by decide +kernel)) (fun j hj => by rcases (show j = 0 ∨ j = 1 ∨ j = 2 ∨ j = 3 ∨ j = 4 ∨ j = 5 by omega) with h | h | h | h | h | h <;> subst h <;> exact hs _ (by decide +kernel)) (by decide) hA
  obtain ⟨t3, ht3⟩ := ev_s (C := "SelfSteer") (n := "KIND_ABOVE") (N := 7) (f := s_ABOVE) (A := A) (hts (.laysStatic "SelfSteer" "KIND_ABOVE" "[I") (List.mem_of_getElem? (i := 726) (by decide +kernel))) (hts (.initialized "SelfSteer") (List.mem_of_getElem? (i := 61) (by decide +kernel))) (hs _ (by decide +kernel)) (hs _ (by decide +kernel)) (fun j hj => by rcases (show j = 0 ∨ j = 1 ∨ j = 2 ∨ j = 3 ∨ j = 4 ∨ j = 5 ∨ j = 6 by omega) with h | h | h | h | h | h | h <;> subst h <;> exact hs _ (by decide +kernel)) (by decide) hA
  obtain ⟨t4, ht4⟩ := ev_s (C := "SelfSteer") (n := "TRACE_OF_KIND") (N := 7) (f := s_TRACE) (A := A) (hts (.laysStatic "SelfSteer" "TRACE_OF_KIND" "[I") (List.mem_of_getElem? (i := 724) (by decide +kernel))) (hts (.initialized "SelfSteer") (List.mem_of_getElem? (i := 61) (by decide +kernel))) (hs _ (by decide +kernel)) (hs _ (by decide +kernel)) (fun j hj => by rcases (show j = 0 ∨ j = 1 ∨ j = 2 ∨ j = 3 ∨ j = 4 ∨ j = 5 ∨ j = 6 by omega) with h | h | h | h | h | h | h <;> subst h <;> exact hs _ (by decide +kernel)) (by decide) hA
  obtain ⟨t5, ht5⟩ := ev_s (C := "SelfSteer$Rider") (n := "UNTOLD") (N := 5) (f := s_UNTOLD) (A := A) (hts (.laysStatic "SelfSteer$Rider" "UNTOLD" "[I") (List.mem_of_getElem? (i := 170) (by decide +kernel))) (hts (.initialized "SelfSteer$Rider") (List.mem_of_getElem? (i := 67) (by decide +kernel))) (hs _ (by decide +kernel)) (hs _ (by decide +kernel)) (fun j hj => by rcases (show j = 0 ∨ j = 1 ∨ j = 2 ∨ j = 3 ∨ j = 4 by omega) with h | h | h | h | h <;> subst h <;> exact hs _ (by decide +kernel)) (by decide) hA
  obtain ⟨t6, ht6⟩ := ev_s (C := "SelfSteer$Rider") (n := "SMALLEST") (N := 5) (f := s_SMALL) (A := A) (hts (.laysStatic "SelfSteer$Rider" "SMALLEST" "[I") (List.mem_of_getElem? (i := 609) (by decide +kernel))) (hts (.initialized "SelfSteer$Rider") (List.mem_of_getElem? (i := 67) (by decide +kernel))) (hs _ (by decide +kernel)) (hs _ (by decide +kernel)) (fun j hj => by rcases (show j = 0 ∨ j = 1 ∨ j = 2 ∨ j = 3 ∨ j = 4 by omega) with h | h | h | h | h <;> subst h <;> exact hs _ (by decide +kernel)) (by decide) hA
  obtain ⟨t7, ht7⟩ := ev_s (C := "SelfSteer$Rider") (n := "LARGEST") (N := 5) (f := s_LARGE) (A := A) (hts (.laysStatic "SelfSteer$Rider" "LARGEST" "[I") (List.mem_of_getElem? (i := 611) (by decide +kernel))) (hts (.initialized "SelfSteer$Rider") (List.mem_of_getElem? (i := 67) (by decide +kernel))) (hs _ (by decide +kernel)) (hs _ (by decide +kernel)) (fun j hj => by rcases (show j = 0 ∨ j = 1 ∨ j = 2 ∨ j = 3 ∨ j = 4 by omega) with h | h | h | h | h <;> subst h <;> exact hs _ (by decide +kernel)) (by decide) hA
  obtain ⟨a, c, cA, kA, q1, q2, q3, q4, q5, q6, -⟩ := Cond.exactly_spec (args := args) (first := s) (o := none) (s := s) (idx := []) (t := (Term.string "SelfSteer$Reader" 76)) (cls := "java/lang/String") (hs (.exactly (Term.string "SelfSteer$Reader" 76) "java/lang/String") (by decide +kernel))
  obtain ⟨t9, u1, u2⟩ := va_Tof (tm := (Term.field (Term.string "SelfSteer$Reader" 76) "java/lang/String" "value" "[B")) (ty := .byte) (N := 25) (f := fun j => .int (s_WORDS j)) (A := A) (by decide) (hs (.arrayOf (Term.field (Term.string "SelfSteer$Reader" 76) "java/lang/String" "value" "[B") .byte) (by decide +kernel)) (va_eqt (hs (.eq (.length (Term.field (Term.string "SelfSteer$Reader" 76) "java/lang/String" "value" "[B")) (.int (Int32.ofNat 25))) (by decide +kernel))) (fun j hj => va_eqt (by rcases (show j = 0 ∨ j = 1 ∨ j = 2 ∨ j = 3 ∨ j = 4 ∨ j = 5 ∨ j = 6 ∨ j = 7 ∨ j = 8 ∨ j = 9 ∨ j = 10 ∨ j = 11 ∨ j = 12 ∨ j = 13 ∨ j = 14 ∨ j = 15 ∨ j = 16 ∨ j = 17 ∨ j = 18 ∨ j = 19 ∨ j = 20 ∨ j = 21 ∨ j = 22 ∨ j = 23 ∨ j = 24 by omega) with h | h | h | h | h | h | h | h | h | h | h | h | h | h | h | h | h | h | h | h | h | h | h | h | h <;> subst h <;> exact hs _ (by decide +kernel))) hA
  have hO : va_O "java/lang/String" a A s s.heap := ⟨cA, q3, q5, by rw [q6]; exact q2, hA a (Array.getElem?_eq_some_iff.mp q3).1⟩
  have hF1 := vk_OFof q1 (va_eqt (hs (.eq (.field (Term.string "SelfSteer$Reader" 76) "java/lang/String" "coder" "B") (.int 0)) (by decide +kernel))) hA
  have hF2 := vk_OFof q1 u1 hA
  have hR : vk_R "SelfSteer$Reader" 76 "lean rate bar  late most " a s := vk_R.of (A := args) (hts (.stringRef "SelfSteer$Reader" 76 "lean rate bar  late most ") (List.mem_of_getElem? (i := 552) (by decide +kernel))) (by first | exact q1 | (rw [← q1]; rfl))
  have hZ1 : va_Z "java/lang/String" "COMPACT_STRINGS" "Z" (.int 1) A s s.heap := va_Zof (hts (.laysStatic "java/lang/String" "COMPACT_STRINGS" "Z") (List.mem_of_getElem? (i := 562) (by decide +kernel))) (hts (.initialized "java/lang/String") (List.mem_of_getElem? (i := 75) (by decide +kernel))) (va_eqt (hs _ (by decide +kernel))) hA
  have hZ2 : va_Zq "jdk/internal/util/Preconditions" "SIOOBE_FORMATTER" "Ljava/util/function/BiFunction;" A s s.heap := va_Zqof (hts (.laysStatic "jdk/internal/util/Preconditions" "SIOOBE_FORMATTER" "Ljava/util/function/BiFunction;") (List.mem_of_getElem? (i := 570) (by decide +kernel))) (hts (.initialized "jdk/internal/util/Preconditions") (List.mem_of_getElem? (i := 77) (by decide +kernel))) (hs _ (by decide +kernel)) hA
  refine ⟨fun k => match k with | 0 => t0 | 1 => t1 | 2 => t2 | 3 => t3 | 4 => t4 | 5 => t5 | 6 => t6 | 7 => t7 | 8 => a | _ => t9, ht0, ht1, ht2, ht3, ht4, ht5, ht6, ht7, fun w hw => va_Nw.of (nest_tab (nestW_ok w hw)) (hts w (nest_in w hw)), hR, hO, hF1, hF2, u2, hZ1, hZ2, va_AO.of (hts (.arrayOver (.object "SelfSteer$Bicycle")) (List.mem_of_getElem? (i := 88) (by decide +kernel))), va_AO.of (hts (.arrayOver (.object "SelfSteer$Image")) (List.mem_of_getElem? (i := 251) (by decide +kernel)))⟩
theorem INV_0 : INV 0 nb0 sf0 0 (fun _ => 0) (fun _ => 0) (fun _ => 0) hv0 hw0 (fun _ _ => 0) (fun _ => 0) (fun _ _ => 0) (fun _ _ => 0) (fun _ _ => 0) (fun _ => hv0) (fun _ => hw0) (fun _ => 0) lm0 (fun _ => 0) 0 0 0 5 3 := by
  have hr : ∀ sf : Nat → Int32, (∀ z, z < 25 → sf z = 0) → RIDE sf 0 (fun _ => 0) (fun _ => 0) (fun _ => 0) 0 := fun sf h => ⟨⟨0, by decide, h 0 (by decide)⟩, h 7 (by decide), Nat.le_refl _, Or.inl (h 8 (by decide)), Or.inl (h 2 (by decide)), fun j h1 h5 => ⟨fun z => by omega, fun _ => ⟨h _ (by omega), h _ (by omega), h _ (by omega)⟩⟩⟩
  have hs : ∀ z, z < 25 → sf0 z = 0 := fun z hz => by unfold sf0; rw [upd_ne _ _ (by omega), upd_ne _ _ (by omega)]
  refine ⟨fun i _ k hk => ?_, hr sf0 hs, fun z hz => ?_, fun a _ => hr _ (fun _ _ => rfl), fun a _ => Or.inl rfl, fun a _ z hz => ?_, ⟨⟨0, by decide, rfl⟩, by decide +kernel⟩, Nat.zero_le _, fun k _ => (by decide : ¬ (0 : Int32) < 0), by decide +kernel, ⟨by decide, by decide⟩, ⟨by decide, by decide⟩⟩
  · show inR (s_FIRST k) (bot (nI k)) 9
    have h : ∀ k, k < 6 → inR (s_FIRST k) (bot (nI k)) 9 := by decide +kernel
    exact h k hk
  · rcases (show z = 0 ∨ z = 1 by omega) with h | h <;> subst h
    · exact ⟨rfl, rfl, Or.inr rfl, by decide +kernel, by decide +kernel⟩
    · exact ⟨rfl, rfl, Or.inl rfl, by decide +kernel, by decide +kernel⟩
  · rcases (show z = 0 ∨ z = 1 by omega) with h | h <;> subst h
    · exact Or.inr rfl
    · exact Or.inl rfl
