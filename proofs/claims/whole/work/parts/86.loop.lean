/-! the law's loop -/
set_option maxHeartbeats 4000000 in
set_option maxRecDepth 100000 in
theorem law_loop {p : Program} {l : Launch} {e : Env} {s : State} {m : MethodId} {args : Array Value} {below : List Frame} {meth : Method} {c : Code} {Q : State → Prop} {A : Nat → Prop} {D : va_G} {cy : Nat → ClassId} {sa : Nat → Nat} {L : Nat} {xs : Nat → Int32} {x0_ b0_ b9_ : Nat} (C0 : LCX p s m args c A D cy sa b9_ L xs) (hend : ∀ (H : Heap) (locs : List Loc) (ls : Array Slot), va_S A s.heap H locs → W p l e room_1 s m args below meth c H locs 66 3015 Q (F0 m 1114 ls [])) : ∀ (nF j9_ i9_ : Nat), i9_ = 6 * j9_ → L + 6 - i9_ < nF → i9_ ≤ L + 5 → KK p l e s m args below meth c Q A D cy x0_ b0_ b9_ i9_ j9_ 18 := by
  intro nF
  induction nF with
  | zero => intro j9_ i9_ _ h; exact absurd h (Nat.not_lt_zero _)
  | succ nF IH9 =>
    intro j9_ i9_ hij hnF hi5
    intro xb_ ta_ tn1_ c1_ c2_ c3_ d1_ a2_ n2_ d2_ d3_ xt_ e1_ eb_ r3_ r4_ r1_ r2_ q1_ q2_ q3_ q4_ o1_ o2_ o3_ o4_ h1_ h2_ h3_ xi_ mn_ mt_ ms_ mk_ mp_ mi_ ml_ mx_ mc_ mf_ ba_ bn_ ia_ iq_ i2_ i3_ i4_ ih_ iv_ iw_ nb_ tf_ cf_ f2_ sc_ tx_ ld_ lw_ sf_ pl_ pp_ pb_ so_ ol_ oc_ ob_ vh_ wh_ ft_ sp_ cn_ fd_ kf_ kp_ kl_ kc_ kb_ kv_ kw_ kt_ tl_ tn_ to_ eln_ epl_ ebg_ etk_ evl_ td_ tb_ ub_ db_ th_ it_ mnx_ mtk_ mpl_ mvl_ mfa_ tr_ hI H locs hP hD hS ls hl
    obtain ⟨F, hK, hE, hA, hX, hbl, hbA, hL⟩ := id C0
    obtain ⟨hx, hb, hml, hown, hts⟩ := id F
    refine lv_iload_n hx hb dL_law_18 rfl (lv_at hl 0 rfl) ?_
    refine lv_aload_n hx hb dL_law_19 rfl (lv_at hl 3 rfl) ?_
    refine va_slen hx hb hX hbl hbA hS dL_law_20 ?_
    refine lv_bipush (v := 6) hx hb dL_law_21 (by decide) ?_
    refine lv_isub hx hb dL_law_23 ?_
    have e6 : (nI L - 6).toInt = (L : Int) - 6 := pk_sub_toInt (a := L) (b := 6) (by omega) (by decide)
    refine lv_icmp_gt (tgt := 1114) hx hb dL_law_24 (by decide) (fun c_24 => ?_) (fun c_24 => ?_)
    · exact hend H locs ls hS
    · have hi6 : i9_ + 6 ≤ L := by
        have h1_ : ¬ nI L - 6 < nI i9_ := c_24
        have h2_ := Int32.le_iff_toInt_le.mp (Int32.not_lt.mp h1_)
        rw [e6, nI_toInt (by omega)] at h2_
        omega
      have kk : KK p l e s m args below meth c Q A D cy x0_ b0_ b9_ i9_ (j9_ + 1) 1108 := by
        intro xb_ ta_ tn1_ c1_ c2_ c3_ d1_ a2_ n2_ d2_ d3_ xt_ e1_ eb_ r3_ r4_ r1_ r2_ q1_ q2_ q3_ q4_ o1_ o2_ o3_ o4_ h1_ h2_ h3_ xi_ mn_ mt_ ms_ mk_ mp_ mi_ ml_ mx_ mc_ mf_ ba_ bn_ ia_ iq_ i2_ i3_ i4_ ih_ iv_ iw_ nb_ tf_ cf_ f2_ sc_ tx_ ld_ lw_ sf_ pl_ pp_ pb_ so_ ol_ oc_ ob_ vh_ wh_ ft_ sp_ cn_ fd_ kf_ kp_ kl_ kc_ kb_ kv_ kw_ kt_ tl_ tn_ to_ eln_ epl_ ebg_ etk_ evl_ td_ tb_ ub_ db_ th_ it_ mnx_ mtk_ mpl_ mvl_ mfa_ tr_ hI H locs hP hD hS ls hl
        refine lv_iinc (v := nI (i9_ + 6)) (lv' := [(3, .int (nI (i9_ + 6))), (2, .ref b0_), (1, .ref x0_), (0, .ref b9_)]) hx hb dL_law_1108 hl (k := 0) rfl (nI_add i9_ 6) (by decide) rfl (fun ls hl => ?_)
        refine lv_goto (tgt := 18) hx hb dL_law_1111 (by decide) ?_
        exact IH9 (j9_ + 1) (i9_ + 6) (by omega) (by omega) (by omega) xb_ ta_ tn1_ c1_ c2_ c3_ d1_ a2_ n2_ d2_ d3_ xt_ e1_ eb_ r3_ r4_ r1_ r2_ q1_ q2_ q3_ q4_ o1_ o2_ o3_ o4_ h1_ h2_ h3_ xi_ mn_ mt_ ms_ mk_ mp_ mi_ ml_ mx_ mc_ mf_ ba_ bn_ ia_ iq_ i2_ i3_ i4_ ih_ iv_ iw_ nb_ tf_ cf_ f2_ sc_ tx_ ld_ lw_ sf_ pl_ pp_ pb_ so_ ol_ oc_ ob_ vh_ wh_ ft_ sp_ cn_ fd_ kf_ kp_ kl_ kc_ kb_ kv_ kw_ kt_ tl_ tn_ to_ eln_ epl_ ebg_ etk_ evl_ td_ tb_ ub_ db_ th_ it_ mnx_ mtk_ mpl_ mvl_ mfa_ tr_ hI H locs hP hD hS ls hl
      refine lv_aload_n hx hb dL_law_27 rfl (lv_at hl 3 rfl) ?_
      refine lv_iload_n hx hb dL_law_28 rfl (lv_at hl 0 rfl) ?_
      refine sl_i hx hb hX hbl hbA hS i9_ rfl (by omega) (by omega) dL_law_29 ?_
      refine lv_bipush (v := 31) hx hb dL_law_30 (by decide) ?_
      refine lv_iand hx hb dL_law_32 ?_
      obtain ⟨t, ht, et⟩ := pk_andE (xs i9_) (m := 31) 5 rfl
      refine lv_eqi (y := nI t) et ?_
      rcases (show t = 0 ∨ t = 1 ∨ t = 2 ∨ t = 3 ∨ t = 4 ∨ t = 5 ∨ t = 6 ∨ t = 7 ∨ t = 8 ∨ t = 9 ∨ t = 10 ∨ t = 11 ∨ t = 12 ∨ t = 13 ∨ t = 14 ∨ t = 15 ∨ t = 16 ∨ t = 17 ∨ t = 18 ∨ t = 19 ∨ t = 20 ∨ t = 21 ∨ t = 22 ∨ t = 23 ∨ t = 24 ∨ t = 25 ∨ t = 26 ∨ t = 27 ∨ 28 ≤ t by omega) with h | h | h | h | h | h | h | h | h | h | h | h | h | h | h | h | h | h | h | h | h | h | h | h | h | h | h | h | h
      · subst h
        refine lv_tableIn (tgt := 160) hx hb dL_law_33 (by decide) (by decide) rfl (by decide) ?_
        exact lawc_number C0 hi6 (by omega) kk xb_ ta_ tn1_ c1_ c2_ c3_ d1_ a2_ n2_ d2_ d3_ xt_ e1_ eb_ r3_ r4_ r1_ r2_ q1_ q2_ q3_ q4_ o1_ o2_ o3_ o4_ h1_ h2_ h3_ xi_ mn_ mt_ ms_ mk_ mp_ mi_ ml_ mx_ mc_ mf_ ba_ bn_ ia_ iq_ i2_ i3_ i4_ ih_ iv_ iw_ nb_ tf_ cf_ f2_ sc_ tx_ ld_ lw_ sf_ pl_ pp_ pb_ so_ ol_ oc_ ob_ vh_ wh_ ft_ sp_ cn_ fd_ kf_ kp_ kl_ kc_ kb_ kv_ kw_ kt_ tl_ tn_ to_ eln_ epl_ ebg_ etk_ evl_ td_ tb_ ub_ db_ th_ it_ mnx_ mtk_ mpl_ mvl_ mfa_ tr_ hI H locs hP hD hS ls hl
      · subst h
        refine lv_tableIn (tgt := 203) hx hb dL_law_33 (by decide) (by decide) rfl (by decide) ?_
        exact lawc_has C0 hi6 (by omega) kk xb_ ta_ tn1_ c1_ c2_ c3_ d1_ a2_ n2_ d2_ d3_ xt_ e1_ eb_ r3_ r4_ r1_ r2_ q1_ q2_ q3_ q4_ o1_ o2_ o3_ o4_ h1_ h2_ h3_ xi_ mn_ mt_ ms_ mk_ mp_ mi_ ml_ mx_ mc_ mf_ ba_ bn_ ia_ iq_ i2_ i3_ i4_ ih_ iv_ iw_ nb_ tf_ cf_ f2_ sc_ tx_ ld_ lw_ sf_ pl_ pp_ pb_ so_ ol_ oc_ ob_ vh_ wh_ ft_ sp_ cn_ fd_ kf_ kp_ kl_ kc_ kb_ kv_ kw_ kt_ tl_ tn_ to_ eln_ epl_ ebg_ etk_ evl_ td_ tb_ ub_ db_ th_ it_ mnx_ mtk_ mpl_ mvl_ mfa_ tr_ hI H locs hP hD hS ls hl
      · subst h
        refine lv_tableIn (tgt := 236) hx hb dL_law_33 (by decide) (by decide) rfl (by decide) ?_
        exact lawc_sign C0 hi6 (by omega) kk xb_ ta_ tn1_ c1_ c2_ c3_ d1_ a2_ n2_ d2_ d3_ xt_ e1_ eb_ r3_ r4_ r1_ r2_ q1_ q2_ q3_ q4_ o1_ o2_ o3_ o4_ h1_ h2_ h3_ xi_ mn_ mt_ ms_ mk_ mp_ mi_ ml_ mx_ mc_ mf_ ba_ bn_ ia_ iq_ i2_ i3_ i4_ ih_ iv_ iw_ nb_ tf_ cf_ f2_ sc_ tx_ ld_ lw_ sf_ pl_ pp_ pb_ so_ ol_ oc_ ob_ vh_ wh_ ft_ sp_ cn_ fd_ kf_ kp_ kl_ kc_ kb_ kv_ kw_ kt_ tl_ tn_ to_ eln_ epl_ ebg_ etk_ evl_ td_ tb_ ub_ db_ th_ it_ mnx_ mtk_ mpl_ mvl_ mfa_ tr_ hI H locs hP hD hS ls hl
      · subst h
        refine lv_tableIn (tgt := 300) hx hb dL_law_33 (by decide) (by decide) rfl (by decide) ?_
        exact lawc_stays C0 hi6 (by omega) kk xb_ ta_ tn1_ c1_ c2_ c3_ d1_ a2_ n2_ d2_ d3_ xt_ e1_ eb_ r3_ r4_ r1_ r2_ q1_ q2_ q3_ q4_ o1_ o2_ o3_ o4_ h1_ h2_ h3_ xi_ mn_ mt_ ms_ mk_ mp_ mi_ ml_ mx_ mc_ mf_ ba_ bn_ ia_ iq_ i2_ i3_ i4_ ih_ iv_ iw_ nb_ tf_ cf_ f2_ sc_ tx_ ld_ lw_ sf_ pl_ pp_ pb_ so_ ol_ oc_ ob_ vh_ wh_ ft_ sp_ cn_ fd_ kf_ kp_ kl_ kc_ kb_ kv_ kw_ kt_ tl_ tn_ to_ eln_ epl_ ebg_ etk_ evl_ td_ tb_ ub_ db_ th_ it_ mnx_ mtk_ mpl_ mvl_ mfa_ tr_ hI H locs hP hD hS ls hl
      · subst h
        refine lv_tableIn (tgt := 353) hx hb dL_law_33 (by decide) (by decide) rfl (by decide) ?_
        exact lawc_range C0 hi6 (by omega) kk xb_ ta_ tn1_ c1_ c2_ c3_ d1_ a2_ n2_ d2_ d3_ xt_ e1_ eb_ r3_ r4_ r1_ r2_ q1_ q2_ q3_ q4_ o1_ o2_ o3_ o4_ h1_ h2_ h3_ xi_ mn_ mt_ ms_ mk_ mp_ mi_ ml_ mx_ mc_ mf_ ba_ bn_ ia_ iq_ i2_ i3_ i4_ ih_ iv_ iw_ nb_ tf_ cf_ f2_ sc_ tx_ ld_ lw_ sf_ pl_ pp_ pb_ so_ ol_ oc_ ob_ vh_ wh_ ft_ sp_ cn_ fd_ kf_ kp_ kl_ kc_ kb_ kv_ kw_ kt_ tl_ tn_ to_ eln_ epl_ ebg_ etk_ evl_ td_ tb_ ub_ db_ th_ it_ mnx_ mtk_ mpl_ mvl_ mfa_ tr_ hI H locs hP hD hS ls hl
      · subst h
        refine lv_tableIn (tgt := 377) hx hb dL_law_33 (by decide) (by decide) rfl (by decide) ?_
        exact lawc_without C0 hi6 (by omega) kk xb_ ta_ tn1_ c1_ c2_ c3_ d1_ a2_ n2_ d2_ d3_ xt_ e1_ eb_ r3_ r4_ r1_ r2_ q1_ q2_ q3_ q4_ o1_ o2_ o3_ o4_ h1_ h2_ h3_ xi_ mn_ mt_ ms_ mk_ mp_ mi_ ml_ mx_ mc_ mf_ ba_ bn_ ia_ iq_ i2_ i3_ i4_ ih_ iv_ iw_ nb_ tf_ cf_ f2_ sc_ tx_ ld_ lw_ sf_ pl_ pp_ pb_ so_ ol_ oc_ ob_ vh_ wh_ ft_ sp_ cn_ fd_ kf_ kp_ kl_ kc_ kb_ kv_ kw_ kt_ tl_ tn_ to_ eln_ epl_ ebg_ etk_ evl_ td_ tb_ ub_ db_ th_ it_ mnx_ mtk_ mpl_ mvl_ mfa_ tr_ hI H locs hP hD hS ls hl
      · subst h
        refine lv_tableIn (tgt := 411) hx hb dL_law_33 (by decide) (by decide) rfl (by decide) ?_
        exact lawc_reason C0 hi6 (by omega) kk xb_ ta_ tn1_ c1_ c2_ c3_ d1_ a2_ n2_ d2_ d3_ xt_ e1_ eb_ r3_ r4_ r1_ r2_ q1_ q2_ q3_ q4_ o1_ o2_ o3_ o4_ h1_ h2_ h3_ xi_ mn_ mt_ ms_ mk_ mp_ mi_ ml_ mx_ mc_ mf_ ba_ bn_ ia_ iq_ i2_ i3_ i4_ ih_ iv_ iw_ nb_ tf_ cf_ f2_ sc_ tx_ ld_ lw_ sf_ pl_ pp_ pb_ so_ ol_ oc_ ob_ vh_ wh_ ft_ sp_ cn_ fd_ kf_ kp_ kl_ kc_ kb_ kv_ kw_ kt_ tl_ tn_ to_ eln_ epl_ ebg_ etk_ evl_ td_ tb_ ub_ db_ th_ it_ mnx_ mtk_ mpl_ mvl_ mfa_ tr_ hI H locs hP hD hS ls hl
      · subst h
        refine lv_tableIn (tgt := 454) hx hb dL_law_33 (by decide) (by decide) rfl (by decide) ?_
        exact lawc_moves C0 hi6 (by omega) kk xb_ ta_ tn1_ c1_ c2_ c3_ d1_ a2_ n2_ d2_ d3_ xt_ e1_ eb_ r3_ r4_ r1_ r2_ q1_ q2_ q3_ q4_ o1_ o2_ o3_ o4_ h1_ h2_ h3_ xi_ mn_ mt_ ms_ mk_ mp_ mi_ ml_ mx_ mc_ mf_ ba_ bn_ ia_ iq_ i2_ i3_ i4_ ih_ iv_ iw_ nb_ tf_ cf_ f2_ sc_ tx_ ld_ lw_ sf_ pl_ pp_ pb_ so_ ol_ oc_ ob_ vh_ wh_ ft_ sp_ cn_ fd_ kf_ kp_ kl_ kc_ kb_ kv_ kw_ kt_ tl_ tn_ to_ eln_ epl_ ebg_ etk_ evl_ td_ tb_ ub_ db_ th_ it_ mnx_ mtk_ mpl_ mvl_ mfa_ tr_ hI H locs hP hD hS ls hl
      · subst h
        refine lv_tableIn (tgt := 497) hx hb dL_law_33 (by decide) (by decide) rfl (by decide) ?_
        exact lawc_grid C0 hi6 (by omega) kk xb_ ta_ tn1_ c1_ c2_ c3_ d1_ a2_ n2_ d2_ d3_ xt_ e1_ eb_ r3_ r4_ r1_ r2_ q1_ q2_ q3_ q4_ o1_ o2_ o3_ o4_ h1_ h2_ h3_ xi_ mn_ mt_ ms_ mk_ mp_ mi_ ml_ mx_ mc_ mf_ ba_ bn_ ia_ iq_ i2_ i3_ i4_ ih_ iv_ iw_ nb_ tf_ cf_ f2_ sc_ tx_ ld_ lw_ sf_ pl_ pp_ pb_ so_ ol_ oc_ ob_ vh_ wh_ ft_ sp_ cn_ fd_ kf_ kp_ kl_ kc_ kb_ kv_ kw_ kt_ tl_ tn_ to_ eln_ epl_ ebg_ etk_ evl_ td_ tb_ ub_ db_ th_ it_ mnx_ mtk_ mpl_ mvl_ mfa_ tr_ hI H locs hP hD hS ls hl
      · subst h
        refine lv_tableIn (tgt := 550) hx hb dL_law_33 (by decide) (by decide) rfl (by decide) ?_
        exact lawc_least C0 hi6 (by omega) kk xb_ ta_ tn1_ c1_ c2_ c3_ d1_ a2_ n2_ d2_ d3_ xt_ e1_ eb_ r3_ r4_ r1_ r2_ q1_ q2_ q3_ q4_ o1_ o2_ o3_ o4_ h1_ h2_ h3_ xi_ mn_ mt_ ms_ mk_ mp_ mi_ ml_ mx_ mc_ mf_ ba_ bn_ ia_ iq_ i2_ i3_ i4_ ih_ iv_ iw_ nb_ tf_ cf_ f2_ sc_ tx_ ld_ lw_ sf_ pl_ pp_ pb_ so_ ol_ oc_ ob_ vh_ wh_ ft_ sp_ cn_ fd_ kf_ kp_ kl_ kc_ kb_ kv_ kw_ kt_ tl_ tn_ to_ eln_ epl_ ebg_ etk_ evl_ td_ tb_ ub_ db_ th_ it_ mnx_ mtk_ mpl_ mvl_ mfa_ tr_ hI H locs hP hD hS ls hl
      · subst h
        refine lv_tableIn (tgt := 593) hx hb dL_law_33 (by decide) (by decide) rfl (by decide) ?_
        exact lawc_spread C0 hi6 (by omega) kk xb_ ta_ tn1_ c1_ c2_ c3_ d1_ a2_ n2_ d2_ d3_ xt_ e1_ eb_ r3_ r4_ r1_ r2_ q1_ q2_ q3_ q4_ o1_ o2_ o3_ o4_ h1_ h2_ h3_ xi_ mn_ mt_ ms_ mk_ mp_ mi_ ml_ mx_ mc_ mf_ ba_ bn_ ia_ iq_ i2_ i3_ i4_ ih_ iv_ iw_ nb_ tf_ cf_ f2_ sc_ tx_ ld_ lw_ sf_ pl_ pp_ pb_ so_ ol_ oc_ ob_ vh_ wh_ ft_ sp_ cn_ fd_ kf_ kp_ kl_ kc_ kb_ kv_ kw_ kt_ tl_ tn_ to_ eln_ epl_ ebg_ etk_ evl_ td_ tb_ ub_ db_ th_ it_ mnx_ mtk_ mpl_ mvl_ mfa_ tr_ hI H locs hP hD hS ls hl
      · subst h
        refine lv_tableIn (tgt := 626) hx hb dL_law_33 (by decide) (by decide) rfl (by decide) ?_
        exact lawc_fewest C0 hi6 (by omega) kk xb_ ta_ tn1_ c1_ c2_ c3_ d1_ a2_ n2_ d2_ d3_ xt_ e1_ eb_ r3_ r4_ r1_ r2_ q1_ q2_ q3_ q4_ o1_ o2_ o3_ o4_ h1_ h2_ h3_ xi_ mn_ mt_ ms_ mk_ mp_ mi_ ml_ mx_ mc_ mf_ ba_ bn_ ia_ iq_ i2_ i3_ i4_ ih_ iv_ iw_ nb_ tf_ cf_ f2_ sc_ tx_ ld_ lw_ sf_ pl_ pp_ pb_ so_ ol_ oc_ ob_ vh_ wh_ ft_ sp_ cn_ fd_ kf_ kp_ kl_ kc_ kb_ kv_ kw_ kt_ tl_ tn_ to_ eln_ epl_ ebg_ etk_ evl_ td_ tb_ ub_ db_ th_ it_ mnx_ mtk_ mpl_ mvl_ mfa_ tr_ hI H locs hP hD hS ls hl
      · subst h
        refine lv_tableIn (tgt := 669) hx hb dL_law_33 (by decide) (by decide) rfl (by decide) ?_
        exact lawc_type C0 hi6 (by omega) kk xb_ ta_ tn1_ c1_ c2_ c3_ d1_ a2_ n2_ d2_ d3_ xt_ e1_ eb_ r3_ r4_ r1_ r2_ q1_ q2_ q3_ q4_ o1_ o2_ o3_ o4_ h1_ h2_ h3_ xi_ mn_ mt_ ms_ mk_ mp_ mi_ ml_ mx_ mc_ mf_ ba_ bn_ ia_ iq_ i2_ i3_ i4_ ih_ iv_ iw_ nb_ tf_ cf_ f2_ sc_ tx_ ld_ lw_ sf_ pl_ pp_ pb_ so_ ol_ oc_ ob_ vh_ wh_ ft_ sp_ cn_ fd_ kf_ kp_ kl_ kc_ kb_ kv_ kw_ kt_ tl_ tn_ to_ eln_ epl_ ebg_ etk_ evl_ td_ tb_ ub_ db_ th_ it_ mnx_ mtk_ mpl_ mvl_ mfa_ tr_ hI H locs hP hD hS ls hl
      · subst h
        refine lv_tableIn (tgt := 732) hx hb dL_law_33 (by decide) (by decide) rfl (by decide) ?_
        exact lawc_clear C0 hi6 (by omega) kk xb_ ta_ tn1_ c1_ c2_ c3_ d1_ a2_ n2_ d2_ d3_ xt_ e1_ eb_ r3_ r4_ r1_ r2_ q1_ q2_ q3_ q4_ o1_ o2_ o3_ o4_ h1_ h2_ h3_ xi_ mn_ mt_ ms_ mk_ mp_ mi_ ml_ mx_ mc_ mf_ ba_ bn_ ia_ iq_ i2_ i3_ i4_ ih_ iv_ iw_ nb_ tf_ cf_ f2_ sc_ tx_ ld_ lw_ sf_ pl_ pp_ pb_ so_ ol_ oc_ ob_ vh_ wh_ ft_ sp_ cn_ fd_ kf_ kp_ kl_ kc_ kb_ kv_ kw_ kt_ tl_ tn_ to_ eln_ epl_ ebg_ etk_ evl_ td_ tb_ ub_ db_ th_ it_ mnx_ mtk_ mpl_ mvl_ mfa_ tr_ hI H locs hP hD hS ls hl
      · subst h
        refine lv_tableIn (tgt := 745) hx hb dL_law_33 (by decide) (by decide) rfl (by decide) ?_
        exact lawc_rider C0 hi6 (by omega) kk xb_ ta_ tn1_ c1_ c2_ c3_ d1_ a2_ n2_ d2_ d3_ xt_ e1_ eb_ r3_ r4_ r1_ r2_ q1_ q2_ q3_ q4_ o1_ o2_ o3_ o4_ h1_ h2_ h3_ xi_ mn_ mt_ ms_ mk_ mp_ mi_ ml_ mx_ mc_ mf_ ba_ bn_ ia_ iq_ i2_ i3_ i4_ ih_ iv_ iw_ nb_ tf_ cf_ f2_ sc_ tx_ ld_ lw_ sf_ pl_ pp_ pb_ so_ ol_ oc_ ob_ vh_ wh_ ft_ sp_ cn_ fd_ kf_ kp_ kl_ kc_ kb_ kv_ kw_ kt_ tl_ tn_ to_ eln_ epl_ ebg_ etk_ evl_ td_ tb_ ub_ db_ th_ it_ mnx_ mtk_ mpl_ mvl_ mfa_ tr_ hI H locs hP hD hS ls hl
      · subst h
        refine lv_tableIn (tgt := 758) hx hb dL_law_33 (by decide) (by decide) rfl (by decide) ?_
        exact lawc_ride C0 hi6 (by omega) kk xb_ ta_ tn1_ c1_ c2_ c3_ d1_ a2_ n2_ d2_ d3_ xt_ e1_ eb_ r3_ r4_ r1_ r2_ q1_ q2_ q3_ q4_ o1_ o2_ o3_ o4_ h1_ h2_ h3_ xi_ mn_ mt_ ms_ mk_ mp_ mi_ ml_ mx_ mc_ mf_ ba_ bn_ ia_ iq_ i2_ i3_ i4_ ih_ iv_ iw_ nb_ tf_ cf_ f2_ sc_ tx_ ld_ lw_ sf_ pl_ pp_ pb_ so_ ol_ oc_ ob_ vh_ wh_ ft_ sp_ cn_ fd_ kf_ kp_ kl_ kc_ kb_ kv_ kw_ kt_ tl_ tn_ to_ eln_ epl_ ebg_ etk_ evl_ td_ tb_ ub_ db_ th_ it_ mnx_ mtk_ mpl_ mvl_ mfa_ tr_ hI H locs hP hD hS ls hl
      · subst h
        refine lv_tableIn (tgt := 801) hx hb dL_law_33 (by decide) (by decide) rfl (by decide) ?_
        exact lawc_push C0 hi6 (by omega) kk xb_ ta_ tn1_ c1_ c2_ c3_ d1_ a2_ n2_ d2_ d3_ xt_ e1_ eb_ r3_ r4_ r1_ r2_ q1_ q2_ q3_ q4_ o1_ o2_ o3_ o4_ h1_ h2_ h3_ xi_ mn_ mt_ ms_ mk_ mp_ mi_ ml_ mx_ mc_ mf_ ba_ bn_ ia_ iq_ i2_ i3_ i4_ ih_ iv_ iw_ nb_ tf_ cf_ f2_ sc_ tx_ ld_ lw_ sf_ pl_ pp_ pb_ so_ ol_ oc_ ob_ vh_ wh_ ft_ sp_ cn_ fd_ kf_ kp_ kl_ kc_ kb_ kv_ kw_ kt_ tl_ tn_ to_ eln_ epl_ ebg_ etk_ evl_ td_ tb_ ub_ db_ th_ it_ mnx_ mtk_ mpl_ mvl_ mfa_ tr_ hI H locs hP hD hS ls hl
      · subst h
        refine lv_tableIn (tgt := 824) hx hb dL_law_33 (by decide) (by decide) rfl (by decide) ?_
        exact lawc_ticks C0 hi6 (by omega) kk xb_ ta_ tn1_ c1_ c2_ c3_ d1_ a2_ n2_ d2_ d3_ xt_ e1_ eb_ r3_ r4_ r1_ r2_ q1_ q2_ q3_ q4_ o1_ o2_ o3_ o4_ h1_ h2_ h3_ xi_ mn_ mt_ ms_ mk_ mp_ mi_ ml_ mx_ mc_ mf_ ba_ bn_ ia_ iq_ i2_ i3_ i4_ ih_ iv_ iw_ nb_ tf_ cf_ f2_ sc_ tx_ ld_ lw_ sf_ pl_ pp_ pb_ so_ ol_ oc_ ob_ vh_ wh_ ft_ sp_ cn_ fd_ kf_ kp_ kl_ kc_ kb_ kv_ kw_ kt_ tl_ tn_ to_ eln_ epl_ ebg_ etk_ evl_ td_ tb_ ub_ db_ th_ it_ mnx_ mtk_ mpl_ mvl_ mfa_ tr_ hI H locs hP hD hS ls hl
      · subst h
        refine lv_tableIn (tgt := 847) hx hb dL_law_33 (by decide) (by decide) rfl (by decide) ?_
        exact lawc_at C0 hi6 (by omega) kk xb_ ta_ tn1_ c1_ c2_ c3_ d1_ a2_ n2_ d2_ d3_ xt_ e1_ eb_ r3_ r4_ r1_ r2_ q1_ q2_ q3_ q4_ o1_ o2_ o3_ o4_ h1_ h2_ h3_ xi_ mn_ mt_ ms_ mk_ mp_ mi_ ml_ mx_ mc_ mf_ ba_ bn_ ia_ iq_ i2_ i3_ i4_ ih_ iv_ iw_ nb_ tf_ cf_ f2_ sc_ tx_ ld_ lw_ sf_ pl_ pp_ pb_ so_ ol_ oc_ ob_ vh_ wh_ ft_ sp_ cn_ fd_ kf_ kp_ kl_ kc_ kb_ kv_ kw_ kt_ tl_ tn_ to_ eln_ epl_ ebg_ etk_ evl_ td_ tb_ ub_ db_ th_ it_ mnx_ mtk_ mpl_ mvl_ mfa_ tr_ hI H locs hP hD hS ls hl
      · subst h
        refine lv_tableIn (tgt := 870) hx hb dL_law_33 (by decide) (by decide) rfl (by decide) ?_
        exact lawc_bears C0 hi6 (by omega) kk xb_ ta_ tn1_ c1_ c2_ c3_ d1_ a2_ n2_ d2_ d3_ xt_ e1_ eb_ r3_ r4_ r1_ r2_ q1_ q2_ q3_ q4_ o1_ o2_ o3_ o4_ h1_ h2_ h3_ xi_ mn_ mt_ ms_ mk_ mp_ mi_ ml_ mx_ mc_ mf_ ba_ bn_ ia_ iq_ i2_ i3_ i4_ ih_ iv_ iw_ nb_ tf_ cf_ f2_ sc_ tx_ ld_ lw_ sf_ pl_ pp_ pb_ so_ ol_ oc_ ob_ vh_ wh_ ft_ sp_ cn_ fd_ kf_ kp_ kl_ kc_ kb_ kv_ kw_ kt_ tl_ tn_ to_ eln_ epl_ ebg_ etk_ evl_ td_ tb_ ub_ db_ th_ it_ mnx_ mtk_ mpl_ mvl_ mfa_ tr_ hI H locs hP hD hS ls hl
      · subst h
        refine lv_tableIn (tgt := 893) hx hb dL_law_33 (by decide) (by decide) rfl (by decide) ?_
        exact lawc_weeks C0 hi6 (by omega) kk xb_ ta_ tn1_ c1_ c2_ c3_ d1_ a2_ n2_ d2_ d3_ xt_ e1_ eb_ r3_ r4_ r1_ r2_ q1_ q2_ q3_ q4_ o1_ o2_ o3_ o4_ h1_ h2_ h3_ xi_ mn_ mt_ ms_ mk_ mp_ mi_ ml_ mx_ mc_ mf_ ba_ bn_ ia_ iq_ i2_ i3_ i4_ ih_ iv_ iw_ nb_ tf_ cf_ f2_ sc_ tx_ ld_ lw_ sf_ pl_ pp_ pb_ so_ ol_ oc_ ob_ vh_ wh_ ft_ sp_ cn_ fd_ kf_ kp_ kl_ kc_ kb_ kv_ kw_ kt_ tl_ tn_ to_ eln_ epl_ ebg_ etk_ evl_ td_ tb_ ub_ db_ th_ it_ mnx_ mtk_ mpl_ mvl_ mfa_ tr_ hI H locs hP hD hS ls hl
      · subst h
        refine lv_tableIn (tgt := 926) hx hb dL_law_33 (by decide) (by decide) rfl (by decide) ?_
        exact lawc_tune C0 hi6 (by omega) kk xb_ ta_ tn1_ c1_ c2_ c3_ d1_ a2_ n2_ d2_ d3_ xt_ e1_ eb_ r3_ r4_ r1_ r2_ q1_ q2_ q3_ q4_ o1_ o2_ o3_ o4_ h1_ h2_ h3_ xi_ mn_ mt_ ms_ mk_ mp_ mi_ ml_ mx_ mc_ mf_ ba_ bn_ ia_ iq_ i2_ i3_ i4_ ih_ iv_ iw_ nb_ tf_ cf_ f2_ sc_ tx_ ld_ lw_ sf_ pl_ pp_ pb_ so_ ol_ oc_ ob_ vh_ wh_ ft_ sp_ cn_ fd_ kf_ kp_ kl_ kc_ kb_ kv_ kw_ kt_ tl_ tn_ to_ eln_ epl_ ebg_ etk_ evl_ td_ tb_ ub_ db_ th_ it_ mnx_ mtk_ mpl_ mvl_ mfa_ tr_ hI H locs hP hD hS ls hl
      · subst h
        refine lv_tableIn (tgt := 959) hx hb dL_law_33 (by decide) (by decide) rfl (by decide) ?_
        exact lawc_habit C0 hi6 (by omega) kk xb_ ta_ tn1_ c1_ c2_ c3_ d1_ a2_ n2_ d2_ d3_ xt_ e1_ eb_ r3_ r4_ r1_ r2_ q1_ q2_ q3_ q4_ o1_ o2_ o3_ o4_ h1_ h2_ h3_ xi_ mn_ mt_ ms_ mk_ mp_ mi_ ml_ mx_ mc_ mf_ ba_ bn_ ia_ iq_ i2_ i3_ i4_ ih_ iv_ iw_ nb_ tf_ cf_ f2_ sc_ tx_ ld_ lw_ sf_ pl_ pp_ pb_ so_ ol_ oc_ ob_ vh_ wh_ ft_ sp_ cn_ fd_ kf_ kp_ kl_ kc_ kb_ kv_ kw_ kt_ tl_ tn_ to_ eln_ epl_ ebg_ etk_ evl_ td_ tb_ ub_ db_ th_ it_ mnx_ mtk_ mpl_ mvl_ mfa_ tr_ hI H locs hP hD hS ls hl
      · subst h
        refine lv_tableIn (tgt := 992) hx hb dL_law_33 (by decide) (by decide) rfl (by decide) ?_
        exact lawc_score C0 hi6 (by omega) kk xb_ ta_ tn1_ c1_ c2_ c3_ d1_ a2_ n2_ d2_ d3_ xt_ e1_ eb_ r3_ r4_ r1_ r2_ q1_ q2_ q3_ q4_ o1_ o2_ o3_ o4_ h1_ h2_ h3_ xi_ mn_ mt_ ms_ mk_ mp_ mi_ ml_ mx_ mc_ mf_ ba_ bn_ ia_ iq_ i2_ i3_ i4_ ih_ iv_ iw_ nb_ tf_ cf_ f2_ sc_ tx_ ld_ lw_ sf_ pl_ pp_ pb_ so_ ol_ oc_ ob_ vh_ wh_ ft_ sp_ cn_ fd_ kf_ kp_ kl_ kc_ kb_ kv_ kw_ kt_ tl_ tn_ to_ eln_ epl_ ebg_ etk_ evl_ td_ tb_ ub_ db_ th_ it_ mnx_ mtk_ mpl_ mvl_ mfa_ tr_ hI H locs hP hD hS ls hl
      · subst h
        refine lv_tableIn (tgt := 1025) hx hb dL_law_33 (by decide) (by decide) rfl (by decide) ?_
        exact lawc_keep C0 hi6 (by omega) kk xb_ ta_ tn1_ c1_ c2_ c3_ d1_ a2_ n2_ d2_ d3_ xt_ e1_ eb_ r3_ r4_ r1_ r2_ q1_ q2_ q3_ q4_ o1_ o2_ o3_ o4_ h1_ h2_ h3_ xi_ mn_ mt_ ms_ mk_ mp_ mi_ ml_ mx_ mc_ mf_ ba_ bn_ ia_ iq_ i2_ i3_ i4_ ih_ iv_ iw_ nb_ tf_ cf_ f2_ sc_ tx_ ld_ lw_ sf_ pl_ pp_ pb_ so_ ol_ oc_ ob_ vh_ wh_ ft_ sp_ cn_ fd_ kf_ kp_ kl_ kc_ kb_ kv_ kw_ kt_ tl_ tn_ to_ eln_ epl_ ebg_ etk_ evl_ td_ tb_ ub_ db_ th_ it_ mnx_ mtk_ mpl_ mvl_ mfa_ tr_ hI H locs hP hD hS ls hl
      · subst h
        refine lv_tableIn (tgt := 1048) hx hb dL_law_33 (by decide) (by decide) rfl (by decide) ?_
        exact lawc_back C0 hi6 (by omega) kk xb_ ta_ tn1_ c1_ c2_ c3_ d1_ a2_ n2_ d2_ d3_ xt_ e1_ eb_ r3_ r4_ r1_ r2_ q1_ q2_ q3_ q4_ o1_ o2_ o3_ o4_ h1_ h2_ h3_ xi_ mn_ mt_ ms_ mk_ mp_ mi_ ml_ mx_ mc_ mf_ ba_ bn_ ia_ iq_ i2_ i3_ i4_ ih_ iv_ iw_ nb_ tf_ cf_ f2_ sc_ tx_ ld_ lw_ sf_ pl_ pp_ pb_ so_ ol_ oc_ ob_ vh_ wh_ ft_ sp_ cn_ fd_ kf_ kp_ kl_ kc_ kb_ kv_ kw_ kt_ tl_ tn_ to_ eln_ epl_ ebg_ etk_ evl_ td_ tb_ ub_ db_ th_ it_ mnx_ mtk_ mpl_ mvl_ mfa_ tr_ hI H locs hP hD hS ls hl
      · subst h
        refine lv_tableIn (tgt := 1071) hx hb dL_law_33 (by decide) (by decide) rfl (by decide) ?_
        exact lawc_count C0 hi6 (by omega) kk xb_ ta_ tn1_ c1_ c2_ c3_ d1_ a2_ n2_ d2_ d3_ xt_ e1_ eb_ r3_ r4_ r1_ r2_ q1_ q2_ q3_ q4_ o1_ o2_ o3_ o4_ h1_ h2_ h3_ xi_ mn_ mt_ ms_ mk_ mp_ mi_ ml_ mx_ mc_ mf_ ba_ bn_ ia_ iq_ i2_ i3_ i4_ ih_ iv_ iw_ nb_ tf_ cf_ f2_ sc_ tx_ ld_ lw_ sf_ pl_ pp_ pb_ so_ ol_ oc_ ob_ vh_ wh_ ft_ sp_ cn_ fd_ kf_ kp_ kl_ kc_ kb_ kv_ kw_ kt_ tl_ tn_ to_ eln_ epl_ ebg_ etk_ evl_ td_ tb_ ub_ db_ th_ it_ mnx_ mtk_ mpl_ mvl_ mfa_ tr_ hI H locs hP hD hS ls hl
      · subst h
        refine lv_tableIn (tgt := 1094) hx hb dL_law_33 (by decide) (by decide) rfl (by decide) ?_
        exact lawc_trace C0 hi6 (by omega) kk xb_ ta_ tn1_ c1_ c2_ c3_ d1_ a2_ n2_ d2_ d3_ xt_ e1_ eb_ r3_ r4_ r1_ r2_ q1_ q2_ q3_ q4_ o1_ o2_ o3_ o4_ h1_ h2_ h3_ xi_ mn_ mt_ ms_ mk_ mp_ mi_ ml_ mx_ mc_ mf_ ba_ bn_ ia_ iq_ i2_ i3_ i4_ ih_ iv_ iw_ nb_ tf_ cf_ f2_ sc_ tx_ ld_ lw_ sf_ pl_ pp_ pb_ so_ ol_ oc_ ob_ vh_ wh_ ft_ sp_ cn_ fd_ kf_ kp_ kl_ kc_ kb_ kv_ kw_ kt_ tl_ tn_ to_ eln_ epl_ ebg_ etk_ evl_ td_ tb_ ub_ db_ th_ it_ mnx_ mtk_ mpl_ mvl_ mfa_ tr_ hI H locs hP hD hS ls hl
      · refine lv_tableOut (tgt := 1108) hx hb dL_law_33 (Or.inr (by rw [nI_toInt (by omega)]; omega)) (by decide) ?_
        exact kk xb_ ta_ tn1_ c1_ c2_ c3_ d1_ a2_ n2_ d2_ d3_ xt_ e1_ eb_ r3_ r4_ r1_ r2_ q1_ q2_ q3_ q4_ o1_ o2_ o3_ o4_ h1_ h2_ h3_ xi_ mn_ mt_ ms_ mk_ mp_ mi_ ml_ mx_ mc_ mf_ ba_ bn_ ia_ iq_ i2_ i3_ i4_ ih_ iv_ iw_ nb_ tf_ cf_ f2_ sc_ tx_ ld_ lw_ sf_ pl_ pp_ pb_ so_ ol_ oc_ ob_ vh_ wh_ ft_ sp_ cn_ fd_ kf_ kp_ kl_ kc_ kb_ kv_ kw_ kt_ tl_ tn_ to_ eln_ epl_ ebg_ etk_ evl_ td_ tb_ ub_ db_ th_ it_ mnx_ mtk_ mpl_ mvl_ mfa_ tr_ (INV_s hI) H locs hP hD hS ls hl
