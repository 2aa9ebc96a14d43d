/-! the law: what stays true between class and reference from call to call -/
def RIDE (sf : Nat → Int32) (tn : Nat) (pl pp pb : Nat → Int32) (j : Nat) : Prop := (∃ i, i < 4 ∧ sf 0 = nI i) ∧ sf 7 = nI tn ∧ tn ≤ 200 * j ∧ (sf 8 = 0 ∨ sf 8 = 1) ∧ (sf 2 = 0 ∨ sf 2 = 1) ∧ histOK sf tn pl pp pb
def LAWOK (lw : Nat → Int32) : Prop := (∃ d, d ≤ 5 ∧ lw 3 = nI d) ∧ inR (lw 4) 0 1000000
theorem RIDE.s {sf pl pp pb : Nat → Int32} {tn j : Nat} (h : RIDE sf tn pl pp pb j) : RIDE sf tn pl pp pb (j + 1) := by
  obtain ⟨h0, h1, h2, h3⟩ := h
  exact ⟨h0, h1, by omega, h3⟩
theorem hist_ext {sf sg pl pp pb : Nat → Int32} {tn : Nat} (e : ∀ z, 10 ≤ z → z < 25 → sg z = sf z) (h : histOK sf tn pl pp pb) : histOK sg tn pl pp pb := fun j h1 h5 => by
  rw [e (10 + 3 * (j - 1)) (by omega) (by omega), e (10 + 3 * (j - 1) + 1) (by omega) (by omega), e (10 + 3 * (j - 1) + 2) (by omega) (by omega)]
  exact h j h1 h5
theorem RIDE.ext {sf sg pl pp pb : Nat → Int32} {tn j : Nat} (h : RIDE sf tn pl pp pb j) (e : ∀ z, z < 25 → sg z = sf z) : RIDE sg tn pl pp pb j := by
  obtain ⟨h0, h1, h2, h3, h4, h5⟩ := h
  refine ⟨by rw [e 0 (by decide)]; exact h0, by rw [e 7 (by decide)]; exact h1, h2, by rw [e 8 (by decide)]; exact h3, by rw [e 2 (by decide)]; exact h4, hist_ext (fun z _ hz => e z hz) h5⟩
theorem HB.ext {sf sg hv hw : Nat → Int32} (h : HB sf hv hw) (e : ∀ z, 25 ≤ z → sg z = sf z) : HB sg hv hw := fun z hz => by
  rw [e (25 + z) (by omega), e (27 + z) (by omega)]
  exact h z hz
theorem small_0 {x : Int32} {hi : Int} (h : smallI x 1 hi) : smallI x 0 hi := ⟨by have := h.1; omega, h.2⟩
theorem small_ne {x : Int32} {hi : Int} (h : smallI x 1 hi) : ¬ x = 0 := fun e => by have := h.1; rw [e, show (0 : Int32).toInt = 0 from rfl] at this; omega
theorem RIDE.ride {sf pl pp pb : Nat → Int32} {tn j : Nat} (h : RIDE sf tn pl pp pb j) (i v r : Int32) : RIDE (n_ride sf i v r) (rdT tn i v r) pl pp pb (j + 1) := by
  unfold n_ride rdT
  by_cases hok : okRide i v r
  · rw [if_pos hok, if_pos hok]
    obtain ⟨a, ha, ea⟩ := inR_n 3 (by decide) rfl hok.1
    obtain ⟨b, hb, eb⟩ := inR_n 1 (by decide) rfl hok.2.2
    refine ⟨⟨a, by omega, ea⟩, setF_mid _ _ _ _ (by decide) (by decide), Nat.zero_le _, Or.inl (setF_mid _ _ _ _ (by decide) (by decide)), ?_, fun j h1 h5 => ⟨fun z => by omega, fun _ => ⟨setF_mid _ _ _ _ (by omega) (by omega), setF_mid _ _ _ _ (by omega) (by omega), setF_mid _ _ _ _ (by omega) (by omega)⟩⟩⟩
    show r = 0 ∨ r = 1
    rw [eb]
    rcases (show b = 0 ∨ b = 1 by omega) with q | q <;> subst q
    · exact Or.inl rfl
    · exact Or.inr rfl
  · rw [if_neg hok, if_neg hok]; exact h.s
theorem HB.ride {sf hv hw : Nat → Int32} (h : HB sf hv hw) (i v r : Int32) : HB (n_ride sf i v r) hv hw := by
  unfold n_ride
  split
  · exact h.ext (fun z hz => setF_hi _ _ _ _ hz)
  · exact h
theorem RIDE.push {sf pl pp pb : Nat → Int32} {tn j : Nat} (h : RIDE sf tn pl pp pb j) (b : Int32) : RIDE (n_push sf b) tn pl pp pb (j + 1) := by
  unfold n_push
  split
  · obtain ⟨h0, h1, h2, h3, h4, h5⟩ := h
    exact ⟨h0, h1, by omega, bI_01 _, h4, hist_ext (fun z h1 _ => by rw [upd_ne _ _ (by omega), upd_ne _ _ (by omega)]) h5⟩
  · exact h.s
theorem HB.push {sf hv hw : Nat → Int32} (h : HB sf hv hw) (b : Int32) : HB (n_push sf b) hv hw := by
  unfold n_push
  split
  · exact h.ext (fun z hz => by rw [upd_ne _ _ (by omega), upd_ne _ _ (by omega)])
  · exact h
theorem tks_keep (f lw : Nat → Int32) (d : Nat) {z : Nat} (hz : z = 0 ∨ 25 ≤ z) : ∀ (n : Nat) (sf : Nat → Int32) (c : Nat), (tks f lw d n sf c).2 z = sf z
  | 0, _, _ => rfl
  | n + 1, sf, c => by
    unfold tks
    split
    · rw [tks_keep f lw d hz n]
      rcases hz with e | e
      · subst e; exact tickF_0 _ _ _ _
      · exact tickF_hi _ _ _ _ e
    · rfl
theorem ticks_keep (f lw sf : Nat → Int32) (d : Nat) (n : Int32) {z : Nat} (hz : z = 0 ∨ 25 ≤ z) : n_ticks f lw sf d n z = sf z := by
  unfold n_ticks
  split
  · split
    · rfl
    · exact tks_keep _ _ _ hz _ _ _
  · rfl
theorem ticks_8 (f lw sf : Nat → Int32) (d : Nat) (n : Int32) (h : sf 8 = 0 ∨ sf 8 = 1) : n_ticks f lw sf d n 8 = 0 ∨ n_ticks f lw sf d n 8 = 1 := by
  unfold n_ticks
  split
  · split
    · exact h
    · exact tks8 _ _ _ _ _ _ h
  · exact h
theorem RIDE.ticks {f lw sf pl pp pb pl2 pp2 pb2 : Nat → Int32} {tn tn2 j d : Nat} {n : Int32} (h : RIDE sf tn pl pp pb j) (t2 : tn2 ≤ tn + 200) (h7 : n_ticks f lw sf d n 7 = nI tn2) (hh : histOK (n_ticks f lw sf d n) tn2 pl2 pp2 pb2) (h2 : n_ticks f lw sf d n 2 = sf 2) : RIDE (n_ticks f lw sf d n) tn2 pl2 pp2 pb2 (j + 1) := by
  obtain ⟨g0, g1, g2, g3, g4, g5⟩ := h
  exact ⟨by rw [ticks_keep _ _ _ _ _ (Or.inl rfl)]; exact g0, h7, by omega, ticks_8 _ _ _ _ _ g3, by rw [h2]; exact g4, hh⟩
theorem okF_number {nb : Nat → Nat → Int32} (h : ∀ i, i < 4 → okF (nb i)) (i k v : Int32) : ∀ a, a < 4 → okF (n_number nb i k v a) := by
  unfold n_number
  by_cases hok : okNum i k v
  · rw [if_pos hok]
    obtain ⟨b, hb, eb⟩ := inR_n 5 (by decide) rfl hok.2.1
    intro a ha q hq
    unfold up2
    by_cases e : a = i.toNatClampNeg ∧ q = k.toNatClampNeg
    · rw [if_pos e]
      have e2 : q = b := by rw [e.2, eb]; exact cl_n (by omega)
      rw [e2, ← eb]; exact hok.2.2
    · rw [if_neg e]; exact h a ha q hq
  · rw [if_neg hok]; exact h
theorem tune_u {ub w v : Int32} (h : smallI ub 1 50) : smallI (n_ub ub w v) 1 50 := by
  unfold n_ub
  split
  · rename_i hok
    split
    · rename_i e
      have h2 := inR_int hok.2
      rw [e, show bI ((0 : Int32) = 0) = 1 from rfl, show (1 : Int32).toInt = 1 from rfl, show (50 : Int32).toInt = 50 from rfl] at h2
      exact h2
    · exact h
  · exact h
theorem tune_d {db w v : Int32} (h : smallI db 0 50) : smallI (n_db db w v) 0 50 := by
  unfold n_db
  split
  · rename_i hok
    split
    · rename_i e
      have h2 := inR_int hok.2
      rw [e, show bI ((1 : Int32) = 0) = 0 from rfl, show (0 : Int32).toInt = 0 from rfl, show (50 : Int32).toInt = 50 from rfl] at h2
      exact h2
    · exact h
  · exact h
-- the text
theorem l_of (x : Int64) : ∃ n, x = lN n := ⟨x.toBitVec.toNat, by
  apply Int64.toBitVec_inj.1
  show x.toBitVec = BitVec.ofNat 64 x.toBitVec.toNat
  rw [BitVec.ofNat_toNat, BitVec.setWidth_eq]⟩
theorem byV_nn (v : Int64) (k : Nat) : ¬ byV v k < 0 := by
  unfold byV
  obtain ⟨n, e⟩ := l_of (v >>> ((nI (8 * k)).toInt64 &&& 63))
  rw [e, show (255 : Int64) = lN (2 ^ 8 - 1) from rfl, fb_andL, Nat.and_two_pow_sub_one_eq_mod, lN_i]
  exact nI_pos (by have := Nat.mod_lt n (show 0 < 2 ^ 8 by decide); omega)
theorem tx_type {tx : Nat → Int32} {tl : Nat} (h : ∀ k, k < 200 → ¬ tx k < 0) (v : Int64) (n : Int32) : ∀ k, k < 200 → ¬ n_tx tx tl v n k < 0 := by
  unfold n_tx
  split
  · intro k hk
    unfold tyF
    split
    · exact byV_nn _ _
    · exact h k hk
  · exact h
theorem tl_type {tl : Nat} (h : tl ≤ 200) (n : Int32) : n_tn tl n ≤ 200 := by
  unfold n_tn
  split
  · rename_i hok; exact hok.2
  · exact h
theorem tl_rider {tx : Nat → Int32} {tl : Nat} (h : tl ≤ 200) : n_tl tx tl ≤ 200 := by
  unfold n_tl
  split
  · exact Nat.zero_le _
  · exact h
theorem it_rider {tx : Nat → Int32} {tl : Nat} {tb it : Int32} (h : it = pc32 tb) : n_it tx tl it = pc32 (n_told tx tl tb) := by
  unfold n_it n_told
  split
  · rfl
  · exact h
theorem tbV_n {tx : Nat → Int32} {n b : Nat} (h : tbK tx n b = 3) : ∃ v, v ≤ 999 ∧ tbV tx n b = nI v := by
  unfold tbK at h
  split at h
  · split at h
    · rcases wv_or (tx := tx) (b := b) (e := sp isL tx n b) 5 0 0 with ⟨q, -, -⟩ | ⟨q, -⟩
      · rw [q] at h; exact absurd h (by decide)
      · rw [q] at h; exact absurd h (by decide)
    · rename_i hl
      split at h
      · obtain ⟨c, hc⟩ := dig_nat (tx := tx) (n := n) (b := b)
        unfold tbV
        rw [if_neg hl]
        rcases am_eq (sp isD tx n b - b) hc with ⟨v, hv, e1, -⟩ | ⟨e1, -⟩
        · exact ⟨v, hv, e1⟩
        · unfold amT at h
          rw [e1] at h
          split at h
          · exact absurd h (by decide)
          · exact absurd h (by decide)
      · split at h
        · exact absurd h (by decide)
        · split at h <;> exact absurd h (by decide)
  · exact absurd h (by decide)
theorem it_law {tx lw : Nat → Int32} {n p : Nat} {tb : Int32} (h : itF tx n p tb = none) (hl : LAWOK lw) : LAWOK (upd lw (itI tx n p) (itA tx n p)) := by
  obtain ⟨⟨h1, -⟩, ⟨h2, h3⟩, -⟩ := itF_ok h
  obtain ⟨i, hi, e⟩ := tkV_w h1
  have eI := itI_of e hi
  obtain ⟨v, hv, ev⟩ := tbV_n h2
  have ev2 : tkV tx n (it2 tx n p) = nI v := ev
  rw [ev2, eI] at h3
  rw [eI]
  have hA : 3 ≤ i → itA tx n p = nI v := fun h => by
    unfold itA
    rw [if_neg (fun z => by have z2 := z.2; rw [eI] at z2; exact absurd h ((sml_r i hi).mp z2)), ev2]
  refine ⟨?_, ?_⟩
  · by_cases h3i : i = 3
    · subst h3i
      rw [upd_at, hA (by omega)]
      exact ⟨v, (nI_leI (b := 5) (by omega) (by decide)).mp h3, rfl⟩
    · rw [upd_ne _ _ (by omega)]; exact hl.1
  · by_cases h4 : i = 4
    · subst h4
      rw [upd_at, hA (by omega)]
      exact ⟨nI_pos (by omega), nI_nlt (a := 1000000) (by omega) (by decide)⟩
    · rw [upd_ne _ _ (by omega)]; exact hl.2
theorem rd_law {tx : Nat → Int32} {n : Nat} : ∀ (k p : Nat) (tb : Int32) (lw : Nat → Int32), LAWOK lw → (rdF tx n k p tb lw).1 = none → LAWOK (rdF tx n k p tb lw).2.2
  | 0, p, tb, lw, hl, h => by cases h
  | k + 1, p, tb, lw, hl, h => by
    by_cases h0 : tkK tx n p = 0
    · rw [rd_end h0]; exact hl
    · by_cases h1 : itF tx n p tb = none
      · rw [rd_go h0 h1] at h ⊢; exact rd_law k _ _ _ (it_law h1 hl) h
      · rw [rd_bad h0 h1] at h; exact absurd h h1
theorem law_rider {tx lw lm : Nat → Int32} {n : Nat} (h : LAWOK lw) (e : ∀ k, k < 5 → lm k = n_law tx n lw k) : LAWOK lm := by
  have h2 : LAWOK (n_law tx n lw) := by
    unfold n_law
    by_cases h0 : (rdA tx n).1 = none
    · rw [if_pos h0]
      exact rd_law 6 0 0 s_UNTOLD ⟨⟨0, by decide, rfl⟩, by decide⟩ h0
    · rw [if_neg h0]; exact h
  exact ⟨by rw [e 3 (by decide)]; exact h2.1, by rw [e 4 (by decide)]; exact h2.2⟩
-- images
theorem kp_eq (kp : Nat → Nat → Int32) (sf : Nat → Int32) (w : Int32) : n_kp kp sf w = kpU kp sf w := rfl
theorem ik_eq (kf : Nat → Int32) (w : Int32) : n_ik kf w = kpU kf 1 w := rfl
theorem bk_eq (kp : Nat → Nat → Int32) (kf sf : Nat → Int32) (w : Int32) : n_back kp kf sf w = bkU kp kf sf w := rfl
theorem kpU_cs {α : Type} (g : Nat → α) (x : α) (w : Int32) (a : Nat) : kpU g x w a = g a ∨ (inR w 0 1 ∧ a = w.toNatClampNeg ∧ kpU g x w a = x) := by
  unfold kpU
  by_cases h : inR w 0 1
  · rw [if_pos h]
    by_cases e : a = w.toNatClampNeg
    · exact Or.inr ⟨h, e, if_pos e⟩
    · exact Or.inl (if_neg e)
  · rw [if_neg h]; exact Or.inl rfl
theorem kpU_y {α : Type} {g : Nat → α} {x : α} {w : Int32} {a : Nat} (h : inR w 0 1) (e : a = w.toNatClampNeg) : kpU g x w a = x := by
  unfold kpU
  rw [if_pos h]; exact if_pos e
theorem kpU_n {α : Type} {g : Nat → α} {x : α} {w : Int32} {a : Nat} (h : ¬ (inR w 0 1 ∧ a = w.toNatClampNeg)) : kpU g x w a = g a := by
  rcases kpU_cs g x w a with e | ⟨e1, e2, -⟩
  · exact e
  · exact absurd ⟨e1, e2⟩ h
theorem back_eq {kp : Nat → Nat → Int32} {kt : Nat → Nat} (kf : Nat → Int32) (h : ∀ a, a < 2 → kp a 7 = nI (kt a)) (w : Int32) : c_back kt kf w = r_back kp kf w := by
  unfold c_back r_back
  by_cases hok : inR w 0 1
  · rw [if_pos hok, if_pos hok]
    obtain ⟨a, ha, rfl⟩ := inR_n 1 (by decide) rfl hok
    rw [cl_n (by omega), h a (by omega)]
  · rw [if_neg hok, if_neg hok]
theorem nar01 {x : Int32} (h : x = 0 ∨ x = 1) : vp_nar .boolean x = x := by rcases h with e | e <;> subst e <;> rfl
theorem HB.fl {sf hv hw : Nat → Int32} (h : HB sf hv hw) : ∀ z, z < 2 → hw z = 0 ∨ hw z = 1 := fun z hz => by rw [(h z hz).2.1]; exact (h z hz).2.2.1
section
variable {p : Program} {l : Launch} {e : Env} {R : Room} {s : State} {m : MethodId} {args : Array Value} {below : List Frame} {meth : Method} {c : Code} {H : Heap} {locs : List Loc} {cells slots : Nat} {Q : State → Prop} {cc : ByteArray} {pc : Nat} {ls : Array Slot} {rest st0 : List Value} {D : va_G} {cy : Nat → ClassId} {sa : Nat → Nat} {A : Nat → Prop} {H0 : Heap} {ws wc wr : va_W} {a : Nat}
/-- an int of the script -/
theorem sl_i (hexec : p.tables.exec = Jvm.exec) (hb : c.code = cc) {b L : Nat} {xs : Nat → Int32} (hX : va_X b L xs s H0) (hbl : b < H0.size) (hbA : ¬ A b) (hS : va_S A H0 H locs) (j : Nat) {i : Int32} (hi : i = nI j) (hj : j < L) (hL : L < 2 ^ 31) (hdg : decode cc pc = .ok (.iaload, 1))
    (kk : W p l e R s m args below meth c H locs cells slots Q (F0 m (pc + 1) ls (.int (xs j) :: rest))) : W p l e R s m args below meth c H locs cells slots Q (F0 m pc ls (.int i :: .ref b :: rest)) := by
  subst hi
  refine va_sld hexec hb hX hbl hbA hS (vp_in_nI hj hL) hdg ?_
  rw [nI_clamp (Nat.lt_trans hj hL)]
  exact kk
/-- a public constructor -/
theorem ca_I {S : Type} {post : Option Value → S → Prop} {W1 : S → va_W} {mc ms nL maxL n idx b : Nat} {Ts tw tw' : List Cond} {own : String} {y : MethodName} {bytes : ByteArray} {rm : Room} {av : List Value} (F : CallFix p m c cc nL s args Ts own) (hK : va_K D vwCl (tysG cy) s) (hE : EV sa A s s.heap) (hA : ∀ q, s.heap.size ≤ q → A q) (hP : va_P D vwCl ws H) (hD : va_D A ws) (hS : va_S A s.heap H locs) (hls : ls.size = nL)
    (hM : CT (S := S) l D cy sa y tw rm (.ref b :: av) wc post W1 mc ms) (hG : GoodIn Ts tw) (hlink : (Cond.methodLink own idx y).before args s = true) (hini : (Cond.initialized y.cls).before args s = true) (hinst : (Cond.instanceMethod y).before args s = true) (hnm : y.name = "<init>") (hw : tw = Cond.code y bytes maxL none :: tw') (hrc : rm.cells = mc) (hrs : rm.slots = ms)
    (hd : y.cls ≠ "java/lang/invoke/MethodHandle" ∧ y.cls ≠ "java/lang/invoke/VarHandle" ∧ (parseMethodDescriptor y.desc).map (fun d => d.parameters.length) = some n) (hRm : rm.frames + 1 ≤ R.frames ∧ 8 + (maxL + 11) + rm.locals ≤ R.locals)
    (isC isR : List Nat) (hnC : va_nd isC = true) (hC : isC.map (fun i => ws[i]?) = wc.map some) (hR : isR.map (fun i => ws[i]?) = wr.map some) (hn : va_nd isR = true) (hdis : ∀ i ∈ isR, i ∉ isC)
    (hav : av.length = n) (hst : st0 = av.reverse ++ .ref b :: rest) (hW8 : (rest.map fun v => v.category).sum ≤ 8) (hdg : decode cc pc = .ok (.invokespecial idx, 3)) (hf : cells + mc ≤ R.cells ∧ slots + ms ≤ R.slots)
    (kk : ∀ (v : Option Value) (u : S) (H1 : Heap) (locs1 : List Loc), post v u → va_P D vwCl (wr ++ W1 u) H1 → va_D A (wr ++ W1 u) → va_S A s.heap H1 locs1 → W p l e R s m args below meth c H1 locs1 (cells + mc) (slots + ms) Q (F0 m (pc + 3) ls (v.toList ++ rest))) : W p l e R s m args below meth c H locs cells slots Q (F0 m pc ls st0) := by
  refine ca_run (cy := cy) (va_runI (As := av) (rest := rest) F (hM H.size) (cwI n F.2.2.2.2 hG hw hrc hrs hini hlink hinst hnm hd hRm) (ca_pre (av := .ref b :: av) rfl hK hE hA hP hD hS isC hnC hC) rfl hav hls hst (lv_room hW8) hdg hf) hA hP hD hS isC isR hC hR hn hdis kk
end
abbrev WW (cy : Nat → ClassId) (x0_ b0_ : Nat) (xb_ : Nat) (ta_ : Nat) (tn1_ : Nat) (c1_ : Nat) (c2_ : Nat) (c3_ : Nat) (d1_ : Nat) (a2_ : Nat) (n2_ : Nat) (d2_ : Nat) (d3_ : Nat) (xt_ : Nat) (e1_ : Nat) (eb_ : Nat) (r3_ : Nat) (r4_ : Nat) (r1_ : Nat) (r2_ : Nat) (q1_ : Nat) (q2_ : Nat) (q3_ : Nat) (q4_ : Nat) (o1_ : Nat) (o2_ : Nat) (o3_ : Nat) (o4_ : Nat) (h1_ : Nat) (h2_ : Nat) (h3_ : Nat) (xi_ : Nat) (mn_ : Nat) (mt_ : Nat) (ms_ : Nat) (mk_ : Nat) (mp_ : Nat) (mi_ : Nat) (ml_ : Nat) (mx_ : Nat) (mc_ : Nat) (mf_ : Nat) (ba_ : Nat → Nat) (bn_ : Nat → Nat) (ia_ : Nat → Nat) (iq_ : Nat → Nat) (i2_ : Nat → Nat) (i3_ : Nat → Nat) (i4_ : Nat → Nat) (ih_ : Nat → Nat) (iv_ : Nat → Nat) (iw_ : Nat → Nat) (nb_ : Nat → Nat → Int32) (tf_ : Nat → Int32) (cf_ : Nat → Int32) (f2_ : Nat → Int32) (sc_ : Nat → Int32) (tx_ : Nat → Int32) (ld_ : Nat → Int32) (lw_ : Nat → Int32) (sf_ : Nat → Int32) (pl_ : Nat → Int32) (pp_ : Nat → Int32) (pb_ : Nat → Int32) (so_ : Nat → Int32) (ol_ : Nat → Int32) (oc_ : Nat → Int32) (ob_ : Nat → Int32) (vh_ : Nat → Int32) (wh_ : Nat → Int32) (ft_ : Nat → Int32) (sp_ : Nat → Int32) (cn_ : Nat → Int32) (fd_ : Nat → Int32) (kf_ : Nat → Int32) (kp_ : Nat → Nat → Int32) (kl_ : Nat → Nat → Int32) (kc_ : Nat → Nat → Int32) (kb_ : Nat → Nat → Int32) (kv_ : Nat → Nat → Int32) (kw_ : Nat → Nat → Int32) (kt_ : Nat → Nat) (tl_ : Nat) (tn_ : Nat) (to_ : Nat) (eln_ : Int32) (epl_ : Int32) (ebg_ : Int32) (etk_ : Int32) (evl_ : Int32) (td_ : Int32) (tb_ : Int32) (ub_ : Int32) (db_ : Int32) (th_ : Int32) (it_ : Int32) (mnx_ : Int32) (mtk_ : Int32) (mpl_ : Int32) (mvl_ : Int32) (mfa_ : Int32) (tr_ : Int64) : va_W := [(x0_, .inr (8, [.ref xb_, .ref ta_, .ref c1_, .ref d1_, .ref xt_, .int (nI tl_), .ref e1_, .ref r3_, .ref r1_, .ref q1_, .ref o1_, .ref h1_, .int ub_, .int db_, .ref xi_, .long tr_])), (xb_, .inl (cy 2, 4, .inr (.inr (.inr (.inr (fun z => some (ba_ z))))))), (ba_ 0, .inr (0, [.ref (bn_ 0)])), (bn_ 0, .inl (cy 0, 6, .inl (nb_ 0))), (ba_ 1, .inr (0, [.ref (bn_ 1)])), (bn_ 1, .inl (cy 0, 6, .inl (nb_ 1))), (ba_ 2, .inr (0, [.ref (bn_ 2)])), (bn_ 2, .inl (cy 0, 6, .inl (nb_ 2))), (ba_ 3, .inr (0, [.ref (bn_ 3)])), (bn_ 3, .inl (cy 0, 6, .inl (nb_ 3))), (ta_, .inr (0, [.ref tn1_])), (tn1_, .inl (cy 0, 6, .inl tf_)), (c1_, .inr (1, [.ref c2_])), (c2_, .inr (0, [.ref c3_])), (c3_, .inl (cy 0, 6, .inl cf_)), (d1_, .inr (2, [.ref a2_, .ref d2_, .ref d3_])), (a2_, .inr (0, [.ref n2_])), (n2_, .inl (cy 0, 6, .inl f2_)), (d2_, .inl (cy 0, 729, .inl cgF)), (d3_, .inl (cy 0, 729, .inl sc_)), (xt_, .inl (cy 0, 200, .inl tx_)), (e1_, .inr (5, [.ref eb_, .int eln_, .int epl_, .int ebg_, .int etk_, .int evl_])), (r3_, .inr (7, [.ref r4_, .int td_])), (r4_, .inl (cy 0, 5, .inl ld_)), (r1_, .inr (7, [.ref r2_, .int tb_])), (r2_, .inl (cy 0, 5, .inl lw_)), (q1_, .inr (6, [.int (sf_ 0), .int (sf_ 1), .int (sf_ 2), .int (sf_ 3), .int (sf_ 4), .int (sf_ 5), .int (sf_ 6), .int (sf_ 9), .int (nI tn_), .int (sf_ 8), .ref q2_, .ref q3_, .ref q4_])), (q2_, .inl (cy 0, 6, .inl pl_)), (q3_, .inl (cy 0, 6, .inl pp_)), (q4_, .inl (cy 0, 6, .inl pb_)), (o1_, .inr (6, [.int (so_ 0), .int (so_ 1), .int (so_ 2), .int (so_ 3), .int (so_ 4), .int (so_ 5), .int (so_ 6), .int (so_ 9), .int (nI to_), .int (so_ 8), .ref o2_, .ref o3_, .ref o4_])), (o2_, .inl (cy 0, 6, .inl ol_)), (o3_, .inl (cy 0, 6, .inl oc_)), (o4_, .inl (cy 0, 6, .inl ob_)), (h1_, .inr (3, [.ref h2_, .ref h3_])), (h2_, .inl (cy 0, 2, .inl vh_)), (h3_, .inl (cy 1, 2, .inl wh_)), (xi_, .inl (cy 3, 2, .inr (.inr (.inr (.inr (fun z => some (ia_ z))))))), (ia_ 0, .inr (4, [.ref (iq_ 0), .ref (ih_ 0), .int (kf_ 0)])), (iq_ 0, .inr (6, [.int ((kp_ 0) 0), .int ((kp_ 0) 1), .int ((kp_ 0) 2), .int ((kp_ 0) 3), .int ((kp_ 0) 4), .int ((kp_ 0) 5), .int ((kp_ 0) 6), .int ((kp_ 0) 9), .int (nI (kt_ 0)), .int ((kp_ 0) 8), .ref (i2_ 0), .ref (i3_ 0), .ref (i4_ 0)])), (i2_ 0, .inl (cy 0, 6, .inl (kl_ 0))), (i3_ 0, .inl (cy 0, 6, .inl (kc_ 0))), (i4_ 0, .inl (cy 0, 6, .inl (kb_ 0))), (ih_ 0, .inr (3, [.ref (iv_ 0), .ref (iw_ 0)])), (iv_ 0, .inl (cy 0, 2, .inl (kv_ 0))), (iw_ 0, .inl (cy 1, 2, .inl (kw_ 0))), (ia_ 1, .inr (4, [.ref (iq_ 1), .ref (ih_ 1), .int (kf_ 1)])), (iq_ 1, .inr (6, [.int ((kp_ 1) 0), .int ((kp_ 1) 1), .int ((kp_ 1) 2), .int ((kp_ 1) 3), .int ((kp_ 1) 4), .int ((kp_ 1) 5), .int ((kp_ 1) 6), .int ((kp_ 1) 9), .int (nI (kt_ 1)), .int ((kp_ 1) 8), .ref (i2_ 1), .ref (i3_ 1), .ref (i4_ 1)])), (i2_ 1, .inl (cy 0, 6, .inl (kl_ 1))), (i3_ 1, .inl (cy 0, 6, .inl (kc_ 1))), (i4_ 1, .inl (cy 0, 6, .inl (kb_ 1))), (ih_ 1, .inr (3, [.ref (iv_ 1), .ref (iw_ 1)])), (iv_ 1, .inl (cy 0, 2, .inl (kv_ 1))), (iw_ 1, .inl (cy 1, 2, .inl (kw_ 1))), (b0_, .inr (9, [.int th_, .long tr_, .ref mn_, .ref mt_, .ref ms_, .ref mk_, .ref mp_, .ref mi_, .ref ml_, .int it_, .int ub_, .int db_, .ref mx_, .int (nI tl_), .int mnx_, .int mtk_, .int mpl_, .int mvl_, .int mfa_, .ref mc_, .ref mf_])), (mn_, .inl (cy 0, 24, .inl (nbF nb_))), (mt_, .inl (cy 0, 6, .inl ft_)), (ms_, .inl (cy 0, 29, .inl sf_)), (mk_, .inl (cy 0, 58, .inl (kpF kp_))), (mp_, .inl (cy 0, 29, .inl sp_)), (mi_, .inl (cy 1, 2, .inl kf_)), (ml_, .inl (cy 0, 10, .inl lw_)), (mx_, .inl (cy 0, 200, .inl tx_)), (mc_, .inl (cy 0, 729, .inl cn_)), (mf_, .inl (cy 0, 6, .inl fd_))]
def INV (j9_ : Nat) (nb_ : Nat → Nat → Int32) (sf_ : Nat → Int32) (tn_ : Nat) (pl_ : Nat → Int32) (pp_ : Nat → Int32) (pb_ : Nat → Int32) (vh_ : Nat → Int32) (wh_ : Nat → Int32) (kp_ : Nat → Nat → Int32) (kt_ : Nat → Nat) (kl_ : Nat → Nat → Int32) (kc_ : Nat → Nat → Int32) (kb_ : Nat → Nat → Int32) (kv_ : Nat → Nat → Int32) (kw_ : Nat → Nat → Int32) (kf_ : Nat → Int32) (lw_ : Nat → Int32) (tx_ : Nat → Int32) (tl_ : Nat) (tb_ : Int32) (it_ : Int32) (ub_ : Int32) (db_ : Int32) : Prop := (∀ i, i < 4 → okF (nb_ i)) ∧ RIDE sf_ tn_ pl_ pp_ pb_ j9_ ∧ HB sf_ vh_ wh_ ∧ (∀ a, a < 2 → RIDE (kp_ a) (kt_ a) (kl_ a) (kc_ a) (kb_ a) j9_) ∧ (∀ a, a < 2 → kf_ a = 0 ∨ HB (kp_ a) (kv_ a) (kw_ a)) ∧ (∀ a, a < 2 → ∀ z, z < 2 → kw_ a z = 0 ∨ kw_ a z = 1) ∧ LAWOK lw_ ∧ tl_ ≤ 200 ∧ (∀ k, k < 200 → ¬ tx_ k < 0) ∧ it_ = pc32 tb_ ∧ smallI ub_ 1 50 ∧ smallI db_ 0 50
abbrev KK (p : Program) (l : Launch) (e : Env) (s : State) (m : MethodId) (args : Array Value) (below : List Frame) (meth : Method) (c : Code) (Q : State → Prop) (A : Nat → Prop) (D : va_G) (cy : Nat → ClassId) (x0_ b0_ b9_ i9_ j9_ pc : Nat) : Prop := ∀ (xb_ : Nat) (ta_ : Nat) (tn1_ : Nat) (c1_ : Nat) (c2_ : Nat) (c3_ : Nat) (d1_ : Nat) (a2_ : Nat) (n2_ : Nat) (d2_ : Nat) (d3_ : Nat) (xt_ : Nat) (e1_ : Nat) (eb_ : Nat) (r3_ : Nat) (r4_ : Nat) (r1_ : Nat) (r2_ : Nat) (q1_ : Nat) (q2_ : Nat) (q3_ : Nat) (q4_ : Nat) (o1_ : Nat) (o2_ : Nat) (o3_ : Nat) (o4_ : Nat) (h1_ : Nat) (h2_ : Nat) (h3_ : Nat) (xi_ : Nat) (mn_ : Nat) (mt_ : Nat) (ms_ : Nat) (mk_ : Nat) (mp_ : Nat) (mi_ : Nat) (ml_ : Nat) (mx_ : Nat) (mc_ : Nat) (mf_ : Nat) (ba_ : Nat → Nat) (bn_ : Nat → Nat) (ia_ : Nat → Nat) (iq_ : Nat → Nat) (i2_ : Nat → Nat) (i3_ : Nat → Nat) (i4_ : Nat → Nat) (ih_ : Nat → Nat) (iv_ : Nat → Nat) (iw_ : Nat → Nat) (nb_ : Nat → Nat → Int32) (tf_ : Nat → Int32) (cf_ : Nat → Int32) (f2_ : Nat → Int32) (sc_ : Nat → Int32) (tx_ : Nat → Int32) (ld_ : Nat → Int32) (lw_ : Nat → Int32) (sf_ : Nat → Int32) (pl_ : Nat → Int32) (pp_ : Nat → Int32) (pb_ : Nat → Int32) (so_ : Nat → Int32) (ol_ : Nat → Int32) (oc_ : Nat → Int32) (ob_ : Nat → Int32) (vh_ : Nat → Int32) (wh_ : Nat → Int32) (ft_ : Nat → Int32) (sp_ : Nat → Int32) (cn_ : Nat → Int32) (fd_ : Nat → Int32) (kf_ : Nat → Int32) (kp_ : Nat → Nat → Int32) (kl_ : Nat → Nat → Int32) (kc_ : Nat → Nat → Int32) (kb_ : Nat → Nat → Int32) (kv_ : Nat → Nat → Int32) (kw_ : Nat → Nat → Int32) (kt_ : Nat → Nat) (tl_ : Nat) (tn_ : Nat) (to_ : Nat) (eln_ : Int32) (epl_ : Int32) (ebg_ : Int32) (etk_ : Int32) (evl_ : Int32) (td_ : Int32) (tb_ : Int32) (ub_ : Int32) (db_ : Int32) (th_ : Int32) (it_ : Int32) (mnx_ : Int32) (mtk_ : Int32) (mpl_ : Int32) (mvl_ : Int32) (mfa_ : Int32) (tr_ : Int64), INV j9_ nb_ sf_ tn_ pl_ pp_ pb_ vh_ wh_ kp_ kt_ kl_ kc_ kb_ kv_ kw_ kf_ lw_ tx_ tl_ tb_ it_ ub_ db_ → ∀ (H : Heap) (locs : List Loc), va_P D vwCl (WW cy x0_ b0_ xb_ ta_ tn1_ c1_ c2_ c3_ d1_ a2_ n2_ d2_ d3_ xt_ e1_ eb_ r3_ r4_ r1_ r2_ q1_ q2_ q3_ q4_ o1_ o2_ o3_ o4_ h1_ h2_ h3_ xi_ mn_ mt_ ms_ mk_ mp_ mi_ ml_ mx_ mc_ mf_ ba_ bn_ ia_ iq_ i2_ i3_ i4_ ih_ iv_ iw_ nb_ tf_ cf_ f2_ sc_ tx_ ld_ lw_ sf_ pl_ pp_ pb_ so_ ol_ oc_ ob_ vh_ wh_ ft_ sp_ cn_ fd_ kf_ kp_ kl_ kc_ kb_ kv_ kw_ kt_ tl_ tn_ to_ eln_ epl_ ebg_ etk_ evl_ td_ tb_ ub_ db_ th_ it_ mnx_ mtk_ mpl_ mvl_ mfa_ tr_) H → va_D A (WW cy x0_ b0_ xb_ ta_ tn1_ c1_ c2_ c3_ d1_ a2_ n2_ d2_ d3_ xt_ e1_ eb_ r3_ r4_ r1_ r2_ q1_ q2_ q3_ q4_ o1_ o2_ o3_ o4_ h1_ h2_ h3_ xi_ mn_ mt_ ms_ mk_ mp_ mi_ ml_ mx_ mc_ mf_ ba_ bn_ ia_ iq_ i2_ i3_ i4_ ih_ iv_ iw_ nb_ tf_ cf_ f2_ sc_ tx_ ld_ lw_ sf_ pl_ pp_ pb_ so_ ol_ oc_ ob_ vh_ wh_ ft_ sp_ cn_ fd_ kf_ kp_ kl_ kc_ kb_ kv_ kw_ kt_ tl_ tn_ to_ eln_ epl_ ebg_ etk_ evl_ td_ tb_ ub_ db_ th_ it_ mnx_ mtk_ mpl_ mvl_ mfa_ tr_) → va_S A s.heap H locs → ∀ (ls : Array Slot), lv_has ls 4 [(3, .int (nI i9_)), (2, .ref b0_), (1, .ref x0_), (0, .ref b9_)] → W p l e room_1 s m args below meth c H locs 66 3015 Q (F0 m pc ls [])
/-- what stays as it_ is through the law -/
def LCX (p : Program) (s : State) (m : MethodId) (args : Array Value) (c : Code) (A : Nat → Prop) (D : va_G) (cy : Nat → ClassId) (sa : Nat → Nat) (b9_ L : Nat) (xs : Nat → Int32) : Prop := CallFix p m c cL_law 4 s args wsL_law RL ∧ va_K D vwCl (tysG cy) s ∧ EV sa A s s.heap ∧ (∀ q, s.heap.size ≤ q → A q) ∧ va_X b9_ L xs s s.heap ∧ b9_ < s.heap.size ∧ (¬ A b9_) ∧ L ≤ 3072
theorem INV_s {j9_ : Nat} {nb_ : Nat → Nat → Int32} {sf_ : Nat → Int32} {tn_ : Nat} {pl_ : Nat → Int32} {pp_ : Nat → Int32} {pb_ : Nat → Int32} {vh_ : Nat → Int32} {wh_ : Nat → Int32} {kp_ : Nat → Nat → Int32} {kt_ : Nat → Nat} {kl_ : Nat → Nat → Int32} {kc_ : Nat → Nat → Int32} {kb_ : Nat → Nat → Int32} {kv_ : Nat → Nat → Int32} {kw_ : Nat → Nat → Int32} {kf_ : Nat → Int32} {lw_ : Nat → Int32} {tx_ : Nat → Int32} {tl_ : Nat} {tb_ : Int32} {it_ : Int32} {ub_ : Int32} {db_ : Int32} (h : INV j9_ nb_ sf_ tn_ pl_ pp_ pb_ vh_ wh_ kp_ kt_ kl_ kc_ kb_ kv_ kw_ kf_ lw_ tx_ tl_ tb_ it_ ub_ db_)  : INV (j9_ + 1) nb_ sf_ tn_ pl_ pp_ pb_ vh_ wh_ kp_ kt_ kl_ kc_ kb_ kv_ kw_ kf_ lw_ tx_ tl_ tb_ it_ ub_ db_ := by
  obtain ⟨g1, g2, g3, g4, g5, g6, g7, g8, g9, g10, g11, g12⟩ := h
  exact ⟨g1, g2.s, g3, fun a ha => (g4 a ha).s, g5, g6, g7, g8, g9, g10, g11, g12⟩
theorem INV_number {j9_ : Nat} {nb_ : Nat → Nat → Int32} {sf_ : Nat → Int32} {tn_ : Nat} {pl_ : Nat → Int32} {pp_ : Nat → Int32} {pb_ : Nat → Int32} {vh_ : Nat → Int32} {wh_ : Nat → Int32} {kp_ : Nat → Nat → Int32} {kt_ : Nat → Nat} {kl_ : Nat → Nat → Int32} {kc_ : Nat → Nat → Int32} {kb_ : Nat → Nat → Int32} {kv_ : Nat → Nat → Int32} {kw_ : Nat → Nat → Int32} {kf_ : Nat → Int32} {lw_ : Nat → Int32} {tx_ : Nat → Int32} {tl_ : Nat} {tb_ : Int32} {it_ : Int32} {ub_ : Int32} {db_ : Int32} (h : INV j9_ nb_ sf_ tn_ pl_ pp_ pb_ vh_ wh_ kp_ kt_ kl_ kc_ kb_ kv_ kw_ kf_ lw_ tx_ tl_ tb_ it_ ub_ db_) (i k v : Int32) : INV (j9_ + 1) (n_number nb_ i k v) sf_ tn_ pl_ pp_ pb_ vh_ wh_ kp_ kt_ kl_ kc_ kb_ kv_ kw_ kf_ lw_ tx_ tl_ tb_ it_ ub_ db_ := by
  obtain ⟨g1, g2, g3, g4, g5, g6, g7, g8, g9, g10, g11, g12⟩ := h
  exact ⟨okF_number g1 _ _ _, g2.s, g3, fun a ha => (g4 a ha).s, g5, g6, g7, g8, g9, g10, g11, g12⟩
theorem INV_ride {j9_ : Nat} {nb_ : Nat → Nat → Int32} {sf_ : Nat → Int32} {tn_ : Nat} {pl_ : Nat → Int32} {pp_ : Nat → Int32} {pb_ : Nat → Int32} {vh_ : Nat → Int32} {wh_ : Nat → Int32} {kp_ : Nat → Nat → Int32} {kt_ : Nat → Nat} {kl_ : Nat → Nat → Int32} {kc_ : Nat → Nat → Int32} {kb_ : Nat → Nat → Int32} {kv_ : Nat → Nat → Int32} {kw_ : Nat → Nat → Int32} {kf_ : Nat → Int32} {lw_ : Nat → Int32} {tx_ : Nat → Int32} {tl_ : Nat} {tb_ : Int32} {it_ : Int32} {ub_ : Int32} {db_ : Int32} (h : INV j9_ nb_ sf_ tn_ pl_ pp_ pb_ vh_ wh_ kp_ kt_ kl_ kc_ kb_ kv_ kw_ kf_ lw_ tx_ tl_ tb_ it_ ub_ db_) (i v r : Int32) : INV (j9_ + 1) nb_ (n_ride sf_ i v r) (rdT tn_ i v r) pl_ pp_ pb_ vh_ wh_ kp_ kt_ kl_ kc_ kb_ kv_ kw_ kf_ lw_ tx_ tl_ tb_ it_ ub_ db_ := by
  obtain ⟨g1, g2, g3, g4, g5, g6, g7, g8, g9, g10, g11, g12⟩ := h
  exact ⟨g1, g2.ride _ _ _, g3.ride _ _ _, fun a ha => (g4 a ha).s, g5, g6, g7, g8, g9, g10, g11, g12⟩
theorem INV_push {j9_ : Nat} {nb_ : Nat → Nat → Int32} {sf_ : Nat → Int32} {tn_ : Nat} {pl_ : Nat → Int32} {pp_ : Nat → Int32} {pb_ : Nat → Int32} {vh_ : Nat → Int32} {wh_ : Nat → Int32} {kp_ : Nat → Nat → Int32} {kt_ : Nat → Nat} {kl_ : Nat → Nat → Int32} {kc_ : Nat → Nat → Int32} {kb_ : Nat → Nat → Int32} {kv_ : Nat → Nat → Int32} {kw_ : Nat → Nat → Int32} {kf_ : Nat → Int32} {lw_ : Nat → Int32} {tx_ : Nat → Int32} {tl_ : Nat} {tb_ : Int32} {it_ : Int32} {ub_ : Int32} {db_ : Int32} (h : INV j9_ nb_ sf_ tn_ pl_ pp_ pb_ vh_ wh_ kp_ kt_ kl_ kc_ kb_ kv_ kw_ kf_ lw_ tx_ tl_ tb_ it_ ub_ db_) (b : Int32) : INV (j9_ + 1) nb_ (n_push sf_ b) tn_ pl_ pp_ pb_ vh_ wh_ kp_ kt_ kl_ kc_ kb_ kv_ kw_ kf_ lw_ tx_ tl_ tb_ it_ ub_ db_ := by
  obtain ⟨g1, g2, g3, g4, g5, g6, g7, g8, g9, g10, g11, g12⟩ := h
  exact ⟨g1, g2.push _, g3.push _, fun a ha => (g4 a ha).s, g5, g6, g7, g8, g9, g10, g11, g12⟩
theorem INV_ticks {j9_ : Nat} {nb_ : Nat → Nat → Int32} {sf_ : Nat → Int32} {tn_ : Nat} {pl_ : Nat → Int32} {pp_ : Nat → Int32} {pb_ : Nat → Int32} {vh_ : Nat → Int32} {wh_ : Nat → Int32} {kp_ : Nat → Nat → Int32} {kt_ : Nat → Nat} {kl_ : Nat → Nat → Int32} {kc_ : Nat → Nat → Int32} {kb_ : Nat → Nat → Int32} {kv_ : Nat → Nat → Int32} {kw_ : Nat → Nat → Int32} {kf_ : Nat → Int32} {lw_ : Nat → Int32} {tx_ : Nat → Int32} {tl_ : Nat} {tb_ : Int32} {it_ : Int32} {ub_ : Int32} {db_ : Int32} (h : INV j9_ nb_ sf_ tn_ pl_ pp_ pb_ vh_ wh_ kp_ kt_ kl_ kc_ kb_ kv_ kw_ kf_ lw_ tx_ tl_ tb_ it_ ub_ db_) {f pl2 pp2 pb2 : Nat → Int32} {tn2 d : Nat} {n : Int32} (t2 : tn2 ≤ tn_ + 200) (q7 : n_ticks f lw_ sf_ d n 7 = nI tn2) (qh : histOK (n_ticks f lw_ sf_ d n) tn2 pl2 pp2 pb2) (q2_ : n_ticks f lw_ sf_ d n 2 = sf_ 2) : INV (j9_ + 1) nb_ (n_ticks f lw_ sf_ d n) tn2 pl2 pp2 pb2 vh_ wh_ kp_ kt_ kl_ kc_ kb_ kv_ kw_ kf_ lw_ tx_ tl_ tb_ it_ ub_ db_ := by
  obtain ⟨g1, g2, g3, g4, g5, g6, g7, g8, g9, g10, g11, g12⟩ := h
  exact ⟨g1, g2.ticks t2 q7 qh q2_, g3.ext (fun z hz => ticks_keep _ _ _ _ _ (Or.inr hz)), fun a ha => (g4 a ha).s, g5, g6, g7, g8, g9, g10, g11, g12⟩
theorem INV_weeks {j9_ : Nat} {nb_ : Nat → Nat → Int32} {sf_ : Nat → Int32} {tn_ : Nat} {pl_ : Nat → Int32} {pp_ : Nat → Int32} {pb_ : Nat → Int32} {vh_ : Nat → Int32} {wh_ : Nat → Int32} {kp_ : Nat → Nat → Int32} {kt_ : Nat → Nat} {kl_ : Nat → Nat → Int32} {kc_ : Nat → Nat → Int32} {kb_ : Nat → Nat → Int32} {kv_ : Nat → Nat → Int32} {kw_ : Nat → Nat → Int32} {kf_ : Nat → Int32} {lw_ : Nat → Int32} {tx_ : Nat → Int32} {tl_ : Nat} {tb_ : Int32} {it_ : Int32} {ub_ : Int32} {db_ : Int32} (h : INV j9_ nb_ sf_ tn_ pl_ pp_ pb_ vh_ wh_ kp_ kt_ kl_ kc_ kb_ kv_ kw_ kf_ lw_ tx_ tl_ tb_ it_ ub_ db_) (w n : Int32) : INV (j9_ + 1) nb_ (n_weeks sf_ ub_ db_ w n) tn_ pl_ pp_ pb_ ((c_wk vh_ wh_ ub_ db_ w n).1) ((c_wk vh_ wh_ ub_ db_ w n).2) kp_ kt_ kl_ kc_ kb_ kv_ kw_ kf_ lw_ tx_ tl_ tb_ it_ ub_ db_ := by
  obtain ⟨g1, g2, g3, g4, g5, g6, g7, g8, g9, g10, g11, g12⟩ := h
  obtain ⟨-, k1, k2⟩ := weeks_eq g3 (small_0 g11) g12 w n
  exact ⟨g1, (g2.ext k2).s, k1, fun a ha => (g4 a ha).s, g5, g6, g7, g8, g9, g10, g11, g12⟩
theorem INV_tune {j9_ : Nat} {nb_ : Nat → Nat → Int32} {sf_ : Nat → Int32} {tn_ : Nat} {pl_ : Nat → Int32} {pp_ : Nat → Int32} {pb_ : Nat → Int32} {vh_ : Nat → Int32} {wh_ : Nat → Int32} {kp_ : Nat → Nat → Int32} {kt_ : Nat → Nat} {kl_ : Nat → Nat → Int32} {kc_ : Nat → Nat → Int32} {kb_ : Nat → Nat → Int32} {kv_ : Nat → Nat → Int32} {kw_ : Nat → Nat → Int32} {kf_ : Nat → Int32} {lw_ : Nat → Int32} {tx_ : Nat → Int32} {tl_ : Nat} {tb_ : Int32} {it_ : Int32} {ub_ : Int32} {db_ : Int32} (h : INV j9_ nb_ sf_ tn_ pl_ pp_ pb_ vh_ wh_ kp_ kt_ kl_ kc_ kb_ kv_ kw_ kf_ lw_ tx_ tl_ tb_ it_ ub_ db_) (w v : Int32) : INV (j9_ + 1) nb_ sf_ tn_ pl_ pp_ pb_ vh_ wh_ kp_ kt_ kl_ kc_ kb_ kv_ kw_ kf_ lw_ tx_ tl_ tb_ it_ (n_ub ub_ w v) (n_db db_ w v) := by
  obtain ⟨g1, g2, g3, g4, g5, g6, g7, g8, g9, g10, g11, g12⟩ := h
  exact ⟨g1, g2.s, g3, fun a ha => (g4 a ha).s, g5, g6, g7, g8, g9, g10, tune_u g11, tune_d g12⟩
theorem INV_type {j9_ : Nat} {nb_ : Nat → Nat → Int32} {sf_ : Nat → Int32} {tn_ : Nat} {pl_ : Nat → Int32} {pp_ : Nat → Int32} {pb_ : Nat → Int32} {vh_ : Nat → Int32} {wh_ : Nat → Int32} {kp_ : Nat → Nat → Int32} {kt_ : Nat → Nat} {kl_ : Nat → Nat → Int32} {kc_ : Nat → Nat → Int32} {kb_ : Nat → Nat → Int32} {kv_ : Nat → Nat → Int32} {kw_ : Nat → Nat → Int32} {kf_ : Nat → Int32} {lw_ : Nat → Int32} {tx_ : Nat → Int32} {tl_ : Nat} {tb_ : Int32} {it_ : Int32} {ub_ : Int32} {db_ : Int32} (h : INV j9_ nb_ sf_ tn_ pl_ pp_ pb_ vh_ wh_ kp_ kt_ kl_ kc_ kb_ kv_ kw_ kf_ lw_ tx_ tl_ tb_ it_ ub_ db_) (v : Int64) (n : Int32) : INV (j9_ + 1) nb_ sf_ tn_ pl_ pp_ pb_ vh_ wh_ kp_ kt_ kl_ kc_ kb_ kv_ kw_ kf_ lw_ (n_tx tx_ tl_ v n) (n_tn tl_ n) tb_ it_ ub_ db_ := by
  obtain ⟨g1, g2, g3, g4, g5, g6, g7, g8, g9, g10, g11, g12⟩ := h
  exact ⟨g1, g2.s, g3, fun a ha => (g4 a ha).s, g5, g6, g7, tl_type g8 _, tx_type g9 _ _, g10, g11, g12⟩
theorem INV_clear {j9_ : Nat} {nb_ : Nat → Nat → Int32} {sf_ : Nat → Int32} {tn_ : Nat} {pl_ : Nat → Int32} {pp_ : Nat → Int32} {pb_ : Nat → Int32} {vh_ : Nat → Int32} {wh_ : Nat → Int32} {kp_ : Nat → Nat → Int32} {kt_ : Nat → Nat} {kl_ : Nat → Nat → Int32} {kc_ : Nat → Nat → Int32} {kb_ : Nat → Nat → Int32} {kv_ : Nat → Nat → Int32} {kw_ : Nat → Nat → Int32} {kf_ : Nat → Int32} {lw_ : Nat → Int32} {tx_ : Nat → Int32} {tl_ : Nat} {tb_ : Int32} {it_ : Int32} {ub_ : Int32} {db_ : Int32} (h : INV j9_ nb_ sf_ tn_ pl_ pp_ pb_ vh_ wh_ kp_ kt_ kl_ kc_ kb_ kv_ kw_ kf_ lw_ tx_ tl_ tb_ it_ ub_ db_)  : INV (j9_ + 1) nb_ sf_ tn_ pl_ pp_ pb_ vh_ wh_ kp_ kt_ kl_ kc_ kb_ kv_ kw_ kf_ lw_ tx_ 0 tb_ it_ ub_ db_ := by
  obtain ⟨g1, g2, g3, g4, g5, g6, g7, g8, g9, g10, g11, g12⟩ := h
  exact ⟨g1, g2.s, g3, fun a ha => (g4 a ha).s, g5, g6, g7, Nat.zero_le _, g9, g10, g11, g12⟩
theorem INV_rider {j9_ : Nat} {nb_ : Nat → Nat → Int32} {sf_ : Nat → Int32} {tn_ : Nat} {pl_ : Nat → Int32} {pp_ : Nat → Int32} {pb_ : Nat → Int32} {vh_ : Nat → Int32} {wh_ : Nat → Int32} {kp_ : Nat → Nat → Int32} {kt_ : Nat → Nat} {kl_ : Nat → Nat → Int32} {kc_ : Nat → Nat → Int32} {kb_ : Nat → Nat → Int32} {kv_ : Nat → Nat → Int32} {kw_ : Nat → Nat → Int32} {kf_ : Nat → Int32} {lw_ : Nat → Int32} {tx_ : Nat → Int32} {tl_ : Nat} {tb_ : Int32} {it_ : Int32} {ub_ : Int32} {db_ : Int32} (h : INV j9_ nb_ sf_ tn_ pl_ pp_ pb_ vh_ wh_ kp_ kt_ kl_ kc_ kb_ kv_ kw_ kf_ lw_ tx_ tl_ tb_ it_ ub_ db_) {lm : Nat → Int32} (hl : ∀ k, k < 5 → lm k = n_law tx_ tl_ lw_ k) : INV (j9_ + 1) nb_ sf_ tn_ pl_ pp_ pb_ vh_ wh_ kp_ kt_ kl_ kc_ kb_ kv_ kw_ kf_ lm tx_ (n_tl tx_ tl_) (n_told tx_ tl_ tb_) (n_it tx_ tl_ it_) ub_ db_ := by
  obtain ⟨g1, g2, g3, g4, g5, g6, g7, g8, g9, g10, g11, g12⟩ := h
  exact ⟨g1, g2.s, g3, fun a ha => (g4 a ha).s, g5, g6, law_rider g7 hl, tl_rider g8, g9, it_rider g10, g11, g12⟩
theorem INV_keep {j9_ : Nat} {nb_ : Nat → Nat → Int32} {sf_ : Nat → Int32} {tn_ : Nat} {pl_ : Nat → Int32} {pp_ : Nat → Int32} {pb_ : Nat → Int32} {vh_ : Nat → Int32} {wh_ : Nat → Int32} {kp_ : Nat → Nat → Int32} {kt_ : Nat → Nat} {kl_ : Nat → Nat → Int32} {kc_ : Nat → Nat → Int32} {kb_ : Nat → Nat → Int32} {kv_ : Nat → Nat → Int32} {kw_ : Nat → Nat → Int32} {kf_ : Nat → Int32} {lw_ : Nat → Int32} {tx_ : Nat → Int32} {tl_ : Nat} {tb_ : Int32} {it_ : Int32} {ub_ : Int32} {db_ : Int32} (h : INV j9_ nb_ sf_ tn_ pl_ pp_ pb_ vh_ wh_ kp_ kt_ kl_ kc_ kb_ kv_ kw_ kf_ lw_ tx_ tl_ tb_ it_ ub_ db_) (w : Int32) : INV (j9_ + 1) nb_ sf_ tn_ pl_ pp_ pb_ vh_ wh_ (kpU kp_ sf_ w) (kpU kt_ tn_ w) (kpU kl_ pl_ w) (kpU kc_ pp_ w) (kpU kb_ pb_ w) (kpU kv_ vh_ w) (kpU kw_ wh_ w) (kpU kf_ 1 w) lw_ tx_ tl_ tb_ it_ ub_ db_ := by
  obtain ⟨g1, g2, g3, g4, g5, g6, g7, g8, g9, g10, g11, g12⟩ := h
  refine ⟨g1, g2.s, g3, fun a ha => ?_, fun a ha => ?_, fun a ha => ?_, g7, g8, g9, g10, g11, g12⟩
  · by_cases c1_ : inR w 0 1 ∧ a = w.toNatClampNeg
    · rw [kpU_y c1_.1 c1_.2, kpU_y c1_.1 c1_.2, kpU_y c1_.1 c1_.2, kpU_y c1_.1 c1_.2, kpU_y c1_.1 c1_.2]; exact g2.s
    · rw [kpU_n c1_, kpU_n c1_, kpU_n c1_, kpU_n c1_, kpU_n c1_]; exact (g4 a ha).s
  · by_cases c1_ : inR w 0 1 ∧ a = w.toNatClampNeg
    · rw [kpU_y c1_.1 c1_.2, kpU_y c1_.1 c1_.2, kpU_y c1_.1 c1_.2, kpU_y c1_.1 c1_.2]; exact Or.inr g3
    · rw [kpU_n c1_, kpU_n c1_, kpU_n c1_, kpU_n c1_]; exact g5 a ha
  · by_cases c1_ : inR w 0 1 ∧ a = w.toNatClampNeg
    · rw [kpU_y c1_.1 c1_.2]; exact g3.fl
    · rw [kpU_n c1_]; exact g6 a ha
theorem bkU_x {α : Type} {g : Nat → α} {kf_ : Nat → Int32} {x : α} {w : Int32} (h : ¬ (inR w 0 1 ∧ ¬ kf_ w.toNatClampNeg = 0)) : bkU g kf_ x w = x := by
  unfold bkU
  by_cases h1_ : inR w 0 1
  · rw [if_pos h1_]
    by_cases h2_ : kf_ w.toNatClampNeg = 0
    · exact if_pos h2_
    · exact absurd ⟨h1_, h2_⟩ h
  · exact if_neg h1_
theorem bkU_g {α : Type} {g : Nat → α} {kf_ : Nat → Int32} {x : α} {w : Int32} (h : inR w 0 1 ∧ ¬ kf_ w.toNatClampNeg = 0) : bkU g kf_ x w = g w.toNatClampNeg := by
  unfold bkU
  rw [if_pos h.1, if_neg h.2]
theorem INV_back {j9_ : Nat} {nb_ : Nat → Nat → Int32} {sf_ : Nat → Int32} {tn_ : Nat} {pl_ : Nat → Int32} {pp_ : Nat → Int32} {pb_ : Nat → Int32} {vh_ : Nat → Int32} {wh_ : Nat → Int32} {kp_ : Nat → Nat → Int32} {kt_ : Nat → Nat} {kl_ : Nat → Nat → Int32} {kc_ : Nat → Nat → Int32} {kb_ : Nat → Nat → Int32} {kv_ : Nat → Nat → Int32} {kw_ : Nat → Nat → Int32} {kf_ : Nat → Int32} {lw_ : Nat → Int32} {tx_ : Nat → Int32} {tl_ : Nat} {tb_ : Int32} {it_ : Int32} {ub_ : Int32} {db_ : Int32} (h : INV j9_ nb_ sf_ tn_ pl_ pp_ pb_ vh_ wh_ kp_ kt_ kl_ kc_ kb_ kv_ kw_ kf_ lw_ tx_ tl_ tb_ it_ ub_ db_) (w : Int32) : INV (j9_ + 1) nb_ (bkU kp_ kf_ sf_ w) (bkU kt_ kf_ tn_ w) (bkU kl_ kf_ pl_ w) (bkU kc_ kf_ pp_ w) (bkU kb_ kf_ pb_ w) (bkU kv_ kf_ vh_ w) (bkU kw_ kf_ wh_ w) kp_ kt_ kl_ kc_ kb_ kv_ kw_ kf_ lw_ tx_ tl_ tb_ it_ ub_ db_ := by
  obtain ⟨g1, g2, g3, g4, g5, g6, g7, g8, g9, g10, g11, g12⟩ := h
  by_cases c1_ : inR w 0 1 ∧ ¬ kf_ w.toNatClampNeg = 0
  · rw [bkU_g c1_, bkU_g c1_, bkU_g c1_, bkU_g c1_, bkU_g c1_, bkU_g c1_, bkU_g c1_]
    obtain ⟨a, ha, ea⟩ := inR_n 1 (by decide) rfl c1_.1
    have hlt : w.toNatClampNeg < 2 := by rw [ea, cl_n (by omega)]; omega
    exact ⟨g1, (g4 _ hlt).s, (g5 _ hlt).resolve_left c1_.2, fun a ha => (g4 a ha).s, g5, g6, g7, g8, g9, g10, g11, g12⟩
  · rw [bkU_x c1_, bkU_x c1_, bkU_x c1_, bkU_x c1_, bkU_x c1_, bkU_x c1_, bkU_x c1_]
    exact ⟨g1, g2.s, g3, fun a ha => (g4 a ha).s, g5, g6, g7, g8, g9, g10, g11, g12⟩
