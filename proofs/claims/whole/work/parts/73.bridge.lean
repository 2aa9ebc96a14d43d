/-! the class's answers are the reference's: moves, counts, kinds, habits -/
theorem mv_eq (f : Nat → Int32) (k : Nat) (d : Int32) : mvC f k d = mvN f k d := by unfold mvC mvN; rw [pc_ct, pc_ct]
theorem moves_eq (nb : Nat → Nat → Int32) (i k u : Int32) : c_moves nb i k u = r_moves nb i k u := by unfold c_moves r_moves; rw [mv_eq]
theorem cu_eq (nb : Nat → Nat → Int32) : ∀ n, cuC nb n = cuN nb n
  | 0 => rfl
  | n + 1 => by
    show cuC nb n + pc64 (rg (nb n) 41) = cuN nb n + ct (nb n) 41
    rw [cu_eq nb n, pc_ct]
theorem count_eq (nb : Nat → Nat → Int32) {tb it : Int32} (h : it = pc32 tb) (tp w : Int32) : c_count nb tb tp w = r_count nb it tp w := by unfold c_count r_count; rw [cu_eq, h]
theorem scv_eq (f : Nat → Int32) (h : Int32) {j : Nat} (hj : j ≤ 6) : scC f h j = scV f h (nI j) := by
  have hu : uns f = ct f 41 - ct (upd f 0 0) 41 := by unfold uns; rw [mny_ct]
  have ht : unt f = ct f 41 - ct (upd f 1 0) 41 := by unfold unt; rw [mny_ct]
  unfold scV
  rcases (show j = 0 ∨ j = 1 ∨ j = 2 ∨ j = 3 ∨ j = 4 ∨ j = 5 ∨ j = 6 by omega) with q | q | q | q | q | q | q
  · subst q; rw [if_pos (show nI 0 = 0 from rfl)]; exact pc_ct f
  · subst q; rw [if_neg (show ¬ nI 1 = 0 by decide), if_pos (show nI 1 = 1 from rfl)]; show pc64 (rg f 41) + f 1 = _; rw [pc_ct]
  · subst q; rw [if_neg (show ¬ nI 2 = 0 by decide), if_neg (show ¬ nI 2 = 1 by decide), if_pos (show nI 2 = 2 from rfl), hu]; show pc64 (rg f 41) - pc64 (rg (upd f 0 0) 41) = _; rw [pc_ct, pc_ct]
  · subst q; rw [if_neg (show ¬ nI 3 = 0 by decide), if_neg (show ¬ nI 3 = 1 by decide), if_neg (show ¬ nI 3 = 2 by decide), if_pos (show nI 3 = 3 from rfl), ht]; show pc64 (rg f 41) - pc64 (rg (upd f 1 0) 41) = _; rw [pc_ct, pc_ct]
  · subst q; rw [if_neg (show ¬ nI 4 = 0 by decide), if_neg (show ¬ nI 4 = 1 by decide), if_neg (show ¬ nI 4 = 2 by decide), if_neg (show ¬ nI 4 = 3 by decide), if_pos (show nI 4 = 4 from rfl), ht]; show 2 * (pc64 (rg f 41) - pc64 (rg (upd f 1 0) 41)) + f 0 = _; rw [pc_ct, pc_ct]
  · subst q; rw [if_neg (show ¬ nI 5 = 0 by decide), if_neg (show ¬ nI 5 = 1 by decide), if_neg (show ¬ nI 5 = 2 by decide), if_neg (show ¬ nI 5 = 3 by decide), if_neg (show ¬ nI 5 = 4 by decide), if_pos (show nI 5 = 5 from rfl)]; show pc64 (rg f 41) - h / 10 = _; rw [pc_ct]
  · subst q; rw [if_neg (show ¬ nI 6 = 0 by decide), if_neg (show ¬ nI 6 = 1 by decide), if_neg (show ¬ nI 6 = 2 by decide), if_neg (show ¬ nI 6 = 3 by decide), if_neg (show ¬ nI 6 = 4 by decide), if_neg (show ¬ nI 6 = 5 by decide)]; show pc64 (rg f 41) * f 3 = _; rw [pc_ct]
theorem score_eq (nb : Nat → Nat → Int32) (h kd i : Int32) : c_score nb h kd i = r_score nb h kd i := by
  unfold c_score r_score
  by_cases hok : okSc kd i
  · rw [if_pos hok, if_pos hok]
    obtain ⟨j, hj, rfl⟩ := inR_n 6 (by decide) rfl hok.1
    rw [cl_n (by omega), scv_eq _ _ hj]
  · rw [if_neg hok, if_neg hok]
theorem tr_eq (tr : Int64) {j : Nat} (hj : j ≤ 6) : trC tr j = tr + trV (nI j) := by
  rcases (show j = 0 ∨ j = 1 ∨ j = 2 ∨ j = 3 ∨ j = 4 ∨ j = 5 ∨ j = 6 by omega) with q | q | q | q | q | q | q <;> subst q
  · rfl
  · show tr + (s_TRACE 1).toInt64 + (s_TRACE 0).toInt64 = _; rw [Int64.add_assoc]; rfl
  · show tr + (s_TRACE 2).toInt64 + (s_TRACE 0).toInt64 = _; rw [Int64.add_assoc]; rfl
  · show tr + (s_TRACE 3).toInt64 + (s_TRACE 0).toInt64 = _; rw [Int64.add_assoc]; rfl
  · show tr + (s_TRACE 4).toInt64 + (s_TRACE 3).toInt64 + (s_TRACE 0).toInt64 = _; rw [Int64.add_assoc, Int64.add_assoc]; rfl
  · show tr + (s_TRACE 5).toInt64 + (s_TRACE 0).toInt64 = _; rw [Int64.add_assoc]; rfl
  · show tr + (s_TRACE 6).toInt64 + (s_TRACE 0).toInt64 = _; rw [Int64.add_assoc]; rfl
theorem trace_eq (tr : Int64) (kd i : Int32) : c_trace tr kd i = n_trace tr kd i := by
  unfold c_trace n_trace
  by_cases hok : okSc kd i
  · rw [if_pos hok, if_pos hok]
    obtain ⟨j, hj, rfl⟩ := inR_n 6 (by decide) rfl hok.1
    rw [cl_n (by omega), tr_eq _ hj]
  · rw [if_neg hok, if_neg hok]
theorem at_eq (sf : Nat → Int32) (w : Int32) : r_at2 sf w = r_at sf w := by
  unfold r_at2 r_at atN
  by_cases hok : inR w 0 6
  · rw [if_pos hok, if_pos hok]
    obtain ⟨j, hj, rfl⟩ := inR_n 6 (by decide) rfl hok
    rw [cl_n (by omega)]
    by_cases h5 : 5 ≤ j
    · have p5 : (5 : Int32) ≤ nI j := (nI_leI (a := 5) (by omega) (by omega)).mpr h5
      rw [if_pos h5, if_pos p5]
      by_cases e : j = 5
      · rw [if_pos e, if_pos (by rw [e]; rfl)]
      · have p6 : ¬ nI j = 5 := fun z => e ((nI_eq (b := 5) (by omega) (by omega)).mp z)
        rw [if_neg e, if_neg p6]
    · have p5 : ¬ (5 : Int32) ≤ nI j := fun z => h5 ((nI_leI (a := 5) (by omega) (by omega)).mp z)
      rw [if_neg h5, if_neg p5]
  · rw [if_neg hok, if_neg hok]
-- habits
def HB (sf hv hw : Nat → Int32) : Prop := ∀ z, z < 2 → hv z = sf (25 + z) ∧ hw z = sf (27 + z) ∧ (sf (27 + z) = 0 ∨ sf (27 + z) = 1) ∧ 0 ≤ (sf (25 + z)).toInt ∧ (sf (25 + z)).toInt ≤ 100
def smallI (x : Int32) (lo hi : Int) : Prop := lo ≤ x.toInt ∧ x.toInt ≤ hi
theorem hb_U {sf hv hw : Nat → Int32} {ub : Int32} {k : Nat} (h : HB sf hv hw) (hk : k < 2) (hu : smallI ub 0 50) : hbU hv hw ub k = wkU sf ub k ∧ 0 ≤ (wkU sf ub k).toInt ∧ (wkU sf ub k).toInt ≤ 100 ∧ (sf (27 + k) = 1 → wkU sf ub k = 100) := by
  obtain ⟨e1, e2, e3, e4, e5⟩ := h k hk
  have ea : (sf (25 + k) + ub).toInt = (sf (25 + k)).toInt + ub.toInt := by rw [Int32.toInt_add, bm32 (by have := hu.1; omega) (by have := hu.2; omega)]
  have c100 : (100 : Int32).toInt = 100 := rfl
  unfold hbU wkU
  rw [e1, e2]
  rcases e3 with q | q
  · have hn : ¬ sf (27 + k) = 1 := by rw [q]; decide
    rw [if_pos q, if_neg hn]
    by_cases h1 : sf (25 + k) + ub < 100
    · have h2 : sf (25 + k) + ub ≤ 100 := Int32.le_iff_toInt_le.mpr (by have := Int32.lt_iff_toInt_lt.mp h1; omega)
      rw [if_pos h1, if_pos h2, ea]
      exact ⟨rfl, by have := hu.1; omega, by have := Int32.le_iff_toInt_le.mp h2; omega, fun z => absurd z hn⟩
    · rw [if_neg h1]
      by_cases h2 : sf (25 + k) + ub ≤ 100
      · have e : sf (25 + k) + ub = 100 := Int32.toInt_inj.mp (by have a1 := Int32.le_iff_toInt_le.mp h2; have a2 := Int32.le_iff_toInt_le.mp (Int32.not_lt.mp h1); omega)
        rw [if_pos h2, e]; exact ⟨rfl, by decide, by decide, fun _ => rfl⟩
      · rw [if_neg h2]; exact ⟨rfl, by decide, by decide, fun _ => rfl⟩
  · have hn : ¬ sf (27 + k) = 0 := by rw [q]; decide
    rw [if_neg hn, if_pos q]; exact ⟨rfl, by decide, by decide, fun _ => rfl⟩
theorem hb_D {sf hv hw : Nat → Int32} {db : Int32} {k : Nat} (h : HB sf hv hw) (hk : k < 2) (hd : smallI db 0 50) : hbD hv db k = wkD sf db k ∧ 0 ≤ (wkD sf db k).toInt ∧ (wkD sf db k).toInt ≤ 100 := by
  obtain ⟨e1, -, -, e4, e5⟩ := h (1 - k) (by omega)
  have ea : (sf (25 + (1 - k)) - db).toInt = (sf (25 + (1 - k))).toInt - db.toInt := by rw [Int32.toInt_sub, bm32 (by have := hd.2; omega) (by have := hd.1; omega)]
  have c0 : (0 : Int32).toInt = 0 := rfl
  unfold hbD wkD
  rw [e1]
  by_cases h1 : 0 < sf (25 + (1 - k)) - db
  · have h2 : 0 ≤ sf (25 + (1 - k)) - db := Int32.le_iff_toInt_le.mpr (by have := Int32.lt_iff_toInt_lt.mp h1; omega)
    rw [if_pos h1, if_pos h2, ea]
    exact ⟨rfl, by have := Int32.le_iff_toInt_le.mp h2; omega, by have := hd.1; omega⟩
  · rw [if_neg h1]
    by_cases h2 : 0 ≤ sf (25 + (1 - k)) - db
    · have e : sf (25 + (1 - k)) - db = 0 := Int32.toInt_inj.mp (by have a1 := Int32.le_iff_toInt_le.mp h2; have a2 := Int32.le_iff_toInt_le.mp (Int32.not_lt.mp h1); omega)
      rw [if_pos h2, e]; exact ⟨rfl, by decide, by decide⟩
    · rw [if_neg h2]; exact ⟨rfl, by decide, by decide⟩
theorem wkF_lo (sf : Nat → Int32) (ub db : Int32) (x : Nat) {z : Nat} (h : z < 25) : wkF sf ub db x z = sf z := by
  unfold wkF wk2
  rw [upd_ne _ _ (by omega), upd_ne _ _ (by omega), upd_ne _ _ (by omega)]
theorem hb_week {sf hv hw : Nat → Int32} {ub db : Int32} {k : Nat} (h : HB sf hv hw) (hk : k < 2) (hu : smallI ub 0 50) (hd : smallI db 0 50) : HB (wkF sf ub db k) (upd (upd hv k (hbU hv hw ub k)) (1 - k) (hbD hv db k)) (upd hw k (bI (hbU hv hw ub k = 100))) := by
  obtain ⟨u1, u2, u3, u4⟩ := hb_U h hk hu
  obtain ⟨d1, d2, d3⟩ := hb_D h hk hd
  rw [u1, d1]
  have w25 : wk2 sf ub db k (25 + k) = wkU sf ub k := by unfold wk2; rw [upd_ne _ _ (by omega), upd_at]
  have w27 : wk2 sf ub db k (27 + k) = sf (27 + k) := by unfold wk2; rw [upd_ne _ _ (by omega), upd_ne _ _ (by omega)]
  have hfl : (if wk2 sf ub db k (25 + k) = 100 then 1 else wk2 sf ub db k (27 + k)) = bI (wkU sf ub k = 100) := by
    rw [w25, w27]
    by_cases e : wkU sf ub k = 100
    · rw [if_pos e, bI_t e]
    · rw [if_neg e, bI_f e]
      exact (h k hk).2.2.1.resolve_right (fun z => e (u4 z))
  intro z hz
  unfold wkF
  rw [hfl]
  by_cases e : z = k
  · subst e
    rw [upd_at, upd_ne _ _ (show z ≠ 1 - z by omega), upd_at, upd_at, upd_ne _ _ (show 25 + z ≠ 27 + z by omega), w25]
    exact ⟨rfl, rfl, bI_01 _, u2, u3⟩
  · have e2 : z = 1 - k := by omega
    have w25' : wk2 sf ub db k (25 + z) = wkD sf db k := by unfold wk2; rw [e2, upd_at]
    have w27' : wk2 sf ub db k (27 + z) = sf (27 + z) := by unfold wk2; rw [upd_ne _ _ (by omega), upd_ne _ _ (by omega)]
    rw [upd_ne _ _ (show 25 + z ≠ 27 + k by omega), upd_ne _ _ (show 27 + z ≠ 27 + k by omega), w25', w27', upd_ne hw _ e]
    refine ⟨by rw [← e2, upd_at], (h z hz).2.1, (h z hz).2.2.1, d2, d3⟩
theorem hb_weeks {ub db : Int32} {k : Nat} (hk : k < 2) (hu : smallI ub 0 50) (hd : smallI db 0 50) : ∀ (n : Nat) (sf hv hw : Nat → Int32), HB sf hv hw → HB (wkN ub db k n sf) (hkN k ub db n (hv, hw)).1 (hkN k ub db n (hv, hw)).2 ∧ ∀ z, z < 25 → wkN ub db k n sf z = sf z
  | 0, _, _, _, h => ⟨h, fun _ _ => rfl⟩
  | n + 1, sf, hv, hw, h => by
    obtain ⟨a, b⟩ := hb_weeks hk hu hd n _ _ _ (hb_week h hk hu hd)
    exact ⟨a, fun z hz => (b z hz).trans (wkF_lo _ _ _ _ hz)⟩
theorem weeks_eq {sf hv hw : Nat → Int32} {ub db : Int32} (h : HB sf hv hw) (hu : smallI ub 0 50) (hd : smallI db 0 50) (w n : Int32) : c_weeks hv hw ub db w n = r_weeks sf ub db w n ∧ HB (n_weeks sf ub db w n) (c_wk hv hw ub db w n).1 (c_wk hv hw ub db w n).2 ∧ ∀ z, z < 25 → n_weeks sf ub db w n z = sf z := by
  unfold c_weeks r_weeks c_wk n_weeks
  by_cases hok : okWk w n
  · rw [if_pos hok, if_pos hok, if_pos hok, if_pos hok]
    obtain ⟨k, hk, rfl⟩ := inR_n 1 (by decide) rfl hok.1
    obtain ⟨j, hj, hj2, rfl⟩ := inR_1 50 (by decide) rfl hok.2
    rw [cl_n (by omega), cl_n (by omega)]
    obtain ⟨a, b⟩ := hb_weeks (k := k) (by omega) hu hd j sf hv hw h
    exact ⟨(a k (by omega)).1, a, b⟩
  · rw [if_neg hok, if_neg hok, if_neg hok, if_neg hok]
    exact ⟨rfl, h, fun _ _ => rfl⟩
theorem tw_eq {sf hv hw : Nat → Int32} {ub : Int32} {k : Nat} (h : HB sf hv hw) (hk : k < 2) (hu : smallI ub 1 50) : twN hv hw ub k = hbN sf ub k := by
  obtain ⟨e1, e2, e3, e4, e5⟩ := h k hk
  unfold twN hbN
  rw [e1, e2]
  have c1 : (1 : Int32).toInt = 1 := rfl
  have c100 : (100 : Int32).toInt = 100 := rfl
  have hm : (if 1 < ub then ub else 1) = ub := by
    by_cases q : 1 < ub
    · rw [if_pos q]
    · rw [if_neg q]
      exact Int32.toInt_inj.mp (by have a := Int32.le_iff_toInt_le.mp (Int32.not_lt.mp q); have b := hu.1; omega)
  have hl : (100 - sf (25 + k)).toInt = 100 - (sf (25 + k)).toInt := by rw [Int32.toInt_sub, bm32 (by rw [c100]; omega) (by rw [c100]; omega)]; rfl
  rw [hm]
  rcases e3 with q | q
  · rw [if_pos q]
    by_cases f : sf (25 + k) = 100
    · rw [if_pos f, f]
      obtain ⟨j, hj, e⟩ := nI_of (x := ub) (fun z => by have := Int32.lt_iff_toInt_lt.mp z; rw [show (0 : Int32).toInt = 0 from rfl] at this; have := hu.1; omega)
      have hj2 : 1 ≤ j ∧ j ≤ 50 := by have := hu.1; have := hu.2; rw [e, nI_toInt hj] at *; omega
      rw [e, show (100 : Int32) - 100 = nI 0 by decide, nI_add, show (1 : Int32) = nI 1 from rfl, pk_sub (by omega), pk_div (by omega) (by omega) (by omega), Nat.div_eq_of_lt (by omega)]
      rfl
    · have hn : ¬ sf (27 + k) = 1 := by rw [q]; decide
      rw [if_neg f, if_neg hn]
  · have hn : ¬ sf (27 + k) = 0 := by rw [q]; decide
    rw [if_neg hn]
    by_cases f : sf (25 + k) = 100
    · rw [if_pos f, f]; decide
    · have hf : (sf (25 + k)).toInt ≠ 100 := fun z => f (Int32.toInt_inj.mp z)
      rw [if_neg f, if_pos q]
      by_cases g : 100 - sf (25 + k) < 1
      · have := Int32.lt_iff_toInt_lt.mp g; omega
      · rw [if_neg g]
theorem habit_eq {sf hv hw : Nat → Int32} {ub : Int32} (h : HB sf hv hw) (hu : smallI ub 1 50) (w u : Int32) : c_habit hv hw ub w u = r_habit sf ub w u := by
  unfold c_habit r_habit
  by_cases hok : okHab w u
  · rw [if_pos hok, if_pos hok]
    obtain ⟨k, hk, rfl⟩ := inR_n 1 (by decide) rfl hok.1
    rw [cl_n (by omega), tw_eq h (by omega) hu, (h k (by omega)).1]
  · rw [if_neg hok, if_neg hok]
