/-! ends, compares of natural numbers, truths at joins -/
theorem rt_v {cc : ByteArray} {pc : Nat} (h : decode cc pc = .ok (.return_, 1)) : rtOK none cc pc none [] := ⟨rfl, rfl, h⟩
theorem rt_i {cc : ByteArray} {pc : Nat} {x : Int32} (h : decode cc pc = .ok (.ireturn, 1)) : rtOK (some .int) cc pc (some (.int x)) [.int x] := ⟨x, rfl, rfl, h⟩
theorem rt_z {cc : ByteArray} {pc : Nat} {x : Int32} (hn : narrow .boolean (.int x) = .int x) (h : decode cc pc = .ok (.ireturn, 1)) : rtOK (some .boolean) cc pc (some (.int x)) [.int x] := ⟨x, rfl, rfl, hn, h⟩
theorem rt_c {cc : ByteArray} {pc : Nat} {x : Int32} (hn : narrow .char (.int x) = .int x) (h : decode cc pc = .ok (.ireturn, 1)) : rtOK (some .char) cc pc (some (.int x)) [.int x] := ⟨x, rfl, rfl, hn, h⟩
theorem rt_l {cc : ByteArray} {pc : Nat} {x : Int64} (h : decode cc pc = .ok (.lreturn, 1)) : rtOK (some .long) cc pc (some (.long x)) [.long x] := ⟨x, rfl, rfl, h⟩
theorem bI_congr {P Q : Prop} [Decidable P] [Decidable Q] (h : P ↔ Q) : bI P = bI Q := by
  by_cases hp : P
  · rw [bI_t hp, bI_t (h.mp hp)]
  · rw [bI_f hp, bI_f (fun q => hp (h.mpr q))]
theorem bI_fit (P : Prop) [Decidable P] : fits .boolean (.int (bI P)) = true := by
  by_cases h : P
  · rw [bI_t h]; rfl
  · rw [bI_f h]; rfl
theorem bI_vpn (P : Prop) [Decidable P] : vp_nar .boolean (bI P) = bI P := by
  by_cases h : P
  · rw [bI_t h]; rfl
  · rw [bI_f h]; rfl
theorem pa_t {c : Prop} (h : c) : True ↔ c := ⟨fun _ => h, fun _ => trivial⟩
theorem pa_f {c : Prop} (h : ¬ c) : False ↔ c := ⟨False.elim, h⟩
theorem pn_t {c : Prop} (h : c) : False ↔ ¬ c := ⟨False.elim, fun q => q h⟩
theorem pn_f {c : Prop} (h : ¬ c) : True ↔ ¬ c := ⟨fun _ => h, fun _ => trivial⟩
theorem po_t {c f : Prop} (h : c) : True ↔ c ∨ f := ⟨fun _ => Or.inl h, fun _ => trivial⟩
theorem po_f {c f P : Prop} (h : ¬ c) (i : P ↔ f) : P ↔ c ∨ f := ⟨fun q => Or.inr (i.mp q), fun q => q.elim (fun z => absurd z h) i.mpr⟩
theorem pd_t {c t P : Prop} (h : c) (i : P ↔ t) : P ↔ c ∧ t := ⟨fun q => ⟨h, i.mp q⟩, fun q => i.mpr q.2⟩
theorem pd_f {c t : Prop} (h : ¬ c) : False ↔ c ∧ t := ⟨False.elim, fun q => h q.1⟩
theorem pe_t {c f : Prop} (h : c) : False ↔ ¬ c ∧ f := ⟨False.elim, fun q => q.1 h⟩
theorem pe_f {c f P : Prop} (h : ¬ c) (i : P ↔ f) : P ↔ ¬ c ∧ f := ⟨fun q => ⟨h, i.mp q⟩, fun q => i.mpr q.2⟩
theorem pg_t {c t P : Prop} (h : c) (i : P ↔ t) : P ↔ ¬ c ∨ t := ⟨fun q => Or.inr (i.mp q), fun q => q.elim (fun z => absurd h z) i.mpr⟩
theorem pg_f {c t : Prop} (h : ¬ c) : True ↔ ¬ c ∨ t := ⟨fun _ => Or.inl h, fun _ => trivial⟩
theorem ph_t {c t f P : Prop} (h : c) (i : P ↔ t) : P ↔ (c ∧ t) ∨ (¬ c ∧ f) := ⟨fun q => Or.inl ⟨h, i.mp q⟩, fun q => q.elim (fun z => i.mpr z.2) (fun z => absurd h z.1)⟩
theorem ph_f {c t f P : Prop} (h : ¬ c) (i : P ↔ f) : P ↔ (c ∧ t) ∨ (¬ c ∧ f) := ⟨fun q => Or.inr ⟨h, i.mp q⟩, fun q => q.elim (fun z => absurd z.1 h) (fun z => i.mpr z.2)⟩
theorem arr_ext {cA : ClassId} {n : Nat} {f g : Nat → Int32} (h : ∀ j, j < n → f j = g j) : vp_cell cA (n, .inl f) = vp_cell cA (n, .inl g) := by
  have e : (Array.ofFn (n := n) fun j => Value.int (f j.val)) = (Array.ofFn (n := n) fun j => Value.int (g j.val)) := congrArg _ (funext fun j => congrArg Value.int (h j.val j.isLt))
  show ({ cls := cA, slots := (Array.ofFn (n := n) fun j => Value.int (f j.val)), vm := .none } : Cell) = { cls := cA, slots := (Array.ofFn (n := n) fun j => Value.int (g j.val)), vm := .none }
  rw [e]
section
variable {p : Program} {l : Launch} {e : Env} {R : Room} {s : State} {m : MethodId} {args : Array Value} {below : List Frame} {meth : Method} {c : Code} {H : Heap} {locs : List Loc} {cells slots : Nat} {Q : State → Prop} {cc : ByteArray} {pc : Nat} {ls : Array Slot} {rest : List Value} {D : va_G} {cy : Nat → ClassId} {A : Nat → Prop} {ws : va_W} {a : Nat}
theorem cn_ge (hexec : p.tables.exec = Jvm.exec) (hb : c.code = cc) (i j : Nat) {x y : Int32} (hx : x = nI i) (hy : y = nI j) (hi : i < 2 ^ 31) (hj : j < 2 ^ 31) {off : Int} {tgt : Nat} (hdg : decode cc pc = .ok (.if_icmp .ge off, 3)) (ht : (pc : Int) + off = (tgt : Int)) (kt : j ≤ i → W p l e R s m args below meth c H locs cells slots Q (F0 m tgt ls rest)) (kf : ¬ j ≤ i → W p l e R s m args below meth c H locs cells slots Q (F0 m (pc + 3) ls rest)) : W p l e R s m args below meth c H locs cells slots Q (F0 m pc ls (.int y :: .int x :: rest)) := by
  subst hx; subst hy
  exact lv_icmp_ge hexec hb hdg ht (fun h => kt ((nI_leI hj hi).mp h)) (fun h => kf (fun q => h ((nI_leI hj hi).mpr q)))
theorem cn_le (hexec : p.tables.exec = Jvm.exec) (hb : c.code = cc) (i j : Nat) {x y : Int32} (hx : x = nI i) (hy : y = nI j) (hi : i < 2 ^ 31) (hj : j < 2 ^ 31) {off : Int} {tgt : Nat} (hdg : decode cc pc = .ok (.if_icmp .le off, 3)) (ht : (pc : Int) + off = (tgt : Int)) (kt : i ≤ j → W p l e R s m args below meth c H locs cells slots Q (F0 m tgt ls rest)) (kf : ¬ i ≤ j → W p l e R s m args below meth c H locs cells slots Q (F0 m (pc + 3) ls rest)) : W p l e R s m args below meth c H locs cells slots Q (F0 m pc ls (.int y :: .int x :: rest)) := by
  subst hx; subst hy
  exact lv_icmp_le hexec hb hdg ht (fun h => kt ((nI_leI hi hj).mp h)) (fun h => kf (fun q => h ((nI_leI hi hj).mpr q)))
theorem cn_lt (hexec : p.tables.exec = Jvm.exec) (hb : c.code = cc) (i j : Nat) {x y : Int32} (hx : x = nI i) (hy : y = nI j) (hi : i < 2 ^ 31) (hj : j < 2 ^ 31) {off : Int} {tgt : Nat} (hdg : decode cc pc = .ok (.if_icmp .lt off, 3)) (ht : (pc : Int) + off = (tgt : Int)) (kt : i < j → W p l e R s m args below meth c H locs cells slots Q (F0 m tgt ls rest)) (kf : ¬ i < j → W p l e R s m args below meth c H locs cells slots Q (F0 m (pc + 3) ls rest)) : W p l e R s m args below meth c H locs cells slots Q (F0 m pc ls (.int y :: .int x :: rest)) := by
  subst hx; subst hy
  exact lv_icmp_lt hexec hb hdg ht (fun h => kt ((nI_ltI hi hj).mp h)) (fun h => kf (fun q => h ((nI_ltI hi hj).mpr q)))
theorem cn_gt (hexec : p.tables.exec = Jvm.exec) (hb : c.code = cc) (i j : Nat) {x y : Int32} (hx : x = nI i) (hy : y = nI j) (hi : i < 2 ^ 31) (hj : j < 2 ^ 31) {off : Int} {tgt : Nat} (hdg : decode cc pc = .ok (.if_icmp .gt off, 3)) (ht : (pc : Int) + off = (tgt : Int)) (kt : j < i → W p l e R s m args below meth c H locs cells slots Q (F0 m tgt ls rest)) (kf : ¬ j < i → W p l e R s m args below meth c H locs cells slots Q (F0 m (pc + 3) ls rest)) : W p l e R s m args below meth c H locs cells slots Q (F0 m pc ls (.int y :: .int x :: rest)) := by
  subst hx; subst hy
  exact lv_icmp_gt hexec hb hdg ht (fun h => kt ((nI_ltI hj hi).mp h)) (fun h => kf (fun q => h ((nI_ltI hj hi).mpr q)))
theorem cn_eq (hexec : p.tables.exec = Jvm.exec) (hb : c.code = cc) (i j : Nat) {x y : Int32} (hx : x = nI i) (hy : y = nI j) (hi : i < 2 ^ 31) (hj : j < 2 ^ 31) {off : Int} {tgt : Nat} (hdg : decode cc pc = .ok (.if_icmp .eq off, 3)) (ht : (pc : Int) + off = (tgt : Int)) (kt : i = j → W p l e R s m args below meth c H locs cells slots Q (F0 m tgt ls rest)) (kf : ¬ i = j → W p l e R s m args below meth c H locs cells slots Q (F0 m (pc + 3) ls rest)) : W p l e R s m args below meth c H locs cells slots Q (F0 m pc ls (.int y :: .int x :: rest)) := by
  subst hx; subst hy
  exact lv_icmp_eq hexec hb hdg ht (fun h => kt ((nI_eq hi hj).mp h)) (fun h => kf (fun q => h ((nI_eq hi hj).mpr q)))
theorem cn_ne (hexec : p.tables.exec = Jvm.exec) (hb : c.code = cc) (i j : Nat) {x y : Int32} (hx : x = nI i) (hy : y = nI j) (hi : i < 2 ^ 31) (hj : j < 2 ^ 31) {off : Int} {tgt : Nat} (hdg : decode cc pc = .ok (.if_icmp .ne off, 3)) (ht : (pc : Int) + off = (tgt : Int)) (kt : ¬ i = j → W p l e R s m args below meth c H locs cells slots Q (F0 m tgt ls rest)) (kf : i = j → W p l e R s m args below meth c H locs cells slots Q (F0 m (pc + 3) ls rest)) : W p l e R s m args below meth c H locs cells slots Q (F0 m pc ls (.int y :: .int x :: rest)) := by
  subst hx; subst hy
  exact lv_icmp_ne hexec hb hdg ht (fun h => kt (fun q => h ((nI_eq hi hj).mpr q))) (fun h => kf ((nI_eq hi hj).mp h))
/-- a static row, read -/
theorem al_s (hexec : p.tables.exec = Jvm.exec) (hb : c.code = cc) {t N : Nat} {f : Nat → Int32} (hT : va_T .int t N (fun j => .int (f j)) A s s.heap) (hS : va_S A s.heap H locs) (j : Nat) {i : Int32} (hi : i = nI j) (hj : j < N) (hN : N < 2 ^ 31) (hdg : decode cc pc = .ok (.iaload, 1))
    (kk : W p l e R s m args below meth c H locs cells slots Q (F0 m (pc + 1) ls (.int (f j) :: rest))) : W p l e R s m args below meth c H locs cells slots Q (F0 m pc ls (.int i :: .ref t :: rest)) := by
  subst hi
  exact va_ti hexec hb hT hS (vp_in_nI hj hN) (v := .int (f j)) (by rw [nI_clamp (Nat.lt_trans hj hN)]) hdg kk
/-- a row of ints under another function that says the same at its places -/
theorem ro_ws {n : Nat} {f g : Nat → Int32} {cA : ClassId} (hP : va_P D vwCl ws H) (hD : va_D A ws) (k : Nat) (hk : ws[k]? = some (a, .inl (cA, n, .inl f))) (h : ∀ j, j < n → f j = g j) : va_P D vwCl (ws.set k (a, .inl (cA, n, .inl g))) H ∧ va_D A (ws.set k (a, .inl (cA, n, .inl g))) := by
  refine ⟨hP.set hD hk ?_ (fun _ _ => rfl), hD.set hk⟩
  have h0 := hP k _ hk
  have h1 : H[a]? = some (vp_cell cA (n, .inl f)) := h0
  show H[a]? = some (vp_cell cA (n, .inl g))
  rw [h1]
  exact congrArg some (arr_ext h)
end
