/-! whole rows copied by System.arraycopy -/
section
variable {p : Program} {l : Launch} {e : Env} {R : Room} {s : State} {m : MethodId} {args : Array Value} {below : List Frame} {meth : Method} {c : Code} {H : Heap} {locs : List Loc} {cells slots : Nat} {Q : State → Prop} {cc : ByteArray} {pc : Nat} {ls : Array Slot} {rest : List Value} {D : va_G} {cy : Nat → ClassId} {A : Nat → Prop} {ws : va_W} {a a0 : Nat}
/-- a row of n ints becomes what another row of n ints is -/
theorem cp_i (hexec : p.tables.exec = Jvm.exec) (hb : c.code = cc) (hml : c.maxLocals = ls.size) {own : String} {index : Nat} (hown : s.vm.findClass own = some m.cls) (hlink : (Cond.methodLink own index arraycopyName).before args s = true) (hnat : (Cond.native arraycopyName).before args s = true) (hstat : (Cond.static arraycopyName).before args s = true) (hini : (Cond.initialized "java/lang/System").before args s = true)
    (hK : va_K D vwCl (tysG cy) s) (hP : va_P D vwCl ws H) (hD : va_D A ws) (hS : va_S A s.heap H locs) (q0 q1 : Nat) {n : Nat} {f g : Nat → Int32} (ha0 : ws[q0]? = some (a0, .inl (cy 0, n, .inl f))) (ha1 : ws[q1]? = some (a, .inl (cy 0, n, .inl g))) {z : Int32} (hz : z = nI n) (hn : n < 1000)
    (hframes : 1 ≤ R.frames) (hlocals : (rest.map fun v => v.category).sum + (nativeFrameWords "java/lang/System" "arraycopy" 5 + 11) ≤ R.locals) (hdg : decode cc pc = .ok (.invokestatic index, 3))
    (kk : ∀ (H1 : Heap) (locs1 : List Loc), va_P D vwCl (ws.set q1 (a, .inl (cy 0, n, .inl f))) H1 → va_D A (ws.set q1 (a, .inl (cy 0, n, .inl f))) → va_S A s.heap H1 locs1 → W p l e R s m args below meth c H1 locs1 cells slots Q (F0 m (pc + 3) ls rest)) : W p l e R s m args below meth c H locs cells slots Q (F0 m pc ls (.int z :: .int 0 :: .ref a :: .int 0 :: .ref a0 :: rest)) := by
  subst hz
  have hc : (nI n).toNatClampNeg = n := nI_clamp (by omega)
  have h0 : (0 : Int32).toNatClampNeg = 0 := sb_cl0
  refine va_copyi hexec hb hml hown hlink hnat hstat hini hK hP hD hS q0 q1 0 0 ha0 ha1 rfl rfl rfl (by decide) (by decide) (nI_pos (by omega)) (by rw [h0, hc]; omega) (by rw [h0, hc]; omega) (fun _ _ => rfl) hframes hlocals hdg (fun H1 locs1 hP1 hD1 hS1 => ?_)
  have hk : q1 < ws.length := (List.getElem?_eq_some_iff.mp ha1).1
  obtain ⟨hP2, hD2⟩ := ro_ws (g := f) hP1 hD1 q1 (by rw [List.getElem?_set_self hk]) (fun j hj => by rw [h0, hc, sb_cpy0 hj])
  rw [List.set_set] at hP2 hD2
  exact kk H1 locs1 hP2 hD2 hS1
/-- a row of N ints becomes what a static row of N ints is -/
theorem cp_s (hexec : p.tables.exec = Jvm.exec) (hb : c.code = cc) (hml : c.maxLocals = ls.size) {own : String} {index : Nat} (hown : s.vm.findClass own = some m.cls) (hlink : (Cond.methodLink own index arraycopyName).before args s = true) (hnat : (Cond.native arraycopyName).before args s = true) (hstat : (Cond.static arraycopyName).before args s = true) (hini : (Cond.initialized "java/lang/System").before args s = true)
    (hK : va_K D vwCl (tysG cy) s) (hP : va_P D vwCl ws H) (hD : va_D A ws) (hS : va_S A s.heap H locs) (q1 : Nat) {n : Nat} {f g : Nat → Int32} (hT : va_T .int a0 n (fun j => .int (f j)) A s s.heap) (ha1 : ws[q1]? = some (a, .inl (cy 0, n, .inl g))) {z : Int32} (hz : z = nI n) (hn : n < 1000)
    (hframes : 1 ≤ R.frames) (hlocals : (rest.map fun v => v.category).sum + (nativeFrameWords "java/lang/System" "arraycopy" 5 + 11) ≤ R.locals) (hdg : decode cc pc = .ok (.invokestatic index, 3))
    (kk : ∀ (H1 : Heap) (locs1 : List Loc), va_P D vwCl (ws.set q1 (a, .inl (cy 0, n, .inl f))) H1 → va_D A (ws.set q1 (a, .inl (cy 0, n, .inl f))) → va_S A s.heap H1 locs1 → W p l e R s m args below meth c H1 locs1 cells slots Q (F0 m (pc + 3) ls rest)) : W p l e R s m args below meth c H locs cells slots Q (F0 m pc ls (.int z :: .int 0 :: .ref a :: .int 0 :: .ref a0 :: rest)) := by
  subst hz
  have hc : (nI n).toNatClampNeg = n := nI_clamp (by omega)
  have hi : (nI n).toInt = (n : Int) := nI_toInt (by omega)
  have h0 : (0 : Int32).toNatClampNeg = 0 := sb_cl0
  have hz0 : (0 : Int32).toInt = 0 := rfl
  obtain ⟨scr, y1, ⟨y2, k0, hk0, cm0, hkk0⟩, y3, y4, -, y5, y6⟩ := hT
  have hlt : a0 < s.heap.size := (Array.getElem?_eq_some_iff.mp y1).1
  have hc0 : H[a0]? = some scr := by rw [hS.2.1 a0 hlt y6]; exact y1
  have hc1 : H[a]? = some (vp_cell (cy 0) (n, .inl g)) := hP q1 _ ha1
  obtain ⟨-, k1, hk1, cm1, hkk1⟩ := (hK.2 0 (cy 0, .int) rfl).1 n (fun j => .int (g j))
  have hsz : (vp_cell (cy 0) (n, .inl g)).slots.size = n := arrV_size _ _ _
  have hq : q1 < ws.length := (List.getElem?_eq_some_iff.mp ha1).1
  intro T hT2 X
  obtain ⟨vm', X', go⟩ := X.arraycopy hexec hown hlink hnat hstat hini (src := a0) (dst := a) (cs := scr) (cd := vp_cell (cy 0) (n, .inl g)) (srcPos := 0) (destPos := 0) (n := nI n) (by rw [hT2]; exact hc0) (by rw [hT2]; exact hc1) y2 (fun _ h => by cases h) y3 (fun h => by cases h) hk0 hk1 hkk0 hkk1 (by simp [refKind]) (by decide) (by decide) (nI_pos (by omega)) (by rw [hz0, hi]; omega) (by rw [hz0, hi, hsz]; omega)
    (fun _ _ j hj => by
      have e9 : scr.slots.getD ((0 : Int32).toNatClampNeg + j) .null = .int (f j) := by rw [h0, Nat.zero_add, Array.getD_eq_getD_getElem?, y5 j (by omega)]; rfl
      rw [e9]
      exact ⟨rfl, trivial⟩)
    (g := F0 m pc ls (.int (nI n) :: .int 0 :: .ref a :: .int 0 :: .ref a0 :: rest)) rfl (by rw [hml]) (rest := rest) rfl (by rw [hb]; exact hdg) hframes (by show 2 * 0 + _ + _ ≤ _; omega)
  have e1 : copied scr (vp_cell (cy 0) (n, .inl g)) 0 0 (nI n) = vp_cell (cy 0) (n, .inl f) := by
    refine (va_copiedX (fun z => .int z) scr (cy 0) f g y5 (by rw [h0, hc]; omega)).trans ?_
    exact arr_ext (cA := cy 0) (n := n) (f := va_cpy f g (0 : Int32).toNatClampNeg (0 : Int32).toNatClampNeg (nI n).toNatClampNeg) (g := f) (fun j hj => by rw [h0, hc, sb_cpy0 hj])
  rw [e1] at X' go
  have hl : a < H.size := (Array.getElem?_eq_some_iff.mp hc1).1
  have hh : ((T.setVm vm').setCell a (vp_cell (cy 0) (n, .inl f))).heap = H.setIfInBounds a (vp_cell (cy 0) (n, .inl f)) := by rw [← hT2]; rfl
  have oq : ∀ q : Nat, q ≠ a → (H.setIfInBounds a (vp_cell (cy 0) (n, .inl f)))[q]? = H[q]? := fun q hq => by simp [Array.getElem?_setIfInBounds, Ne.symm hq]
  have hAa : A a := hD.2 q1 _ ha1
  obtain ⟨t, b1, b2⟩ := kk _ _ (hP.set hD ha1 (show (H.setIfInBounds a _)[a]? = some _ by simp [Array.getElem?_setIfInBounds, hl]) oq) (hD.set ha1)
    ⟨by simp; exact hS.1, fun q g1 g2 => by rw [oq q (fun w => g2 (by rw [w]; exact hAa))]; exact hS.2.1 q g1 g2, fun q hq9 => by
      rcases List.mem_append.mp hq9 with h | h
      · exact hS.2.2 q h
      · obtain ⟨z, -, hz⟩ := List.mem_map.mp h
        rw [← hz]; exact hAa⟩ _ hh X'
  exact ⟨t, go t b1, b2⟩
end
