/-! rows for the constant text, for arrays of references -/
section
variable {p : Program} {l : Launch} {e : Env} {R : Room} {s : State} {m : MethodId} {args : Array Value} {below : List Frame} {meth : Method} {c : Code} {H : Heap} {locs : List Loc} {cells slots : Nat} {Q : State → Prop} {cc : ByteArray} {pc : Nat} {ls : Array Slot} {rest st0 : List Value} {D : va_G} {cy : Nat → ClassId} {sa : Nat → Nat} {A : Nat → Prop} {H0 : Heap} {ws wc wr : va_W} {a : Nat}
theorem EVt.recv (hE : EVt sa A s s.heap) (hS : va_S A s.heap H locs) : ∃ cell : Cell, H[sa 8]? = some cell ∧ cell.vm.isStatics = false ∧ s.vm.findClass "java/lang/String" = some cell.cls := by
  obtain ⟨cell, h1, h2, h3, -⟩ := hE.2.1.kept hS.2.1
  exact ⟨cell, h1, h2, h3⟩
/-- a call on an object that the environment holds -/
theorem ca_VS {S : Type} {post : Option Value → S → Prop} {W1 : S → va_W} {mc ms nL maxL n idx b : Nat} {Ts tw tw' : List Cond} {own C : String} {y : MethodName} {bytes : ByteArray} {ret : Option FieldType} {rm : Room} {av : List Value} (F : CallFix p m c cc nL s args Ts own) (hK : va_K D vwCl (tysG cy) s) (hE : EV sa A s s.heap) (hA : ∀ q, s.heap.size ≤ q → A q) (hP : va_P D vwCl ws H) (hD : va_D A ws) (hS : va_S A s.heap H locs) (hls : ls.size = nL)
    (hM : CT (S := S) l D cy sa y tw rm (.ref b :: av) wc post W1 mc ms) (hG : GoodIn Ts (wsV own idx C y tw)) (hrv : ∃ cell : Cell, H[b]? = some cell ∧ cell.vm.isStatics = false ∧ s.vm.findClass C = some cell.cls) (hw : tw = Cond.code y bytes maxL ret :: tw') (hrc : rm.cells = mc) (hrs : rm.slots = ms)
    (hd : y.cls = C ∧ y.cls ≠ "java/lang/invoke/MethodHandle" ∧ y.cls ≠ "java/lang/invoke/VarHandle" ∧ (parseMethodDescriptor y.desc).map (fun d => d.parameters.length) = some n) (hRm : rm.frames + 1 ≤ R.frames ∧ 8 + (maxL + 11) + rm.locals ≤ R.locals)
    (isC isR : List Nat) (hnC : va_nd isC = true) (hC : isC.map (fun i => ws[i]?) = wc.map some) (hR : isR.map (fun i => ws[i]?) = wr.map some) (hn : va_nd isR = true) (hdis : ∀ i ∈ isR, i ∉ isC)
    (hav : av.length = n) (hst : st0 = av.reverse ++ .ref b :: rest) (hW8 : (rest.map fun v => v.category).sum ≤ 8) (hdg : decode cc pc = .ok (.invokevirtual idx, 3)) (hf : cells + mc ≤ R.cells ∧ slots + ms ≤ R.slots)
    (kk : ∀ (v : Option Value) (u : S) (H1 : Heap) (locs1 : List Loc), post v u → va_P D vwCl (wr ++ W1 u) H1 → va_D A (wr ++ W1 u) → va_S A s.heap H1 locs1 → W p l e R s m args below meth c H1 locs1 (cells + mc) (slots + ms) Q (F0 m (pc + 3) ls (v.toList ++ rest))) : W p l e R s m args below meth c H locs cells slots Q (F0 m pc ls st0) := by
  have hpre := ca_pre (av := .ref b :: av) rfl hK hE hA hP hD hS isC hnC hC
  refine ca_run (cy := cy) (va_runV (As := av) (rest := rest) F (hM H.size) (cwV n F.2.2.2.2 hG hw hrc hrs hd hRm) ⟨hpre.1, hrv, hpre.2⟩ rfl hav hls hst (lv_room hW8) hdg hf) hA hP hD hS isC isR hC hR hn hdis kk
/-- a byte of the constant text -/
theorem al_w (hexec : p.tables.exec = Jvm.exec) (hb : c.code = cc) {t N : Nat} {f : Nat → Int32} (hT : va_T .byte t N (fun j => .int (f j)) A s s.heap) (hS : va_S A s.heap H locs) (j : Nat) {i : Int32} (hi : i = nI j) (hj : j < N) (hN : N < 2 ^ 31) (hdg : decode cc pc = .ok (.baload, 1))
    (kk : W p l e R s m args below meth c H locs cells slots Q (F0 m (pc + 1) ls (.int (f j) :: rest))) : W p l e R s m args below meth c H locs cells slots Q (F0 m pc ls (.int i :: .ref t :: rest)) := by
  subst hi
  exact va_tb hexec hb hT hS (vp_in_nI hj hN) (v := .int (f j)) (by rw [nI_clamp (Nat.lt_trans hj hN)]) hdg kk
/-- a new array of references -/
theorem nw_q (hexec : p.tables.exec = Jvm.exec) (hb : c.code = cc) {own C : String} {index : Nat} (k : Nat) (hk : (tysG cy)[k]? = some (cy k, .object C)) (hra : ∀ U cA, va_RA U cA (.object C) → U.vm.findClass ("[" ++ (FieldType.object C).toString) = some cA) (hown : s.vm.findClass own = some m.cls) (hclink : (Cond.classLink own index C).before args s = true) (hover : va_AO C s) (hK : va_K D vwCl (tysG cy) s) (hP : va_P D vwCl ws H) (hD : va_D A ws) (hS : va_S A H0 H locs) (hA : ∀ q, H0.size ≤ q → A q)
    {n : Int32} {N' : Nat} (hn : ¬ n < 0) (hN : n.toNatClampNeg = N') (hbytes : N' * 4 ≤ 536870912) (hcells : cells + 1 ≤ R.cells) (hslots : slots + N' ≤ R.slots) (hdg : decode cc pc = .ok (.anewarray index, 3))
    (kk : ∀ (q : Nat) (H1 : Heap), va_P D vwCl (ws ++ [(q, .inl (cy k, N', .inr (.inr (.inr (.inr (fun _ => none))))))]) H1 → va_D A (ws ++ [(q, .inl (cy k, N', .inr (.inr (.inr (.inr (fun _ => none))))))]) → va_S A H0 H1 locs → W p l e R s m args below meth c H1 locs (cells + 1) (slots + N') Q (F0 m (pc + 3) ls (.ref q :: rest))) : W p l e R s m args below meth c H locs cells slots Q (F0 m pc ls (.int n :: rest)) := by
  refine va_newq hexec hb hown hclink hover hK hP hD hS hA hn hN hbytes hcells hslots hdg (fun q cA H1 hK1 hP1 hD1 hS1 => ?_)
  have h1 := hra _ _ (hK.2 k _ hk).2
  have h2 := hra _ _ (hK1.2 (tysG cy).length (cA, .object C) (by rw [List.getElem?_append_right (Nat.le_refl _), Nat.sub_self]; rfl)).2
  have h3 : cA = cy k := Option.some.inj (h2.symm.trans h1)
  subst h3
  exact kk q H1 hP1 hD1 hS1
theorem ra_obj {C : String} (U : State) (cA : ClassId) (h : va_RA U cA (.object C)) : U.vm.findClass ("[" ++ (FieldType.object C).toString) = some cA := by
  obtain ⟨-, -, -, -, -, h4⟩ := h
  exact h4
end
theorem ch_w : ∀ j, j < 25 → ((s_WORDS j &&& 255).toUInt32 % 65536).toInt32 = s_WORDS j := by decide +kernel
theorem ch_n : ∀ j, j < 25 → narrow .char (.int (s_WORDS j)) = .int (s_WORDS j) := by decide +kernel
