/-! methods of classes of which some other method is run by the machine itself -/
theorem metF {l : Launch} {y : MethodName} {tw tw' : List Cond} {rm : Room} {Pc : Array Value → State → Prop} {Qc : Array Value → State → Outcome → State → Prop} {mc ms : Nat} {free : Addr → Prop} {cc : ByteArray} {maxL : Nat} {ret : Option FieldType} (hy : plainFor y = true) (hw : tw = Cond.code y cc maxL ret :: tw')
    (body : ∀ p e s m args below meth c s₁, BodyLoose p l y (headSpec tw rm) cc maxL ret e s m args below meth c s₁ → c.maxLocals = maxL → Pc args s → W p l e (headSpec tw rm).room s m args below meth c s.heap [] 0 0 (MQ below Qc args s mc ms free) (entryFrame m args maxL)) : Met l y tw rm Pc Qc mc ms free := by
  refine MetFree.of_bodySF (code := cc) (maxLocals := maxL) (ret := ret) hy ?_ ?_
  · intro args s m h hn
    obtain ⟨meth, c, h1, h2, h3, h4, h5, h6, -, -⟩ := Cond.code_spec hn (atoms_spec (ws := tw) h _ (by rw [hw]; exact List.mem_cons_self))
    exact ⟨meth, c, h1, h2, h3, h4, h5, h6⟩
  · intro p e s m args below meth c s₁ B hml hP _
    obtain ⟨t, a1, o, b1, b2, b3⟩ := body p e s m args below meth c s₁ B hml hP s₁ (by rw [B.state]; rfl) (Stand.of_body B)
    exact ⟨t, o, a1, b1, b2, ⟨b3.1, b3.2⟩⟩
theorem CT.ofF {S : Type} {l : Launch} {D : va_G} {cy : Nat → ClassId} {sa : Nat → Nat} {y : MethodName} {tw tw' : List Cond} {rm : Room} {av : List Value} {W0 : va_W} {post : Option Value → S → Prop} {W1 : S → va_W} {mc ms : Nat} (cc : ByteArray) (nL : Nat) (ret : Option FieldType)
    (hy : plainFor y = true) (hw : tw = Cond.code y cc nL ret :: tw') (hlen : (lg_sl av).length ≤ nL)
    (body : ∀ (p : Program) (e : Env) (s : State) (m : MethodId) (args : Array Value) (below : List Frame) (meth : Method) (c : Code) (A : Nat → Prop) (Q : State → Prop) (ls : Array Slot),
      CallFix p m c cc nL s args tw y.cls → meth.name = y.name → va_K D vwCl (tysG cy) s → EV sa A s s.heap → (∀ q, s.heap.size ≤ q → A q) → va_P D vwCl W0 s.heap → va_D A W0 → va_S A s.heap s.heap [] → lv_has ls nL (lv_args 0 av) →
      RT p l e rm s m args below meth c cc ret A Q D post W1 mc ms → W p l e rm s m args below meth c s.heap [] 0 0 Q (F0 m 0 ls [])) : CT l D cy sa y tw rm av W0 post W1 mc ms := by
  intro sz
  refine metF (cc := cc) (maxL := nL) (ret := ret) hy hw ?_
  intro p e s m args below meth c s₁ B hml hv
  obtain ⟨rfl, hsz, hP, hK, hD0, hE⟩ := hv
  subst hsz
  have hD := hD0.self (sz := s.heap.size)
  have hr := B.returns
  have hlocks := B.notSynchronized
  rw [lg_entry_eq]
  refine body p e s m _ below meth c (va_A W0 s.heap.size) _ _ ⟨B.exec, B.bytes, hml, findClass_of_methodNamed B.named, atoms_spec (ws := tw) B.pre⟩ (name_of_methodNamed B.named B.method).1 hK hE (fun q h => Or.inr h) hP hD va_S.rf (lv_entry av hlen) ?_
  intro v st u H locs pc ls hok hpost hP1 hD1 hS
  have hq : ∀ t : State, t.heap = H → s.WarmedH t.vm → QD D cy post W1 (va_A W0 s.heap.size) av.toArray s (.returned v) t := fun t ht hW => ⟨⟨v, u, rfl, hpost, by rw [ht]; exact hP1, va_K.moved hW.alike hK, hD1⟩, hS.F ht⟩
  unfold rtOK at hok
  split at hok
  · obtain ⟨rfl, rfl, hd⟩ := hok
    exact W.vret B.exec B.bytes hr hq hS.2.2 hd hlocks
  · obtain ⟨x, rfl, rfl, hd⟩ := hok
    exact W.iret B.exec B.bytes hr hq hS.2.2 hd hlocks
  · obtain ⟨x, rfl, rfl, hn, hd⟩ := hok
    exact W.zret B.exec B.bytes hr hn hq hS.2.2 hd hlocks
  · obtain ⟨x, rfl, rfl, hn, hd⟩ := hok
    exact W.zret B.exec B.bytes hr hn hq hS.2.2 hd hlocks
  · obtain ⟨x, rfl, rfl, hd⟩ := hok
    exact W.lret B.exec B.bytes hr hq hS.2.2 hd hlocks
  · exact absurd hok (fun h => h)
