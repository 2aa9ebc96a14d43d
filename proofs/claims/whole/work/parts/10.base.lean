/-! the uniform contract, its environment, and rows for calls and arrays -/
def isNest : Cond → Bool
  | .fieldLinkNest .. => true
  | .methodLinkNest .. => true
  | _ => false
theorem nest_go {w : Cond} (h : isNest w = true) {s U : State} (hW : s.WarmedH U.vm) (hZ : va_Nw w s) : va_Nw w U := by
  unfold isNest at h
  split at h
  · exact va_Nw.warmF hW hZ
  · exact va_Nw.warmM hW hZ
  · exact absurd h (by decide)
theorem nest_tab {w : Cond} (h : isNest w = true) : w.onTables = true := by
  unfold isNest at h
  split at h
  · rfl
  · rfl
  · exact absurd h (by decide)
def nestW : List Cond := [
  .methodLinkNest "SelfSteer" 15 ⟨"SelfSteer$Bicycle", "<init>", "()V"⟩ "SelfSteer",
  .fieldLinkNest "SelfSteer$Bicycle" 15 "SelfSteer" "AT_FIRST" "[I" "SelfSteer",
  .fieldLinkNest "SelfSteer$Ride" 73 "SelfSteer$Bicycle" "numbers" "[I" "SelfSteer",
  .methodLinkNest "SelfSteer" 22 ⟨"SelfSteer$Change", "<init>", "()V"⟩ "SelfSteer",
  .methodLinkNest "SelfSteer$Change" 11 ⟨"SelfSteer$Bicycle", "<init>", "()V"⟩ "SelfSteer",
  .methodLinkNest "SelfSteer" 29 ⟨"SelfSteer$Doubt", "<init>", "()V"⟩ "SelfSteer",
  .methodLinkNest "SelfSteer$Doubt" 11 ⟨"SelfSteer$Bicycle", "<init>", "()V"⟩ "SelfSteer",
  .methodLinkNest "SelfSteer" 44 ⟨"SelfSteer$Reader", "<init>", "()V"⟩ "SelfSteer",
  .methodLinkNest "SelfSteer" 51 ⟨"SelfSteer$Rider", "<init>", "()V"⟩ "SelfSteer",
  .fieldLinkNest "SelfSteer$Ride" 91 "SelfSteer$Rider" "values" "[I" "SelfSteer",
  .methodLinkNest "SelfSteer" 61 ⟨"SelfSteer$Ride", "<init>", "()V"⟩ "SelfSteer",
  .fieldLinkNest "SelfSteer" 223 "SelfSteer$Ride" "bicycle" "I" "SelfSteer",
  .fieldLinkNest "SelfSteer" 242 "SelfSteer$Ride" "speed" "I" "SelfSteer",
  .fieldLinkNest "SelfSteer" 245 "SelfSteer$Ride" "reversed" "Z" "SelfSteer",
  .fieldLinkNest "SelfSteer" 220 "SelfSteer$Ride" "lean" "I" "SelfSteer",
  .fieldLinkNest "SelfSteer" 230 "SelfSteer$Ride" "bar" "I" "SelfSteer",
  .fieldLinkNest "SelfSteer" 233 "SelfSteer$Ride" "leanChange" "I" "SelfSteer",
  .fieldLinkNest "SelfSteer" 236 "SelfSteer$Ride" "barChange" "I" "SelfSteer",
  .fieldLinkNest "SelfSteer" 239 "SelfSteer$Ride" "hand" "I" "SelfSteer",
  .fieldLinkNest "SelfSteer" 205 "SelfSteer$Ride" "ticks" "I" "SelfSteer",
  .fieldLinkNest "SelfSteer" 212 "SelfSteer$Ride" "lies" "Z" "SelfSteer",
  .methodLinkNest "SelfSteer" 71 ⟨"SelfSteer$Habits", "<init>", "()V"⟩ "SelfSteer",
  .methodLinkNest "SelfSteer" 92 ⟨"SelfSteer$Image", "<init>", "()V"⟩ "SelfSteer",
  .methodLinkNest "SelfSteer$Image" 9 ⟨"SelfSteer$Ride", "<init>", "()V"⟩ "SelfSteer",
  .methodLinkNest "SelfSteer$Image" 18 ⟨"SelfSteer$Habits", "<init>", "()V"⟩ "SelfSteer",
  .fieldLinkNest "SelfSteer" 271 "SelfSteer$Image" "kept" "Z" "SelfSteer",
  .methodLinkNest "SelfSteer" 111 ⟨"SelfSteer$Bicycle", "valueOf", "(I)I"⟩ "SelfSteer",
  .methodLinkNest "SelfSteer$Bicycle" 24 ⟨"SelfSteer", "isNumber", "(I)Z"⟩ "SelfSteer",
  .methodLinkNest "SelfSteer" 115 ⟨"SelfSteer$Bicycle", "put", "(II)V"⟩ "SelfSteer",
  .methodLinkNest "SelfSteer" 129 ⟨"SelfSteer$Bicycle", "signThree", "()J"⟩ "SelfSteer",
  .methodLinkNest "SelfSteer" 133 ⟨"SelfSteer$Bicycle", "signTwo", "(II)J"⟩ "SelfSteer",
  .methodLinkNest "SelfSteer" 137 ⟨"SelfSteer$Bicycle", "signOne", "(III)J"⟩ "SelfSteer",
  .methodLinkNest "SelfSteer" 141 ⟨"SelfSteer$Bicycle", "signZero", "(II)J"⟩ "SelfSteer",
  .methodLinkNest "SelfSteer" 144 ⟨"SelfSteer$Bicycle", "staysUp", "(III)Z"⟩ "SelfSteer",
  .methodLinkNest "SelfSteer" 147 ⟨"SelfSteer$Bicycle", "speeds", "()J"⟩ "SelfSteer",
  .methodLinkNest "SelfSteer" 177 ⟨"SelfSteer$Bicycle", "copyFrom", "(LSelfSteer$Bicycle;)V"⟩ "SelfSteer",
  .methodLinkNest "SelfSteer" 159 ⟨"SelfSteer$Change", "leastWithout", "(LSelfSteer$Bicycle;I)I"⟩ "SelfSteer",
  .methodLinkNest "SelfSteer$Change" 26 ⟨"SelfSteer$Bicycle", "speeds", "()J"⟩ "SelfSteer",
  .methodLinkNest "SelfSteer$Change" 30 ⟨"SelfSteer$Bicycle", "put", "(II)V"⟩ "SelfSteer",
  .methodLinkNest "SelfSteer$Change" 22 ⟨"SelfSteer$Bicycle", "valueOf", "(I)I"⟩ "SelfSteer",
  .fieldLinkNest "SelfSteer$Change" 34 "SelfSteer" "HIGHEST" "[I" "SelfSteer",
  .fieldLinkNest "SelfSteer$Change" 44 "SelfSteer" "LOWEST" "[I" "SelfSteer",
  .methodLinkNest "SelfSteer" 163 ⟨"SelfSteer$Change", "valueFound", "(I)I"⟩ "SelfSteer",
  .methodLinkNest "SelfSteer" 173 ⟨"SelfSteer$Bicycle", "speedCount", "()I"⟩ "SelfSteer",
  .methodLinkNest "SelfSteer" 181 ⟨"SelfSteer$Doubt", "weigh", "(LSelfSteer$Bicycle;I)V"⟩ "SelfSteer",
  .methodLinkNest "SelfSteer$Doubt" 37 ⟨"SelfSteer$Bicycle", "valueOf", "(I)I"⟩ "SelfSteer",
  .fieldLinkNest "SelfSteer$Doubt" 40 "SelfSteer" "LOWEST" "[I" "SelfSteer",
  .fieldLinkNest "SelfSteer$Doubt" 43 "SelfSteer" "HIGHEST" "[I" "SelfSteer",
  .methodLinkNest "SelfSteer$Doubt" 46 ⟨"SelfSteer", "within", "(III)Z"⟩ "SelfSteer",
  .methodLinkNest "SelfSteer$Doubt" 50 ⟨"SelfSteer$Bicycle", "put", "(II)V"⟩ "SelfSteer",
  .methodLinkNest "SelfSteer$Doubt" 33 ⟨"SelfSteer$Bicycle", "speedCount", "()I"⟩ "SelfSteer",
  .methodLinkNest "SelfSteer" 185 ⟨"SelfSteer$Doubt", "spreadOf", "(I)I"⟩ "SelfSteer",
  .methodLinkNest "SelfSteer" 188 ⟨"SelfSteer$Doubt", "fewestFor", "(I)I"⟩ "SelfSteer",
  .methodLinkNest "SelfSteer" 195 ⟨"SelfSteer$Reader", "faultOf", "([IILSelfSteer$Rider;)I"⟩ "SelfSteer",
  .methodLinkNest "SelfSteer$Reader" 35 ⟨"SelfSteer$Rider", "forget", "()V"⟩ "SelfSteer",
  .methodLinkNest "SelfSteer$Reader" 84 ⟨"SelfSteer", "within", "(III)Z"⟩ "SelfSteer",
  .methodLinkNest "SelfSteer$Reader" 47 ⟨"SelfSteer$Rider", "wasTold", "(I)Z"⟩ "SelfSteer",
  .fieldLinkNest "SelfSteer$Reader" 51 "SelfSteer$Rider" "SMALLEST" "[I" "SelfSteer",
  .fieldLinkNest "SelfSteer$Reader" 54 "SelfSteer$Rider" "LARGEST" "[I" "SelfSteer",
  .methodLinkNest "SelfSteer$Reader" 57 ⟨"SelfSteer$Rider", "tell", "(II)V"⟩ "SelfSteer",
  .methodLinkNest "SelfSteer$Rider" 26 ⟨"SelfSteer", "within", "(III)Z"⟩ "SelfSteer",
  .methodLinkNest "SelfSteer" 199 ⟨"SelfSteer$Rider", "copyFrom", "(LSelfSteer$Rider;)V"⟩ "SelfSteer",
  .methodLinkNest "SelfSteer" 202 ⟨"SelfSteer$Rider", "itemCount", "()I"⟩ "SelfSteer",
  .methodLinkNest "SelfSteer" 208 ⟨"SelfSteer$Ride", "begin", "(IIZ)V"⟩ "SelfSteer",
  .methodLinkNest "SelfSteer" 216 ⟨"SelfSteer$Ride", "takePush", "(I)V"⟩ "SelfSteer",
  .methodLinkNest "SelfSteer" 226 ⟨"SelfSteer$Ride", "goOn", "(ILSelfSteer$Bicycle;LSelfSteer$Rider;)I"⟩ "SelfSteer",
  .methodLinkNest "SelfSteer$Ride" 85 ⟨"SelfSteer", "clamp", "(II)I"⟩ "SelfSteer",
  .methodLinkNest "SelfSteer" 251 ⟨"SelfSteer$Habits", "practise", "(III)V"⟩ "SelfSteer",
  .methodLinkNest "SelfSteer$Habits" 17 ⟨"SelfSteer", "isBar", "(I)Z"⟩ "SelfSteer",
  .methodLinkNest "SelfSteer" 255 ⟨"SelfSteer$Habits", "valueOf", "(I)I"⟩ "SelfSteer",
  .methodLinkNest "SelfSteer" 256 ⟨"SelfSteer$Habits", "weeksTillWhole", "(II)I"⟩ "SelfSteer",
  .methodLinkNest "SelfSteer" 267 ⟨"SelfSteer$Image", "take", "(LSelfSteer$Ride;LSelfSteer$Habits;)V"⟩ "SelfSteer",
  .methodLinkNest "SelfSteer$Image" 27 ⟨"SelfSteer$Ride", "copyFrom", "(LSelfSteer$Ride;)V"⟩ "SelfSteer",
  .methodLinkNest "SelfSteer$Image" 31 ⟨"SelfSteer$Habits", "copyFrom", "(LSelfSteer$Habits;)V"⟩ "SelfSteer",
  .methodLinkNest "SelfSteer" 274 ⟨"SelfSteer$Image", "giveBack", "(LSelfSteer$Ride;LSelfSteer$Habits;)V"⟩ "SelfSteer"]
theorem nestW_ok : ∀ w ∈ nestW, isNest w = true := by
  have h : nestW.all isNest = true := by decide +kernel
  exact List.all_eq_true.mp h
def s_LOW : Nat → Int32 := fun j => match j with | 0 => -9 | 1 => -9 | 2 => -9 | 3 => 1 | 4 => 1 | _ => 0
def s_HIGH : Nat → Int32 := fun _ => 9
def s_FIRST : Nat → Int32 := fun j => match j with | 0 => 2 | 1 => 3 | 2 => 2 | 3 => 5 | 4 => 4 | _ => 3
def s_ABOVE : Nat → Int32 := fun j => match j with | 0 => -1 | 4 => 3 | _ => 0
def s_TRACE : Nat → Int32 := fun j => match j with | 0 => 1 | 1 => 10 | 2 => 100 | 3 => 1000 | 4 => 10000 | 5 => 100000 | _ => 1000000
def s_UNTOLD : Nat → Int32 := fun j => match j with | 0 => 0 | 1 => 0 | 2 => 0 | 3 => 0 | _ => 999
def s_SMALL : Nat → Int32 := fun j => match j with | 0 => -99 | 1 => -99 | 2 => -99 | _ => 0
def s_LARGE : Nat → Int32 := fun j => match j with | 0 => 99 | 1 => 99 | 2 => 99 | 3 => 5 | _ => 999
abbrev tysG (cy : Nat → ClassId) : List (ClassId × FieldType) := [(cy 0, .int), (cy 1, .boolean), (cy 2, .object "SelfSteer$Bicycle"), (cy 3, .object "SelfSteer$Image")]
/-- a static array of ints: the field holds its address, the cell its numbers; A doesn't touch them -/
def EVs (C n : String) (t N : Nat) (f : Nat → Int32) (A : Nat → Prop) (U : State) (H : Heap) : Prop := va_Z C n "[I" (.ref t) A U H ∧ va_T .int t N (fun j => .int (f j)) A U H
theorem EVs.moved {C n : String} {t N : Nat} {f : Nat → Int32} {A : Nat → Prop} {u U : State} {H : Heap} (hvm : u.vm.Alike U.vm) (h : EVs C n t N f A u H) : EVs C n t N f A U H := ⟨h.1.moved hvm, h.2.moved hvm⟩
theorem EVs.kept {C n : String} {t N : Nat} {f : Nat → Int32} {A : Nat → Prop} {U : State} {H H1 : Heap} (h : EVs C n t N f A U H) (hq : ∀ a : Nat, a < H.size → ¬ A a → H1[a]? = H[a]?) : EVs C n t N f A U H1 := ⟨h.1.kept hq, h.2.kept hq⟩
theorem EVs.narrow {C n : String} {t N : Nat} {f : Nat → Int32} {A B : Nat → Prop} {U : State} {H : Heap} (h : EVs C n t N f A U H) (hAB : ∀ q, B q → A q) : EVs C n t N f B U H := ⟨h.1.narrow hAB, h.2.narrow hAB⟩
/-- the letters of the items' words -/
def s_WORDS : Nat → Int32 := fun j => match j with | 0 => 108 | 1 => 101 | 2 => 97 | 3 => 110 | 4 => 32 | 5 => 114 | 6 => 97 | 7 => 116 | 8 => 101 | 9 => 32 | 10 => 98 | 11 => 97 | 12 => 114 | 13 => 32 | 14 => 32 | 15 => 108 | 16 => 97 | 17 => 116 | 18 => 101 | 19 => 32 | 20 => 109 | 21 => 111 | 22 => 115 | 23 => 116 | _ => 32
/-- the constant text, the JDK's statics that its charAt reads, the classes of arrays of references -/
def EVt (sa : Nat → Nat) (A : Nat → Prop) (U : State) (H : Heap) : Prop :=
  vk_R "SelfSteer$Reader" 76 "lean rate bar  late most " (sa 8) U ∧ va_O "java/lang/String" (sa 8) A U H ∧ va_OF "java/lang/String" "coder" "B" (.int 0) (sa 8) A U H ∧ va_OF "java/lang/String" "value" "[B" (.ref (sa 9)) (sa 8) A U H ∧ va_T .byte (sa 9) 25 (fun j => .int (s_WORDS j)) A U H ∧
  va_Z "java/lang/String" "COMPACT_STRINGS" "Z" (.int 1) A U H ∧ va_Zq "jdk/internal/util/Preconditions" "SIOOBE_FORMATTER" "Ljava/util/function/BiFunction;" A U H ∧ va_AO "SelfSteer$Bicycle" U ∧ va_AO "SelfSteer$Image" U
theorem EVt.go {sa : Nat → Nat} {A B : Nat → Prop} {s U : State} {H : Heap} (h : EVt sa A s s.heap) (k : ∀ a : Nat, a < s.heap.size → ¬ A a → H[a]? = s.heap[a]?) (hAB : ∀ q, B q → A q) (hW : s.WarmedH U.vm) : EVt sa B U H := by
  obtain ⟨h0, h1, h2, h3, h4, h5, h6, h7, h8⟩ := h
  exact ⟨h0.warm hW, ((h1.kept k).narrow hAB).moved hW.alike, ((h2.kept k).narrow hAB).moved hW.alike, ((h3.kept k).narrow hAB).moved hW.alike, ((h4.kept k).narrow hAB).moved hW.alike, ((h5.kept k).narrow hAB).moved hW.alike, ((h6.kept k).narrow hAB).moved hW.alike, va_AO.moved hW.alike h7, va_AO.moved hW.alike h8⟩
theorem EVt.same {sa : Nat → Nat} {A : Nat → Prop} {u U : State} {H : Heap} (h : EVt sa A u H) (hv : u.vm = U.vm) : EVt sa A U H := by
  have hvm : u.vm.Alike U.vm := by rw [← hv]; exact Vm.Alike.refl u.vm
  obtain ⟨h0, h1, h2, h3, h4, h5, h6, h7, h8⟩ := h
  exact ⟨h0.same hv.symm, h1.moved hvm, h2.moved hvm, h3.moved hvm, h4.moved hvm, h5.moved hvm, h6.moved hvm, va_AO.moved hvm h7, va_AO.moved hvm h8⟩
/-- the statics of the class and the words of its nest -/
def EV (sa : Nat → Nat) (A : Nat → Prop) (U : State) (H : Heap) : Prop :=
  EVs "SelfSteer" "LOWEST" (sa 0) 6 s_LOW A U H ∧ EVs "SelfSteer" "HIGHEST" (sa 1) 6 s_HIGH A U H ∧ EVs "SelfSteer" "AT_FIRST" (sa 2) 6 s_FIRST A U H ∧
  EVs "SelfSteer" "KIND_ABOVE" (sa 3) 7 s_ABOVE A U H ∧ EVs "SelfSteer" "TRACE_OF_KIND" (sa 4) 7 s_TRACE A U H ∧ EVs "SelfSteer$Rider" "UNTOLD" (sa 5) 5 s_UNTOLD A U H ∧
  EVs "SelfSteer$Rider" "SMALLEST" (sa 6) 5 s_SMALL A U H ∧ EVs "SelfSteer$Rider" "LARGEST" (sa 7) 5 s_LARGE A U H ∧ (∀ w ∈ nestW, va_Nw w U) ∧ EVt sa A U H
theorem EV.go {sa : Nat → Nat} {A B : Nat → Prop} {s U : State} {H : Heap} {locs : List Loc} (h : EV sa A s s.heap) (hS : va_S A s.heap H locs) (hAB : ∀ q, B q → A q) (hU : U.heap = H) (hW : s.WarmedH U.vm) : EV sa B U U.heap := by
  have k : ∀ a : Nat, a < s.heap.size → ¬ A a → U.heap[a]? = s.heap[a]? := fun a h1 h2 => by rw [hU]; exact hS.2.1 a h1 h2
  obtain ⟨h0, h1, h2, h3, h4, h5, h6, h7, hn, ht⟩ := h
  exact ⟨((h0.kept k).narrow hAB).moved hW.alike, ((h1.kept k).narrow hAB).moved hW.alike, ((h2.kept k).narrow hAB).moved hW.alike, ((h3.kept k).narrow hAB).moved hW.alike, ((h4.kept k).narrow hAB).moved hW.alike, ((h5.kept k).narrow hAB).moved hW.alike, ((h6.kept k).narrow hAB).moved hW.alike, ((h7.kept k).narrow hAB).moved hW.alike, fun w hw => nest_go (nestW_ok w hw) hW (hn w hw), ht.go k hAB hW⟩
theorem EV.same {sa : Nat → Nat} {A : Nat → Prop} {u U : State} (h : EV sa A u u.heap) (hv : u.vm = U.vm) (hh : u.heap = U.heap) : EV sa A U U.heap := by
  have hvm : u.vm.Alike U.vm := by rw [← hv]; exact Vm.Alike.refl u.vm
  rw [← hh]
  obtain ⟨h0, h1, h2, h3, h4, h5, h6, h7, hn, ht⟩ := h
  exact ⟨h0.moved hvm, h1.moved hvm, h2.moved hvm, h3.moved hvm, h4.moved hvm, h5.moved hvm, h6.moved hvm, h7.moved hvm, fun w hw => va_Nw.same (nest_tab (nestW_ok w hw)) hv (hn w hw), ht.same hv⟩
theorem EV.nest {sa : Nat → Nat} {A : Nat → Prop} {U : State} {H : Heap} (h : EV sa A U H) {w : Cond} (k : Nat) (hk : nestW[k]? = some w) : va_Nw w U := h.2.2.2.2.2.2.2.2.1 w (List.mem_of_getElem? hk)
theorem EV.nestB {sa : Nat → Nat} {A : Nat → Prop} {U : State} {H : Heap} (h : EV sa A U H) {w : Cond} (k : Nat) (hk : nestW[k]? = some w) {args : Array Value} : w.before args U = true := va_Nw.use (nest_tab (nestW_ok w (List.mem_of_getElem? hk))) (h.nest k hk)
theorem EV.t {sa : Nat → Nat} {A : Nat → Prop} {U : State} {H : Heap} (h : EV sa A U H) : EVt sa A U H := h.2.2.2.2.2.2.2.2.2
/-- what holds as a method begins: its cells, the tables, the environment -/
def PRE (D : va_G) (cy : Nat → ClassId) (sa : Nat → Nat) (W0 : va_W) (sz : Nat) (U : State) : Prop := U.heap.size = sz ∧ va_P D vwCl W0 U.heap ∧ va_K D vwCl (tysG cy) U ∧ va_D (fun _ => True) W0 ∧ EV sa (va_A W0 sz) U U.heap
def QD {S : Type} (D : va_G) (cy : Nat → ClassId) (post : Option Value → S → Prop) (W1 : S → va_W) (A : Nat → Prop) : Array Value → State → Outcome → State → Prop := fun _ st oc t => (∃ (v : Option Value) (u : S), oc = .returned v ∧ post v u ∧ va_P D vwCl (W1 u) t.heap ∧ va_K D vwCl (tysG cy) t ∧ va_D A (W1 u)) ∧ va_F A st t
/-- THE CONTRACT: with arguments av over the cells W0 the method returns v with post v u, its cells are W1 u then -/
def CT {S : Type} (l : Launch) (D : va_G) (cy : Nat → ClassId) (sa : Nat → Nat) (y : MethodName) (tw : List Cond) (rm : Room) (av : List Value) (W0 : va_W) (post : Option Value → S → Prop) (W1 : S → va_W) (mc ms : Nat) : Prop :=
  ∀ sz : Nat, Met l y tw rm (va_Pc av (PRE D cy sa W0 sz)) (QD D cy post W1 (va_A W0 sz)) mc ms (va_A W0 sz)
/-- the same where answer and cells are known -/
abbrev CD (l : Launch) (D : va_G) (cy : Nat → ClassId) (sa : Nat → Nat) (y : MethodName) (tw : List Cond) (rm : Room) (av : List Value) (W0 : va_W) (rv : Option Value) (w1 : va_W) : Prop := CT (S := Unit) l D cy sa y tw rm av W0 (fun v _ => v = rv) (fun _ => w1) 0 0
theorem PRE.blind {D : va_G} {cy : Nat → ClassId} {sa : Nat → Nat} {W0 : va_W} {sz : Nat} {av : List Value} : FrameBlind (va_Pc av (PRE D cy sa W0 sz)) := fun a U g mk q => by
  obtain ⟨q0, q1, q2, q3, q4, q5⟩ := q
  exact ⟨q0, q1, q2, va_K.moved (u := U) (U := U.calling g mk a) (Vm.Alike.refl U.vm) q3, q4, EV.same (u := U) q5 rfl rfl⟩
def rtOK (ret : Option FieldType) (cc : ByteArray) (pc : Nat) (v : Option Value) (st : List Value) : Prop := match ret with
  | none => v = none ∧ st = [] ∧ decode cc pc = .ok (.return_, 1)
  | some .int => ∃ x : Int32, v = some (.int x) ∧ st = [.int x] ∧ decode cc pc = .ok (.ireturn, 1)
  | some .boolean => ∃ x : Int32, v = some (.int x) ∧ st = [.int x] ∧ narrow .boolean (.int x) = .int x ∧ decode cc pc = .ok (.ireturn, 1)
  | some .char => ∃ x : Int32, v = some (.int x) ∧ st = [.int x] ∧ narrow .char (.int x) = .int x ∧ decode cc pc = .ok (.ireturn, 1)
  | some .long => ∃ x : Int64, v = some (.long x) ∧ st = [.long x] ∧ decode cc pc = .ok (.lreturn, 1)
  | _ => False
def RT {S : Type} (p : Program) (l : Launch) (e : Env) (R : Room) (s : State) (m : MethodId) (args : Array Value) (below : List Frame) (meth : Method) (c : Code) (cc : ByteArray) (ret : Option FieldType) (A : Nat → Prop) (Q : State → Prop) (D : va_G) (post : Option Value → S → Prop) (W1 : S → va_W) (mc ms : Nat) : Prop :=
  ∀ (v : Option Value) (st : List Value) (u : S) (H : Heap) (locs : List Loc) (pc : Nat) (ls : Array Slot), rtOK ret cc pc v st → post v u → va_P D vwCl (W1 u) H → va_D A (W1 u) → va_S A s.heap H locs → W p l e R s m args below meth c H locs mc ms Q (F0 m pc ls st)
theorem CT.of {S : Type} {l : Launch} {D : va_G} {cy : Nat → ClassId} {sa : Nat → Nat} {y : MethodName} {tw tw' : List Cond} {rm : Room} {av : List Value} {W0 : va_W} {post : Option Value → S → Prop} {W1 : S → va_W} {mc ms : Nat} (cc : ByteArray) (nL : Nat) (ret : Option FieldType)
    (hy : plainName y.cls = true) (hw : tw = Cond.code y cc nL ret :: tw') (hlen : (lg_sl av).length ≤ nL)
    (body : ∀ (p : Program) (e : Env) (s : State) (m : MethodId) (args : Array Value) (below : List Frame) (meth : Method) (c : Code) (A : Nat → Prop) (Q : State → Prop) (ls : Array Slot),
      CallFix p m c cc nL s args tw y.cls → meth.name = y.name → va_K D vwCl (tysG cy) s → EV sa A s s.heap → (∀ q, s.heap.size ≤ q → A q) → va_P D vwCl W0 s.heap → va_D A W0 → va_S A s.heap s.heap [] → lv_has ls nL (lv_args 0 av) →
      RT p l e rm s m args below meth c cc ret A Q D post W1 mc ms → W p l e rm s m args below meth c s.heap [] 0 0 Q (F0 m 0 ls [])) : CT l D cy sa y tw rm av W0 post W1 mc ms := by
  intro sz
  refine Met.ofW (cc := cc) (maxL := nL) (ret := ret) hy hw ?_
  intro p e s m args below meth c s₁ B hml hv
  obtain ⟨rfl, hsz, hP, hK, hD0, hE⟩ := hv
  subst hsz
  have hD := hD0.self (sz := s.heap.size)
  have hr := B.returns
  have hlocks := B.notSynchronized
  rw [lg_entry_eq]
  refine body p e s m _ below meth c (va_A W0 s.heap.size) _ _ ⟨B.exec, B.bytes, hml, findClass_of_methodNamed B.named, atoms_spec (ws := tw) B.pre⟩ (name_of_methodNamed B.named B.method).1 hK hE (fun q h => Or.inr h) hP hD va_S.rf (lv_entry av hlen) ?_
  intro v st u H locs pc ls hok hpost hP1 hD1 hS
  have hq : ∀ t : State, t.heap = H → s.WarmedH t.vm → QD D cy post W1 (va_A W0 s.heap.size) av.toArray s (.returned v) t := fun t ht hW => ⟨⟨v, u, rfl, hpost, by rw [ht]; exact hP1, va_K.moved hW.alike hK, hD1⟩, hS.F ht⟩
  unfold rtOK at hok
  split at hok
  · obtain ⟨rfl, rfl, hd⟩ := hok
    exact W.vret B.exec B.bytes hr hq hS.2.2 hd hlocks
  · obtain ⟨x, rfl, rfl, hd⟩ := hok
    exact W.iret B.exec B.bytes hr hq hS.2.2 hd hlocks
  · obtain ⟨x, rfl, rfl, hn, hd⟩ := hok
    exact W.zret B.exec B.bytes hr hn hq hS.2.2 hd hlocks
  · obtain ⟨x, rfl, rfl, hn, hd⟩ := hok
    exact W.zret B.exec B.bytes hr hn hq hS.2.2 hd hlocks
  · obtain ⟨x, rfl, rfl, hd⟩ := hok
    exact W.lret B.exec B.bytes hr hq hS.2.2 hd hlocks
  · exact absurd hok (fun h => h)
section
variable {p : Program} {l : Launch} {e : Env} {R : Room} {s : State} {m : MethodId} {args : Array Value} {below : List Frame} {meth : Method} {c : Code} {H : Heap} {locs : List Loc} {cells slots : Nat} {Q : State → Prop} {cc : ByteArray} {pc : Nat} {ls : Array Slot} {rest st0 : List Value} {D : va_G} {cy : Nat → ClassId} {sa : Nat → Nat} {A : Nat → Prop} {H0 : Heap} {ws wc wr : va_W} {a : Nat}
theorem ca_run {S : Type} {post : Option Value → S → Prop} {W1 : S → va_W} {a1 : Array Value} {mc ms : Nat} (hr : va_Run p l e R s m args below meth c H locs cells slots mc ms (F0 m pc ls st0) rest (QD D cy post W1 (va_A wc H.size) a1) (va_A wc H.size)) (hA : ∀ q, s.heap.size ≤ q → A q) (hP : va_P D vwCl ws H) (hD : va_D A ws) (hS : va_S A s.heap H locs) (isC isR : List Nat) (hC : isC.map (fun i => ws[i]?) = wc.map some) (hR : isR.map (fun i => ws[i]?) = wr.map some) (hn : va_nd isR = true) (hdis : ∀ i ∈ isR, i ∉ isC)
    (kk : ∀ (v : Option Value) (u : S) (H1 : Heap) (locs1 : List Loc), post v u → va_P D vwCl (wr ++ W1 u) H1 → va_D A (wr ++ W1 u) → va_S A s.heap H1 locs1 → W p l e R s m args below meth c H1 locs1 (cells + mc) (slots + ms) Q (F0 m (pc + 3) ls (v.toList ++ rest))) : W p l e R s m args below meth c H locs cells slots Q (F0 m pc ls st0) := by
  intro T hT X
  obtain ⟨v, st₀, t, T', L, h0, X', hL, e1, e2, ⟨⟨v2, u, hv, hp, hP1, hK1, hD1⟩, hz, hk⟩, st⟩ := hr T hT X
  cases hv
  rw [h0] at hz hk
  have hF := va_free (wc := wc) hD hS hA isC hC
  rw [← e1] at hP1
  obtain ⟨hP2, hD2⟩ := va_join hP hD isC isR hC hR hn hdis (fun q h1 h2 => by rw [e1]; exact hk q h1 h2) hF hP1 hD1
  obtain ⟨t2, a1, b1⟩ := kk v u T'.heap (locs ++ L) hp hP2 hD2
    ⟨Nat.le_trans hS.1 (by rw [e1]; exact hz), fun q h1 h2 => by rw [e1, hk q (Nat.lt_of_lt_of_le h1 hS.1) (fun z => h2 (hF q z))]; exact hS.2.1 q h1 h2, fun q hq => by
      rcases List.mem_append.mp hq with h | h
      · exact hS.2.2 q h
      · exact hF _ (hL q h)⟩ T' rfl X'
  exact ⟨t2, st t2 a1, b1⟩
theorem ca_pre {sz : Nat} {av : List Value} (hsz : H.size = sz) (hK : va_K D vwCl (tysG cy) s) (hE : EV sa A s s.heap) (hA : ∀ q, s.heap.size ≤ q → A q) (hP : va_P D vwCl ws H) (hD : va_D A ws) (hS : va_S A s.heap H locs) (isC : List Nat) (hnC : va_nd isC = true) (hC : isC.map (fun i => ws[i]?) = wc.map some) : PreS s H (va_Pc av (PRE D cy sa wc sz)) av := by
  subst hsz
  have hF := va_free (wc := wc) hD hS hA isC hC
  have hPc : va_P D vwCl wc H := fun k q hk => by
    have h1 : (isC.map (fun i => ws[i]?))[k]? = some (some q) := by rw [hC, List.getElem?_map, hk]; rfl
    rw [List.getElem?_map] at h1
    cases hi : isC[k]? with
    | none => rw [hi] at h1; cases h1
    | some i => rw [hi] at h1; exact hP i q (Option.some.inj h1)
  refine ⟨PRE.blind, fun U hU hW => ⟨rfl, by rw [hU], by rw [hU]; exact hPc, va_K.moved hW.alike hK, (hD.sub isC hnC hC).weaken (fun _ _ _ _ => trivial), EV.go hE hS hF hU hW⟩⟩
/-- a call of a static method -/
theorem ca_S {S : Type} {post : Option Value → S → Prop} {W1 : S → va_W} {mc ms nL maxL n idx : Nat} {Ts tw tw' : List Cond} {own : String} {y : MethodName} {bytes : ByteArray} {ret : Option FieldType} {rm : Room} {av : List Value} (F : CallFix p m c cc nL s args Ts own) (hK : va_K D vwCl (tysG cy) s) (hE : EV sa A s s.heap) (hA : ∀ q, s.heap.size ≤ q → A q) (hP : va_P D vwCl ws H) (hD : va_D A ws) (hS : va_S A s.heap H locs) (hls : ls.size = nL)
    (hM : CT (S := S) l D cy sa y tw rm av wc post W1 mc ms) (hG : GoodIn Ts (va_wsS own idx y tw)) (hw : tw = Cond.code y bytes maxL ret :: tw') (hrc : rm.cells = mc) (hrs : rm.slots = ms)
    (hd : y.cls ≠ "java/lang/invoke/MethodHandle" ∧ y.cls ≠ "java/lang/invoke/VarHandle" ∧ (parseMethodDescriptor y.desc).map (fun d => d.parameters.length) = some n) (hRm : rm.frames + 1 ≤ R.frames ∧ 8 + (maxL + 11) + rm.locals ≤ R.locals)
    (isC isR : List Nat) (hnC : va_nd isC = true) (hC : isC.map (fun i => ws[i]?) = wc.map some) (hR : isR.map (fun i => ws[i]?) = wr.map some) (hn : va_nd isR = true) (hdis : ∀ i ∈ isR, i ∉ isC)
    (hav : av.length = n) (hst : st0 = av.reverse ++ rest) (hW8 : (rest.map fun v => v.category).sum ≤ 8) (hdg : decode cc pc = .ok (.invokestatic idx, 3)) (hf : cells + mc ≤ R.cells ∧ slots + ms ≤ R.slots)
    (kk : ∀ (v : Option Value) (u : S) (H1 : Heap) (locs1 : List Loc), post v u → va_P D vwCl (wr ++ W1 u) H1 → va_D A (wr ++ W1 u) → va_S A s.heap H1 locs1 → W p l e R s m args below meth c H1 locs1 (cells + mc) (slots + ms) Q (F0 m (pc + 3) ls (v.toList ++ rest))) : W p l e R s m args below meth c H locs cells slots Q (F0 m pc ls st0) := by
  refine ca_run (cy := cy) (va_runS (As := av) (rest := rest) F (hM H.size) (va_cwS n F.2.2.2.2 hG hw hrc hrs hd hRm) (ca_pre rfl hK hE hA hP hD hS isC hnC hC) rfl hav hls hst (lv_room hW8) hdg hf) hA hP hD hS isC isR hC hR hn hdis kk
/-- a call of a static method of a nest mate -/
theorem ca_SN {S : Type} {post : Option Value → S → Prop} {W1 : S → va_W} {mc ms nL maxL n idx : Nat} {Ts tw tw' : List Cond} {own host : String} {y : MethodName} {bytes : ByteArray} {ret : Option FieldType} {rm : Room} {av : List Value} (F : CallFix p m c cc nL s args Ts own) (hK : va_K D vwCl (tysG cy) s) (hE : EV sa A s s.heap) (hA : ∀ q, s.heap.size ≤ q → A q) (hP : va_P D vwCl ws H) (hD : va_D A ws) (hS : va_S A s.heap H locs) (hls : ls.size = nL)
    (hM : CT (S := S) l D cy sa y tw rm av wc post W1 mc ms) (hG : GoodIn Ts tw) (hnest : va_Nw (.methodLinkNest own idx y host) s) (hini : (Cond.initialized y.cls).before args s = true) (hstat : (Cond.static y).before args s = true) (hw : tw = Cond.code y bytes maxL ret :: tw') (hrc : rm.cells = mc) (hrs : rm.slots = ms)
    (hd : y.cls ≠ "java/lang/invoke/MethodHandle" ∧ y.cls ≠ "java/lang/invoke/VarHandle" ∧ (parseMethodDescriptor y.desc).map (fun d => d.parameters.length) = some n) (hRm : rm.frames + 1 ≤ R.frames ∧ 8 + (maxL + 11) + rm.locals ≤ R.locals)
    (isC isR : List Nat) (hnC : va_nd isC = true) (hC : isC.map (fun i => ws[i]?) = wc.map some) (hR : isR.map (fun i => ws[i]?) = wr.map some) (hn : va_nd isR = true) (hdis : ∀ i ∈ isR, i ∉ isC)
    (hav : av.length = n) (hst : st0 = av.reverse ++ rest) (hW8 : (rest.map fun v => v.category).sum ≤ 8) (hdg : decode cc pc = .ok (.invokestatic idx, 3)) (hf : cells + mc ≤ R.cells ∧ slots + ms ≤ R.slots)
    (kk : ∀ (v : Option Value) (u : S) (H1 : Heap) (locs1 : List Loc), post v u → va_P D vwCl (wr ++ W1 u) H1 → va_D A (wr ++ W1 u) → va_S A s.heap H1 locs1 → W p l e R s m args below meth c H1 locs1 (cells + mc) (slots + ms) Q (F0 m (pc + 3) ls (v.toList ++ rest))) : W p l e R s m args below meth c H locs cells slots Q (F0 m pc ls st0) := by
  refine ca_run (cy := cy) (va_runSN (As := av) (rest := rest) F (hM H.size) ⟨va_cnB n F.2.2.2.2 hG hw hrc hrs hnest hini hd hRm, hstat, trivial⟩ (ca_pre rfl hK hE hA hP hD hS isC hnC hC) rfl hav hls hst (lv_room hW8) hdg hf) hA hP hD hS isC isR hC hR hn hdis kk
/-- a call of a method of the class itself, or of a public one -/
theorem ca_V {S : Type} {post : Option Value → S → Prop} {W1 : S → va_W} {mc ms nL maxL n idx b q0 ci : Nat} {fs : List Value} {q : vw_C} {Ts tw tw' : List Cond} {own C : String} {y : MethodName} {bytes : ByteArray} {ret : Option FieldType} {rm : Room} {av : List Value} (F : CallFix p m c cc nL s args Ts own) (hK : va_K D vwCl (tysG cy) s) (hE : EV sa A s s.heap) (hA : ∀ q, s.heap.size ≤ q → A q) (hP : va_P D vwCl ws H) (hD : va_D A ws) (hS : va_S A s.heap H locs) (hls : ls.size = nL)
    (hM : CT (S := S) l D cy sa y tw rm (.ref b :: av) wc post W1 mc ms) (hG : GoodIn Ts (wsV own idx C y tw)) (hrv : ws[q0]? = some (b, .inr (ci, fs))) (hci : vwCl[ci]? = some q) (hqC : q.1 = C) (hw : tw = Cond.code y bytes maxL ret :: tw') (hrc : rm.cells = mc) (hrs : rm.slots = ms)
    (hd : y.cls = C ∧ y.cls ≠ "java/lang/invoke/MethodHandle" ∧ y.cls ≠ "java/lang/invoke/VarHandle" ∧ (parseMethodDescriptor y.desc).map (fun d => d.parameters.length) = some n) (hRm : rm.frames + 1 ≤ R.frames ∧ 8 + (maxL + 11) + rm.locals ≤ R.locals)
    (isC isR : List Nat) (hnC : va_nd isC = true) (hC : isC.map (fun i => ws[i]?) = wc.map some) (hR : isR.map (fun i => ws[i]?) = wr.map some) (hn : va_nd isR = true) (hdis : ∀ i ∈ isR, i ∉ isC)
    (hav : av.length = n) (hst : st0 = av.reverse ++ .ref b :: rest) (hW8 : (rest.map fun v => v.category).sum ≤ 8) (hdg : decode cc pc = .ok (.invokevirtual idx, 3)) (hf : cells + mc ≤ R.cells ∧ slots + ms ≤ R.slots)
    (kk : ∀ (v : Option Value) (u : S) (H1 : Heap) (locs1 : List Loc), post v u → va_P D vwCl (wr ++ W1 u) H1 → va_D A (wr ++ W1 u) → va_S A s.heap H1 locs1 → W p l e R s m args below meth c H1 locs1 (cells + mc) (slots + ms) Q (F0 m (pc + 3) ls (v.toList ++ rest))) : W p l e R s m args below meth c H locs cells slots Q (F0 m pc ls st0) := by
  have hpre := ca_pre (av := .ref b :: av) rfl hK hE hA hP hD hS isC hnC hC
  refine ca_run (cy := cy) (va_runV (As := av) (rest := rest) F (hM H.size) (cwV n F.2.2.2.2 hG hw hrc hrs hd hRm) ⟨hpre.1, by rw [← hqC]; exact va_recv hK hP hci hrv, hpre.2⟩ rfl hav hls hst (lv_room hW8) hdg hf) hA hP hD hS isC isR hC hR hn hdis kk
/-- a call of a private method of a nest mate -/
theorem ca_VN {S : Type} {post : Option Value → S → Prop} {W1 : S → va_W} {mc ms nL maxL n idx b q0 ci : Nat} {fs : List Value} {q : vw_C} {Ts tw tw' : List Cond} {own C host : String} {y : MethodName} {bytes : ByteArray} {ret : Option FieldType} {rm : Room} {av : List Value} (F : CallFix p m c cc nL s args Ts own) (hK : va_K D vwCl (tysG cy) s) (hE : EV sa A s s.heap) (hA : ∀ q, s.heap.size ≤ q → A q) (hP : va_P D vwCl ws H) (hD : va_D A ws) (hS : va_S A s.heap H locs) (hls : ls.size = nL)
    (hM : CT (S := S) l D cy sa y tw rm (.ref b :: av) wc post W1 mc ms) (hG : GoodIn Ts tw) (hnest : va_Nw (.methodLinkNest own idx y host) s) (hini : (Cond.initialized y.cls).before args s = true) (hinst : (Cond.instanceMethod y).before args s = true) (hsel : (Cond.selects C y y).before args s = true) (hrv : ws[q0]? = some (b, .inr (ci, fs))) (hci : vwCl[ci]? = some q) (hqC : q.1 = C) (hw : tw = Cond.code y bytes maxL ret :: tw') (hrc : rm.cells = mc) (hrs : rm.slots = ms)
    (hd : y.cls ≠ "java/lang/invoke/MethodHandle" ∧ y.cls ≠ "java/lang/invoke/VarHandle" ∧ (parseMethodDescriptor y.desc).map (fun d => d.parameters.length) = some n) (hRm : rm.frames + 1 ≤ R.frames ∧ 8 + (maxL + 11) + rm.locals ≤ R.locals)
    (isC isR : List Nat) (hnC : va_nd isC = true) (hC : isC.map (fun i => ws[i]?) = wc.map some) (hR : isR.map (fun i => ws[i]?) = wr.map some) (hn : va_nd isR = true) (hdis : ∀ i ∈ isR, i ∉ isC)
    (hav : av.length = n) (hst : st0 = av.reverse ++ .ref b :: rest) (hW8 : (rest.map fun v => v.category).sum ≤ 8) (hdg : decode cc pc = .ok (.invokevirtual idx, 3)) (hf : cells + mc ≤ R.cells ∧ slots + ms ≤ R.slots)
    (kk : ∀ (v : Option Value) (u : S) (H1 : Heap) (locs1 : List Loc), post v u → va_P D vwCl (wr ++ W1 u) H1 → va_D A (wr ++ W1 u) → va_S A s.heap H1 locs1 → W p l e R s m args below meth c H1 locs1 (cells + mc) (slots + ms) Q (F0 m (pc + 3) ls (v.toList ++ rest))) : W p l e R s m args below meth c H locs cells slots Q (F0 m pc ls st0) := by
  have hpre := ca_pre (av := .ref b :: av) rfl hK hE hA hP hD hS isC hnC hC
  refine ca_run (cy := cy) (va_runVN (As := av) (rest := rest) F (hM H.size) ⟨va_cnB n F.2.2.2.2 hG hw hrc hrs hnest hini hd hRm, hinst, hsel⟩ ⟨hpre.1, by rw [← hqC]; exact va_recv hK hP hci hrv, hpre.2⟩ rfl hav hls hst (lv_room hW8) hdg hf) hA hP hD hS isC isR hC hR hn hdis kk
/-- a constructor of a nest mate -/
theorem ca_IN {S : Type} {post : Option Value → S → Prop} {W1 : S → va_W} {mc ms nL maxL n idx b : Nat} {Ts tw tw' : List Cond} {own host : String} {y : MethodName} {bytes : ByteArray} {rm : Room} {av : List Value} (F : CallFix p m c cc nL s args Ts own) (hK : va_K D vwCl (tysG cy) s) (hE : EV sa A s s.heap) (hA : ∀ q, s.heap.size ≤ q → A q) (hP : va_P D vwCl ws H) (hD : va_D A ws) (hS : va_S A s.heap H locs) (hls : ls.size = nL)
    (hM : CT (S := S) l D cy sa y tw rm (.ref b :: av) wc post W1 mc ms) (hG : GoodIn Ts tw) (hnest : va_Nw (.methodLinkNest own idx y host) s) (hini : (Cond.initialized y.cls).before args s = true) (hinst : (Cond.instanceMethod y).before args s = true) (hnm : y.name = "<init>") (hw : tw = Cond.code y bytes maxL none :: tw') (hrc : rm.cells = mc) (hrs : rm.slots = ms)
    (hd : y.cls ≠ "java/lang/invoke/MethodHandle" ∧ y.cls ≠ "java/lang/invoke/VarHandle" ∧ (parseMethodDescriptor y.desc).map (fun d => d.parameters.length) = some n) (hRm : rm.frames + 1 ≤ R.frames ∧ 8 + (maxL + 11) + rm.locals ≤ R.locals)
    (isC isR : List Nat) (hnC : va_nd isC = true) (hC : isC.map (fun i => ws[i]?) = wc.map some) (hR : isR.map (fun i => ws[i]?) = wr.map some) (hn : va_nd isR = true) (hdis : ∀ i ∈ isR, i ∉ isC)
    (hav : av.length = n) (hst : st0 = av.reverse ++ .ref b :: rest) (hW8 : (rest.map fun v => v.category).sum ≤ 8) (hdg : decode cc pc = .ok (.invokespecial idx, 3)) (hf : cells + mc ≤ R.cells ∧ slots + ms ≤ R.slots)
    (kk : ∀ (v : Option Value) (u : S) (H1 : Heap) (locs1 : List Loc), post v u → va_P D vwCl (wr ++ W1 u) H1 → va_D A (wr ++ W1 u) → va_S A s.heap H1 locs1 → W p l e R s m args below meth c H1 locs1 (cells + mc) (slots + ms) Q (F0 m (pc + 3) ls (v.toList ++ rest))) : W p l e R s m args below meth c H locs cells slots Q (F0 m pc ls st0) := by
  refine ca_run (cy := cy) (va_runIN (As := av) (rest := rest) F (hM H.size) ⟨va_cnB n F.2.2.2.2 hG hw hrc hrs hnest hini hd hRm, hnm, hinst⟩ (ca_pre (av := .ref b :: av) rfl hK hE hA hP hD hS isC hnC hC) rfl hav hls hst (lv_room hW8) hdg hf) hA hP hD hS isC isR hC hR hn hdis kk
/-- the cells in another order, or some of them -/
theorem re_ws {ws' : va_W} (hP : va_P D vwCl ws H) (hD : va_D A ws) (is : List Nat) (hn : va_nd is = true) (hs : is.map (fun i => ws[i]?) = ws'.map some) : va_P D vwCl ws' H ∧ va_D A ws' := by
  refine ⟨fun k q hk => ?_, hD.sub is hn hs⟩
  have h1 : (is.map (fun i => ws[i]?))[k]? = some (some q) := by rw [hs, List.getElem?_map, hk]; rfl
  rw [List.getElem?_map] at h1
  cases hi : is[k]? with
  | none => rw [hi] at h1; cases h1
  | some i => rw [hi] at h1; exact hP i q (Option.some.inj h1)
-- the number on top under another name
theorem lv_eqi {x y : Int32} (h : x = y) (k : W p l e R s m args below meth c H locs cells slots Q (F0 m pc ls (.int y :: rest))) : W p l e R s m args below meth c H locs cells slots Q (F0 m pc ls (.int x :: rest)) := by rw [h]; exact k
theorem lv_eql {x y : Int64} (h : x = y) (k : W p l e R s m args below meth c H locs cells slots Q (F0 m pc ls (.long y :: rest))) : W p l e R s m args below meth c H locs cells slots Q (F0 m pc ls (.long x :: rest)) := by rw [h]; exact k
-- arrays by natural places
theorem al_i (hexec : p.tables.exec = Jvm.exec) (hb : c.code = cc) (hK : va_K D vwCl (tysG cy) s) (hP : va_P D vwCl ws H) (q0 : Nat) {n : Nat} {f : Nat → Int32} (ha : ws[q0]? = some (a, .inl (cy 0, n, .inl f))) (j : Nat) {i : Int32} (hi : i = nI j) (hj : j < n) (hn : n < 2 ^ 31) (hdg : decode cc pc = .ok (.iaload, 1))
    (kk : W p l e R s m args below meth c H locs cells slots Q (F0 m (pc + 1) ls (.int (f j) :: rest))) : W p l e R s m args below meth c H locs cells slots Q (F0 m pc ls (.int i :: .ref a :: rest)) := by
  subst hi
  refine va_iald hexec hb hK hP q0 0 ha rfl (vp_in_nI hj hn) hdg ?_
  rw [nI_clamp (Nat.lt_trans hj hn)]
  exact kk
theorem al_z (hexec : p.tables.exec = Jvm.exec) (hb : c.code = cc) (hK : va_K D vwCl (tysG cy) s) (hP : va_P D vwCl ws H) (q0 : Nat) {n : Nat} {f : Nat → Int32} (ha : ws[q0]? = some (a, .inl (cy 1, n, .inl f))) (j : Nat) {i : Int32} (hi : i = nI j) (hj : j < n) (hn : n < 2 ^ 31) (hdg : decode cc pc = .ok (.baload, 1))
    (kk : W p l e R s m args below meth c H locs cells slots Q (F0 m (pc + 1) ls (.int (f j) :: rest))) : W p l e R s m args below meth c H locs cells slots Q (F0 m pc ls (.int i :: .ref a :: rest)) := by
  subst hi
  refine va_zald hexec hb hK hP q0 1 ha rfl (vp_in_nI hj hn) hdg ?_
  rw [nI_clamp (Nat.lt_trans hj hn)]
  exact kk
theorem as_i (hexec : p.tables.exec = Jvm.exec) (hb : c.code = cc) (hK : va_K D vwCl (tysG cy) s) (hP : va_P D vwCl ws H) (hD : va_D A ws) (hS : va_S A H0 H locs) (q0 : Nat) {n : Nat} {f : Nat → Int32} (ha : ws[q0]? = some (a, .inl (cy 0, n, .inl f))) (j : Nat) {i x : Int32} (hi : i = nI j) (hj : j < n) (hn : n < 2 ^ 31) (hdg : decode cc pc = .ok (.iastore, 1))
    (kk : ∀ (H1 : Heap) (locs1 : List Loc), va_P D vwCl (ws.set q0 (a, .inl (cy 0, n, .inl (upd f j x)))) H1 → va_D A (ws.set q0 (a, .inl (cy 0, n, .inl (upd f j x)))) → va_S A H0 H1 locs1 → W p l e R s m args below meth c H1 locs1 cells slots Q (F0 m (pc + 1) ls rest)) : W p l e R s m args below meth c H locs cells slots Q (F0 m pc ls (.int x :: .int i :: .ref a :: rest)) := by
  subst hi
  refine va_iast hexec hb hK hP hD hS q0 0 ha rfl (vp_in_nI hj hn) hdg ?_
  rw [nI_clamp (Nat.lt_trans hj hn)]
  exact kk
theorem as_z (hexec : p.tables.exec = Jvm.exec) (hb : c.code = cc) (hK : va_K D vwCl (tysG cy) s) (hP : va_P D vwCl ws H) (hD : va_D A ws) (hS : va_S A H0 H locs) (q0 : Nat) {n : Nat} {f : Nat → Int32} (ha : ws[q0]? = some (a, .inl (cy 1, n, .inl f))) (j : Nat) {i x : Int32} (hi : i = nI j) (hj : j < n) (hn : n < 2 ^ 31) (hx1 : vp_nar .boolean x = x) (hdg : decode cc pc = .ok (.bastore, 1))
    (kk : ∀ (H1 : Heap) (locs1 : List Loc), va_P D vwCl (ws.set q0 (a, .inl (cy 1, n, .inl (upd f j x)))) H1 → va_D A (ws.set q0 (a, .inl (cy 1, n, .inl (upd f j x)))) → va_S A H0 H1 locs1 → W p l e R s m args below meth c H1 locs1 cells slots Q (F0 m (pc + 1) ls rest)) : W p l e R s m args below meth c H locs cells slots Q (F0 m pc ls (.int x :: .int i :: .ref a :: rest)) := by
  subst hi
  refine va_zast hexec hb hK hP hD hS q0 1 ha rfl (vp_in_nI hj hn) hdg ?_
  rw [nI_clamp (Nat.lt_trans hj hn), hx1]
  exact kk
theorem al_q (hexec : p.tables.exec = Jvm.exec) (hb : c.code = cc) (hK : va_K D vwCl (tysG cy) s) (hP : va_P D vwCl ws H) (q0 t0 : Nat) {n : Nat} {C : String} {cA : ClassId} {f : Nat → Option Nat} (ha : ws[q0]? = some (a, .inl (cA, n, .inr (.inr (.inr (.inr f)))))) (ht : (tysG cy)[t0]? = some (cA, .object C)) (j : Nat) {i : Int32} {r : Nat} (hi : i = nI j) (hj : j < n) (hn : n < 2 ^ 31) (hr : f j = some r) (hdg : decode cc pc = .ok (.aaload, 1))
    (kk : W p l e R s m args below meth c H locs cells slots Q (F0 m (pc + 1) ls (.ref r :: rest))) : W p l e R s m args below meth c H locs cells slots Q (F0 m pc ls (.int i :: .ref a :: rest)) := by
  subst hi
  refine va_aldq hexec hb hK hP q0 t0 ha ht (vp_in_nI hj hn) hdg ?_
  rw [nI_clamp (Nat.lt_trans hj hn), hr]
  exact kk
theorem as_q (hexec : p.tables.exec = Jvm.exec) (hb : c.code = cc) (hK : va_K D vwCl (tysG cy) s) (hP : va_P D vwCl ws H) (hD : va_D A ws) (hS : va_S A H0 H locs) (q0 t0 qk ci : Nat) {cA : ClassId} {r : vw_C} {n v : Nat} {vs : List Value} {f : Nat → Option Nat} (ha : ws[q0]? = some (a, .inl (cA, n, .inr (.inr (.inr (.inr f)))))) (ht : (tysG cy)[t0]? = some (cA, .object r.1)) (hv : ws[qk]? = some (v, .inr (ci, vs))) (hc : vwCl[ci]? = some r) (j : Nat) {i : Int32} (hi : i = nI j) (hj : j < n) (hn : n < 2 ^ 31) (hdg : decode cc pc = .ok (.aastore, 1))
    (kk : ∀ (H1 : Heap) (locs1 : List Loc), va_P D vwCl (ws.set q0 (a, .inl (cA, n, .inr (.inr (.inr (.inr (va_up f j (some v)))))))) H1 → va_D A (ws.set q0 (a, .inl (cA, n, .inr (.inr (.inr (.inr (va_up f j (some v)))))))) → va_S A H0 H1 locs1 → W p l e R s m args below meth c H1 locs1 cells slots Q (F0 m (pc + 1) ls rest)) : W p l e R s m args below meth c H locs cells slots Q (F0 m pc ls (.ref v :: .int i :: .ref a :: rest)) := by
  subst hi
  refine va_astq hexec hb hK hP hD hS q0 t0 qk ci ha ht hv hc (vp_in_nI hj hn) hdg ?_
  rw [nI_clamp (Nat.lt_trans hj hn)]
  exact kk
/-- a new array of ints, or of booleans -/
theorem nw_a (hexec : p.tables.exec = Jvm.exec) (hb : c.code = cc) {atype : ArrayType} {ty : FieldType} (k : Nat) (hk : (tysG cy)[k]? = some (cy k, ty)) (hra : ∀ U cA, va_RA U cA ty → U.vm.findClass ("[" ++ ty.toString) = some cA) (harr : (Cond.arrayClass (newarray.typeOf atype)).before args s = true) (hty : newarray.typeOf atype = ty) (hK : va_K D vwCl (tysG cy) s) (hP : va_P D vwCl ws H) (hD : va_D A ws) (hS : va_S A H0 H locs) (hA : ∀ q, H0.size ≤ q → A q)
    {n : Int32} {N' : Nat} {a0 : vp_A} (ha : ∀ cA : ClassId, vp_cell cA a0 = arrV cA N' (fun _ => defaultValue ty)) (hn : ¬ n < 0) (hN : n.toNatClampNeg = N') (hbytes : N' * componentBytes ty ≤ 536870912) (hcells : cells + 1 ≤ R.cells) (hslots : slots + N' ≤ R.slots) (hdg : decode cc pc = .ok (.newarray atype, 2))
    (kk : ∀ (q : Nat) (H1 : Heap), va_P D vwCl (ws ++ [(q, .inl (cy k, a0))]) H1 → va_D A (ws ++ [(q, .inl (cy k, a0))]) → va_S A H0 H1 locs → W p l e R s m args below meth c H1 locs (cells + 1) (slots + N') Q (F0 m (pc + 2) ls (.ref q :: rest))) : W p l e R s m args below meth c H locs cells slots Q (F0 m pc ls (.int n :: rest)) := by
  refine va_newa hexec hb harr hty hK hP hD hS hA ha hn hN hbytes hcells hslots hdg (fun q cA H1 hK1 hP1 hD1 hS1 => ?_)
  have h1 := hra _ _ (hK.2 k _ hk).2
  have h2 := hra _ _ (hK1.2 (tysG cy).length (cA, ty) (by rw [List.getElem?_append_right (Nat.le_refl _), Nat.sub_self]; rfl)).2
  have h3 : cA = cy k := Option.some.inj (h2.symm.trans h1)
  subst h3
  exact kk q H1 hP1 hD1 hS1
end
-- truth as a number
def bI (P : Prop) [Decidable P] : Int32 := if P then 1 else 0
theorem bI_t {P : Prop} [Decidable P] (h : P) : bI P = 1 := if_pos h
theorem bI_f {P : Prop} [Decidable P] (h : ¬ P) : bI P = 0 := if_neg h
theorem bI_nar (P : Prop) [Decidable P] : narrow .boolean (.int (bI P)) = .int (bI P) := by
  by_cases h : P
  · rw [bI_t h]; rfl
  · rw [bI_f h]; rfl
theorem bI_eq0 {P : Prop} [Decidable P] : bI P = 0 ↔ ¬ P := by
  by_cases h : P
  · rw [bI_t h]; exact ⟨fun e => absurd e (by decide), fun e => absurd h e⟩
  · rw [bI_f h]; exact ⟨fun _ => h, fun _ => rfl⟩
section
variable {p : Program} {l : Launch} {e : Env} {R : Room} {s : State} {m : MethodId} {args : Array Value} {below : List Frame} {meth : Method} {c : Code} {H : Heap} {locs : List Loc} {cells slots : Nat} {Q : State → Prop} {cc : ByteArray} {pc : Nat} {ls : Array Slot} {rest : List Value}
theorem bz_eq {P : Prop} [Decidable P] (hexec : p.tables.exec = Jvm.exec) (hb : c.code = cc) {off : Int} {tgt : Nat} (hdg : decode cc pc = .ok (.ifCond .eq off, 3)) (ht : (pc : Int) + off = (tgt : Int)) (kt : ¬ P → W p l e R s m args below meth c H locs cells slots Q (F0 m tgt ls rest)) (kf : P → W p l e R s m args below meth c H locs cells slots Q (F0 m (pc + 3) ls rest)) : W p l e R s m args below meth c H locs cells slots Q (F0 m pc ls (.int (bI P) :: rest)) :=
  lv_if_eq hexec hb hdg ht (fun h => kt (bI_eq0.mp h)) (fun h => kf (Decidable.of_not_not (fun q => h (bI_eq0.mpr q))))
theorem bz_ne {P : Prop} [Decidable P] (hexec : p.tables.exec = Jvm.exec) (hb : c.code = cc) {off : Int} {tgt : Nat} (hdg : decode cc pc = .ok (.ifCond .ne off, 3)) (ht : (pc : Int) + off = (tgt : Int)) (kt : P → W p l e R s m args below meth c H locs cells slots Q (F0 m tgt ls rest)) (kf : ¬ P → W p l e R s m args below meth c H locs cells slots Q (F0 m (pc + 3) ls rest)) : W p l e R s m args below meth c H locs cells slots Q (F0 m pc ls (.int (bI P) :: rest)) :=
  lv_if_ne hexec hb hdg ht (fun h => kt (Decidable.of_not_not (fun q => h (bI_eq0.mpr q)))) (fun h => kf (bI_eq0.mp h))
-- a compare of longs with the branch behind it
theorem lc_eq {x y : Int64} (hexec : p.tables.exec = Jvm.exec) (hb : c.code = cc) {off : Int} {tgt : Nat} (hdg : decode cc pc = .ok (.ifCond .eq off, 3)) (ht : (pc : Int) + off = (tgt : Int)) (kt : x = y → W p l e R s m args below meth c H locs cells slots Q (F0 m tgt ls rest)) (kf : ¬ x = y → W p l e R s m args below meth c H locs cells slots Q (F0 m (pc + 3) ls rest)) : W p l e R s m args below meth c H locs cells slots Q (F0 m pc ls (.int (lg_cmp x y) :: rest)) :=
  lv_if_eq hexec hb hdg ht (fun h => kt ((lg_cmp_eq x y).mp h)) (fun h => kf (fun q => h ((lg_cmp_eq x y).mpr q)))
theorem lc_ne {x y : Int64} (hexec : p.tables.exec = Jvm.exec) (hb : c.code = cc) {off : Int} {tgt : Nat} (hdg : decode cc pc = .ok (.ifCond .ne off, 3)) (ht : (pc : Int) + off = (tgt : Int)) (kt : ¬ x = y → W p l e R s m args below meth c H locs cells slots Q (F0 m tgt ls rest)) (kf : x = y → W p l e R s m args below meth c H locs cells slots Q (F0 m (pc + 3) ls rest)) : W p l e R s m args below meth c H locs cells slots Q (F0 m pc ls (.int (lg_cmp x y) :: rest)) :=
  lv_if_ne hexec hb hdg ht (fun h => kt (fun q => h ((lg_cmp_eq x y).mpr q))) (fun h => kf ((lg_cmp_eq x y).mp h))
theorem lc_le {x y : Int64} (hexec : p.tables.exec = Jvm.exec) (hb : c.code = cc) {off : Int} {tgt : Nat} (hdg : decode cc pc = .ok (.ifCond .le off, 3)) (ht : (pc : Int) + off = (tgt : Int)) (kt : x ≤ y → W p l e R s m args below meth c H locs cells slots Q (F0 m tgt ls rest)) (kf : ¬ x ≤ y → W p l e R s m args below meth c H locs cells slots Q (F0 m (pc + 3) ls rest)) : W p l e R s m args below meth c H locs cells slots Q (F0 m pc ls (.int (lg_cmp x y) :: rest)) :=
  lv_if_le hexec hb hdg ht (fun h => kt ((lg_cmp_le x y).mp h)) (fun h => kf (fun q => h ((lg_cmp_le x y).mpr q)))
theorem lc_gt {x y : Int64} (hexec : p.tables.exec = Jvm.exec) (hb : c.code = cc) {off : Int} {tgt : Nat} (hdg : decode cc pc = .ok (.ifCond .gt off, 3)) (ht : (pc : Int) + off = (tgt : Int)) (kt : y < x → W p l e R s m args below meth c H locs cells slots Q (F0 m tgt ls rest)) (kf : ¬ y < x → W p l e R s m args below meth c H locs cells slots Q (F0 m (pc + 3) ls rest)) : W p l e R s m args below meth c H locs cells slots Q (F0 m pc ls (.int (lg_cmp x y) :: rest)) :=
  lv_if_gt hexec hb hdg ht (fun h => kt ((lg_cmp_gt x y).mp h)) (fun h => kf (fun q => h ((lg_cmp_gt x y).mpr q)))
theorem lc_lt {x y : Int64} (hexec : p.tables.exec = Jvm.exec) (hb : c.code = cc) {off : Int} {tgt : Nat} (hdg : decode cc pc = .ok (.ifCond .lt off, 3)) (ht : (pc : Int) + off = (tgt : Int)) (kt : x < y → W p l e R s m args below meth c H locs cells slots Q (F0 m tgt ls rest)) (kf : ¬ x < y → W p l e R s m args below meth c H locs cells slots Q (F0 m (pc + 3) ls rest)) : W p l e R s m args below meth c H locs cells slots Q (F0 m pc ls (.int (lg_cmp x y) :: rest)) :=
  lv_if_lt hexec hb hdg ht (fun h => kt ((lg_cmp_lt x y).mp h)) (fun h => kf (fun q => h ((lg_cmp_lt x y).mpr q)))
theorem lc_ge {x y : Int64} (hexec : p.tables.exec = Jvm.exec) (hb : c.code = cc) {off : Int} {tgt : Nat} (hdg : decode cc pc = .ok (.ifCond .ge off, 3)) (ht : (pc : Int) + off = (tgt : Int)) (kt : y ≤ x → W p l e R s m args below meth c H locs cells slots Q (F0 m tgt ls rest)) (kf : ¬ y ≤ x → W p l e R s m args below meth c H locs cells slots Q (F0 m (pc + 3) ls rest)) : W p l e R s m args below meth c H locs cells slots Q (F0 m pc ls (.int (lg_cmp x y) :: rest)) :=
  lv_if_ge hexec hb hdg ht (fun h => kt ((lg_cmp_ge x y).mp h)) (fun h => kf (fun q => h ((lg_cmp_ge x y).mpr q)))
end
