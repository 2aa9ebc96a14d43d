/-! rows of references under another function that says the same at their places -/
theorem arr_extq {cA : ClassId} {n : Nat} {f g : Nat → Option Nat} (h : ∀ j, j < n → f j = g j) : vp_cell cA (n, .inr (.inr (.inr (.inr f)))) = vp_cell cA (n, .inr (.inr (.inr (.inr g)))) := by
  have e : (Array.ofFn (n := n) fun j => va_rf (f j.val)) = (Array.ofFn (n := n) fun j => va_rf (g j.val)) := congrArg _ (funext fun j => congrArg va_rf (h j.val j.isLt))
  show ({ cls := cA, slots := (Array.ofFn (n := n) fun j => va_rf (f j.val)), vm := .none } : Cell) = { cls := cA, slots := (Array.ofFn (n := n) fun j => va_rf (g j.val)), vm := .none }
  rw [e]
theorem ro_wq {D : va_G} {A : Nat → Prop} {ws : va_W} {H : Heap} {a n : Nat} {f g : Nat → Option Nat} {cA : ClassId} (hP : va_P D vwCl ws H) (hD : va_D A ws) (k : Nat) (hk : ws[k]? = some (a, .inl (cA, n, .inr (.inr (.inr (.inr f)))))) (h : ∀ j, j < n → f j = g j) : va_P D vwCl (ws.set k (a, .inl (cA, n, .inr (.inr (.inr (.inr g)))))) H ∧ va_D A (ws.set k (a, .inl (cA, n, .inr (.inr (.inr (.inr g)))))) := by
  refine ⟨hP.set hD hk ?_ (fun _ _ => rfl), hD.set hk⟩
  have h0 := hP k _ hk
  have h1 : H[a]? = some (vp_cell cA (n, .inr (.inr (.inr (.inr f))))) := h0
  show H[a]? = some (vp_cell cA (n, .inr (.inr (.inr (.inr g)))))
  rw [h1]
  exact congrArg some (arr_extq h)
def f4 (a b c d : Nat) : Nat → Nat := fun z => match z with | 0 => a | 1 => b | 2 => c | _ => d
def f2 (a b : Nat) : Nat → Nat := fun z => match z with | 0 => a | _ => b
theorem first_k : ∀ k, k < 6 → (if k = 0 then (2 : Int32) else (if k = 2 then 2 else (if k = 3 then 5 else (if k = 4 then 4 else 3)))) = s_FIRST k := by decide +kernel
def nb0 : Nat → Nat → Int32 := fun _ => s_FIRST
def hv0 : Nat → Int32 := upd (upd (fun _ => 0) 0 100) 1 0
def hw0 : Nat → Int32 := upd (upd (fun _ => 0) 0 1) 1 0
def sf0 : Nat → Int32 := upd (upd (fun _ => 0) 25 100) 27 1
def lm0 : Nat → Int32 := upd (fun _ => 0) 4 999
