/-! kinds and images, as the class's calls answer -/
def scC (f : Nat → Int32) (h : Int32) (k : Nat) : Int32 := match k with
  | 0 => pc64 (rg f 41)
  | 1 => pc64 (rg f 41) + f 1
  | 2 => pc64 (rg f 41) - pc64 (rg (upd f 0 0) 41)
  | 3 => pc64 (rg f 41) - pc64 (rg (upd f 1 0) 41)
  | 4 => 2 * (pc64 (rg f 41) - pc64 (rg (upd f 1 0) 41)) + f 0
  | 5 => pc64 (rg f 41) - h / 10
  | _ => pc64 (rg f 41) * f 3
def trC (tr : Int64) (k : Nat) : Int64 := match k with
  | 0 => tr + (s_TRACE 0).toInt64
  | 1 => tr + (s_TRACE 1).toInt64 + (s_TRACE 0).toInt64
  | 2 => tr + (s_TRACE 2).toInt64 + (s_TRACE 0).toInt64
  | 3 => tr + (s_TRACE 3).toInt64 + (s_TRACE 0).toInt64
  | 4 => tr + (s_TRACE 4).toInt64 + (s_TRACE 3).toInt64 + (s_TRACE 0).toInt64
  | 5 => tr + (s_TRACE 5).toInt64 + (s_TRACE 0).toInt64
  | _ => tr + (s_TRACE 6).toInt64 + (s_TRACE 0).toInt64
def c_score (nb : Nat → Nat → Int32) (h kd i : Int32) : Int32 := if okSc kd i then scC (nb i.toNatClampNeg) h kd.toNatClampNeg else NO
def c_trace (tr : Int64) (kd i : Int32) : Int64 := if okSc kd i then trC tr kd.toNatClampNeg else tr
/-- image w becomes x -/
def kpU {α : Type} (g : Nat → α) (x : α) (w : Int32) : Nat → α := if inR w 0 1 then (fun a => if a = w.toNatClampNeg then x else g a) else g
theorem kpU_no {α : Type} {g : Nat → α} {x : α} {w : Int32} (h : ¬ inR w 0 1) (a : Nat) : g a = kpU g x w a := by rw [kpU, if_neg h]
theorem kpU_at {α : Type} {g : Nat → α} {x : α} {j : Nat} (h : inR (nI j) 0 1) (hj : j < 1000) : x = kpU g x (nI j) j := by rw [kpU, if_pos h]; exact (if_pos (cl_n (by omega)).symm).symm
theorem kpU_ne {α : Type} {g : Nat → α} {x : α} {j a : Nat} (h : inR (nI j) 0 1) (hj : j < 1000) (ha : a ≠ j) : g a = kpU g x (nI j) a := by rw [kpU, if_pos h]; exact (if_neg (fun z => ha (z.trans (cl_n (by omega))))).symm
/-- what w brings back, where it was kept -/
def bkU {α : Type} (g : Nat → α) (kf : Nat → Int32) (x : α) (w : Int32) : α := if inR w 0 1 then (if kf w.toNatClampNeg = 0 then x else g w.toNatClampNeg) else x
def c_back (kt : Nat → Nat) (kf : Nat → Int32) (w : Int32) : Int32 := if inR w 0 1 then (if kf w.toNatClampNeg = 0 then -2 else nI (kt w.toNatClampNeg)) else -1
