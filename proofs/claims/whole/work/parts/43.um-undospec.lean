/-! What undo, redo, undoLast, redoNext answer, and what they leave. -/
def sp_undo (a : ab_T) (x : Int32) (al : Bool) : Int32 × ab_T := match fn_ a.1 a.2.2.1 x with
  | none => (0, a)
  | some k => if a.2.1 k = true then (if ¬ il_ a.1 (va_up a.2.1 k false) a.2.2.1 = [] ∧ al = false then (-(s_n (a.1 ((il_ a.1 (va_up a.2.1 k false) a.2.2.1).getD 0 0))), a) else (1, (a.1, off_ (va_up a.2.1 k false) (il_ a.1 (va_up a.2.1 k false) a.2.2.1), a.2.2.1, a.2.2.2.1, (il_ a.1 (va_up a.2.1 k false) a.2.2.1).map (fun j => s_n (a.1 j))))) else (0, a)
def sp_redo (a : ab_T) (x : Int32) : Int32 × ab_T := match fn_ a.1 a.2.2.1 x with
  | none => (0, a)
  | some k => if a.2.1 k = true then (0, a) else (if il_ a.1 (va_up a.2.1 k true) a.2.2.1 = [] then (1, (a.1, va_up a.2.1 k true, a.2.2.1, a.2.2.2.1, a.2.2.2.2)) else (-(s_n (a.1 ((il_ a.1 (va_up a.2.1 k true) a.2.2.1).getD 0 0))), a))
theorem up_back {ac : Nat → Bool} {k : Nat} {b c : Bool} (h : ac k = c) : va_up (va_up ac k b) k c = ac := by
  rw [bx_uu]
  funext j
  by_cases hj : j = k
  · rw [hj, vu_eq, h]
  · rw [vu_ne hj]
theorem un_none {a : ab_T} {x : Int32} {al : Bool} (h : fn_ a.1 a.2.2.1 x = none) : sp_undo a x al = (0, a) := by
  unfold sp_undo
  rw [h]
theorem un_some {a : ab_T} {x : Int32} {al : Bool} {k : Nat} (h : fn_ a.1 a.2.2.1 x = some k) : sp_undo a x al = if a.2.1 k = true then (if ¬ il_ a.1 (va_up a.2.1 k false) a.2.2.1 = [] ∧ al = false then (-(s_n (a.1 ((il_ a.1 (va_up a.2.1 k false) a.2.2.1).getD 0 0))), a) else (1, (a.1, off_ (va_up a.2.1 k false) (il_ a.1 (va_up a.2.1 k false) a.2.2.1), a.2.2.1, a.2.2.2.1, (il_ a.1 (va_up a.2.1 k false) a.2.2.1).map (fun j => s_n (a.1 j))))) else (0, a) := by
  unfold sp_undo
  rw [h]
theorem re_none {a : ab_T} {x : Int32} (h : fn_ a.1 a.2.2.1 x = none) : sp_redo a x = (0, a) := by
  unfold sp_redo
  rw [h]
theorem re_some {a : ab_T} {x : Int32} {k : Nat} (h : fn_ a.1 a.2.2.1 x = some k) : sp_redo a x = if a.2.1 k = true then (0, a) else (if il_ a.1 (va_up a.2.1 k true) a.2.2.1 = [] then (1, (a.1, va_up a.2.1 k true, a.2.2.1, a.2.2.2.1, a.2.2.2.2)) else (-(s_n (a.1 ((il_ a.1 (va_up a.2.1 k true) a.2.2.1).getD 0 0))), a)) := by
  unfold sp_redo
  rw [h]
theorem il_0 {hs : Nat → st_T} {ac : Nat → Bool} {n : Nat} (h : 0 < (il_ hs ac n).length) : (il_ hs ac n).getD 0 0 < n := by
  refine il_lt (hs := hs) (ac := ac) ?_
  rw [List.getD_eq_getElem?_getD, List.getElem?_eq_getElem h]
  exact List.getElem_mem h
