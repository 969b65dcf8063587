/-! What undoLast, redoNext, dependsOn, squash answer, and what they leave. -/
def sp_undoLast (a : ab_T) : Int32 × ab_T := match lt_ a.2.1 a.2.2.1 with
  | none => (0, a)
  | some k => (s_n (a.1 k), (a.1, va_up a.2.1 k false, a.2.2.1, a.2.2.2.1, []))
def nk_ (ac : Nat → Bool) (n : Nat) : Nat := match lt_ ac n with
  | none => 0
  | some k => k + 1
def sp_redoNext (a : ab_T) : Int32 × ab_T := if nk_ a.2.1 a.2.2.1 < a.2.2.1 then (if (sp_redo a (s_n (a.1 (nk_ a.2.1 a.2.2.1)))).1 = 1 then s_n (a.1 (nk_ a.2.1 a.2.2.1)) else 0, (sp_redo a (s_n (a.1 (nk_ a.2.1 a.2.2.1)))).2) else (0, a)
def sp_dep (a : ab_T) (x y : Int32) : Bool := match fn_ a.1 a.2.2.1 x, fn_ a.1 a.2.2.1 y with
  | some i, some j => decide (j < i) && (a.2.1 j && im_ (a.1 i) (rp_ a.1 (va_up a.2.1 j false) i))
  | _, _ => false
def sp_squash (a : ab_T) : Int32 × ab_T := (nI (al_ a.2.1 a.2.2.1).length, (hq_ a.1 a.2.1 a.2.2.1, on_, (al_ a.2.1 a.2.2.1).length, a.2.2.2.1, a.2.2.2.2))
theorem lt_some {ac : Nat → Bool} : ∀ {n k : Nat}, lt_ ac n = some k → k < n ∧ ac k = true ∧ ∀ j, k < j → j < n → ac j = false := by
  intro n
  induction n with
  | zero => intro k h; cases h
  | succ n ih =>
    intro k h
    cases ha : ac n with
    | true =>
      rw [lt_on ha] at h
      cases h
      exact ⟨Nat.lt_succ_self _, ha, fun j h1 h2 => by omega⟩
    | false =>
      rw [lt_off ha] at h
      obtain ⟨h1, h2, h3⟩ := ih h
      refine ⟨by omega, h2, fun j hj hjn => ?_⟩
      by_cases he : j = n
      · rw [he]; exact ha
      · exact h3 j hj (by omega)
theorem il_last {hs : Nat → st_T} {ac : Nat → Bool} {n k : Nat} (hl : lt_ ac n = some k) (hi : il_ hs ac n = []) : il_ hs (va_up ac k false) n = [] := by
  obtain ⟨h1, h2, h3⟩ := lt_some hl
  rw [List.eq_nil_iff_forall_not_mem]
  intro j hj
  obtain ⟨g1, g2, g3⟩ := il_mem.mp hj
  by_cases he : j = k
  · rw [he, vu_eq] at g2; cases g2
  · rw [vu_ne he] at g2
    have hjk : j < k := by
      rcases Nat.lt_or_ge k j with h | h
      · have := h3 j h g1
        rw [this] at g2
        cases g2
      · omega
    have e : rp_ hs (va_up ac k false) j = rp_ hs ac j := rp_cong fun i hi2 => ⟨rfl, vu_ne (by omega)⟩
    rw [e] at g3
    have : j ∈ il_ hs ac n := il_mem.mpr ⟨g1, g2, g3⟩
    rw [hi] at this
    cases this
theorem ul_none {a : ab_T} (h : lt_ a.2.1 a.2.2.1 = none) : sp_undoLast a = (0, a) := by
  unfold sp_undoLast
  rw [h]
theorem ul_some {a : ab_T} {k : Nat} (h : lt_ a.2.1 a.2.2.1 = some k) : sp_undoLast a = (s_n (a.1 k), (a.1, va_up a.2.1 k false, a.2.2.1, a.2.2.2.1, [])) := by
  unfold sp_undoLast
  rw [h]
theorem ul_undo {hs : Nat → st_T} {ac : Nat → Bool} {n la : Nat} {T : List Int32} {k : Nat} (hh : hi_ hs n la) (hi : il_ hs ac n = []) (h : lt_ ac n = some k) : sp_undo (hs, ac, n, la, T) (s_n (hs k)) false = (1, (hs, va_up ac k false, n, la, [])) := by
  obtain ⟨h1, h2, -⟩ := lt_some h
  rw [un_some (a := (hs, ac, n, la, T)) (k := k) (fn_at hh h1), if_pos (show ac k = true from h2)]
  have e := il_last h hi
  rw [if_neg (fun h9 => h9.1 e)]
  show (1, (hs, off_ (va_up ac k false) (il_ hs (va_up ac k false) n), n, la, (il_ hs (va_up ac k false) n).map (fun j => s_n (hs j)))) = _
  rw [e, off_nil]
  rfl
theorem dp_none1 {a : ab_T} {x y : Int32} (h : fn_ a.1 a.2.2.1 x = none) : sp_dep a x y = false := by
  unfold sp_dep
  rw [h]
theorem dp_none2 {a : ab_T} {x y : Int32} (h : fn_ a.1 a.2.2.1 y = none) : sp_dep a x y = false := by
  unfold sp_dep
  rw [h]
  cases fn_ a.1 a.2.2.1 x <;> rfl
theorem dp_some {a : ab_T} {x y : Int32} {i j : Nat} (h : fn_ a.1 a.2.2.1 x = some i) (h2 : fn_ a.1 a.2.2.1 y = some j) : sp_dep a x y = (decide (j < i) && (a.2.1 j && im_ (a.1 i) (rp_ a.1 (va_up a.2.1 j false) i))) := by
  unfold sp_dep
  rw [h, h2]
