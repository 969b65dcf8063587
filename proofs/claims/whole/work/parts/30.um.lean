/-! What an UndoMemory holds, and the history that it stands for. -/
def wU (cA : Nat → ClassId) (au : Nat → Nat) (mo tr : Nat) (n la ic tc : Int32) (sa : Nat → Option Nat) (ip tk : Nat → Int32) : va_W :=
  [(au 0, .inr (2, [.ref (au 1), .int n, .int la, .ref mo, .ref tr, .ref (au 2), .int ic, .ref (au 3), .int tc])), (au 1, .inl (cA 3, 200, .inr (.inr (.inr (.inr sa))))), (au 2, .inl (cA 0, 200, .inl ip)), (au 3, .inl (cA 0, 200, .inl tk))]
/-- the steps of the history, among the pooled cells -/
def ui_ (cA : Nat → ClassId) (hs : Nat → st_T) (ac : Nat → Bool) (n : Nat) (sa : Nat → Option Nat) (L : List Nat) (f : Nat → va_E) : Prop := ∀ i, i < n → ∃ a p, sa i = some a ∧ a ∈ L ∧ f a = cS (hs i) p (ac i) ∧ (s_k (hs i) = 3 ∨ s_k (hs i) = 5 → ∃ g, p ∈ L ∧ f p = .inl (cA 0, (s_p (hs i)).length, .inl g) ∧ rl_ g (s_p (hs i)))
theorem ui_at {D : va_G} {cA : Nat → ClassId} {hs : Nat → st_T} {ac : Nat → Bool} {n : Nat} {sa : Nat → Option Nat} {L : List Nat} {f : Nat → va_E} {H : Heap} (h : ui_ cA hs ac n sa L f) {i : Nat} (hi : i < n) (hP : va_P D cls_ (va_pl L f) H) : ∃ a p, sa i = some a ∧ a ∈ L ∧ f a = cS (hs i) p (ac i) ∧ va_P D cls_ [(a, cS (hs i) p (ac i))] H := by
  obtain ⟨a, p, h1, h2, h3, -⟩ := h i hi
  refine ⟨a, p, h1, h2, h3, wp_iff.mpr fun q hq => ?_⟩
  rw [List.mem_singleton.mp hq, ← h3]
  exact wp_iff.mp hP (a, f a) (List.mem_map.mpr ⟨a, h2, rfl⟩)
theorem rp_mw {hs : Nat → st_T} {n la : Nat} (hh : hi_ hs n la) (ac : Nat → Bool) {k : Nat} (hk : k ≤ n) : mw_ (rp_ hs ac k) := by
  obtain ⟨h1, h2, h3, h4, h5, h6, h7⟩ := rp_mb hh ac hk
  have hkd : ∀ j, j < k → kd_ (hs j) := fun j hj => (hh.2.2.1 j (by omega)).1.1
  have hi : ∀ r, r < 3 → ic_ hs r k ≤ 40 := fun r hr => Nat.le_trans (ic_mono hs r hk) (hh.2.2.2.2.2 r hr)
  have := hh.1
  refine ⟨fun r hr => Nat.le_trans (h1 r) (hi r hr), ?_, by omega, h4, h5, fun y hy => ?_, fun y hy => ?_, h6, h7⟩
  · have := hi 0 (by omega)
    have := hi 1 (by omega)
    have := hi 2 (by omega)
    omega
  · obtain ⟨j, hj, -, rfl⟩ := (nd_mem hkd).mp hy
    exact (hh.2.2.1 j (by have := (dn_s.mp hj).1; omega)).2.1
  · obtain ⟨j, hj, -, rfl⟩ := (el_mem hkd).mp hy
    exact (hh.2.2.1 j (by have := (dn_s.mp hj).1; omega)).2.1
/-- how many are active -/
def na_ (ac : Nat → Bool) : Nat → Nat
  | 0 => 0
  | k + 1 => na_ ac k + (if ac k = true then 1 else 0)
theorem na_s (ac : Nat → Bool) (k : Nat) : na_ ac (k + 1) = na_ ac k + (if ac k = true then 1 else 0) := rfl
theorem na_le (ac : Nat → Bool) : ∀ k, na_ ac k ≤ k := by
  intro k
  induction k with
  | zero => exact Nat.le_refl _
  | succ k ih =>
    rw [na_s]
    by_cases h : ac k = true
    · rw [if_pos h]; omega
    · rw [if_neg h]; omega
/-- the latest active step below n -/
def lt_ (ac : Nat → Bool) : Nat → Option Nat
  | 0 => none
  | k + 1 => if ac k = true then some k else lt_ ac k
theorem lt_on {ac : Nat → Bool} {k : Nat} (h : ac k = true) : lt_ ac (k + 1) = some k := if_pos h
theorem lt_off {ac : Nat → Bool} {k : Nat} (h : ac k = false) : lt_ ac (k + 1) = lt_ ac k := if_neg (by rw [h]; decide)
theorem ic_le (hs : Nat → st_T) (r : Nat) : ∀ k, ic_ hs r k ≤ k := by
  intro k
  induction k with
  | zero => exact Nat.le_refl _
  | succ k ih =>
    rw [ic_s]
    by_cases h : s_k (hs k) = 3 ∧ s_r (hs k) = r
    · rw [if_pos h]; omega
    · rw [if_neg h]; omega
/-- Java's isIndex -/
def inx_ (x : Int32) (n : Nat) : Bool := decide (0 ≤ x.toInt ∧ x.toInt < (n : Int))
theorem inx_n {x : Int32} {n : Nat} (h : inx_ x n = true) : ∃ j : Nat, j < n ∧ x = nI j := by
  have h2 : 0 ≤ x.toInt ∧ x.toInt < (n : Int) := by simpa [inx_] using h
  refine ⟨x.toInt.toNat, by omega, Int32.toInt.inj ?_⟩
  have h3 := Int32.toInt_lt x
  rw [nI_toInt (by omega)]
  omega
theorem inx_i {j n : Nat} (h : j < n) (hn : j < 2 ^ 31) : inx_ (nI j) n = true := by
  unfold inx_
  rw [nI_toInt hn]
  simp
  omega
-- what the reading calls answer
def sp_taken (T : List Int32) (x : Int32) : Int32 := if inx_ x T.length = true then T.getD x.toNatClampNeg 0 else -1
def sp_active (hs : Nat → st_T) (ac : Nat → Bool) (n : Nat) (x : Int32) : Int32 := match fn_ hs n x with
  | some i => b2_ (ac i)
  | none => -1
def sp_count (ac : Nat → Bool) (n la : Nat) (x : Int32) : Int32 := if x = 0 then nI n else if x = 1 then nI la else if x = 2 then nI (na_ ac n) else -1
def sp_hist (hs : Nat → st_T) (n : Nat) (x y : Int32) : Int32 := if inx_ x n = true then (if y = 0 then s_n (hs x.toNatClampNeg) else if y = 1 then s_k (hs x.toNatClampNeg) else if y = 2 then s_t (hs x.toNatClampNeg) else -1) else -1
def sp_cell (m : me_T) (x : Int32) : Int32 := if inx_ x 8 = true then m_c m x.toNatClampNeg else 0
def sp_counter (m : me_T) (x : Int32) : Int64 := if inx_ x 4 = true then m_k m x.toNatClampNeg else 0
def sp_len (m : me_T) (x : Int32) : Int32 := if inx_ x 3 = true then nI (m_r m x.toNatClampNeg).length else -1
def sp_elem (m : me_T) (x y : Int32) : Int32 := if inx_ x 3 = true ∧ inx_ y (m_r m x.toNatClampNeg).length = true then (m_r m x.toNatClampNeg).getD y.toNatClampNeg 0 else 0
def sp_value (hs : Nat → st_T) (n : Nat) (x : Int32) : Int32 := match fn_ hs n x with
  | some i => if s_k (hs i) = 3 then (s_a (hs i)).toInt32 else 0
  | none => 0
def sp_parent (m : me_T) (x : Int32) : Int32 := if x ∈ m_n m then m_p m x else -1
theorem dec2_ (x : Int32) : x + Int32.ofInt (-1) = x - 1 := by
  rw [Int32.sub_eq_add_neg]
  rfl
