/-! What the reference holds, and the history and the memory that it stands for. -/
def wM (cA : Nat → ClassId) (am : Nat → Nat) (sz la : Int32) (nu ki th ot : Nat → Int32) (vs : Nat → Int64) (av pl ps : Nat → Int32) (tz : Int32) (ts : Nat → Int32) (fr bk : Int32) (ce : Nat → Int32) (co : Nat → Int64) (ro le dn un : Nat → Int32) : va_W :=
  [(am 0, .inr (3, [.int sz, .int la, .ref (am 1), .ref (am 2), .ref (am 3), .ref (am 4), .ref (am 5), .ref (am 6), .ref (am 7), .ref (am 8), .int tz, .ref (am 9), .int fr, .int bk, .ref (am 10), .ref (am 11), .ref (am 12), .ref (am 13), .ref (am 14), .ref (am 15)])), (am 1, .inl (cA 0, 200, .inl nu)), (am 2, .inl (cA 0, 200, .inl ki)), (am 3, .inl (cA 0, 200, .inl th)), (am 4, .inl (cA 0, 200, .inl ot)), (am 5, .inl (cA 1, 200, .inr (.inl vs))), (am 6, .inl (cA 4, 200, .inl av)), (am 7, .inl (cA 0, 8000, .inl pl)), (am 8, .inl (cA 0, 200, .inl ps)), (am 9, .inl (cA 0, 200, .inl ts)), (am 10, .inl (cA 0, 8, .inl ce)), (am 11, .inl (cA 1, 4, .inr (.inl co))), (am 12, .inl (cA 0, 120, .inl ro)), (am 13, .inl (cA 0, 3, .inl le)), (am 14, .inl (cA 4, 200, .inl dn)), (am 15, .inl (cA 0, 200, .inl un))]
/-- its history -/
def mh_ (hs : Nat → st_T) (ac : Nat → Bool) (n : Nat) (nu ki th ot : Nat → Int32) (vs : Nat → Int64) (av pl ps : Nat → Int32) : Prop := ∀ i, i < n → nu i = s_n (hs i) ∧ ki i = s_k (hs i) ∧ th i = s_t (hs i) ∧ ot i = s_m (hs i) ∧ vs i = s_a (hs i) ∧ av i = b2_ (ac i) ∧ (s_k (hs i) = 3 ∨ s_k (hs i) = 5 → ps i = nI (s_p (hs i)).length ∧ rl_ (fun j => pl (40 * i + j)) (s_p (hs i)))
/-- its replay of the first k steps that are active by ac -/
def mq_ (hs : Nat → st_T) (ac : Nat → Bool) (n k : Nat) (m : me_T) (ce : Nat → Int32) (co : Nat → Int64) (ro le dn un : Nat → Int32) : Prop := (∀ i, i < 8 → ce i = m_c m i) ∧ (∀ i, i < 4 → co i = m_k m i) ∧ (∀ r, r < 3 → le r = nI (m_r m r).length ∧ rl_ (fun j => ro (40 * r + j)) (m_r m r)) ∧ (∀ j, j < n → dn j = b2_ (dn_ hs ac k j)) ∧ (∀ j, j < n → dn_ hs ac k j = true → s_k (hs j) = 6 → un j = m_p m (s_n (hs j)))
/-- a number names a step that was done -/
def th_ (hs : Nat → st_T) (ac : Nat → Bool) (n k : Nat) (x : Int32) : Bool := match fn_ hs n x with
  | some j => dn_ hs ac k j
  | none => false
def ndo_ (hs : Nat → st_T) (ac : Nat → Bool) (n k : Nat) (x : Int32) : Bool := match fn_ hs n x with
  | some j => decide (s_k (hs j) = 6) && dn_ hs ac k j
  | none => false
theorem th_some {hs : Nat → st_T} {ac : Nat → Bool} {n k j : Nat} {x : Int32} (h : fn_ hs n x = some j) : th_ hs ac n k x = dn_ hs ac k j := by
  unfold th_
  rw [h]
theorem th_none {hs : Nat → st_T} {ac : Nat → Bool} {n k : Nat} {x : Int32} (h : fn_ hs n x = none) : th_ hs ac n k x = false := by
  unfold th_
  rw [h]
theorem nd_some {hs : Nat → st_T} {ac : Nat → Bool} {n k j : Nat} {x : Int32} (h : fn_ hs n x = some j) : ndo_ hs ac n k x = (decide (s_k (hs j) = 6) && dn_ hs ac k j) := by
  unfold ndo_
  rw [h]
theorem nd_none {hs : Nat → st_T} {ac : Nat → Bool} {n k : Nat} {x : Int32} (h : fn_ hs n x = none) : ndo_ hs ac n k x = false := by
  unfold ndo_
  rw [h]
theorem ndo_in {hs : Nat → st_T} {ac : Nat → Bool} {n la k : Nat} (hh : hi_ hs n la) (hk : k ≤ n) (x : Int32) : ndo_ hs ac n k x = decide (x ∈ m_n (rp_ hs ac k)) := by
  have hkd : ∀ j, j < k → kd_ (hs j) := fun j hj => (hh.2.2.1 j (by omega)).1.1
  by_cases hm : x ∈ m_n (rp_ hs ac k)
  · rw [decide_eq_true hm]
    obtain ⟨j, h1, h2, rfl⟩ := (nd_mem hkd).mp hm
    rw [nd_some (fn_at hh (by have := (dn_s.mp h1).1; omega)), h1, decide_eq_true h2]
    rfl
  · rw [decide_eq_false hm]
    cases hf : fn_ hs n x with
    | none => exact nd_none hf
    | some j =>
      rw [nd_some hf]
      by_cases h1 : s_k (hs j) = 6 ∧ dn_ hs ac k j = true
      · exact absurd ((nd_mem hkd).mpr ⟨j, h1.2, h1.1, (fn_some hf).2⟩) hm
      · cases h2 : dn_ hs ac k j
        · simp
        · simp only [Bool.and_true, decide_eq_false_iff_not]
          exact fun h3 => h1 ⟨h3, h2⟩
theorem th_inE {hs : Nat → st_T} {ac : Nat → Bool} {n la k : Nat} (hh : hi_ hs n la) (hk : k ≤ n) {x : Int32} (hx : ∀ j, j < n → s_n (hs j) = x → s_k (hs j) = 3) : th_ hs ac n k x = decide (x ∈ m_e (rp_ hs ac k)) := by
  have h := th_e (ac := ac) hh hk hx
  cases hf : fn_ hs n x with
  | none =>
    rw [th_none hf]
    refine (decide_eq_false fun hm => ?_).symm
    obtain ⟨j, h1, -⟩ := h.mp hm
    rw [hf] at h1
    cases h1
  | some j =>
    rw [th_some hf]
    cases hd : dn_ hs ac k j with
    | true => exact (decide_eq_true (h.mpr ⟨j, hf, hd⟩)).symm
    | false =>
      refine (decide_eq_false fun hm => ?_).symm
      obtain ⟨i, h1, h2⟩ := h.mp hm
      rw [hf] at h1
      cases h1
      rw [hd] at h2
      cases h2
theorem th_inN {hs : Nat → st_T} {ac : Nat → Bool} {n la k : Nat} (hh : hi_ hs n la) (hk : k ≤ n) {x : Int32} (hx : ∀ j, j < n → s_n (hs j) = x → s_k (hs j) = 6) : th_ hs ac n k x = decide (x ∈ m_n (rp_ hs ac k)) := by
  have h := th_n (ac := ac) hh hk hx
  cases hf : fn_ hs n x with
  | none =>
    rw [th_none hf]
    refine (decide_eq_false fun hm => ?_).symm
    obtain ⟨j, h1, -⟩ := h.mp hm
    rw [hf] at h1
    cases h1
  | some j =>
    rw [th_some hf]
    cases hd : dn_ hs ac k j with
    | true => exact (decide_eq_true (h.mpr ⟨j, hf, hd⟩)).symm
    | false =>
      refine (decide_eq_false fun hm => ?_).symm
      obtain ⟨i, h1, h2⟩ := h.mp hm
      rw [hf] at h1
      cases h1
      rw [hd] at h2
      cases h2
