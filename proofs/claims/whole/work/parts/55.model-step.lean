/-! One step of the reference's replay: its arrays and the memory. -/
theorem dn_next {hs : Nat → st_T} {ac : Nat → Bool} {i : Nat} (ha : ac i = true) (hi : im_ (hs i) (rp_ hs ac i) = false) (j : Nat) : dn_ hs ac (i + 1) j = if j = i then true else dn_ hs ac i j := by
  unfold dn_
  by_cases h : j = i
  · subst h
    rw [if_pos rfl, ha, hi]
    simp
  · rw [if_neg h]
    by_cases h2 : j < i
    · rw [decide_eq_true h2, decide_eq_true (show j < i + 1 by omega)]
    · rw [decide_eq_false h2, decide_eq_false (show ¬ j < i + 1 by omega)]
theorem dn_skip {hs : Nat → st_T} {ac : Nat → Bool} {i : Nat} (h : ¬ (ac i = true ∧ im_ (hs i) (rp_ hs ac i) = false)) (j : Nat) : dn_ hs ac (i + 1) j = dn_ hs ac i j := by
  unfold dn_
  by_cases hj : j = i
  · subst hj
    rw [decide_eq_false (Nat.lt_irrefl j), decide_eq_true (Nat.lt_succ_self j)]
    cases ha : ac j
    · rfl
    · cases hi : im_ (hs j) (rp_ hs ac j)
      · exact absurd ⟨ha, hi⟩ h
      · rfl
  · by_cases h2 : j < i
    · rw [decide_eq_true h2, decide_eq_true (show j < i + 1 by omega)]
    · rw [decide_eq_false h2, decide_eq_false (show ¬ j < i + 1 by omega)]
theorem mq_skip {hs : Nat → st_T} {ac : Nat → Bool} {n i : Nat} {ce : Nat → Int32} {co : Nat → Int64} {ro le dn un : Nat → Int32} (hq : mq_ hs ac n i (rp_ hs ac i) ce co ro le dn un) (h : ¬ (ac i = true ∧ im_ (hs i) (rp_ hs ac i) = false)) : mq_ hs ac n (i + 1) (rp_ hs ac (i + 1)) ce co ro le dn un := by
  rw [rp_of h]
  refine ⟨hq.1, hq.2.1, hq.2.2.1, fun j hj => ?_, fun j hj h1 h2 => ?_⟩
  · rw [dn_skip h]; exact hq.2.2.2.1 j hj
  · rw [dn_skip h] at h1; exact hq.2.2.2.2 j hj h1 h2
theorem dn_arr {hs : Nat → st_T} {ac : Nat → Bool} {n i : Nat} {dn : Nat → Int32} (ha : ac i = true) (hi : im_ (hs i) (rp_ hs ac i) = false) (h : ∀ j, j < n → dn j = b2_ (dn_ hs ac i j)) : ∀ j, j < n → upd dn i 1 j = b2_ (dn_ hs ac (i + 1) j) := by
  intro j hj
  rw [dn_next ha hi]
  by_cases hji : j = i
  · rw [hji, pk_us, if_pos rfl]; rfl
  · rw [pk_un hji, if_neg hji]; exact h j hj
/-- the nodes' parents, where a step makes or changes none -/
theorem un_keep {hs : Nat → st_T} {ac : Nat → Bool} {n i : Nat} {un : Nat → Int32} {m m' : me_T} (ha : ac i = true) (hi : im_ (hs i) (rp_ hs ac i) = false) (hk : s_k (hs i) ≠ 6) (hm : m_p m' = m_p m) (h : ∀ j, j < n → dn_ hs ac i j = true → s_k (hs j) = 6 → un j = m_p m (s_n (hs j))) : ∀ j, j < n → dn_ hs ac (i + 1) j = true → s_k (hs j) = 6 → un j = m_p m' (s_n (hs j)) := by
  intro j hj h1 h2
  rw [dn_next ha hi] at h1
  by_cases hji : j = i
  · rw [hji] at h2; exact absurd h2 hk
  · rw [if_neg hji] at h1
    rw [hm]
    exact h j hj h1 h2
theorem rows_up {m : me_T} {ro le ro' le' : Nat → Int32} {r : Nat} {L : List Int32} (hr : r < 3) (h40 : ∀ q, q < 3 → (m_r m q).length ≤ 40) (h : ∀ q, q < 3 → le q = nI (m_r m q).length ∧ rl_ (fun j => ro (40 * q + j)) (m_r m q)) (hq : rq_ r ro le ro' le' L) : ∀ q, q < 3 → le' q = nI (va_up (m_r m) r L q).length ∧ rl_ (fun j => ro' (40 * q + j)) (va_up (m_r m) r L q) := by
  intro q hq3
  by_cases hqr : q = r
  · subst hqr
    rw [vu_eq]
    exact hq.2
  · rw [vu_ne hqr]
    obtain ⟨h1, h2⟩ := hq.1 q hq3 hqr
    refine ⟨by rw [h1]; exact (h q hq3).1, fun j hj => ?_⟩
    show _ = some (ro' (40 * q + j))
    rw [h2 j (by have := h40 q hq3; omega)]
    exact (h q hq3).2 j hj
theorem rq_trans {r : Nat} {ro le ro1 le1 ro2 le2 : Nat → Int32} {L1 L2 : List Int32} (h1 : rq_ r ro le ro1 le1 L1) (h2 : rq_ r ro1 le1 ro2 le2 L2) : rq_ r ro le ro2 le2 L2 := ⟨fun q hq hqr => ⟨(h2.1 q hq hqr).1.trans (h1.1 q hq hqr).1, fun j hj => ((h2.1 q hq hqr).2 j hj).trans ((h1.1 q hq hqr).2 j hj)⟩, h2.2⟩
abbrev mt_T : Type := (Nat → Int32) × (Nat → Int64) × (Nat → Int32) × (Nat → Int32) × (Nat → Int32) × (Nat → Int32)
