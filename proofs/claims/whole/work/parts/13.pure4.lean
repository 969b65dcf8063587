/-! A history grows, is squashed; what its replays become. -/
theorem nI_t {n : Nat} (h : n < 100000) : (nI n).toInt = (n : Int) := nI_toInt (by omega)
theorem ic_cong {hs hs' : Nat → st_T} {r : Nat} : ∀ {k : Nat}, (∀ j, j < k → hs j = hs' j) → ic_ hs r k = ic_ hs' r k := by
  intro k
  induction k with
  | zero => intro _; rfl
  | succ k ih =>
    intro h
    rw [ic_s, ic_s, ih fun j hj => h j (Nat.lt_succ_of_lt hj), h k (Nat.lt_succ_self k)]
theorem hi_put {hs : Nat → st_T} {n la : Nat} {x : st_T} (hh : hi_ hs n la) (hn : n < 200) (hla : la + 1 < 100000) (hx : tr_ x) (hnum : s_n x = nI (la + 1)) (hrf : ∀ q ∈ rf_ x, q.1.toInt ≤ (la : Int) ∧ ∀ j, j < n → s_n (hs j) = q.1 → s_k (hs j) = q.2) (hic : s_k x = 3 → ∀ r, r < 3 → s_r x = r → ic_ hs r n < 40) : hi_ (va_up hs n x) (n + 1) (la + 1) := by
  obtain ⟨h1, h2, h3, h4, h5, h6⟩ := hh
  have ht : (s_n x).toInt = (la : Int) + 1 := by rw [hnum, nI_t hla]; omega
  have e1 : ∀ j, j < n → va_up hs n x j = hs j := fun j hj => vu_ne (by omega)
  have e2 : va_up hs n x n = x := vu_eq
  refine ⟨by omega, hla, fun k hk => ?_, fun i j hij hj => ?_, fun k hk q hq => ?_, fun r hr => ?_⟩
  · by_cases hkn : k = n
    · subst hkn
      rw [e2]
      refine ⟨hx, ?_, ?_⟩
      · rw [Int32.lt_iff_toInt_lt, ht]
        show (0 : Int32).toInt < _
        have : (0 : Int32).toInt = 0 := by decide
        omega
      · omega
    · rw [e1 k (by omega)]
      have := h3 k (by omega)
      exact ⟨this.1, this.2.1, by omega⟩
  · by_cases hjn : j = n
    · subst hjn
      rw [e2, e1 i hij, Int32.lt_iff_toInt_lt, ht]
      have := (h3 i hij).2.2
      omega
    · rw [e1 j (by omega), e1 i (by omega)]
      exact h4 i j hij (by omega)
  · have key : q.1.toInt ≤ (la : Int) ∧ ∀ j, j < n → s_n (hs j) = q.1 → s_k (hs j) = q.2 := by
      by_cases hkn : k = n
      · subst hkn
        rw [e2] at hq
        exact hrf q hq
      · rw [e1 k (by omega)] at hq
        exact h5 k (by omega) q hq
    refine ⟨by omega, fun j hj he => ?_⟩
    by_cases hjn : j = n
    · subst hjn
      rw [e2] at he
      rw [he] at ht
      have := key.1
      omega
    · rw [e1 j (by omega)] at he ⊢
      exact key.2 j (by omega) he
  · rw [ic_s, ic_cong e1, e2]
    have := h6 r hr
    by_cases hc : s_k x = 3 ∧ s_r x = r
    · rw [if_pos hc]
      have := hic hc.1 r hr hc.2
      omega
    · rw [if_neg hc]; omega
theorem rp_put {hs : Nat → st_T} {ac : Nat → Bool} {n : Nat} {x : st_T} (hi : im_ x (rp_ hs ac n) = false) : rp_ (va_up hs n x) (va_up ac n true) (n + 1) = pf_ x (rp_ hs ac n) := by
  have e : rp_ (va_up hs n x) (va_up ac n true) n = rp_ hs ac n := rp_cong fun j hj => ⟨vu_ne (by omega), vu_ne (by omega)⟩
  rw [rp_s, if_pos vu_eq, e, vu_eq, at_, if_neg (by rw [hi]; decide)]
theorem il_put {hs : Nat → st_T} {ac : Nat → Bool} {n : Nat} {x : st_T} (hi : im_ x (rp_ hs ac n) = false) : il_ (va_up hs n x) (va_up ac n true) (n + 1) = il_ hs ac n := by
  have e : rp_ (va_up hs n x) (va_up ac n true) n = rp_ hs ac n := rp_cong fun j hj => ⟨vu_ne (by omega), vu_ne (by omega)⟩
  have e2 : il_ (va_up hs n x) (va_up ac n true) n = il_ hs ac n := il_cong fun j hj => ⟨vu_ne (by omega), vu_ne (by omega)⟩
  rw [il_s, e, vu_eq, vu_eq, hi, e2]
  rfl
theorem al_at {ac : Nat → Bool} {n j : Nat} (h : j < (al_ ac n).length) : (al_ ac n).getD j 0 < n ∧ ac ((al_ ac n).getD j 0) = true := by
  rw [List.getD_eq_getElem?_getD, List.getElem?_eq_getElem h]
  exact al_mem.mp (List.getElem_mem h)
theorem al_inc {ac : Nat → Bool} {n i j : Nat} (hij : i < j) (h : j < (al_ ac n).length) : (al_ ac n).getD i 0 < (al_ ac n).getD j 0 := by
  rw [List.getD_eq_getElem?_getD, List.getD_eq_getElem?_getD, List.getElem?_eq_getElem h, List.getElem?_eq_getElem (Nat.lt_trans hij h)]
  exact List.pairwise_iff_getElem.mp (al_lt ac n) i j (Nat.lt_trans hij h) h hij
theorem al_top {ac : Nat → Bool} {k : Nat} (ha : ac k = true) {n : Nat} (hk : k < n) : (al_ ac n).getD (al_ ac k).length 0 = k := by
  have h2 : al_ ac (k + 1) = al_ ac k ++ [k] := by rw [al_s, if_pos ha]
  rw [al_get (k := k + 1) hk (by rw [h2, List.length_append, List.length_singleton]; omega), h2, List.getD_eq_getElem?_getD, List.getElem?_append_right (Nat.le_refl _)]
  simp
theorem ic_q {hs : Nat → st_T} {ac : Nat → Bool} {n r : Nat} : ∀ {k : Nat}, k ≤ n → ic_ (hq_ hs ac n) r (al_ ac k).length ≤ ic_ hs r k := by
  intro k
  induction k with
  | zero => intro _; exact Nat.le_refl _
  | succ k ih =>
    intro hk
    have e := ih (Nat.le_of_succ_le hk)
    rw [al_s, ic_s]
    by_cases ha : ac k = true
    · rw [if_pos ha, List.length_append, List.length_singleton, ic_s]
      have : hq_ hs ac n (al_ ac k).length = hs k := by
        unfold hq_
        rw [al_top ha hk]
      rw [this]
      omega
    · rw [if_neg ha]; omega
theorem hi_q {hs : Nat → st_T} {ac : Nat → Bool} {n la : Nat} (hh : hi_ hs n la) : hi_ (hq_ hs ac n) (al_ ac n).length la := by
  obtain ⟨h1, h2, h3, h4, h5, h6⟩ := hh
  refine ⟨Nat.le_trans (al_le ac n) h1, h2, fun k hk => h3 _ (al_at hk).1, fun i j hij hj => h4 _ _ (al_inc hij hj) (al_at hj).1, fun k hk q hq => ⟨(h5 _ (al_at hk).1 q hq).1, fun j hj he => (h5 _ (al_at hk).1 q hq).2 _ (al_at hj).1 he⟩, fun r hr => Nat.le_trans (ic_q (Nat.le_refl n)) (h6 r hr)⟩
theorem il_q {hs : Nat → st_T} {ac : Nat → Bool} {n : Nat} (h : il_ hs ac n = []) : ∀ {k : Nat}, k ≤ n → il_ (hq_ hs ac n) on_ (al_ ac k).length = [] := by
  have hno : ∀ j, j < n → ac j = true → im_ (hs j) (rp_ hs ac j) = false := by
    intro j hj ha
    cases hi : im_ (hs j) (rp_ hs ac j) with
    | false => rfl
    | true =>
      have : j ∈ il_ hs ac n := il_mem.mpr ⟨hj, ha, hi⟩
      rw [h] at this
      cases this
  intro k
  induction k with
  | zero => intro _; rfl
  | succ k ih =>
    intro hk
    have e := ih (Nat.le_of_succ_le hk)
    rw [al_s]
    by_cases ha : ac k = true
    · rw [if_pos ha, List.length_append, List.length_singleton, il_s, e, rp_q (Nat.le_of_succ_le hk)]
      have : hq_ hs ac n (al_ ac k).length = hs k := by
        unfold hq_
        rw [al_top ha hk]
      rw [this, hno k hk ha]
      rfl
    · rw [if_neg ha]; exact e
/-- numbers find at most one step -/
theorem nu_inj {hs : Nat → st_T} {n la : Nat} (hh : hi_ hs n la) {i j : Nat} (hi : i < n) (hj : j < n) (he : s_n (hs i) = s_n (hs j)) : i = j := by
  rcases Nat.lt_trichotomy i j with h | h | h
  · exact absurd he (Int32.ne_of_lt (hh.2.2.2.1 i j h hj))
  · exact h
  · exact absurd he.symm (Int32.ne_of_lt (hh.2.2.2.1 j i h hi))
/-- where a number stands in the history -/
def fn_ (hs : Nat → st_T) (n : Nat) (x : Int32) : Option Nat := fi_ (fun i => decide (s_n (hs i) = x)) n
theorem fn_at {hs : Nat → st_T} {n la : Nat} (hh : hi_ hs n la) {i : Nat} (hi : i < n) : fn_ hs n (s_n (hs i)) = some i := by
  refine fi_of hi (by simp) fun j hj => ?_
  have : s_n (hs j) ≠ s_n (hs i) := fun he => by have := nu_inj hh (by omega) hi he; omega
  simp [this]
theorem fn_some {hs : Nat → st_T} {n i : Nat} {x : Int32} (h : fn_ hs n x = some i) : i < n ∧ s_n (hs i) = x := ⟨(fi_some h).1, by simpa using (fi_some h).2.1⟩
/-- what is there in the replay of the first k, as the reference asks it -/
theorem th_e {hs : Nat → st_T} {ac : Nat → Bool} {n la k : Nat} (hh : hi_ hs n la) (hk : k ≤ n) {x : Int32} (hx : ∀ j, j < n → s_n (hs j) = x → s_k (hs j) = 3) : x ∈ m_e (rp_ hs ac k) ↔ ∃ j, fn_ hs n x = some j ∧ dn_ hs ac k j = true := by
  rw [el_mem fun j hj => (hh.2.2.1 j (by omega)).1.1]
  constructor
  · rintro ⟨j, h1, h2, rfl⟩
    exact ⟨j, fn_at hh (by have := (dn_s.mp h1).1; omega), h1⟩
  · rintro ⟨j, h1, h2⟩
    exact ⟨j, h2, hx j (fn_some h1).1 (fn_some h1).2, (fn_some h1).2⟩
theorem th_n {hs : Nat → st_T} {ac : Nat → Bool} {n la k : Nat} (hh : hi_ hs n la) (hk : k ≤ n) {x : Int32} (hx : ∀ j, j < n → s_n (hs j) = x → s_k (hs j) = 6) : x ∈ m_n (rp_ hs ac k) ↔ ∃ j, fn_ hs n x = some j ∧ dn_ hs ac k j = true := by
  rw [nd_mem fun j hj => (hh.2.2.1 j (by omega)).1.1]
  constructor
  · rintro ⟨j, h1, h2, rfl⟩
    exact ⟨j, fn_at hh (by have := (dn_s.mp h1).1; omega), h1⟩
  · rintro ⟨j, h1, h2⟩
    exact ⟨j, h2, hx j (fn_some h1).1 (fn_some h1).2, (fn_some h1).2⟩
