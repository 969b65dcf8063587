/-! What the making calls answer, and what they leave. -/
def put_ (a : ab_T) (x : st_T) : Int32 × ab_T := if im_ x (rp_ a.1 a.2.1 a.2.2.1) = true then (0, a) else (nI (a.2.2.2.1 + 1), (va_up a.1 a.2.2.1 x, va_up a.2.1 a.2.2.1 true, a.2.2.1 + 1, a.2.2.2.1 + 1, a.2.2.2.2))
def a_m (a : ab_T) : me_T := rp_ a.1 a.2.1 a.2.2.1
def nx1_ (a : ab_T) : Int32 := nI (a.2.2.2.1 + 1)
def sp_set (a : ab_T) (c v : Int32) : Int32 × ab_T := if inx_ c 8 = true ∧ ¬ a.2.2.1 = 200 then put_ a (nx1_ a, 1, c, 0, v.toInt64, []) else (0, a)
def sp_add (a : ab_T) (c : Int32) (d : Int64) : Int32 × ab_T := if inx_ c 4 = true ∧ ¬ a.2.2.1 = 200 then put_ a (nx1_ a, 2, c, 0, d, []) else (0, a)
def sp_insert (a : ab_T) (r i v : Int32) : Int32 × ab_T := if inx_ r 3 = true ∧ ¬ a.2.2.1 = 200 ∧ ic_ a.1 r.toNatClampNeg a.2.2.1 < 40 ∧ inx_ i ((m_r (a_m a) r.toNatClampNeg).length + 1) = true then put_ a (nx1_ a, 3, r, 0, v.toInt64, pl_ (m_r (a_m a) r.toNatClampNeg) i.toNatClampNeg 0) else (0, a)
def sp_remove (a : ab_T) (r i : Int32) : Int32 × ab_T := if ¬ sp_elem (a_m a) r i = 0 ∧ ¬ a.2.2.1 = 200 then put_ a (nx1_ a, 4, r, sp_elem (a_m a) r i, 0, []) else (0, a)
def sp_move (a : ab_T) (r i j : Int32) : Int32 × ab_T := if ¬ sp_elem (a_m a) r i = 0 ∧ inx_ j (m_r (a_m a) r.toNatClampNeg).length = true ∧ ¬ a.2.2.1 = 200 then put_ a (nx1_ a, 5, r, sp_elem (a_m a) r i, 0, pl_ (m_r (a_m a) r.toNatClampNeg) j.toNatClampNeg (sp_elem (a_m a) r i)) else (0, a)
def sp_node (a : ab_T) (p : Int32) : Int32 × ab_T := if ¬ a.2.2.1 = 200 then put_ a (nx1_ a, 6, 0, p, 0, []) else (0, a)
def sp_unlink (a : ab_T) (x : Int32) : Int32 × ab_T := if ¬ a.2.2.1 = 200 then put_ a (nx1_ a, 7, x, 0, 0, []) else (0, a)
def sp_link (a : ab_T) (x p : Int32) : Int32 × ab_T := if ¬ a.2.2.1 = 200 then put_ a (nx1_ a, 8, x, p, 0, []) else (0, a)
/-- a step that is possible in the memory names what is there -/
theorem rf_ok {hs : Nat → st_T} {ac : Nat → Bool} {n la : Nat} (hh : hi_ hs n la) {x : st_T} (hk : kd_ x) (hi : im_ x (rp_ hs ac n) = false) (hx : s_k x = 6 ∨ s_k x = 8 → s_m x = 0 ∨ s_m x ∈ m_n (rp_ hs ac n)) : ∀ q ∈ rf_ x, q.1.toInt ≤ (la : Int) ∧ ∀ j, j < n → s_n (hs j) = q.1 → s_k (hs j) = q.2 := by
  have hkd : ∀ j, j < n → kd_ (hs j) := fun j hj => (hh.2.2.1 j hj).1.1
  have ofE : ∀ y, y ∈ m_e (rp_ hs ac n) → y.toInt ≤ (la : Int) ∧ ∀ j, j < n → s_n (hs j) = y → s_k (hs j) = 3 := by
    intro y hy
    obtain ⟨j, h1, h2, rfl⟩ := (el_mem hkd).mp hy
    have hj := (dn_s.mp h1).1
    exact ⟨(hh.2.2.1 j hj).2.2, fun i hi2 he => by rw [nu_inj hh hi2 hj he]; exact h2⟩
  have ofN : ∀ y, y ∈ m_n (rp_ hs ac n) → y.toInt ≤ (la : Int) ∧ ∀ j, j < n → s_n (hs j) = y → s_k (hs j) = 6 := by
    intro y hy
    obtain ⟨j, h1, h2, rfl⟩ := (nd_mem hkd).mp hy
    have hj := (dn_s.mp h1).1
    exact ⟨(hh.2.2.1 j hj).2.2, fun i hi2 he => by rw [nu_inj hh hi2 hj he]; exact h2⟩
  have of0 : ∀ k : Int32, (0 : Int32).toInt ≤ (la : Int) ∧ ∀ j, j < n → s_n (hs j) = 0 → s_k (hs j) = k := by
    intro k
    refine ⟨by have : (0 : Int32).toInt = 0 := by decide
               omega, fun j hj he => ?_⟩
    have := (hh.2.2.1 j hj).2.1
    rw [he] at this
    exact absurd this (by decide)
  intro q hq
  unfold rf_ at hq
  rcases hk with h | h | h | h | h | h | h | h
  · rw [if_neg (by rw [h]; decide), if_neg (by rw [h]; decide), if_neg (by rw [h]; decide), if_neg (by rw [h]; decide)] at hq; cases hq
  · rw [if_neg (by rw [h]; decide), if_neg (by rw [h]; decide), if_neg (by rw [h]; decide), if_neg (by rw [h]; decide)] at hq; cases hq
  · rw [if_neg (by rw [h]; decide), if_neg (by rw [h]; decide), if_neg (by rw [h]; decide), if_neg (by rw [h]; decide)] at hq; cases hq
  · rw [if_pos (Or.inl h)] at hq
    rw [List.mem_singleton.mp hq]
    rw [im_45 _ (Or.inl h)] at hi
    exact ofE _ (by simpa using hi)
  · rw [if_pos (Or.inr h)] at hq
    rw [List.mem_singleton.mp hq]
    rw [im_45 _ (Or.inr h)] at hi
    exact ofE _ (by simpa using hi)
  · rw [if_neg (by rw [h]; decide), if_pos h] at hq
    rw [List.mem_singleton.mp hq]
    rcases hx (Or.inl h) with h0 | h0
    · show (s_m x).toInt ≤ _ ∧ _
      rw [h0]; exact of0 6
    · exact ofN _ h0
  · rw [if_neg (by rw [h]; decide), if_neg (by rw [h]; decide), if_pos h] at hq
    rw [List.mem_singleton.mp hq]
    rw [im_7 _ h] at hi
    exact ofN _ (by simpa using hi)
  · rw [if_neg (by rw [h]; decide), if_neg (by rw [h]; decide), if_neg (by rw [h]; decide), if_pos h] at hq
    rw [im_8 _ h] at hi
    rcases List.mem_cons.mp hq with rfl | hq
    · refine ofN _ ?_
      by_cases h1 : s_t x ∈ m_n (rp_ hs ac n)
      · exact h1
      · simp [h1] at hi
    · rw [List.mem_singleton.mp hq]
      rcases hx (Or.inr h) with h0 | h0
      · show (s_m x).toInt ≤ _ ∧ _
        rw [h0]; exact of0 6
      · exact ofN _ h0
/-- the history that a possible step leaves -/
theorem put_ok {a : ab_T} {x : st_T} (hI : aI_ a) (hn : a.2.2.1 < 200) (hla : a.2.2.2.1 + 1 < 100000) (hx : s_n x = nx1_ a) (ht : tq_ x) (hic : s_k x = 3 → ic_ a.1 (s_r x) a.2.2.1 < 40) (him : im_ x (a_m a) = false) : aI_ (put_ a x).2 := by
  obtain ⟨hs, ac, n, la, T⟩ := a
  obtain ⟨h1, h2, h3⟩ := hI
  have e : put_ (hs, ac, n, la, T) x = (nI (la + 1), (va_up hs n x, va_up ac n true, n + 1, la + 1, T)) := by
    unfold put_
    rw [if_neg (by change ¬ im_ x (rp_ hs ac n) = true; rw [show im_ x (rp_ hs ac n) = false from him]; decide)]
  rw [e]
  have him : im_ x (rp_ hs ac n) = false := him
  have hmn := rp_mw h1 ac (Nat.le_refl n)
  have h68 : s_k x = 6 ∨ s_k x = 8 → s_m x = 0 ∨ s_m x ∈ m_n (rp_ hs ac n) := by
    rintro (h | h)
    · rw [im_6 _ h] at him
      by_cases h0 : s_m x = 0
      · exact Or.inl h0
      · by_cases hm : s_m x ∈ m_n (rp_ hs ac n)
        · exact Or.inr hm
        · simp [h0, hm] at him
    · rw [im_8 _ h] at him
      by_cases h0 : s_m x = 0
      · exact Or.inl h0
      · by_cases hm : s_m x ∈ m_n (rp_ hs ac n)
        · exact Or.inr hm
        · simp [h0, hm] at him
  have htr : tr_ x := by
    refine ⟨ht.1, ht.2.1, ht.2.2.1, ht.2.2.2.1, fun hk => ?_, fun hk => ?_, ht.2.2.2.2⟩
    · rw [im_45 _ hk] at him
      exact hmn.2.2.2.2.2.2.1 _ (by simpa using him)
    · rcases hk with hk | hk
      · rw [im_7 _ hk] at him
        exact hmn.2.2.2.2.2.1 _ (by simpa using him)
      · rw [im_8 _ hk] at him
        refine hmn.2.2.2.2.2.1 _ ?_
        by_cases hm : s_t x ∈ m_n (rp_ hs ac n)
        · exact hm
        · simp [hm] at him
  refine ⟨hi_put h1 hn hla htr hx (rf_ok h1 ht.1 him h68) (fun hk r hr he => by rw [← he]; exact hic hk), ?_, h3⟩
  show il_ (va_up hs n x) (va_up ac n true) (n + 1) = []
  rw [il_put him]
  exact h2
