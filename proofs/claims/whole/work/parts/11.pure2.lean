/-! What a history is, and what its replays keep. -/
def kd_ (x : st_T) : Prop := s_k x = 1 ∨ s_k x = 2 ∨ s_k x = 3 ∨ s_k x = 4 ∨ s_k x = 5 ∨ s_k x = 6 ∨ s_k x = 7 ∨ s_k x = 8
theorem pf_1 {x : st_T} (m : me_T) (h : s_k x = 1) : pf_ x m = (upd m.1 (s_r x) (s_a x).toInt32, m.2) := by
  unfold pf_
  rw [if_pos h]
theorem pf_2 {x : st_T} (m : me_T) (h : s_k x = 2) : pf_ x m = (m.1, vp_updL m.2.1 (s_r x) (m.2.1 (s_r x) + s_a x), m.2.2) := by
  unfold pf_
  rw [if_neg (by rw [h]; decide), if_pos h]
theorem pf_3 {x : st_T} (m : me_T) (h : s_k x = 3) : pf_ x m = (m.1, m.2.1, va_up (m_r m) (s_r x) (ins_ (m_r m (s_r x)) (s_p x) (s_n x)), m_e m ++ [s_n x], m.2.2.2.2) := by
  unfold pf_
  rw [if_neg (by rw [h]; decide), if_neg (by rw [h]; decide), if_pos h]
theorem pf_4 {x : st_T} (m : me_T) (h : s_k x = 4) : pf_ x m = (m.1, m.2.1, va_up (m_r m) (s_r x) (del_ (m_r m (s_r x)) (s_m x)), m.2.2.2) := by
  unfold pf_
  rw [if_neg (by rw [h]; decide), if_neg (by rw [h]; decide), if_neg (by rw [h]; decide), if_pos h]
theorem pf_5 {x : st_T} (m : me_T) (h : s_k x = 5) : pf_ x m = (m.1, m.2.1, va_up (m_r m) (s_r x) (if s_m x ∈ m_r m (s_r x) then ins_ (del_ (m_r m (s_r x)) (s_m x)) (s_p x) (s_m x) else m_r m (s_r x)), m.2.2.2) := by
  unfold pf_
  rw [if_neg (by rw [h]; decide), if_neg (by rw [h]; decide), if_neg (by rw [h]; decide), if_neg (by rw [h]; decide), if_pos h]
theorem pf_6 {x : st_T} (m : me_T) (h : s_k x = 6) : pf_ x m = (m.1, m.2.1, m.2.2.1, m.2.2.2.1, m_n m ++ [s_n x], upI_ (m_p m) (s_n x) (s_m x)) := by
  unfold pf_
  rw [if_neg (by rw [h]; decide), if_neg (by rw [h]; decide), if_neg (by rw [h]; decide), if_neg (by rw [h]; decide), if_neg (by rw [h]; decide), if_pos h]
theorem pf_7 {x : st_T} (m : me_T) (h : s_k x = 7) : pf_ x m = (m.1, m.2.1, m.2.2.1, m.2.2.2.1, m_n m, upI_ (m_p m) (s_t x) (-1)) := by
  unfold pf_
  rw [if_neg (by rw [h]; decide), if_neg (by rw [h]; decide), if_neg (by rw [h]; decide), if_neg (by rw [h]; decide), if_neg (by rw [h]; decide), if_neg (by rw [h]; decide), if_pos h]
theorem pf_8 {x : st_T} (m : me_T) (h : s_k x = 8) : pf_ x m = (m.1, m.2.1, m.2.2.1, m.2.2.2.1, m_n m, upI_ (m_p m) (s_t x) (s_m x)) := by
  unfold pf_
  rw [if_neg (by rw [h]; decide), if_neg (by rw [h]; decide), if_neg (by rw [h]; decide), if_neg (by rw [h]; decide), if_neg (by rw [h]; decide), if_neg (by rw [h]; decide), if_neg (by rw [h]; decide)]
theorem im_123 {x : st_T} (m : me_T) (h : s_k x = 1 ∨ s_k x = 2 ∨ s_k x = 3) : im_ x m = false := by
  unfold im_
  rcases h with h | h | h <;> rw [if_neg (by rw [h]; decide), if_neg (by rw [h]; decide), if_neg (by rw [h]; decide), if_neg (by rw [h]; decide)]
theorem im_45 {x : st_T} (m : me_T) (h : s_k x = 4 ∨ s_k x = 5) : im_ x m = decide (s_m x ∉ m_e m) := by
  unfold im_
  rw [if_pos h]
theorem im_6 {x : st_T} (m : me_T) (h : s_k x = 6) : im_ x m = decide (s_m x ≠ 0 ∧ s_m x ∉ m_n m) := by
  unfold im_
  rw [if_neg (by rw [h]; decide), if_pos h]
theorem im_7 {x : st_T} (m : me_T) (h : s_k x = 7) : im_ x m = decide (s_t x ∉ m_n m) := by
  unfold im_
  rw [if_neg (by rw [h]; decide), if_neg (by rw [h]; decide), if_pos h]
theorem im_8 {x : st_T} (m : me_T) (h : s_k x = 8) : im_ x m = decide (s_t x ∉ m_n m ∨ (s_m x ≠ 0 ∧ (s_m x ∉ m_n m ∨ bl_ (m_n m) (m_p m) (s_t x) ((m_n m).length + 1) (s_m x) = true))) := by
  unfold im_
  rw [if_neg (by rw [h]; decide), if_neg (by rw [h]; decide), if_neg (by rw [h]; decide), if_pos h]
theorem pf_e {x : st_T} (m : me_T) (hk : kd_ x) : m_e (pf_ x m) = if s_k x = 3 then m_e m ++ [s_n x] else m_e m := by
  rcases hk with h | h | h | h | h | h | h | h
  · rw [pf_1 m h, if_neg (by rw [h]; decide)]; rfl
  · rw [pf_2 m h, if_neg (by rw [h]; decide)]; rfl
  · rw [pf_3 m h, if_pos h]; rfl
  · rw [pf_4 m h, if_neg (by rw [h]; decide)]; rfl
  · rw [pf_5 m h, h]; rfl
  · rw [pf_6 m h, if_neg (by rw [h]; decide)]; rfl
  · rw [pf_7 m h, if_neg (by rw [h]; decide)]; rfl
  · rw [pf_8 m h, if_neg (by rw [h]; decide)]; rfl
theorem pf_n {x : st_T} (m : me_T) (hk : kd_ x) : m_n (pf_ x m) = if s_k x = 6 then m_n m ++ [s_n x] else m_n m := by
  rcases hk with h | h | h | h | h | h | h | h
  · rw [pf_1 m h, if_neg (by rw [h]; decide)]; rfl
  · rw [pf_2 m h, if_neg (by rw [h]; decide)]; rfl
  · rw [pf_3 m h, if_neg (by rw [h]; decide)]; rfl
  · rw [pf_4 m h, if_neg (by rw [h]; decide)]; rfl
  · rw [pf_5 m h, h]; rfl
  · rw [pf_6 m h, if_pos h]; rfl
  · rw [pf_7 m h, if_neg (by rw [h]; decide)]; rfl
  · rw [pf_8 m h, if_neg (by rw [h]; decide)]; rfl
/-- what a row may become -/
theorem ins_len (L P : List Int32) (e : Int32) : (ins_ L P e).length = L.length + 1 := List.length_insertIdx_of_le_length (be_le L P) e
theorem del_len {L : List Int32} {e : Int32} (h : e ∈ L) : (del_ L e).length = L.length - 1 := by
  obtain ⟨i, hi⟩ := ix_mem.mpr h
  unfold del_
  rw [hi]
  exact List.length_eraseIdx_of_lt (ix_lt hi)
theorem del_non {L : List Int32} {e : Int32} (h : e ∉ L) : del_ L e = L := by
  unfold del_
  rw [ix_non.mpr h]
theorem del_le (L : List Int32) (e : Int32) : (del_ L e).length ≤ L.length := by
  by_cases h : e ∈ L
  · rw [del_len h]; omega
  · rw [del_non h]; exact Nat.le_refl _
theorem del_sub {L : List Int32} {e y : Int32} (h : y ∈ del_ L e) : y ∈ L := by
  unfold del_ at h
  cases hi : ix_ L e with
  | none => rw [hi] at h; exact h
  | some i => rw [hi] at h; exact List.mem_of_mem_eraseIdx h
theorem ins_mem {L P : List Int32} {e y : Int32} (h : y ∈ ins_ L P e) : y = e ∨ y ∈ L := (List.mem_insertIdx (be_le L P)).mp h
theorem pf_r {x : st_T} (m : me_T) (hk : kd_ x) (r : Nat) : (m_r (pf_ x m) r).length ≤ (m_r m r).length + (if s_k x = 3 ∧ s_r x = r then 1 else 0) := by
  rcases hk with h | h | h | h | h | h | h | h
  · rw [pf_1 m h]; exact Nat.le_add_right _ _
  · rw [pf_2 m h]; exact Nat.le_add_right _ _
  · rw [pf_3 m h]
    show (va_up (m_r m) (s_r x) _ r).length ≤ _
    by_cases hr : r = s_r x
    · subst hr
      rw [vu_eq, ins_len, if_pos ⟨h, rfl⟩]; exact Nat.le_refl _
    · rw [vu_ne hr]; exact Nat.le_add_right _ _
  · rw [pf_4 m h]
    show (va_up (m_r m) (s_r x) _ r).length ≤ _
    by_cases hr : r = s_r x
    · subst hr
      rw [vu_eq]; exact Nat.le_trans (del_le _ _) (Nat.le_add_right _ _)
    · rw [vu_ne hr]; exact Nat.le_add_right _ _
  · rw [pf_5 m h]
    show (va_up (m_r m) (s_r x) _ r).length ≤ _
    by_cases hr : r = s_r x
    · subst hr
      rw [vu_eq]
      by_cases hm : s_m x ∈ m_r m (s_r x)
      · rw [if_pos hm, ins_len, del_len hm]
        have := List.length_pos_of_mem hm
        omega
      · rw [if_neg hm]; exact Nat.le_add_right _ _
    · rw [vu_ne hr]; exact Nat.le_add_right _ _
  · rw [pf_6 m h]; exact Nat.le_add_right _ _
  · rw [pf_7 m h]; exact Nat.le_add_right _ _
  · rw [pf_8 m h]; exact Nat.le_add_right _ _
theorem pf_in {x : st_T} (m : me_T) (hk : kd_ x) {r : Nat} {y : Int32} (h0 : ∀ y, y ∈ m_r m r → y ∈ m_e m) (hy : y ∈ m_r (pf_ x m) r) : y ∈ m_e (pf_ x m) := by
  rw [pf_e m hk]
  rcases hk with h | h | h | h | h | h | h | h
  · rw [pf_1 m h] at hy; rw [if_neg (by rw [h]; decide)]; exact h0 y hy
  · rw [pf_2 m h] at hy; rw [if_neg (by rw [h]; decide)]; exact h0 y hy
  · rw [pf_3 m h] at hy; rw [if_pos h]
    change y ∈ va_up (m_r m) (s_r x) _ r at hy
    by_cases hr : r = s_r x
    · subst hr
      rw [vu_eq] at hy
      rcases ins_mem hy with rfl | h1
      · exact List.mem_append_right _ (List.mem_singleton.mpr rfl)
      · exact List.mem_append_left _ (h0 y h1)
    · rw [vu_ne hr] at hy; exact List.mem_append_left _ (h0 y hy)
  · rw [pf_4 m h] at hy; rw [if_neg (by rw [h]; decide)]
    change y ∈ va_up (m_r m) (s_r x) _ r at hy
    by_cases hr : r = s_r x
    · subst hr
      rw [vu_eq] at hy
      exact h0 y (del_sub hy)
    · rw [vu_ne hr] at hy; exact h0 y hy
  · rw [pf_5 m h] at hy; rw [if_neg (by rw [h]; decide)]
    change y ∈ va_up (m_r m) (s_r x) _ r at hy
    by_cases hr : r = s_r x
    · subst hr
      rw [vu_eq] at hy
      by_cases hm : s_m x ∈ m_r m (s_r x)
      · rw [if_pos hm] at hy
        rcases ins_mem hy with rfl | h1
        · exact h0 _ hm
        · exact h0 y (del_sub h1)
      · rw [if_neg hm] at hy; exact h0 y hy
    · rw [vu_ne hr] at hy; exact h0 y hy
  · rw [pf_6 m h] at hy; rw [if_neg (by rw [h]; decide)]; exact h0 y hy
  · rw [pf_7 m h] at hy; rw [if_neg (by rw [h]; decide)]; exact h0 y hy
  · rw [pf_8 m h] at hy; rw [if_neg (by rw [h]; decide)]; exact h0 y hy
/-- parents of nodes: a node, the root, or nothing -/
def pc_ (m : me_T) : Prop := ∀ y, y ∈ m_n m → m_p m y = -1 ∨ m_p m y = 0 ∨ m_p m y ∈ m_n m
theorem pf_pc {x : st_T} (m : me_T) (hk : kd_ x) (hi : im_ x m = false) (h0 : pc_ m) : pc_ (pf_ x m) := by
  intro y hy
  rcases hk with h | h | h | h | h | h | h | h
  · rw [pf_1 m h] at hy ⊢; exact h0 y hy
  · rw [pf_2 m h] at hy ⊢; exact h0 y hy
  · rw [pf_3 m h] at hy ⊢; exact h0 y hy
  · rw [pf_4 m h] at hy ⊢; exact h0 y hy
  · rw [pf_5 m h] at hy ⊢; exact h0 y hy
  · rw [pf_6 m h] at hy ⊢
    change y ∈ m_n m ++ [s_n x] at hy
    change upI_ (m_p m) (s_n x) (s_m x) y = -1 ∨ upI_ (m_p m) (s_n x) (s_m x) y = 0 ∨ upI_ (m_p m) (s_n x) (s_m x) y ∈ m_n m ++ [s_n x]
    unfold upI_
    by_cases hyn : y = s_n x
    · rw [if_pos hyn]
      rw [im_6 m h] at hi
      by_cases hz : s_m x = 0
      · exact Or.inr (Or.inl hz)
      · by_cases hm : s_m x ∈ m_n m
        · exact Or.inr (Or.inr (List.mem_append_left _ hm))
        · simp [hz, hm] at hi
    · rw [if_neg hyn]
      have hy2 : y ∈ m_n m := by
        rcases List.mem_append.mp hy with h1 | h1
        · exact h1
        · exact absurd (List.mem_singleton.mp h1) hyn
      rcases h0 y hy2 with h1 | h1 | h1
      · exact Or.inl h1
      · exact Or.inr (Or.inl h1)
      · exact Or.inr (Or.inr (List.mem_append_left _ h1))
  · rw [pf_7 m h] at hy ⊢
    change y ∈ m_n m at hy
    change upI_ (m_p m) (s_t x) (-1) y = -1 ∨ upI_ (m_p m) (s_t x) (-1) y = 0 ∨ upI_ (m_p m) (s_t x) (-1) y ∈ m_n m
    unfold upI_
    by_cases hyn : y = s_t x
    · rw [if_pos hyn]; exact Or.inl rfl
    · rw [if_neg hyn]; exact h0 y hy
  · rw [pf_8 m h] at hy ⊢
    change y ∈ m_n m at hy
    change upI_ (m_p m) (s_t x) (s_m x) y = -1 ∨ upI_ (m_p m) (s_t x) (s_m x) y = 0 ∨ upI_ (m_p m) (s_t x) (s_m x) y ∈ m_n m
    unfold upI_
    by_cases hyn : y = s_t x
    · rw [if_pos hyn]
      rw [im_8 m h] at hi
      by_cases hz : s_m x = 0
      · exact Or.inr (Or.inl hz)
      · by_cases hm : s_m x ∈ m_n m
        · exact Or.inr (Or.inr hm)
        · simp [hz, hm] at hi
    · rw [if_neg hyn]; exact h0 y hy
-- histories
def ic_ (hs : Nat → st_T) (r : Nat) : Nat → Nat
  | 0 => 0
  | k + 1 => ic_ hs r k + (if s_k (hs k) = 3 ∧ s_r (hs k) = r then 1 else 0)
theorem ic_s (hs : Nat → st_T) (r k : Nat) : ic_ hs r (k + 1) = ic_ hs r k + (if s_k (hs k) = 3 ∧ s_r (hs k) = r then 1 else 0) := rfl
theorem ic_mono (hs : Nat → st_T) (r : Nat) {k n : Nat} (h : k ≤ n) : ic_ hs r k ≤ ic_ hs r n := by
  induction n with
  | zero => rw [Nat.le_zero.mp h]; exact Nat.le_refl _
  | succ n ih =>
    by_cases hk : k = n + 1
    · rw [hk]; exact Nat.le_refl _
    · rw [ic_s]; exact Nat.le_trans (ih (by omega)) (Nat.le_add_right _ _)
/-- the numbers that a step names, each with the kind of the step that must have it -/
def rf_ (x : st_T) : List (Int32 × Int32) :=
  if s_k x = 4 ∨ s_k x = 5 then [(s_m x, 3)]
  else if s_k x = 6 then [(s_m x, 6)]
  else if s_k x = 7 then [(s_t x, 6)]
  else if s_k x = 8 then [(s_t x, 6), (s_m x, 6)]
  else []
/-- a step's own numbers are in range -/
def tr_ (x : st_T) : Prop := kd_ x ∧ (s_k x = 1 → ∃ c : Nat, c < 8 ∧ s_t x = nI c) ∧ (s_k x = 2 → ∃ c : Nat, c < 4 ∧ s_t x = nI c) ∧ (s_k x = 3 ∨ s_k x = 4 ∨ s_k x = 5 → ∃ c : Nat, c < 3 ∧ s_t x = nI c) ∧ (s_k x = 4 ∨ s_k x = 5 → 0 < s_m x) ∧ (s_k x = 7 ∨ s_k x = 8 → 0 < s_t x) ∧ (s_p x).length ≤ 40
def hi_ (hs : Nat → st_T) (n la : Nat) : Prop := n ≤ 200 ∧ la < 100000 ∧ (∀ k, k < n → tr_ (hs k) ∧ 0 < s_n (hs k) ∧ (s_n (hs k)).toInt ≤ (la : Int)) ∧ (∀ i j, i < j → j < n → s_n (hs i) < s_n (hs j)) ∧ (∀ k, k < n → ∀ q ∈ rf_ (hs k), q.1.toInt ≤ (la : Int) ∧ ∀ j, j < n → s_n (hs j) = q.1 → s_k (hs j) = q.2) ∧ ∀ r, r < 3 → ic_ hs r n ≤ 40
theorem dn_s {hs : Nat → st_T} {ac : Nat → Bool} {k j : Nat} : dn_ hs ac k j = true ↔ j < k ∧ ac j = true ∧ im_ (hs j) (rp_ hs ac j) = false := by
  unfold dn_
  simp
theorem rp_on {hs : Nat → st_T} {ac : Nat → Bool} {k : Nat} (h : ac k = true) (hi : im_ (hs k) (rp_ hs ac k) = false) : rp_ hs ac (k + 1) = pf_ (hs k) (rp_ hs ac k) := by
  rw [rp_s, if_pos h, at_, if_neg (by rw [hi]; decide)]
theorem rp_of {hs : Nat → st_T} {ac : Nat → Bool} {k : Nat} (h : ¬ (ac k = true ∧ im_ (hs k) (rp_ hs ac k) = false)) : rp_ hs ac (k + 1) = rp_ hs ac k := by
  rw [rp_s]
  by_cases ha : ac k = true
  · rw [if_pos ha, at_]
    by_cases hi : im_ (hs k) (rp_ hs ac k) = true
    · rw [if_pos hi]
    · exact absurd ⟨ha, by simpa using hi⟩ h
  · rw [if_neg ha]
theorem el_mem {hs : Nat → st_T} {ac : Nat → Bool} : ∀ {k : Nat}, (∀ j, j < k → kd_ (hs j)) → ∀ {y : Int32}, y ∈ m_e (rp_ hs ac k) ↔ ∃ j, dn_ hs ac k j = true ∧ s_k (hs j) = 3 ∧ s_n (hs j) = y := by
  intro k
  induction k with
  | zero => intro _ y; constructor
            · intro h; cases h
            · rintro ⟨j, h, -⟩; exact absurd (dn_s.mp h).1 (Nat.not_lt_zero _)
  | succ k ih =>
    intro hk y
    have ih' := @ih (fun j hj => hk j (Nat.lt_succ_of_lt hj)) y
    have up : (∃ j, dn_ hs ac k j = true ∧ s_k (hs j) = 3 ∧ s_n (hs j) = y) → ∃ j, dn_ hs ac (k + 1) j = true ∧ s_k (hs j) = 3 ∧ s_n (hs j) = y := by
      rintro ⟨j, h, h2⟩
      exact ⟨j, dn_s.mpr ⟨Nat.lt_succ_of_lt (dn_s.mp h).1, (dn_s.mp h).2⟩, h2⟩
    by_cases hc : ac k = true ∧ im_ (hs k) (rp_ hs ac k) = false
    · rw [rp_on hc.1 hc.2, pf_e _ (hk k (Nat.lt_succ_self k))]
      by_cases h3 : s_k (hs k) = 3
      · rw [if_pos h3, List.mem_append, List.mem_singleton, ih']
        constructor
        · rintro (h | rfl)
          · exact up h
          · exact ⟨k, dn_s.mpr ⟨Nat.lt_succ_self k, hc⟩, h3, rfl⟩
        · rintro ⟨j, h, h2⟩
          by_cases hj : j = k
          · subst hj; exact Or.inr h2.2.symm
          · exact Or.inl ⟨j, dn_s.mpr ⟨by have := (dn_s.mp h).1; omega, (dn_s.mp h).2⟩, h2⟩
      · rw [if_neg h3, ih']
        constructor
        · exact up
        · rintro ⟨j, h, h2⟩
          by_cases hj : j = k
          · subst hj; exact absurd h2.1 h3
          · exact ⟨j, dn_s.mpr ⟨by have := (dn_s.mp h).1; omega, (dn_s.mp h).2⟩, h2⟩
    · rw [rp_of hc, ih']
      constructor
      · exact up
      · rintro ⟨j, h, h2⟩
        by_cases hj : j = k
        · subst hj; exact absurd (dn_s.mp h).2 hc
        · exact ⟨j, dn_s.mpr ⟨by have := (dn_s.mp h).1; omega, (dn_s.mp h).2⟩, h2⟩
theorem nd_mem {hs : Nat → st_T} {ac : Nat → Bool} : ∀ {k : Nat}, (∀ j, j < k → kd_ (hs j)) → ∀ {y : Int32}, y ∈ m_n (rp_ hs ac k) ↔ ∃ j, dn_ hs ac k j = true ∧ s_k (hs j) = 6 ∧ s_n (hs j) = y := by
  intro k
  induction k with
  | zero => intro _ y; constructor
            · intro h; cases h
            · rintro ⟨j, h, -⟩; exact absurd (dn_s.mp h).1 (Nat.not_lt_zero _)
  | succ k ih =>
    intro hk y
    have ih' := @ih (fun j hj => hk j (Nat.lt_succ_of_lt hj)) y
    have up : (∃ j, dn_ hs ac k j = true ∧ s_k (hs j) = 6 ∧ s_n (hs j) = y) → ∃ j, dn_ hs ac (k + 1) j = true ∧ s_k (hs j) = 6 ∧ s_n (hs j) = y := by
      rintro ⟨j, h, h2⟩
      exact ⟨j, dn_s.mpr ⟨Nat.lt_succ_of_lt (dn_s.mp h).1, (dn_s.mp h).2⟩, h2⟩
    by_cases hc : ac k = true ∧ im_ (hs k) (rp_ hs ac k) = false
    · rw [rp_on hc.1 hc.2, pf_n _ (hk k (Nat.lt_succ_self k))]
      by_cases h3 : s_k (hs k) = 6
      · rw [if_pos h3, List.mem_append, List.mem_singleton, ih']
        constructor
        · rintro (h | rfl)
          · exact up h
          · exact ⟨k, dn_s.mpr ⟨Nat.lt_succ_self k, hc⟩, h3, rfl⟩
        · rintro ⟨j, h, h2⟩
          by_cases hj : j = k
          · subst hj; exact Or.inr h2.2.symm
          · exact Or.inl ⟨j, dn_s.mpr ⟨by have := (dn_s.mp h).1; omega, (dn_s.mp h).2⟩, h2⟩
      · rw [if_neg h3, ih']
        constructor
        · exact up
        · rintro ⟨j, h, h2⟩
          by_cases hj : j = k
          · subst hj; exact absurd h2.1 h3
          · exact ⟨j, dn_s.mpr ⟨by have := (dn_s.mp h).1; omega, (dn_s.mp h).2⟩, h2⟩
    · rw [rp_of hc, ih']
      constructor
      · exact up
      · rintro ⟨j, h, h2⟩
        by_cases hj : j = k
        · subst hj; exact absurd (dn_s.mp h).2 hc
        · exact ⟨j, dn_s.mpr ⟨by have := (dn_s.mp h).1; omega, (dn_s.mp h).2⟩, h2⟩
/-- what every replay of a history keeps -/
def mb_ (hs : Nat → st_T) (k : Nat) (m : me_T) : Prop := (∀ r, (m_r m r).length ≤ ic_ hs r k) ∧ (m_e m).length ≤ ic_ hs 0 k + ic_ hs 1 k + ic_ hs 2 k ∧ (m_n m).length ≤ k ∧ (m_e m).Pairwise (· < ·) ∧ (m_n m).Pairwise (· < ·) ∧ (∀ r y, y ∈ m_r m r → y ∈ m_e m) ∧ pc_ m
theorem rp_mb {hs : Nat → st_T} {n la : Nat} (hh : hi_ hs n la) (ac : Nat → Bool) : ∀ {k : Nat}, k ≤ n → mb_ hs k (rp_ hs ac k) := by
  intro k
  induction k with
  | zero =>
    intro _
    exact ⟨fun _ => Nat.zero_le _, Nat.zero_le _, Nat.zero_le _, List.Pairwise.nil, List.Pairwise.nil, fun _ _ h => (by cases h), fun _ h => (by cases h)⟩
  | succ k ih =>
    intro hk
    obtain ⟨h1, h2, h3, h4, h5, h6, h7⟩ := ih (Nat.le_of_succ_le hk)
    have hkd : ∀ j, j < k → kd_ (hs j) := fun j hj => (hh.2.2.1 j (by omega)).1.1
    have hkk : kd_ (hs k) := (hh.2.2.1 k hk).1.1
    by_cases hc : ac k = true ∧ im_ (hs k) (rp_ hs ac k) = false
    · rw [rp_on hc.1 hc.2]
      refine ⟨fun r => ?_, ?_, ?_, ?_, ?_, fun r y hy => pf_in _ hkk (h6 r) hy, pf_pc _ hkk hc.2 h7⟩
      · have := pf_r (rp_ hs ac k) hkk r
        have := h1 r
        rw [ic_s]
        omega
      · rw [pf_e _ hkk, ic_s, ic_s, ic_s]
        by_cases h : s_k (hs k) = 3
        · rw [if_pos h, List.length_append, List.length_singleton]
          obtain ⟨c, hc3, hct⟩ := (hh.2.2.1 k hk).1.2.2.2.1 (Or.inl h)
          have hr : s_r (hs k) = c := by unfold s_r; rw [hct]; exact nI_clamp (by omega)
          rcases (show c = 0 ∨ c = 1 ∨ c = 2 by omega) with rfl | rfl | rfl
          · rw [if_pos ⟨h, hr⟩]; omega
          · rw [if_pos (show s_k (hs k) = 3 ∧ s_r (hs k) = 1 from ⟨h, hr⟩)]; omega
          · rw [if_pos (show s_k (hs k) = 3 ∧ s_r (hs k) = 2 from ⟨h, hr⟩)]; omega
        · rw [if_neg h]; omega
      · rw [pf_n _ hkk]
        by_cases h : s_k (hs k) = 6
        · rw [if_pos h, List.length_append, List.length_singleton]; omega
        · rw [if_neg h]; omega
      · rw [pf_e _ hkk]
        by_cases h : s_k (hs k) = 3
        · rw [if_pos h, List.pairwise_append]
          refine ⟨h4, List.pairwise_singleton _ _, fun a ha b hb => ?_⟩
          rw [List.mem_singleton.mp hb]
          obtain ⟨j, hj, -, rfl⟩ := (el_mem hkd).mp ha
          exact hh.2.2.2.1 j k (dn_s.mp hj).1 hk
        · rw [if_neg h]; exact h4
      · rw [pf_n _ hkk]
        by_cases h : s_k (hs k) = 6
        · rw [if_pos h, List.pairwise_append]
          refine ⟨h5, List.pairwise_singleton _ _, fun a ha b hb => ?_⟩
          rw [List.mem_singleton.mp hb]
          obtain ⟨j, hj, -, rfl⟩ := (nd_mem hkd).mp ha
          exact hh.2.2.2.1 j k (dn_s.mp hj).1 hk
        · rw [if_neg h]; exact h5
    · rw [rp_of hc]
      refine ⟨fun r => Nat.le_trans (h1 r) (ic_mono hs r (Nat.le_succ k)), ?_, by omega, h4, h5, h6, h7⟩
      have := ic_mono hs 0 (Nat.le_add_right k 1)
      have := ic_mono hs 1 (Nat.le_add_right k 1)
      have := ic_mono hs 2 (Nat.le_add_right k 1)
      omega
-- going up: a chain of nodes that has an end ends soon
theorem pg_ : ∀ (l l' : List Int32), l.Nodup → (∀ x, x ∈ l → x ∈ l') → l.length ≤ l'.length := by
  intro l
  induction l with
  | nil => intro l' _ _; exact Nat.zero_le _
  | cons a l ih =>
    intro l' hn hs
    have ha : a ∈ l' := hs a List.mem_cons_self
    have hn' := List.nodup_cons.mp hn
    have h := ih (l'.erase a) hn'.2 (fun x hx => (List.mem_erase_of_ne (fun h : x = a => hn'.1 (h ▸ hx))).mpr (hs x (List.mem_cons_of_mem _ hx)))
    rw [List.length_erase_of_mem ha] at h
    have := List.length_pos_of_mem ha
    rw [List.length_cons]
    omega
def it_ (g : Int32 → Int32) : Nat → Int32 → Int32
  | 0, q => q
  | k + 1, q => it_ g k (g q)
theorem it_add (g : Int32 → Int32) (b : Nat) : ∀ (a : Nat) (q : Int32), it_ g (a + b) q = it_ g b (it_ g a q) := by
  intro a
  induction a with
  | zero => intro q; rw [Nat.zero_add]; rfl
  | succ a ih => intro q; rw [Nat.succ_add]; exact ih (g q)
def up_ (nd : List Int32) (pa : Int32 → Int32) (q : Int32) : Int32 := if q ∈ nd then pa q else -1
theorem bl_s (nd : List Int32) (pa : Int32 → Int32) (n : Int32) (f : Nat) (q : Int32) : bl_ nd pa n (f + 1) q = if 0 < q then (if q = n then true else bl_ nd pa n f (up_ nd pa q)) else false := rfl
theorem bl_iff {nd : List Int32} {pa : Int32 → Int32} {n : Int32} : ∀ {f : Nat} {q : Int32}, bl_ nd pa n f q = true ↔ ∃ i, i < f ∧ it_ (up_ nd pa) i q = n ∧ ∀ j, j ≤ i → 0 < it_ (up_ nd pa) j q := by
  intro f
  induction f with
  | zero => intro q; constructor
            · intro h; cases h
            · rintro ⟨i, h, -⟩; exact absurd h (Nat.not_lt_zero _)
  | succ f ih =>
    intro q
    rw [bl_s]
    by_cases h0 : 0 < q
    · rw [if_pos h0]
      by_cases hq : q = n
      · rw [if_pos hq]
        exact ⟨fun _ => ⟨0, Nat.succ_pos f, hq, fun j hj => by rw [Nat.le_zero.mp hj]; exact h0⟩, fun _ => rfl⟩
      · rw [if_neg hq, ih]
        constructor
        · rintro ⟨i, h1, h2, h3⟩
          refine ⟨i + 1, Nat.succ_lt_succ h1, h2, fun j hj => ?_⟩
          cases j with
          | zero => exact h0
          | succ j => exact h3 j (Nat.le_of_succ_le_succ hj)
        · rintro ⟨i, h1, h2, h3⟩
          cases i with
          | zero => exact absurd h2 hq
          | succ i => exact ⟨i, Nat.lt_of_succ_lt_succ h1, h2, fun j hj => h3 (j + 1) (Nat.succ_le_succ hj)⟩
    · rw [if_neg h0]
      constructor
      · intro h; cases h
      · rintro ⟨i, -, -, h3⟩; exact absurd (h3 0 (Nat.zero_le _)) h0
theorem bl_fuel {nd : List Int32} {pa : Int32 → Int32} {n : Int32} (hn : n ∈ nd) {f : Nat} (hf : nd.length + 1 ≤ f) (q : Int32) : bl_ nd pa n f q = bl_ nd pa n (nd.length + 1) q := by
  have key : bl_ nd pa n f q = true ↔ bl_ nd pa n (nd.length + 1) q = true := by
    rw [bl_iff, bl_iff]
    constructor
    · rintro ⟨i0, -, hi0⟩
      obtain ⟨i, ⟨h2, h3⟩, hmin⟩ := pk_least (fun i => it_ (up_ nd pa) i q = n ∧ ∀ j, j ≤ i → 0 < it_ (up_ nd pa) j q) ⟨i0, hi0⟩
      refine ⟨i, ?_, h2, h3⟩
      have hlen := pg_ ((List.range (i + 1)).map (fun j => it_ (up_ nd pa) j q)) nd ?_ ?_
      · rw [List.length_map, List.length_range] at hlen
        omega
      · unfold List.Nodup
        rw [List.pairwise_map]
        refine List.Pairwise.imp_of_mem ?_ List.pairwise_lt_range
        intro a b ha hb hab heq
        have hb' : b ≤ i := Nat.le_of_lt_succ (List.mem_range.mp hb)
        refine hmin (a + (i - b)) (by omega) ⟨?_, fun j hj => h3 j (by omega)⟩
        rw [it_add, heq, ← it_add, show b + (i - b) = i by omega]
        exact h2
      · intro x hx
        obtain ⟨j, hj, rfl⟩ := List.mem_map.mp hx
        have hj' : j ≤ i := Nat.le_of_lt_succ (List.mem_range.mp hj)
        by_cases hji : j = i
        · rw [hji, h2]; exact hn
        · by_cases hm : it_ (up_ nd pa) j q ∈ nd
          · exact hm
          · have h4 := h3 (j + 1) (by omega)
            rw [it_add] at h4
            change 0 < up_ nd pa (it_ (up_ nd pa) j q) at h4
            unfold up_ at h4
            rw [if_neg (show ¬ it_ (fun q => if q ∈ nd then pa q else -1) j q ∈ nd from hm)] at h4
            exact absurd h4 (by decide)
    · rintro ⟨i, h1, h2⟩
      exact ⟨i, by omega, h2⟩
  cases h1 : bl_ nd pa n f q <;> cases h2 : bl_ nd pa n (nd.length + 1) q <;> simp_all
