/-! Searching, places, squashing: what the loops compute. -/
theorem lt3_ {x y z : Int32} (h : x < y) (h2 : ¬ z < y) : x < z := by
  rw [Int32.lt_iff_toInt_lt] at *
  omega
-- the search by halving strides
theorem se_mono {f : Nat → Int32} {b : Nat} (hs : ∀ i j, i < j → j < b → f i < f j) {i j : Nat} (hij : i ≤ j) (hj : j < b) {x : Int32} (h : f j < x) : f i < x := by
  rcases Nat.lt_or_eq_of_le hij with h1 | h1
  · have := hs i j h1 hj
    rw [Int32.lt_iff_toInt_lt] at *
    omega
  · rw [h1]; exact h
theorem se_t {f : Nat → Int32} {b s t : Nat} {x : Int32} (hs : ∀ i j, i < j → j < b → f i < f j) (h2 : ∀ j, s + (2 * t - 1) ≤ j → j < b → ¬ f j < x) (h0 : 0 < t) (ht : s + t ≤ b) (hx : f (s + t - 1) < x) : (∀ j, j < s + t → f j < x) ∧ ∀ j, (s + t) + (t - 1) ≤ j → j < b → ¬ f j < x :=
  ⟨fun j hj => se_mono hs (by omega) (by omega) hx, fun j hj hjb => h2 j (by omega) hjb⟩
theorem se_f {f : Nat → Int32} {b s t : Nat} {x : Int32} (hs : ∀ i j, i < j → j < b → f i < f j) (h0 : 0 < t) (hx : ¬ (s + t ≤ b ∧ f (s + t - 1) < x)) : ∀ j, s + (t - 1) ≤ j → j < b → ¬ f j < x := by
  intro j hj hjb hlt
  exact hx ⟨by omega, se_mono hs (by omega) hjb hlt⟩
theorem se_fin {f : Nat → Int32} {b s : Nat} {x : Int32} (hs : ∀ i j, i < j → j < b → f i < f j) (h1 : ∀ j, j < s → f j < x) (h2 : ∀ j, s ≤ j → j < b → ¬ f j < x) : fi_ (fun i => decide (f i = x)) b = if s < b ∧ f s = x then some s else none := by
  by_cases h : s < b ∧ f s = x
  · rw [if_pos h]
    refine fi_of h.1 (by simp [h.2]) fun j hj => ?_
    have := Int32.ne_of_lt (h1 j hj)
    simp [this]
  · rw [if_neg h]
    refine fi_no fun j hj => ?_
    have : f j ≠ x := by
      intro he
      rcases Nat.lt_trichotomy j s with h3 | h3 | h3
      · exact Int32.ne_of_lt (h1 j h3) he
      · subst h3; exact h ⟨hj, he⟩
      · exact h2 s (Nat.le_refl _) (by omega) (he ▸ hs s j h3 hj)
    simp [this]
theorem pw_f {f : Nat → Int32} {L : List Int32} (h : rl_ f L) (hp : L.Pairwise (· < ·)) : ∀ i j, i < j → j < L.length → f i < f j := by
  intro i j hij hj
  rw [List.pairwise_iff_getElem] at hp
  have := hp i j (by omega) hj hij
  have e1 := h i (by omega)
  have e2 := h j hj
  rw [List.getElem?_eq_getElem (by omega)] at e1
  rw [List.getElem?_eq_getElem hj] at e2
  rw [← Option.some.inj e1, ← Option.some.inj e2]
  exact this
-- places
def pa_ (L : List Int32) (wo : Int32) (at' k : Nat) : List Int32 := ((L.take k).filter (fun y => decide (y ≠ wo))).take at'
def pl_ (L : List Int32) (at' : Nat) (wo : Int32) : List Int32 := (pa_ L wo at' L.length).reverse
theorem pa_0 (L : List Int32) (wo : Int32) (at' : Nat) : pa_ L wo at' 0 = [] := by
  unfold pa_
  simp
theorem pa_f {L : List Int32} {wo : Int32} {k : Nat} {y : Int32} (hk : L[k]? = some y) : (L.take (k + 1)).filter (fun y => decide (y ≠ wo)) = (L.take k).filter (fun y => decide (y ≠ wo)) ++ (if y ≠ wo then [y] else []) := by
  rw [List.take_add_one, hk, List.filter_append]
  congr 1
  by_cases h : y = wo
  · simp [h]
  · simp [h]
theorem pa_on {L : List Int32} {wo : Int32} {at' k : Nat} {y : Int32} (hk : L[k]? = some y) (hy : y ≠ wo) (hl : ((L.take k).filter (fun y => decide (y ≠ wo))).length < at') : pa_ L wo at' (k + 1) = pa_ L wo at' k ++ [y] := by
  unfold pa_
  rw [pa_f hk, if_pos hy, List.take_append, List.take_of_length_le (Nat.le_of_lt hl)]
  congr 1
  rw [List.take_of_length_le]
  rw [List.length_singleton]
  omega
theorem pa_off {L : List Int32} {wo : Int32} {at' k : Nat} {y : Int32} (hk : L[k]? = some y) (hy : y = wo) : pa_ L wo at' (k + 1) = pa_ L wo at' k := by
  unfold pa_
  rw [pa_f hk, if_neg (by simpa using hy), List.append_nil]
theorem pa_full {L : List Int32} {wo : Int32} {at' k : Nat} {y : Int32} (hk : L[k]? = some y) (hl : ¬ ((L.take k).filter (fun y => decide (y ≠ wo))).length < at') : pa_ L wo at' (k + 1) = pa_ L wo at' k := by
  unfold pa_
  rw [pa_f hk, List.take_append_of_le_length (by omega)]
theorem pa_len (L : List Int32) (wo : Int32) (at' k : Nat) : (pa_ L wo at' k).length = min at' ((L.take k).filter (fun y => decide (y ≠ wo))).length := by
  unfold pa_
  rw [List.length_take]
-- squashing
def al_ (ac : Nat → Bool) : Nat → List Nat
  | 0 => []
  | k + 1 => if ac k = true then al_ ac k ++ [k] else al_ ac k
theorem al_s (ac : Nat → Bool) (k : Nat) : al_ ac (k + 1) = if ac k = true then al_ ac k ++ [k] else al_ ac k := rfl
theorem al_le (ac : Nat → Bool) : ∀ k, (al_ ac k).length ≤ k := by
  intro k
  induction k with
  | zero => exact Nat.le_refl _
  | succ k ih =>
    rw [al_s]
    by_cases h : ac k = true
    · rw [if_pos h, List.length_append, List.length_singleton]; omega
    · rw [if_neg h]; omega
theorem al_mem {ac : Nat → Bool} : ∀ {k j : Nat}, j ∈ al_ ac k ↔ j < k ∧ ac j = true := by
  intro k
  induction k with
  | zero => intro j; simp [al_]
  | succ k ih =>
    intro j
    rw [al_s]
    by_cases h : ac k = true
    · rw [if_pos h, List.mem_append, List.mem_singleton, ih]
      constructor
      · rintro (⟨h1, h2⟩ | rfl)
        · exact ⟨by omega, h2⟩
        · exact ⟨Nat.lt_succ_self _, h⟩
      · rintro ⟨h1, h2⟩
        by_cases hj : j = k
        · exact Or.inr hj
        · exact Or.inl ⟨by omega, h2⟩
    · rw [if_neg h, ih]
      constructor
      · rintro ⟨h1, h2⟩; exact ⟨by omega, h2⟩
      · rintro ⟨h1, h2⟩
        by_cases hj : j = k
        · subst hj; exact absurd h2 h
        · exact ⟨by omega, h2⟩
theorem al_pre (ac : Nat → Bool) {k n : Nat} (h : k ≤ n) : ∃ t, al_ ac n = al_ ac k ++ t := by
  induction n with
  | zero => rw [Nat.le_zero.mp h]; exact ⟨[], (List.append_nil _).symm⟩
  | succ n ih =>
    by_cases hk : k = n + 1
    · rw [hk]; exact ⟨[], (List.append_nil _).symm⟩
    · obtain ⟨t, ht⟩ := ih (by omega)
      rw [al_s]
      by_cases ha : ac n = true
      · rw [if_pos ha, ht, List.append_assoc]; exact ⟨_, rfl⟩
      · rw [if_neg ha]; exact ⟨t, ht⟩
theorem al_lt (ac : Nat → Bool) : ∀ k, (al_ ac k).Pairwise (· < ·) := by
  intro k
  induction k with
  | zero => exact List.Pairwise.nil
  | succ k ih =>
    rw [al_s]
    by_cases h : ac k = true
    · rw [if_pos h, List.pairwise_append]
      exact ⟨ih, List.pairwise_singleton _ _, fun a ha b hb => by rw [List.mem_singleton.mp hb]; exact (al_mem.mp ha).1⟩
    · rw [if_neg h]; exact ih
/-- the history without its undone steps -/
def hq_ (hs : Nat → st_T) (ac : Nat → Bool) (n : Nat) : Nat → st_T := fun j => hs ((al_ ac n).getD j 0)
def on_ : Nat → Bool := fun _ => true
theorem al_get {ac : Nat → Bool} {k n j : Nat} (h : k ≤ n) (hj : j < (al_ ac k).length) : (al_ ac n).getD j 0 = (al_ ac k).getD j 0 := by
  obtain ⟨t, ht⟩ := al_pre ac h
  rw [ht, List.getD_eq_getElem?_getD, List.getD_eq_getElem?_getD, List.getElem?_append_left hj]
theorem rp_q {hs : Nat → st_T} {ac : Nat → Bool} {n : Nat} : ∀ {k : Nat}, k ≤ n → rp_ (hq_ hs ac n) on_ (al_ ac k).length = rp_ hs ac k := by
  intro k
  induction k with
  | zero => intro _; rfl
  | succ k ih =>
    intro hk
    have e := ih (Nat.le_of_succ_le hk)
    rw [rp_s, al_s]
    by_cases ha : ac k = true
    · rw [if_pos ha, if_pos ha, List.length_append, List.length_singleton, rp_s, if_pos (show on_ _ = true from rfl), e]
      have : hq_ hs ac n (al_ ac k).length = hs k := by
        unfold hq_
        have h2 : al_ ac (k + 1) = al_ ac k ++ [k] := by rw [al_s, if_pos ha]
        rw [al_get (k := k + 1) hk (by rw [h2, List.length_append, List.length_singleton]; omega), h2, List.getD_eq_getElem?_getD, List.getElem?_append_right (Nat.le_refl _)]
        simp
      rw [this]
    · rw [if_neg ha, if_neg ha]; exact e
