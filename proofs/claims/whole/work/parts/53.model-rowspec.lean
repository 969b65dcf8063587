/-! Rows in one long array: shifting them. -/
def sh_ (f : Nat → Int32) (a b : Nat) : Nat → Int32 := fun t => if a ≤ t ∧ t < b then f (t + 1) else f t
theorem sh_0 (f : Nat → Int32) (a : Nat) : sh_ f a a = f := by
  funext t
  unfold sh_
  rw [if_neg (by omega)]
theorem sh_s (f : Nat → Int32) {a b : Nat} (h : a ≤ b) : upd (sh_ f a b) b (f (b + 1)) = sh_ f a (b + 1) := by
  funext t
  by_cases ht : t = b
  · rw [ht, pk_us]
    unfold sh_
    rw [if_pos (by omega)]
  · rw [pk_un ht]
    unfold sh_
    by_cases h1 : a ≤ t ∧ t < b
    · rw [if_pos h1, if_pos (by omega)]
    · rw [if_neg h1, if_neg (by omega)]
theorem sh_at (f : Nat → Int32) {a b t : Nat} (h : b ≤ t) : sh_ f a b t = f t := by
  unfold sh_
  rw [if_neg (by omega)]
def su_ (f : Nat → Int32) (a b : Nat) : Nat → Int32 := fun t => if a < t ∧ t ≤ b then f (t - 1) else f t
theorem su_0 (f : Nat → Int32) (b : Nat) : su_ f b b = f := by
  funext t
  unfold su_
  rw [if_neg (by omega)]
theorem su_s (f : Nat → Int32) {a b : Nat} (h : a + 1 ≤ b) : upd (su_ f (a + 1) b) (a + 1) (f a) = su_ f a b := by
  funext t
  by_cases ht : t = a + 1
  · rw [ht, pk_us]
    unfold su_
    rw [if_pos (by omega), Nat.add_sub_cancel]
  · rw [pk_un ht]
    unfold su_
    by_cases h1 : a + 1 < t ∧ t ≤ b
    · rw [if_pos h1, if_pos (by omega)]
    · rw [if_neg h1, if_neg (by omega)]
theorem su_at (f : Nat → Int32) {a b t : Nat} (h : t ≤ a) : su_ f a b t = f t := by
  unfold su_
  rw [if_neg (by omega)]
/-- one row has become L, the others are as they were -/
def rq_ (r : Nat) (ro le ro' le' : Nat → Int32) (L : List Int32) : Prop := (∀ q, q < 3 → q ≠ r → le' q = le q ∧ ∀ j, j < 40 → ro' (40 * q + j) = ro (40 * q + j)) ∧ le' r = nI L.length ∧ rl_ (fun j => ro' (40 * r + j)) L
theorem rq_out {q r j : Nat} (hq : q ≠ r) (hj : j < 40) : 40 * q + j < 40 * r ∨ 40 * r + 40 ≤ 40 * q + j := by
  rcases Nat.lt_or_gt_of_ne hq with h | h
  · exact Or.inl (by omega)
  · exact Or.inr (by omega)
theorem rq_del {ro le : Nat → Int32} {r k : Nat} {L : List Int32} (hrl : rl_ (fun j => ro (40 * r + j)) L) (h40 : L.length ≤ 40) (hk : k < L.length) : rq_ r ro le (sh_ ro (40 * r + k) (40 * r + (L.length - 1))) (upd le r (nI (L.length - 1))) (L.eraseIdx k) := by
  refine ⟨fun q hq hqr => ⟨pk_un hqr, fun j hj => ?_⟩, ?_, fun j hj => ?_⟩
  · unfold sh_
    rw [if_neg (by have := rq_out hqr hj; omega)]
  · rw [pk_us, List.length_eraseIdx_of_lt hk]
  · rw [List.length_eraseIdx_of_lt hk] at hj
    rw [List.getElem?_eraseIdx]
    show _ = some (sh_ ro (40 * r + k) (40 * r + (L.length - 1)) (40 * r + j))
    unfold sh_
    by_cases h1 : j < k
    · rw [if_pos h1, if_neg (by omega)]
      exact hrl j (by omega)
    · rw [if_neg h1, if_pos (by omega)]
      exact hrl (j + 1) (by omega)
theorem rq_ins {ro le : Nat → Int32} {r k : Nat} {L : List Int32} (e : Int32) (hrl : rl_ (fun j => ro (40 * r + j)) L) (h39 : L.length ≤ 39) (hk : k ≤ L.length) : rq_ r ro le (upd (su_ ro (40 * r + k) (40 * r + L.length)) (40 * r + k) e) (upd le r (nI (L.length + 1))) (L.insertIdx k e) := by
  refine ⟨fun q hq hqr => ⟨pk_un hqr, fun j hj => ?_⟩, ?_, fun j hj => ?_⟩
  · have := rq_out hqr hj
    rw [pk_un (by omega)]
    unfold su_
    rw [if_neg (by omega)]
  · rw [pk_us, List.length_insertIdx_of_le_length hk]
  · rw [List.length_insertIdx_of_le_length hk] at hj
    rw [List.getElem?_insertIdx]
    show _ = some (upd (su_ ro (40 * r + k) (40 * r + L.length)) (40 * r + k) e (40 * r + j))
    by_cases h1 : j < k
    · rw [if_pos h1, pk_un (by omega)]
      unfold su_
      rw [if_neg (by omega)]
      exact hrl j (by omega)
    · rw [if_neg h1]
      by_cases h2 : j = k
      · rw [if_pos h2, if_pos (by omega), h2, pk_us]
      · rw [if_neg h2, pk_un (by omega)]
        unfold su_
        rw [if_pos (by omega), show 40 * r + j - 1 = 40 * r + (j - 1) by omega]
        exact hrl (j - 1) (by omega)
theorem rq_same {ro le : Nat → Int32} {r : Nat} {L : List Int32} (hle : le r = nI L.length) (hrl : rl_ (fun j => ro (40 * r + j)) L) : rq_ r ro le ro le L := ⟨fun _ _ _ => ⟨rfl, fun _ _ => rfl⟩, hle, hrl⟩
