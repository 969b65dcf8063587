/-! What a run is, in lists and functions: steps, the memory that a replay makes, the steps that are impossible in it. -/
-- the first number below n that has a property
def fi_ (p : Nat → Bool) : Nat → Option Nat
  | 0 => none
  | n + 1 => match fi_ p n with
    | some i => some i
    | none => if p n then some n else none
theorem fi_s (p : Nat → Bool) (n : Nat) : fi_ p (n + 1) = match fi_ p n with
    | some i => some i
    | none => if p n then some n else none := rfl
theorem fi_sp (p : Nat → Bool) : ∀ n : Nat, (fi_ p n = none ∧ ∀ j, j < n → p j = false) ∨ (∃ i, fi_ p n = some i ∧ i < n ∧ p i = true ∧ ∀ j, j < i → p j = false) := by
  intro n
  induction n with
  | zero => exact Or.inl ⟨rfl, fun j h => absurd h (Nat.not_lt_zero _)⟩
  | succ n ih =>
    rcases ih with ⟨h, hj⟩ | ⟨i, h, hi, hp, hj⟩
    · cases hpn : p n with
      | true => exact Or.inr ⟨n, by rw [fi_s, h]; simp [hpn], Nat.lt_succ_self n, hpn, hj⟩
      | false =>
        refine Or.inl ⟨by rw [fi_s, h]; simp [hpn], fun j hjn => ?_⟩
        rcases Nat.lt_or_eq_of_le (Nat.le_of_lt_succ hjn) with h1 | h1
        · exact hj j h1
        · rw [h1]; exact hpn
    · exact Or.inr ⟨i, by rw [fi_s, h], Nat.lt_succ_of_lt hi, hp, hj⟩
theorem fi_of {p : Nat → Bool} {n i : Nat} (hi : i < n) (hp : p i = true) (hj : ∀ j, j < i → p j = false) : fi_ p n = some i := by
  rcases fi_sp p n with ⟨-, h⟩ | ⟨k, h, hk, hkp, hkj⟩
  · rw [h i hi] at hp; cases hp
  · rcases Nat.lt_trichotomy k i with h1 | h1 | h1
    · rw [hj k h1] at hkp; cases hkp
    · rw [h, h1]
    · rw [hkj i h1] at hp; cases hp
theorem fi_no {p : Nat → Bool} {n : Nat} (hj : ∀ j, j < n → p j = false) : fi_ p n = none := by
  rcases fi_sp p n with ⟨h, -⟩ | ⟨k, -, hk, hkp, -⟩
  · exact h
  · rw [hj k hk] at hkp; cases hkp
theorem fi_some {p : Nat → Bool} {n i : Nat} (h : fi_ p n = some i) : i < n ∧ p i = true ∧ ∀ j, j < i → p j = false := by
  rcases fi_sp p n with ⟨h0, -⟩ | ⟨k, h0, hk, hkp, hkj⟩
  · rw [h0] at h; cases h
  · rw [h0] at h; cases h; exact ⟨hk, hkp, hkj⟩
theorem fi_none {p : Nat → Bool} {n : Nat} (h : fi_ p n = none) : ∀ j, j < n → p j = false := by
  rcases fi_sp p n with ⟨-, h0⟩ | ⟨k, h0, -, -, -⟩
  · exact h0
  · rw [h0] at h; cases h
theorem fi_cong {p q : Nat → Bool} {n : Nat} (h : ∀ j, j < n → p j = q j) : fi_ p n = fi_ q n := by
  rcases fi_sp q n with ⟨h0, hj⟩ | ⟨k, h0, hk, hkp, hkj⟩
  · rw [h0]; exact fi_no fun j hjn => by rw [h j hjn]; exact hj j hjn
  · rw [h0]; exact fi_of hk (by rw [h k hk]; exact hkp) fun j hjk => by rw [h j (Nat.lt_trans hjk hk)]; exact hkj j hjk
/-- what Java answers for an index, or NONE -/
def ov_ (o : Option Nat) : Int32 := match o with
  | some i => nI i
  | none => -1
theorem vu_ne {α : Type} {f : Nat → α} {k j : Nat} {v : α} (h : j ≠ k) : va_up f k v j = f j := if_neg h
theorem vu_eq {α : Type} {f : Nat → α} {k : Nat} {v : α} : va_up f k v k = v := if_pos rfl
-- rows
def rl_ (f : Nat → Int32) (L : List Int32) : Prop := ∀ i, i < L.length → L[i]? = some (f i)
def ix_ (L : List Int32) (e : Int32) : Option Nat := fi_ (fun i => decide (L[i]? = some e)) L.length
def be_ (L : List Int32) : List Int32 → Nat
  | [] => 0
  | p :: P => match ix_ L p with
    | some i => i + 1
    | none => be_ L P
def del_ (L : List Int32) (e : Int32) : List Int32 := match ix_ L e with
  | some i => L.eraseIdx i
  | none => L
def ins_ (L P : List Int32) (e : Int32) : List Int32 := L.insertIdx (be_ L P) e
theorem ix_f {f : Nat → Int32} {L : List Int32} (h : rl_ f L) (e : Int32) : ix_ L e = fi_ (fun i => decide (f i = e)) L.length := by
  refine fi_cong fun j hj => ?_
  rw [h j hj]
  simp
theorem ix_lt {L : List Int32} {e : Int32} {i : Nat} (h : ix_ L e = some i) : i < L.length := (fi_some h).1
theorem ix_at {L : List Int32} {e : Int32} {i : Nat} (h : ix_ L e = some i) : L[i]? = some e := by simpa using (fi_some h).2.1
theorem ix_mem {L : List Int32} {e : Int32} : (∃ i, ix_ L e = some i) ↔ e ∈ L := by
  constructor
  · rintro ⟨i, h⟩
    exact List.mem_of_getElem? (ix_at h)
  · intro h
    rcases fi_sp (fun i => decide (L[i]? = some e)) L.length with ⟨-, hj⟩ | ⟨i, h0, -⟩
    · obtain ⟨k, hk⟩ := List.getElem?_of_mem h
      have hkl : k < L.length := (List.getElem?_eq_some_iff.mp hk).1
      have := hj k hkl
      simp [hk] at this
    · exact ⟨i, h0⟩
theorem ix_non {L : List Int32} {e : Int32} : ix_ L e = none ↔ e ∉ L := by
  rw [← ix_mem]
  cases ix_ L e with
  | none => simp
  | some i => simp
theorem be_le (L : List Int32) : ∀ P, be_ L P ≤ L.length := by
  intro P
  induction P with
  | nil => exact Nat.zero_le _
  | cons p P ih =>
    unfold be_
    cases h : ix_ L p with
    | none => exact ih
    | some i => exact ix_lt h
theorem rl_get {f : Nat → Int32} {L : List Int32} (h : rl_ f L) {i : Nat} (hi : i < L.length) : f i ∈ L := List.mem_of_getElem? (h i hi)
theorem rl_ins {f : Nat → Int32} {L : List Int32} (h : rl_ f L) {k : Nat} (hk : k ≤ L.length) (e : Int32) : rl_ (upd (va_cpy f f k (k + 1) (L.length - k)) k e) (L.insertIdx k e) := by
  intro i hi
  rw [List.length_insertIdx_of_le_length hk] at hi
  rw [List.getElem?_insertIdx]
  by_cases h1 : i < k
  · rw [if_pos h1, h i (by omega), pk_un (by omega), pk_cpy_out (by omega)]
  · rw [if_neg h1]
    by_cases h2 : i = k
    · rw [if_pos h2, if_pos (by omega), h2, pk_us]
    · rw [if_neg h2, h (i - 1) (by omega), pk_un h2, pk_cpy_in (by omega) (by omega)]
      congr 2
      omega
theorem rl_del {f : Nat → Int32} {L : List Int32} (h : rl_ f L) {k : Nat} (hk : k < L.length) : rl_ (va_cpy f f (k + 1) k (L.length - 1 - k)) (L.eraseIdx k) := by
  intro i hi
  rw [List.length_eraseIdx_of_lt hk] at hi
  rw [List.getElem?_eraseIdx]
  by_cases h1 : i < k
  · rw [if_pos h1, h i (by omega), pk_cpy_out (by omega)]
  · rw [if_neg h1, h (i + 1) (by omega), pk_cpy_in (by omega) (by omega)]
    congr 2
    omega
-- steps and memories
abbrev st_T : Type := Int32 × Int32 × Int32 × Int32 × Int64 × List Int32
abbrev me_T : Type := (Nat → Int32) × (Nat → Int64) × (Nat → List Int32) × List Int32 × List Int32 × (Int32 → Int32)
def s_n (x : st_T) : Int32 := x.1
def s_k (x : st_T) : Int32 := x.2.1
def s_t (x : st_T) : Int32 := x.2.2.1
def s_m (x : st_T) : Int32 := x.2.2.2.1
def s_a (x : st_T) : Int64 := x.2.2.2.2.1
def s_p (x : st_T) : List Int32 := x.2.2.2.2.2
def s_r (x : st_T) : Nat := (s_t x).toNatClampNeg
def m_c (m : me_T) : Nat → Int32 := m.1
def m_k (m : me_T) : Nat → Int64 := m.2.1
def m_r (m : me_T) : Nat → List Int32 := m.2.2.1
def m_e (m : me_T) : List Int32 := m.2.2.2.1
def m_n (m : me_T) : List Int32 := m.2.2.2.2.1
def m_p (m : me_T) : Int32 → Int32 := m.2.2.2.2.2
def upI_ (f : Int32 → Int32) (k x : Int32) : Int32 → Int32 := fun j => if j = k then x else f j
/-- n stands at or above q: at most so many steps up -/
def bl_ (nd : List Int32) (pa : Int32 → Int32) (n : Int32) : Nat → Int32 → Bool
  | 0, _ => false
  | f + 1, q => if 0 < q then (if q = n then true else bl_ nd pa n f (if q ∈ nd then pa q else -1)) else false
def im_ (x : st_T) (m : me_T) : Bool :=
  if s_k x = 4 ∨ s_k x = 5 then decide (s_m x ∉ m_e m)
  else if s_k x = 6 then decide (s_m x ≠ 0 ∧ s_m x ∉ m_n m)
  else if s_k x = 7 then decide (s_t x ∉ m_n m)
  else if s_k x = 8 then decide (s_t x ∉ m_n m ∨ (s_m x ≠ 0 ∧ (s_m x ∉ m_n m ∨ bl_ (m_n m) (m_p m) (s_t x) ((m_n m).length + 1) (s_m x) = true)))
  else false
def pf_ (x : st_T) (m : me_T) : me_T :=
  if s_k x = 1 then (upd m.1 (s_r x) (s_a x).toInt32, m.2)
  else if s_k x = 2 then (m.1, vp_updL m.2.1 (s_r x) (m.2.1 (s_r x) + s_a x), m.2.2)
  else if s_k x = 3 then (m.1, m.2.1, va_up (m_r m) (s_r x) (ins_ (m_r m (s_r x)) (s_p x) (s_n x)), m_e m ++ [s_n x], m.2.2.2.2)
  else if s_k x = 4 then (m.1, m.2.1, va_up (m_r m) (s_r x) (del_ (m_r m (s_r x)) (s_m x)), m.2.2.2)
  else if s_k x = 5 then (m.1, m.2.1, va_up (m_r m) (s_r x) (if s_m x ∈ m_r m (s_r x) then ins_ (del_ (m_r m (s_r x)) (s_m x)) (s_p x) (s_m x) else m_r m (s_r x)), m.2.2.2)
  else if s_k x = 6 then (m.1, m.2.1, m.2.2.1, m.2.2.2.1, m_n m ++ [s_n x], upI_ (m_p m) (s_n x) (s_m x))
  else if s_k x = 7 then (m.1, m.2.1, m.2.2.1, m.2.2.2.1, m_n m, upI_ (m_p m) (s_t x) (-1))
  else (m.1, m.2.1, m.2.2.1, m.2.2.2.1, m_n m, upI_ (m_p m) (s_t x) (s_m x))
def at_ (x : st_T) (m : me_T) : me_T := if im_ x m = true then m else pf_ x m
def m0_ : me_T := (fun _ => 0, fun _ => 0, fun _ => [], [], [], fun _ => -1)
/-- the replay of the first k steps that are active -/
def rp_ (hs : Nat → st_T) (ac : Nat → Bool) : Nat → me_T
  | 0 => m0_
  | k + 1 => if ac k = true then at_ (hs k) (rp_ hs ac k) else rp_ hs ac k
/-- those that are impossible in it -/
def il_ (hs : Nat → st_T) (ac : Nat → Bool) : Nat → List Nat
  | 0 => []
  | k + 1 => if (ac k && im_ (hs k) (rp_ hs ac k)) = true then il_ hs ac k ++ [k] else il_ hs ac k
/-- step j was done in the replay of the first k -/
def dn_ (hs : Nat → st_T) (ac : Nat → Bool) (k j : Nat) : Bool := decide (j < k) && (ac j && !(im_ (hs j) (rp_ hs ac j)))
theorem rp_s (hs : Nat → st_T) (ac : Nat → Bool) (k : Nat) : rp_ hs ac (k + 1) = if ac k = true then at_ (hs k) (rp_ hs ac k) else rp_ hs ac k := rfl
theorem il_s (hs : Nat → st_T) (ac : Nat → Bool) (k : Nat) : il_ hs ac (k + 1) = if (ac k && im_ (hs k) (rp_ hs ac k)) = true then il_ hs ac k ++ [k] else il_ hs ac k := rfl
theorem rp_cong {hs hs' : Nat → st_T} {ac ac' : Nat → Bool} : ∀ {k : Nat}, (∀ j, j < k → hs j = hs' j ∧ ac j = ac' j) → rp_ hs ac k = rp_ hs' ac' k := by
  intro k
  induction k with
  | zero => intro _; rfl
  | succ k ih =>
    intro h
    rw [rp_s, rp_s, ih fun j hj => h j (Nat.lt_succ_of_lt hj), (h k (Nat.lt_succ_self k)).1, (h k (Nat.lt_succ_self k)).2]
theorem il_cong {hs hs' : Nat → st_T} {ac ac' : Nat → Bool} : ∀ {k : Nat}, (∀ j, j < k → hs j = hs' j ∧ ac j = ac' j) → il_ hs ac k = il_ hs' ac' k := by
  intro k
  induction k with
  | zero => intro _; rfl
  | succ k ih =>
    intro h
    have h' : ∀ j, j < k → hs j = hs' j ∧ ac j = ac' j := fun j hj => h j (Nat.lt_succ_of_lt hj)
    rw [il_s, il_s, ih h', rp_cong h', (h k (Nat.lt_succ_self k)).1, (h k (Nat.lt_succ_self k)).2]
theorem il_mem {hs : Nat → st_T} {ac : Nat → Bool} : ∀ {k j : Nat}, j ∈ il_ hs ac k ↔ j < k ∧ ac j = true ∧ im_ (hs j) (rp_ hs ac j) = true := by
  intro k
  induction k with
  | zero => intro j; simp [il_]
  | succ k ih =>
    intro j
    rw [il_s]
    by_cases hc : (ac k && im_ (hs k) (rp_ hs ac k)) = true
    · rw [if_pos hc, List.mem_append, ih, List.mem_singleton]
      have hc' : ac k = true ∧ im_ (hs k) (rp_ hs ac k) = true := by simpa using hc
      constructor
      · rintro (⟨h1, h2⟩ | rfl)
        · exact ⟨by omega, h2⟩
        · exact ⟨Nat.lt_succ_self _, hc'⟩
      · rintro ⟨h1, h2⟩
        by_cases hj : j = k
        · exact Or.inr hj
        · exact Or.inl ⟨by omega, h2⟩
    · rw [if_neg hc, ih]
      constructor
      · rintro ⟨h1, h2⟩
        exact ⟨by omega, h2⟩
      · rintro ⟨h1, h2⟩
        by_cases hj : j = k
        · subst hj; exact absurd (by simpa using h2) hc
        · exact ⟨by omega, h2⟩
theorem il_lt {hs : Nat → st_T} {ac : Nat → Bool} {k j : Nat} (h : j ∈ il_ hs ac k) : j < k := (il_mem.mp h).1
/-- undoing steps that are passed over changes nothing in the replay -/
theorem rp_off {hs : Nat → st_T} {ac ac' : Nat → Bool} {n : Nat} (h1 : ∀ j, j < n → ac' j = true → ac j = true) (h2 : ∀ j, j < n → ac j = true → ac' j = false → im_ (hs j) (rp_ hs ac j) = true) : ∀ {k : Nat}, k ≤ n → rp_ hs ac' k = rp_ hs ac k := by
  intro k
  induction k with
  | zero => intro _; rfl
  | succ k ih =>
    intro hk
    have e := ih (Nat.le_of_succ_le hk)
    rw [rp_s, rp_s, e]
    cases ha : ac' k with
    | true => rw [if_pos rfl, if_pos (h1 k hk ha)]
    | false =>
      rw [if_neg (by simp)]
      by_cases hc : ac k = true
      · rw [if_pos hc, at_, if_pos (h2 k hk hc ha)]
      · rw [if_neg hc]
theorem il_off {hs : Nat → st_T} {ac ac' : Nat → Bool} {n : Nat} (h1 : ∀ j, j < n → ac' j = true → ac j = true) (h2 : ∀ j, j < n → ac j = true → ac' j = false → im_ (hs j) (rp_ hs ac j) = true) : ∀ {k : Nat}, k ≤ n → il_ hs ac' k = (il_ hs ac k).filter (fun j => ac' j) := by
  intro k
  induction k with
  | zero => intro _; rfl
  | succ k ih =>
    intro hk
    have e := ih (Nat.le_of_succ_le hk)
    have e2 := rp_off h1 h2 (Nat.le_of_succ_le hk)
    rw [il_s, il_s, e, e2]
    cases ha : ac' k with
    | true =>
      have hc := h1 k hk ha
      by_cases hi : im_ (hs k) (rp_ hs ac k) = true
      · rw [if_pos (by simp [hi]), if_pos (by simp [hi, hc]), List.filter_append]
        simp [ha]
      · rw [if_neg (by simp [hi]), if_neg (by simp [hi])]
    | false =>
      rw [if_neg (by simp)]
      by_cases hi : (ac k && im_ (hs k) (rp_ hs ac k)) = true
      · rw [if_pos hi, List.filter_append]
        simp [ha]
      · rw [if_neg hi]
