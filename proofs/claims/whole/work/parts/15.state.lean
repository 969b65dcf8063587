/-! What a Replay object holds, and the memory that it stands for. -/
def b2_ (b : Bool) : Int32 := if b = true then 1 else 0
/-- a Replay and its arrays: ad 0 the object, ad 4, 5, 6 the rows -/
def wR (cA : Nat → ClassId) (ad : Nat → Nat) (ce : Nat → Int32) (co : Nat → Int64) (rw : Nat → Nat → Int32) (le el : Nat → Int32) (ec : Int32) (nd pa : Nat → Int32) (nc : Int32) : va_W :=
  [(ad 0, .inr (0, [.ref (ad 1), .ref (ad 2), .ref (ad 3), .ref (ad 7), .ref (ad 8), .int ec, .ref (ad 9), .ref (ad 10), .int nc])), (ad 1, .inl (cA 0, 8, .inl ce)), (ad 2, .inl (cA 1, 4, .inr (.inl co))), (ad 3, .inl (cA 2, 3, .inr (.inr (.inr (.inr (fun i => some (ad (4 + i)))))))), (ad 4, .inl (cA 0, 40, .inl (rw 0))), (ad 5, .inl (cA 0, 40, .inl (rw 1))), (ad 6, .inl (cA 0, 40, .inl (rw 2))), (ad 7, .inl (cA 0, 3, .inl le)), (ad 8, .inl (cA 0, 120, .inl el)), (ad 9, .inl (cA 0, 200, .inl nd)), (ad 10, .inl (cA 0, 200, .inl pa))]
theorem wR_row {cA : Nat → ClassId} {ad : Nat → Nat} {ce : Nat → Int32} {co : Nat → Int64} {rw : Nat → Nat → Int32} {le el : Nat → Int32} {ec : Int32} {nd pa : Nat → Int32} {nc : Int32} {r : Nat} (hr : r < 3) : (wR cA ad ce co rw le el ec nd pa nc)[4 + r]? = some (ad (4 + r), .inl (cA 0, 40, .inl (rw r))) := by
  rcases (show r = 0 ∨ r = 1 ∨ r = 2 by omega) with rfl | rfl | rfl <;> rfl
theorem wR_set {cA : Nat → ClassId} {ad : Nat → Nat} {ce : Nat → Int32} {co : Nat → Int64} {rw : Nat → Nat → Int32} {le el : Nat → Int32} {ec : Int32} {nd pa : Nat → Int32} {nc : Int32} {r : Nat} (hr : r < 3) (f : Nat → Int32) : (wR cA ad ce co rw le el ec nd pa nc).set (4 + r) (ad (4 + r), .inl (cA 0, 40, .inl f)) = wR cA ad ce co (va_up rw r f) le el ec nd pa nc := by
  rcases (show r = 0 ∨ r = 1 ∨ r = 2 by omega) with rfl | rfl | rfl <;> rfl
/-- the memory that a Replay's arrays stand for -/
def cr_ (m : me_T) (ce : Nat → Int32) (co : Nat → Int64) (rw : Nat → Nat → Int32) (le el : Nat → Int32) (ec : Int32) (nd pa : Nat → Int32) (nc : Int32) : Prop :=
  (∀ i, i < 8 → ce i = m_c m i) ∧ (∀ i, i < 4 → co i = m_k m i) ∧ (∀ r, r < 3 → le r = nI (m_r m r).length ∧ rl_ (rw r) (m_r m r)) ∧ ec = nI (m_e m).length ∧ rl_ el (m_e m) ∧ nc = nI (m_n m).length ∧ rl_ nd (m_n m) ∧ ∀ i, i < (m_n m).length → pa i = m_p m (nd i)
/-- a memory that fits its arrays -/
def mw_ (m : me_T) : Prop := (∀ r, r < 3 → (m_r m r).length ≤ 40) ∧ (m_e m).length ≤ 120 ∧ (m_n m).length ≤ 200 ∧ (m_e m).Pairwise (· < ·) ∧ (m_n m).Pairwise (· < ·) ∧ (∀ y, y ∈ m_n m → 0 < y) ∧ (∀ y, y ∈ m_e m → 0 < y) ∧ (∀ r y, y ∈ m_r m r → y ∈ m_e m) ∧ pc_ m
theorem ov_ne {i : Nat} (hi : i < 2147483648) : ¬ ov_ (some i) = -1 := by
  intro h
  have h2 := congrArg Int32.toInt h
  change (nI i).toInt = _ at h2
  rw [nI_toInt hi] at h2
  have : (-1 : Int32).toInt = -1 := by decide
  omega
theorem fi_mem {f : Nat → Int32} {L : List Int32} (h : rl_ f L) (hl : L.length ≤ 200) (x : Int32) : (ov_ (fi_ (fun i => decide (f i = x)) L.length) = -1 ↔ x ∉ L) := by
  rw [← ix_f h]
  cases hi : ix_ L x with
  | none => exact ⟨fun _ => ix_non.mp hi, fun _ => rfl⟩
  | some i =>
    refine ⟨fun he => ?_, fun hn => absurd (ix_mem.mp ⟨i, hi⟩) hn⟩
    intro _
    have := ix_lt hi
    exact ov_ne (by omega) he
/-- a Step object -/
def cS (x : st_T) (pl : Nat) (b : Bool) : va_E := .inr (1, [.int (s_n x), .int (s_k x), .int (s_t x), .int (s_m x), .long (s_a x), .ref pl, .int (b2_ b)])
theorem b2_0 {b : Bool} : b2_ b = 0 ↔ b = false := by
  cases b <;> simp [b2_]
theorem b2_n {b : Bool} : ¬ b2_ b = 0 ↔ b = true := by
  cases b <;> simp [b2_]
theorem b2_nar (b : Bool) : narrow .boolean (.int (b2_ b)) = .int (b2_ b) := by
  cases b <;> rfl
theorem be_none {L P : List Int32} {p : Int32} (h : ix_ L p = none) : be_ L (p :: P) = be_ L P := by
  show (match ix_ L p with
    | some i => i + 1
    | none => be_ L P) = _
  rw [h]
theorem be_some {L P : List Int32} {p : Int32} {i : Nat} (h : ix_ L p = some i) : be_ L (p :: P) = i + 1 := by
  show (match ix_ L p with
    | some i => i + 1
    | none => be_ L P) = _
  rw [h]
