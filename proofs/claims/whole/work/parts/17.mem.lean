/-! Small steps of a memory, and its arrays. -/
theorem rl_snoc {f : Nat → Int32} {L : List Int32} (h : rl_ f L) (x : Int32) : rl_ (upd f L.length x) (L ++ [x]) := by
  intro i hi
  rw [List.length_append, List.length_singleton] at hi
  by_cases h1 : i = L.length
  · rw [h1, pk_us, List.getElem?_append_right (Nat.le_refl _)]
    simp
  · rw [pk_un h1, List.getElem?_append_left (by omega)]
    exact h i (by omega)
theorem cr_me {m : me_T} {ce : Nat → Int32} {co : Nat → Int64} {rw : Nat → Nat → Int32} {le el : Nat → Int32} {ec : Int32} {nd pa : Nat → Int32} {nc : Int32} (hc : cr_ m ce co rw le el ec nd pa nc) (n : Int32) : cr_ (me_ m n) ce co rw le (upd el (m_e m).length n) (nI ((m_e m).length + 1)) nd pa nc := by
  obtain ⟨h1, h2, h3, h4, h5, h6, h7, h8⟩ := hc
  refine ⟨h1, h2, h3, ?_, rl_snoc h5 n, h6, h7, h8⟩
  show nI ((m_e m).length + 1) = nI (m_e m ++ [n]).length
  rw [List.length_append, List.length_singleton]
theorem mw_me {m : me_T} (hw : mw_ m) {n : Int32} (h1 : (m_e m).length ≤ 119) (h2 : 0 < n) (h3 : ∀ y, y ∈ m_e m → y < n) : mw_ (me_ m n) := by
  obtain ⟨w1, w2, w3, w4, w5, w6, w7, w8, w9⟩ := hw
  refine ⟨w1, ?_, w3, ?_, w5, w6, fun y hy => ?_, fun r y hy => List.mem_append_left _ (w8 r y hy), w9⟩
  · show (m_e m ++ [n]).length ≤ 120
    rw [List.length_append, List.length_singleton]
    omega
  · show (m_e m ++ [n]).Pairwise (· < ·)
    rw [List.pairwise_append]
    exact ⟨w4, List.pairwise_singleton _ _, fun a ha b hb => by rw [List.mem_singleton.mp hb]; exact h3 a ha⟩
  · rcases List.mem_append.mp hy with h | h
    · exact w7 y h
    · rw [List.mem_singleton.mp h]; exact h2
theorem mw_row {m : me_T} (hw : mw_ m) {r : Nat} {L : List Int32} (h1 : L.length ≤ 40) (h2 : ∀ y, y ∈ L → y ∈ m_e m) : mw_ (mr_ m r L) := by
  obtain ⟨w1, w2, w3, w4, w5, w6, w7, w8, w9⟩ := hw
  refine ⟨fun q hq => ?_, w2, w3, w4, w5, w6, w7, fun q y hy => ?_, w9⟩
  · show (va_up (m_r m) r L q).length ≤ 40
    by_cases h : q = r
    · rw [h, vu_eq]; exact h1
    · rw [vu_ne h]; exact w1 q hq
  · change y ∈ va_up (m_r m) r L q at hy
    by_cases h : q = r
    · rw [h, vu_eq] at hy; exact h2 y hy
    · rw [vu_ne h] at hy; exact w8 q y hy
theorem cr_mn {m : me_T} {ce : Nat → Int32} {co : Nat → Int64} {rw : Nat → Nat → Int32} {le el : Nat → Int32} {ec : Int32} {nd pa : Nat → Int32} {nc : Int32} (hc : cr_ m ce co rw le el ec nd pa nc) {n p : Int32} (hn : ∀ y, y ∈ m_n m → y < n) : cr_ (m.1, m.2.1, m.2.2.1, m.2.2.2.1, m_n m ++ [n], upI_ (m_p m) n p) ce co rw le el ec (upd nd (m_n m).length n) (upd pa (m_n m).length p) (nI ((m_n m).length + 1)) := by
  obtain ⟨h1, h2, h3, h4, h5, h6, h7, h8⟩ := hc
  refine ⟨h1, h2, h3, h4, h5, ?_, rl_snoc h7 n, fun i hi => ?_⟩
  · show nI ((m_n m).length + 1) = nI (m_n m ++ [n]).length
    rw [List.length_append, List.length_singleton]
  · change i < (m_n m ++ [n]).length at hi
    rw [List.length_append, List.length_singleton] at hi
    show upd pa (m_n m).length p i = upI_ (m_p m) n p (upd nd (m_n m).length n i)
    unfold upI_
    by_cases h : i = (m_n m).length
    · rw [h, pk_us, pk_us, if_pos rfl]
    · rw [pk_un h, pk_un h, if_neg (Int32.ne_of_lt (hn _ (rl_get h7 (by omega))))]
      exact h8 i (by omega)
/-- there is room for what a step makes, and its number is new -/
def ca_ (x : st_T) (m : me_T) : Prop := (s_k x = 3 → (m_r m (s_r x)).length ≤ 39 ∧ (m_e m).length ≤ 119 ∧ 0 < s_n x ∧ ∀ y, y ∈ m_e m → y < s_n x) ∧ (s_k x = 6 → (m_n m).length ≤ 199 ∧ ∀ y, y ∈ m_n m → y < s_n x)
/-- what perform wants of a step -/
def tq_ (x : st_T) : Prop := kd_ x ∧ (s_k x = 1 → ∃ c : Nat, c < 8 ∧ s_t x = nI c) ∧ (s_k x = 2 → ∃ c : Nat, c < 4 ∧ s_t x = nI c) ∧ (s_k x = 3 ∨ s_k x = 4 ∨ s_k x = 5 → ∃ c : Nat, c < 3 ∧ s_t x = nI c) ∧ (s_p x).length ≤ 40
theorem tr_tq {x : st_T} (h : tr_ x) : tq_ x := ⟨h.1, h.2.1, h.2.2.1, h.2.2.2.1, h.2.2.2.2.2.2⟩
