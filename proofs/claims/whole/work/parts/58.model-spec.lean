/-! The reference's whole state, and what its calls leave. -/
abbrev mc_T : Type := (Nat → Int32) × (Nat → Int32) × (Nat → Int32) × (Nat → Int32) × (Nat → Int64) × (Nat → Int32) × (Nat → Int32) × (Nat → Int32) × (Nat → Int32) × Int32 × Int32 × mt_T
def wY (cA : Nat → ClassId) (am : Nat → Nat) (a : ab_T) (u : mc_T) : va_W := wM cA am (nI a.2.2.1) (nI a.2.2.2.1) u.1 u.2.1 u.2.2.1 u.2.2.2.1 u.2.2.2.2.1 u.2.2.2.2.2.1 u.2.2.2.2.2.2.1 u.2.2.2.2.2.2.2.1 (nI a.2.2.2.2.length) u.2.2.2.2.2.2.2.2.1 u.2.2.2.2.2.2.2.2.2.1 u.2.2.2.2.2.2.2.2.2.2.1 u.2.2.2.2.2.2.2.2.2.2.2.1 u.2.2.2.2.2.2.2.2.2.2.2.2.1 u.2.2.2.2.2.2.2.2.2.2.2.2.2.1 u.2.2.2.2.2.2.2.2.2.2.2.2.2.2.1 u.2.2.2.2.2.2.2.2.2.2.2.2.2.2.2.1 u.2.2.2.2.2.2.2.2.2.2.2.2.2.2.2.2
def mI_ (a : ab_T) (u : mc_T) : Prop := mh_ a.1 a.2.1 a.2.2.1 u.1 u.2.1 u.2.2.1 u.2.2.2.1 u.2.2.2.2.1 u.2.2.2.2.2.1 u.2.2.2.2.2.2.1 u.2.2.2.2.2.2.2.1 ∧ rl_ u.2.2.2.2.2.2.2.2.1 a.2.2.2.2 ∧ (u.2.2.2.2.2.2.2.2.2.1 = 0 ∨ (u.2.2.2.2.2.2.2.2.2.1 = 1 ∧ mq_ a.1 a.2.1 a.2.2.1 a.2.2.1 (rp_ a.1 a.2.1 a.2.2.1) u.2.2.2.2.2.2.2.2.2.2.2.1 u.2.2.2.2.2.2.2.2.2.2.2.2.1 u.2.2.2.2.2.2.2.2.2.2.2.2.2.1 u.2.2.2.2.2.2.2.2.2.2.2.2.2.2.1 u.2.2.2.2.2.2.2.2.2.2.2.2.2.2.2.1 u.2.2.2.2.2.2.2.2.2.2.2.2.2.2.2.2))
theorem nI_lei {a b : Nat} (ha : a < 100000) (hb : b < 100000) : nI a ≤ nI b ↔ a ≤ b := by
  rw [Int32.le_iff_toInt_le, nI_t ha, nI_t hb]
  omega
theorem nI_lti {a b : Nat} (ha : a < 100000) (hb : b < 100000) : nI a < nI b ↔ a < b := by
  rw [Int32.lt_iff_toInt_lt, nI_t ha, nI_t hb]
  omega
theorem inx_1 {x : Int32} {k : Nat} (h : x < 0) : inx_ x k = false := by
  rw [Int32.lt_iff_toInt_lt] at h
  have : (0 : Int32).toInt = 0 := by decide
  unfold inx_; simp; omega
theorem inx_2 {x : Int32} {k : Nat} (hk : k < 100000) (h : nI k ≤ x) : inx_ x k = false := by
  rw [Int32.le_iff_toInt_le, nI_t hk] at h
  unfold inx_; simp; omega
theorem inx_3 {x : Int32} {k : Nat} (hk : k < 100000) (h0 : ¬ x < 0) (h : ¬ nI k ≤ x) : inx_ x k = true := by
  rw [Int32.lt_iff_toInt_lt] at h0
  rw [Int32.le_iff_toInt_le, nI_t hk] at h
  have : (0 : Int32).toInt = 0 := by decide
  unfold inx_; simp; omega
theorem inx_4 {x : Int32} {k : Nat} (hk : k < 100000) (h : nI k < x) : inx_ x (k + 1) = false := by
  rw [Int32.lt_iff_toInt_lt, nI_t hk] at h
  unfold inx_; simp; omega
theorem inx_5 {x : Int32} {k : Nat} (hk : k < 100000) (h0 : ¬ x < 0) (h : ¬ nI k < x) : inx_ x (k + 1) = true := by
  rw [Int32.lt_iff_toInt_lt] at h0
  rw [Int32.lt_iff_toInt_lt, nI_t hk] at h
  have : (0 : Int32).toInt = 0 := by decide
  unfold inx_; simp; omega
theorem inx_6 {x : Int32} {k : Nat} (hk : k < 100000) (h : ¬ x < nI k) : inx_ x k = false := inx_2 hk (by rw [Int32.lt_iff_toInt_lt] at h; rw [Int32.le_iff_toInt_le]; omega)
theorem inx_7 {x : Int32} {k : Nat} (hk : k < 100000) (h0 : ¬ x < 0) (h : x < nI k) : inx_ x k = true := inx_3 hk h0 (by rw [Int32.lt_iff_toInt_lt] at h; rw [Int32.le_iff_toInt_le]; omega)
theorem inx_8 {x : Int32} {k : Nat} (hk : k < 100000) (h : ¬ x ≤ nI k) : inx_ x (k + 1) = false := inx_4 hk (by rw [Int32.le_iff_toInt_le] at h; rw [Int32.lt_iff_toInt_lt]; omega)
theorem inx_9 {x : Int32} {k : Nat} (hk : k < 100000) (h0 : ¬ x < 0) (h : x ≤ nI k) : inx_ x (k + 1) = true := inx_5 hk h0 (by rw [Int32.le_iff_toInt_le] at h; rw [Int32.lt_iff_toInt_lt]; omega)
theorem mh_pl {hs : Nat → st_T} {ac : Nat → Bool} {n : Nat} {nu ki th ot : Nat → Int32} {vs : Nat → Int64} {av pl ps : Nat → Int32} {pl2 ps2 : Nat → Int32} (h : mh_ hs ac n nu ki th ot vs av pl ps) (h40 : ∀ i, i < n → (s_p (hs i)).length ≤ 40) (hpl : ∀ t, t < 40 * n → pl2 t = pl t) (hps : ∀ i, i < n → ps2 i = ps i) : mh_ hs ac n nu ki th ot vs av pl2 ps2 := by
  intro i hi
  obtain ⟨h1, h2, h3, h4, h5, h6, h7⟩ := h i hi
  refine ⟨h1, h2, h3, h4, h5, h6, fun hk => ?_⟩
  obtain ⟨g1, g2⟩ := h7 hk
  refine ⟨by rw [hps i hi]; exact g1, fun j hj => ?_⟩
  have := h40 i hi
  show _ = some (pl2 (40 * i + j))
  rw [hpl _ (by omega)]
  exact g2 j hj
theorem mh_put {hs : Nat → st_T} {ac : Nat → Bool} {n : Nat} {nu ki th ot : Nat → Int32} {vs : Nat → Int64} {av pl ps : Nat → Int32} (h : mh_ hs ac n nu ki th ot vs av pl ps) {x : st_T} (hp : s_k x = 3 ∨ s_k x = 5 → ps n = nI (s_p x).length ∧ rl_ (fun j => pl (40 * n + j)) (s_p x)) : mh_ (va_up hs n x) (va_up ac n true) (n + 1) (upd nu n (s_n x)) (upd ki n (s_k x)) (upd th n (s_t x)) (upd ot n (s_m x)) (vp_updL vs n (s_a x)) (upd av n 1) pl ps := by
  intro i hi
  by_cases he : i = n
  · subst he
    rw [vu_eq, vu_eq, pk_us, pk_us, pk_us, pk_us, pk_uLs, pk_us]
    exact ⟨rfl, rfl, rfl, rfl, rfl, rfl, hp⟩
  · rw [vu_ne he, vu_ne he, pk_un he, pk_un he, pk_un he, pk_un he, pk_uLn he, pk_un he]
    exact h i (by omega)
theorem mput {hs : Nat → st_T} {ac : Nat → Bool} {n : Nat} {la : Nat} {T : List Int32} {nu ki th ot : Nat → Int32} {vs : Nat → Int64} {av pl ps : Nat → Int32} {ts : Nat → Int32} {bk : Int32} {ce : Nat → Int32} {co : Nat → Int64} {ro le dn un : Nat → Int32} (h : mh_ hs ac n nu ki th ot vs av pl ps) (hT : rl_ ts T) {x : st_T} (hx : s_n x = nI (la + 1)) (him : im_ x (rp_ hs ac n) = false) (hp : s_k x = 3 ∨ s_k x = 5 → ps n = nI (s_p x).length ∧ rl_ (fun j => pl (40 * n + j)) (s_p x)) : put_ (hs, ac, n, la, T) x = (nI (la + 1), (va_up hs n x, va_up ac n true, n + 1, la + 1, T)) ∧ mI_ (va_up hs n x, va_up ac n true, n + 1, la + 1, T) (upd nu n (nI (la + 1)), upd ki n (s_k x), upd th n (s_t x), upd ot n (s_m x), vp_updL vs n (s_a x), upd av n 1, pl, ps, ts, 0, bk, ce, co, ro, le, dn, un) := by
  refine ⟨?_, ?_, hT, Or.inl rfl⟩
  · unfold put_
    exact if_neg (by change ¬ im_ x (rp_ hs ac n) = true; rw [him]; decide)
  · have := mh_put h (x := x) hp
    rw [hx] at this
    exact this
def wl_ (L : List Int32) (wo : Int32) (k : Nat) : Nat := ((L.take k).filter (fun y => decide (y ≠ wo))).length
theorem wl_0 (L : List Int32) (wo : Int32) : wl_ L wo 0 = 0 := by
  unfold wl_
  simp
theorem wl_on {L : List Int32} {wo y : Int32} {k : Nat} (hk : L[k]? = some y) (h : ¬ y = wo) : wl_ L wo (k + 1) = wl_ L wo k + 1 := by
  unfold wl_
  rw [pa_f hk, if_pos h, List.length_append]
  rfl
theorem wl_off {L : List Int32} {wo y : Int32} {k : Nat} (hk : L[k]? = some y) (h : y = wo) : wl_ L wo (k + 1) = wl_ L wo k := by
  unfold wl_
  rw [pa_f hk, if_neg (by simpa using h), List.append_nil]
theorem wl_le (L : List Int32) (wo : Int32) (k : Nat) : wl_ L wo k ≤ L.length := by
  unfold wl_
  refine Nat.le_trans (List.length_filter_le _ _) ?_
  rw [List.length_take]
  omega
theorem pl_lenM (L : List Int32) (at' : Nat) (wo : Int32) : (pl_ L at' wo).length ≤ L.length := by
  unfold pl_
  rw [List.length_reverse, pa_len]
  have := wl_le L wo L.length
  unfold wl_ at this
  omega
theorem rl_snocM {f : Nat → Int32} {B : List Int32} {y : Int32} (h : rl_ f B) (hy : f B.length = y) : rl_ f (B ++ [y]) := by
  intro i hi
  rw [List.length_append, List.length_singleton] at hi
  by_cases he : i = B.length
  · subst he
    rw [List.getElem?_append_right (Nat.le_refl _), Nat.sub_self, hy]
    rfl
  · rw [List.getElem?_append_left (by omega)]
    exact h i (by omega)
theorem rl_cg {f g : Nat → Int32} {B : List Int32} (h : rl_ f B) (hg : ∀ j, j < B.length → g j = f j) : rl_ g B := fun i hi => by rw [hg i hi]; exact h i hi
