/-! Replaying in the trial: what it needs of the history, and how the pool changes. -/
theorem il_len (hs : Nat → st_T) (ac : Nat → Bool) : ∀ k, (il_ hs ac k).length ≤ k := by
  intro k
  induction k with
  | zero => exact Nat.le_refl _
  | succ k ih =>
    rw [il_s]
    by_cases h : (ac k && im_ (hs k) (rp_ hs ac k)) = true
    · rw [if_pos h, List.length_append, List.length_singleton]; omega
    · rw [if_neg h]; omega
def rn_ (f : Nat → Int32) (l : List Nat) : Prop := ∀ i, i < l.length → f i = nI (l.getD i 0)
theorem rn_snoc {f : Nat → Int32} {l : List Nat} (h : rn_ f l) (k : Nat) : rn_ (upd f l.length (nI k)) (l ++ [k]) := by
  intro i hi
  rw [List.length_append, List.length_singleton] at hi
  by_cases h1 : i = l.length
  · rw [h1, pk_us, List.getD_eq_getElem?_getD, List.getElem?_append_right (Nat.le_refl _)]
    simp
  · rw [pk_un h1, h i (by omega), List.getD_eq_getElem?_getD, List.getD_eq_getElem?_getD, List.getElem?_append_left (by omega)]
theorem ca_rp {hs : Nat → st_T} {n la : Nat} (hh : hi_ hs n la) (ac : Nat → Bool) {i : Nat} (hi : i < n) : ca_ (hs i) (rp_ hs ac i) := by
  have hmb := rp_mb hh ac (Nat.le_of_lt hi)
  have hkd : ∀ j, j < i → kd_ (hs j) := fun j hj => (hh.2.2.1 j (by omega)).1.1
  have h200 := hh.1
  refine ⟨fun hk => ?_, fun hk => ⟨?_, fun y hy => ?_⟩⟩
  · obtain ⟨c, hc, hct⟩ := (hh.2.2.1 i hi).1.2.2.2.1 (Or.inl hk)
    have hr : s_r (hs i) = c := by unfold s_r; rw [hct]; exact nI_clamp (by omega)
    have hm : ∀ r, r < 3 → ic_ hs r (i + 1) ≤ 40 := fun r hr => Nat.le_trans (ic_mono hs r hi) (hh.2.2.2.2.2 r hr)
    have e : ∀ r, ic_ hs r (i + 1) = ic_ hs r i + (if s_k (hs i) = 3 ∧ s_r (hs i) = r then 1 else 0) := fun r => ic_s hs r i
    have hself := e c
    rw [if_pos ⟨hk, hr⟩] at hself
    refine ⟨?_, ?_, (hh.2.2.1 i hi).2.1, fun y hy => ?_⟩
    · have := hmb.1 (s_r (hs i))
      rw [hr] at this ⊢
      have := hm c hc
      omega
    · have := hmb.2.1
      have m0 := hm 0 (by omega)
      have m1 := hm 1 (by omega)
      have m2 := hm 2 (by omega)
      have l0 := ic_mono hs 0 (Nat.le_add_right i 1)
      have l1 := ic_mono hs 1 (Nat.le_add_right i 1)
      have l2 := ic_mono hs 2 (Nat.le_add_right i 1)
      rcases (show c = 0 ∨ c = 1 ∨ c = 2 by omega) with rfl | rfl | rfl <;> omega
    · obtain ⟨j, hj, -, rfl⟩ := (el_mem hkd).mp hy
      exact hh.2.2.2.1 j i (dn_s.mp hj).1 hi
  · have := hmb.2.2.1
    omega
  · obtain ⟨j, hj, -, rfl⟩ := (nd_mem hkd).mp hy
    exact hh.2.2.2.1 j i (dn_s.mp hj).1 hi
theorem set_pool {A : Nat → Prop} {w1 w2 w3 : va_W} {L : List Nat} {f : Nat → va_E} {a k : Nat} {e0 : va_E} (e : va_E) (hD : va_D A (w1 ++ (w2 ++ (w3 ++ va_pl L f)))) (ha : a ∈ L) (hf : f a = e0) (hk : (w1 ++ (w2 ++ (w3 ++ va_pl L f)))[k]? = some (a, e0)) : (w1 ++ (w2 ++ (w3 ++ va_pl L f))).set k (a, e) = w1 ++ (w2 ++ (w3 ++ va_pl L (va_up f a e))) := by
  have ea : ∀ g, w1 ++ (w2 ++ (w3 ++ va_pl L g)) = (w1 ++ (w2 ++ w3)) ++ va_pl L g := fun g => by simp [List.append_assoc]
  rw [ea f] at hD hk ⊢
  rw [ea (va_up f a e)]
  exact va_pl_set hD ha (by rw [hf]; exact hk)
theorem ui_flag {cA : Nat → ClassId} {hs : Nat → st_T} {ac : Nat → Bool} {n la : Nat} {sa : Nat → Option Nat} {L : List Nat} {f : Nat → va_E} (hh : hi_ hs n la) (h : ui_ cA hs ac n sa L f) {i a p : Nat} (hi : i < n) (h1 : sa i = some a) (h3 : f a = cS (hs i) p (ac i)) (b : Bool) : ui_ cA hs (va_up ac i b) n sa L (va_up f a (cS (hs i) p b)) := by
  intro j hj
  obtain ⟨a2, p2, g1, g2, g3, g4⟩ := h j hj
  have hpne : s_k (hs j) = 3 ∨ s_k (hs j) = 5 → p2 ≠ a := by
    intro hk he
    obtain ⟨g, -, k2, -⟩ := g4 hk
    rw [he, h3] at k2
    cases k2
  by_cases hij : j = i
  · subst hij
    have : a2 = a := Option.some.inj (g1.symm.trans h1)
    subst this
    have hp : p2 = p := by
      have h9 := g3.symm.trans h3
      unfold cS at h9
      simp at h9
      exact h9
    subst hp
    rw [vu_eq]
    refine ⟨a2, p2, g1, g2, vu_eq, fun hk => ?_⟩
    obtain ⟨g, k1, k2, k3⟩ := g4 hk
    exact ⟨g, k1, by rw [vu_ne (hpne hk)]; exact k2, k3⟩
  · rw [vu_ne hij]
    have hne : a2 ≠ a := by
      intro he
      rw [he, h3] at g3
      unfold cS at g3
      simp at g3
      exact hij (nu_inj hh hj hi g3.1.symm)
    refine ⟨a2, p2, g1, g2, by rw [vu_ne hne]; exact g3, fun hk => ?_⟩
    obtain ⟨g, k1, k2, k3⟩ := g4 hk
    exact ⟨g, k1, by rw [vu_ne (hpne hk)]; exact k2, k3⟩
/-- some steps undone -/
def off_ (ac : Nat → Bool) (l : List Nat) : Nat → Bool := fun j => ac j && !decide (j ∈ l)
theorem off_snoc (ac : Nat → Bool) (l : List Nat) (k : Nat) : va_up (off_ ac l) k false = off_ ac (l ++ [k]) := by
  funext j
  unfold off_
  by_cases h : j = k
  · subst h
    rw [vu_eq]
    simp
  · rw [vu_ne h]
    simp [h]
theorem off_nil (ac : Nat → Bool) : off_ ac [] = ac := by
  funext j
  unfold off_
  simp
theorem rp_offl {hs : Nat → st_T} {ac : Nat → Bool} {n : Nat} : rp_ hs (off_ ac (il_ hs ac n)) n = rp_ hs ac n := by
  refine rp_off (n := n) (fun j _ h => ?_) (fun j hj ha ho => ?_) (Nat.le_refl n)
  · unfold off_ at h
    simp at h
    exact h.1
  · unfold off_ at ho
    rw [ha] at ho
    simp at ho
    exact (il_mem.mp ho).2.2
theorem il_offl {hs : Nat → st_T} {ac : Nat → Bool} {n : Nat} : il_ hs (off_ ac (il_ hs ac n)) n = [] := by
  rw [il_off (ac := ac) (n := n) (fun j _ h => ?_) (fun j hj ha ho => ?_) (Nat.le_refl n)]
  · rw [List.filter_eq_nil_iff]
    intro j hj
    unfold off_
    simp [hj]
  · unfold off_ at h
    simp at h
    exact h.1
  · unfold off_ at ho
    rw [ha] at ho
    simp at ho
    exact (il_mem.mp ho).2.2
