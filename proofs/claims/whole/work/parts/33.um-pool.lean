/-! The class's world as a whole: its cells in another order, its pool with one more cell. -/
theorem pc_ca {α : Type} (a b c : List α) : (a ++ (b ++ c)).Perm (b ++ (a ++ c)) := by
  rw [← List.append_assoc, ← List.append_assoc]
  exact List.Perm.append_right c List.perm_append_comm
theorem pc_3 {α : Type} (a b c d : List α) : (a ++ (b ++ (c ++ d))).Perm (c ++ (a ++ (b ++ d))) :=
  (List.Perm.append_left a (pc_ca b c d)).trans (pc_ca a c (b ++ d))
theorem pl_push {A : Nat → Prop} {w1 w2 w3 : va_W} {L : List Nat} {f : Nat → va_E} {q : Nat} {e : va_E} (hD : va_D A ((w1 ++ (w2 ++ (w3 ++ va_pl L f))) ++ [(q, e)])) : q ∉ L ∧ (w1 ++ (w2 ++ (w3 ++ va_pl L f))) ++ [(q, e)] = w1 ++ (w2 ++ (w3 ++ va_pl (L ++ [q]) (va_up f q e))) := by
  have hq : q ∉ L := by
    intro h
    refine wd_ne hD (p := (q, f q)) (q := (q, e)) ?_ List.mem_cons_self rfl
    exact List.mem_append_right _ (List.mem_append_right _ (List.mem_append_right _ (List.mem_map.mpr ⟨q, h, rfl⟩)))
  refine ⟨hq, ?_⟩
  rw [List.append_assoc, List.append_assoc, List.append_assoc, va_pl_push hq]
theorem pq_P {D : va_G} {M X : va_W} {L : List Nat} {f : Nat → va_E} {H : Heap} (hP : va_P D cls_ (M ++ (X ++ va_pl L f)) H) (l : List Nat) (hL : ∀ a, a ∈ l → a ∈ L) : va_P D cls_ (M ++ l.map (fun a => (a, f a))) H := by
  refine va_P.app (wp_l hP) (wp_iff.mpr fun q hq => ?_)
  obtain ⟨a, ha, rfl⟩ := List.mem_map.mp hq
  exact wp_iff.mp hP _ (List.mem_append_right _ (List.mem_append_right _ (List.mem_map.mpr ⟨a, hL a ha, rfl⟩)))
theorem pq_D {A : Nat → Prop} {M X : va_W} {L : List Nat} {f : Nat → va_E} (hD : va_D A (M ++ (X ++ va_pl L f))) (l : List Nat) (hn : l.Nodup) (hL : ∀ a, a ∈ l → a ∈ L) : va_D (fun _ => True) (M ++ l.map (fun a => (a, f a))) := by
  refine wd_iff.mpr ⟨?_, fun _ _ => trivial⟩
  rw [List.map_append, List.nodup_append]
  refine ⟨(wd_iff.mp (wd_l hD)).1, ?_, ?_⟩
  · rw [List.map_map]
    have : ((fun q : Nat × va_E => q.1) ∘ fun a => (a, f a)) = id := rfl
    rw [this, List.map_id]
    exact hn
  · intro x hx y hy hxy
    obtain ⟨p, hp, rfl⟩ := List.mem_map.mp hx
    obtain ⟨q, hq, rfl⟩ := List.mem_map.mp hy
    obtain ⟨a, ha, rfl⟩ := List.mem_map.mp hq
    exact wd_ne hD hp (List.mem_append_right _ (List.mem_map.mpr ⟨a, hL a ha, rfl⟩)) hxy
/-- the concrete state: addresses of memory and trial, impossibleCount, steps, impossible, takenAlong, memory, trial, the pool -/
abbrev uc_T : Type := (Nat → Nat) × (Nat → Nat) × Int32 × (Nat → Option Nat) × (Nat → Int32) × (Nat → Int32) × rs_T × rs_T × List Nat × (Nat → va_E)
/-- the history: steps, which are active, how many, the latest number, what was taken along -/
abbrev ab_T : Type := (Nat → st_T) × (Nat → Bool) × Nat × Nat × List Int32
def wX (cA : Nat → ClassId) (au : Nat → Nat) (a : ab_T) (c : uc_T) : va_W :=
  wU cA au (c.1 0) (c.2.1 0) (nI a.2.2.1) (nI a.2.2.2.1) c.2.2.1 (nI a.2.2.2.2.length) c.2.2.2.1 c.2.2.2.2.1 c.2.2.2.2.2.1 ++ (wq_ cA c.1 c.2.2.2.2.2.2.1 ++ (wq_ cA c.2.1 c.2.2.2.2.2.2.2.1 ++ va_pl c.2.2.2.2.2.2.2.2.1 c.2.2.2.2.2.2.2.2.2))
def aI_ (a : ab_T) : Prop := hi_ a.1 a.2.2.1 a.2.2.2.1 ∧ il_ a.1 a.2.1 a.2.2.1 = [] ∧ a.2.2.2.2.length ≤ 200
def uI_ (cA : Nat → ClassId) (a : ab_T) (c : uc_T) : Prop := aI_ a ∧ ui_ cA a.1 a.2.1 a.2.2.1 c.2.2.2.1 c.2.2.2.2.2.2.2.2.1 c.2.2.2.2.2.2.2.2.2 ∧ cq_ (rp_ a.1 a.2.1 a.2.2.1) c.2.2.2.2.2.2.1 ∧ rl_ c.2.2.2.2.2.1 a.2.2.2.2
theorem ui_push {cA : Nat → ClassId} {hs : Nat → st_T} {ac : Nat → Bool} {n : Nat} {sa : Nat → Option Nat} {L : List Nat} {f : Nat → va_E} (h : ui_ cA hs ac n sa L f) {q : Nat} (hq : q ∉ L) (e : va_E) : ui_ cA hs ac n sa (L ++ [q]) (va_up f q e) := by
  intro i hi
  obtain ⟨a, p, h1, h2, h3, h4⟩ := h i hi
  have hne : ∀ b, b ∈ L → b ≠ q := fun b hb he => hq (he ▸ hb)
  refine ⟨a, p, h1, List.mem_append_left _ h2, by rw [vu_ne (hne a h2)]; exact h3, fun hk => ?_⟩
  obtain ⟨g, g1, g2, g3⟩ := h4 hk
  exact ⟨g, List.mem_append_left _ g1, by rw [vu_ne (hne p g1)]; exact g2, g3⟩
theorem ui_new {cA : Nat → ClassId} {hs : Nat → st_T} {ac : Nat → Bool} {n : Nat} {sa : Nat → Option Nat} {L : List Nat} {f : Nat → va_E} (h : ui_ cA hs ac n sa L f) {x : st_T} {q pl : Nat} (hq : q ∈ L) (hf : f q = cS x pl true) (hpl : s_k x = 3 ∨ s_k x = 5 → ∃ g, pl ∈ L ∧ f pl = .inl (cA 0, (s_p x).length, .inl g) ∧ rl_ g (s_p x)) : ui_ cA (va_up hs n x) (va_up ac n true) (n + 1) (va_up sa n (some q)) L f := by
  intro i hi
  by_cases h1 : i = n
  · subst h1
    rw [vu_eq, vu_eq, vu_eq]
    exact ⟨q, pl, rfl, hq, hf, hpl⟩
  · rw [vu_ne h1, vu_ne h1, vu_ne h1]
    exact h i (by omega)
theorem ca_new {hs : Nat → st_T} {ac : Nat → Bool} {n la : Nat} {x : st_T} (hh : hi_ hs n la) (hn : n < 200) (hx : s_n x = nI (la + 1)) (hic : s_k x = 3 → ic_ hs (s_r x) n < 40) (h3 : s_k x = 3 → s_r x < 3) : ca_ x (rp_ hs ac n) := by
  have hmb := rp_mb hh ac (Nat.le_refl n)
  have hkd : ∀ j, j < n → kd_ (hs j) := fun j hj => (hh.2.2.1 j hj).1.1
  have hla := hh.2.1
  have ht : (s_n x).toInt = (la : Int) + 1 := by
    rw [hx, nI_toInt (by omega)]
    omega
  have hlt : ∀ j, j < n → s_n (hs j) < s_n x := fun j hj => by
    rw [Int32.lt_iff_toInt_lt, ht]
    have := (hh.2.2.1 j hj).2.2
    omega
  refine ⟨fun hk => ⟨?_, ?_, ?_, fun y hy => ?_⟩, fun hk => ⟨?_, fun y hy => ?_⟩⟩
  · have := hmb.1 (s_r x)
    have := hic hk
    omega
  · have h0 := hh.2.2.2.2.2 0 (by omega)
    have h1 := hh.2.2.2.2.2 1 (by omega)
    have h2 := hh.2.2.2.2.2 2 (by omega)
    have := hmb.2.1
    have hc := hic hk
    have := h3 hk
    rcases (show s_r x = 0 ∨ s_r x = 1 ∨ s_r x = 2 by omega) with h | h | h <;> rw [h] at hc <;> omega
  · rw [Int32.lt_iff_toInt_lt, ht]
    have : (0 : Int32).toInt = 0 := by decide
    omega
  · obtain ⟨j, hj, -, rfl⟩ := (el_mem hkd).mp hy
    exact hlt j (dn_s.mp hj).1
  · have := hmb.2.2.1
    omega
  · obtain ⟨j, hj, -, rfl⟩ := (nd_mem hkd).mp hy
    exact hlt j (dn_s.mp hj).1
theorem cell_P {D : va_G} {w1 w2 w3 : va_W} {L : List Nat} {f : Nat → va_E} {H : Heap} (hP : va_P D cls_ (w1 ++ (w2 ++ (w3 ++ va_pl L f))) H) {a : Nat} {e : va_E} (ha : a ∈ L) (hf : f a = e) : va_P D cls_ [(a, e)] H := by
  refine wp_iff.mpr fun z hz => ?_
  rw [List.mem_singleton.mp hz, ← hf]
  exact wp_iff.mp hP _ (List.mem_append_right _ (List.mem_append_right _ (List.mem_append_right _ (List.mem_map.mpr ⟨a, ha, rfl⟩))))
theorem cell_in {w1 w2 w3 : va_W} {L : List Nat} {f : Nat → va_E} {a : Nat} {e : va_E} (ha : a ∈ L) (hf : f a = e) : ∃ k : Nat, (w1 ++ (w2 ++ (w3 ++ va_pl L f)))[k]? = some (a, e) := by
  refine List.getElem?_of_mem ?_
  rw [← hf]
  exact List.mem_append_right _ (List.mem_append_right _ (List.mem_append_right _ (List.mem_map.mpr ⟨a, ha, rfl⟩)))
/-- the cells that 'attempt' reads: the step, and its place where it has one -/
theorem wp_mk {D : va_G} {A : Nat → Prop} {cA : Nat → ClassId} {M X : va_W} {L : List Nat} {f : Nat → va_E} {H : Heap} {x : st_T} {q pl : Nat} {b : Bool} (hP : va_P D cls_ (M ++ (X ++ va_pl L f)) H) (hD : va_D A (M ++ (X ++ va_pl L f))) (hq : q ∈ L) (hf : f q = cS x pl b) (hpl : s_k x = 3 ∨ s_k x = 5 → ∃ g, pl ∈ L ∧ f pl = .inl (cA 0, (s_p x).length, .inl g) ∧ rl_ g (s_p x)) :
    ∃ wp : va_W, (s_k x = 3 ∨ s_k x = 5 → ∃ g, wp = [(pl, .inl (cA 0, (s_p x).length, .inl g))] ∧ rl_ g (s_p x)) ∧ va_P D cls_ (M ++ ((q, cS x pl b) :: wp)) H ∧ va_D (fun _ => True) (M ++ ((q, cS x pl b) :: wp)) := by
  by_cases hk : s_k x = 3 ∨ s_k x = 5
  · obtain ⟨g, g1, g2, g3⟩ := hpl hk
    have hne : q ≠ pl := by
      intro h
      rw [← h, hf] at g2
      cases g2
    have e : [q, pl].map (fun a => (a, f a)) = (q, cS x pl b) :: [(pl, .inl (cA 0, (s_p x).length, .inl g))] := by
      show [(q, f q), (pl, f pl)] = _
      rw [hf, g2]
    have hL : ∀ a, a ∈ [q, pl] → a ∈ L := by
      intro a ha
      rcases List.mem_cons.mp ha with rfl | ha
      · exact hq
      · rw [List.mem_singleton.mp ha]; exact g1
    refine ⟨[(pl, .inl (cA 0, (s_p x).length, .inl g))], fun _ => ⟨g, rfl, g3⟩, ?_, ?_⟩
    · rw [← e]; exact pq_P hP _ hL
    · rw [← e]; exact pq_D hD _ (List.nodup_cons.mpr ⟨by simpa using hne, List.nodup_cons.mpr ⟨by simp, List.nodup_nil⟩⟩) hL
  · have e : [q].map (fun a => (a, f a)) = [(q, cS x pl b)] := by
      show [(q, f q)] = _
      rw [hf]
    have hL : ∀ a, a ∈ [q] → a ∈ L := fun a ha => by rw [List.mem_singleton.mp ha]; exact hq
    refine ⟨[], fun h => absurd h hk, ?_, ?_⟩
    · rw [← e]; exact pq_P hP _ hL
    · rw [← e]; exact pq_D hD _ (List.nodup_cons.mpr ⟨by simp, List.nodup_nil⟩) hL
def mk_ (b : Bool) (n : Nat) : Nat := if b = true then n else n + 1
theorem wp_mk2 {D : va_G} {A : Nat → Prop} {cA : Nat → ClassId} {M U T : va_W} {L : List Nat} {f : Nat → va_E} {H : Heap} {x : st_T} {q pl : Nat} {b : Bool} (hP : va_P D cls_ (M ++ (U ++ (T ++ va_pl L f))) H) (hD : va_D A (M ++ (U ++ (T ++ va_pl L f)))) (hq : q ∈ L) (hf : f q = cS x pl b) (hpl : s_k x = 3 ∨ s_k x = 5 → ∃ g, pl ∈ L ∧ f pl = .inl (cA 0, (s_p x).length, .inl g) ∧ rl_ g (s_p x)) :
    ∃ wp : va_W, (s_k x = 3 ∨ s_k x = 5 → ∃ g, wp = [(pl, .inl (cA 0, (s_p x).length, .inl g))] ∧ rl_ g (s_p x)) ∧ va_P D cls_ (M ++ ((q, cS x pl b) :: wp)) H ∧ va_D (fun _ => True) (M ++ ((q, cS x pl b) :: wp)) :=
  wp_mk (X := U ++ T) (by rw [List.append_assoc]; exact hP) (by rw [List.append_assoc]; exact hD) hq hf hpl
