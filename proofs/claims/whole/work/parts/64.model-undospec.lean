/-! The reference's undo: what its loop leaves. -/
theorem il_nd (hs : Nat → st_T) (ac : Nat → Bool) : ∀ k, (il_ hs ac k).Nodup := by
  intro k
  induction k with
  | zero => exact List.nodup_nil
  | succ k ih =>
    rw [il_s]
    by_cases hc : (ac k && im_ (hs k) (rp_ hs ac k)) = true
    · rw [if_pos hc, List.nodup_append]
      refine ⟨ih, List.nodup_cons.mpr ⟨List.not_mem_nil, List.nodup_nil⟩, fun a ha b hb => ?_⟩
      rw [List.mem_singleton.mp hb]
      have := il_lt ha
      omega
    · rw [if_neg hc]; exact ih
theorem il_take {hs : Nat → st_T} {ac : Nat → Bool} {n : Nat} (i : Nat) : il_ hs (off_ ac ((il_ hs ac n).take i)) n = (il_ hs ac n).drop i := by
  rw [il_off (ac := ac) (n := n) (fun j _ h => ?_) (fun j hj ha ho => ?_) (Nat.le_refl n)]
  · have hnd := il_nd hs ac n
    have hac : ∀ j, j ∈ il_ hs ac n → ac j = true := fun j hj => (il_mem.mp hj).2.1
    generalize il_ hs ac n = l at hnd hac
    have e : l = l.take i ++ l.drop i := (List.take_append_drop i l).symm
    have hnd2 := hnd
    rw [e, List.nodup_append] at hnd2
    have h1 : (l.take i).filter (fun j => off_ ac (l.take i) j) = [] := by
      rw [List.filter_eq_nil_iff]
      intro j hj h9
      unfold off_ at h9
      simp [hj] at h9
    have h2 : (l.drop i).filter (fun j => off_ ac (l.take i) j) = l.drop i := by
      rw [List.filter_eq_self]
      intro j hj
      have hn : j ∉ l.take i := fun h => hnd2.2.2 j h j hj rfl
      unfold off_
      rw [hac j (List.mem_of_mem_drop hj), decide_eq_false hn]
      rfl
    have h3 : l.filter (fun j => off_ ac (l.take i) j) = (l.take i ++ l.drop i).filter (fun j => off_ ac (l.take i) j) := by rw [← e]
    rw [h3, List.filter_append, h1, h2]
    rfl
  · unfold off_ at h
    simp at h
    exact h.1
  · have hm : j ∈ (il_ hs ac n).take i := by
      unfold off_ at ho
      rw [ha] at ho
      simpa using ho
    exact (il_mem.mp (List.mem_of_mem_take hm)).2.2
theorem bo_at {l : List Nat} (h : ¬ l = []) : bo_ l = nI (l.getD 0 0) := by
  cases l with
  | nil => exact absurd rfl h
  | cons a t => rfl
theorem dr_at {l : List Nat} {i : Nat} (h : i < l.length) : bo_ (l.drop i) = nI (l.getD i 0) ∧ l.take (i + 1) = l.take i ++ [l.getD i 0] ∧ l.getD i 0 ∈ l := by
  have e : l.getD i 0 = l[i] := by rw [List.getD_eq_getElem?_getD, List.getElem?_eq_getElem h]; rfl
  refine ⟨?_, ?_, ?_⟩
  · rw [List.drop_eq_getElem_cons h, e]; rfl
  · rw [e, List.take_succ_eq_append_getElem h]
  · rw [e]; exact List.getElem_mem h
theorem mh_flag {hs : Nat → st_T} {ac : Nat → Bool} {n : Nat} {nu ki th ot : Nat → Int32} {vs : Nat → Int64} {av pl ps : Nat → Int32} (h : mh_ hs ac n nu ki th ot vs av pl ps) (k : Nat) (b : Bool) {v : Int32} (hv : v = b2_ b) : mh_ hs (va_up ac k b) n nu ki th ot vs (upd av k v) pl ps := by
  intro i hi
  obtain ⟨h1, h2, h3, h4, h5, h6, h7⟩ := h i hi
  refine ⟨h1, h2, h3, h4, h5, ?_, h7⟩
  by_cases he : i = k
  · rw [he, vu_eq, pk_us, hv]
  · rw [vu_ne he, pk_un he]; exact h6
theorem ac_off {ac : Nat → Bool} {k n : Nat} (hk : k < n) (hn : n ≤ 200) : ∀ t, t < n → va_up ac k false t = (ac t && !decide (nI t = nI k)) := by
  intro t ht
  by_cases he : t = k
  · rw [he, vu_eq, decide_eq_true rfl]; simp
  · rw [vu_ne he, decide_eq_false (fun h => he ((nI_eq (by omega) (by omega)).mp h))]; simp
theorem ac_all {ac : Nat → Bool} {n : Nat} (hn : n ≤ 200) : ∀ t, t < n → ac t = (ac t && !decide (nI t = -1)) := by
  intro t ht
  rw [decide_eq_false (show ¬ nI t = -1 from ov_ne (i := t) (by omega))]; simp
theorem re_same (a : ab_T) (x : Int32) : ∃ ac2, (sp_redo a x).2 = (a.1, ac2, a.2.2.1, a.2.2.2.1, a.2.2.2.2) := by
  cases h : fn_ a.1 a.2.2.1 x with
  | none => rw [re_none h]; exact ⟨a.2.1, rfl⟩
  | some k =>
    rw [re_some h]
    by_cases h1 : a.2.1 k = true
    · rw [if_pos h1]; exact ⟨a.2.1, rfl⟩
    · rw [if_neg h1]
      by_cases h2 : il_ a.1 (va_up a.2.1 k true) a.2.2.1 = []
      · rw [if_pos h2]; exact ⟨va_up a.2.1 k true, rfl⟩
      · rw [if_neg h2]; exact ⟨a.2.1, rfl⟩
