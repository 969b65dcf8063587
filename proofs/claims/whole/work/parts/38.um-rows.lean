/-! No element stands twice in a row. -/
theorem pm_ins {α : Type} : ∀ {l : List α} {i : Nat} {x : α}, i ≤ l.length → (l.insertIdx i x).Perm (x :: l) := by
  intro l
  induction l with
  | nil =>
    intro i x h
    rw [Nat.le_zero.mp h]
    exact List.Perm.refl _
  | cons a t ih =>
    intro i x h
    cases i with
    | zero => exact List.Perm.refl _
    | succ i => exact ((ih (Nat.le_of_succ_le_succ h)).cons a).trans (List.Perm.swap _ _ _)
theorem nd_ins {L P : List Int32} {e : Int32} (hn : L.Nodup) (he : e ∉ L) : (ins_ L P e).Nodup := by
  unfold ins_
  exact (pm_ins (be_le L P)).nodup_iff.mpr (List.nodup_cons.mpr ⟨he, hn⟩)
theorem nd_del {L : List Int32} {e : Int32} (hn : L.Nodup) : (del_ L e).Nodup := by
  unfold del_
  cases hi : ix_ L e with
  | none => exact hn
  | some i => exact (List.eraseIdx_sublist L i).nodup hn
theorem del_out {L : List Int32} {e : Int32} (hn : L.Nodup) : e ∉ del_ L e := by
  unfold del_
  cases hi : ix_ L e with
  | none => exact ix_non.mp hi
  | some i =>
    have hp := pm_at (ix_at hi)
    have := (hp.nodup_iff.mp hn)
    exact (List.nodup_cons.mp this).1
theorem rp_nd {hs : Nat → st_T} {n la : Nat} (hh : hi_ hs n la) (ac : Nat → Bool) : ∀ {k : Nat}, k ≤ n → ∀ r, (m_r (rp_ hs ac k) r).Nodup := by
  intro k
  induction k with
  | zero => intro _ r; exact List.nodup_nil
  | succ k ih =>
    intro hk r
    have hr := ih (Nat.le_of_succ_le hk)
    by_cases hc : ac k = true ∧ im_ (hs k) (rp_ hs ac k) = false
    · rw [rp_on hc.1 hc.2]
      have hmb := rp_mb hh ac (Nat.le_of_succ_le hk)
      have hkd : ∀ j, j < k → kd_ (hs j) := fun j hj => (hh.2.2.1 j (by omega)).1.1
      rcases (hh.2.2.1 k hk).1.1 with h | h | h | h | h | h | h | h
      · rw [pf_1 _ h]; exact hr r
      · rw [pf_2 _ h]; exact hr r
      · rw [pf_3 _ h]
        show (va_up (m_r (rp_ hs ac k)) (s_r (hs k)) _ r).Nodup
        by_cases he : r = s_r (hs k)
        · subst he
          rw [vu_eq]
          refine nd_ins (hr _) (fun hm => ?_)
          obtain ⟨j, h1, -, h3⟩ := (el_mem hkd).mp (hmb.2.2.2.2.2.1 _ _ hm)
          have hj := (dn_s.mp h1).1
          have := nu_inj hh (by omega) hk h3
          omega
        · rw [vu_ne he]; exact hr r
      · rw [pf_4 _ h]
        show (va_up (m_r (rp_ hs ac k)) (s_r (hs k)) _ r).Nodup
        by_cases he : r = s_r (hs k)
        · subst he
          rw [vu_eq]; exact nd_del (hr _)
        · rw [vu_ne he]; exact hr r
      · rw [pf_5 _ h]
        show (va_up (m_r (rp_ hs ac k)) (s_r (hs k)) _ r).Nodup
        by_cases he : r = s_r (hs k)
        · subst he
          rw [vu_eq]
          by_cases hm : s_m (hs k) ∈ m_r (rp_ hs ac k) (s_r (hs k))
          · rw [if_pos hm]; exact nd_ins (nd_del (hr _)) (del_out (hr _))
          · rw [if_neg hm]; exact hr _
        · rw [vu_ne he]; exact hr r
      · rw [pf_6 _ h]; exact hr r
      · rw [pf_7 _ h]; exact hr r
      · rw [pf_8 _ h]; exact hr r
    · rw [rp_of hc]; exact hr r
theorem fl_all {L : List Int32} {x : Int32} (h : ∀ y, y ∈ L → y ≠ x) : L.filter (fun y => decide (y ≠ x)) = L := List.filter_eq_self.mpr fun y hy => by simpa using h y hy
theorem fl_one : ∀ {L : List Int32} {x : Int32}, L.Nodup → L.length ≤ (L.filter (fun y => decide (y ≠ x))).length + 1 := by
  intro L
  induction L with
  | nil => intro x _; exact Nat.zero_le _
  | cons a t ih =>
    intro x hn
    have hn' := List.nodup_cons.mp hn
    by_cases h : a = x
    · subst h
      rw [List.filter_cons_of_neg (by simp), fl_all (x := a) (fun y hy he => hn'.1 (he ▸ hy))]
      exact Nat.le_refl _
    · rw [List.filter_cons_of_pos (by simpa using h), List.length_cons, List.length_cons]
      have := ih (x := x) hn'.2
      omega
theorem pm_pl {α : Type} (M U X : List α) (c : α) : ((M ++ [c]) ++ (U ++ X)).Perm ((U ++ (M ++ X)) ++ [c]) := by
  rw [List.append_assoc M]
  refine (List.Perm.append_left M List.perm_append_comm).trans ?_
  rw [← List.append_assoc M]
  exact List.Perm.append_right [c] (pc_ca M U X)
