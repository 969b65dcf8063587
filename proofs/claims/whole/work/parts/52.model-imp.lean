/-! The reference: isBelow, isImpossible -/
set_option maxHeartbeats 4000000 in
set_option maxRecDepth 100000 in
theorem m_M_isBelow (l : Launch) (D : va_G) (cA : Nat → ClassId) (am : Nat → Nat) (la : Int32) (nu ki th ot : Nat → Int32) (vs : Nat → Int64) (av pl ps : Nat → Int32) (tz : Int32) (ts : Nat → Int32) (fr bk : Int32) (ce : Nat → Int32) (co : Nat → Int64) (ro le dn un : Nat → Int32) (hs : Nat → st_T) (ac : Nat → Bool) (n : Nat) (lo hi : Int32) (hmh : mh_ hs ac n nu ki th ot vs av pl ps) (hn : n ≤ 200) (i : Nat) (la9 : Nat) (ac2 : Nat → Bool) (hh : hi_ hs n la9) (hin : i ≤ n) (hq : mq_ hs ac2 n i (rp_ hs ac2 i) ce co ro le dn un) (hlo : lo = 0 ∨ lo ∈ m_n (rp_ hs ac2 i)) (hhi : hi ∈ m_n (rp_ hs ac2 i)) : Met l y_M_isBelow (.code y_M_isBelow c_M_isBelow 5 (some .boolean) :: G_) ({ frames := 1, cells := 0, slots := 0, locals := 22 }) (va_Pc [.ref (am 0), .int lo, .int hi] (pr_ D cA (wM cA am (nI n) la nu ki th ot vs av pl ps tz ts fr bk ce co ro le dn un))) (vp_Si (fun r => r = b2_ (bl_ (m_n (rp_ hs ac2 i)) (m_p (rp_ hs ac2 i)) hi ((m_n (rp_ hs ac2 i)).length + 1) lo))) 0 0 (fun _ => False) := by
  refine Met.ofW (cc := c_M_isBelow) (maxL := 5) (ret := (some .boolean)) (by decide) rfl ?_
  intro p e s m args below meth c s₁ B hml hv
  obtain ⟨rfl, hP, hK, hN⟩ := hv
  have hx := B.exec
  have hb := B.bytes
  have hr := B.returns
  have hts := atoms_spec (ws := (.code y_M_isBelow c_M_isBelow 5 (some .boolean) :: G_)) B.pre
  have hg : ∀ w ∈ G_, w.before ([.ref (am 0), .int lo, .int hi] : List Value).toArray s = true := fun w h => hts w (List.mem_cons_of_mem _ h)
  have hown : s.vm.findClass RM = some m.cls := findClass_of_methodNamed B.named
  have hlocks := B.notSynchronized
  have hl := lv_entry ([.ref (am 0), .int lo, .int hi]) (n := 5) (Nat.le_of_ble_eq_true rfl)
  rw [lg_entry_eq]
  generalize (lg_sl ([.ref (am 0), .int lo, .int hi]) ++ List.replicate (5 - (lg_sl ([.ref (am 0), .int lo, .int hi])).length) Slot.unset).toArray = ls at hl ⊢
  have hl : lv_has ls 5 [(0, .ref (am 0)), (1, .int lo), (2, .int hi)] := hl
  have hmb := rp_mb hh ac2 hin
  have hlen := hmb.2.2.1
  have hkd : ∀ j, j < i → kd_ (hs j) := fun j hj => (hh.2.2.1 j (by omega)).1.1
  have hfu := bl_fuel (pa := m_p (rp_ hs ac2 i)) hhi (f := n + 1) (by omega) lo
  have loop : ∀ (d x7 : Nat) (q : Int32) (ls : Array Slot), x7 + d = n + 1 → (q = -1 ∨ q = 0 ∨ q ∈ m_n (rp_ hs ac2 i)) → bl_ (m_n (rp_ hs ac2 i)) (m_p (rp_ hs ac2 i)) hi d q = bl_ (m_n (rp_ hs ac2 i)) (m_p (rp_ hs ac2 i)) hi ((m_n (rp_ hs ac2 i)).length + 1) lo → lv_has ls 5 [(4, .int (nI x7)), (3, .int q), (0, .ref (am 0)), (1, .int lo), (2, .int hi)] → W p l e (headSpec (.code y_M_isBelow c_M_isBelow 5 (some .boolean) :: G_) ({ frames := 1, cells := 0, slots := 0, locals := 22 })).room s m ([.ref (am 0), .int lo, .int hi] : List Value).toArray below meth c s.heap [] 0 0 (MQ below (vp_Si (fun r => r = b2_ (bl_ (m_n (rp_ hs ac2 i)) (m_p (rp_ hs ac2 i)) hi ((m_n (rp_ hs ac2 i)).length + 1) lo))) ([.ref (am 0), .int lo, .int hi] : List Value).toArray s 0 0 (fun _ => False)) (F0 m 5 ls []) := by
    intro d
    induction d with
    | zero =>
      intro x7 q ls hid hqm hbl hl
      have hc2 : x7 = n + 1 := by omega
      subst hc2
      refine lv_iload hx hb d_M_isBelow_5 (lv_at hl 0 rfl) ?_
      refine lv_aload_n hx hb d_M_isBelow_7 rfl (lv_at hl 2 rfl) ?_
      refine va_get (D := D) (ci := 3) (v := .int (nI n)) (C := RM) (T := TM) (N := 20) hx hb hg inM hown hK hP 0 rfl rfl 0 (by decide) (hg _ fl_M_65) (fun _ h9 => h9) rfl d_M_isBelow_8 ?_
      refine lv_icmp_gt (tgt := 42) hx hb d_M_isBelow_11 (by decide) (fun h11 => ?_) (fun h11 => ?_)
      · skip
        refine lv_iconst (v := 0) hx hb d_M_isBelow_42 (by decide) ?_
        exact W.zret hx hb hr rfl (fun t ht hW => ⟨_, rfl, by rw [← hbl]; rfl, ht⟩) (fun q h => absurd h List.not_mem_nil) d_M_isBelow_43
      · skip
        exact absurd (nI_lt (Nat.lt_succ_self _) (by omega)) h11
    | succ d ih =>
      intro x7 q ls hid hqm hbl hl
      rw [bl_s] at hbl
      refine lv_iload hx hb d_M_isBelow_5 (lv_at hl 0 rfl) ?_
      refine lv_aload_n hx hb d_M_isBelow_7 rfl (lv_at hl 2 rfl) ?_
      refine va_get (D := D) (ci := 3) (v := .int (nI n)) (C := RM) (T := TM) (N := 20) hx hb hg inM hown hK hP 0 rfl rfl 0 (by decide) (hg _ fl_M_65) (fun _ h9 => h9) rfl d_M_isBelow_8 ?_
      refine lv_icmp_gt (tgt := 42) hx hb d_M_isBelow_11 (by decide) (fun h11 => ?_) (fun h11 => ?_)
      · skip
        exact absurd h11 (nI_nlt (by omega) (by omega))
      · skip
        refine lv_iload_n hx hb d_M_isBelow_14 rfl (lv_at hl 1 rfl) ?_
        refine lv_if_le (tgt := 42) hx hb d_M_isBelow_15 (by decide) (fun h15 => ?_) (fun h15 => ?_)
        · skip
          have hq0 : ¬ 0 < q := by rw [Int32.le_iff_toInt_le] at h15; rw [Int32.lt_iff_toInt_lt]; omega
          rw [if_neg hq0] at hbl
          refine lv_iconst (v := 0) hx hb d_M_isBelow_42 (by decide) ?_
          exact W.zret hx hb hr rfl (fun t ht hW => ⟨_, rfl, by rw [← hbl]; rfl, ht⟩) (fun q h => absurd h List.not_mem_nil) d_M_isBelow_43
        · skip
          have hq0 : 0 < q := by rw [Int32.le_iff_toInt_le] at h15; rw [Int32.lt_iff_toInt_lt]; omega
          rw [if_pos hq0] at hbl
          have hqn : q ∈ m_n (rp_ hs ac2 i) := by
            rcases hqm with h | h | h
            · rw [h] at hq0; exact absurd hq0 (by decide)
            · rw [h] at hq0; exact absurd hq0 (by decide)
            · exact h
          obtain ⟨j, hj1, hj2, hj3⟩ := (nd_mem hkd).mp hqn
          have hjn : j < n := by have := (dn_s.mp hj1).1; omega
          have hfn : fn_ hs n q = some j := by rw [← hj3]; exact fn_at hh hjn
          have hup : up_ (m_n (rp_ hs ac2 i)) (m_p (rp_ hs ac2 i)) q = un j := by unfold up_; rw [if_pos hqn, hq.2.2.2.2 j hjn hj1 hj2, hj3]
          refine lv_iload_n hx hb d_M_isBelow_18 rfl (lv_at hl 1 rfl) ?_
          refine lv_iload_n hx hb d_M_isBelow_19 rfl (lv_at hl 4 rfl) ?_
          refine lv_icmp_ne (tgt := 25) hx hb d_M_isBelow_20 (by decide) (fun h20 => ?_) (fun h20 => ?_)
          · skip
            rw [if_neg h20] at hbl
            refine lv_aload_n hx hb d_M_isBelow_25 rfl (lv_at hl 2 rfl) ?_
            refine va_get (D := D) (ci := 3) (v := .ref (am 15)) (C := RM) (T := TM) (N := 20) hx hb hg inM hown hK hP 0 rfl rfl 19 (by decide) (hg _ fl_M_62) (fun _ h9 => h9) rfl d_M_isBelow_26 ?_
            refine lv_aload_n hx hb d_M_isBelow_29 rfl (lv_at hl 2 rfl) ?_
            refine lv_iload_n hx hb d_M_isBelow_30 rfl (lv_at hl 1 rfl) ?_
            refine vp_callSi (va_Run.run (va_runV (C := RM) (As := [.int q]) (rest := [.ref (am 15)]) ⟨hx, hb, hml, hown, hg⟩ (m_M_find l D cA am la nu ki th ot vs av pl ps tz ts fr bk ce co ro le dn un hs ac n q hmh hn) (cwV 1 hg (gd_V ml_M_79 im_M_find sl_M_find ini_M cd_M_find) rfl rfl rfl (by decide +kernel) ⟨Nat.le_of_ble_eq_true rfl, Nat.le_of_ble_eq_true rfl⟩) (pv_r (va_recv (q0 := 0) (ci := 3) hK hP rfl rfl) (hP) hK hN) rfl rfl hl.1 rfl (lv_room (Nat.le_of_ble_eq_true rfl)) d_M_isBelow_31 ⟨Nat.zero_le _, Nat.zero_le _⟩)) (fun r31 e31 => ?_)
            subst e31
            refine toi_ (y := nI j) (by rw [hfn]; rfl) ?_
            refine va_iald hx hb hK hP 15 0 rfl rfl (vp_in_nI (n := j) (N := 200) (by omega) (by omega)) d_M_isBelow_34 ?_
            refine toi_ (y := un j) (by rw [nI_clamp (by omega)]) ?_
            refine lv_istore_n (lv' := [(3, .int (un j)), (4, .int (nI x7)), (0, .ref (am 0)), (1, .int lo), (2, .int hi)]) hx hb d_M_isBelow_35 rfl hl (by decide) rfl (fun ls hl => ?_)
            refine lv_iinc (k := 1) (v := nI (x7 + 1)) (lv' := [(4, .int (nI (x7 + 1))), (3, .int (un j)), (0, .ref (am 0)), (1, .int lo), (2, .int hi)]) hx hb d_M_isBelow_36 hl rfl (inc_ _) (by decide) rfl (fun ls hl => ?_)
            refine lv_goto (tgt := 5) hx hb d_M_isBelow_39 (by decide) ?_
            have hl := lv_sub hl [0, 1, 2, 3, 4] (l' := [(4, .int (nI (x7 + 1))), (3, .int (un j)), (0, .ref (am 0)), (1, .int lo), (2, .int hi)]) rfl
            rw [hup] at hbl
            have hpc := hmb.2.2.2.2.2.2 q hqn
            have hun : un j = m_p (rp_ hs ac2 i) q := by rw [hq.2.2.2.2 j hjn hj1 hj2, hj3]
            rw [← hun] at hpc
            exact ih (x7 + 1) (un j) ls (by omega) hpc hbl hl
          · skip
            rw [if_pos h20] at hbl
            refine lv_iconst (v := 1) hx hb d_M_isBelow_23 (by decide) ?_
            exact W.zret hx hb hr rfl (fun t ht hW => ⟨_, rfl, by rw [← hbl]; rfl, ht⟩) (fun q h => absurd h List.not_mem_nil) d_M_isBelow_24
  refine lv_iload_n hx hb d_M_isBelow_0 rfl (lv_at hl 1 rfl) ?_
  refine lv_istore_n (lv' := [(3, .int lo), (0, .ref (am 0)), (1, .int lo), (2, .int hi)]) hx hb d_M_isBelow_1 rfl hl (by decide) rfl (fun ls hl => ?_)
  refine lv_iconst (v := 0) hx hb d_M_isBelow_2 (by decide) ?_
  refine lv_istore (lv' := [(4, .int 0), (3, .int lo), (0, .ref (am 0)), (1, .int lo), (2, .int hi)]) hx hb d_M_isBelow_3 hl (by decide) rfl (fun ls hl => ?_)
  have hl := lv_sub hl [0, 1, 2, 3, 4] (l' := [(4, .int (nI 0)), (3, .int lo), (0, .ref (am 0)), (1, .int lo), (2, .int hi)]) rfl
  exact loop (n + 1) 0 lo ls (by omega) (Or.inr hlo) hfu hl

set_option maxHeartbeats 4000000 in
set_option maxRecDepth 100000 in
theorem m_M_isImpossible (l : Launch) (D : va_G) (cA : Nat → ClassId) (am : Nat → Nat) (la : Int32) (nu ki th ot : Nat → Int32) (vs : Nat → Int64) (av pl ps : Nat → Int32) (tz : Int32) (ts : Nat → Int32) (fr bk : Int32) (ce : Nat → Int32) (co : Nat → Int64) (ro le dn un : Nat → Int32) (hs : Nat → st_T) (ac : Nat → Bool) (n : Nat) (hmh : mh_ hs ac n nu ki th ot vs av pl ps) (hn : n ≤ 200) (i : Nat) (la9 : Nat) (ac2 : Nat → Bool) (hh : hi_ hs n la9) (hin2 : i < n) (hq : mq_ hs ac2 n i (rp_ hs ac2 i) ce co ro le dn un) : Met l y_M_isImpossible (.code y_M_isImpossible c_M_isImpossible 2 (some .boolean) :: G_) ({ frames := 2, cells := 0, slots := 0, locals := 46 }) (va_Pc [.ref (am 0), .int (nI i)] (pr_ D cA (wM cA am (nI n) la nu ki th ot vs av pl ps tz ts fr bk ce co ro le dn un))) (vp_Si (fun r => r = b2_ (im_ (hs i) (rp_ hs ac2 i)))) 0 0 (fun _ => False) := by
  refine Met.ofW (cc := c_M_isImpossible) (maxL := 2) (ret := (some .boolean)) (by decide) rfl ?_
  intro p e s m args below meth c s₁ B hml hv
  obtain ⟨rfl, hP, hK, hN⟩ := hv
  have hx := B.exec
  have hb := B.bytes
  have hr := B.returns
  have hts := atoms_spec (ws := (.code y_M_isImpossible c_M_isImpossible 2 (some .boolean) :: G_)) B.pre
  have hg : ∀ w ∈ G_, w.before ([.ref (am 0), .int (nI i)] : List Value).toArray s = true := fun w h => hts w (List.mem_cons_of_mem _ h)
  have hown : s.vm.findClass RM = some m.cls := findClass_of_methodNamed B.named
  have hlocks := B.notSynchronized
  have hl := lv_entry ([.ref (am 0), .int (nI i)]) (n := 2) (Nat.le_of_ble_eq_true rfl)
  rw [lg_entry_eq]
  generalize (lg_sl ([.ref (am 0), .int (nI i)]) ++ List.replicate (2 - (lg_sl ([.ref (am 0), .int (nI i)])).length) Slot.unset).toArray = ls at hl ⊢
  have hl : lv_has ls 2 [(0, .ref (am 0)), (1, .int (nI i))] := hl
  have hin : i ≤ n := Nat.le_of_lt hin2
  obtain ⟨htr, -, -⟩ := hh.2.2.1 i hin2
  have hrf := hh.2.2.2.2.1 i hin2
  have hmi := hmh i hin2
  refine lv_aload_n hx hb d_M_isImpossible_0 rfl (lv_at hl 0 rfl) ?_
  refine va_get (D := D) (ci := 3) (v := .ref (am 2)) (C := RM) (T := TM) (N := 20) hx hb hg inM hown hK hP 0 rfl rfl 3 (by decide) (hg _ fl_M_13) (fun _ h9 => h9) rfl d_M_isImpossible_1 ?_
  refine lv_iload_n hx hb d_M_isImpossible_4 rfl (lv_at hl 1 rfl) ?_
  refine va_iald hx hb hK hP 2 0 rfl rfl (vp_in_nI (n := i) (N := 200) (by omega) (by omega)) d_M_isImpossible_5 ?_
  refine toi_ (y := ki i) (by rw [nI_clamp (by omega)]) ?_
  refine toi_ (y := s_k (hs i)) hmi.2.1 ?_
  rcases htr.1 with hk | hk | hk | hk | hk | hk | hk | hk
  · skip
    refine toi_ (y := 1) hk ?_
    refine lv_tableOut (tgt := 148) hx hb d_M_isImpossible_6 (by decide) (by decide) ?_
    refine lv_iconst (v := 0) hx hb d_M_isImpossible_148 (by decide) ?_
    exact W.zret hx hb hr rfl (fun t ht hW => ⟨_, rfl, by rw [im_123 (rp_ hs ac2 i) (Or.inl hk)]; rfl, ht⟩) (fun q h => absurd h List.not_mem_nil) d_M_isImpossible_149
  · skip
    refine toi_ (y := 2) hk ?_
    refine lv_tableOut (tgt := 148) hx hb d_M_isImpossible_6 (by decide) (by decide) ?_
    refine lv_iconst (v := 0) hx hb d_M_isImpossible_148 (by decide) ?_
    exact W.zret hx hb hr rfl (fun t ht hW => ⟨_, rfl, by rw [im_123 (rp_ hs ac2 i) (Or.inr (Or.inl hk))]; rfl, ht⟩) (fun q h => absurd h List.not_mem_nil) d_M_isImpossible_149
  · skip
    refine toi_ (y := 3) hk ?_
    refine lv_tableOut (tgt := 148) hx hb d_M_isImpossible_6 (by decide) (by decide) ?_
    refine lv_iconst (v := 0) hx hb d_M_isImpossible_148 (by decide) ?_
    exact W.zret hx hb hr rfl (fun t ht hW => ⟨_, rfl, by rw [im_123 (rp_ hs ac2 i) (Or.inr (Or.inr hk))]; rfl, ht⟩) (fun q h => absurd h List.not_mem_nil) d_M_isImpossible_149
  · skip
    refine toi_ (y := 4) hk ?_
    have h0 : ¬ s_m (hs i) = 0 := fun h => by have h9 := htr.2.2.2.2.1 (Or.inl hk); rw [h] at h9; exact absurd h9 (by decide)
    have hth : th_ hs ac2 n i (s_m (hs i)) = decide (s_m (hs i) ∈ m_e (rp_ hs ac2 i)) := th_inE hh hin (hrf (s_m (hs i), 3) (by unfold rf_; rw [if_pos (Or.inl hk)]; exact List.mem_singleton.mpr rfl)).2
    refine lv_tableIn (off := 34) (tgt := 40) hx hb d_M_isImpossible_6 (by decide) (by decide) rfl (by decide) ?_
    refine lv_aload_n hx hb d_M_isImpossible_40 rfl (lv_at hl 0 rfl) ?_
    refine lv_aload_n hx hb d_M_isImpossible_41 rfl (lv_at hl 0 rfl) ?_
    refine va_get (D := D) (ci := 3) (v := .ref (am 4)) (C := RM) (T := TM) (N := 20) hx hb hg inM hown hK hP 0 rfl rfl 5 (by decide) (hg _ fl_M_19) (fun _ h9 => h9) rfl d_M_isImpossible_42 ?_
    refine lv_iload_n hx hb d_M_isImpossible_45 rfl (lv_at hl 1 rfl) ?_
    refine va_iald hx hb hK hP 4 0 rfl rfl (vp_in_nI (n := i) (N := 200) (by omega) (by omega)) d_M_isImpossible_46 ?_
    refine toi_ (y := ot i) (by rw [nI_clamp (by omega)]) ?_
    refine toi_ (y := s_m (hs i)) (hmi.2.2.2.1) ?_
    refine vp_callSi (va_Run.run (va_runV (C := RM) (As := [.int (s_m (hs i))]) (rest := []) ⟨hx, hb, hml, hown, hg⟩ (m_M_isThere l D cA am la nu ki th ot vs av pl ps tz ts fr bk ce co ro le dn un hs ac n (s_m (hs i)) hmh hn ac2 i (rp_ hs ac2 i) hq) (cwV 1 hg (gd_V ml_M_83 im_M_isThere sl_M_isThere ini_M cd_M_isThere) rfl rfl rfl (by decide +kernel) ⟨Nat.le_of_ble_eq_true rfl, Nat.le_of_ble_eq_true rfl⟩) (pv_r (va_recv (q0 := 0) (ci := 3) hK hP rfl rfl) (hP) hK hN) rfl rfl hl.1 rfl (lv_room (Nat.le_of_ble_eq_true rfl)) d_M_isImpossible_47 ⟨Nat.zero_le _, Nat.zero_le _⟩)) (fun r47 e47 => ?_)
    subst e47
    refine lv_if_ne (tgt := 57) hx hb d_M_isImpossible_50 (by decide) (fun h50 => ?_) (fun h50 => ?_)
    · skip
      have q50 := b2_n.mp h50
      refine lv_iconst (v := 0) hx hb d_M_isImpossible_57 (by decide) ?_
      exact W.zret hx hb hr rfl (fun t ht hW => ⟨_, rfl, by rw [im_45 (rp_ hs ac2 i) (Or.inl hk)]; rw [decide_eq_false h0, hth] at q50; simp at q50; simp [b2_, q50], ht⟩) (fun q h => absurd h List.not_mem_nil) d_M_isImpossible_58
    · skip
      have q50 := b2_0.mp h50
      refine lv_iconst (v := 1) hx hb d_M_isImpossible_53 (by decide) ?_
      refine lv_goto (tgt := 58) hx hb d_M_isImpossible_54 (by decide) ?_
      exact W.zret hx hb hr rfl (fun t ht hW => ⟨_, rfl, by rw [im_45 (rp_ hs ac2 i) (Or.inl hk)]; rw [decide_eq_false h0, hth] at q50; simp at q50; simp [b2_, q50], ht⟩) (fun q h => absurd h List.not_mem_nil) d_M_isImpossible_58
  · skip
    refine toi_ (y := 5) hk ?_
    have h0 : ¬ s_m (hs i) = 0 := fun h => by have h9 := htr.2.2.2.2.1 (Or.inr hk); rw [h] at h9; exact absurd h9 (by decide)
    have hth : th_ hs ac2 n i (s_m (hs i)) = decide (s_m (hs i) ∈ m_e (rp_ hs ac2 i)) := th_inE hh hin (hrf (s_m (hs i), 3) (by unfold rf_; rw [if_pos (Or.inr hk)]; exact List.mem_singleton.mpr rfl)).2
    refine lv_tableIn (off := 34) (tgt := 40) hx hb d_M_isImpossible_6 (by decide) (by decide) rfl (by decide) ?_
    refine lv_aload_n hx hb d_M_isImpossible_40 rfl (lv_at hl 0 rfl) ?_
    refine lv_aload_n hx hb d_M_isImpossible_41 rfl (lv_at hl 0 rfl) ?_
    refine va_get (D := D) (ci := 3) (v := .ref (am 4)) (C := RM) (T := TM) (N := 20) hx hb hg inM hown hK hP 0 rfl rfl 5 (by decide) (hg _ fl_M_19) (fun _ h9 => h9) rfl d_M_isImpossible_42 ?_
    refine lv_iload_n hx hb d_M_isImpossible_45 rfl (lv_at hl 1 rfl) ?_
    refine va_iald hx hb hK hP 4 0 rfl rfl (vp_in_nI (n := i) (N := 200) (by omega) (by omega)) d_M_isImpossible_46 ?_
    refine toi_ (y := ot i) (by rw [nI_clamp (by omega)]) ?_
    refine toi_ (y := s_m (hs i)) (hmi.2.2.2.1) ?_
    refine vp_callSi (va_Run.run (va_runV (C := RM) (As := [.int (s_m (hs i))]) (rest := []) ⟨hx, hb, hml, hown, hg⟩ (m_M_isThere l D cA am la nu ki th ot vs av pl ps tz ts fr bk ce co ro le dn un hs ac n (s_m (hs i)) hmh hn ac2 i (rp_ hs ac2 i) hq) (cwV 1 hg (gd_V ml_M_83 im_M_isThere sl_M_isThere ini_M cd_M_isThere) rfl rfl rfl (by decide +kernel) ⟨Nat.le_of_ble_eq_true rfl, Nat.le_of_ble_eq_true rfl⟩) (pv_r (va_recv (q0 := 0) (ci := 3) hK hP rfl rfl) (hP) hK hN) rfl rfl hl.1 rfl (lv_room (Nat.le_of_ble_eq_true rfl)) d_M_isImpossible_47 ⟨Nat.zero_le _, Nat.zero_le _⟩)) (fun r47 e47 => ?_)
    subst e47
    refine lv_if_ne (tgt := 57) hx hb d_M_isImpossible_50 (by decide) (fun h50 => ?_) (fun h50 => ?_)
    · skip
      have q50 := b2_n.mp h50
      refine lv_iconst (v := 0) hx hb d_M_isImpossible_57 (by decide) ?_
      exact W.zret hx hb hr rfl (fun t ht hW => ⟨_, rfl, by rw [im_45 (rp_ hs ac2 i) (Or.inr hk)]; rw [decide_eq_false h0, hth] at q50; simp at q50; simp [b2_, q50], ht⟩) (fun q h => absurd h List.not_mem_nil) d_M_isImpossible_58
    · skip
      have q50 := b2_0.mp h50
      refine lv_iconst (v := 1) hx hb d_M_isImpossible_53 (by decide) ?_
      refine lv_goto (tgt := 58) hx hb d_M_isImpossible_54 (by decide) ?_
      exact W.zret hx hb hr rfl (fun t ht hW => ⟨_, rfl, by rw [im_45 (rp_ hs ac2 i) (Or.inr hk)]; rw [decide_eq_false h0, hth] at q50; simp at q50; simp [b2_, q50], ht⟩) (fun q h => absurd h List.not_mem_nil) d_M_isImpossible_58
  · skip
    refine toi_ (y := 6) hk ?_
    have hth : th_ hs ac2 n i (s_m (hs i)) = decide (s_m (hs i) ∈ m_n (rp_ hs ac2 i)) := th_inN hh hin (hrf (s_m (hs i), 6) (by unfold rf_; rw [if_neg (by rw [hk]; decide), if_pos hk]; exact List.mem_singleton.mpr rfl)).2
    refine lv_tableIn (off := 53) (tgt := 59) hx hb d_M_isImpossible_6 (by decide) (by decide) rfl (by decide) ?_
    refine lv_aload_n hx hb d_M_isImpossible_59 rfl (lv_at hl 0 rfl) ?_
    refine lv_aload_n hx hb d_M_isImpossible_60 rfl (lv_at hl 0 rfl) ?_
    refine va_get (D := D) (ci := 3) (v := .ref (am 4)) (C := RM) (T := TM) (N := 20) hx hb hg inM hown hK hP 0 rfl rfl 5 (by decide) (hg _ fl_M_19) (fun _ h9 => h9) rfl d_M_isImpossible_61 ?_
    refine lv_iload_n hx hb d_M_isImpossible_64 rfl (lv_at hl 1 rfl) ?_
    refine va_iald hx hb hK hP 4 0 rfl rfl (vp_in_nI (n := i) (N := 200) (by omega) (by omega)) d_M_isImpossible_65 ?_
    refine toi_ (y := ot i) (by rw [nI_clamp (by omega)]) ?_
    refine toi_ (y := s_m (hs i)) (hmi.2.2.2.1) ?_
    refine vp_callSi (va_Run.run (va_runV (C := RM) (As := [.int (s_m (hs i))]) (rest := []) ⟨hx, hb, hml, hown, hg⟩ (m_M_isThere l D cA am la nu ki th ot vs av pl ps tz ts fr bk ce co ro le dn un hs ac n (s_m (hs i)) hmh hn ac2 i (rp_ hs ac2 i) hq) (cwV 1 hg (gd_V ml_M_83 im_M_isThere sl_M_isThere ini_M cd_M_isThere) rfl rfl rfl (by decide +kernel) ⟨Nat.le_of_ble_eq_true rfl, Nat.le_of_ble_eq_true rfl⟩) (pv_r (va_recv (q0 := 0) (ci := 3) hK hP rfl rfl) (hP) hK hN) rfl rfl hl.1 rfl (lv_room (Nat.le_of_ble_eq_true rfl)) d_M_isImpossible_66 ⟨Nat.zero_le _, Nat.zero_le _⟩)) (fun r66 e66 => ?_)
    subst e66
    refine lv_if_ne (tgt := 76) hx hb d_M_isImpossible_69 (by decide) (fun h69 => ?_) (fun h69 => ?_)
    · skip
      have q69 := b2_n.mp h69
      refine lv_iconst (v := 0) hx hb d_M_isImpossible_76 (by decide) ?_
      exact W.zret hx hb hr rfl (fun t ht hW => ⟨_, rfl, by rw [im_6 (rp_ hs ac2 i) hk]; rw [hth] at q69; simp at q69; first | (simp [b2_, q69]; done) | (rcases q69 with h9 | h9 <;> simp [b2_, h9]), ht⟩) (fun q h => absurd h List.not_mem_nil) d_M_isImpossible_77
    · skip
      have q69 := b2_0.mp h69
      refine lv_iconst (v := 1) hx hb d_M_isImpossible_72 (by decide) ?_
      refine lv_goto (tgt := 77) hx hb d_M_isImpossible_73 (by decide) ?_
      exact W.zret hx hb hr rfl (fun t ht hW => ⟨_, rfl, by rw [im_6 (rp_ hs ac2 i) hk]; rw [hth] at q69; simp at q69; first | (simp [b2_, q69]; done) | (rcases q69 with h9 | h9 <;> simp [b2_, h9]), ht⟩) (fun q h => absurd h List.not_mem_nil) d_M_isImpossible_77
  · skip
    refine toi_ (y := 7) hk ?_
    have h0 : ¬ s_t (hs i) = 0 := fun h => by have h9 := htr.2.2.2.2.2.1 (Or.inl hk); rw [h] at h9; exact absurd h9 (by decide)
    have hth : th_ hs ac2 n i (s_t (hs i)) = decide (s_t (hs i) ∈ m_n (rp_ hs ac2 i)) := th_inN hh hin (hrf (s_t (hs i), 6) (by unfold rf_; rw [if_neg (by rw [hk]; decide), if_neg (by rw [hk]; decide), if_pos hk]; exact List.mem_singleton.mpr rfl)).2
    refine lv_tableIn (off := 72) (tgt := 78) hx hb d_M_isImpossible_6 (by decide) (by decide) rfl (by decide) ?_
    refine lv_aload_n hx hb d_M_isImpossible_78 rfl (lv_at hl 0 rfl) ?_
    refine lv_aload_n hx hb d_M_isImpossible_79 rfl (lv_at hl 0 rfl) ?_
    refine va_get (D := D) (ci := 3) (v := .ref (am 3)) (C := RM) (T := TM) (N := 20) hx hb hg inM hown hK hP 0 rfl rfl 4 (by decide) (hg _ fl_M_16) (fun _ h9 => h9) rfl d_M_isImpossible_80 ?_
    refine lv_iload_n hx hb d_M_isImpossible_83 rfl (lv_at hl 1 rfl) ?_
    refine va_iald hx hb hK hP 3 0 rfl rfl (vp_in_nI (n := i) (N := 200) (by omega) (by omega)) d_M_isImpossible_84 ?_
    refine toi_ (y := th i) (by rw [nI_clamp (by omega)]) ?_
    refine toi_ (y := s_t (hs i)) (hmi.2.2.1) ?_
    refine vp_callSi (va_Run.run (va_runV (C := RM) (As := [.int (s_t (hs i))]) (rest := []) ⟨hx, hb, hml, hown, hg⟩ (m_M_isThere l D cA am la nu ki th ot vs av pl ps tz ts fr bk ce co ro le dn un hs ac n (s_t (hs i)) hmh hn ac2 i (rp_ hs ac2 i) hq) (cwV 1 hg (gd_V ml_M_83 im_M_isThere sl_M_isThere ini_M cd_M_isThere) rfl rfl rfl (by decide +kernel) ⟨Nat.le_of_ble_eq_true rfl, Nat.le_of_ble_eq_true rfl⟩) (pv_r (va_recv (q0 := 0) (ci := 3) hK hP rfl rfl) (hP) hK hN) rfl rfl hl.1 rfl (lv_room (Nat.le_of_ble_eq_true rfl)) d_M_isImpossible_85 ⟨Nat.zero_le _, Nat.zero_le _⟩)) (fun r85 e85 => ?_)
    subst e85
    refine lv_if_ne (tgt := 95) hx hb d_M_isImpossible_88 (by decide) (fun h88 => ?_) (fun h88 => ?_)
    · skip
      have q88 := b2_n.mp h88
      refine lv_iconst (v := 0) hx hb d_M_isImpossible_95 (by decide) ?_
      exact W.zret hx hb hr rfl (fun t ht hW => ⟨_, rfl, by rw [im_7 (rp_ hs ac2 i) hk]; rw [decide_eq_false h0, hth] at q88; simp at q88; simp [b2_, q88], ht⟩) (fun q h => absurd h List.not_mem_nil) d_M_isImpossible_96
    · skip
      have q88 := b2_0.mp h88
      refine lv_iconst (v := 1) hx hb d_M_isImpossible_91 (by decide) ?_
      refine lv_goto (tgt := 96) hx hb d_M_isImpossible_92 (by decide) ?_
      exact W.zret hx hb hr rfl (fun t ht hW => ⟨_, rfl, by rw [im_7 (rp_ hs ac2 i) hk]; rw [decide_eq_false h0, hth] at q88; simp at q88; simp [b2_, q88], ht⟩) (fun q h => absurd h List.not_mem_nil) d_M_isImpossible_96
  · skip
    refine toi_ (y := 8) hk ?_
    have h0 : ¬ s_t (hs i) = 0 := fun h => by have h9 := htr.2.2.2.2.2.1 (Or.inr hk); rw [h] at h9; exact absurd h9 (by decide)
    have hth : th_ hs ac2 n i (s_t (hs i)) = decide (s_t (hs i) ∈ m_n (rp_ hs ac2 i)) := th_inN hh hin (hrf (s_t (hs i), 6) (by unfold rf_; rw [if_neg (by rw [hk]; decide), if_neg (by rw [hk]; decide), if_neg (by rw [hk]; decide), if_pos hk]; exact List.mem_cons_self)).2
    have hth2 : th_ hs ac2 n i (s_m (hs i)) = decide (s_m (hs i) ∈ m_n (rp_ hs ac2 i)) := th_inN hh hin (hrf (s_m (hs i), 6) (by unfold rf_; rw [if_neg (by rw [hk]; decide), if_neg (by rw [hk]; decide), if_neg (by rw [hk]; decide), if_pos hk]; exact List.mem_cons_of_mem _ (List.mem_singleton.mpr rfl))).2
    refine lv_tableIn (off := 91) (tgt := 97) hx hb d_M_isImpossible_6 (by decide) (by decide) rfl (by decide) ?_
    refine lv_aload_n hx hb d_M_isImpossible_97 rfl (lv_at hl 0 rfl) ?_
    refine lv_aload_n hx hb d_M_isImpossible_98 rfl (lv_at hl 0 rfl) ?_
    refine va_get (D := D) (ci := 3) (v := .ref (am 3)) (C := RM) (T := TM) (N := 20) hx hb hg inM hown hK hP 0 rfl rfl 4 (by decide) (hg _ fl_M_16) (fun _ h9 => h9) rfl d_M_isImpossible_99 ?_
    refine lv_iload_n hx hb d_M_isImpossible_102 rfl (lv_at hl 1 rfl) ?_
    refine va_iald hx hb hK hP 3 0 rfl rfl (vp_in_nI (n := i) (N := 200) (by omega) (by omega)) d_M_isImpossible_103 ?_
    refine toi_ (y := th i) (by rw [nI_clamp (by omega)]) ?_
    refine toi_ (y := s_t (hs i)) (hmi.2.2.1) ?_
    refine vp_callSi (va_Run.run (va_runV (C := RM) (As := [.int (s_t (hs i))]) (rest := []) ⟨hx, hb, hml, hown, hg⟩ (m_M_isThere l D cA am la nu ki th ot vs av pl ps tz ts fr bk ce co ro le dn un hs ac n (s_t (hs i)) hmh hn ac2 i (rp_ hs ac2 i) hq) (cwV 1 hg (gd_V ml_M_83 im_M_isThere sl_M_isThere ini_M cd_M_isThere) rfl rfl rfl (by decide +kernel) ⟨Nat.le_of_ble_eq_true rfl, Nat.le_of_ble_eq_true rfl⟩) (pv_r (va_recv (q0 := 0) (ci := 3) hK hP rfl rfl) (hP) hK hN) rfl rfl hl.1 rfl (lv_room (Nat.le_of_ble_eq_true rfl)) d_M_isImpossible_104 ⟨Nat.zero_le _, Nat.zero_le _⟩)) (fun r104 e104 => ?_)
    subst e104
    refine lv_if_eq (tgt := 142) hx hb d_M_isImpossible_107 (by decide) (fun h107 => ?_) (fun h107 => ?_)
    · skip
      have q107 := b2_0.mp h107
      refine lv_iconst (v := 1) hx hb d_M_isImpossible_142 (by decide) ?_
      refine lv_goto (tgt := 147) hx hb d_M_isImpossible_143 (by decide) ?_
      rw [decide_eq_false h0, hth] at q107
      simp at q107
      exact W.zret hx hb hr rfl (fun t ht hW => ⟨_, rfl, by rw [im_8 (rp_ hs ac2 i) hk]; first | (simp [b2_, q107]; done) | (rw [hth2] at q120; simp at q120; simp [b2_, q107, q120]; done) | (have hne : ¬ s_m (hs i) = 0 := (fun h9 => by rw [h9, bl_s, if_neg (by decide)] at q139; cases q139); simp [b2_, q107, hne, q139]; done) | (rw [hth2] at q120; simp at q120; rcases q120 with h9 | h9 <;> simp [b2_, q107, h9, q139]), ht⟩) (fun q h => absurd h List.not_mem_nil) d_M_isImpossible_147
    · skip
      have q107 := b2_n.mp h107
      refine lv_aload_n hx hb d_M_isImpossible_110 rfl (lv_at hl 0 rfl) ?_
      refine lv_aload_n hx hb d_M_isImpossible_111 rfl (lv_at hl 0 rfl) ?_
      refine va_get (D := D) (ci := 3) (v := .ref (am 4)) (C := RM) (T := TM) (N := 20) hx hb hg inM hown hK hP 0 rfl rfl 5 (by decide) (hg _ fl_M_19) (fun _ h9 => h9) rfl d_M_isImpossible_112 ?_
      refine lv_iload_n hx hb d_M_isImpossible_115 rfl (lv_at hl 1 rfl) ?_
      refine va_iald hx hb hK hP 4 0 rfl rfl (vp_in_nI (n := i) (N := 200) (by omega) (by omega)) d_M_isImpossible_116 ?_
      refine toi_ (y := ot i) (by rw [nI_clamp (by omega)]) ?_
      refine toi_ (y := s_m (hs i)) (hmi.2.2.2.1) ?_
      refine vp_callSi (va_Run.run (va_runV (C := RM) (As := [.int (s_m (hs i))]) (rest := []) ⟨hx, hb, hml, hown, hg⟩ (m_M_isThere l D cA am la nu ki th ot vs av pl ps tz ts fr bk ce co ro le dn un hs ac n (s_m (hs i)) hmh hn ac2 i (rp_ hs ac2 i) hq) (cwV 1 hg (gd_V ml_M_83 im_M_isThere sl_M_isThere ini_M cd_M_isThere) rfl rfl rfl (by decide +kernel) ⟨Nat.le_of_ble_eq_true rfl, Nat.le_of_ble_eq_true rfl⟩) (pv_r (va_recv (q0 := 0) (ci := 3) hK hP rfl rfl) (hP) hK hN) rfl rfl hl.1 rfl (lv_room (Nat.le_of_ble_eq_true rfl)) d_M_isImpossible_117 ⟨Nat.zero_le _, Nat.zero_le _⟩)) (fun r117 e117 => ?_)
      subst e117
      refine lv_if_eq (tgt := 142) hx hb d_M_isImpossible_120 (by decide) (fun h120 => ?_) (fun h120 => ?_)
      · skip
        have q120 := b2_0.mp h120
        refine lv_iconst (v := 1) hx hb d_M_isImpossible_142 (by decide) ?_
        refine lv_goto (tgt := 147) hx hb d_M_isImpossible_143 (by decide) ?_
        rw [decide_eq_false h0, hth] at q107
        simp at q107
        exact W.zret hx hb hr rfl (fun t ht hW => ⟨_, rfl, by rw [im_8 (rp_ hs ac2 i) hk]; first | (simp [b2_, q107]; done) | (rw [hth2] at q120; simp at q120; simp [b2_, q107, q120]; done) | (have hne : ¬ s_m (hs i) = 0 := (fun h9 => by rw [h9, bl_s, if_neg (by decide)] at q139; cases q139); simp [b2_, q107, hne, q139]; done) | (rw [hth2] at q120; simp at q120; rcases q120 with h9 | h9 <;> simp [b2_, q107, h9, q139]), ht⟩) (fun q h => absurd h List.not_mem_nil) d_M_isImpossible_147
      · skip
        have q120 := b2_n.mp h120
        refine lv_aload_n hx hb d_M_isImpossible_123 rfl (lv_at hl 0 rfl) ?_
        refine lv_aload_n hx hb d_M_isImpossible_124 rfl (lv_at hl 0 rfl) ?_
        refine va_get (D := D) (ci := 3) (v := .ref (am 4)) (C := RM) (T := TM) (N := 20) hx hb hg inM hown hK hP 0 rfl rfl 5 (by decide) (hg _ fl_M_19) (fun _ h9 => h9) rfl d_M_isImpossible_125 ?_
        refine lv_iload_n hx hb d_M_isImpossible_128 rfl (lv_at hl 1 rfl) ?_
        refine va_iald hx hb hK hP 4 0 rfl rfl (vp_in_nI (n := i) (N := 200) (by omega) (by omega)) d_M_isImpossible_129 ?_
        refine toi_ (y := ot i) (by rw [nI_clamp (by omega)]) ?_
        refine toi_ (y := s_m (hs i)) (hmi.2.2.2.1) ?_
        refine lv_aload_n hx hb d_M_isImpossible_130 rfl (lv_at hl 0 rfl) ?_
        refine va_get (D := D) (ci := 3) (v := .ref (am 3)) (C := RM) (T := TM) (N := 20) hx hb hg inM hown hK hP 0 rfl rfl 4 (by decide) (hg _ fl_M_16) (fun _ h9 => h9) rfl d_M_isImpossible_131 ?_
        refine lv_iload_n hx hb d_M_isImpossible_134 rfl (lv_at hl 1 rfl) ?_
        refine va_iald hx hb hK hP 3 0 rfl rfl (vp_in_nI (n := i) (N := 200) (by omega) (by omega)) d_M_isImpossible_135 ?_
        refine toi_ (y := th i) (by rw [nI_clamp (by omega)]) ?_
        refine toi_ (y := s_t (hs i)) (hmi.2.2.1) ?_
        have hA1 : s_t (hs i) ∈ m_n (rp_ hs ac2 i) := by rw [decide_eq_false h0, hth] at q107; simpa using q107
        have hA2 : s_m (hs i) = 0 ∨ s_m (hs i) ∈ m_n (rp_ hs ac2 i) := by rw [hth2] at q120; simpa using q120
        refine vp_callSi (va_Run.run (va_runV (C := RM) (As := [.int (s_m (hs i)), .int (s_t (hs i))]) (rest := []) ⟨hx, hb, hml, hown, hg⟩ (m_M_isBelow l D cA am la nu ki th ot vs av pl ps tz ts fr bk ce co ro le dn un hs ac n (s_m (hs i)) (s_t (hs i)) hmh hn i la9 ac2 hh hin hq hA2 hA1) (cwV 2 hg (gd_V ml_M_87 im_M_isBelow sl_M_isBelow ini_M cd_M_isBelow) rfl rfl rfl (by decide +kernel) ⟨Nat.le_of_ble_eq_true rfl, Nat.le_of_ble_eq_true rfl⟩) (pv_r (va_recv (q0 := 0) (ci := 3) hK hP rfl rfl) (hP) hK hN) rfl rfl hl.1 rfl (lv_room (Nat.le_of_ble_eq_true rfl)) d_M_isImpossible_136 ⟨Nat.zero_le _, Nat.zero_le _⟩)) (fun r136 e136 => ?_)
        subst e136
        refine lv_if_eq (tgt := 146) hx hb d_M_isImpossible_139 (by decide) (fun h139 => ?_) (fun h139 => ?_)
        · skip
          have q139 := b2_0.mp h139
          refine lv_iconst (v := 0) hx hb d_M_isImpossible_146 (by decide) ?_
          rw [decide_eq_false h0, hth] at q107
          simp at q107
          exact W.zret hx hb hr rfl (fun t ht hW => ⟨_, rfl, by rw [im_8 (rp_ hs ac2 i) hk]; first | (simp [b2_, q107]; done) | (rw [hth2] at q120; simp at q120; simp [b2_, q107, q120]; done) | (have hne : ¬ s_m (hs i) = 0 := (fun h9 => by rw [h9, bl_s, if_neg (by decide)] at q139; cases q139); simp [b2_, q107, hne, q139]; done) | (rw [hth2] at q120; simp at q120; rcases q120 with h9 | h9 <;> simp [b2_, q107, h9, q139]), ht⟩) (fun q h => absurd h List.not_mem_nil) d_M_isImpossible_147
        · skip
          have q139 := b2_n.mp h139
          refine lv_iconst (v := 1) hx hb d_M_isImpossible_142 (by decide) ?_
          refine lv_goto (tgt := 147) hx hb d_M_isImpossible_143 (by decide) ?_
          rw [decide_eq_false h0, hth] at q107
          simp at q107
          exact W.zret hx hb hr rfl (fun t ht hW => ⟨_, rfl, by rw [im_8 (rp_ hs ac2 i) hk]; first | (simp [b2_, q107]; done) | (rw [hth2] at q120; simp at q120; simp [b2_, q107, q120]; done) | (have hne : ¬ s_m (hs i) = 0 := (fun h9 => by rw [h9, bl_s, if_neg (by decide)] at q139; cases q139); simp [b2_, q107, hne, q139]; done) | (rw [hth2] at q120; simp at q120; rcases q120 with h9 | h9 <;> simp [b2_, q107, h9, q139]), ht⟩) (fun q h => absurd h List.not_mem_nil) d_M_isImpossible_147
