/-! Replay: hang, putElement, takeElement -/
set_option maxHeartbeats 4000000 in
set_option maxRecDepth 100000 in
theorem m_R_hang (l : Launch) (D : va_G) (cA : Nat → ClassId) (sz : Nat) (ad : Nat → Nat) (ce : Nat → Int32) (co : Nat → Int64) (rw : Nat → Nat → Int32) (le el : Nat → Int32) (ec : Int32) (nd pa : Nat → Int32) (nc : Int32) (x pp : Int32) (mm : me_T) (hc : cr_ mm ce co rw le el ec nd pa nc) (hw : mw_ mm) : Met l y_R_hang (.code y_R_hang c_R_hang 4 none :: G_) ({ frames := 1, cells := 0, slots := 0, locals := 24 }) (va_Pc [.ref (ad 0), .int x, .int pp] (pm_ D cA (wR cA ad ce co rw le el ec nd pa nc) sz)) (va_Qv (fun (u : rs_T) => cq_ (mp_ mm x pp) u) (bw_ D (va_A (wR cA ad ce co rw le el ec nd pa nc) sz) (wq_ cA ad)) (va_A (wR cA ad ce co rw le el ec nd pa nc) sz)) 0 0 (va_A (wR cA ad ce co rw le el ec nd pa nc) sz) := by
  refine Met.ofW (cc := c_R_hang) (maxL := 4) (ret := none) (by decide) rfl ?_
  intro p e s m args below meth c s₁ B hml hv
  obtain ⟨rfl, hsz, hP, ⟨hK, hN⟩, hD0⟩ := hv
  have hx := B.exec
  have hb := B.bytes
  have hr := B.returns
  have hts := atoms_spec (ws := (.code y_R_hang c_R_hang 4 none :: G_)) B.pre
  have hg : ∀ w ∈ G_, w.before ([.ref (ad 0), .int x, .int pp] : List Value).toArray s = true := fun w h => hts w (List.mem_cons_of_mem _ h)
  have hown : s.vm.findClass RR = some m.cls := findClass_of_methodNamed B.named
  have hlocks := B.notSynchronized
  subst hsz
  have hD := hD0.self (sz := s.heap.size)
  generalize hAe : va_A (wR cA ad ce co rw le el ec nd pa nc) s.heap.size = A at hD ⊢
  have hA : ∀ q : Nat, s.heap.size ≤ q → A q := fun q h => by rw [← hAe]; exact Or.inr h
  have hS : va_S A s.heap s.heap [] := va_S.rf
  have hl := lv_entry ([.ref (ad 0), .int x, .int pp]) (n := 4) (Nat.le_of_ble_eq_true rfl)
  rw [lg_entry_eq]
  generalize (lg_sl ([.ref (ad 0), .int x, .int pp]) ++ List.replicate (4 - (lg_sl ([.ref (ad 0), .int x, .int pp])).length) Slot.unset).toArray = ls at hl ⊢
  have hl : lv_has ls 4 [(0, .ref (ad 0)), (1, .int x), (2, .int pp)] := hl
  obtain ⟨hc1, hc2, hc3, hc4, hc5, hc6, hc7, hc8⟩ := hc
  obtain ⟨hw1, hw2, hw3, hw4, hw5, hw6, hw7, hw8, hw9⟩ := hw
  subst hc6
  refine lv_aload_n hx hb d_R_hang_0 rfl (lv_at hl 0 rfl) ?_
  refine va_get (D := D) (ci := 0) (v := .ref (ad 9)) (C := RR) (T := TR) (N := 9) hx hb hg inR hown hK hP 0 rfl rfl 6 (by decide) (hg _ fl_R_30) (fun _ h9 => h9) rfl d_R_hang_1 ?_
  refine lv_aload_n hx hb d_R_hang_4 rfl (lv_at hl 0 rfl) ?_
  refine va_get (D := D) (ci := 0) (v := .int (nI (m_n mm).length)) (C := RR) (T := TR) (N := 9) hx hb hg inR hown hK hP 0 rfl rfl 8 (by decide) (hg _ fl_R_49) (fun _ h9 => h9) rfl d_R_hang_5 ?_
  refine lv_iload_n hx hb d_R_hang_8 rfl (lv_at hl 1 rfl) ?_
  refine vp_callSi (va_Run.run (va_runS (As := [.ref (ad 9), .int (nI (m_n mm).length), .int x]) (rest := []) ⟨hx, hb, hml, hown, hg⟩ (m_R_search l D cA (ad 9) 200 (m_n mm).length nd x (by omega) (by omega) (pw_f hc7 hw5)) (cwS 3 hg (gd_S ml_R_107 sm_R_search ini_R cd_R_search) rfl rfl rfl (by decide +kernel) ⟨Nat.le_of_ble_eq_true rfl, Nat.le_of_ble_eq_true rfl⟩) (ps_r (hP.sub (ws' := [(ad 9, .inl (cA 0, 200, .inl nd))]) [9] rfl) hK hN) rfl rfl hl.1 rfl (lv_room (Nat.le_of_ble_eq_true rfl)) d_R_hang_9 ⟨Nat.zero_le _, Nat.zero_le _⟩)) (fun r9 e9 => ?_)
  subst e9
  rcases hfi : fi_ (fun i => decide (nd i = x)) (m_n mm).length with _ | k
  · skip
    refine toi_ (y := -1) rfl ?_
    refine lv_istore_n (lv' := [(3, .int (-1)), (0, .ref (ad 0)), (1, .int x), (2, .int pp)]) hx hb d_R_hang_12 rfl hl (by decide) rfl (fun ls hl => ?_)
    refine lv_iload_n hx hb d_R_hang_13 rfl (lv_at hl 0 rfl) ?_
    refine lv_iconst (v := (-1)) hx hb d_R_hang_14 (by decide) ?_
    refine lv_icmp_eq (tgt := 25) hx hb d_R_hang_15 (by decide) (fun h15 => ?_) (fun h15 => ?_)
    · skip
      have hmem : x ∉ m_n mm := (fi_mem hc7 (by omega) x).mp (by rw [hfi]; rfl)
      have hq : cq_ (mp_ mm x pp) (ce, co, rw, le, el, ec, nd, pa, nI (m_n mm).length) := by
        refine ⟨hc1, hc2, hc3, hc4, hc5, rfl, hc7, fun i hi => ?_⟩
        show pa i = upI_ (m_p mm) x pp (nd i)
        unfold upI_
        rw [if_neg (fun h : nd i = x => hmem (h ▸ rl_get hc7 hi))]
        exact hc8 i hi
      exact W.vret hx hb hr (fun t ht hW => ⟨⟨(ce, co, rw, le, el, ec, nd, pa, nI (m_n mm).length), rfl, hq, by rw [ht]; exact hP, hD⟩, hS.F ht⟩) hS.2.2 d_R_hang_25
    · skip
      exact absurd rfl h15
  · skip
    refine toi_ (y := nI k) rfl ?_
    refine lv_istore_n (lv' := [(3, .int (nI k)), (0, .ref (ad 0)), (1, .int x), (2, .int pp)]) hx hb d_R_hang_12 rfl hl (by decide) rfl (fun ls hl => ?_)
    refine lv_iload_n hx hb d_R_hang_13 rfl (lv_at hl 0 rfl) ?_
    refine lv_iconst (v := (-1)) hx hb d_R_hang_14 (by decide) ?_
    refine lv_icmp_eq (tgt := 25) hx hb d_R_hang_15 (by decide) (fun h15 => ?_) (fun h15 => ?_)
    · skip
      exact absurd h15 (ov_ne (i := k) (by have := (fi_some hfi).1; omega))
    · skip
      have hik := fi_some hfi
      have hlt := hik.1
      have hnx : nd k = x := by simpa using hik.2.1
      refine lv_aload_n hx hb d_R_hang_18 rfl (lv_at hl 1 rfl) ?_
      refine va_get (D := D) (ci := 0) (v := .ref (ad 10)) (C := RR) (T := TR) (N := 9) hx hb hg inR hown hK hP 0 rfl rfl 7 (by decide) (hg _ fl_R_33) (fun _ h9 => h9) rfl d_R_hang_19 ?_
      refine lv_iload_n hx hb d_R_hang_22 rfl (lv_at hl 0 rfl) ?_
      refine lv_iload_n hx hb d_R_hang_23 rfl (lv_at hl 3 rfl) ?_
      refine va_iast hx hb hK hP hD hS 10 0 rfl rfl (vp_in_nI (n := k) (N := 200) (by omega) (by omega)) d_R_hang_24 (fun H locs hP hD hS => ?_)
      rw [nI_clamp (by omega)] at hP hD
      have hP : va_P D cls_ (wR cA ad ce co rw le el ec nd (upd pa k pp) (nI (m_n mm).length)) H := hP
      have hD : va_D A (wR cA ad ce co rw le el ec nd (upd pa k pp) (nI (m_n mm).length)) := hD
      have hq : cq_ (mp_ mm x pp) (ce, co, rw, le, el, ec, nd, upd pa k pp, nI (m_n mm).length) := by
        refine ⟨hc1, hc2, hc3, hc4, hc5, rfl, hc7, fun i hi => ?_⟩
        show upd pa k pp i = upI_ (m_p mm) x pp (nd i)
        unfold upI_
        have hinj := pw_f hc7 hw5
        by_cases hik2 : i = k
        · rw [hik2, pk_us, if_pos hnx]
        · have hne : ¬ nd i = x := by
            intro h
            rcases Nat.lt_or_gt_of_ne hik2 with h1 | h1
            · exact Int32.ne_of_lt (hinj i k h1 hlt) (h.trans hnx.symm)
            · exact Int32.ne_of_lt (hinj k i h1 hi) (hnx.trans h.symm)
          rw [pk_un hik2, if_neg hne]
          exact hc8 i hi
      exact W.vret hx hb hr (fun t ht hW => ⟨⟨(ce, co, rw, le, el, ec, nd, upd pa k pp, nI (m_n mm).length), rfl, hq, by rw [ht]; exact hP, hD⟩, hS.F ht⟩) hS.2.2 d_R_hang_25

set_option maxHeartbeats 4000000 in
set_option maxRecDepth 100000 in
theorem m_R_putElement (l : Launch) (D : va_G) (cA : Nat → ClassId) (sz : Nat) (ad : Nat → Nat) (ce : Nat → Int32) (co : Nat → Int64) (rw : Nat → Nat → Int32) (le el : Nat → Int32) (ec : Int32) (nd pa : Nat → Int32) (nc : Int32) (r k : Nat) (x : Int32) (hr3 : r < 3) (mm : me_T) (hc : cr_ mm ce co rw le el ec nd pa nc) (hw : mw_ mm) (hk : k ≤ (m_r mm r).length) (h39 : (m_r mm r).length ≤ 39) : Met l y_R_putElement (.code y_R_putElement c_R_putElement 5 none :: G_) ({ frames := 1, cells := 0, slots := 0, locals := 18 }) (va_Pc [.ref (ad 0), .int (nI r), .int (nI k), .int x] (pm_ D cA (wR cA ad ce co rw le el ec nd pa nc) sz)) (va_Qv (fun (u : rs_T) => cq_ (mr_ mm r ((m_r mm r).insertIdx k x)) u) (bw_ D (va_A (wR cA ad ce co rw le el ec nd pa nc) sz) (wq_ cA ad)) (va_A (wR cA ad ce co rw le el ec nd pa nc) sz)) 0 0 (va_A (wR cA ad ce co rw le el ec nd pa nc) sz) := by
  refine Met.ofW (cc := c_R_putElement) (maxL := 5) (ret := none) (by decide) rfl ?_
  intro p e s m args below meth c s₁ B hml hv
  obtain ⟨rfl, hsz, hP, ⟨hK, hN⟩, hD0⟩ := hv
  have hx := B.exec
  have hb := B.bytes
  have hr := B.returns
  have hts := atoms_spec (ws := (.code y_R_putElement c_R_putElement 5 none :: G_)) B.pre
  have hg : ∀ w ∈ G_, w.before ([.ref (ad 0), .int (nI r), .int (nI k), .int x] : List Value).toArray s = true := fun w h => hts w (List.mem_cons_of_mem _ h)
  have hown : s.vm.findClass RR = some m.cls := findClass_of_methodNamed B.named
  have hlocks := B.notSynchronized
  subst hsz
  have hD := hD0.self (sz := s.heap.size)
  generalize hAe : va_A (wR cA ad ce co rw le el ec nd pa nc) s.heap.size = A at hD ⊢
  have hA : ∀ q : Nat, s.heap.size ≤ q → A q := fun q h => by rw [← hAe]; exact Or.inr h
  have hS : va_S A s.heap s.heap [] := va_S.rf
  have hl := lv_entry ([.ref (ad 0), .int (nI r), .int (nI k), .int x]) (n := 5) (Nat.le_of_ble_eq_true rfl)
  rw [lg_entry_eq]
  generalize (lg_sl ([.ref (ad 0), .int (nI r), .int (nI k), .int x]) ++ List.replicate (5 - (lg_sl ([.ref (ad 0), .int (nI r), .int (nI k), .int x])).length) Slot.unset).toArray = ls at hl ⊢
  have hl : lv_has ls 5 [(0, .ref (ad 0)), (1, .int (nI r)), (2, .int (nI k)), (3, .int x)] := hl
  have hle := (hc.2.2.1 r hr3).1
  have hrl := (hc.2.2.1 r hr3).2
  refine lv_aload_n hx hb d_R_putElement_0 rfl (lv_at hl 0 rfl) ?_
  refine va_get (D := D) (ci := 0) (v := .ref (ad 3)) (C := RR) (T := TR) (N := 9) hx hb hg inR hown hK hP 0 rfl rfl 2 (by decide) (hg _ fl_R_21) (fun _ h9 => h9) rfl d_R_putElement_1 ?_
  refine lv_iload_n hx hb d_R_putElement_4 rfl (lv_at hl 1 rfl) ?_
  refine va_aldg hx hb hK hP 3 2 rfl rfl (vp_in_nI (n := r) (N := 3) (by omega) (by omega)) d_R_putElement_5 ?_
  refine tov_ (y := .ref (ad (4 + r))) (by show va_rf (some (ad (4 + (nI r).toNatClampNeg))) = _; rw [nI_clamp (by omega)]; rfl) ?_
  refine lv_astore (lv' := [(4, .ref (ad (4 + r))), (0, .ref (ad 0)), (1, .int (nI r)), (2, .int (nI k)), (3, .int x)]) hx hb d_R_putElement_6 hl (by decide) rfl (fun ls hl => ?_)
  refine lv_aload hx hb d_R_putElement_8 (lv_at hl 0 rfl) ?_
  refine lv_iload_n hx hb d_R_putElement_10 rfl (lv_at hl 3 rfl) ?_
  refine lv_aload hx hb d_R_putElement_11 (lv_at hl 0 rfl) ?_
  refine lv_iload_n hx hb d_R_putElement_13 rfl (lv_at hl 3 rfl) ?_
  refine lv_iconst (v := 1) hx hb d_R_putElement_14 (by decide) ?_
  refine lv_iadd hx hb d_R_putElement_15 ?_
  refine toi_ (y := nI (k + 1)) (nI_1 k) ?_
  refine lv_aload_n hx hb d_R_putElement_16 rfl (lv_at hl 1 rfl) ?_
  refine va_get (D := D) (ci := 0) (v := .ref (ad 7)) (C := RR) (T := TR) (N := 9) hx hb hg inR hown hK hP 0 rfl rfl 3 (by decide) (hg _ fl_R_24) (fun _ h9 => h9) rfl d_R_putElement_17 ?_
  refine lv_iload_n hx hb d_R_putElement_20 rfl (lv_at hl 2 rfl) ?_
  refine va_iald hx hb hK hP 7 0 rfl rfl (vp_in_nI (n := r) (N := 3) (by omega) (by omega)) d_R_putElement_21 ?_
  refine toi_ (y := le r) (by rw [nI_clamp (by omega)]) ?_
  refine toi_ (y := nI (m_r mm r).length) (hle) ?_
  refine lv_iload_n hx hb d_R_putElement_22 rfl (lv_at hl 3 rfl) ?_
  refine lv_isub hx hb d_R_putElement_23 ?_
  refine toi_ (y := nI ((m_r mm r).length - k)) (pk_sub (by omega)) ?_
  refine va_copyi hx hb (hml.trans hl.1.symm) hown (hg _ ml_R_111) (hg _ nm_Y_arraycopy) (hg _ sm_Y_arraycopy) (hg _ ini_Y) hK hP hD hS (4 + r) (4 + r) 0 0 (wR_row hr3) (wR_row hr3) rfl rfl rfl (nI_pos (by omega)) (nI_pos (by omega)) (nI_pos (by omega)) (by rw [nI_clamp (by omega), nI_clamp (by omega)]; omega) (by rw [nI_clamp (by omega), nI_clamp (by omega)]; omega) (fun _ _ => rfl) (Nat.le_of_ble_eq_true rfl) (Nat.le_of_ble_eq_true rfl) d_R_putElement_24 (fun H locs hP hD hS => ?_)
  rw [nI_clamp (n := k) (by omega), nI_clamp (n := k + 1) (by omega), nI_clamp (n := (m_r mm r).length - k) (by omega)] at hP hD
  rw [wR_set hr3] at hP hD
  have hP : va_P D cls_ (wR cA ad ce co (va_up rw r (va_cpy (rw r) (rw r) k (k + 1) ((m_r mm r).length - k))) le el ec nd pa nc) H := hP
  have hD : va_D A (wR cA ad ce co (va_up rw r (va_cpy (rw r) (rw r) k (k + 1) ((m_r mm r).length - k))) le el ec nd pa nc) := hD
  refine lv_aload hx hb d_R_putElement_27 (lv_at hl 0 rfl) ?_
  refine lv_iload_n hx hb d_R_putElement_29 rfl (lv_at hl 3 rfl) ?_
  refine lv_iload_n hx hb d_R_putElement_30 rfl (lv_at hl 4 rfl) ?_
  refine va_iast hx hb hK hP hD hS (4 + r) 0 (wR_row hr3) rfl (vp_in_nI (n := k) (N := 40) (by omega) (by omega)) d_R_putElement_31 (fun H locs hP hD hS => ?_)
  rw [nI_clamp (by omega)] at hP hD
  rw [wR_set hr3] at hP hD
  rw [bx_uu, vu_eq] at hP hD
  have hP : va_P D cls_ (wR cA ad ce co (va_up rw r (upd (va_cpy (rw r) (rw r) k (k + 1) ((m_r mm r).length - k)) k x)) le el ec nd pa nc) H := hP
  have hD : va_D A (wR cA ad ce co (va_up rw r (upd (va_cpy (rw r) (rw r) k (k + 1) ((m_r mm r).length - k)) k x)) le el ec nd pa nc) := hD
  refine lv_aload_n hx hb d_R_putElement_32 rfl (lv_at hl 1 rfl) ?_
  refine va_get (D := D) (ci := 0) (v := .ref (ad 7)) (C := RR) (T := TR) (N := 9) hx hb hg inR hown hK hP 0 rfl rfl 3 (by decide) (hg _ fl_R_24) (fun _ h9 => h9) rfl d_R_putElement_33 ?_
  refine lv_iload_n hx hb d_R_putElement_36 rfl (lv_at hl 2 rfl) ?_
  refine lv_dup2_11 hx hb d_R_putElement_37 rfl rfl ?_
  refine va_iald hx hb hK hP 7 0 rfl rfl (vp_in_nI (n := r) (N := 3) (by omega) (by omega)) d_R_putElement_38 ?_
  refine toi_ (y := le r) (by rw [nI_clamp (by omega)]) ?_
  refine toi_ (y := nI (m_r mm r).length) (hle) ?_
  refine lv_iconst (v := 1) hx hb d_R_putElement_39 (by decide) ?_
  refine lv_iadd hx hb d_R_putElement_40 ?_
  refine toi_ (y := nI ((m_r mm r).length + 1)) (nI_1 _) ?_
  refine va_iast hx hb hK hP hD hS 7 0 rfl rfl (vp_in_nI (n := r) (N := 3) (by omega) (by omega)) d_R_putElement_41 (fun H locs hP hD hS => ?_)
  rw [nI_clamp (by omega)] at hP hD
  have hP : va_P D cls_ (wR cA ad ce co (va_up rw r (upd (va_cpy (rw r) (rw r) k (k + 1) ((m_r mm r).length - k)) k x)) (upd le r (nI ((m_r mm r).length + 1))) el ec nd pa nc) H := hP
  have hD : va_D A (wR cA ad ce co (va_up rw r (upd (va_cpy (rw r) (rw r) k (k + 1) ((m_r mm r).length - k)) k x)) (upd le r (nI ((m_r mm r).length + 1))) el ec nd pa nc) := hD
  have hq : cq_ (mr_ mm r ((m_r mm r).insertIdx k x)) (ce, co, va_up rw r (upd (va_cpy (rw r) (rw r) k (k + 1) ((m_r mm r).length - k)) k x), upd le r (nI ((m_r mm r).length + 1)), el, ec, nd, pa, nc) := by
    have h9 := cr_row (r := r) hc (rl_ins hrl hk x)
    rw [List.length_insertIdx_of_le_length hk] at h9
    exact h9
  exact W.vret hx hb hr (fun t ht hW => ⟨⟨(ce, co, va_up rw r (upd (va_cpy (rw r) (rw r) k (k + 1) ((m_r mm r).length - k)) k x), upd le r (nI ((m_r mm r).length + 1)), el, ec, nd, pa, nc), rfl, hq, by rw [ht]; exact hP, hD⟩, hS.F ht⟩) hS.2.2 d_R_putElement_42

set_option maxHeartbeats 4000000 in
set_option maxRecDepth 100000 in
theorem m_R_takeElement (l : Launch) (D : va_G) (cA : Nat → ClassId) (sz : Nat) (ad : Nat → Nat) (ce : Nat → Int32) (co : Nat → Int64) (rw : Nat → Nat → Int32) (le el : Nat → Int32) (ec : Int32) (nd pa : Nat → Int32) (nc : Int32) (r0 : Nat) (x : Int32) (hr3 : r0 < 3) (mm : me_T) (hc : cr_ mm ce co rw le el ec nd pa nc) (hw : mw_ mm) : Met l y_R_takeElement (.code y_R_takeElement c_R_takeElement 5 (some .boolean) :: G_) ({ frames := 1, cells := 0, slots := 0, locals := 23 }) (va_Pc [.ref (ad 0), .int (nI r0), .int x] (pm_ D cA (wR cA ad ce co rw le el ec nd pa nc) sz)) (va_Qi (fun (r : Int32) (u : rs_T) => r = b2_ (decide (x ∈ m_r mm r0)) ∧ cq_ (mr_ mm r0 (del_ (m_r mm r0) x)) u) (bw_ D (va_A (wR cA ad ce co rw le el ec nd pa nc) sz) (wq_ cA ad)) (va_A (wR cA ad ce co rw le el ec nd pa nc) sz)) 0 0 (va_A (wR cA ad ce co rw le el ec nd pa nc) sz) := by
  refine Met.ofW (cc := c_R_takeElement) (maxL := 5) (ret := (some .boolean)) (by decide) rfl ?_
  intro p e s m args below meth c s₁ B hml hv
  obtain ⟨rfl, hsz, hP, ⟨hK, hN⟩, hD0⟩ := hv
  have hx := B.exec
  have hb := B.bytes
  have hr := B.returns
  have hts := atoms_spec (ws := (.code y_R_takeElement c_R_takeElement 5 (some .boolean) :: G_)) B.pre
  have hg : ∀ w ∈ G_, w.before ([.ref (ad 0), .int (nI r0), .int x] : List Value).toArray s = true := fun w h => hts w (List.mem_cons_of_mem _ h)
  have hown : s.vm.findClass RR = some m.cls := findClass_of_methodNamed B.named
  have hlocks := B.notSynchronized
  subst hsz
  have hD := hD0.self (sz := s.heap.size)
  generalize hAe : va_A (wR cA ad ce co rw le el ec nd pa nc) s.heap.size = A at hD ⊢
  have hA : ∀ q : Nat, s.heap.size ≤ q → A q := fun q h => by rw [← hAe]; exact Or.inr h
  have hS : va_S A s.heap s.heap [] := va_S.rf
  have hl := lv_entry ([.ref (ad 0), .int (nI r0), .int x]) (n := 5) (Nat.le_of_ble_eq_true rfl)
  rw [lg_entry_eq]
  generalize (lg_sl ([.ref (ad 0), .int (nI r0), .int x]) ++ List.replicate (5 - (lg_sl ([.ref (ad 0), .int (nI r0), .int x])).length) Slot.unset).toArray = ls at hl ⊢
  have hl : lv_has ls 5 [(0, .ref (ad 0)), (1, .int (nI r0)), (2, .int x)] := hl
  have hle := (hc.2.2.1 r0 hr3).1
  have hrl := (hc.2.2.1 r0 hr3).2
  have h40 := hw.1 r0 hr3
  refine lv_aload_n hx hb d_R_takeElement_0 rfl (lv_at hl 0 rfl) ?_
  refine lv_iload_n hx hb d_R_takeElement_1 rfl (lv_at hl 1 rfl) ?_
  refine lv_iload_n hx hb d_R_takeElement_2 rfl (lv_at hl 2 rfl) ?_
  refine vp_callSi (va_Run.run (va_runV (C := RR) (As := [.int (nI r0), .int x]) (rest := []) ⟨hx, hb, hml, hown, hg⟩ (m_R_indexIn l D cA ad ce co rw le el ec nd pa nc r0 x hr3 mm hc hw) (cwV 2 hg (gd_V ml_R_117 im_R_indexIn sl_R_indexIn ini_R cd_R_indexIn) rfl rfl rfl (by decide +kernel) ⟨Nat.le_of_ble_eq_true rfl, Nat.le_of_ble_eq_true rfl⟩) (pv_r (va_recv (q0 := 0) (ci := 0) hK hP rfl rfl) (hP) hK hN) rfl rfl hl.1 rfl (lv_room (Nat.le_of_ble_eq_true rfl)) d_R_takeElement_3 ⟨Nat.zero_le _, Nat.zero_le _⟩)) (fun r3 e3 => ?_)
  subst e3
  rcases hfi : ix_ (m_r mm r0) x with _ | k
  · skip
    refine toi_ (y := -1) rfl ?_
    refine lv_istore_n (lv' := [(3, .int (-1)), (0, .ref (ad 0)), (1, .int (nI r0)), (2, .int x)]) hx hb d_R_takeElement_6 rfl hl (by decide) rfl (fun ls hl => ?_)
    refine lv_iload_n hx hb d_R_takeElement_7 rfl (lv_at hl 0 rfl) ?_
    refine lv_iconst (v := (-1)) hx hb d_R_takeElement_8 (by decide) ?_
    refine lv_icmp_ne (tgt := 14) hx hb d_R_takeElement_9 (by decide) (fun h9 => ?_) (fun h9 => ?_)
    · skip
      exact absurd rfl h9
    · skip
      have hmem : x ∉ m_r mm r0 := ix_non.mp hfi
      refine lv_iconst (v := 0) hx hb d_R_takeElement_12 (by decide) ?_
      have hq : cq_ (mr_ mm r0 (del_ (m_r mm r0) x)) (ce, co, rw, le, el, ec, nd, pa, nc) := by
        rw [del_non hmem]
        refine ⟨hc.1, hc.2.1, fun q hq3 => ?_, hc.2.2.2⟩
        show le q = nI (va_up (m_r mm) r0 (m_r mm r0) q).length ∧ rl_ (rw q) (va_up (m_r mm) r0 (m_r mm r0) q)
        have e9 : va_up (m_r mm) r0 (m_r mm r0) q = m_r mm q := by by_cases h : q = r0
                                                                   · rw [h, vu_eq]
                                                                   · rw [vu_ne h]
        rw [e9]
        exact hc.2.2.1 q hq3
      exact W.zret hx hb hr rfl (fun t ht hW => ⟨⟨_, (ce, co, rw, le, el, ec, nd, pa, nc), rfl, ⟨by simp [b2_, hmem], hq⟩, by rw [ht]; exact hP, hD⟩, hS.F ht⟩) hS.2.2 d_R_takeElement_13
  · skip
    refine toi_ (y := nI k) rfl ?_
    refine lv_istore_n (lv' := [(3, .int (nI k)), (0, .ref (ad 0)), (1, .int (nI r0)), (2, .int x)]) hx hb d_R_takeElement_6 rfl hl (by decide) rfl (fun ls hl => ?_)
    refine lv_iload_n hx hb d_R_takeElement_7 rfl (lv_at hl 0 rfl) ?_
    refine lv_iconst (v := (-1)) hx hb d_R_takeElement_8 (by decide) ?_
    refine lv_icmp_ne (tgt := 14) hx hb d_R_takeElement_9 (by decide) (fun h9 => ?_) (fun h9 => ?_)
    · skip
      have hklt := ix_lt hfi
      have hmem : x ∈ m_r mm r0 := ix_mem.mp ⟨k, hfi⟩
      refine lv_aload_n hx hb d_R_takeElement_14 rfl (lv_at hl 1 rfl) ?_
      refine va_get (D := D) (ci := 0) (v := .ref (ad 3)) (C := RR) (T := TR) (N := 9) hx hb hg inR hown hK hP 0 rfl rfl 2 (by decide) (hg _ fl_R_21) (fun _ h9 => h9) rfl d_R_takeElement_15 ?_
      refine lv_iload_n hx hb d_R_takeElement_18 rfl (lv_at hl 2 rfl) ?_
      refine va_aldg hx hb hK hP 3 2 rfl rfl (vp_in_nI (n := r0) (N := 3) (by omega) (by omega)) d_R_takeElement_19 ?_
      refine tov_ (y := .ref (ad (4 + r0))) (by show va_rf (some (ad (4 + (nI r0).toNatClampNeg))) = _; rw [nI_clamp (by omega)]; rfl) ?_
      refine lv_astore (lv' := [(4, .ref (ad (4 + r0))), (3, .int (nI k)), (0, .ref (ad 0)), (1, .int (nI r0)), (2, .int x)]) hx hb d_R_takeElement_20 hl (by decide) rfl (fun ls hl => ?_)
      refine lv_aload_n hx hb d_R_takeElement_22 rfl (lv_at hl 2 rfl) ?_
      refine va_get (D := D) (ci := 0) (v := .ref (ad 7)) (C := RR) (T := TR) (N := 9) hx hb hg inR hown hK hP 0 rfl rfl 3 (by decide) (hg _ fl_R_24) (fun _ h9 => h9) rfl d_R_takeElement_23 ?_
      refine lv_iload_n hx hb d_R_takeElement_26 rfl (lv_at hl 3 rfl) ?_
      refine lv_dup2_11 hx hb d_R_takeElement_27 rfl rfl ?_
      refine va_iald hx hb hK hP 7 0 rfl rfl (vp_in_nI (n := r0) (N := 3) (by omega) (by omega)) d_R_takeElement_28 ?_
      refine toi_ (y := le r0) (by rw [nI_clamp (by omega)]) ?_
      refine toi_ (y := nI (m_r mm r0).length) (hle) ?_
      refine lv_iconst (v := 1) hx hb d_R_takeElement_29 (by decide) ?_
      refine lv_isub hx hb d_R_takeElement_30 ?_
      refine toi_ (y := nI ((m_r mm r0).length - 1)) (pk_sub (b := 1) (by omega)) ?_
      refine va_iast hx hb hK hP hD hS 7 0 rfl rfl (vp_in_nI (n := r0) (N := 3) (by omega) (by omega)) d_R_takeElement_31 (fun H locs hP hD hS => ?_)
      rw [nI_clamp (by omega)] at hP hD
      have hP : va_P D cls_ (wR cA ad ce co rw (upd le r0 (nI ((m_r mm r0).length - 1))) el ec nd pa nc) H := hP
      have hD : va_D A (wR cA ad ce co rw (upd le r0 (nI ((m_r mm r0).length - 1))) el ec nd pa nc) := hD
      refine lv_aload hx hb d_R_takeElement_32 (lv_at hl 0 rfl) ?_
      refine lv_iload_n hx hb d_R_takeElement_34 rfl (lv_at hl 1 rfl) ?_
      refine lv_iconst (v := 1) hx hb d_R_takeElement_35 (by decide) ?_
      refine lv_iadd hx hb d_R_takeElement_36 ?_
      refine toi_ (y := nI (k + 1)) (nI_1 k) ?_
      refine lv_aload hx hb d_R_takeElement_37 (lv_at hl 0 rfl) ?_
      refine lv_iload_n hx hb d_R_takeElement_39 rfl (lv_at hl 1 rfl) ?_
      refine lv_aload_n hx hb d_R_takeElement_40 rfl (lv_at hl 2 rfl) ?_
      refine va_get (D := D) (ci := 0) (v := .ref (ad 7)) (C := RR) (T := TR) (N := 9) hx hb hg inR hown hK hP 0 rfl rfl 3 (by decide) (hg _ fl_R_24) (fun _ h9 => h9) rfl d_R_takeElement_41 ?_
      refine lv_iload_n hx hb d_R_takeElement_44 rfl (lv_at hl 3 rfl) ?_
      refine va_iald hx hb hK hP 7 0 rfl rfl (vp_in_nI (n := r0) (N := 3) (by omega) (by omega)) d_R_takeElement_45 ?_
      refine toi_ (y := (upd le r0 (nI ((m_r mm r0).length - 1))) r0) (by rw [nI_clamp (by omega)]) ?_
      refine toi_ (y := nI ((m_r mm r0).length - 1)) (pk_us) ?_
      refine lv_iload_n hx hb d_R_takeElement_46 rfl (lv_at hl 1 rfl) ?_
      refine lv_isub hx hb d_R_takeElement_47 ?_
      refine toi_ (y := nI ((m_r mm r0).length - 1 - k)) (pk_sub (by omega)) ?_
      refine va_copyi hx hb (hml.trans hl.1.symm) hown (hg _ ml_R_111) (hg _ nm_Y_arraycopy) (hg _ sm_Y_arraycopy) (hg _ ini_Y) hK hP hD hS (4 + r0) (4 + r0) 0 0 (wR_row hr3) (wR_row hr3) rfl rfl rfl (nI_pos (by omega)) (nI_pos (by omega)) (nI_pos (by omega)) (by rw [nI_clamp (by omega), nI_clamp (by omega)]; omega) (by rw [nI_clamp (by omega), nI_clamp (by omega)]; omega) (fun _ _ => rfl) (Nat.le_of_ble_eq_true rfl) (Nat.le_of_ble_eq_true rfl) d_R_takeElement_48 (fun H locs hP hD hS => ?_)
      rw [nI_clamp (n := k + 1) (by omega), nI_clamp (n := k) (by omega), nI_clamp (n := (m_r mm r0).length - 1 - k) (by omega)] at hP hD
      rw [wR_set hr3] at hP hD
      have hP : va_P D cls_ (wR cA ad ce co (va_up rw r0 (va_cpy (rw r0) (rw r0) (k + 1) k ((m_r mm r0).length - 1 - k))) (upd le r0 (nI ((m_r mm r0).length - 1))) el ec nd pa nc) H := hP
      have hD : va_D A (wR cA ad ce co (va_up rw r0 (va_cpy (rw r0) (rw r0) (k + 1) k ((m_r mm r0).length - 1 - k))) (upd le r0 (nI ((m_r mm r0).length - 1))) el ec nd pa nc) := hD
      refine lv_iconst (v := 1) hx hb d_R_takeElement_51 (by decide) ?_
      have hq : cq_ (mr_ mm r0 (del_ (m_r mm r0) x)) (ce, co, va_up rw r0 (va_cpy (rw r0) (rw r0) (k + 1) k ((m_r mm r0).length - 1 - k)), upd le r0 (nI ((m_r mm r0).length - 1)), el, ec, nd, pa, nc) := by
        have e9 : del_ (m_r mm r0) x = (m_r mm r0).eraseIdx k := by unfold del_; rw [hfi]
        rw [e9]
        have h9 := cr_row (r := r0) hc (rl_del hrl hklt)
        rw [List.length_eraseIdx_of_lt hklt] at h9
        exact h9
      exact W.zret hx hb hr rfl (fun t ht hW => ⟨⟨_, (ce, co, va_up rw r0 (va_cpy (rw r0) (rw r0) (k + 1) k ((m_r mm r0).length - 1 - k)), upd le r0 (nI ((m_r mm r0).length - 1)), el, ec, nd, pa, nc), rfl, ⟨by simp [b2_, hmem], hq⟩, by rw [ht]; exact hP, hD⟩, hS.F ht⟩) hS.2.2 d_R_takeElement_52
    · skip
      exact absurd h9 (ov_ne (i := k) (by have := ix_lt hfi; omega))
