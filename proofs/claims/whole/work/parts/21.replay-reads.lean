/-! Replay: what it has -/
set_option maxHeartbeats 4000000 in
set_option maxRecDepth 100000 in
theorem m_R_hasElement (l : Launch) (D : va_G) (cA : Nat → ClassId) (ad : Nat → Nat) (ce : Nat → Int32) (co : Nat → Int64) (rw : Nat → Nat → Int32) (le el : Nat → Int32) (ec : Int32) (nd pa : Nat → Int32) (nc : Int32) (x : Int32) (mm : me_T) (hc : cr_ mm ce co rw le el ec nd pa nc) (hw : mw_ mm) : Met l y_R_hasElement (.code y_R_hasElement c_R_hasElement 2 (some .boolean) :: G_) ({ frames := 1, cells := 0, slots := 0, locals := 24 }) (va_Pc [.ref (ad 0), .int x] (pr_ D cA (wR cA ad ce co rw le el ec nd pa nc))) (vp_Si (fun r => r = b2_ (decide (x ∈ (m_e mm))))) 0 0 (fun _ => False) := by
  refine Met.ofW (cc := c_R_hasElement) (maxL := 2) (ret := (some .boolean)) (by decide) rfl ?_
  intro p e s m args below meth c s₁ B hml hv
  obtain ⟨rfl, hP, hK, hN⟩ := hv
  have hx := B.exec
  have hb := B.bytes
  have hr := B.returns
  have hts := atoms_spec (ws := (.code y_R_hasElement c_R_hasElement 2 (some .boolean) :: G_)) B.pre
  have hg : ∀ w ∈ G_, w.before ([.ref (ad 0), .int x] : List Value).toArray s = true := fun w h => hts w (List.mem_cons_of_mem _ h)
  have hown : s.vm.findClass RR = some m.cls := findClass_of_methodNamed B.named
  have hlocks := B.notSynchronized
  have hl := lv_entry ([.ref (ad 0), .int x]) (n := 2) (Nat.le_of_ble_eq_true rfl)
  rw [lg_entry_eq]
  generalize (lg_sl ([.ref (ad 0), .int x]) ++ List.replicate (2 - (lg_sl ([.ref (ad 0), .int x])).length) Slot.unset).toArray = ls at hl ⊢
  have hl : lv_has ls 2 [(0, .ref (ad 0)), (1, .int x)] := hl
  obtain ⟨hc1, hc2, hc3, hc4, hc5, hc6, hc7, hc8⟩ := hc
  obtain ⟨hw1, hw2, hw3, hw4, hw5, hw6, hw7, hw8, hw9⟩ := hw
  subst hc4
  refine lv_aload_n hx hb d_R_hasElement_0 rfl (lv_at hl 0 rfl) ?_
  refine va_get (D := D) (ci := 0) (v := .ref (ad 8)) (C := RR) (T := TR) (N := 9) hx hb hg inR hown hK hP 0 rfl rfl 4 (by decide) (hg _ fl_R_27) (fun _ h9 => h9) rfl d_R_hasElement_1 ?_
  refine lv_aload_n hx hb d_R_hasElement_4 rfl (lv_at hl 0 rfl) ?_
  refine va_get (D := D) (ci := 0) (v := .int (nI (m_e mm).length)) (C := RR) (T := TR) (N := 9) hx hb hg inR hown hK hP 0 rfl rfl 5 (by decide) (hg _ fl_R_45) (fun _ h9 => h9) rfl d_R_hasElement_5 ?_
  refine lv_iload_n hx hb d_R_hasElement_8 rfl (lv_at hl 1 rfl) ?_
  refine vp_callSi (va_Run.run (va_runS (As := [.ref (ad 8), .int (nI (m_e mm).length), .int x]) (rest := []) ⟨hx, hb, hml, hown, hg⟩ (m_R_search l D cA (ad 8) 120 (m_e mm).length el x (by omega) (by omega) (pw_f hc5 hw4)) (cwS 3 hg (gd_S ml_R_107 sm_R_search ini_R cd_R_search) rfl rfl rfl (by decide +kernel) ⟨Nat.le_of_ble_eq_true rfl, Nat.le_of_ble_eq_true rfl⟩) (ps_r (hP.sub (ws' := [(ad 8, .inl (cA 0, 120, .inl el))]) [8] rfl) hK hN) rfl rfl hl.1 rfl (lv_room (Nat.le_of_ble_eq_true rfl)) d_R_hasElement_9 ⟨Nat.zero_le _, Nat.zero_le _⟩)) (fun r9 e9 => ?_)
  subst e9
  refine lv_iconst (v := (-1)) hx hb d_R_hasElement_12 (by decide) ?_
  refine lv_icmp_eq (tgt := 20) hx hb d_R_hasElement_13 (by decide) (fun h13 => ?_) (fun h13 => ?_)
  · skip
    have hm := (fi_mem hc5 (by omega) x).mp h13
    refine lv_iconst (v := 0) hx hb d_R_hasElement_20 (by decide) ?_
    exact W.zret hx hb hr rfl (fun t ht hW => ⟨_, rfl, by simp [b2_, hm], ht⟩) (fun q h => absurd h List.not_mem_nil) d_R_hasElement_21
  · skip
    have hm : x ∈ (m_e mm) := Decidable.not_not.mp (fun h => h13 ((fi_mem hc5 (by omega) x).mpr h))
    refine lv_iconst (v := 1) hx hb d_R_hasElement_16 (by decide) ?_
    refine lv_goto (tgt := 21) hx hb d_R_hasElement_17 (by decide) ?_
    exact W.zret hx hb hr rfl (fun t ht hW => ⟨_, rfl, by simp [b2_, hm], ht⟩) (fun q h => absurd h List.not_mem_nil) d_R_hasElement_21

set_option maxHeartbeats 4000000 in
set_option maxRecDepth 100000 in
theorem m_R_hasNode (l : Launch) (D : va_G) (cA : Nat → ClassId) (ad : Nat → Nat) (ce : Nat → Int32) (co : Nat → Int64) (rw : Nat → Nat → Int32) (le el : Nat → Int32) (ec : Int32) (nd pa : Nat → Int32) (nc : Int32) (x : Int32) (mm : me_T) (hc : cr_ mm ce co rw le el ec nd pa nc) (hw : mw_ mm) : Met l y_R_hasNode (.code y_R_hasNode c_R_hasNode 2 (some .boolean) :: G_) ({ frames := 1, cells := 0, slots := 0, locals := 24 }) (va_Pc [.ref (ad 0), .int x] (pr_ D cA (wR cA ad ce co rw le el ec nd pa nc))) (vp_Si (fun r => r = b2_ (decide (x ∈ (m_n mm))))) 0 0 (fun _ => False) := by
  refine Met.ofW (cc := c_R_hasNode) (maxL := 2) (ret := (some .boolean)) (by decide) rfl ?_
  intro p e s m args below meth c s₁ B hml hv
  obtain ⟨rfl, hP, hK, hN⟩ := hv
  have hx := B.exec
  have hb := B.bytes
  have hr := B.returns
  have hts := atoms_spec (ws := (.code y_R_hasNode c_R_hasNode 2 (some .boolean) :: G_)) B.pre
  have hg : ∀ w ∈ G_, w.before ([.ref (ad 0), .int x] : List Value).toArray s = true := fun w h => hts w (List.mem_cons_of_mem _ h)
  have hown : s.vm.findClass RR = some m.cls := findClass_of_methodNamed B.named
  have hlocks := B.notSynchronized
  have hl := lv_entry ([.ref (ad 0), .int x]) (n := 2) (Nat.le_of_ble_eq_true rfl)
  rw [lg_entry_eq]
  generalize (lg_sl ([.ref (ad 0), .int x]) ++ List.replicate (2 - (lg_sl ([.ref (ad 0), .int x])).length) Slot.unset).toArray = ls at hl ⊢
  have hl : lv_has ls 2 [(0, .ref (ad 0)), (1, .int x)] := hl
  obtain ⟨hc1, hc2, hc3, hc4, hc5, hc6, hc7, hc8⟩ := hc
  obtain ⟨hw1, hw2, hw3, hw4, hw5, hw6, hw7, hw8, hw9⟩ := hw
  subst hc6
  refine lv_aload_n hx hb d_R_hasNode_0 rfl (lv_at hl 0 rfl) ?_
  refine va_get (D := D) (ci := 0) (v := .ref (ad 9)) (C := RR) (T := TR) (N := 9) hx hb hg inR hown hK hP 0 rfl rfl 6 (by decide) (hg _ fl_R_30) (fun _ h9 => h9) rfl d_R_hasNode_1 ?_
  refine lv_aload_n hx hb d_R_hasNode_4 rfl (lv_at hl 0 rfl) ?_
  refine va_get (D := D) (ci := 0) (v := .int (nI (m_n mm).length)) (C := RR) (T := TR) (N := 9) hx hb hg inR hown hK hP 0 rfl rfl 8 (by decide) (hg _ fl_R_49) (fun _ h9 => h9) rfl d_R_hasNode_5 ?_
  refine lv_iload_n hx hb d_R_hasNode_8 rfl (lv_at hl 1 rfl) ?_
  refine vp_callSi (va_Run.run (va_runS (As := [.ref (ad 9), .int (nI (m_n mm).length), .int x]) (rest := []) ⟨hx, hb, hml, hown, hg⟩ (m_R_search l D cA (ad 9) 200 (m_n mm).length nd x (by omega) (by omega) (pw_f hc7 hw5)) (cwS 3 hg (gd_S ml_R_107 sm_R_search ini_R cd_R_search) rfl rfl rfl (by decide +kernel) ⟨Nat.le_of_ble_eq_true rfl, Nat.le_of_ble_eq_true rfl⟩) (ps_r (hP.sub (ws' := [(ad 9, .inl (cA 0, 200, .inl nd))]) [9] rfl) hK hN) rfl rfl hl.1 rfl (lv_room (Nat.le_of_ble_eq_true rfl)) d_R_hasNode_9 ⟨Nat.zero_le _, Nat.zero_le _⟩)) (fun r9 e9 => ?_)
  subst e9
  refine lv_iconst (v := (-1)) hx hb d_R_hasNode_12 (by decide) ?_
  refine lv_icmp_eq (tgt := 20) hx hb d_R_hasNode_13 (by decide) (fun h13 => ?_) (fun h13 => ?_)
  · skip
    have hm := (fi_mem hc7 (by omega) x).mp h13
    refine lv_iconst (v := 0) hx hb d_R_hasNode_20 (by decide) ?_
    exact W.zret hx hb hr rfl (fun t ht hW => ⟨_, rfl, by simp [b2_, hm], ht⟩) (fun q h => absurd h List.not_mem_nil) d_R_hasNode_21
  · skip
    have hm : x ∈ (m_n mm) := Decidable.not_not.mp (fun h => h13 ((fi_mem hc7 (by omega) x).mpr h))
    refine lv_iconst (v := 1) hx hb d_R_hasNode_16 (by decide) ?_
    refine lv_goto (tgt := 21) hx hb d_R_hasNode_17 (by decide) ?_
    exact W.zret hx hb hr rfl (fun t ht hW => ⟨_, rfl, by simp [b2_, hm], ht⟩) (fun q h => absurd h List.not_mem_nil) d_R_hasNode_21

set_option maxHeartbeats 4000000 in
set_option maxRecDepth 100000 in
theorem m_R_parentOf (l : Launch) (D : va_G) (cA : Nat → ClassId) (ad : Nat → Nat) (ce : Nat → Int32) (co : Nat → Int64) (rw : Nat → Nat → Int32) (le el : Nat → Int32) (ec : Int32) (nd pa : Nat → Int32) (nc : Int32) (x : Int32) (mm : me_T) (hc : cr_ mm ce co rw le el ec nd pa nc) (hw : mw_ mm) : Met l y_R_parentOf (.code y_R_parentOf c_R_parentOf 3 (some .int) :: G_) ({ frames := 1, cells := 0, slots := 0, locals := 24 }) (va_Pc [.ref (ad 0), .int x] (pr_ D cA (wR cA ad ce co rw le el ec nd pa nc))) (vp_Si (fun r => r = if x ∈ m_n mm then m_p mm x else -1)) 0 0 (fun _ => False) := by
  refine Met.ofW (cc := c_R_parentOf) (maxL := 3) (ret := (some .int)) (by decide) rfl ?_
  intro p e s m args below meth c s₁ B hml hv
  obtain ⟨rfl, hP, hK, hN⟩ := hv
  have hx := B.exec
  have hb := B.bytes
  have hr := B.returns
  have hts := atoms_spec (ws := (.code y_R_parentOf c_R_parentOf 3 (some .int) :: G_)) B.pre
  have hg : ∀ w ∈ G_, w.before ([.ref (ad 0), .int x] : List Value).toArray s = true := fun w h => hts w (List.mem_cons_of_mem _ h)
  have hown : s.vm.findClass RR = some m.cls := findClass_of_methodNamed B.named
  have hlocks := B.notSynchronized
  have hl := lv_entry ([.ref (ad 0), .int x]) (n := 3) (Nat.le_of_ble_eq_true rfl)
  rw [lg_entry_eq]
  generalize (lg_sl ([.ref (ad 0), .int x]) ++ List.replicate (3 - (lg_sl ([.ref (ad 0), .int x])).length) Slot.unset).toArray = ls at hl ⊢
  have hl : lv_has ls 3 [(0, .ref (ad 0)), (1, .int x)] := hl
  obtain ⟨hc1, hc2, hc3, hc4, hc5, hc6, hc7, hc8⟩ := hc
  obtain ⟨hw1, hw2, hw3, hw4, hw5, hw6, hw7, hw8, hw9⟩ := hw
  subst hc6
  refine lv_aload_n hx hb d_R_parentOf_0 rfl (lv_at hl 0 rfl) ?_
  refine va_get (D := D) (ci := 0) (v := .ref (ad 9)) (C := RR) (T := TR) (N := 9) hx hb hg inR hown hK hP 0 rfl rfl 6 (by decide) (hg _ fl_R_30) (fun _ h9 => h9) rfl d_R_parentOf_1 ?_
  refine lv_aload_n hx hb d_R_parentOf_4 rfl (lv_at hl 0 rfl) ?_
  refine va_get (D := D) (ci := 0) (v := .int (nI (m_n mm).length)) (C := RR) (T := TR) (N := 9) hx hb hg inR hown hK hP 0 rfl rfl 8 (by decide) (hg _ fl_R_49) (fun _ h9 => h9) rfl d_R_parentOf_5 ?_
  refine lv_iload_n hx hb d_R_parentOf_8 rfl (lv_at hl 1 rfl) ?_
  refine vp_callSi (va_Run.run (va_runS (As := [.ref (ad 9), .int (nI (m_n mm).length), .int x]) (rest := []) ⟨hx, hb, hml, hown, hg⟩ (m_R_search l D cA (ad 9) 200 (m_n mm).length nd x (by omega) (by omega) (pw_f hc7 hw5)) (cwS 3 hg (gd_S ml_R_107 sm_R_search ini_R cd_R_search) rfl rfl rfl (by decide +kernel) ⟨Nat.le_of_ble_eq_true rfl, Nat.le_of_ble_eq_true rfl⟩) (ps_r (hP.sub (ws' := [(ad 9, .inl (cA 0, 200, .inl nd))]) [9] rfl) hK hN) rfl rfl hl.1 rfl (lv_room (Nat.le_of_ble_eq_true rfl)) d_R_parentOf_9 ⟨Nat.zero_le _, Nat.zero_le _⟩)) (fun r9 e9 => ?_)
  subst e9
  rcases hfi : fi_ (fun i => decide (nd i = x)) (m_n mm).length with _ | k
  · skip
    refine toi_ (y := -1) rfl ?_
    refine lv_istore_n (lv' := [(2, .int (-1)), (0, .ref (ad 0)), (1, .int x)]) hx hb d_R_parentOf_12 rfl hl (by decide) rfl (fun ls hl => ?_)
    refine lv_iload_n hx hb d_R_parentOf_13 rfl (lv_at hl 0 rfl) ?_
    refine lv_iconst (v := (-1)) hx hb d_R_parentOf_14 (by decide) ?_
    refine lv_icmp_ne (tgt := 22) hx hb d_R_parentOf_15 (by decide) (fun h15 => ?_) (fun h15 => ?_)
    · skip
      exact absurd rfl h15
    · skip
      have hmem : x ∉ m_n mm := (fi_mem hc7 (by omega) x).mp (by rw [hfi]; rfl)
      refine lv_iconst (v := (-1)) hx hb d_R_parentOf_18 (by decide) ?_
      refine lv_goto (tgt := 28) hx hb d_R_parentOf_19 (by decide) ?_
      exact W.iret hx hb hr (fun t ht hW => ⟨_, rfl, by rw [if_neg hmem], ht⟩) (fun q h => absurd h List.not_mem_nil) d_R_parentOf_28
  · skip
    refine toi_ (y := nI k) rfl ?_
    refine lv_istore_n (lv' := [(2, .int (nI k)), (0, .ref (ad 0)), (1, .int x)]) hx hb d_R_parentOf_12 rfl hl (by decide) rfl (fun ls hl => ?_)
    refine lv_iload_n hx hb d_R_parentOf_13 rfl (lv_at hl 0 rfl) ?_
    refine lv_iconst (v := (-1)) hx hb d_R_parentOf_14 (by decide) ?_
    refine lv_icmp_ne (tgt := 22) hx hb d_R_parentOf_15 (by decide) (fun h15 => ?_) (fun h15 => ?_)
    · skip
      have hik := fi_some hfi
      have hlt := hik.1
      have hnx : nd k = x := by simpa using hik.2.1
      have hmem : x ∈ m_n mm := hnx ▸ rl_get hc7 hlt
      refine lv_aload_n hx hb d_R_parentOf_22 rfl (lv_at hl 1 rfl) ?_
      refine va_get (D := D) (ci := 0) (v := .ref (ad 10)) (C := RR) (T := TR) (N := 9) hx hb hg inR hown hK hP 0 rfl rfl 7 (by decide) (hg _ fl_R_33) (fun _ h9 => h9) rfl d_R_parentOf_23 ?_
      refine lv_iload_n hx hb d_R_parentOf_26 rfl (lv_at hl 0 rfl) ?_
      refine va_iald hx hb hK hP 10 0 rfl rfl (vp_in_nI (n := k) (N := 200) (by omega) (by omega)) d_R_parentOf_27 ?_
      refine toi_ (y := pa k) (by rw [nI_clamp (by omega)]) ?_
      exact W.iret hx hb hr (fun t ht hW => ⟨_, rfl, by rw [if_pos hmem, hc8 k hlt, hnx], ht⟩) (fun q h => absurd h List.not_mem_nil) d_R_parentOf_28
    · skip
      exact absurd h15 (ov_ne (i := k) (by have := (fi_some hfi).1; omega))

set_option maxHeartbeats 4000000 in
set_option maxRecDepth 100000 in
theorem m_R_isAtOrBelow (l : Launch) (D : va_G) (cA : Nat → ClassId) (ad : Nat → Nat) (ce : Nat → Int32) (co : Nat → Int64) (rw : Nat → Nat → Int32) (le el : Nat → Int32) (ec : Int32) (nd pa : Nat → Int32) (nc : Int32) (lo hi : Int32) (mm : me_T) (hc : cr_ mm ce co rw le el ec nd pa nc) (hw : mw_ mm) : Met l y_R_isAtOrBelow (.code y_R_isAtOrBelow c_R_isAtOrBelow 6 (some .boolean) :: G_) ({ frames := 1, cells := 0, slots := 0, locals := 24 }) (va_Pc [.ref (ad 0), .int lo, .int hi] (pr_ D cA (wR cA ad ce co rw le el ec nd pa nc))) (vp_Si (fun r => r = b2_ (bl_ (m_n mm) (m_p mm) hi ((m_n mm).length + 1) lo))) 0 0 (fun _ => False) := by
  refine Met.ofW (cc := c_R_isAtOrBelow) (maxL := 6) (ret := (some .boolean)) (by decide) rfl ?_
  intro p e s m args below meth c s₁ B hml hv
  obtain ⟨rfl, hP, hK, hN⟩ := hv
  have hx := B.exec
  have hb := B.bytes
  have hr := B.returns
  have hts := atoms_spec (ws := (.code y_R_isAtOrBelow c_R_isAtOrBelow 6 (some .boolean) :: G_)) B.pre
  have hg : ∀ w ∈ G_, w.before ([.ref (ad 0), .int lo, .int hi] : List Value).toArray s = true := fun w h => hts w (List.mem_cons_of_mem _ h)
  have hown : s.vm.findClass RR = some m.cls := findClass_of_methodNamed B.named
  have hlocks := B.notSynchronized
  have hl := lv_entry ([.ref (ad 0), .int lo, .int hi]) (n := 6) (Nat.le_of_ble_eq_true rfl)
  rw [lg_entry_eq]
  generalize (lg_sl ([.ref (ad 0), .int lo, .int hi]) ++ List.replicate (6 - (lg_sl ([.ref (ad 0), .int lo, .int hi])).length) Slot.unset).toArray = ls at hl ⊢
  have hl : lv_has ls 6 [(0, .ref (ad 0)), (1, .int lo), (2, .int hi)] := hl
  obtain ⟨hc1, hc2, hc3, hc4, hc5, hc6, hc7, hc8⟩ := hc
  obtain ⟨hw1, hw2, hw3, hw4, hw5, hw6, hw7, hw8, hw9⟩ := hw
  subst hc6
  have loop : ∀ (d i : Nat) (q : Int32) (ls : Array Slot), i + d = (m_n mm).length + 1 → bl_ (m_n mm) (m_p mm) hi d q = bl_ (m_n mm) (m_p mm) hi ((m_n mm).length + 1) lo → lv_has ls 6 [(4, .int (nI i)), (3, .int q), (0, .ref (ad 0)), (1, .int lo), (2, .int hi)] → W p l e (headSpec (.code y_R_isAtOrBelow c_R_isAtOrBelow 6 (some .boolean) :: G_) ({ frames := 1, cells := 0, slots := 0, locals := 24 })).room s m ([.ref (ad 0), .int lo, .int hi] : List Value).toArray below meth c s.heap [] 0 0 (MQ below (vp_Si (fun r => r = b2_ (bl_ (m_n mm) (m_p mm) hi ((m_n mm).length + 1) lo))) ([.ref (ad 0), .int lo, .int hi] : List Value).toArray s 0 0 (fun _ => False)) (F0 m 5 ls []) := by
    intro d
    induction d with
    | zero =>
      intro i q ls hid hbl hl
      have hi2 : i = (m_n mm).length + 1 := by omega
      subst hi2
      refine lv_iload hx hb d_R_isAtOrBelow_5 (lv_at hl 0 rfl) ?_
      refine lv_aload_n hx hb d_R_isAtOrBelow_7 rfl (lv_at hl 2 rfl) ?_
      refine va_get (D := D) (ci := 0) (v := .int (nI (m_n mm).length)) (C := RR) (T := TR) (N := 9) hx hb hg inR hown hK hP 0 rfl rfl 8 (by decide) (hg _ fl_R_49) (fun _ h9 => h9) rfl d_R_isAtOrBelow_8 ?_
      refine lv_icmp_gt (tgt := 63) hx hb d_R_isAtOrBelow_11 (by decide) (fun h11 => ?_) (fun h11 => ?_)
      · skip
        refine lv_iconst (v := 0) hx hb d_R_isAtOrBelow_63 (by decide) ?_
        exact W.zret hx hb hr rfl (fun t ht hW => ⟨_, rfl, by rw [← hbl]; rfl, ht⟩) (fun q h => absurd h List.not_mem_nil) d_R_isAtOrBelow_64
      · skip
        exact absurd (nI_lt (Nat.lt_succ_self _) (by omega)) h11
    | succ d ih =>
      intro i q ls hid hbl hl
      rw [bl_s] at hbl
      refine lv_iload hx hb d_R_isAtOrBelow_5 (lv_at hl 0 rfl) ?_
      refine lv_aload_n hx hb d_R_isAtOrBelow_7 rfl (lv_at hl 2 rfl) ?_
      refine va_get (D := D) (ci := 0) (v := .int (nI (m_n mm).length)) (C := RR) (T := TR) (N := 9) hx hb hg inR hown hK hP 0 rfl rfl 8 (by decide) (hg _ fl_R_49) (fun _ h9 => h9) rfl d_R_isAtOrBelow_8 ?_
      refine lv_icmp_gt (tgt := 63) hx hb d_R_isAtOrBelow_11 (by decide) (fun h11 => ?_) (fun h11 => ?_)
      · skip
        exact absurd h11 (nI_nlt (by omega) (by omega))
      · skip
        refine lv_iload_n hx hb d_R_isAtOrBelow_14 rfl (lv_at hl 1 rfl) ?_
        refine lv_if_le (tgt := 63) hx hb d_R_isAtOrBelow_15 (by decide) (fun h15 => ?_) (fun h15 => ?_)
        · skip
          have hq0 : ¬ 0 < q := by rw [Int32.le_iff_toInt_le] at h15; rw [Int32.lt_iff_toInt_lt]; omega
          rw [if_neg hq0] at hbl
          refine lv_iconst (v := 0) hx hb d_R_isAtOrBelow_63 (by decide) ?_
          exact W.zret hx hb hr rfl (fun t ht hW => ⟨_, rfl, by rw [← hbl]; rfl, ht⟩) (fun q h => absurd h List.not_mem_nil) d_R_isAtOrBelow_64
        · skip
          have hq0 : 0 < q := by rw [Int32.le_iff_toInt_le] at h15; rw [Int32.lt_iff_toInt_lt]; omega
          rw [if_pos hq0] at hbl
          refine lv_iload_n hx hb d_R_isAtOrBelow_18 rfl (lv_at hl 1 rfl) ?_
          refine lv_iload_n hx hb d_R_isAtOrBelow_19 rfl (lv_at hl 4 rfl) ?_
          refine lv_icmp_ne (tgt := 25) hx hb d_R_isAtOrBelow_20 (by decide) (fun h20 => ?_) (fun h20 => ?_)
          · skip
            rw [if_neg h20] at hbl
            refine lv_aload_n hx hb d_R_isAtOrBelow_25 rfl (lv_at hl 2 rfl) ?_
            refine va_get (D := D) (ci := 0) (v := .ref (ad 9)) (C := RR) (T := TR) (N := 9) hx hb hg inR hown hK hP 0 rfl rfl 6 (by decide) (hg _ fl_R_30) (fun _ h9 => h9) rfl d_R_isAtOrBelow_26 ?_
            refine lv_aload_n hx hb d_R_isAtOrBelow_29 rfl (lv_at hl 2 rfl) ?_
            refine va_get (D := D) (ci := 0) (v := .int (nI (m_n mm).length)) (C := RR) (T := TR) (N := 9) hx hb hg inR hown hK hP 0 rfl rfl 8 (by decide) (hg _ fl_R_49) (fun _ h9 => h9) rfl d_R_isAtOrBelow_30 ?_
            refine lv_iload_n hx hb d_R_isAtOrBelow_33 rfl (lv_at hl 1 rfl) ?_
            refine vp_callSi (va_Run.run (va_runS (As := [.ref (ad 9), .int (nI (m_n mm).length), .int q]) (rest := []) ⟨hx, hb, hml, hown, hg⟩ (m_R_search l D cA (ad 9) 200 (m_n mm).length nd q (by omega) (by omega) (pw_f hc7 hw5)) (cwS 3 hg (gd_S ml_R_107 sm_R_search ini_R cd_R_search) rfl rfl rfl (by decide +kernel) ⟨Nat.le_of_ble_eq_true rfl, Nat.le_of_ble_eq_true rfl⟩) (ps_r (hP.sub (ws' := [(ad 9, .inl (cA 0, 200, .inl nd))]) [9] rfl) hK hN) rfl rfl hl.1 rfl (lv_room (Nat.le_of_ble_eq_true rfl)) d_R_isAtOrBelow_34 ⟨Nat.zero_le _, Nat.zero_le _⟩)) (fun r34 e34 => ?_)
            subst e34
            rcases hfi : fi_ (fun i => decide (nd i = q)) (m_n mm).length with _ | k
            · skip
              refine toi_ (y := -1) rfl ?_
              refine lv_istore (lv' := [(5, .int (-1)), (4, .int (nI i)), (3, .int q), (0, .ref (ad 0)), (1, .int lo), (2, .int hi)]) hx hb d_R_isAtOrBelow_37 hl (by decide) rfl (fun ls hl => ?_)
              refine lv_iload hx hb d_R_isAtOrBelow_39 (lv_at hl 0 rfl) ?_
              refine lv_iconst (v := (-1)) hx hb d_R_isAtOrBelow_41 (by decide) ?_
              refine lv_icmp_ne (tgt := 49) hx hb d_R_isAtOrBelow_42 (by decide) (fun h42 => ?_) (fun h42 => ?_)
              · skip
                exact absurd rfl h42
              · skip
                have hmem : q ∉ m_n mm := (fi_mem hc7 (by omega) q).mp (by rw [hfi]; rfl)
                refine lv_iconst (v := (-1)) hx hb d_R_isAtOrBelow_45 (by decide) ?_
                refine lv_goto (tgt := 56) hx hb d_R_isAtOrBelow_46 (by decide) ?_
                refine lv_istore_n (lv' := [(3, .int (-1)), (5, .int (-1)), (4, .int (nI i)), (0, .ref (ad 0)), (1, .int lo), (2, .int hi)]) hx hb d_R_isAtOrBelow_56 rfl hl (by decide) rfl (fun ls hl => ?_)
                refine lv_iinc (k := 2) (v := nI (i + 1)) (lv' := [(4, .int (nI (i + 1))), (3, .int (-1)), (5, .int (-1)), (0, .ref (ad 0)), (1, .int lo), (2, .int hi)]) hx hb d_R_isAtOrBelow_57 hl rfl (inc_ _) (by decide) rfl (fun ls hl => ?_)
                refine lv_goto (tgt := 5) hx hb d_R_isAtOrBelow_60 (by decide) ?_
                have hl := lv_sub hl [0, 1, 3, 4, 5] (l' := [(4, .int (nI (i + 1))), (3, .int (-1)), (0, .ref (ad 0)), (1, .int lo), (2, .int hi)]) rfl
                have hup : up_ (m_n mm) (m_p mm) q = -1 := if_neg hmem
                rw [hup] at hbl
                exact ih (i + 1) _ ls (by omega) hbl hl
            · skip
              refine toi_ (y := nI k) rfl ?_
              refine lv_istore (lv' := [(5, .int (nI k)), (4, .int (nI i)), (3, .int q), (0, .ref (ad 0)), (1, .int lo), (2, .int hi)]) hx hb d_R_isAtOrBelow_37 hl (by decide) rfl (fun ls hl => ?_)
              refine lv_iload hx hb d_R_isAtOrBelow_39 (lv_at hl 0 rfl) ?_
              refine lv_iconst (v := (-1)) hx hb d_R_isAtOrBelow_41 (by decide) ?_
              refine lv_icmp_ne (tgt := 49) hx hb d_R_isAtOrBelow_42 (by decide) (fun h42 => ?_) (fun h42 => ?_)
              · skip
                have hik := fi_some hfi
                have hlt := hik.1
                have hnx : nd k = q := by simpa using hik.2.1
                have hmem : q ∈ m_n mm := hnx ▸ rl_get hc7 hlt
                refine lv_aload_n hx hb d_R_isAtOrBelow_49 rfl (lv_at hl 3 rfl) ?_
                refine va_get (D := D) (ci := 0) (v := .ref (ad 10)) (C := RR) (T := TR) (N := 9) hx hb hg inR hown hK hP 0 rfl rfl 7 (by decide) (hg _ fl_R_33) (fun _ h9 => h9) rfl d_R_isAtOrBelow_50 ?_
                refine lv_iload hx hb d_R_isAtOrBelow_53 (lv_at hl 0 rfl) ?_
                refine va_iald hx hb hK hP 10 0 rfl rfl (vp_in_nI (n := k) (N := 200) (by omega) (by omega)) d_R_isAtOrBelow_55 ?_
                refine toi_ (y := pa k) (by rw [nI_clamp (by omega)]) ?_
                refine lv_istore_n (lv' := [(3, .int (pa k)), (5, .int (nI k)), (4, .int (nI i)), (0, .ref (ad 0)), (1, .int lo), (2, .int hi)]) hx hb d_R_isAtOrBelow_56 rfl hl (by decide) rfl (fun ls hl => ?_)
                refine lv_iinc (k := 2) (v := nI (i + 1)) (lv' := [(4, .int (nI (i + 1))), (3, .int (pa k)), (5, .int (nI k)), (0, .ref (ad 0)), (1, .int lo), (2, .int hi)]) hx hb d_R_isAtOrBelow_57 hl rfl (inc_ _) (by decide) rfl (fun ls hl => ?_)
                refine lv_goto (tgt := 5) hx hb d_R_isAtOrBelow_60 (by decide) ?_
                have hl := lv_sub hl [0, 1, 3, 4, 5] (l' := [(4, .int (nI (i + 1))), (3, .int (pa k)), (0, .ref (ad 0)), (1, .int lo), (2, .int hi)]) rfl
                have hup : up_ (m_n mm) (m_p mm) q = pa k := by unfold up_; rw [if_pos hmem, hc8 k hlt, hnx]
                rw [hup] at hbl
                exact ih (i + 1) _ ls (by omega) hbl hl
              · skip
                exact absurd h42 (ov_ne (i := k) (by have := (fi_some hfi).1; omega))
          · skip
            rw [if_pos h20] at hbl
            refine lv_iconst (v := 1) hx hb d_R_isAtOrBelow_23 (by decide) ?_
            exact W.zret hx hb hr rfl (fun t ht hW => ⟨_, rfl, by rw [← hbl]; rfl, ht⟩) (fun q h => absurd h List.not_mem_nil) d_R_isAtOrBelow_24
  refine lv_iload_n hx hb d_R_isAtOrBelow_0 rfl (lv_at hl 1 rfl) ?_
  refine lv_istore_n (lv' := [(3, .int lo), (0, .ref (ad 0)), (1, .int lo), (2, .int hi)]) hx hb d_R_isAtOrBelow_1 rfl hl (by decide) rfl (fun ls hl => ?_)
  refine lv_iconst (v := 0) hx hb d_R_isAtOrBelow_2 (by decide) ?_
  refine lv_istore (lv' := [(4, .int 0), (3, .int lo), (0, .ref (ad 0)), (1, .int lo), (2, .int hi)]) hx hb d_R_isAtOrBelow_3 hl (by decide) rfl (fun ls hl => ?_)
  have hl := lv_sub hl [0, 1, 2, 3, 4] (l' := [(4, .int (nI 0)), (3, .int lo), (0, .ref (ad 0)), (1, .int lo), (2, .int hi)]) rfl
  exact loop ((m_n mm).length + 1) 0 lo ls (by omega) rfl hl

set_option maxHeartbeats 4000000 in
set_option maxRecDepth 100000 in
theorem m_R_isImpossible (l : Launch) (D : va_G) (cA : Nat → ClassId) (ad : Nat → Nat) (ce : Nat → Int32) (co : Nat → Int64) (rw : Nat → Nat → Int32) (le el : Nat → Int32) (ec : Int32) (nd pa : Nat → Int32) (nc : Int32) (sp pl : Nat) (x : st_T) (b : Bool) (hk : kd_ x) (mm : me_T) (hc : cr_ mm ce co rw le el ec nd pa nc) (hw : mw_ mm) : Met l y_R_isImpossible (.code y_R_isImpossible c_R_isImpossible 2 (some .boolean) :: G_) ({ frames := 2, cells := 0, slots := 0, locals := 49 }) (va_Pc [.ref (ad 0), .ref sp] (pr_ D cA ((wR cA ad ce co rw le el ec nd pa nc) ++ [(sp, cS x pl b)]))) (vp_Si (fun r => r = b2_ (im_ x mm))) 0 0 (fun _ => False) := by
  refine Met.ofW (cc := c_R_isImpossible) (maxL := 2) (ret := (some .boolean)) (by decide) rfl ?_
  intro p e s m args below meth c s₁ B hml hv
  obtain ⟨rfl, hP, hK, hN⟩ := hv
  have hx := B.exec
  have hb := B.bytes
  have hr := B.returns
  have hts := atoms_spec (ws := (.code y_R_isImpossible c_R_isImpossible 2 (some .boolean) :: G_)) B.pre
  have hg : ∀ w ∈ G_, w.before ([.ref (ad 0), .ref sp] : List Value).toArray s = true := fun w h => hts w (List.mem_cons_of_mem _ h)
  have hown : s.vm.findClass RR = some m.cls := findClass_of_methodNamed B.named
  have hlocks := B.notSynchronized
  have hl := lv_entry ([.ref (ad 0), .ref sp]) (n := 2) (Nat.le_of_ble_eq_true rfl)
  rw [lg_entry_eq]
  generalize (lg_sl ([.ref (ad 0), .ref sp]) ++ List.replicate (2 - (lg_sl ([.ref (ad 0), .ref sp])).length) Slot.unset).toArray = ls at hl ⊢
  have hl : lv_has ls 2 [(0, .ref (ad 0)), (1, .ref sp)] := hl
  refine lv_aload_n hx hb d_R_isImpossible_0 rfl (lv_at hl 1 rfl) ?_
  refine va_getN (D := D) (ci := 1) (v := .int (s_k x)) (C := RS) (T := TS) (N := 7) hx hb hg inS hown hK hP 11 rfl rfl 1 (by decide) (va_Nw.use rfl (hN.1 _ fn_R_60)) (fun _ h9 => h9) rfl d_R_isImpossible_1 ?_
  rcases hk with hk | hk | hk | hk | hk | hk | hk | hk
  · skip
    refine toi_ (y := 1) hk ?_
    refine lv_tableOut (tgt := 148) hx hb d_R_isImpossible_4 (by decide) (by decide) ?_
    refine lv_iconst (v := 0) hx hb d_R_isImpossible_148 (by decide) ?_
    exact W.zret hx hb hr rfl (fun t ht hW => ⟨_, rfl, by rw [im_123 mm (Or.inl hk)]; simp_all [b2_], ht⟩) (fun q h => absurd h List.not_mem_nil) d_R_isImpossible_149
  · skip
    refine toi_ (y := 2) hk ?_
    refine lv_tableOut (tgt := 148) hx hb d_R_isImpossible_4 (by decide) (by decide) ?_
    refine lv_iconst (v := 0) hx hb d_R_isImpossible_148 (by decide) ?_
    exact W.zret hx hb hr rfl (fun t ht hW => ⟨_, rfl, by rw [im_123 mm (Or.inr (Or.inl hk))]; simp_all [b2_], ht⟩) (fun q h => absurd h List.not_mem_nil) d_R_isImpossible_149
  · skip
    refine toi_ (y := 3) hk ?_
    refine lv_tableOut (tgt := 148) hx hb d_R_isImpossible_4 (by decide) (by decide) ?_
    refine lv_iconst (v := 0) hx hb d_R_isImpossible_148 (by decide) ?_
    exact W.zret hx hb hr rfl (fun t ht hW => ⟨_, rfl, by rw [im_123 mm (Or.inr (Or.inr hk))]; simp_all [b2_], ht⟩) (fun q h => absurd h List.not_mem_nil) d_R_isImpossible_149
  · skip
    refine toi_ (y := 4) hk ?_
    refine lv_tableIn (off := 36) (tgt := 40) hx hb d_R_isImpossible_4 (by decide) (by decide) rfl (by decide) ?_
    refine lv_aload_n hx hb d_R_isImpossible_40 rfl (lv_at hl 0 rfl) ?_
    refine lv_aload_n hx hb d_R_isImpossible_41 rfl (lv_at hl 1 rfl) ?_
    refine va_getN (D := D) (ci := 1) (v := .int (s_m x)) (C := RS) (T := TS) (N := 7) hx hb hg inS hown hK hP 11 rfl rfl 3 (by decide) (va_Nw.use rfl (hN.1 _ fn_R_65)) (fun _ h9 => h9) rfl d_R_isImpossible_42 ?_
    refine vp_callSi (va_Run.run (va_runV (C := RR) (As := [.int (s_m x)]) (rest := []) ⟨hx, hb, hml, hown, hg⟩ (m_R_hasElement l D cA ad ce co rw le el ec nd pa nc (s_m x) mm hc hw) (cwV 1 hg (gd_V ml_R_68 im_R_hasElement sl_R_hasElement ini_R cd_R_hasElement) rfl rfl rfl (by decide +kernel) ⟨Nat.le_of_ble_eq_true rfl, Nat.le_of_ble_eq_true rfl⟩) (pv_r (va_recv (q0 := 0) (ci := 0) hK hP rfl rfl) (wp_l hP) hK hN) rfl rfl hl.1 rfl (lv_room (Nat.le_of_ble_eq_true rfl)) d_R_isImpossible_45 ⟨Nat.zero_le _, Nat.zero_le _⟩)) (fun r45 e45 => ?_)
    subst e45
    refine lv_if_ne (tgt := 55) hx hb d_R_isImpossible_48 (by decide) (fun h48 => ?_) (fun h48 => ?_)
    · skip
      have q48 := b2_n.mp h48
      refine lv_iconst (v := 0) hx hb d_R_isImpossible_55 (by decide) ?_
      exact W.zret hx hb hr rfl (fun t ht hW => ⟨_, rfl, by rw [im_45 mm (Or.inl hk)]; simp_all [b2_], ht⟩) (fun q h => absurd h List.not_mem_nil) d_R_isImpossible_56
    · skip
      have q48 := b2_0.mp h48
      refine lv_iconst (v := 1) hx hb d_R_isImpossible_51 (by decide) ?_
      refine lv_goto (tgt := 56) hx hb d_R_isImpossible_52 (by decide) ?_
      exact W.zret hx hb hr rfl (fun t ht hW => ⟨_, rfl, by rw [im_45 mm (Or.inl hk)]; simp_all [b2_], ht⟩) (fun q h => absurd h List.not_mem_nil) d_R_isImpossible_56
  · skip
    refine toi_ (y := 5) hk ?_
    refine lv_tableIn (off := 36) (tgt := 40) hx hb d_R_isImpossible_4 (by decide) (by decide) rfl (by decide) ?_
    refine lv_aload_n hx hb d_R_isImpossible_40 rfl (lv_at hl 0 rfl) ?_
    refine lv_aload_n hx hb d_R_isImpossible_41 rfl (lv_at hl 1 rfl) ?_
    refine va_getN (D := D) (ci := 1) (v := .int (s_m x)) (C := RS) (T := TS) (N := 7) hx hb hg inS hown hK hP 11 rfl rfl 3 (by decide) (va_Nw.use rfl (hN.1 _ fn_R_65)) (fun _ h9 => h9) rfl d_R_isImpossible_42 ?_
    refine vp_callSi (va_Run.run (va_runV (C := RR) (As := [.int (s_m x)]) (rest := []) ⟨hx, hb, hml, hown, hg⟩ (m_R_hasElement l D cA ad ce co rw le el ec nd pa nc (s_m x) mm hc hw) (cwV 1 hg (gd_V ml_R_68 im_R_hasElement sl_R_hasElement ini_R cd_R_hasElement) rfl rfl rfl (by decide +kernel) ⟨Nat.le_of_ble_eq_true rfl, Nat.le_of_ble_eq_true rfl⟩) (pv_r (va_recv (q0 := 0) (ci := 0) hK hP rfl rfl) (wp_l hP) hK hN) rfl rfl hl.1 rfl (lv_room (Nat.le_of_ble_eq_true rfl)) d_R_isImpossible_45 ⟨Nat.zero_le _, Nat.zero_le _⟩)) (fun r45 e45 => ?_)
    subst e45
    refine lv_if_ne (tgt := 55) hx hb d_R_isImpossible_48 (by decide) (fun h48 => ?_) (fun h48 => ?_)
    · skip
      have q48 := b2_n.mp h48
      refine lv_iconst (v := 0) hx hb d_R_isImpossible_55 (by decide) ?_
      exact W.zret hx hb hr rfl (fun t ht hW => ⟨_, rfl, by rw [im_45 mm (Or.inr hk)]; simp_all [b2_], ht⟩) (fun q h => absurd h List.not_mem_nil) d_R_isImpossible_56
    · skip
      have q48 := b2_0.mp h48
      refine lv_iconst (v := 1) hx hb d_R_isImpossible_51 (by decide) ?_
      refine lv_goto (tgt := 56) hx hb d_R_isImpossible_52 (by decide) ?_
      exact W.zret hx hb hr rfl (fun t ht hW => ⟨_, rfl, by rw [im_45 mm (Or.inr hk)]; simp_all [b2_], ht⟩) (fun q h => absurd h List.not_mem_nil) d_R_isImpossible_56
  · skip
    refine toi_ (y := 6) hk ?_
    refine lv_tableIn (off := 53) (tgt := 57) hx hb d_R_isImpossible_4 (by decide) (by decide) rfl (by decide) ?_
    refine lv_aload_n hx hb d_R_isImpossible_57 rfl (lv_at hl 1 rfl) ?_
    refine va_getN (D := D) (ci := 1) (v := .int (s_m x)) (C := RS) (T := TS) (N := 7) hx hb hg inS hown hK hP 11 rfl rfl 3 (by decide) (va_Nw.use rfl (hN.1 _ fn_R_65)) (fun _ h9 => h9) rfl d_R_isImpossible_58 ?_
    refine lv_if_eq (tgt := 79) hx hb d_R_isImpossible_61 (by decide) (fun h61 => ?_) (fun h61 => ?_)
    · skip
      refine lv_iconst (v := 0) hx hb d_R_isImpossible_79 (by decide) ?_
      exact W.zret hx hb hr rfl (fun t ht hW => ⟨_, rfl, by rw [im_6 mm hk]; simp_all [b2_], ht⟩) (fun q h => absurd h List.not_mem_nil) d_R_isImpossible_80
    · skip
      refine lv_aload_n hx hb d_R_isImpossible_64 rfl (lv_at hl 0 rfl) ?_
      refine lv_aload_n hx hb d_R_isImpossible_65 rfl (lv_at hl 1 rfl) ?_
      refine va_getN (D := D) (ci := 1) (v := .int (s_m x)) (C := RS) (T := TS) (N := 7) hx hb hg inS hown hK hP 11 rfl rfl 3 (by decide) (va_Nw.use rfl (hN.1 _ fn_R_65)) (fun _ h9 => h9) rfl d_R_isImpossible_66 ?_
      refine vp_callSi (va_Run.run (va_runV (C := RR) (As := [.int (s_m x)]) (rest := []) ⟨hx, hb, hml, hown, hg⟩ (m_R_hasNode l D cA ad ce co rw le el ec nd pa nc (s_m x) mm hc hw) (cwV 1 hg (gd_V ml_R_72 im_R_hasNode sl_R_hasNode ini_R cd_R_hasNode) rfl rfl rfl (by decide +kernel) ⟨Nat.le_of_ble_eq_true rfl, Nat.le_of_ble_eq_true rfl⟩) (pv_r (va_recv (q0 := 0) (ci := 0) hK hP rfl rfl) (wp_l hP) hK hN) rfl rfl hl.1 rfl (lv_room (Nat.le_of_ble_eq_true rfl)) d_R_isImpossible_69 ⟨Nat.zero_le _, Nat.zero_le _⟩)) (fun r69 e69 => ?_)
      subst e69
      refine lv_if_ne (tgt := 79) hx hb d_R_isImpossible_72 (by decide) (fun h72 => ?_) (fun h72 => ?_)
      · skip
        have q72 := b2_n.mp h72
        refine lv_iconst (v := 0) hx hb d_R_isImpossible_79 (by decide) ?_
        exact W.zret hx hb hr rfl (fun t ht hW => ⟨_, rfl, by rw [im_6 mm hk]; simp_all [b2_], ht⟩) (fun q h => absurd h List.not_mem_nil) d_R_isImpossible_80
      · skip
        have q72 := b2_0.mp h72
        refine lv_iconst (v := 1) hx hb d_R_isImpossible_75 (by decide) ?_
        refine lv_goto (tgt := 80) hx hb d_R_isImpossible_76 (by decide) ?_
        exact W.zret hx hb hr rfl (fun t ht hW => ⟨_, rfl, by rw [im_6 mm hk]; simp_all [b2_], ht⟩) (fun q h => absurd h List.not_mem_nil) d_R_isImpossible_80
  · skip
    refine toi_ (y := 7) hk ?_
    refine lv_tableIn (off := 77) (tgt := 81) hx hb d_R_isImpossible_4 (by decide) (by decide) rfl (by decide) ?_
    refine lv_aload_n hx hb d_R_isImpossible_81 rfl (lv_at hl 0 rfl) ?_
    refine lv_aload_n hx hb d_R_isImpossible_82 rfl (lv_at hl 1 rfl) ?_
    refine va_getN (D := D) (ci := 1) (v := .int (s_t x)) (C := RS) (T := TS) (N := 7) hx hb hg inS hown hK hP 11 rfl rfl 2 (by decide) (va_Nw.use rfl (hN.1 _ fn_R_75)) (fun _ h9 => h9) rfl d_R_isImpossible_83 ?_
    refine vp_callSi (va_Run.run (va_runV (C := RR) (As := [.int (s_t x)]) (rest := []) ⟨hx, hb, hml, hown, hg⟩ (m_R_hasNode l D cA ad ce co rw le el ec nd pa nc (s_t x) mm hc hw) (cwV 1 hg (gd_V ml_R_72 im_R_hasNode sl_R_hasNode ini_R cd_R_hasNode) rfl rfl rfl (by decide +kernel) ⟨Nat.le_of_ble_eq_true rfl, Nat.le_of_ble_eq_true rfl⟩) (pv_r (va_recv (q0 := 0) (ci := 0) hK hP rfl rfl) (wp_l hP) hK hN) rfl rfl hl.1 rfl (lv_room (Nat.le_of_ble_eq_true rfl)) d_R_isImpossible_86 ⟨Nat.zero_le _, Nat.zero_le _⟩)) (fun r86 e86 => ?_)
    subst e86
    refine lv_if_ne (tgt := 96) hx hb d_R_isImpossible_89 (by decide) (fun h89 => ?_) (fun h89 => ?_)
    · skip
      have q89 := b2_n.mp h89
      refine lv_iconst (v := 0) hx hb d_R_isImpossible_96 (by decide) ?_
      exact W.zret hx hb hr rfl (fun t ht hW => ⟨_, rfl, by rw [im_7 mm hk]; simp_all [b2_], ht⟩) (fun q h => absurd h List.not_mem_nil) d_R_isImpossible_97
    · skip
      have q89 := b2_0.mp h89
      refine lv_iconst (v := 1) hx hb d_R_isImpossible_92 (by decide) ?_
      refine lv_goto (tgt := 97) hx hb d_R_isImpossible_93 (by decide) ?_
      exact W.zret hx hb hr rfl (fun t ht hW => ⟨_, rfl, by rw [im_7 mm hk]; simp_all [b2_], ht⟩) (fun q h => absurd h List.not_mem_nil) d_R_isImpossible_97
  · skip
    refine toi_ (y := 8) hk ?_
    refine lv_tableIn (off := 94) (tgt := 98) hx hb d_R_isImpossible_4 (by decide) (by decide) rfl (by decide) ?_
    refine lv_aload_n hx hb d_R_isImpossible_98 rfl (lv_at hl 0 rfl) ?_
    refine lv_aload_n hx hb d_R_isImpossible_99 rfl (lv_at hl 1 rfl) ?_
    refine va_getN (D := D) (ci := 1) (v := .int (s_t x)) (C := RS) (T := TS) (N := 7) hx hb hg inS hown hK hP 11 rfl rfl 2 (by decide) (va_Nw.use rfl (hN.1 _ fn_R_75)) (fun _ h9 => h9) rfl d_R_isImpossible_100 ?_
    refine vp_callSi (va_Run.run (va_runV (C := RR) (As := [.int (s_t x)]) (rest := []) ⟨hx, hb, hml, hown, hg⟩ (m_R_hasNode l D cA ad ce co rw le el ec nd pa nc (s_t x) mm hc hw) (cwV 1 hg (gd_V ml_R_72 im_R_hasNode sl_R_hasNode ini_R cd_R_hasNode) rfl rfl rfl (by decide +kernel) ⟨Nat.le_of_ble_eq_true rfl, Nat.le_of_ble_eq_true rfl⟩) (pv_r (va_recv (q0 := 0) (ci := 0) hK hP rfl rfl) (wp_l hP) hK hN) rfl rfl hl.1 rfl (lv_room (Nat.le_of_ble_eq_true rfl)) d_R_isImpossible_103 ⟨Nat.zero_le _, Nat.zero_le _⟩)) (fun r103 e103 => ?_)
    subst e103
    refine lv_if_eq (tgt := 142) hx hb d_R_isImpossible_106 (by decide) (fun h106 => ?_) (fun h106 => ?_)
    · skip
      have q106 := b2_0.mp h106
      refine lv_iconst (v := 1) hx hb d_R_isImpossible_142 (by decide) ?_
      refine lv_goto (tgt := 147) hx hb d_R_isImpossible_143 (by decide) ?_
      exact W.zret hx hb hr rfl (fun t ht hW => ⟨_, rfl, by rw [im_8 mm hk]; simp_all [b2_], ht⟩) (fun q h => absurd h List.not_mem_nil) d_R_isImpossible_147
    · skip
      have q106 := b2_n.mp h106
      refine lv_aload_n hx hb d_R_isImpossible_109 rfl (lv_at hl 1 rfl) ?_
      refine va_getN (D := D) (ci := 1) (v := .int (s_m x)) (C := RS) (T := TS) (N := 7) hx hb hg inS hown hK hP 11 rfl rfl 3 (by decide) (va_Nw.use rfl (hN.1 _ fn_R_65)) (fun _ h9 => h9) rfl d_R_isImpossible_110 ?_
      refine lv_if_eq (tgt := 146) hx hb d_R_isImpossible_113 (by decide) (fun h113 => ?_) (fun h113 => ?_)
      · skip
        refine lv_iconst (v := 0) hx hb d_R_isImpossible_146 (by decide) ?_
        exact W.zret hx hb hr rfl (fun t ht hW => ⟨_, rfl, by rw [im_8 mm hk]; simp_all [b2_], ht⟩) (fun q h => absurd h List.not_mem_nil) d_R_isImpossible_147
      · skip
        refine lv_aload_n hx hb d_R_isImpossible_116 rfl (lv_at hl 0 rfl) ?_
        refine lv_aload_n hx hb d_R_isImpossible_117 rfl (lv_at hl 1 rfl) ?_
        refine va_getN (D := D) (ci := 1) (v := .int (s_m x)) (C := RS) (T := TS) (N := 7) hx hb hg inS hown hK hP 11 rfl rfl 3 (by decide) (va_Nw.use rfl (hN.1 _ fn_R_65)) (fun _ h9 => h9) rfl d_R_isImpossible_118 ?_
        refine vp_callSi (va_Run.run (va_runV (C := RR) (As := [.int (s_m x)]) (rest := []) ⟨hx, hb, hml, hown, hg⟩ (m_R_hasNode l D cA ad ce co rw le el ec nd pa nc (s_m x) mm hc hw) (cwV 1 hg (gd_V ml_R_72 im_R_hasNode sl_R_hasNode ini_R cd_R_hasNode) rfl rfl rfl (by decide +kernel) ⟨Nat.le_of_ble_eq_true rfl, Nat.le_of_ble_eq_true rfl⟩) (pv_r (va_recv (q0 := 0) (ci := 0) hK hP rfl rfl) (wp_l hP) hK hN) rfl rfl hl.1 rfl (lv_room (Nat.le_of_ble_eq_true rfl)) d_R_isImpossible_121 ⟨Nat.zero_le _, Nat.zero_le _⟩)) (fun r121 e121 => ?_)
        subst e121
        refine lv_if_eq (tgt := 142) hx hb d_R_isImpossible_124 (by decide) (fun h124 => ?_) (fun h124 => ?_)
        · skip
          have q124 := b2_0.mp h124
          refine lv_iconst (v := 1) hx hb d_R_isImpossible_142 (by decide) ?_
          refine lv_goto (tgt := 147) hx hb d_R_isImpossible_143 (by decide) ?_
          exact W.zret hx hb hr rfl (fun t ht hW => ⟨_, rfl, by rw [im_8 mm hk]; simp_all [b2_], ht⟩) (fun q h => absurd h List.not_mem_nil) d_R_isImpossible_147
        · skip
          have q124 := b2_n.mp h124
          refine lv_aload_n hx hb d_R_isImpossible_127 rfl (lv_at hl 0 rfl) ?_
          refine lv_aload_n hx hb d_R_isImpossible_128 rfl (lv_at hl 1 rfl) ?_
          refine va_getN (D := D) (ci := 1) (v := .int (s_m x)) (C := RS) (T := TS) (N := 7) hx hb hg inS hown hK hP 11 rfl rfl 3 (by decide) (va_Nw.use rfl (hN.1 _ fn_R_65)) (fun _ h9 => h9) rfl d_R_isImpossible_129 ?_
          refine lv_aload_n hx hb d_R_isImpossible_132 rfl (lv_at hl 1 rfl) ?_
          refine va_getN (D := D) (ci := 1) (v := .int (s_t x)) (C := RS) (T := TS) (N := 7) hx hb hg inS hown hK hP 11 rfl rfl 2 (by decide) (va_Nw.use rfl (hN.1 _ fn_R_75)) (fun _ h9 => h9) rfl d_R_isImpossible_133 ?_
          refine vp_callSi (va_Run.run (va_runV (C := RR) (As := [.int (s_m x), .int (s_t x)]) (rest := []) ⟨hx, hb, hml, hown, hg⟩ (m_R_isAtOrBelow l D cA ad ce co rw le el ec nd pa nc (s_m x) (s_t x) mm hc hw) (cwV 2 hg (gd_V ml_R_78 im_R_isAtOrBelow sl_R_isAtOrBelow ini_R cd_R_isAtOrBelow) rfl rfl rfl (by decide +kernel) ⟨Nat.le_of_ble_eq_true rfl, Nat.le_of_ble_eq_true rfl⟩) (pv_r (va_recv (q0 := 0) (ci := 0) hK hP rfl rfl) (wp_l hP) hK hN) rfl rfl hl.1 rfl (lv_room (Nat.le_of_ble_eq_true rfl)) d_R_isImpossible_136 ⟨Nat.zero_le _, Nat.zero_le _⟩)) (fun r136 e136 => ?_)
          subst e136
          refine lv_if_eq (tgt := 146) hx hb d_R_isImpossible_139 (by decide) (fun h139 => ?_) (fun h139 => ?_)
          · skip
            have q139 := b2_0.mp h139
            refine lv_iconst (v := 0) hx hb d_R_isImpossible_146 (by decide) ?_
            exact W.zret hx hb hr rfl (fun t ht hW => ⟨_, rfl, by rw [im_8 mm hk]; simp_all [b2_], ht⟩) (fun q h => absurd h List.not_mem_nil) d_R_isImpossible_147
          · skip
            have q139 := b2_n.mp h139
            refine lv_iconst (v := 1) hx hb d_R_isImpossible_142 (by decide) ?_
            refine lv_goto (tgt := 147) hx hb d_R_isImpossible_143 (by decide) ?_
            exact W.zret hx hb hr rfl (fun t ht hW => ⟨_, rfl, by rw [im_8 mm hk]; simp_all [b2_], ht⟩) (fun q h => absurd h List.not_mem_nil) d_R_isImpossible_147
