/-! Replay: where an element stands -/
set_option maxHeartbeats 4000000 in
set_option maxRecDepth 100000 in
theorem m_R_indexIn (l : Launch) (D : va_G) (cA : Nat → ClassId) (ad : Nat → Nat) (ce : Nat → Int32) (co : Nat → Int64) (rw : Nat → Nat → Int32) (le el : Nat → Int32) (ec : Int32) (nd pa : Nat → Int32) (nc : Int32) (r : Nat) (x : Int32) (hr3 : r < 3) (mm : me_T) (hc : cr_ mm ce co rw le el ec nd pa nc) (hw : mw_ mm) : Met l y_R_indexIn (.code y_R_indexIn c_R_indexIn 4 (some .int) :: G_) ({ frames := 0, cells := 0, slots := 0, locals := 0 }) (va_Pc [.ref (ad 0), .int (nI r), .int x] (pr_ D cA (wR cA ad ce co rw le el ec nd pa nc))) (vp_Si (fun q => q = ov_ (ix_ (m_r mm r) x))) 0 0 (fun _ => False) := by
  refine Met.ofW (cc := c_R_indexIn) (maxL := 4) (ret := (some .int)) (by decide) rfl ?_
  intro p e s m args below meth c s₁ B hml hv
  obtain ⟨rfl, hP, hK, hN⟩ := hv
  have hx := B.exec
  have hb := B.bytes
  have hr := B.returns
  have hts := atoms_spec (ws := (.code y_R_indexIn c_R_indexIn 4 (some .int) :: G_)) B.pre
  have hg : ∀ w ∈ G_, w.before ([.ref (ad 0), .int (nI r), .int x] : List Value).toArray s = true := fun w h => hts w (List.mem_cons_of_mem _ h)
  have hown : s.vm.findClass RR = some m.cls := findClass_of_methodNamed B.named
  have hlocks := B.notSynchronized
  have hl := lv_entry ([.ref (ad 0), .int (nI r), .int x]) (n := 4) (Nat.le_of_ble_eq_true rfl)
  rw [lg_entry_eq]
  generalize (lg_sl ([.ref (ad 0), .int (nI r), .int x]) ++ List.replicate (4 - (lg_sl ([.ref (ad 0), .int (nI r), .int x])).length) Slot.unset).toArray = ls at hl ⊢
  have hl : lv_has ls 4 [(0, .ref (ad 0)), (1, .int (nI r)), (2, .int x)] := hl
  obtain ⟨hc1, hc2, hc3, hc4, hc5, hc6, hc7, hc8⟩ := hc
  obtain ⟨hw1, hw2, hw3, hw4, hw5, hw6, hw7, hw8, hw9⟩ := hw
  obtain ⟨hle, hrl⟩ := hc3 r hr3
  have hL40 := hw1 r hr3
  generalize hLe : m_r mm r = L at hle hrl hL40
  rw [ix_f hrl]
  have loop : ∀ (d i : Nat) (ls : Array Slot), i + d = L.length → (∀ j, j < i → decide (rw r j = x) = false) → lv_has ls 4 [(3, .int (nI i)), (0, .ref (ad 0)), (1, .int (nI r)), (2, .int x)] → W p l e (headSpec (.code y_R_indexIn c_R_indexIn 4 (some .int) :: G_) ({ frames := 0, cells := 0, slots := 0, locals := 0 })).room s m ([.ref (ad 0), .int (nI r), .int x] : List Value).toArray below meth c s.heap [] 0 0 (MQ below (vp_Si (fun q => q = ov_ (fi_ (fun i => decide (rw r i = x)) L.length))) ([.ref (ad 0), .int (nI r), .int x] : List Value).toArray s 0 0 (fun _ => False)) (F0 m 2 ls []) := by
    intro d
    induction d with
    | zero =>
      intro i ls hid hno hl
      have hi2 : i = L.length := by omega
      subst hi2
      refine lv_iload_n hx hb d_R_indexIn_2 rfl (lv_at hl 0 rfl) ?_
      refine lv_aload_n hx hb d_R_indexIn_3 rfl (lv_at hl 1 rfl) ?_
      refine va_get (D := D) (ci := 0) (v := .ref (ad 7)) (C := RR) (T := TR) (N := 9) hx hb hg inR hown hK hP 0 rfl rfl 3 (by decide) (hg _ fl_R_24) (fun _ h9 => h9) rfl d_R_indexIn_4 ?_
      refine lv_iload_n hx hb d_R_indexIn_7 rfl (lv_at hl 2 rfl) ?_
      refine va_iald hx hb hK hP 7 0 rfl rfl (vp_in_nI (n := r) (N := 3) (by omega) (by omega)) d_R_indexIn_8 ?_
      refine toi_ (y := le r) (by rw [nI_clamp (by omega)]) ?_
      refine toi_ (y := nI L.length) (hle) ?_
      refine lv_icmp_ge (tgt := 32) hx hb d_R_indexIn_9 (by decide) (fun h9 => ?_) (fun h9 => ?_)
      · skip
        refine lv_iconst (v := (-1)) hx hb d_R_indexIn_32 (by decide) ?_
        exact W.iret hx hb hr (fun t ht hW => ⟨_, rfl, by rw [fi_no hno]; rfl, ht⟩) (fun q h => absurd h List.not_mem_nil) d_R_indexIn_33
      · skip
        exact absurd (Int32.le_refl _) h9
    | succ d ih =>
      intro i ls hid hno hl
      refine lv_iload_n hx hb d_R_indexIn_2 rfl (lv_at hl 0 rfl) ?_
      refine lv_aload_n hx hb d_R_indexIn_3 rfl (lv_at hl 1 rfl) ?_
      refine va_get (D := D) (ci := 0) (v := .ref (ad 7)) (C := RR) (T := TR) (N := 9) hx hb hg inR hown hK hP 0 rfl rfl 3 (by decide) (hg _ fl_R_24) (fun _ h9 => h9) rfl d_R_indexIn_4 ?_
      refine lv_iload_n hx hb d_R_indexIn_7 rfl (lv_at hl 2 rfl) ?_
      refine va_iald hx hb hK hP 7 0 rfl rfl (vp_in_nI (n := r) (N := 3) (by omega) (by omega)) d_R_indexIn_8 ?_
      refine toi_ (y := le r) (by rw [nI_clamp (by omega)]) ?_
      refine toi_ (y := nI L.length) (hle) ?_
      refine lv_icmp_ge (tgt := 32) hx hb d_R_indexIn_9 (by decide) (fun h9 => ?_) (fun h9 => ?_)
      · skip
        exact absurd h9 (nI_ge (by omega) (by omega))
      · skip
        refine lv_aload_n hx hb d_R_indexIn_12 rfl (lv_at hl 1 rfl) ?_
        refine va_get (D := D) (ci := 0) (v := .ref (ad 3)) (C := RR) (T := TR) (N := 9) hx hb hg inR hown hK hP 0 rfl rfl 2 (by decide) (hg _ fl_R_21) (fun _ h9 => h9) rfl d_R_indexIn_13 ?_
        refine lv_iload_n hx hb d_R_indexIn_16 rfl (lv_at hl 2 rfl) ?_
        refine va_aldg hx hb hK hP 3 2 rfl rfl (vp_in_nI (n := r) (N := 3) (by omega) (by omega)) d_R_indexIn_17 ?_
        refine tov_ (y := .ref (ad (4 + r))) (by show va_rf (some (ad (4 + (nI r).toNatClampNeg))) = _; rw [nI_clamp (by omega)]; rfl) ?_
        refine lv_iload_n hx hb d_R_indexIn_18 rfl (lv_at hl 0 rfl) ?_
        refine va_iald hx hb hK hP (4 + r) 0 (wR_row hr3) rfl (vp_in_nI (n := i) (N := 40) (by omega) (by omega)) d_R_indexIn_19 ?_
        refine toi_ (y := (rw r) i) (by rw [nI_clamp (by omega)]) ?_
        refine lv_iload_n hx hb d_R_indexIn_20 rfl (lv_at hl 3 rfl) ?_
        refine lv_icmp_ne (tgt := 26) hx hb d_R_indexIn_21 (by decide) (fun h21 => ?_) (fun h21 => ?_)
        · skip
          refine lv_iinc (k := 0) (v := nI (i + 1)) (lv' := [(3, .int (nI (i + 1))), (0, .ref (ad 0)), (1, .int (nI r)), (2, .int x)]) hx hb d_R_indexIn_26 hl rfl (inc_ _) (by decide) rfl (fun ls hl => ?_)
          refine lv_goto (tgt := 2) hx hb d_R_indexIn_29 (by decide) ?_
          have hl := lv_sub hl [0, 1, 2, 3] (l' := [(3, .int (nI (i + 1))), (0, .ref (ad 0)), (1, .int (nI r)), (2, .int x)]) rfl
          exact ih (i + 1) ls (by omega) (lt_s hno (by simp [h21])) hl
        · skip
          refine lv_iload_n hx hb d_R_indexIn_24 rfl (lv_at hl 0 rfl) ?_
          exact W.iret hx hb hr (fun t ht hW => ⟨_, rfl, by rw [fi_of (i := i) (by omega) (by simp [h21]) hno]; rfl, ht⟩) (fun q h => absurd h List.not_mem_nil) d_R_indexIn_25
  refine lv_iconst (v := 0) hx hb d_R_indexIn_0 (by decide) ?_
  refine lv_istore_n (lv' := [(3, .int 0), (0, .ref (ad 0)), (1, .int (nI r)), (2, .int x)]) hx hb d_R_indexIn_1 rfl hl (by decide) rfl (fun ls hl => ?_)
  have hl := lv_sub hl [0, 1, 2, 3] (l' := [(3, .int (nI 0)), (0, .ref (ad 0)), (1, .int (nI r)), (2, .int x)]) rfl
  exact loop L.length 0 ls (by omega) (fun j h => absurd h (Nat.not_lt_zero _)) hl

set_option maxHeartbeats 4000000 in
set_option maxRecDepth 100000 in
theorem m_R_indexBehind (l : Launch) (D : va_G) (cA : Nat → ClassId) (ad : Nat → Nat) (ce : Nat → Int32) (co : Nat → Int64) (rw : Nat → Nat → Int32) (le el : Nat → Int32) (ec : Int32) (nd pa : Nat → Int32) (nc : Int32) (r pl : Nat) (P : List Int32) (f : Nat → Int32) (hr3 : r < 3) (hf : rl_ f P) (hP40 : P.length ≤ 40) (mm : me_T) (hc : cr_ mm ce co rw le el ec nd pa nc) (hw : mw_ mm) : Met l y_R_indexBehind (.code y_R_indexBehind c_R_indexBehind 5 (some .int) :: G_) ({ frames := 1, cells := 0, slots := 0, locals := 23 }) (va_Pc [.ref (ad 0), .int (nI r), .ref pl] (pr_ D cA ((wR cA ad ce co rw le el ec nd pa nc) ++ [(pl, .inl (cA 0, P.length, .inl f))]))) (vp_Si (fun q => q = nI (be_ (m_r mm r) P))) 0 0 (fun _ => False) := by
  refine Met.ofW (cc := c_R_indexBehind) (maxL := 5) (ret := (some .int)) (by decide) rfl ?_
  intro p e s m args below meth c s₁ B hml hv
  obtain ⟨rfl, hP, hK, hN⟩ := hv
  have hx := B.exec
  have hb := B.bytes
  have hr := B.returns
  have hts := atoms_spec (ws := (.code y_R_indexBehind c_R_indexBehind 5 (some .int) :: G_)) B.pre
  have hg : ∀ w ∈ G_, w.before ([.ref (ad 0), .int (nI r), .ref pl] : List Value).toArray s = true := fun w h => hts w (List.mem_cons_of_mem _ h)
  have hown : s.vm.findClass RR = some m.cls := findClass_of_methodNamed B.named
  have hlocks := B.notSynchronized
  have hl := lv_entry ([.ref (ad 0), .int (nI r), .ref pl]) (n := 5) (Nat.le_of_ble_eq_true rfl)
  rw [lg_entry_eq]
  generalize (lg_sl ([.ref (ad 0), .int (nI r), .ref pl]) ++ List.replicate (5 - (lg_sl ([.ref (ad 0), .int (nI r), .ref pl])).length) Slot.unset).toArray = ls at hl ⊢
  have hl : lv_has ls 5 [(0, .ref (ad 0)), (1, .int (nI r)), (2, .ref pl)] := hl
  have hdr : ∀ i, i < P.length → P.drop i = f i :: P.drop (i + 1) := fun i hi => by rw [List.drop_eq_getElem_cons hi]; congr 1; have h9 := hf i hi; rw [List.getElem?_eq_getElem hi] at h9; exact Option.some.inj h9
  have loop : ∀ (d i : Nat) (ls : Array Slot), i + d = P.length → be_ (m_r mm r) (P.drop i) = be_ (m_r mm r) P → lv_has ls 5 [(3, .int (nI i)), (0, .ref (ad 0)), (1, .int (nI r)), (2, .ref pl)] → W p l e (headSpec (.code y_R_indexBehind c_R_indexBehind 5 (some .int) :: G_) ({ frames := 1, cells := 0, slots := 0, locals := 23 })).room s m ([.ref (ad 0), .int (nI r), .ref pl] : List Value).toArray below meth c s.heap [] 0 0 (MQ below (vp_Si (fun q => q = nI (be_ (m_r mm r) P))) ([.ref (ad 0), .int (nI r), .ref pl] : List Value).toArray s 0 0 (fun _ => False)) (F0 m 2 ls []) := by
    intro d
    induction d with
    | zero =>
      intro i ls hid hbe hl
      have hi2 : i = P.length := by omega
      subst hi2
      refine lv_iload_n hx hb d_R_indexBehind_2 rfl (lv_at hl 0 rfl) ?_
      refine lv_aload_n hx hb d_R_indexBehind_3 rfl (lv_at hl 3 rfl) ?_
      refine va_alen (v := nI P.length) hx hb hK hP 11 0 rfl rfl rfl d_R_indexBehind_4 ?_
      refine lv_icmp_ge (tgt := 35) hx hb d_R_indexBehind_5 (by decide) (fun h5 => ?_) (fun h5 => ?_)
      · skip
        refine lv_iconst (v := 0) hx hb d_R_indexBehind_35 (by decide) ?_
        exact W.iret hx hb hr (fun t ht hW => ⟨_, rfl, by rw [← hbe, List.drop_length]; rfl, ht⟩) (fun q h => absurd h List.not_mem_nil) d_R_indexBehind_36
      · skip
        exact absurd (Int32.le_refl _) h5
    | succ d ih =>
      intro i ls hid hbe hl
      rw [hdr i (by omega)] at hbe
      refine lv_iload_n hx hb d_R_indexBehind_2 rfl (lv_at hl 0 rfl) ?_
      refine lv_aload_n hx hb d_R_indexBehind_3 rfl (lv_at hl 3 rfl) ?_
      refine va_alen (v := nI P.length) hx hb hK hP 11 0 rfl rfl rfl d_R_indexBehind_4 ?_
      refine lv_icmp_ge (tgt := 35) hx hb d_R_indexBehind_5 (by decide) (fun h5 => ?_) (fun h5 => ?_)
      · skip
        exact absurd h5 (nI_ge (by omega) (by omega))
      · skip
        refine lv_aload_n hx hb d_R_indexBehind_8 rfl (lv_at hl 1 rfl) ?_
        refine lv_iload_n hx hb d_R_indexBehind_9 rfl (lv_at hl 2 rfl) ?_
        refine lv_aload_n hx hb d_R_indexBehind_10 rfl (lv_at hl 3 rfl) ?_
        refine lv_iload_n hx hb d_R_indexBehind_11 rfl (lv_at hl 0 rfl) ?_
        refine va_iald hx hb hK hP 11 0 rfl rfl (vp_in_nI (n := i) (N := P.length) (by omega) (by omega)) d_R_indexBehind_12 ?_
        refine toi_ (y := f i) (by rw [nI_clamp (by omega)]) ?_
        refine vp_callSi (va_Run.run (va_runV (C := RR) (As := [.int (nI r), .int (f i)]) (rest := []) ⟨hx, hb, hml, hown, hg⟩ (m_R_indexIn l D cA ad ce co rw le el ec nd pa nc r (f i) hr3 mm hc hw) (cwV 2 hg (gd_V ml_R_117 im_R_indexIn sl_R_indexIn ini_R cd_R_indexIn) rfl rfl rfl (by decide +kernel) ⟨Nat.le_of_ble_eq_true rfl, Nat.le_of_ble_eq_true rfl⟩) (pv_r (va_recv (q0 := 0) (ci := 0) hK hP rfl rfl) (wp_l hP) hK hN) rfl rfl hl.1 rfl (lv_room (Nat.le_of_ble_eq_true rfl)) d_R_indexBehind_13 ⟨Nat.zero_le _, Nat.zero_le _⟩)) (fun r13 e13 => ?_)
        subst e13
        rcases hfi : ix_ (m_r mm r) (f i) with _ | k
        · skip
          refine toi_ (y := -1) rfl ?_
          refine lv_istore (lv' := [(4, .int (-1)), (3, .int (nI i)), (0, .ref (ad 0)), (1, .int (nI r)), (2, .ref pl)]) hx hb d_R_indexBehind_16 hl (by decide) rfl (fun ls hl => ?_)
          refine lv_iload hx hb d_R_indexBehind_18 (lv_at hl 0 rfl) ?_
          refine lv_iconst (v := (-1)) hx hb d_R_indexBehind_20 (by decide) ?_
          refine lv_icmp_eq (tgt := 29) hx hb d_R_indexBehind_21 (by decide) (fun h21 => ?_) (fun h21 => ?_)
          · skip
            have hbe2 : be_ (m_r mm r) (P.drop (i + 1)) = be_ (m_r mm r) P := by rw [← hbe, be_none hfi]
            refine lv_iinc (k := 1) (v := nI (i + 1)) (lv' := [(3, .int (nI (i + 1))), (4, .int (-1)), (0, .ref (ad 0)), (1, .int (nI r)), (2, .ref pl)]) hx hb d_R_indexBehind_29 hl rfl (inc_ _) (by decide) rfl (fun ls hl => ?_)
            refine lv_goto (tgt := 2) hx hb d_R_indexBehind_32 (by decide) ?_
            have hl := lv_sub hl [0, 2, 3, 4] (l' := [(3, .int (nI (i + 1))), (0, .ref (ad 0)), (1, .int (nI r)), (2, .ref pl)]) rfl
            exact ih (i + 1) ls (by omega) hbe2 hl
          · skip
            exact absurd rfl h21
        · skip
          refine toi_ (y := nI k) rfl ?_
          refine lv_istore (lv' := [(4, .int (nI k)), (3, .int (nI i)), (0, .ref (ad 0)), (1, .int (nI r)), (2, .ref pl)]) hx hb d_R_indexBehind_16 hl (by decide) rfl (fun ls hl => ?_)
          refine lv_iload hx hb d_R_indexBehind_18 (lv_at hl 0 rfl) ?_
          refine lv_iconst (v := (-1)) hx hb d_R_indexBehind_20 (by decide) ?_
          refine lv_icmp_eq (tgt := 29) hx hb d_R_indexBehind_21 (by decide) (fun h21 => ?_) (fun h21 => ?_)
          · skip
            exact absurd h21 (ov_ne (i := k) (by have := ix_lt hfi; have := hw.1 r hr3; omega))
          · skip
            have hbe2 : k + 1 = be_ (m_r mm r) P := by rw [← hbe, be_some hfi]
            refine lv_iload hx hb d_R_indexBehind_24 (lv_at hl 0 rfl) ?_
            refine lv_iconst (v := 1) hx hb d_R_indexBehind_26 (by decide) ?_
            refine lv_iadd hx hb d_R_indexBehind_27 ?_
            refine toi_ (y := nI (k + 1)) (nI_1 k) ?_
            exact W.iret hx hb hr (fun t ht hW => ⟨_, rfl, by rw [← hbe2], ht⟩) (fun q h => absurd h List.not_mem_nil) d_R_indexBehind_28
  refine lv_iconst (v := 0) hx hb d_R_indexBehind_0 (by decide) ?_
  refine lv_istore_n (lv' := [(3, .int 0), (0, .ref (ad 0)), (1, .int (nI r)), (2, .ref pl)]) hx hb d_R_indexBehind_1 rfl hl (by decide) rfl (fun ls hl => ?_)
  have hl := lv_sub hl [0, 1, 2, 3] (l' := [(3, .int (nI 0)), (0, .ref (ad 0)), (1, .int (nI r)), (2, .ref pl)]) rfl
  exact loop P.length 0 ls (by omega) rfl hl
