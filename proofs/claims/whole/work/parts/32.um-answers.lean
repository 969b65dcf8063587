/-! UndoMemory: the calls that read -/
set_option maxHeartbeats 4000000 in
set_option maxRecDepth 100000 in
theorem m_U_taken (l : Launch) (D : va_G) (cA : Nat → ClassId) (au am at2 : Nat → Nat) (ic : Int32) (sa : Nat → Option Nat) (ip tk : Nat → Int32) (um ut : rs_T) (L : List Nat) (f : Nat → va_E) (hs : Nat → st_T) (ac : Nat → Bool) (n la : Nat) (T : List Int32) (hT : rl_ tk T) (hT200 : T.length ≤ 200) (x : Int32) : Met l y_U_taken (.code y_U_taken c_U_taken 2 (some .int) :: G_) ({ frames := 1, cells := 0, slots := 0, locals := 21 }) (va_Pc [.ref (au 0), .int x] (pr_ D cA ((wU cA au (am 0) (at2 0) (nI n) (nI la) ic (nI T.length) sa ip tk) ++ ((wq_ cA am um) ++ ((wq_ cA at2 ut) ++ (va_pl L f)))))) (vp_Si (fun r => r = sp_taken T x)) 0 0 (fun _ => False) := by
  refine Met.ofW (cc := c_U_taken) (maxL := 2) (ret := (some .int)) (by decide) rfl ?_
  intro p e s m args below meth c s₁ B hml hv
  obtain ⟨rfl, hP, hK, hN⟩ := hv
  have hx := B.exec
  have hb := B.bytes
  have hr := B.returns
  have hts := atoms_spec (ws := (.code y_U_taken c_U_taken 2 (some .int) :: G_)) B.pre
  have hg : ∀ w ∈ G_, w.before ([.ref (au 0), .int x] : List Value).toArray s = true := fun w h => hts w (List.mem_cons_of_mem _ h)
  have hown : s.vm.findClass RU = some m.cls := findClass_of_methodNamed B.named
  have hlocks := B.notSynchronized
  have hl := lv_entry ([.ref (au 0), .int x]) (n := 2) (Nat.le_of_ble_eq_true rfl)
  rw [lg_entry_eq]
  generalize (lg_sl ([.ref (au 0), .int x]) ++ List.replicate (2 - (lg_sl ([.ref (au 0), .int x])).length) Slot.unset).toArray = ls at hl ⊢
  have hl : lv_has ls 2 [(0, .ref (au 0)), (1, .int x)] := hl
  refine lv_iload_n hx hb d_U_taken_0 rfl (lv_at hl 1 rfl) ?_
  refine lv_aload_n hx hb d_U_taken_1 rfl (lv_at hl 0 rfl) ?_
  refine va_get (D := D) (ci := 2) (v := .int (nI T.length)) (C := RU) (T := TU) (N := 9) hx hb hg inU hown hK hP 0 rfl rfl 8 (by decide) (hg _ fl_U_85) (fun _ h9 => h9) rfl d_U_taken_2 ?_
  refine vp_callSi (va_Run.run (va_runS (As := [.int x, .int (nI T.length)]) (rest := []) ⟨hx, hb, hml, hown, hg⟩ (m_U_isIndex l D cA x T.length (by omega)) (cwS 2 hg (gd_S ml_U_32 sm_U_isIndex ini_U cd_U_isIndex) rfl rfl rfl (by decide +kernel) ⟨Nat.le_of_ble_eq_true rfl, Nat.le_of_ble_eq_true rfl⟩) (ps_r (wp_iff.mpr (fun q h => absurd h List.not_mem_nil)) hK hN) rfl rfl hl.1 rfl (lv_room (Nat.le_of_ble_eq_true rfl)) d_U_taken_5 ⟨Nat.zero_le _, Nat.zero_le _⟩)) (fun r5 e5 => ?_)
  subst e5
  refine lv_if_eq (tgt := 20) hx hb d_U_taken_8 (by decide) (fun h8 => ?_) (fun h8 => ?_)
  · skip
    have q8 := b2_0.mp h8
    refine lv_iconst (v := (-1)) hx hb d_U_taken_20 (by decide) ?_
    exact W.iret hx hb hr (fun t ht hW => ⟨_, rfl, by unfold sp_taken; rw [q8]; rfl, ht⟩) (fun q h => absurd h List.not_mem_nil) d_U_taken_21
  · skip
    have q8 := b2_n.mp h8
    obtain ⟨j, hj, hxj⟩ := inx_n q8
    refine lv_aload_n hx hb d_U_taken_11 rfl (lv_at hl 0 rfl) ?_
    refine va_get (D := D) (ci := 2) (v := .ref (au 3)) (C := RU) (T := TU) (N := 9) hx hb hg inU hown hK hP 0 rfl rfl 7 (by decide) (hg _ fl_U_29) (fun _ h9 => h9) rfl d_U_taken_12 ?_
    refine lv_iload_n hx hb d_U_taken_15 rfl (lv_at hl 1 rfl) ?_
    refine toi_ (y := nI j) (hxj) ?_
    refine va_iald hx hb hK hP 3 0 rfl rfl (vp_in_nI (n := j) (N := 200) (by omega) (by omega)) d_U_taken_16 ?_
    refine toi_ (y := tk j) (by rw [nI_clamp (by omega)]) ?_
    refine lv_goto (tgt := 21) hx hb d_U_taken_17 (by decide) ?_
    exact W.iret hx hb hr (fun t ht hW => ⟨_, rfl, by unfold sp_taken; rw [if_pos q8, hxj, nI_clamp (by omega), List.getD_eq_getElem?_getD, hT j hj]; rfl, ht⟩) (fun q h => absurd h List.not_mem_nil) d_U_taken_21

set_option maxHeartbeats 4000000 in
set_option maxRecDepth 100000 in
theorem m_U_active (l : Launch) (D : va_G) (cA : Nat → ClassId) (au am at2 : Nat → Nat) (ic tc : Int32) (sa : Nat → Option Nat) (ip tk : Nat → Int32) (um ut : rs_T) (L : List Nat) (f : Nat → va_E) (hs : Nat → st_T) (ac : Nat → Bool) (n la : Nat) (x : Int32) (hu : ui_ cA hs ac n sa L f) (hn : n ≤ 200) : Met l y_U_active (.code y_U_active c_U_active 3 (some .int) :: G_) ({ frames := 1, cells := 0, slots := 0, locals := 22 }) (va_Pc [.ref (au 0), .int x] (pr_ D cA ((wU cA au (am 0) (at2 0) (nI n) (nI la) ic tc sa ip tk) ++ ((wq_ cA am um) ++ ((wq_ cA at2 ut) ++ (va_pl L f)))))) (vp_Si (fun r => r = sp_active hs ac n x)) 0 0 (fun _ => False) := by
  refine Met.ofW (cc := c_U_active) (maxL := 3) (ret := (some .int)) (by decide) rfl ?_
  intro p e s m args below meth c s₁ B hml hv
  obtain ⟨rfl, hP, hK, hN⟩ := hv
  have hx := B.exec
  have hb := B.bytes
  have hr := B.returns
  have hts := atoms_spec (ws := (.code y_U_active c_U_active 3 (some .int) :: G_)) B.pre
  have hg : ∀ w ∈ G_, w.before ([.ref (au 0), .int x] : List Value).toArray s = true := fun w h => hts w (List.mem_cons_of_mem _ h)
  have hown : s.vm.findClass RU = some m.cls := findClass_of_methodNamed B.named
  have hlocks := B.notSynchronized
  have hl := lv_entry ([.ref (au 0), .int x]) (n := 3) (Nat.le_of_ble_eq_true rfl)
  rw [lg_entry_eq]
  generalize (lg_sl ([.ref (au 0), .int x]) ++ List.replicate (3 - (lg_sl ([.ref (au 0), .int x])).length) Slot.unset).toArray = ls at hl ⊢
  have hl : lv_has ls 3 [(0, .ref (au 0)), (1, .int x)] := hl
  refine lv_aload_n hx hb d_U_active_0 rfl (lv_at hl 0 rfl) ?_
  refine lv_iload_n hx hb d_U_active_1 rfl (lv_at hl 1 rfl) ?_
  refine vp_callSi (va_Run.run (va_runV (C := RU) (As := [.int x]) (rest := []) ⟨hx, hb, hml, hown, hg⟩ (m_U_indexOf l D cA au am at2 ic tc sa ip tk um ut L f hs ac n la x hu hn) (cwV 1 hg (gd_V ml_U_62 im_U_indexOf sl_U_indexOf ini_U cd_U_indexOf) rfl rfl rfl (by decide +kernel) ⟨Nat.le_of_ble_eq_true rfl, Nat.le_of_ble_eq_true rfl⟩) (pv_r (va_recv (q0 := 0) (ci := 2) hK hP rfl rfl) (hP) hK hN) rfl rfl hl.1 rfl (lv_room (Nat.le_of_ble_eq_true rfl)) d_U_active_2 ⟨Nat.zero_le _, Nat.zero_le _⟩)) (fun r2 e2 => ?_)
  subst e2
  rcases hfi : fn_ hs n x with _ | k
  · skip
    refine toi_ (y := -1) rfl ?_
    refine lv_istore_n (lv' := [(2, .int (-1)), (0, .ref (au 0)), (1, .int x)]) hx hb d_U_active_5 rfl hl (by decide) rfl (fun ls hl => ?_)
    refine lv_iload_n hx hb d_U_active_6 rfl (lv_at hl 0 rfl) ?_
    refine lv_iconst (v := (-1)) hx hb d_U_active_7 (by decide) ?_
    refine lv_icmp_ne (tgt := 13) hx hb d_U_active_8 (by decide) (fun h8 => ?_) (fun h8 => ?_)
    · skip
      exact absurd rfl h8
    · skip
      refine lv_iconst (v := (-1)) hx hb d_U_active_11 (by decide) ?_
      exact W.iret hx hb hr (fun t ht hW => ⟨_, rfl, by unfold sp_active; rw [hfi], ht⟩) (fun q h => absurd h List.not_mem_nil) d_U_active_12
  · skip
    refine toi_ (y := nI k) rfl ?_
    refine lv_istore_n (lv' := [(2, .int (nI k)), (0, .ref (au 0)), (1, .int x)]) hx hb d_U_active_5 rfl hl (by decide) rfl (fun ls hl => ?_)
    refine lv_iload_n hx hb d_U_active_6 rfl (lv_at hl 0 rfl) ?_
    refine lv_iconst (v := (-1)) hx hb d_U_active_7 (by decide) ?_
    refine lv_icmp_ne (tgt := 13) hx hb d_U_active_8 (by decide) (fun h8 => ?_) (fun h8 => ?_)
    · skip
      have hklt := (fn_some hfi).1
      refine lv_aload_n hx hb d_U_active_13 rfl (lv_at hl 1 rfl) ?_
      refine va_get (D := D) (ci := 2) (v := .ref (au 1)) (C := RU) (T := TU) (N := 9) hx hb hg inU hown hK hP 0 rfl rfl 0 (by decide) (hg _ fl_U_11) (fun _ h9 => h9) rfl d_U_active_14 ?_
      refine lv_iload_n hx hb d_U_active_17 rfl (lv_at hl 0 rfl) ?_
      obtain ⟨a18, p18, hsa18, haL18, hfa18, hst18⟩ := ui_at hu (i := k) (by omega) (wp_r (wp_r (wp_r hP)))
      refine va_aldq hx hb hK hP 1 3 rfl rfl (vp_in_nI (n := k) (N := 200) (by omega) (by omega)) d_U_active_18 ?_
      refine tov_ (y := .ref a18) (by rw [nI_clamp (by omega), hsa18]; rfl) ?_
      refine va_getN (D := D) (ci := 1) (v := .int (b2_ (ac k))) (C := RS) (T := TS) (N := 7) hx hb hg inS hown hK hst18 0 rfl rfl 6 (by decide) (va_Nw.use rfl (hN.1 _ fn_U_65)) (fun _ h9 => h9) rfl d_U_active_19 ?_
      refine lv_if_eq (tgt := 29) hx hb d_U_active_22 (by decide) (fun h22 => ?_) (fun h22 => ?_)
      · skip
        have q22 := b2_0.mp h22
        refine lv_iconst (v := 0) hx hb d_U_active_29 (by decide) ?_
        exact W.iret hx hb hr (fun t ht hW => ⟨_, rfl, by unfold sp_active; rw [hfi]; show _ = b2_ (ac k); rw [q22]; rfl, ht⟩) (fun q h => absurd h List.not_mem_nil) d_U_active_30
      · skip
        have q22 := b2_n.mp h22
        refine lv_iconst (v := 1) hx hb d_U_active_25 (by decide) ?_
        refine lv_goto (tgt := 30) hx hb d_U_active_26 (by decide) ?_
        exact W.iret hx hb hr (fun t ht hW => ⟨_, rfl, by unfold sp_active; rw [hfi]; show _ = b2_ (ac k); rw [q22]; rfl, ht⟩) (fun q h => absurd h List.not_mem_nil) d_U_active_30
    · skip
      exact absurd h8 (ov_ne (i := k) (by have := (fn_some hfi).1; omega))

set_option maxHeartbeats 4000000 in
set_option maxRecDepth 100000 in
theorem m_U_value (l : Launch) (D : va_G) (cA : Nat → ClassId) (au am at2 : Nat → Nat) (ic tc : Int32) (sa : Nat → Option Nat) (ip tk : Nat → Int32) (um ut : rs_T) (L : List Nat) (f : Nat → va_E) (hs : Nat → st_T) (ac : Nat → Bool) (n la : Nat) (x : Int32) (hu : ui_ cA hs ac n sa L f) (hn : n ≤ 200) : Met l y_U_value (.code y_U_value c_U_value 3 (some .int) :: G_) ({ frames := 1, cells := 0, slots := 0, locals := 22 }) (va_Pc [.ref (au 0), .int x] (pr_ D cA ((wU cA au (am 0) (at2 0) (nI n) (nI la) ic tc sa ip tk) ++ ((wq_ cA am um) ++ ((wq_ cA at2 ut) ++ (va_pl L f)))))) (vp_Si (fun r => r = sp_value hs n x)) 0 0 (fun _ => False) := by
  refine Met.ofW (cc := c_U_value) (maxL := 3) (ret := (some .int)) (by decide) rfl ?_
  intro p e s m args below meth c s₁ B hml hv
  obtain ⟨rfl, hP, hK, hN⟩ := hv
  have hx := B.exec
  have hb := B.bytes
  have hr := B.returns
  have hts := atoms_spec (ws := (.code y_U_value c_U_value 3 (some .int) :: G_)) B.pre
  have hg : ∀ w ∈ G_, w.before ([.ref (au 0), .int x] : List Value).toArray s = true := fun w h => hts w (List.mem_cons_of_mem _ h)
  have hown : s.vm.findClass RU = some m.cls := findClass_of_methodNamed B.named
  have hlocks := B.notSynchronized
  have hl := lv_entry ([.ref (au 0), .int x]) (n := 3) (Nat.le_of_ble_eq_true rfl)
  rw [lg_entry_eq]
  generalize (lg_sl ([.ref (au 0), .int x]) ++ List.replicate (3 - (lg_sl ([.ref (au 0), .int x])).length) Slot.unset).toArray = ls at hl ⊢
  have hl : lv_has ls 3 [(0, .ref (au 0)), (1, .int x)] := hl
  refine lv_aload_n hx hb d_U_value_0 rfl (lv_at hl 0 rfl) ?_
  refine lv_iload_n hx hb d_U_value_1 rfl (lv_at hl 1 rfl) ?_
  refine vp_callSi (va_Run.run (va_runV (C := RU) (As := [.int x]) (rest := []) ⟨hx, hb, hml, hown, hg⟩ (m_U_indexOf l D cA au am at2 ic tc sa ip tk um ut L f hs ac n la x hu hn) (cwV 1 hg (gd_V ml_U_62 im_U_indexOf sl_U_indexOf ini_U cd_U_indexOf) rfl rfl rfl (by decide +kernel) ⟨Nat.le_of_ble_eq_true rfl, Nat.le_of_ble_eq_true rfl⟩) (pv_r (va_recv (q0 := 0) (ci := 2) hK hP rfl rfl) (hP) hK hN) rfl rfl hl.1 rfl (lv_room (Nat.le_of_ble_eq_true rfl)) d_U_value_2 ⟨Nat.zero_le _, Nat.zero_le _⟩)) (fun r2 e2 => ?_)
  subst e2
  rcases hfi : fn_ hs n x with _ | k
  · skip
    refine toi_ (y := -1) rfl ?_
    refine lv_istore_n (lv' := [(2, .int (-1)), (0, .ref (au 0)), (1, .int x)]) hx hb d_U_value_5 rfl hl (by decide) rfl (fun ls hl => ?_)
    refine lv_iload_n hx hb d_U_value_6 rfl (lv_at hl 0 rfl) ?_
    refine lv_iconst (v := (-1)) hx hb d_U_value_7 (by decide) ?_
    refine lv_icmp_eq (tgt := 24) hx hb d_U_value_8 (by decide) (fun h8 => ?_) (fun h8 => ?_)
    · skip
      refine lv_iconst (v := 0) hx hb d_U_value_24 (by decide) ?_
      exact W.iret hx hb hr (fun t ht hW => ⟨_, rfl, by unfold sp_value; rw [hfi], ht⟩) (fun q h => absurd h List.not_mem_nil) d_U_value_25
    · skip
      exact absurd rfl h8
  · skip
    refine toi_ (y := nI k) rfl ?_
    refine lv_istore_n (lv' := [(2, .int (nI k)), (0, .ref (au 0)), (1, .int x)]) hx hb d_U_value_5 rfl hl (by decide) rfl (fun ls hl => ?_)
    refine lv_iload_n hx hb d_U_value_6 rfl (lv_at hl 0 rfl) ?_
    refine lv_iconst (v := (-1)) hx hb d_U_value_7 (by decide) ?_
    refine lv_icmp_eq (tgt := 24) hx hb d_U_value_8 (by decide) (fun h8 => ?_) (fun h8 => ?_)
    · skip
      exact absurd h8 (ov_ne (i := k) (by have := (fn_some hfi).1; omega))
    · skip
      have hklt := (fn_some hfi).1
      refine lv_aload_n hx hb d_U_value_11 rfl (lv_at hl 1 rfl) ?_
      refine va_get (D := D) (ci := 2) (v := .ref (au 1)) (C := RU) (T := TU) (N := 9) hx hb hg inU hown hK hP 0 rfl rfl 0 (by decide) (hg _ fl_U_11) (fun _ h9 => h9) rfl d_U_value_12 ?_
      refine lv_iload_n hx hb d_U_value_15 rfl (lv_at hl 0 rfl) ?_
      obtain ⟨a16, p16, hsa16, haL16, hfa16, hst16⟩ := ui_at hu (i := k) (by omega) (wp_r (wp_r (wp_r hP)))
      refine va_aldq hx hb hK hP 1 3 rfl rfl (vp_in_nI (n := k) (N := 200) (by omega) (by omega)) d_U_value_16 ?_
      refine tov_ (y := .ref a16) (by rw [nI_clamp (by omega), hsa16]; rfl) ?_
      refine va_getN (D := D) (ci := 1) (v := .int (s_k (hs k))) (C := RS) (T := TS) (N := 7) hx hb hg inS hown hK hst16 0 rfl rfl 1 (by decide) (va_Nw.use rfl (hN.1 _ fn_U_118)) (fun _ h9 => h9) rfl d_U_value_17 ?_
      refine lv_iconst (v := 3) hx hb d_U_value_20 (by decide) ?_
      refine lv_icmp_eq (tgt := 26) hx hb d_U_value_21 (by decide) (fun h21 => ?_) (fun h21 => ?_)
      · skip
        refine lv_aload_n hx hb d_U_value_26 rfl (lv_at hl 1 rfl) ?_
        refine va_get (D := D) (ci := 2) (v := .ref (au 1)) (C := RU) (T := TU) (N := 9) hx hb hg inU hown hK hP 0 rfl rfl 0 (by decide) (hg _ fl_U_11) (fun _ h9 => h9) rfl d_U_value_27 ?_
        refine lv_iload_n hx hb d_U_value_30 rfl (lv_at hl 0 rfl) ?_
        obtain ⟨a31, p31, hsa31, haL31, hfa31, hst31⟩ := ui_at hu (i := k) (by omega) (wp_r (wp_r (wp_r hP)))
        refine va_aldq hx hb hK hP 1 3 rfl rfl (vp_in_nI (n := k) (N := 200) (by omega) (by omega)) d_U_value_31 ?_
        refine tov_ (y := .ref a31) (by rw [nI_clamp (by omega), hsa31]; rfl) ?_
        refine va_getN (D := D) (ci := 1) (v := .long (s_a (hs k))) (C := RS) (T := TS) (N := 7) hx hb hg inS hown hK hst31 0 rfl rfl 4 (by decide) (va_Nw.use rfl (hN.1 _ fn_U_135)) (fun _ h9 => h9) rfl d_U_value_32 ?_
        refine lv_l2i (v := (s_a (hs k)).toInt32) hx hb d_U_value_35 (rfl) ?_
        exact W.iret hx hb hr (fun t ht hW => ⟨_, rfl, by unfold sp_value; rw [hfi]; show _ = if s_k (hs k) = 3 then _ else _; rw [if_pos h21], ht⟩) (fun q h => absurd h List.not_mem_nil) d_U_value_36
      · skip
        refine lv_iconst (v := 0) hx hb d_U_value_24 (by decide) ?_
        exact W.iret hx hb hr (fun t ht hW => ⟨_, rfl, by unfold sp_value; rw [hfi]; show _ = if s_k (hs k) = 3 then _ else _; rw [if_neg h21], ht⟩) (fun q h => absurd h List.not_mem_nil) d_U_value_25

theorem sw3_ {x : Int32} (h0 : ¬ x = 0) (h1 : ¬ x = 1) (h2 : ¬ x = 2) : x.toInt < 0 ∨ 2 < x.toInt := by
  have e0 : ¬ x.toInt = 0 := fun h => h0 (Int32.toInt.inj h)
  have e1 : ¬ x.toInt = 1 := fun h => h1 (Int32.toInt.inj h)
  have e2 : ¬ x.toInt = 2 := fun h => h2 (Int32.toInt.inj h)
  omega

set_option maxHeartbeats 4000000 in
set_option maxRecDepth 100000 in
theorem m_U_count (l : Launch) (D : va_G) (cA : Nat → ClassId) (au am at2 : Nat → Nat) (ic tc : Int32) (sa : Nat → Option Nat) (ip tk : Nat → Int32) (um ut : rs_T) (L : List Nat) (f : Nat → va_E) (hs : Nat → st_T) (ac : Nat → Bool) (n la : Nat) (x : Int32) (hu : ui_ cA hs ac n sa L f) (hn : n ≤ 200) : Met l y_U_count (.code y_U_count c_U_count 2 (some .int) :: G_) ({ frames := 1, cells := 0, slots := 0, locals := 22 }) (va_Pc [.ref (au 0), .int x] (pr_ D cA ((wU cA au (am 0) (at2 0) (nI n) (nI la) ic tc sa ip tk) ++ ((wq_ cA am um) ++ ((wq_ cA at2 ut) ++ (va_pl L f)))))) (vp_Si (fun r => r = sp_count ac n la x)) 0 0 (fun _ => False) := by
  refine Met.ofW (cc := c_U_count) (maxL := 2) (ret := (some .int)) (by decide) rfl ?_
  intro p e s m args below meth c s₁ B hml hv
  obtain ⟨rfl, hP, hK, hN⟩ := hv
  have hx := B.exec
  have hb := B.bytes
  have hr := B.returns
  have hts := atoms_spec (ws := (.code y_U_count c_U_count 2 (some .int) :: G_)) B.pre
  have hg : ∀ w ∈ G_, w.before ([.ref (au 0), .int x] : List Value).toArray s = true := fun w h => hts w (List.mem_cons_of_mem _ h)
  have hown : s.vm.findClass RU = some m.cls := findClass_of_methodNamed B.named
  have hlocks := B.notSynchronized
  have hl := lv_entry ([.ref (au 0), .int x]) (n := 2) (Nat.le_of_ble_eq_true rfl)
  rw [lg_entry_eq]
  generalize (lg_sl ([.ref (au 0), .int x]) ++ List.replicate (2 - (lg_sl ([.ref (au 0), .int x])).length) Slot.unset).toArray = ls at hl ⊢
  have hl : lv_has ls 2 [(0, .ref (au 0)), (1, .int x)] := hl
  refine lv_iload_n hx hb d_U_count_0 rfl (lv_at hl 1 rfl) ?_
  by_cases hw0 : x = 0
  · skip
    refine toi_ (y := 0) hw0 ?_
    refine lv_tableIn (off := 27) (tgt := 28) hx hb d_U_count_1 (by decide) (by decide) rfl (by decide) ?_
    refine lv_aload_n hx hb d_U_count_28 rfl (lv_at hl 0 rfl) ?_
    refine va_get (D := D) (ci := 2) (v := .int (nI n)) (C := RU) (T := TU) (N := 9) hx hb hg inU hown hK hP 0 rfl rfl 1 (by decide) (hg _ fl_U_106) (fun _ h9 => h9) rfl d_U_count_29 ?_
    exact W.iret hx hb hr (fun t ht hW => ⟨_, rfl, by unfold sp_count; rw [if_pos hw0], ht⟩) (fun q h => absurd h List.not_mem_nil) d_U_count_32
  · skip
    by_cases hw1 : x = 1
    · skip
      refine toi_ (y := 1) hw1 ?_
      refine lv_tableIn (off := 32) (tgt := 33) hx hb d_U_count_1 (by decide) (by decide) rfl (by decide) ?_
      refine lv_aload_n hx hb d_U_count_33 rfl (lv_at hl 0 rfl) ?_
      refine va_get (D := D) (ci := 2) (v := .int (nI la)) (C := RU) (T := TU) (N := 9) hx hb hg inU hown hK hP 0 rfl rfl 2 (by decide) (hg _ fl_U_112) (fun _ h9 => h9) rfl d_U_count_34 ?_
      exact W.iret hx hb hr (fun t ht hW => ⟨_, rfl, by unfold sp_count; rw [if_neg hw0, if_pos hw1], ht⟩) (fun q h => absurd h List.not_mem_nil) d_U_count_37
    · skip
      by_cases hw2 : x = 2
      · skip
        refine toi_ (y := 2) hw2 ?_
        refine lv_tableIn (off := 37) (tgt := 38) hx hb d_U_count_1 (by decide) (by decide) rfl (by decide) ?_
        refine lv_aload_n hx hb d_U_count_38 rfl (lv_at hl 0 rfl) ?_
        refine vp_callSi (va_Run.run (va_runV (C := RU) (As := []) (rest := []) ⟨hx, hb, hml, hown, hg⟩ (m_U_countActive l D cA au am at2 ic tc sa ip tk um ut L f hs ac n la hu hn) (cwV 0 hg (gd_V ml_U_115 im_U_countActive sl_U_countActive ini_U cd_U_countActive) rfl rfl rfl (by decide +kernel) ⟨Nat.le_of_ble_eq_true rfl, Nat.le_of_ble_eq_true rfl⟩) (pv_r (va_recv (q0 := 0) (ci := 2) hK hP rfl rfl) (hP) hK hN) rfl rfl hl.1 rfl (lv_room (Nat.le_of_ble_eq_true rfl)) d_U_count_39 ⟨Nat.zero_le _, Nat.zero_le _⟩)) (fun r39 e39 => ?_)
        subst e39
        exact W.iret hx hb hr (fun t ht hW => ⟨_, rfl, by unfold sp_count; rw [if_neg hw0, if_neg hw1, if_pos hw2], ht⟩) (fun q h => absurd h List.not_mem_nil) d_U_count_42
      · skip
        refine lv_tableOut (tgt := 43) hx hb d_U_count_1 (sw3_ hw0 hw1 hw2) (by decide) ?_
        refine lv_iconst (v := (-1)) hx hb d_U_count_43 (by decide) ?_
        exact W.iret hx hb hr (fun t ht hW => ⟨_, rfl, by unfold sp_count; rw [if_neg hw0, if_neg hw1, if_neg hw2], ht⟩) (fun q h => absurd h List.not_mem_nil) d_U_count_44

set_option maxHeartbeats 4000000 in
set_option maxRecDepth 100000 in
theorem m_U_history (l : Launch) (D : va_G) (cA : Nat → ClassId) (au am at2 : Nat → Nat) (ic tc : Int32) (sa : Nat → Option Nat) (ip tk : Nat → Int32) (um ut : rs_T) (L : List Nat) (f : Nat → va_E) (hs : Nat → st_T) (ac : Nat → Bool) (n la : Nat) (x y : Int32) (hu : ui_ cA hs ac n sa L f) (hn : n ≤ 200) : Met l y_U_history (.code y_U_history c_U_history 3 (some .int) :: G_) ({ frames := 1, cells := 0, slots := 0, locals := 21 }) (va_Pc [.ref (au 0), .int x, .int y] (pr_ D cA ((wU cA au (am 0) (at2 0) (nI n) (nI la) ic tc sa ip tk) ++ ((wq_ cA am um) ++ ((wq_ cA at2 ut) ++ (va_pl L f)))))) (vp_Si (fun r => r = sp_hist hs n x y)) 0 0 (fun _ => False) := by
  refine Met.ofW (cc := c_U_history) (maxL := 3) (ret := (some .int)) (by decide) rfl ?_
  intro p e s m args below meth c s₁ B hml hv
  obtain ⟨rfl, hP, hK, hN⟩ := hv
  have hx := B.exec
  have hb := B.bytes
  have hr := B.returns
  have hts := atoms_spec (ws := (.code y_U_history c_U_history 3 (some .int) :: G_)) B.pre
  have hg : ∀ w ∈ G_, w.before ([.ref (au 0), .int x, .int y] : List Value).toArray s = true := fun w h => hts w (List.mem_cons_of_mem _ h)
  have hown : s.vm.findClass RU = some m.cls := findClass_of_methodNamed B.named
  have hlocks := B.notSynchronized
  have hl := lv_entry ([.ref (au 0), .int x, .int y]) (n := 3) (Nat.le_of_ble_eq_true rfl)
  rw [lg_entry_eq]
  generalize (lg_sl ([.ref (au 0), .int x, .int y]) ++ List.replicate (3 - (lg_sl ([.ref (au 0), .int x, .int y])).length) Slot.unset).toArray = ls at hl ⊢
  have hl : lv_has ls 3 [(0, .ref (au 0)), (1, .int x), (2, .int y)] := hl
  refine lv_iload_n hx hb d_U_history_0 rfl (lv_at hl 1 rfl) ?_
  refine lv_aload_n hx hb d_U_history_1 rfl (lv_at hl 0 rfl) ?_
  refine va_get (D := D) (ci := 2) (v := .int (nI n)) (C := RU) (T := TU) (N := 9) hx hb hg inU hown hK hP 0 rfl rfl 1 (by decide) (hg _ fl_U_106) (fun _ h9 => h9) rfl d_U_history_2 ?_
  refine vp_callSi (va_Run.run (va_runS (As := [.int x, .int (nI n)]) (rest := []) ⟨hx, hb, hml, hown, hg⟩ (m_U_isIndex l D cA x n (by omega)) (cwS 2 hg (gd_S ml_U_32 sm_U_isIndex ini_U cd_U_isIndex) rfl rfl rfl (by decide +kernel) ⟨Nat.le_of_ble_eq_true rfl, Nat.le_of_ble_eq_true rfl⟩) (ps_r (wp_iff.mpr (fun q h => absurd h List.not_mem_nil)) hK hN) rfl rfl hl.1 rfl (lv_room (Nat.le_of_ble_eq_true rfl)) d_U_history_5 ⟨Nat.zero_le _, Nat.zero_le _⟩)) (fun r5 e5 => ?_)
  subst e5
  refine lv_if_ne (tgt := 13) hx hb d_U_history_8 (by decide) (fun h8 => ?_) (fun h8 => ?_)
  · skip
    have q8 := b2_n.mp h8
    obtain ⟨j, hj, hxj⟩ := inx_n q8
    refine lv_iload_n hx hb d_U_history_13 rfl (lv_at hl 2 rfl) ?_
    by_cases hw0 : y = 0
    · skip
      refine toi_ (y := 0) hw0 ?_
      refine lv_tableIn (off := 26) (tgt := 40) hx hb d_U_history_14 (by decide) (by decide) rfl (by decide) ?_
      refine lv_aload_n hx hb d_U_history_40 rfl (lv_at hl 0 rfl) ?_
      refine va_get (D := D) (ci := 2) (v := .ref (au 1)) (C := RU) (T := TU) (N := 9) hx hb hg inU hown hK hP 0 rfl rfl 0 (by decide) (hg _ fl_U_11) (fun _ h9 => h9) rfl d_U_history_41 ?_
      refine lv_iload_n hx hb d_U_history_44 rfl (lv_at hl 1 rfl) ?_
      refine toi_ (y := nI j) (hxj) ?_
      obtain ⟨a45, p45, hsa45, haL45, hfa45, hst45⟩ := ui_at hu (i := j) (by omega) (wp_r (wp_r (wp_r hP)))
      refine va_aldq hx hb hK hP 1 3 rfl rfl (vp_in_nI (n := j) (N := 200) (by omega) (by omega)) d_U_history_45 ?_
      refine tov_ (y := .ref a45) (by rw [nI_clamp (by omega), hsa45]; rfl) ?_
      refine va_getN (D := D) (ci := 1) (v := .int (s_n (hs j))) (C := RS) (T := TS) (N := 7) hx hb hg inS hown hK hst45 0 rfl rfl 0 (by decide) (va_Nw.use rfl (hN.1 _ fn_U_76)) (fun _ h9 => h9) rfl d_U_history_46 ?_
      exact W.iret hx hb hr (fun t ht hW => ⟨_, rfl, by unfold sp_hist; rw [if_pos q8, if_pos hw0, hxj, nI_clamp (by omega)], ht⟩) (fun q h => absurd h List.not_mem_nil) d_U_history_49
    · skip
      by_cases hw1 : y = 1
      · skip
        refine toi_ (y := 1) hw1 ?_
        refine lv_tableIn (off := 36) (tgt := 50) hx hb d_U_history_14 (by decide) (by decide) rfl (by decide) ?_
        refine lv_aload_n hx hb d_U_history_50 rfl (lv_at hl 0 rfl) ?_
        refine va_get (D := D) (ci := 2) (v := .ref (au 1)) (C := RU) (T := TU) (N := 9) hx hb hg inU hown hK hP 0 rfl rfl 0 (by decide) (hg _ fl_U_11) (fun _ h9 => h9) rfl d_U_history_51 ?_
        refine lv_iload_n hx hb d_U_history_54 rfl (lv_at hl 1 rfl) ?_
        refine toi_ (y := nI j) (hxj) ?_
        obtain ⟨a55, p55, hsa55, haL55, hfa55, hst55⟩ := ui_at hu (i := j) (by omega) (wp_r (wp_r (wp_r hP)))
        refine va_aldq hx hb hK hP 1 3 rfl rfl (vp_in_nI (n := j) (N := 200) (by omega) (by omega)) d_U_history_55 ?_
        refine tov_ (y := .ref a55) (by rw [nI_clamp (by omega), hsa55]; rfl) ?_
        refine va_getN (D := D) (ci := 1) (v := .int (s_k (hs j))) (C := RS) (T := TS) (N := 7) hx hb hg inS hown hK hst55 0 rfl rfl 1 (by decide) (va_Nw.use rfl (hN.1 _ fn_U_118)) (fun _ h9 => h9) rfl d_U_history_56 ?_
        exact W.iret hx hb hr (fun t ht hW => ⟨_, rfl, by unfold sp_hist; rw [if_pos q8, if_neg hw0, if_pos hw1, hxj, nI_clamp (by omega)], ht⟩) (fun q h => absurd h List.not_mem_nil) d_U_history_59
      · skip
        by_cases hw2 : y = 2
        · skip
          refine toi_ (y := 2) hw2 ?_
          refine lv_tableIn (off := 46) (tgt := 60) hx hb d_U_history_14 (by decide) (by decide) rfl (by decide) ?_
          refine lv_aload_n hx hb d_U_history_60 rfl (lv_at hl 0 rfl) ?_
          refine va_get (D := D) (ci := 2) (v := .ref (au 1)) (C := RU) (T := TU) (N := 9) hx hb hg inU hown hK hP 0 rfl rfl 0 (by decide) (hg _ fl_U_11) (fun _ h9 => h9) rfl d_U_history_61 ?_
          refine lv_iload_n hx hb d_U_history_64 rfl (lv_at hl 1 rfl) ?_
          refine toi_ (y := nI j) (hxj) ?_
          obtain ⟨a65, p65, hsa65, haL65, hfa65, hst65⟩ := ui_at hu (i := j) (by omega) (wp_r (wp_r (wp_r hP)))
          refine va_aldq hx hb hK hP 1 3 rfl rfl (vp_in_nI (n := j) (N := 200) (by omega) (by omega)) d_U_history_65 ?_
          refine tov_ (y := .ref a65) (by rw [nI_clamp (by omega), hsa65]; rfl) ?_
          refine va_getN (D := D) (ci := 1) (v := .int (s_t (hs j))) (C := RS) (T := TS) (N := 7) hx hb hg inS hown hK hst65 0 rfl rfl 2 (by decide) (va_Nw.use rfl (hN.1 _ fn_U_121)) (fun _ h9 => h9) rfl d_U_history_66 ?_
          exact W.iret hx hb hr (fun t ht hW => ⟨_, rfl, by unfold sp_hist; rw [if_pos q8, if_neg hw0, if_neg hw1, if_pos hw2, hxj, nI_clamp (by omega)], ht⟩) (fun q h => absurd h List.not_mem_nil) d_U_history_69
        · skip
          refine lv_tableOut (tgt := 70) hx hb d_U_history_14 (sw3_ hw0 hw1 hw2) (by decide) ?_
          refine lv_iconst (v := (-1)) hx hb d_U_history_70 (by decide) ?_
          exact W.iret hx hb hr (fun t ht hW => ⟨_, rfl, by unfold sp_hist; rw [if_pos q8, if_neg hw0, if_neg hw1, if_neg hw2], ht⟩) (fun q h => absurd h List.not_mem_nil) d_U_history_71
  · skip
    have q8 := b2_0.mp h8
    refine lv_iconst (v := (-1)) hx hb d_U_history_11 (by decide) ?_
    exact W.iret hx hb hr (fun t ht hW => ⟨_, rfl, by unfold sp_hist; rw [q8]; rfl, ht⟩) (fun q h => absurd h List.not_mem_nil) d_U_history_12

set_option maxHeartbeats 4000000 in
set_option maxRecDepth 100000 in
theorem m_U_cell (l : Launch) (D : va_G) (cA : Nat → ClassId) (au am at2 : Nat → Nat) (ic tc : Int32) (sa : Nat → Option Nat) (ip tk : Nat → Int32) (um ut : rs_T) (L : List Nat) (f : Nat → va_E) (hs : Nat → st_T) (ac : Nat → Bool) (n la : Nat) (x : Int32) (hm : cq_ (rp_ hs ac n) um) (hw : mw_ (rp_ hs ac n)) : Met l y_U_cell (.code y_U_cell c_U_cell 2 (some .int) :: G_) ({ frames := 1, cells := 0, slots := 0, locals := 21 }) (va_Pc [.ref (au 0), .int x] (pr_ D cA ((wU cA au (am 0) (at2 0) (nI n) (nI la) ic tc sa ip tk) ++ ((wq_ cA am um) ++ ((wq_ cA at2 ut) ++ (va_pl L f)))))) (vp_Si (fun r => r = sp_cell (rp_ hs ac n) x)) 0 0 (fun _ => False) := by
  refine Met.ofW (cc := c_U_cell) (maxL := 2) (ret := (some .int)) (by decide) rfl ?_
  intro p e s m args below meth c s₁ B hml hv
  obtain ⟨rfl, hP, hK, hN⟩ := hv
  have hx := B.exec
  have hb := B.bytes
  have hr := B.returns
  have hts := atoms_spec (ws := (.code y_U_cell c_U_cell 2 (some .int) :: G_)) B.pre
  have hg : ∀ w ∈ G_, w.before ([.ref (au 0), .int x] : List Value).toArray s = true := fun w h => hts w (List.mem_cons_of_mem _ h)
  have hown : s.vm.findClass RU = some m.cls := findClass_of_methodNamed B.named
  have hlocks := B.notSynchronized
  have hl := lv_entry ([.ref (au 0), .int x]) (n := 2) (Nat.le_of_ble_eq_true rfl)
  rw [lg_entry_eq]
  generalize (lg_sl ([.ref (au 0), .int x]) ++ List.replicate (2 - (lg_sl ([.ref (au 0), .int x])).length) Slot.unset).toArray = ls at hl ⊢
  have hl : lv_has ls 2 [(0, .ref (au 0)), (1, .int x)] := hl
  refine lv_iload_n hx hb d_U_cell_0 rfl (lv_at hl 1 rfl) ?_
  refine lv_bipush (v := 8) hx hb d_U_cell_1 (by decide) ?_
  refine toi_ (y := nI 8) (rfl) ?_
  refine vp_callSi (va_Run.run (va_runS (As := [.int x, .int (nI 8)]) (rest := []) ⟨hx, hb, hml, hown, hg⟩ (m_U_isIndex l D cA x 8 (by omega)) (cwS 2 hg (gd_S ml_U_32 sm_U_isIndex ini_U cd_U_isIndex) rfl rfl rfl (by decide +kernel) ⟨Nat.le_of_ble_eq_true rfl, Nat.le_of_ble_eq_true rfl⟩) (ps_r (wp_iff.mpr (fun q h => absurd h List.not_mem_nil)) hK hN) rfl rfl hl.1 rfl (lv_room (Nat.le_of_ble_eq_true rfl)) d_U_cell_3 ⟨Nat.zero_le _, Nat.zero_le _⟩)) (fun r3 e3 => ?_)
  subst e3
  refine lv_if_eq (tgt := 21) hx hb d_U_cell_6 (by decide) (fun h6 => ?_) (fun h6 => ?_)
  · skip
    have q6 := b2_0.mp h6
    refine lv_iconst (v := 0) hx hb d_U_cell_21 (by decide) ?_
    exact W.iret hx hb hr (fun t ht hW => ⟨_, rfl, by unfold sp_cell; rw [q6]; rfl, ht⟩) (fun q h => absurd h List.not_mem_nil) d_U_cell_22
  · skip
    have q6 := b2_n.mp h6
    obtain ⟨j, hj, hxj⟩ := inx_n q6
    refine lv_aload_n hx hb d_U_cell_9 rfl (lv_at hl 0 rfl) ?_
    refine va_get (D := D) (ci := 2) (v := .ref (am 0)) (C := RU) (T := TU) (N := 9) hx hb hg inU hown hK hP 0 rfl rfl 3 (by decide) (hg _ fl_U_18) (fun _ h9 => h9) rfl d_U_cell_10 ?_
    refine va_getN (D := D) (ci := 0) (v := .ref (am 1)) (C := RR) (T := TR) (N := 9) hx hb hg inR hown hK hP 4 rfl rfl 0 (by decide) (va_Nw.use rfl (hN.1 _ fn_U_124)) (fun _ h9 => h9) rfl d_U_cell_13 ?_
    refine lv_iload_n hx hb d_U_cell_16 rfl (lv_at hl 1 rfl) ?_
    refine toi_ (y := nI j) (hxj) ?_
    refine va_iald hx hb hK hP 5 0 rfl rfl (vp_in_nI (n := j) (N := 8) (by omega) (by omega)) d_U_cell_17 ?_
    refine toi_ (y := um.1 j) (by rw [nI_clamp (by omega)]) ?_
    refine lv_goto (tgt := 22) hx hb d_U_cell_18 (by decide) ?_
    exact W.iret hx hb hr (fun t ht hW => ⟨_, rfl, by unfold sp_cell; rw [if_pos q6, hxj, nI_clamp (by omega)]; exact hm.1 j hj, ht⟩) (fun q h => absurd h List.not_mem_nil) d_U_cell_22

set_option maxHeartbeats 4000000 in
set_option maxRecDepth 100000 in
theorem m_U_counter (l : Launch) (D : va_G) (cA : Nat → ClassId) (au am at2 : Nat → Nat) (ic tc : Int32) (sa : Nat → Option Nat) (ip tk : Nat → Int32) (um ut : rs_T) (L : List Nat) (f : Nat → va_E) (hs : Nat → st_T) (ac : Nat → Bool) (n la : Nat) (x : Int32) (hm : cq_ (rp_ hs ac n) um) (hw : mw_ (rp_ hs ac n)) : Met l y_U_counter (.code y_U_counter c_U_counter 2 (some .long) :: G_) ({ frames := 1, cells := 0, slots := 0, locals := 21 }) (va_Pc [.ref (au 0), .int x] (pr_ D cA ((wU cA au (am 0) (at2 0) (nI n) (nI la) ic tc sa ip tk) ++ ((wq_ cA am um) ++ ((wq_ cA at2 ut) ++ (va_pl L f)))))) (vp_Sl (fun r => r = sp_counter (rp_ hs ac n) x)) 0 0 (fun _ => False) := by
  refine Met.ofW (cc := c_U_counter) (maxL := 2) (ret := (some .long)) (by decide) rfl ?_
  intro p e s m args below meth c s₁ B hml hv
  obtain ⟨rfl, hP, hK, hN⟩ := hv
  have hx := B.exec
  have hb := B.bytes
  have hr := B.returns
  have hts := atoms_spec (ws := (.code y_U_counter c_U_counter 2 (some .long) :: G_)) B.pre
  have hg : ∀ w ∈ G_, w.before ([.ref (au 0), .int x] : List Value).toArray s = true := fun w h => hts w (List.mem_cons_of_mem _ h)
  have hown : s.vm.findClass RU = some m.cls := findClass_of_methodNamed B.named
  have hlocks := B.notSynchronized
  have hl := lv_entry ([.ref (au 0), .int x]) (n := 2) (Nat.le_of_ble_eq_true rfl)
  rw [lg_entry_eq]
  generalize (lg_sl ([.ref (au 0), .int x]) ++ List.replicate (2 - (lg_sl ([.ref (au 0), .int x])).length) Slot.unset).toArray = ls at hl ⊢
  have hl : lv_has ls 2 [(0, .ref (au 0)), (1, .int x)] := hl
  refine lv_iload_n hx hb d_U_counter_0 rfl (lv_at hl 1 rfl) ?_
  refine lv_iconst (v := 4) hx hb d_U_counter_1 (by decide) ?_
  refine toi_ (y := nI 4) (rfl) ?_
  refine vp_callSi (va_Run.run (va_runS (As := [.int x, .int (nI 4)]) (rest := []) ⟨hx, hb, hml, hown, hg⟩ (m_U_isIndex l D cA x 4 (by omega)) (cwS 2 hg (gd_S ml_U_32 sm_U_isIndex ini_U cd_U_isIndex) rfl rfl rfl (by decide +kernel) ⟨Nat.le_of_ble_eq_true rfl, Nat.le_of_ble_eq_true rfl⟩) (ps_r (wp_iff.mpr (fun q h => absurd h List.not_mem_nil)) hK hN) rfl rfl hl.1 rfl (lv_room (Nat.le_of_ble_eq_true rfl)) d_U_counter_2 ⟨Nat.zero_le _, Nat.zero_le _⟩)) (fun r2 e2 => ?_)
  subst e2
  refine lv_if_eq (tgt := 20) hx hb d_U_counter_5 (by decide) (fun h5 => ?_) (fun h5 => ?_)
  · skip
    have q5 := b2_0.mp h5
    refine lv_lconst (v := 0) hx hb d_U_counter_20 (by decide) ?_
    exact W.lret hx hb hr (fun t ht hW => ⟨_, rfl, by unfold sp_counter; rw [q5]; rfl, ht⟩) (fun q h => absurd h List.not_mem_nil) d_U_counter_21
  · skip
    have q5 := b2_n.mp h5
    obtain ⟨j, hj, hxj⟩ := inx_n q5
    refine lv_aload_n hx hb d_U_counter_8 rfl (lv_at hl 0 rfl) ?_
    refine va_get (D := D) (ci := 2) (v := .ref (am 0)) (C := RU) (T := TU) (N := 9) hx hb hg inU hown hK hP 0 rfl rfl 3 (by decide) (hg _ fl_U_18) (fun _ h9 => h9) rfl d_U_counter_9 ?_
    refine va_getN (D := D) (ci := 0) (v := .ref (am 2)) (C := RR) (T := TR) (N := 9) hx hb hg inR hown hK hP 4 rfl rfl 1 (by decide) (va_Nw.use rfl (hN.1 _ fn_U_127)) (fun _ h9 => h9) rfl d_U_counter_12 ?_
    refine lv_iload_n hx hb d_U_counter_15 rfl (lv_at hl 1 rfl) ?_
    refine toi_ (y := nI j) (hxj) ?_
    refine va_lald hx hb hK hP 6 1 rfl rfl (vp_in_nI (n := j) (N := 4) (by omega) (by omega)) d_U_counter_16 ?_
    refine tol_ (y := um.2.1 j) (by rw [nI_clamp (by omega)]) ?_
    refine lv_goto (tgt := 21) hx hb d_U_counter_17 (by decide) ?_
    exact W.lret hx hb hr (fun t ht hW => ⟨_, rfl, by unfold sp_counter; rw [if_pos q5, hxj, nI_clamp (by omega)]; exact hm.2.1 j hj, ht⟩) (fun q h => absurd h List.not_mem_nil) d_U_counter_21

set_option maxHeartbeats 4000000 in
set_option maxRecDepth 100000 in
theorem m_U_length (l : Launch) (D : va_G) (cA : Nat → ClassId) (au am at2 : Nat → Nat) (ic tc : Int32) (sa : Nat → Option Nat) (ip tk : Nat → Int32) (um ut : rs_T) (L : List Nat) (f : Nat → va_E) (hs : Nat → st_T) (ac : Nat → Bool) (n la : Nat) (x : Int32) (hm : cq_ (rp_ hs ac n) um) (hw : mw_ (rp_ hs ac n)) : Met l y_U_length (.code y_U_length c_U_length 2 (some .int) :: G_) ({ frames := 1, cells := 0, slots := 0, locals := 21 }) (va_Pc [.ref (au 0), .int x] (pr_ D cA ((wU cA au (am 0) (at2 0) (nI n) (nI la) ic tc sa ip tk) ++ ((wq_ cA am um) ++ ((wq_ cA at2 ut) ++ (va_pl L f)))))) (vp_Si (fun r => r = sp_len (rp_ hs ac n) x)) 0 0 (fun _ => False) := by
  refine Met.ofW (cc := c_U_length) (maxL := 2) (ret := (some .int)) (by decide) rfl ?_
  intro p e s m args below meth c s₁ B hml hv
  obtain ⟨rfl, hP, hK, hN⟩ := hv
  have hx := B.exec
  have hb := B.bytes
  have hr := B.returns
  have hts := atoms_spec (ws := (.code y_U_length c_U_length 2 (some .int) :: G_)) B.pre
  have hg : ∀ w ∈ G_, w.before ([.ref (au 0), .int x] : List Value).toArray s = true := fun w h => hts w (List.mem_cons_of_mem _ h)
  have hown : s.vm.findClass RU = some m.cls := findClass_of_methodNamed B.named
  have hlocks := B.notSynchronized
  have hl := lv_entry ([.ref (au 0), .int x]) (n := 2) (Nat.le_of_ble_eq_true rfl)
  rw [lg_entry_eq]
  generalize (lg_sl ([.ref (au 0), .int x]) ++ List.replicate (2 - (lg_sl ([.ref (au 0), .int x])).length) Slot.unset).toArray = ls at hl ⊢
  have hl : lv_has ls 2 [(0, .ref (au 0)), (1, .int x)] := hl
  refine lv_iload_n hx hb d_U_length_0 rfl (lv_at hl 1 rfl) ?_
  refine lv_iconst (v := 3) hx hb d_U_length_1 (by decide) ?_
  refine toi_ (y := nI 3) (rfl) ?_
  refine vp_callSi (va_Run.run (va_runS (As := [.int x, .int (nI 3)]) (rest := []) ⟨hx, hb, hml, hown, hg⟩ (m_U_isIndex l D cA x 3 (by omega)) (cwS 2 hg (gd_S ml_U_32 sm_U_isIndex ini_U cd_U_isIndex) rfl rfl rfl (by decide +kernel) ⟨Nat.le_of_ble_eq_true rfl, Nat.le_of_ble_eq_true rfl⟩) (ps_r (wp_iff.mpr (fun q h => absurd h List.not_mem_nil)) hK hN) rfl rfl hl.1 rfl (lv_room (Nat.le_of_ble_eq_true rfl)) d_U_length_2 ⟨Nat.zero_le _, Nat.zero_le _⟩)) (fun r2 e2 => ?_)
  subst e2
  refine lv_if_eq (tgt := 20) hx hb d_U_length_5 (by decide) (fun h5 => ?_) (fun h5 => ?_)
  · skip
    have q5 := b2_0.mp h5
    refine lv_iconst (v := (-1)) hx hb d_U_length_20 (by decide) ?_
    exact W.iret hx hb hr (fun t ht hW => ⟨_, rfl, by unfold sp_len; rw [q5]; rfl, ht⟩) (fun q h => absurd h List.not_mem_nil) d_U_length_21
  · skip
    have q5 := b2_n.mp h5
    obtain ⟨j, hj, hxj⟩ := inx_n q5
    refine lv_aload_n hx hb d_U_length_8 rfl (lv_at hl 0 rfl) ?_
    refine va_get (D := D) (ci := 2) (v := .ref (am 0)) (C := RU) (T := TU) (N := 9) hx hb hg inU hown hK hP 0 rfl rfl 3 (by decide) (hg _ fl_U_18) (fun _ h9 => h9) rfl d_U_length_9 ?_
    refine va_getN (D := D) (ci := 0) (v := .ref (am 7)) (C := RR) (T := TR) (N := 9) hx hb hg inR hown hK hP 4 rfl rfl 3 (by decide) (va_Nw.use rfl (hN.1 _ fn_U_51)) (fun _ h9 => h9) rfl d_U_length_12 ?_
    refine lv_iload_n hx hb d_U_length_15 rfl (lv_at hl 1 rfl) ?_
    refine toi_ (y := nI j) (hxj) ?_
    refine va_iald hx hb hK hP 11 0 rfl rfl (vp_in_nI (n := j) (N := 3) (by omega) (by omega)) d_U_length_16 ?_
    refine toi_ (y := um.2.2.2.1 j) (by rw [nI_clamp (by omega)]) ?_
    refine lv_goto (tgt := 21) hx hb d_U_length_17 (by decide) ?_
    exact W.iret hx hb hr (fun t ht hW => ⟨_, rfl, by unfold sp_len; rw [if_pos q5, hxj, nI_clamp (by omega)]; exact (hm.2.2.1 j hj).1, ht⟩) (fun q h => absurd h List.not_mem_nil) d_U_length_21

theorem wQ_row {cA : Nat → ClassId} {au am : Nat → Nat} {mo tr : Nat} {n la ic tc : Int32} {sa : Nat → Option Nat} {ip tk : Nat → Int32} {um : rs_T} {X : va_W} {r : Nat} (hr : r < 3) : (wU cA au mo tr n la ic tc sa ip tk ++ (wq_ cA am um ++ X))[8 + r]? = some (am (4 + r), .inl (cA 0, 40, .inl (um.2.2.1 r))) := by
  rcases (show r = 0 ∨ r = 1 ∨ r = 2 by omega) with rfl | rfl | rfl <;> rfl

set_option maxHeartbeats 4000000 in
set_option maxRecDepth 100000 in
theorem m_U_element (l : Launch) (D : va_G) (cA : Nat → ClassId) (au am at2 : Nat → Nat) (ic tc : Int32) (sa : Nat → Option Nat) (ip tk : Nat → Int32) (um ut : rs_T) (L : List Nat) (f : Nat → va_E) (hs : Nat → st_T) (ac : Nat → Bool) (n la : Nat) (x y : Int32) (hm : cq_ (rp_ hs ac n) um) (hw : mw_ (rp_ hs ac n)) : Met l y_U_element (.code y_U_element c_U_element 3 (some .int) :: G_) ({ frames := 1, cells := 0, slots := 0, locals := 21 }) (va_Pc [.ref (au 0), .int x, .int y] (pr_ D cA ((wU cA au (am 0) (at2 0) (nI n) (nI la) ic tc sa ip tk) ++ ((wq_ cA am um) ++ ((wq_ cA at2 ut) ++ (va_pl L f)))))) (vp_Si (fun r => r = sp_elem (rp_ hs ac n) x y)) 0 0 (fun _ => False) := by
  refine Met.ofW (cc := c_U_element) (maxL := 3) (ret := (some .int)) (by decide) rfl ?_
  intro p e s m args below meth c s₁ B hml hv
  obtain ⟨rfl, hP, hK, hN⟩ := hv
  have hx := B.exec
  have hb := B.bytes
  have hr := B.returns
  have hts := atoms_spec (ws := (.code y_U_element c_U_element 3 (some .int) :: G_)) B.pre
  have hg : ∀ w ∈ G_, w.before ([.ref (au 0), .int x, .int y] : List Value).toArray s = true := fun w h => hts w (List.mem_cons_of_mem _ h)
  have hown : s.vm.findClass RU = some m.cls := findClass_of_methodNamed B.named
  have hlocks := B.notSynchronized
  have hl := lv_entry ([.ref (au 0), .int x, .int y]) (n := 3) (Nat.le_of_ble_eq_true rfl)
  rw [lg_entry_eq]
  generalize (lg_sl ([.ref (au 0), .int x, .int y]) ++ List.replicate (3 - (lg_sl ([.ref (au 0), .int x, .int y])).length) Slot.unset).toArray = ls at hl ⊢
  have hl : lv_has ls 3 [(0, .ref (au 0)), (1, .int x), (2, .int y)] := hl
  refine lv_iload_n hx hb d_U_element_0 rfl (lv_at hl 1 rfl) ?_
  refine lv_iconst (v := 3) hx hb d_U_element_1 (by decide) ?_
  refine toi_ (y := nI 3) (rfl) ?_
  refine vp_callSi (va_Run.run (va_runS (As := [.int x, .int (nI 3)]) (rest := []) ⟨hx, hb, hml, hown, hg⟩ (m_U_isIndex l D cA x 3 (by omega)) (cwS 2 hg (gd_S ml_U_32 sm_U_isIndex ini_U cd_U_isIndex) rfl rfl rfl (by decide +kernel) ⟨Nat.le_of_ble_eq_true rfl, Nat.le_of_ble_eq_true rfl⟩) (ps_r (wp_iff.mpr (fun q h => absurd h List.not_mem_nil)) hK hN) rfl rfl hl.1 rfl (lv_room (Nat.le_of_ble_eq_true rfl)) d_U_element_2 ⟨Nat.zero_le _, Nat.zero_le _⟩)) (fun r2 e2 => ?_)
  subst e2
  refine lv_if_eq (tgt := 24) hx hb d_U_element_5 (by decide) (fun h5 => ?_) (fun h5 => ?_)
  · skip
    have q5 := b2_0.mp h5
    refine lv_iconst (v := 0) hx hb d_U_element_24 (by decide) ?_
    exact W.iret hx hb hr (fun t ht hW => ⟨_, rfl, by unfold sp_elem; first | (rw [if_neg (fun h => by rw [q5] at h; exact absurd h.1 (by decide))]; done) | rw [if_neg (fun h => by rw [hxj, nI_clamp (by omega), q21] at h; exact absurd h.2 (by decide))], ht⟩) (fun q h => absurd h List.not_mem_nil) d_U_element_25
  · skip
    have q5 := b2_n.mp h5
    obtain ⟨j, hj, hxj⟩ := inx_n q5
    have hlen := (hm.2.2.1 j hj).1
    have hrl := (hm.2.2.1 j hj).2
    have h40 := hw.1 j hj
    refine lv_iload_n hx hb d_U_element_8 rfl (lv_at hl 2 rfl) ?_
    refine lv_aload_n hx hb d_U_element_9 rfl (lv_at hl 0 rfl) ?_
    refine va_get (D := D) (ci := 2) (v := .ref (am 0)) (C := RU) (T := TU) (N := 9) hx hb hg inU hown hK hP 0 rfl rfl 3 (by decide) (hg _ fl_U_18) (fun _ h9 => h9) rfl d_U_element_10 ?_
    refine va_getN (D := D) (ci := 0) (v := .ref (am 7)) (C := RR) (T := TR) (N := 9) hx hb hg inR hown hK hP 4 rfl rfl 3 (by decide) (va_Nw.use rfl (hN.1 _ fn_U_51)) (fun _ h9 => h9) rfl d_U_element_13 ?_
    refine lv_iload_n hx hb d_U_element_16 rfl (lv_at hl 1 rfl) ?_
    refine toi_ (y := nI j) (hxj) ?_
    refine va_iald hx hb hK hP 11 0 rfl rfl (vp_in_nI (n := j) (N := 3) (by omega) (by omega)) d_U_element_17 ?_
    refine toi_ (y := um.2.2.2.1 j) (by rw [nI_clamp (by omega)]) ?_
    refine toi_ (y := nI (m_r (rp_ hs ac n) j).length) (hlen) ?_
    refine vp_callSi (va_Run.run (va_runS (As := [.int y, .int (nI (m_r (rp_ hs ac n) j).length)]) (rest := []) ⟨hx, hb, hml, hown, hg⟩ (m_U_isIndex l D cA y ((m_r (rp_ hs ac n) j).length) (by omega)) (cwS 2 hg (gd_S ml_U_32 sm_U_isIndex ini_U cd_U_isIndex) rfl rfl rfl (by decide +kernel) ⟨Nat.le_of_ble_eq_true rfl, Nat.le_of_ble_eq_true rfl⟩) (ps_r (wp_iff.mpr (fun q h => absurd h List.not_mem_nil)) hK hN) rfl rfl hl.1 rfl (lv_room (Nat.le_of_ble_eq_true rfl)) d_U_element_18 ⟨Nat.zero_le _, Nat.zero_le _⟩)) (fun r18 e18 => ?_)
    subst e18
    refine lv_if_ne (tgt := 26) hx hb d_U_element_21 (by decide) (fun h21 => ?_) (fun h21 => ?_)
    · skip
      have q21 := b2_n.mp h21
      obtain ⟨i, hi, hyi⟩ := inx_n q21
      refine lv_aload_n hx hb d_U_element_26 rfl (lv_at hl 0 rfl) ?_
      refine va_get (D := D) (ci := 2) (v := .ref (am 0)) (C := RU) (T := TU) (N := 9) hx hb hg inU hown hK hP 0 rfl rfl 3 (by decide) (hg _ fl_U_18) (fun _ h9 => h9) rfl d_U_element_27 ?_
      refine va_getN (D := D) (ci := 0) (v := .ref (am 3)) (C := RR) (T := TR) (N := 9) hx hb hg inR hown hK hP 4 rfl rfl 2 (by decide) (va_Nw.use rfl (hN.1 _ fn_U_131)) (fun _ h9 => h9) rfl d_U_element_30 ?_
      refine lv_iload_n hx hb d_U_element_33 rfl (lv_at hl 1 rfl) ?_
      refine toi_ (y := nI j) (hxj) ?_
      refine va_aldg hx hb hK hP 7 2 rfl rfl (vp_in_nI (n := j) (N := 3) (by omega) (by omega)) d_U_element_34 ?_
      refine tov_ (y := .ref (am (4 + j))) (by show va_rf (some (am (4 + (nI j).toNatClampNeg))) = _; rw [nI_clamp (by omega)]; rfl) ?_
      refine lv_iload_n hx hb d_U_element_35 rfl (lv_at hl 2 rfl) ?_
      refine toi_ (y := nI i) (hyi) ?_
      refine va_iald hx hb hK hP (8 + j) 0 (wQ_row hj) rfl (vp_in_nI (n := i) (N := 40) (by omega) (by omega)) d_U_element_36 ?_
      refine toi_ (y := (um.2.2.1 j) i) (by rw [nI_clamp (by omega)]) ?_
      exact W.iret hx hb hr (fun t ht hW => ⟨_, rfl, by unfold sp_elem; rw [if_pos ⟨q5, by rw [hxj, nI_clamp (by omega)]; exact q21⟩, hxj, nI_clamp (by omega), hyi, nI_clamp (by omega), List.getD_eq_getElem?_getD, hrl i hi]; rfl, ht⟩) (fun q h => absurd h List.not_mem_nil) d_U_element_37
    · skip
      have q21 := b2_0.mp h21
      refine lv_iconst (v := 0) hx hb d_U_element_24 (by decide) ?_
      exact W.iret hx hb hr (fun t ht hW => ⟨_, rfl, by unfold sp_elem; first | (rw [if_neg (fun h => by rw [q5] at h; exact absurd h.1 (by decide))]; done) | rw [if_neg (fun h => by rw [hxj, nI_clamp (by omega), q21] at h; exact absurd h.2 (by decide))], ht⟩) (fun q h => absurd h List.not_mem_nil) d_U_element_25

set_option maxHeartbeats 4000000 in
set_option maxRecDepth 100000 in
theorem m_U_parent (l : Launch) (D : va_G) (cA : Nat → ClassId) (au am at2 : Nat → Nat) (ic tc : Int32) (sa : Nat → Option Nat) (ip tk : Nat → Int32) (um ut : rs_T) (L : List Nat) (f : Nat → va_E) (hs : Nat → st_T) (ac : Nat → Bool) (n la : Nat) (x : Int32) (hm : cq_ (rp_ hs ac n) um) (hw : mw_ (rp_ hs ac n)) : Met l y_U_parent (.code y_U_parent c_U_parent 2 (some .int) :: G_) ({ frames := 2, cells := 0, slots := 0, locals := 46 }) (va_Pc [.ref (au 0), .int x] (pr_ D cA ((wU cA au (am 0) (at2 0) (nI n) (nI la) ic tc sa ip tk) ++ ((wq_ cA am um) ++ ((wq_ cA at2 ut) ++ (va_pl L f)))))) (vp_Si (fun r => r = sp_parent (rp_ hs ac n) x)) 0 0 (fun _ => False) := by
  refine Met.ofW (cc := c_U_parent) (maxL := 2) (ret := (some .int)) (by decide) rfl ?_
  intro p e s m args below meth c s₁ B hml hv
  obtain ⟨rfl, hP, hK, hN⟩ := hv
  have hx := B.exec
  have hb := B.bytes
  have hr := B.returns
  have hts := atoms_spec (ws := (.code y_U_parent c_U_parent 2 (some .int) :: G_)) B.pre
  have hg : ∀ w ∈ G_, w.before ([.ref (au 0), .int x] : List Value).toArray s = true := fun w h => hts w (List.mem_cons_of_mem _ h)
  have hown : s.vm.findClass RU = some m.cls := findClass_of_methodNamed B.named
  have hlocks := B.notSynchronized
  have hl := lv_entry ([.ref (au 0), .int x]) (n := 2) (Nat.le_of_ble_eq_true rfl)
  rw [lg_entry_eq]
  generalize (lg_sl ([.ref (au 0), .int x]) ++ List.replicate (2 - (lg_sl ([.ref (au 0), .int x])).length) Slot.unset).toArray = ls at hl ⊢
  have hl : lv_has ls 2 [(0, .ref (au 0)), (1, .int x)] := hl
  refine lv_aload_n hx hb d_U_parent_0 rfl (lv_at hl 0 rfl) ?_
  refine va_get (D := D) (ci := 2) (v := .ref (am 0)) (C := RU) (T := TU) (N := 9) hx hb hg inU hown hK hP 0 rfl rfl 3 (by decide) (hg _ fl_U_18) (fun _ h9 => h9) rfl d_U_parent_1 ?_
  refine lv_iload_n hx hb d_U_parent_4 rfl (lv_at hl 1 rfl) ?_
  refine vp_callSi (va_Run.run (va_runV (C := RR) (As := [.int x]) (rest := []) ⟨hx, hb, hml, hown, hg⟩ (m_R_parentOf l D cA am um.1 um.2.1 um.2.2.1 um.2.2.2.1 um.2.2.2.2.1 um.2.2.2.2.2.1 um.2.2.2.2.2.2.1 um.2.2.2.2.2.2.2.1 um.2.2.2.2.2.2.2.2 x (rp_ hs ac n) hm hw) (cwV 1 hg (gd_V ml_U_139 im_R_parentOf sl_R_parentOf ini_R cd_R_parentOf) rfl rfl rfl (by decide +kernel) ⟨Nat.le_of_ble_eq_true rfl, Nat.le_of_ble_eq_true rfl⟩) (pv_r (va_recv (q0 := 4) (ci := 0) hK hP rfl rfl) (wp_l (wp_r hP)) hK hN) rfl rfl hl.1 rfl (lv_room (Nat.le_of_ble_eq_true rfl)) d_U_parent_5 ⟨Nat.zero_le _, Nat.zero_le _⟩)) (fun r5 e5 => ?_)
  subst e5
  exact W.iret hx hb hr (fun t ht hW => ⟨_, rfl, rfl, ht⟩) (fun q h => absurd h List.not_mem_nil) d_U_parent_8
