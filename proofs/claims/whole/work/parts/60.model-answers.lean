/-! The reference: the calls that only read -/
theorem nI_ge0 {i : Nat} (h : i < 100000) : 0 ≤ nI i := by
  rw [Int32.le_iff_toInt_le, nI_t h]
  have : (0 : Int32).toInt = 0 := by decide
  omega

set_option maxHeartbeats 4000000 in
set_option maxRecDepth 100000 in
theorem m_M_taken (l : Launch) (D : va_G) (cA : Nat → ClassId) (am : Nat → Nat) (nu ki th ot : Nat → Int32) (vs : Nat → Int64) (av pl ps ts : Nat → Int32) (fr bk : Int32) (ce : Nat → Int32) (co : Nat → Int64) (ro le dn un : Nat → Int32) (hs : Nat → st_T) (ac : Nat → Bool) (n la : Nat) (T : List Int32) (x : Int32) (hI : mI_ (hs, ac, n, la, T) (nu, ki, th, ot, vs, av, pl, ps, ts, fr, bk, ce, co, ro, le, dn, un)) (haI : aI_ (hs, ac, n, la, T)) : Met l y_M_taken (.code y_M_taken c_M_taken 2 (some .int) :: G_) ({ frames := 0, cells := 0, slots := 0, locals := 0 }) (va_Pc [.ref (am 0), .int x] (pr_ D cA (wM cA am (nI n) (nI la) nu ki th ot vs av pl ps (nI T.length) ts fr bk ce co ro le dn un))) (vp_Si (fun r => r = sp_taken T x)) 0 0 (fun _ => False) := by
  refine Met.ofW (cc := c_M_taken) (maxL := 2) (ret := (some .int)) (by decide) rfl ?_
  intro p e s m args below meth c s₁ B hml hv
  obtain ⟨rfl, hP, hK, hN⟩ := hv
  have hx := B.exec
  have hb := B.bytes
  have hr := B.returns
  have hts := atoms_spec (ws := (.code y_M_taken c_M_taken 2 (some .int) :: G_)) B.pre
  have hg : ∀ w ∈ G_, w.before ([.ref (am 0), .int x] : List Value).toArray s = true := fun w h => hts w (List.mem_cons_of_mem _ h)
  have hown : s.vm.findClass RM = some m.cls := findClass_of_methodNamed B.named
  have hlocks := B.notSynchronized
  have hl := lv_entry ([.ref (am 0), .int x]) (n := 2) (Nat.le_of_ble_eq_true rfl)
  rw [lg_entry_eq]
  generalize (lg_sl ([.ref (am 0), .int x]) ++ List.replicate (2 - (lg_sl ([.ref (am 0), .int x])).length) Slot.unset).toArray = ls at hl ⊢
  have hl : lv_has ls 2 [(0, .ref (am 0)), (1, .int x)] := hl
  have hmh : mh_ hs ac n nu ki th ot vs av pl ps := hI.1
  have hT : rl_ ts T := hI.2.1
  have hH : hi_ hs n la := haI.1
  have hn2 : n ≤ 200 := hH.1
  have hT200 : T.length ≤ 200 := haI.2.2
  have hla2 : la < 100000 := hH.2.1
  refine lv_iload_n hx hb d_M_taken_0 rfl (lv_at hl 1 rfl) ?_
  refine lv_if_lt (tgt := 12) hx hb d_M_taken_1 (by decide) (fun h1 => ?_) (fun h1 => ?_)
  · skip
    have hx9 : inx_ x T.length = false := inx_1 h1
    refine lv_iconst (v := (-1)) hx hb d_M_taken_12 (by decide) ?_
    refine lv_goto (tgt := 22) hx hb d_M_taken_13 (by decide) ?_
    exact W.iret hx hb hr (fun t ht hW => ⟨_, rfl, by unfold sp_taken; rw [hx9]; rfl, ht⟩) (fun q h => absurd h List.not_mem_nil) d_M_taken_22
  · skip
    refine lv_iload_n hx hb d_M_taken_4 rfl (lv_at hl 1 rfl) ?_
    refine lv_aload_n hx hb d_M_taken_5 rfl (lv_at hl 0 rfl) ?_
    refine va_get (D := D) (ci := 3) (v := .int (nI T.length)) (C := RM) (T := TM) (N := 20) hx hb hg inM hown hK hP 0 rfl rfl 10 (by decide) (hg _ fl_M_132) (fun _ h9 => h9) rfl d_M_taken_6 ?_
    refine lv_icmp_lt (tgt := 16) hx hb d_M_taken_9 (by decide) (fun h9 => ?_) (fun h9 => ?_)
    · skip
      have hx9 := inx_7 (by omega) h1 h9
      obtain ⟨j, hj, hxj⟩ := inx_n hx9
      refine lv_aload_n hx hb d_M_taken_16 rfl (lv_at hl 0 rfl) ?_
      refine va_get (D := D) (ci := 3) (v := .ref (am 9)) (C := RM) (T := TM) (N := 20) hx hb hg inM hown hK hP 0 rfl rfl 11 (by decide) (hg _ fl_M_36) (fun _ h9 => h9) rfl d_M_taken_17 ?_
      refine lv_iload_n hx hb d_M_taken_20 rfl (lv_at hl 1 rfl) ?_
      refine toi_ (y := nI j) (hxj) ?_
      refine va_iald hx hb hK hP 9 0 rfl rfl (vp_in_nI (n := j) (N := 200) (by omega) (by omega)) d_M_taken_21 ?_
      refine toi_ (y := ts j) (by rw [nI_clamp (by omega)]) ?_
      exact W.iret hx hb hr (fun t ht hW => ⟨_, rfl, by unfold sp_taken; rw [if_pos hx9, hxj, nI_clamp (by omega), List.getD_eq_getElem?_getD, hT j hj]; rfl, ht⟩) (fun q h => absurd h List.not_mem_nil) d_M_taken_22
    · skip
      have hx9 := inx_6 (by omega) h9
      refine lv_iconst (v := (-1)) hx hb d_M_taken_12 (by decide) ?_
      refine lv_goto (tgt := 22) hx hb d_M_taken_13 (by decide) ?_
      exact W.iret hx hb hr (fun t ht hW => ⟨_, rfl, by unfold sp_taken; rw [hx9]; rfl, ht⟩) (fun q h => absurd h List.not_mem_nil) d_M_taken_22

set_option maxHeartbeats 4000000 in
set_option maxRecDepth 100000 in
theorem m_M_active (l : Launch) (D : va_G) (cA : Nat → ClassId) (am : Nat → Nat) (nu ki th ot : Nat → Int32) (vs : Nat → Int64) (av pl ps ts : Nat → Int32) (fr bk : Int32) (ce : Nat → Int32) (co : Nat → Int64) (ro le dn un : Nat → Int32) (hs : Nat → st_T) (ac : Nat → Bool) (n la : Nat) (T : List Int32) (x : Int32) (hI : mI_ (hs, ac, n, la, T) (nu, ki, th, ot, vs, av, pl, ps, ts, fr, bk, ce, co, ro, le, dn, un)) (haI : aI_ (hs, ac, n, la, T)) : Met l y_M_active (.code y_M_active c_M_active 3 (some .int) :: G_) ({ frames := 1, cells := 0, slots := 0, locals := 22 }) (va_Pc [.ref (am 0), .int x] (pr_ D cA (wM cA am (nI n) (nI la) nu ki th ot vs av pl ps (nI T.length) ts fr bk ce co ro le dn un))) (vp_Si (fun r => r = sp_active hs ac n x)) 0 0 (fun _ => False) := by
  refine Met.ofW (cc := c_M_active) (maxL := 3) (ret := (some .int)) (by decide) rfl ?_
  intro p e s m args below meth c s₁ B hml hv
  obtain ⟨rfl, hP, hK, hN⟩ := hv
  have hx := B.exec
  have hb := B.bytes
  have hr := B.returns
  have hts := atoms_spec (ws := (.code y_M_active c_M_active 3 (some .int) :: G_)) B.pre
  have hg : ∀ w ∈ G_, w.before ([.ref (am 0), .int x] : List Value).toArray s = true := fun w h => hts w (List.mem_cons_of_mem _ h)
  have hown : s.vm.findClass RM = some m.cls := findClass_of_methodNamed B.named
  have hlocks := B.notSynchronized
  have hl := lv_entry ([.ref (am 0), .int x]) (n := 3) (Nat.le_of_ble_eq_true rfl)
  rw [lg_entry_eq]
  generalize (lg_sl ([.ref (am 0), .int x]) ++ List.replicate (3 - (lg_sl ([.ref (am 0), .int x])).length) Slot.unset).toArray = ls at hl ⊢
  have hl : lv_has ls 3 [(0, .ref (am 0)), (1, .int x)] := hl
  have hmh : mh_ hs ac n nu ki th ot vs av pl ps := hI.1
  have hT : rl_ ts T := hI.2.1
  have hH : hi_ hs n la := haI.1
  have hn2 : n ≤ 200 := hH.1
  have hT200 : T.length ≤ 200 := haI.2.2
  have hla2 : la < 100000 := hH.2.1
  refine lv_aload_n hx hb d_M_active_0 rfl (lv_at hl 0 rfl) ?_
  refine lv_iload_n hx hb d_M_active_1 rfl (lv_at hl 1 rfl) ?_
  refine vp_callSi (va_Run.run (va_runV (C := RM) (As := [.int x]) (rest := []) ⟨hx, hb, hml, hown, hg⟩ (m_M_find l D cA am (nI la) nu ki th ot vs av pl ps (nI T.length) ts fr bk ce co ro le dn un hs ac n x hmh hn2) (cwV 1 hg (gd_V ml_M_79 im_M_find sl_M_find ini_M cd_M_find) rfl rfl rfl (by decide +kernel) ⟨Nat.le_of_ble_eq_true rfl, Nat.le_of_ble_eq_true rfl⟩) (pv_r (va_recv (q0 := 0) (ci := 3) hK hP rfl rfl) (hP) hK hN) rfl rfl hl.1 rfl (lv_room (Nat.le_of_ble_eq_true rfl)) d_M_active_2 ⟨Nat.zero_le _, Nat.zero_le _⟩)) (fun r2 e2 => ?_)
  subst e2
  rcases hfi : fn_ hs n x with _ | k
  · skip
    refine toi_ (y := -1) rfl ?_
    refine lv_istore_n (lv' := [(2, .int (-1)), (0, .ref (am 0)), (1, .int x)]) hx hb d_M_active_5 rfl hl (by decide) rfl (fun ls hl => ?_)
    refine lv_iload_n hx hb d_M_active_6 rfl (lv_at hl 0 rfl) ?_
    refine lv_if_ge (tgt := 14) hx hb d_M_active_7 (by decide) (fun h7 => ?_) (fun h7 => ?_)
    · skip
      exact absurd h7 (by decide)
    · skip
      refine lv_iconst (v := (-1)) hx hb d_M_active_10 (by decide) ?_
      refine lv_goto (tgt := 28) hx hb d_M_active_11 (by decide) ?_
      exact W.iret hx hb hr (fun t ht hW => ⟨_, rfl, by unfold sp_active; rw [hfi], ht⟩) (fun q h => absurd h List.not_mem_nil) d_M_active_28
  · skip
    refine toi_ (y := nI k) rfl ?_
    refine lv_istore_n (lv' := [(2, .int (nI k)), (0, .ref (am 0)), (1, .int x)]) hx hb d_M_active_5 rfl hl (by decide) rfl (fun ls hl => ?_)
    refine lv_iload_n hx hb d_M_active_6 rfl (lv_at hl 0 rfl) ?_
    refine lv_if_ge (tgt := 14) hx hb d_M_active_7 (by decide) (fun h7 => ?_) (fun h7 => ?_)
    · skip
      have hklt := (fn_some hfi).1
      refine lv_aload_n hx hb d_M_active_14 rfl (lv_at hl 1 rfl) ?_
      refine va_get (D := D) (ci := 3) (v := .ref (am 6)) (C := RM) (T := TM) (N := 20) hx hb hg inM hown hK hP 0 rfl rfl 7 (by decide) (hg _ fl_M_26) (fun _ h9 => h9) rfl d_M_active_15 ?_
      refine lv_iload_n hx hb d_M_active_18 rfl (lv_at hl 0 rfl) ?_
      refine va_zald hx hb hK hP 6 4 rfl rfl (vp_in_nI (n := k) (N := 200) (by omega) (by omega)) d_M_active_19 ?_
      refine toi_ (y := av k) (by rw [nI_clamp (by omega)]) ?_
      refine toi_ (y := b2_ (ac k)) ((hmh k hklt).2.2.2.2.2.1) ?_
      refine lv_if_eq (tgt := 27) hx hb d_M_active_20 (by decide) (fun h20 => ?_) (fun h20 => ?_)
      · skip
        have q20 := b2_0.mp h20
        refine lv_iconst (v := 0) hx hb d_M_active_27 (by decide) ?_
        exact W.iret hx hb hr (fun t ht hW => ⟨_, rfl, by unfold sp_active; rw [hfi]; show _ = b2_ (ac k); rw [q20]; rfl, ht⟩) (fun q h => absurd h List.not_mem_nil) d_M_active_28
      · skip
        have q20 := b2_n.mp h20
        refine lv_iconst (v := 1) hx hb d_M_active_23 (by decide) ?_
        refine lv_goto (tgt := 28) hx hb d_M_active_24 (by decide) ?_
        exact W.iret hx hb hr (fun t ht hW => ⟨_, rfl, by unfold sp_active; rw [hfi]; show _ = b2_ (ac k); rw [q20]; rfl, ht⟩) (fun q h => absurd h List.not_mem_nil) d_M_active_28
    · skip
      exact absurd (nI_ge0 (by have := (fn_some hfi).1; omega)) h7

set_option maxHeartbeats 4000000 in
set_option maxRecDepth 100000 in
theorem m_M_value (l : Launch) (D : va_G) (cA : Nat → ClassId) (am : Nat → Nat) (nu ki th ot : Nat → Int32) (vs : Nat → Int64) (av pl ps ts : Nat → Int32) (fr bk : Int32) (ce : Nat → Int32) (co : Nat → Int64) (ro le dn un : Nat → Int32) (hs : Nat → st_T) (ac : Nat → Bool) (n la : Nat) (T : List Int32) (x : Int32) (hI : mI_ (hs, ac, n, la, T) (nu, ki, th, ot, vs, av, pl, ps, ts, fr, bk, ce, co, ro, le, dn, un)) (haI : aI_ (hs, ac, n, la, T)) : Met l y_M_value (.code y_M_value c_M_value 3 (some .int) :: G_) ({ frames := 1, cells := 0, slots := 0, locals := 22 }) (va_Pc [.ref (am 0), .int x] (pr_ D cA (wM cA am (nI n) (nI la) nu ki th ot vs av pl ps (nI T.length) ts fr bk ce co ro le dn un))) (vp_Si (fun r => r = sp_value hs n x)) 0 0 (fun _ => False) := by
  refine Met.ofW (cc := c_M_value) (maxL := 3) (ret := (some .int)) (by decide) rfl ?_
  intro p e s m args below meth c s₁ B hml hv
  obtain ⟨rfl, hP, hK, hN⟩ := hv
  have hx := B.exec
  have hb := B.bytes
  have hr := B.returns
  have hts := atoms_spec (ws := (.code y_M_value c_M_value 3 (some .int) :: G_)) B.pre
  have hg : ∀ w ∈ G_, w.before ([.ref (am 0), .int x] : List Value).toArray s = true := fun w h => hts w (List.mem_cons_of_mem _ h)
  have hown : s.vm.findClass RM = some m.cls := findClass_of_methodNamed B.named
  have hlocks := B.notSynchronized
  have hl := lv_entry ([.ref (am 0), .int x]) (n := 3) (Nat.le_of_ble_eq_true rfl)
  rw [lg_entry_eq]
  generalize (lg_sl ([.ref (am 0), .int x]) ++ List.replicate (3 - (lg_sl ([.ref (am 0), .int x])).length) Slot.unset).toArray = ls at hl ⊢
  have hl : lv_has ls 3 [(0, .ref (am 0)), (1, .int x)] := hl
  have hmh : mh_ hs ac n nu ki th ot vs av pl ps := hI.1
  have hT : rl_ ts T := hI.2.1
  have hH : hi_ hs n la := haI.1
  have hn2 : n ≤ 200 := hH.1
  have hT200 : T.length ≤ 200 := haI.2.2
  have hla2 : la < 100000 := hH.2.1
  refine lv_aload_n hx hb d_M_value_0 rfl (lv_at hl 0 rfl) ?_
  refine lv_iload_n hx hb d_M_value_1 rfl (lv_at hl 1 rfl) ?_
  refine vp_callSi (va_Run.run (va_runV (C := RM) (As := [.int x]) (rest := []) ⟨hx, hb, hml, hown, hg⟩ (m_M_find l D cA am (nI la) nu ki th ot vs av pl ps (nI T.length) ts fr bk ce co ro le dn un hs ac n x hmh hn2) (cwV 1 hg (gd_V ml_M_79 im_M_find sl_M_find ini_M cd_M_find) rfl rfl rfl (by decide +kernel) ⟨Nat.le_of_ble_eq_true rfl, Nat.le_of_ble_eq_true rfl⟩) (pv_r (va_recv (q0 := 0) (ci := 3) hK hP rfl rfl) (hP) hK hN) rfl rfl hl.1 rfl (lv_room (Nat.le_of_ble_eq_true rfl)) d_M_value_2 ⟨Nat.zero_le _, Nat.zero_le _⟩)) (fun r2 e2 => ?_)
  subst e2
  rcases hfi : fn_ hs n x with _ | k
  · skip
    refine toi_ (y := -1) rfl ?_
    refine lv_istore_n (lv' := [(2, .int (-1)), (0, .ref (am 0)), (1, .int x)]) hx hb d_M_value_5 rfl hl (by decide) rfl (fun ls hl => ?_)
    refine lv_iload_n hx hb d_M_value_6 rfl (lv_at hl 0 rfl) ?_
    refine lv_if_lt (tgt := 20) hx hb d_M_value_7 (by decide) (fun h7 => ?_) (fun h7 => ?_)
    · skip
      refine lv_iconst (v := 0) hx hb d_M_value_20 (by decide) ?_
      refine lv_goto (tgt := 31) hx hb d_M_value_21 (by decide) ?_
      exact W.iret hx hb hr (fun t ht hW => ⟨_, rfl, by unfold sp_value; rw [hfi], ht⟩) (fun q h => absurd h List.not_mem_nil) d_M_value_31
    · skip
      exact absurd (by decide) h7
  · skip
    refine toi_ (y := nI k) rfl ?_
    refine lv_istore_n (lv' := [(2, .int (nI k)), (0, .ref (am 0)), (1, .int x)]) hx hb d_M_value_5 rfl hl (by decide) rfl (fun ls hl => ?_)
    refine lv_iload_n hx hb d_M_value_6 rfl (lv_at hl 0 rfl) ?_
    refine lv_if_lt (tgt := 20) hx hb d_M_value_7 (by decide) (fun h7 => ?_) (fun h7 => ?_)
    · skip
      exact absurd h7 (nI_pos (by have := (fn_some hfi).1; omega))
    · skip
      have hklt := (fn_some hfi).1
      refine lv_aload_n hx hb d_M_value_10 rfl (lv_at hl 1 rfl) ?_
      refine va_get (D := D) (ci := 3) (v := .ref (am 2)) (C := RM) (T := TM) (N := 20) hx hb hg inM hown hK hP 0 rfl rfl 3 (by decide) (hg _ fl_M_13) (fun _ h9 => h9) rfl d_M_value_11 ?_
      refine lv_iload_n hx hb d_M_value_14 rfl (lv_at hl 0 rfl) ?_
      refine va_iald hx hb hK hP 2 0 rfl rfl (vp_in_nI (n := k) (N := 200) (by omega) (by omega)) d_M_value_15 ?_
      refine toi_ (y := ki k) (by rw [nI_clamp (by omega)]) ?_
      refine toi_ (y := s_k (hs k)) ((hmh k hklt).2.1) ?_
      refine lv_iconst (v := 3) hx hb d_M_value_16 (by decide) ?_
      refine lv_icmp_eq (tgt := 24) hx hb d_M_value_17 (by decide) (fun h17 => ?_) (fun h17 => ?_)
      · skip
        refine lv_aload_n hx hb d_M_value_24 rfl (lv_at hl 1 rfl) ?_
        refine va_get (D := D) (ci := 3) (v := .ref (am 5)) (C := RM) (T := TM) (N := 20) hx hb hg inM hown hK hP 0 rfl rfl 6 (by decide) (hg _ fl_M_22) (fun _ h9 => h9) rfl d_M_value_25 ?_
        refine lv_iload_n hx hb d_M_value_28 rfl (lv_at hl 0 rfl) ?_
        refine va_lald hx hb hK hP 5 1 rfl rfl (vp_in_nI (n := k) (N := 200) (by omega) (by omega)) d_M_value_29 ?_
        refine tol_ (y := vs k) (by rw [nI_clamp (by omega)]) ?_
        refine tol_ (y := s_a (hs k)) ((hmh k hklt).2.2.2.2.1) ?_
        refine lv_l2i (v := (s_a (hs k)).toInt32) hx hb d_M_value_30 (rfl) ?_
        exact W.iret hx hb hr (fun t ht hW => ⟨_, rfl, by unfold sp_value; rw [hfi]; show _ = if s_k (hs k) = 3 then _ else _; rw [if_pos h17], ht⟩) (fun q h => absurd h List.not_mem_nil) d_M_value_31
      · skip
        refine lv_iconst (v := 0) hx hb d_M_value_20 (by decide) ?_
        refine lv_goto (tgt := 31) hx hb d_M_value_21 (by decide) ?_
        exact W.iret hx hb hr (fun t ht hW => ⟨_, rfl, by unfold sp_value; rw [hfi]; show _ = if s_k (hs k) = 3 then _ else _; rw [if_neg h17], ht⟩) (fun q h => absurd h List.not_mem_nil) d_M_value_31

set_option maxHeartbeats 4000000 in
set_option maxRecDepth 100000 in
theorem m_M_count (l : Launch) (D : va_G) (cA : Nat → ClassId) (am : Nat → Nat) (nu ki th ot : Nat → Int32) (vs : Nat → Int64) (av pl ps ts : Nat → Int32) (fr bk : Int32) (ce : Nat → Int32) (co : Nat → Int64) (ro le dn un : Nat → Int32) (hs : Nat → st_T) (ac : Nat → Bool) (n la : Nat) (T : List Int32) (x : Int32) (hI : mI_ (hs, ac, n, la, T) (nu, ki, th, ot, vs, av, pl, ps, ts, fr, bk, ce, co, ro, le, dn, un)) (haI : aI_ (hs, ac, n, la, T)) : Met l y_M_count (.code y_M_count c_M_count 4 (some .int) :: G_) ({ frames := 0, cells := 0, slots := 0, locals := 0 }) (va_Pc [.ref (am 0), .int x] (pr_ D cA (wM cA am (nI n) (nI la) nu ki th ot vs av pl ps (nI T.length) ts fr bk ce co ro le dn un))) (vp_Si (fun r => r = sp_count ac n la x)) 0 0 (fun _ => False) := by
  refine Met.ofW (cc := c_M_count) (maxL := 4) (ret := (some .int)) (by decide) rfl ?_
  intro p e s m args below meth c s₁ B hml hv
  obtain ⟨rfl, hP, hK, hN⟩ := hv
  have hx := B.exec
  have hb := B.bytes
  have hr := B.returns
  have hts := atoms_spec (ws := (.code y_M_count c_M_count 4 (some .int) :: G_)) B.pre
  have hg : ∀ w ∈ G_, w.before ([.ref (am 0), .int x] : List Value).toArray s = true := fun w h => hts w (List.mem_cons_of_mem _ h)
  have hown : s.vm.findClass RM = some m.cls := findClass_of_methodNamed B.named
  have hlocks := B.notSynchronized
  have hl := lv_entry ([.ref (am 0), .int x]) (n := 4) (Nat.le_of_ble_eq_true rfl)
  rw [lg_entry_eq]
  generalize (lg_sl ([.ref (am 0), .int x]) ++ List.replicate (4 - (lg_sl ([.ref (am 0), .int x])).length) Slot.unset).toArray = ls at hl ⊢
  have hl : lv_has ls 4 [(0, .ref (am 0)), (1, .int x)] := hl
  have hmh : mh_ hs ac n nu ki th ot vs av pl ps := hI.1
  have hT : rl_ ts T := hI.2.1
  have hH : hi_ hs n la := haI.1
  have hn2 : n ≤ 200 := hH.1
  have hT200 : T.length ≤ 200 := haI.2.2
  have hla2 : la < 100000 := hH.2.1
  have loop : ∀ (d i : Nat) (ls : Array Slot), i + d = n → lv_has ls 4 [(3, .int (nI i)), (2, .int (nI (na_ ac i))), (0, .ref (am 0)), (1, .int x)] → W p l e (headSpec (.code y_M_count c_M_count 4 (some .int) :: G_) ({ frames := 0, cells := 0, slots := 0, locals := 0 })).room s m ([.ref (am 0), .int x] : List Value).toArray below meth c s.heap [] 0 0 (MQ below (vp_Si (fun r => r = sp_count ac n la x)) ([.ref (am 0), .int x] : List Value).toArray s 0 0 (fun _ => False)) (F0 m 4 ls []) := by
    intro d
    induction d with
    | zero =>
      intro i ls hid hl
      have hi2 : i = n := by omega
      rw [hi2] at hl
      refine lv_iload_n hx hb d_M_count_4 rfl (lv_at hl 0 rfl) ?_
      refine lv_aload_n hx hb d_M_count_5 rfl (lv_at hl 2 rfl) ?_
      refine va_get (D := D) (ci := 3) (v := .int (nI n)) (C := RM) (T := TM) (N := 20) hx hb hg inM hown hK hP 0 rfl rfl 0 (by decide) (hg _ fl_M_65) (fun _ h9 => h9) rfl d_M_count_6 ?_
      refine lv_icmp_ge (tgt := 35) hx hb d_M_count_9 (by decide) (fun h9 => ?_) (fun h9 => ?_)
      · skip
        refine lv_iload_n hx hb d_M_count_35 rfl (lv_at hl 3 rfl) ?_
        refine lv_if_ne (tgt := 46) hx hb d_M_count_36 (by decide) (fun h36 => ?_) (fun h36 => ?_)
        · skip
          refine lv_iload_n hx hb d_M_count_46 rfl (lv_at hl 3 rfl) ?_
          refine lv_iconst (v := 1) hx hb d_M_count_47 (by decide) ?_
          refine lv_icmp_ne (tgt := 58) hx hb d_M_count_48 (by decide) (fun h48 => ?_) (fun h48 => ?_)
          · skip
            refine lv_iload_n hx hb d_M_count_58 rfl (lv_at hl 3 rfl) ?_
            refine lv_iconst (v := 2) hx hb d_M_count_59 (by decide) ?_
            refine lv_icmp_ne (tgt := 67) hx hb d_M_count_60 (by decide) (fun h60 => ?_) (fun h60 => ?_)
            · skip
              refine lv_iconst (v := (-1)) hx hb d_M_count_67 (by decide) ?_
              exact W.iret hx hb hr (fun t ht hW => ⟨_, rfl, by unfold sp_count; rw [if_neg h36, if_neg h48, if_neg h60], ht⟩) (fun q h => absurd h List.not_mem_nil) d_M_count_68
            · skip
              refine lv_iload_n hx hb d_M_count_63 rfl (lv_at hl 1 rfl) ?_
              refine lv_goto (tgt := 68) hx hb d_M_count_64 (by decide) ?_
              exact W.iret hx hb hr (fun t ht hW => ⟨_, rfl, by unfold sp_count; rw [if_neg h36, if_neg h48, if_pos h60], ht⟩) (fun q h => absurd h List.not_mem_nil) d_M_count_68
          · skip
            refine lv_aload_n hx hb d_M_count_51 rfl (lv_at hl 2 rfl) ?_
            refine va_get (D := D) (ci := 3) (v := .int (nI la)) (C := RM) (T := TM) (N := 20) hx hb hg inM hown hK hP 0 rfl rfl 1 (by decide) (hg _ fl_M_68) (fun _ h9 => h9) rfl d_M_count_52 ?_
            refine lv_goto (tgt := 68) hx hb d_M_count_55 (by decide) ?_
            exact W.iret hx hb hr (fun t ht hW => ⟨_, rfl, by unfold sp_count; rw [if_neg h36, if_pos h48], ht⟩) (fun q h => absurd h List.not_mem_nil) d_M_count_68
        · skip
          refine lv_aload_n hx hb d_M_count_39 rfl (lv_at hl 2 rfl) ?_
          refine va_get (D := D) (ci := 3) (v := .int (nI n)) (C := RM) (T := TM) (N := 20) hx hb hg inM hown hK hP 0 rfl rfl 0 (by decide) (hg _ fl_M_65) (fun _ h9 => h9) rfl d_M_count_40 ?_
          refine lv_goto (tgt := 68) hx hb d_M_count_43 (by decide) ?_
          exact W.iret hx hb hr (fun t ht hW => ⟨_, rfl, by unfold sp_count; rw [if_pos h36], ht⟩) (fun q h => absurd h List.not_mem_nil) d_M_count_68
      · skip
        exact absurd (Int32.le_refl _) h9
    | succ d ih =>
      intro i ls hid hl
      have hmi := hmh i (by omega)
      refine lv_iload_n hx hb d_M_count_4 rfl (lv_at hl 0 rfl) ?_
      refine lv_aload_n hx hb d_M_count_5 rfl (lv_at hl 2 rfl) ?_
      refine va_get (D := D) (ci := 3) (v := .int (nI n)) (C := RM) (T := TM) (N := 20) hx hb hg inM hown hK hP 0 rfl rfl 0 (by decide) (hg _ fl_M_65) (fun _ h9 => h9) rfl d_M_count_6 ?_
      refine lv_icmp_ge (tgt := 35) hx hb d_M_count_9 (by decide) (fun h9 => ?_) (fun h9 => ?_)
      · skip
        exact absurd h9 (nI_ge (by omega) (by omega))
      · skip
        refine lv_iload_n hx hb d_M_count_12 rfl (lv_at hl 1 rfl) ?_
        refine lv_aload_n hx hb d_M_count_13 rfl (lv_at hl 2 rfl) ?_
        refine va_get (D := D) (ci := 3) (v := .ref (am 6)) (C := RM) (T := TM) (N := 20) hx hb hg inM hown hK hP 0 rfl rfl 7 (by decide) (hg _ fl_M_26) (fun _ h9 => h9) rfl d_M_count_14 ?_
        refine lv_iload_n hx hb d_M_count_17 rfl (lv_at hl 0 rfl) ?_
        refine va_zald hx hb hK hP 6 4 rfl rfl (vp_in_nI (n := i) (N := 200) (by omega) (by omega)) d_M_count_18 ?_
        refine toi_ (y := av i) (by rw [nI_clamp (by omega)]) ?_
        refine toi_ (y := b2_ (ac i)) (hmi.2.2.2.2.2.1) ?_
        refine lv_if_eq (tgt := 26) hx hb d_M_count_19 (by decide) (fun h19 => ?_) (fun h19 => ?_)
        · skip
          have q19 := b2_0.mp h19
          refine lv_iconst (v := 0) hx hb d_M_count_26 (by decide) ?_
          refine lv_iadd hx hb d_M_count_27 ?_
          refine toi_ (y := nI (na_ ac (i + 1))) (by rw [na_s, q19]; exact Int32.add_zero _) ?_
          refine lv_istore_n (lv' := [(2, .int (nI (na_ ac (i + 1)))), (3, .int (nI i)), (0, .ref (am 0)), (1, .int x)]) hx hb d_M_count_28 rfl hl (by decide) rfl (fun ls hl => ?_)
          refine lv_iinc (k := 1) (v := nI (i + 1)) (lv' := [(3, .int (nI (i + 1))), (2, .int (nI (na_ ac (i + 1)))), (0, .ref (am 0)), (1, .int x)]) hx hb d_M_count_29 hl rfl (inc_ _) (by decide) rfl (fun ls hl => ?_)
          refine lv_goto (tgt := 4) hx hb d_M_count_32 (by decide) ?_
          have hl := lv_sub hl [0, 1, 2, 3] (l' := [(3, .int (nI (i + 1))), (2, .int (nI (na_ ac (i + 1)))), (0, .ref (am 0)), (1, .int x)]) rfl
          exact ih (i + 1) ls (by omega) hl
        · skip
          have q19 := b2_n.mp h19
          refine lv_iconst (v := 1) hx hb d_M_count_22 (by decide) ?_
          refine lv_goto (tgt := 27) hx hb d_M_count_23 (by decide) ?_
          refine lv_iadd hx hb d_M_count_27 ?_
          refine toi_ (y := nI (na_ ac (i + 1))) (by rw [na_s, q19]; exact nI_1 _) ?_
          refine lv_istore_n (lv' := [(2, .int (nI (na_ ac (i + 1)))), (3, .int (nI i)), (0, .ref (am 0)), (1, .int x)]) hx hb d_M_count_28 rfl hl (by decide) rfl (fun ls hl => ?_)
          refine lv_iinc (k := 1) (v := nI (i + 1)) (lv' := [(3, .int (nI (i + 1))), (2, .int (nI (na_ ac (i + 1)))), (0, .ref (am 0)), (1, .int x)]) hx hb d_M_count_29 hl rfl (inc_ _) (by decide) rfl (fun ls hl => ?_)
          refine lv_goto (tgt := 4) hx hb d_M_count_32 (by decide) ?_
          have hl := lv_sub hl [0, 1, 2, 3] (l' := [(3, .int (nI (i + 1))), (2, .int (nI (na_ ac (i + 1)))), (0, .ref (am 0)), (1, .int x)]) rfl
          exact ih (i + 1) ls (by omega) hl
  refine lv_iconst (v := 0) hx hb d_M_count_0 (by decide) ?_
  refine lv_istore_n (lv' := [(2, .int 0), (0, .ref (am 0)), (1, .int x)]) hx hb d_M_count_1 rfl hl (by decide) rfl (fun ls hl => ?_)
  refine lv_iconst (v := 0) hx hb d_M_count_2 (by decide) ?_
  refine lv_istore_n (lv' := [(3, .int 0), (2, .int 0), (0, .ref (am 0)), (1, .int x)]) hx hb d_M_count_3 rfl hl (by decide) rfl (fun ls hl => ?_)
  have hl := lv_sub hl [0, 1, 2, 3] (l' := [(3, .int (nI 0)), (2, .int (nI (na_ ac 0))), (0, .ref (am 0)), (1, .int x)]) rfl
  exact loop n 0 ls (by omega) hl

set_option maxHeartbeats 4000000 in
set_option maxRecDepth 100000 in
theorem m_M_history (l : Launch) (D : va_G) (cA : Nat → ClassId) (am : Nat → Nat) (nu ki th ot : Nat → Int32) (vs : Nat → Int64) (av pl ps ts : Nat → Int32) (fr bk : Int32) (ce : Nat → Int32) (co : Nat → Int64) (ro le dn un : Nat → Int32) (hs : Nat → st_T) (ac : Nat → Bool) (n la : Nat) (T : List Int32) (x y : Int32) (hI : mI_ (hs, ac, n, la, T) (nu, ki, th, ot, vs, av, pl, ps, ts, fr, bk, ce, co, ro, le, dn, un)) (haI : aI_ (hs, ac, n, la, T)) : Met l y_M_history (.code y_M_history c_M_history 3 (some .int) :: G_) ({ frames := 0, cells := 0, slots := 0, locals := 0 }) (va_Pc [.ref (am 0), .int x, .int y] (pr_ D cA (wM cA am (nI n) (nI la) nu ki th ot vs av pl ps (nI T.length) ts fr bk ce co ro le dn un))) (vp_Si (fun r => r = sp_hist hs n x y)) 0 0 (fun _ => False) := by
  refine Met.ofW (cc := c_M_history) (maxL := 3) (ret := (some .int)) (by decide) rfl ?_
  intro p e s m args below meth c s₁ B hml hv
  obtain ⟨rfl, hP, hK, hN⟩ := hv
  have hx := B.exec
  have hb := B.bytes
  have hr := B.returns
  have hts := atoms_spec (ws := (.code y_M_history c_M_history 3 (some .int) :: G_)) B.pre
  have hg : ∀ w ∈ G_, w.before ([.ref (am 0), .int x, .int y] : List Value).toArray s = true := fun w h => hts w (List.mem_cons_of_mem _ h)
  have hown : s.vm.findClass RM = some m.cls := findClass_of_methodNamed B.named
  have hlocks := B.notSynchronized
  have hl := lv_entry ([.ref (am 0), .int x, .int y]) (n := 3) (Nat.le_of_ble_eq_true rfl)
  rw [lg_entry_eq]
  generalize (lg_sl ([.ref (am 0), .int x, .int y]) ++ List.replicate (3 - (lg_sl ([.ref (am 0), .int x, .int y])).length) Slot.unset).toArray = ls at hl ⊢
  have hl : lv_has ls 3 [(0, .ref (am 0)), (1, .int x), (2, .int y)] := hl
  have hmh : mh_ hs ac n nu ki th ot vs av pl ps := hI.1
  have hT : rl_ ts T := hI.2.1
  have hH : hi_ hs n la := haI.1
  have hn2 : n ≤ 200 := hH.1
  have hT200 : T.length ≤ 200 := haI.2.2
  have hla2 : la < 100000 := hH.2.1
  refine lv_iload_n hx hb d_M_history_0 rfl (lv_at hl 1 rfl) ?_
  refine lv_if_lt (tgt := 12) hx hb d_M_history_1 (by decide) (fun h1 => ?_) (fun h1 => ?_)
  · skip
    have hx9 : inx_ x n = false := inx_1 h1
    refine lv_iconst (v := (-1)) hx hb d_M_history_12 (by decide) ?_
    exact W.iret hx hb hr (fun t ht hW => ⟨_, rfl, by unfold sp_hist; rw [hx9]; rfl, ht⟩) (fun q h => absurd h List.not_mem_nil) d_M_history_13
  · skip
    refine lv_iload_n hx hb d_M_history_4 rfl (lv_at hl 1 rfl) ?_
    refine lv_aload_n hx hb d_M_history_5 rfl (lv_at hl 0 rfl) ?_
    refine va_get (D := D) (ci := 3) (v := .int (nI n)) (C := RM) (T := TM) (N := 20) hx hb hg inM hown hK hP 0 rfl rfl 0 (by decide) (hg _ fl_M_65) (fun _ h9 => h9) rfl d_M_history_6 ?_
    refine lv_icmp_lt (tgt := 14) hx hb d_M_history_9 (by decide) (fun h9 => ?_) (fun h9 => ?_)
    · skip
      have hx9 := inx_7 (by omega) h1 h9
      obtain ⟨j, hj, hxj⟩ := inx_n hx9
      have hmj := hmh j hj
      refine lv_iload_n hx hb d_M_history_14 rfl (lv_at hl 2 rfl) ?_
      refine lv_if_ne (tgt := 27) hx hb d_M_history_15 (by decide) (fun h15 => ?_) (fun h15 => ?_)
      · skip
        refine lv_iload_n hx hb d_M_history_27 rfl (lv_at hl 2 rfl) ?_
        refine lv_iconst (v := 1) hx hb d_M_history_28 (by decide) ?_
        refine lv_icmp_ne (tgt := 41) hx hb d_M_history_29 (by decide) (fun h29 => ?_) (fun h29 => ?_)
        · skip
          refine lv_iload_n hx hb d_M_history_41 rfl (lv_at hl 2 rfl) ?_
          refine lv_iconst (v := 2) hx hb d_M_history_42 (by decide) ?_
          refine lv_icmp_ne (tgt := 55) hx hb d_M_history_43 (by decide) (fun h43 => ?_) (fun h43 => ?_)
          · skip
            refine lv_iconst (v := (-1)) hx hb d_M_history_55 (by decide) ?_
            exact W.iret hx hb hr (fun t ht hW => ⟨_, rfl, by unfold sp_hist; rw [if_pos hx9, if_neg h15, if_neg h29, if_neg h43], ht⟩) (fun q h => absurd h List.not_mem_nil) d_M_history_56
          · skip
            refine lv_aload_n hx hb d_M_history_46 rfl (lv_at hl 0 rfl) ?_
            refine va_get (D := D) (ci := 3) (v := .ref (am 3)) (C := RM) (T := TM) (N := 20) hx hb hg inM hown hK hP 0 rfl rfl 4 (by decide) (hg _ fl_M_16) (fun _ h9 => h9) rfl d_M_history_47 ?_
            refine lv_iload_n hx hb d_M_history_50 rfl (lv_at hl 1 rfl) ?_
            refine toi_ (y := nI j) (hxj) ?_
            refine va_iald hx hb hK hP 3 0 rfl rfl (vp_in_nI (n := j) (N := 200) (by omega) (by omega)) d_M_history_51 ?_
            refine toi_ (y := th j) (by rw [nI_clamp (by omega)]) ?_
            refine toi_ (y := s_t (hs j)) (hmj.2.2.1) ?_
            refine lv_goto (tgt := 56) hx hb d_M_history_52 (by decide) ?_
            exact W.iret hx hb hr (fun t ht hW => ⟨_, rfl, by unfold sp_hist; rw [if_pos hx9, if_neg h15, if_neg h29, if_pos h43, hxj, nI_clamp (by omega)], ht⟩) (fun q h => absurd h List.not_mem_nil) d_M_history_56
        · skip
          refine lv_aload_n hx hb d_M_history_32 rfl (lv_at hl 0 rfl) ?_
          refine va_get (D := D) (ci := 3) (v := .ref (am 2)) (C := RM) (T := TM) (N := 20) hx hb hg inM hown hK hP 0 rfl rfl 3 (by decide) (hg _ fl_M_13) (fun _ h9 => h9) rfl d_M_history_33 ?_
          refine lv_iload_n hx hb d_M_history_36 rfl (lv_at hl 1 rfl) ?_
          refine toi_ (y := nI j) (hxj) ?_
          refine va_iald hx hb hK hP 2 0 rfl rfl (vp_in_nI (n := j) (N := 200) (by omega) (by omega)) d_M_history_37 ?_
          refine toi_ (y := ki j) (by rw [nI_clamp (by omega)]) ?_
          refine toi_ (y := s_k (hs j)) (hmj.2.1) ?_
          refine lv_goto (tgt := 56) hx hb d_M_history_38 (by decide) ?_
          exact W.iret hx hb hr (fun t ht hW => ⟨_, rfl, by unfold sp_hist; rw [if_pos hx9, if_neg h15, if_pos h29, hxj, nI_clamp (by omega)], ht⟩) (fun q h => absurd h List.not_mem_nil) d_M_history_56
      · skip
        refine lv_aload_n hx hb d_M_history_18 rfl (lv_at hl 0 rfl) ?_
        refine va_get (D := D) (ci := 3) (v := .ref (am 1)) (C := RM) (T := TM) (N := 20) hx hb hg inM hown hK hP 0 rfl rfl 2 (by decide) (hg _ fl_M_7) (fun _ h9 => h9) rfl d_M_history_19 ?_
        refine lv_iload_n hx hb d_M_history_22 rfl (lv_at hl 1 rfl) ?_
        refine toi_ (y := nI j) (hxj) ?_
        refine va_iald hx hb hK hP 1 0 rfl rfl (vp_in_nI (n := j) (N := 200) (by omega) (by omega)) d_M_history_23 ?_
        refine toi_ (y := nu j) (by rw [nI_clamp (by omega)]) ?_
        refine toi_ (y := s_n (hs j)) (hmj.1) ?_
        refine lv_goto (tgt := 56) hx hb d_M_history_24 (by decide) ?_
        exact W.iret hx hb hr (fun t ht hW => ⟨_, rfl, by unfold sp_hist; rw [if_pos hx9, if_pos h15, hxj, nI_clamp (by omega)], ht⟩) (fun q h => absurd h List.not_mem_nil) d_M_history_56
    · skip
      have hx9 := inx_6 (by omega) h9
      refine lv_iconst (v := (-1)) hx hb d_M_history_12 (by decide) ?_
      exact W.iret hx hb hr (fun t ht hW => ⟨_, rfl, by unfold sp_hist; rw [hx9]; rfl, ht⟩) (fun q h => absurd h List.not_mem_nil) d_M_history_13
