/-! The reference: the calls that read its memory -/
set_option maxHeartbeats 4000000 in
set_option maxRecDepth 100000 in
theorem m_M_cell (l : Launch) (D : va_G) (cA : Nat → ClassId) (sz : Nat) (am : Nat → Nat) (nu ki th ot : Nat → Int32) (vs : Nat → Int64) (av pl ps ts : Nat → Int32) (fr bk : Int32) (ce : Nat → Int32) (co : Nat → Int64) (ro le dn un : Nat → Int32) (hs : Nat → st_T) (ac : Nat → Bool) (n la : Nat) (T : List Int32) (x9 : Int32) (hI : mI_ (hs, ac, n, la, T) (nu, ki, th, ot, vs, av, pl, ps, ts, fr, bk, ce, co, ro, le, dn, un)) (haI : aI_ (hs, ac, n, la, T)) : Met l y_M_cell (.code y_M_cell c_M_cell 2 (some .int) :: G_) ({ frames := 5, cells := 0, slots := 0, locals := 115 }) (va_Pc [.ref (am 0), .int x9] (pm_ D cA (wM cA am (nI n) (nI la) nu ki th ot vs av pl ps (nI T.length) ts fr bk ce co ro le dn un) sz)) (va_Qi (fun (r : Int32) (u : mc_T) => r = sp_cell (rp_ hs ac n) x9 ∧ mI_ (hs, ac, n, la, T) u) (bw_ D (va_A (wM cA am (nI n) (nI la) nu ki th ot vs av pl ps (nI T.length) ts fr bk ce co ro le dn un) sz) (fun u => wY cA am (hs, ac, n, la, T) u)) (va_A (wM cA am (nI n) (nI la) nu ki th ot vs av pl ps (nI T.length) ts fr bk ce co ro le dn un) sz)) 0 0 (va_A (wM cA am (nI n) (nI la) nu ki th ot vs av pl ps (nI T.length) ts fr bk ce co ro le dn un) sz) := by
  refine Met.ofW (cc := c_M_cell) (maxL := 2) (ret := (some .int)) (by decide) rfl ?_
  intro p e s m args below meth c s₁ B hml hv
  obtain ⟨rfl, hsz, hP, ⟨hK, hN⟩, hD0⟩ := hv
  have hx := B.exec
  have hb := B.bytes
  have hr := B.returns
  have hts := atoms_spec (ws := (.code y_M_cell c_M_cell 2 (some .int) :: G_)) B.pre
  have hg : ∀ w ∈ G_, w.before ([.ref (am 0), .int x9] : List Value).toArray s = true := fun w h => hts w (List.mem_cons_of_mem _ h)
  have hown : s.vm.findClass RM = some m.cls := findClass_of_methodNamed B.named
  have hlocks := B.notSynchronized
  subst hsz
  have hD := hD0.self (sz := s.heap.size)
  generalize hAe : va_A (wM cA am (nI n) (nI la) nu ki th ot vs av pl ps (nI T.length) ts fr bk ce co ro le dn un) s.heap.size = A at hD ⊢
  have hA : ∀ q : Nat, s.heap.size ≤ q → A q := fun q h => by rw [← hAe]; exact Or.inr h
  have hS : va_S A s.heap s.heap [] := va_S.rf
  have hl := lv_entry ([.ref (am 0), .int x9]) (n := 2) (Nat.le_of_ble_eq_true rfl)
  rw [lg_entry_eq]
  generalize (lg_sl ([.ref (am 0), .int x9]) ++ List.replicate (2 - (lg_sl ([.ref (am 0), .int x9])).length) Slot.unset).toArray = ls at hl ⊢
  have hl : lv_has ls 2 [(0, .ref (am 0)), (1, .int x9)] := hl
  have hmh : mh_ hs ac n nu ki th ot vs av pl ps := hI.1
  have hT : rl_ ts T := hI.2.1
  have hH : hi_ hs n la := haI.1
  have hn2 : n ≤ 200 := hH.1
  have hT200 : T.length ≤ 200 := haI.2.2
  have hla2 : la < 100000 := hH.2.1
  have hw := rp_mw hH ac (Nat.le_refl n)
  refine lv_aload_n hx hb d_M_cell_0 rfl (lv_at hl 0 rfl) ?_
  refine mu0_v (w := (wM cA am (nI n) (nI la) nu ki th ot vs av pl ps (nI T.length) ts fr bk ce co ro le dn un)) (va_runV (C := RM) (As := []) (rest := []) ⟨hx, hb, hml, hown, hg⟩ (m_M_recall l D cA s.heap.size am (nI la) nu ki th ot vs av pl ps (nI T.length) ts fr bk ce co ro le dn un hs ac n hmh hn2 la hH hI.2.2) (cwV 0 hg (gd_V ml_M_117 im_M_recall sl_M_recall ini_M cd_M_recall) rfl rfl rfl (by decide +kernel) ⟨Nat.le_of_ble_eq_true rfl, Nat.le_of_ble_eq_true rfl⟩) (pv_m (va_recv (q0 := 0) (ci := 3) hK hP rfl rfl) hP hK hN hD) rfl rfl hl.1 rfl (lv_room (Nat.le_of_ble_eq_true rfl)) d_M_cell_1 ⟨Nat.zero_le _, Nat.zero_le _⟩) hP hD hS hA (fun u H locs hp hP hD hS => ?_)
  obtain ⟨⟨ce2, co2, ro2, le2, dn2, un2⟩, bk2⟩ := u
  have hq : mq_ hs ac n n (rp_ hs ac n) ce2 co2 ro2 le2 dn2 un2 := hp
  have hP : va_P D cls_ (wM cA am (nI n) (nI la) nu ki th ot vs av pl ps (nI T.length) ts 1 bk2 ce2 co2 ro2 le2 dn2 un2) H := hP
  have hD : va_D A (wM cA am (nI n) (nI la) nu ki th ot vs av pl ps (nI T.length) ts 1 bk2 ce2 co2 ro2 le2 dn2 un2) := hD
  refine lv_iload_n hx hb d_M_cell_4 rfl (lv_at hl 1 rfl) ?_
  refine lv_if_lt (tgt := 14) hx hb d_M_cell_5 (by decide) (fun h5 => ?_) (fun h5 => ?_)
  · skip
    have hx9 : inx_ x9 8 = false := inx_1 h5
    refine lv_iconst (v := 0) hx hb d_M_cell_14 (by decide) ?_
    refine lv_goto (tgt := 24) hx hb d_M_cell_15 (by decide) ?_
    exact W.iret hx hb hr (fun t ht hW => ⟨⟨_, (nu, ki, th, ot, vs, av, pl, ps, ts, 1, bk2, ce2, co2, ro2, le2, dn2, un2), rfl, ⟨by unfold sp_cell; rw [hx9]; rfl, ⟨hmh, hT, Or.inr ⟨rfl, hq⟩⟩⟩, by rw [ht]; exact hP, hD⟩, hS.F ht⟩) hS.2.2 d_M_cell_24
  · skip
    refine lv_iload_n hx hb d_M_cell_8 rfl (lv_at hl 1 rfl) ?_
    refine lv_bipush (v := 7) hx hb d_M_cell_9 (by decide) ?_
    refine toi_ (y := nI 7) (rfl) ?_
    refine lv_icmp_le (tgt := 18) hx hb d_M_cell_11 (by decide) (fun h11 => ?_) (fun h11 => ?_)
    · skip
      have hx9 : inx_ x9 8 = true := inx_9 (by omega) h5 h11
      obtain ⟨j, hj, hxj⟩ := inx_n hx9
      refine lv_aload_n hx hb d_M_cell_18 rfl (lv_at hl 0 rfl) ?_
      refine va_get (D := D) (ci := 3) (v := .ref (am 10)) (C := RM) (T := TM) (N := 20) hx hb hg inM hown hK hP 0 rfl rfl 14 (by decide) (hg _ fl_M_47) (fun _ h9 => h9) rfl d_M_cell_19 ?_
      refine lv_iload_n hx hb d_M_cell_22 rfl (lv_at hl 1 rfl) ?_
      refine toi_ (y := nI j) (hxj) ?_
      refine va_iald hx hb hK hP 10 0 rfl rfl (vp_in_nI (n := j) (N := 8) (by omega) (by omega)) d_M_cell_23 ?_
      refine toi_ (y := ce2 j) (by rw [nI_clamp (by omega)]) ?_
      exact W.iret hx hb hr (fun t ht hW => ⟨⟨_, (nu, ki, th, ot, vs, av, pl, ps, ts, 1, bk2, ce2, co2, ro2, le2, dn2, un2), rfl, ⟨by unfold sp_cell; rw [if_pos hx9, hxj, nI_clamp (by omega)]; exact hq.1 j hj, ⟨hmh, hT, Or.inr ⟨rfl, hq⟩⟩⟩, by rw [ht]; exact hP, hD⟩, hS.F ht⟩) hS.2.2 d_M_cell_24
    · skip
      have hx9 : inx_ x9 8 = false := inx_8 (by omega) h11
      refine lv_iconst (v := 0) hx hb d_M_cell_14 (by decide) ?_
      refine lv_goto (tgt := 24) hx hb d_M_cell_15 (by decide) ?_
      exact W.iret hx hb hr (fun t ht hW => ⟨⟨_, (nu, ki, th, ot, vs, av, pl, ps, ts, 1, bk2, ce2, co2, ro2, le2, dn2, un2), rfl, ⟨by unfold sp_cell; rw [hx9]; rfl, ⟨hmh, hT, Or.inr ⟨rfl, hq⟩⟩⟩, by rw [ht]; exact hP, hD⟩, hS.F ht⟩) hS.2.2 d_M_cell_24

set_option maxHeartbeats 4000000 in
set_option maxRecDepth 100000 in
theorem m_M_counter (l : Launch) (D : va_G) (cA : Nat → ClassId) (sz : Nat) (am : Nat → Nat) (nu ki th ot : Nat → Int32) (vs : Nat → Int64) (av pl ps ts : Nat → Int32) (fr bk : Int32) (ce : Nat → Int32) (co : Nat → Int64) (ro le dn un : Nat → Int32) (hs : Nat → st_T) (ac : Nat → Bool) (n la : Nat) (T : List Int32) (x9 : Int32) (hI : mI_ (hs, ac, n, la, T) (nu, ki, th, ot, vs, av, pl, ps, ts, fr, bk, ce, co, ro, le, dn, un)) (haI : aI_ (hs, ac, n, la, T)) : Met l y_M_counter (.code y_M_counter c_M_counter 2 (some .long) :: G_) ({ frames := 5, cells := 0, slots := 0, locals := 115 }) (va_Pc [.ref (am 0), .int x9] (pm_ D cA (wM cA am (nI n) (nI la) nu ki th ot vs av pl ps (nI T.length) ts fr bk ce co ro le dn un) sz)) (va_Ql (fun (r : Int64) (u : mc_T) => r = sp_counter (rp_ hs ac n) x9 ∧ mI_ (hs, ac, n, la, T) u) (bw_ D (va_A (wM cA am (nI n) (nI la) nu ki th ot vs av pl ps (nI T.length) ts fr bk ce co ro le dn un) sz) (fun u => wY cA am (hs, ac, n, la, T) u)) (va_A (wM cA am (nI n) (nI la) nu ki th ot vs av pl ps (nI T.length) ts fr bk ce co ro le dn un) sz)) 0 0 (va_A (wM cA am (nI n) (nI la) nu ki th ot vs av pl ps (nI T.length) ts fr bk ce co ro le dn un) sz) := by
  refine Met.ofW (cc := c_M_counter) (maxL := 2) (ret := (some .long)) (by decide) rfl ?_
  intro p e s m args below meth c s₁ B hml hv
  obtain ⟨rfl, hsz, hP, ⟨hK, hN⟩, hD0⟩ := hv
  have hx := B.exec
  have hb := B.bytes
  have hr := B.returns
  have hts := atoms_spec (ws := (.code y_M_counter c_M_counter 2 (some .long) :: G_)) B.pre
  have hg : ∀ w ∈ G_, w.before ([.ref (am 0), .int x9] : List Value).toArray s = true := fun w h => hts w (List.mem_cons_of_mem _ h)
  have hown : s.vm.findClass RM = some m.cls := findClass_of_methodNamed B.named
  have hlocks := B.notSynchronized
  subst hsz
  have hD := hD0.self (sz := s.heap.size)
  generalize hAe : va_A (wM cA am (nI n) (nI la) nu ki th ot vs av pl ps (nI T.length) ts fr bk ce co ro le dn un) s.heap.size = A at hD ⊢
  have hA : ∀ q : Nat, s.heap.size ≤ q → A q := fun q h => by rw [← hAe]; exact Or.inr h
  have hS : va_S A s.heap s.heap [] := va_S.rf
  have hl := lv_entry ([.ref (am 0), .int x9]) (n := 2) (Nat.le_of_ble_eq_true rfl)
  rw [lg_entry_eq]
  generalize (lg_sl ([.ref (am 0), .int x9]) ++ List.replicate (2 - (lg_sl ([.ref (am 0), .int x9])).length) Slot.unset).toArray = ls at hl ⊢
  have hl : lv_has ls 2 [(0, .ref (am 0)), (1, .int x9)] := hl
  have hmh : mh_ hs ac n nu ki th ot vs av pl ps := hI.1
  have hT : rl_ ts T := hI.2.1
  have hH : hi_ hs n la := haI.1
  have hn2 : n ≤ 200 := hH.1
  have hT200 : T.length ≤ 200 := haI.2.2
  have hla2 : la < 100000 := hH.2.1
  have hw := rp_mw hH ac (Nat.le_refl n)
  refine lv_aload_n hx hb d_M_counter_0 rfl (lv_at hl 0 rfl) ?_
  refine mu0_v (w := (wM cA am (nI n) (nI la) nu ki th ot vs av pl ps (nI T.length) ts fr bk ce co ro le dn un)) (va_runV (C := RM) (As := []) (rest := []) ⟨hx, hb, hml, hown, hg⟩ (m_M_recall l D cA s.heap.size am (nI la) nu ki th ot vs av pl ps (nI T.length) ts fr bk ce co ro le dn un hs ac n hmh hn2 la hH hI.2.2) (cwV 0 hg (gd_V ml_M_117 im_M_recall sl_M_recall ini_M cd_M_recall) rfl rfl rfl (by decide +kernel) ⟨Nat.le_of_ble_eq_true rfl, Nat.le_of_ble_eq_true rfl⟩) (pv_m (va_recv (q0 := 0) (ci := 3) hK hP rfl rfl) hP hK hN hD) rfl rfl hl.1 rfl (lv_room (Nat.le_of_ble_eq_true rfl)) d_M_counter_1 ⟨Nat.zero_le _, Nat.zero_le _⟩) hP hD hS hA (fun u H locs hp hP hD hS => ?_)
  obtain ⟨⟨ce2, co2, ro2, le2, dn2, un2⟩, bk2⟩ := u
  have hq : mq_ hs ac n n (rp_ hs ac n) ce2 co2 ro2 le2 dn2 un2 := hp
  have hP : va_P D cls_ (wM cA am (nI n) (nI la) nu ki th ot vs av pl ps (nI T.length) ts 1 bk2 ce2 co2 ro2 le2 dn2 un2) H := hP
  have hD : va_D A (wM cA am (nI n) (nI la) nu ki th ot vs av pl ps (nI T.length) ts 1 bk2 ce2 co2 ro2 le2 dn2 un2) := hD
  refine lv_iload_n hx hb d_M_counter_4 rfl (lv_at hl 1 rfl) ?_
  refine lv_if_lt (tgt := 13) hx hb d_M_counter_5 (by decide) (fun h5 => ?_) (fun h5 => ?_)
  · skip
    have hx9 : inx_ x9 4 = false := inx_1 h5
    refine lv_lconst (v := 0) hx hb d_M_counter_13 (by decide) ?_
    refine lv_goto (tgt := 23) hx hb d_M_counter_14 (by decide) ?_
    exact W.lret hx hb hr (fun t ht hW => ⟨⟨_, (nu, ki, th, ot, vs, av, pl, ps, ts, 1, bk2, ce2, co2, ro2, le2, dn2, un2), rfl, ⟨by unfold sp_counter; rw [hx9]; rfl, ⟨hmh, hT, Or.inr ⟨rfl, hq⟩⟩⟩, by rw [ht]; exact hP, hD⟩, hS.F ht⟩) hS.2.2 d_M_counter_23
  · skip
    refine lv_iload_n hx hb d_M_counter_8 rfl (lv_at hl 1 rfl) ?_
    refine lv_iconst (v := 3) hx hb d_M_counter_9 (by decide) ?_
    refine toi_ (y := nI 3) (rfl) ?_
    refine lv_icmp_le (tgt := 17) hx hb d_M_counter_10 (by decide) (fun h10 => ?_) (fun h10 => ?_)
    · skip
      have hx9 : inx_ x9 4 = true := inx_9 (by omega) h5 h10
      obtain ⟨j, hj, hxj⟩ := inx_n hx9
      refine lv_aload_n hx hb d_M_counter_17 rfl (lv_at hl 0 rfl) ?_
      refine va_get (D := D) (ci := 3) (v := .ref (am 11)) (C := RM) (T := TM) (N := 20) hx hb hg inM hown hK hP 0 rfl rfl 15 (by decide) (hg _ fl_M_50) (fun _ h9 => h9) rfl d_M_counter_18 ?_
      refine lv_iload_n hx hb d_M_counter_21 rfl (lv_at hl 1 rfl) ?_
      refine toi_ (y := nI j) (hxj) ?_
      refine va_lald hx hb hK hP 11 1 rfl rfl (vp_in_nI (n := j) (N := 4) (by omega) (by omega)) d_M_counter_22 ?_
      refine tol_ (y := co2 j) (by rw [nI_clamp (by omega)]) ?_
      exact W.lret hx hb hr (fun t ht hW => ⟨⟨_, (nu, ki, th, ot, vs, av, pl, ps, ts, 1, bk2, ce2, co2, ro2, le2, dn2, un2), rfl, ⟨by unfold sp_counter; rw [if_pos hx9, hxj, nI_clamp (by omega)]; exact hq.2.1 j hj, ⟨hmh, hT, Or.inr ⟨rfl, hq⟩⟩⟩, by rw [ht]; exact hP, hD⟩, hS.F ht⟩) hS.2.2 d_M_counter_23
    · skip
      have hx9 : inx_ x9 4 = false := inx_8 (by omega) h10
      refine lv_lconst (v := 0) hx hb d_M_counter_13 (by decide) ?_
      refine lv_goto (tgt := 23) hx hb d_M_counter_14 (by decide) ?_
      exact W.lret hx hb hr (fun t ht hW => ⟨⟨_, (nu, ki, th, ot, vs, av, pl, ps, ts, 1, bk2, ce2, co2, ro2, le2, dn2, un2), rfl, ⟨by unfold sp_counter; rw [hx9]; rfl, ⟨hmh, hT, Or.inr ⟨rfl, hq⟩⟩⟩, by rw [ht]; exact hP, hD⟩, hS.F ht⟩) hS.2.2 d_M_counter_23

set_option maxHeartbeats 4000000 in
set_option maxRecDepth 100000 in
theorem m_M_length (l : Launch) (D : va_G) (cA : Nat → ClassId) (sz : Nat) (am : Nat → Nat) (nu ki th ot : Nat → Int32) (vs : Nat → Int64) (av pl ps ts : Nat → Int32) (fr bk : Int32) (ce : Nat → Int32) (co : Nat → Int64) (ro le dn un : Nat → Int32) (hs : Nat → st_T) (ac : Nat → Bool) (n la : Nat) (T : List Int32) (x9 : Int32) (hI : mI_ (hs, ac, n, la, T) (nu, ki, th, ot, vs, av, pl, ps, ts, fr, bk, ce, co, ro, le, dn, un)) (haI : aI_ (hs, ac, n, la, T)) : Met l y_M_length (.code y_M_length c_M_length 2 (some .int) :: G_) ({ frames := 5, cells := 0, slots := 0, locals := 115 }) (va_Pc [.ref (am 0), .int x9] (pm_ D cA (wM cA am (nI n) (nI la) nu ki th ot vs av pl ps (nI T.length) ts fr bk ce co ro le dn un) sz)) (va_Qi (fun (r : Int32) (u : mc_T) => r = sp_len (rp_ hs ac n) x9 ∧ mI_ (hs, ac, n, la, T) u) (bw_ D (va_A (wM cA am (nI n) (nI la) nu ki th ot vs av pl ps (nI T.length) ts fr bk ce co ro le dn un) sz) (fun u => wY cA am (hs, ac, n, la, T) u)) (va_A (wM cA am (nI n) (nI la) nu ki th ot vs av pl ps (nI T.length) ts fr bk ce co ro le dn un) sz)) 0 0 (va_A (wM cA am (nI n) (nI la) nu ki th ot vs av pl ps (nI T.length) ts fr bk ce co ro le dn un) sz) := by
  refine Met.ofW (cc := c_M_length) (maxL := 2) (ret := (some .int)) (by decide) rfl ?_
  intro p e s m args below meth c s₁ B hml hv
  obtain ⟨rfl, hsz, hP, ⟨hK, hN⟩, hD0⟩ := hv
  have hx := B.exec
  have hb := B.bytes
  have hr := B.returns
  have hts := atoms_spec (ws := (.code y_M_length c_M_length 2 (some .int) :: G_)) B.pre
  have hg : ∀ w ∈ G_, w.before ([.ref (am 0), .int x9] : List Value).toArray s = true := fun w h => hts w (List.mem_cons_of_mem _ h)
  have hown : s.vm.findClass RM = some m.cls := findClass_of_methodNamed B.named
  have hlocks := B.notSynchronized
  subst hsz
  have hD := hD0.self (sz := s.heap.size)
  generalize hAe : va_A (wM cA am (nI n) (nI la) nu ki th ot vs av pl ps (nI T.length) ts fr bk ce co ro le dn un) s.heap.size = A at hD ⊢
  have hA : ∀ q : Nat, s.heap.size ≤ q → A q := fun q h => by rw [← hAe]; exact Or.inr h
  have hS : va_S A s.heap s.heap [] := va_S.rf
  have hl := lv_entry ([.ref (am 0), .int x9]) (n := 2) (Nat.le_of_ble_eq_true rfl)
  rw [lg_entry_eq]
  generalize (lg_sl ([.ref (am 0), .int x9]) ++ List.replicate (2 - (lg_sl ([.ref (am 0), .int x9])).length) Slot.unset).toArray = ls at hl ⊢
  have hl : lv_has ls 2 [(0, .ref (am 0)), (1, .int x9)] := hl
  have hmh : mh_ hs ac n nu ki th ot vs av pl ps := hI.1
  have hT : rl_ ts T := hI.2.1
  have hH : hi_ hs n la := haI.1
  have hn2 : n ≤ 200 := hH.1
  have hT200 : T.length ≤ 200 := haI.2.2
  have hla2 : la < 100000 := hH.2.1
  have hw := rp_mw hH ac (Nat.le_refl n)
  refine lv_aload_n hx hb d_M_length_0 rfl (lv_at hl 0 rfl) ?_
  refine mu0_v (w := (wM cA am (nI n) (nI la) nu ki th ot vs av pl ps (nI T.length) ts fr bk ce co ro le dn un)) (va_runV (C := RM) (As := []) (rest := []) ⟨hx, hb, hml, hown, hg⟩ (m_M_recall l D cA s.heap.size am (nI la) nu ki th ot vs av pl ps (nI T.length) ts fr bk ce co ro le dn un hs ac n hmh hn2 la hH hI.2.2) (cwV 0 hg (gd_V ml_M_117 im_M_recall sl_M_recall ini_M cd_M_recall) rfl rfl rfl (by decide +kernel) ⟨Nat.le_of_ble_eq_true rfl, Nat.le_of_ble_eq_true rfl⟩) (pv_m (va_recv (q0 := 0) (ci := 3) hK hP rfl rfl) hP hK hN hD) rfl rfl hl.1 rfl (lv_room (Nat.le_of_ble_eq_true rfl)) d_M_length_1 ⟨Nat.zero_le _, Nat.zero_le _⟩) hP hD hS hA (fun u H locs hp hP hD hS => ?_)
  obtain ⟨⟨ce2, co2, ro2, le2, dn2, un2⟩, bk2⟩ := u
  have hq : mq_ hs ac n n (rp_ hs ac n) ce2 co2 ro2 le2 dn2 un2 := hp
  have hP : va_P D cls_ (wM cA am (nI n) (nI la) nu ki th ot vs av pl ps (nI T.length) ts 1 bk2 ce2 co2 ro2 le2 dn2 un2) H := hP
  have hD : va_D A (wM cA am (nI n) (nI la) nu ki th ot vs av pl ps (nI T.length) ts 1 bk2 ce2 co2 ro2 le2 dn2 un2) := hD
  refine lv_iload_n hx hb d_M_length_4 rfl (lv_at hl 1 rfl) ?_
  refine vp_callSi (va_Run.run (va_runS (As := [.int x9]) (rest := []) ⟨hx, hb, hml, hown, hg⟩ (m_M_isRow l D cA x9) (cwS 1 hg (gd_S ml_M_120 sm_M_isRow ini_M cd_M_isRow) rfl rfl rfl (by decide +kernel) ⟨Nat.le_of_ble_eq_true rfl, Nat.le_of_ble_eq_true rfl⟩) (ps_r (wp_iff.mpr (fun q h => absurd h List.not_mem_nil)) hK hN) rfl rfl hl.1 rfl (lv_room (Nat.le_of_ble_eq_true rfl)) d_M_length_5 ⟨Nat.zero_le _, Nat.zero_le _⟩)) (fun r5 e5 => ?_)
  subst e5
  refine lv_if_eq (tgt := 20) hx hb d_M_length_8 (by decide) (fun h8 => ?_) (fun h8 => ?_)
  · skip
    have q8 := b2_0.mp h8
    refine lv_iconst (v := (-1)) hx hb d_M_length_20 (by decide) ?_
    exact W.iret hx hb hr (fun t ht hW => ⟨⟨_, (nu, ki, th, ot, vs, av, pl, ps, ts, 1, bk2, ce2, co2, ro2, le2, dn2, un2), rfl, ⟨by unfold sp_len; rw [q8]; rfl, ⟨hmh, hT, Or.inr ⟨rfl, hq⟩⟩⟩, by rw [ht]; exact hP, hD⟩, hS.F ht⟩) hS.2.2 d_M_length_21
  · skip
    have q8 := b2_n.mp h8
    obtain ⟨j, hj, hxj⟩ := inx_n q8
    have hcl : x9.toNatClampNeg = j := by rw [hxj]; exact nI_clamp (by omega)
    have hlen := (hq.2.2.1 j hj).1
    have hrl := (hq.2.2.1 j hj).2
    have h40 := hw.1 j hj
    refine lv_aload_n hx hb d_M_length_11 rfl (lv_at hl 0 rfl) ?_
    refine va_get (D := D) (ci := 3) (v := .ref (am 13)) (C := RM) (T := TM) (N := 20) hx hb hg inM hown hK hP 0 rfl rfl 17 (by decide) (hg _ fl_M_56) (fun _ h9 => h9) rfl d_M_length_12 ?_
    refine lv_iload_n hx hb d_M_length_15 rfl (lv_at hl 1 rfl) ?_
    refine toi_ (y := nI j) (hxj) ?_
    refine va_iald hx hb hK hP 13 0 rfl rfl (vp_in_nI (n := j) (N := 3) (by omega) (by omega)) d_M_length_16 ?_
    refine toi_ (y := le2 j) (by rw [nI_clamp (by omega)]) ?_
    refine toi_ (y := nI (m_r (rp_ hs ac n) j).length) (hlen) ?_
    refine lv_goto (tgt := 21) hx hb d_M_length_17 (by decide) ?_
    exact W.iret hx hb hr (fun t ht hW => ⟨⟨_, (nu, ki, th, ot, vs, av, pl, ps, ts, 1, bk2, ce2, co2, ro2, le2, dn2, un2), rfl, ⟨by unfold sp_len; rw [if_pos q8, hcl], ⟨hmh, hT, Or.inr ⟨rfl, hq⟩⟩⟩, by rw [ht]; exact hP, hD⟩, hS.F ht⟩) hS.2.2 d_M_length_21

set_option maxHeartbeats 4000000 in
set_option maxRecDepth 100000 in
theorem m_M_element (l : Launch) (D : va_G) (cA : Nat → ClassId) (sz : Nat) (am : Nat → Nat) (nu ki th ot : Nat → Int32) (vs : Nat → Int64) (av pl ps ts : Nat → Int32) (fr bk : Int32) (ce : Nat → Int32) (co : Nat → Int64) (ro le dn un : Nat → Int32) (hs : Nat → st_T) (ac : Nat → Bool) (n la : Nat) (T : List Int32) (x9 y9 : Int32) (hI : mI_ (hs, ac, n, la, T) (nu, ki, th, ot, vs, av, pl, ps, ts, fr, bk, ce, co, ro, le, dn, un)) (haI : aI_ (hs, ac, n, la, T)) : Met l y_M_element (.code y_M_element c_M_element 3 (some .int) :: G_) ({ frames := 5, cells := 0, slots := 0, locals := 115 }) (va_Pc [.ref (am 0), .int x9, .int y9] (pm_ D cA (wM cA am (nI n) (nI la) nu ki th ot vs av pl ps (nI T.length) ts fr bk ce co ro le dn un) sz)) (va_Qi (fun (r : Int32) (u : mc_T) => r = sp_elem (rp_ hs ac n) x9 y9 ∧ mI_ (hs, ac, n, la, T) u) (bw_ D (va_A (wM cA am (nI n) (nI la) nu ki th ot vs av pl ps (nI T.length) ts fr bk ce co ro le dn un) sz) (fun u => wY cA am (hs, ac, n, la, T) u)) (va_A (wM cA am (nI n) (nI la) nu ki th ot vs av pl ps (nI T.length) ts fr bk ce co ro le dn un) sz)) 0 0 (va_A (wM cA am (nI n) (nI la) nu ki th ot vs av pl ps (nI T.length) ts fr bk ce co ro le dn un) sz) := by
  refine Met.ofW (cc := c_M_element) (maxL := 3) (ret := (some .int)) (by decide) rfl ?_
  intro p e s m args below meth c s₁ B hml hv
  obtain ⟨rfl, hsz, hP, ⟨hK, hN⟩, hD0⟩ := hv
  have hx := B.exec
  have hb := B.bytes
  have hr := B.returns
  have hts := atoms_spec (ws := (.code y_M_element c_M_element 3 (some .int) :: G_)) B.pre
  have hg : ∀ w ∈ G_, w.before ([.ref (am 0), .int x9, .int y9] : List Value).toArray s = true := fun w h => hts w (List.mem_cons_of_mem _ h)
  have hown : s.vm.findClass RM = some m.cls := findClass_of_methodNamed B.named
  have hlocks := B.notSynchronized
  subst hsz
  have hD := hD0.self (sz := s.heap.size)
  generalize hAe : va_A (wM cA am (nI n) (nI la) nu ki th ot vs av pl ps (nI T.length) ts fr bk ce co ro le dn un) s.heap.size = A at hD ⊢
  have hA : ∀ q : Nat, s.heap.size ≤ q → A q := fun q h => by rw [← hAe]; exact Or.inr h
  have hS : va_S A s.heap s.heap [] := va_S.rf
  have hl := lv_entry ([.ref (am 0), .int x9, .int y9]) (n := 3) (Nat.le_of_ble_eq_true rfl)
  rw [lg_entry_eq]
  generalize (lg_sl ([.ref (am 0), .int x9, .int y9]) ++ List.replicate (3 - (lg_sl ([.ref (am 0), .int x9, .int y9])).length) Slot.unset).toArray = ls at hl ⊢
  have hl : lv_has ls 3 [(0, .ref (am 0)), (1, .int x9), (2, .int y9)] := hl
  have hmh : mh_ hs ac n nu ki th ot vs av pl ps := hI.1
  have hT : rl_ ts T := hI.2.1
  have hH : hi_ hs n la := haI.1
  have hn2 : n ≤ 200 := hH.1
  have hT200 : T.length ≤ 200 := haI.2.2
  have hla2 : la < 100000 := hH.2.1
  have hw := rp_mw hH ac (Nat.le_refl n)
  refine lv_aload_n hx hb d_M_element_0 rfl (lv_at hl 0 rfl) ?_
  refine mu0_v (w := (wM cA am (nI n) (nI la) nu ki th ot vs av pl ps (nI T.length) ts fr bk ce co ro le dn un)) (va_runV (C := RM) (As := []) (rest := []) ⟨hx, hb, hml, hown, hg⟩ (m_M_recall l D cA s.heap.size am (nI la) nu ki th ot vs av pl ps (nI T.length) ts fr bk ce co ro le dn un hs ac n hmh hn2 la hH hI.2.2) (cwV 0 hg (gd_V ml_M_117 im_M_recall sl_M_recall ini_M cd_M_recall) rfl rfl rfl (by decide +kernel) ⟨Nat.le_of_ble_eq_true rfl, Nat.le_of_ble_eq_true rfl⟩) (pv_m (va_recv (q0 := 0) (ci := 3) hK hP rfl rfl) hP hK hN hD) rfl rfl hl.1 rfl (lv_room (Nat.le_of_ble_eq_true rfl)) d_M_element_1 ⟨Nat.zero_le _, Nat.zero_le _⟩) hP hD hS hA (fun u H locs hp hP hD hS => ?_)
  obtain ⟨⟨ce2, co2, ro2, le2, dn2, un2⟩, bk2⟩ := u
  have hq : mq_ hs ac n n (rp_ hs ac n) ce2 co2 ro2 le2 dn2 un2 := hp
  have hP : va_P D cls_ (wM cA am (nI n) (nI la) nu ki th ot vs av pl ps (nI T.length) ts 1 bk2 ce2 co2 ro2 le2 dn2 un2) H := hP
  have hD : va_D A (wM cA am (nI n) (nI la) nu ki th ot vs av pl ps (nI T.length) ts 1 bk2 ce2 co2 ro2 le2 dn2 un2) := hD
  refine lv_iload_n hx hb d_M_element_4 rfl (lv_at hl 1 rfl) ?_
  refine vp_callSi (va_Run.run (va_runS (As := [.int x9]) (rest := []) ⟨hx, hb, hml, hown, hg⟩ (m_M_isRow l D cA x9) (cwS 1 hg (gd_S ml_M_120 sm_M_isRow ini_M cd_M_isRow) rfl rfl rfl (by decide +kernel) ⟨Nat.le_of_ble_eq_true rfl, Nat.le_of_ble_eq_true rfl⟩) (ps_r (wp_iff.mpr (fun q h => absurd h List.not_mem_nil)) hK hN) rfl rfl hl.1 rfl (lv_room (Nat.le_of_ble_eq_true rfl)) d_M_element_5 ⟨Nat.zero_le _, Nat.zero_le _⟩)) (fun r5 e5 => ?_)
  subst e5
  refine lv_if_eq (tgt := 25) hx hb d_M_element_8 (by decide) (fun h8 => ?_) (fun h8 => ?_)
  · skip
    have q8 := b2_0.mp h8
    refine lv_iconst (v := 0) hx hb d_M_element_25 (by decide) ?_
    refine lv_goto (tgt := 40) hx hb d_M_element_26 (by decide) ?_
    exact W.iret hx hb hr (fun t ht hW => ⟨⟨_, (nu, ki, th, ot, vs, av, pl, ps, ts, 1, bk2, ce2, co2, ro2, le2, dn2, un2), rfl, ⟨by unfold sp_elem; first | (rw [if_neg (fun h => by rw [q8] at h; exact absurd h.1 (by decide))]; done) | rw [if_neg (fun h => by rw [hcl, hy9] at h; exact absurd h.2 (by decide))], ⟨hmh, hT, Or.inr ⟨rfl, hq⟩⟩⟩, by rw [ht]; exact hP, hD⟩, hS.F ht⟩) hS.2.2 d_M_element_40
  · skip
    have q8 := b2_n.mp h8
    obtain ⟨j, hj, hxj⟩ := inx_n q8
    have hcl : x9.toNatClampNeg = j := by rw [hxj]; exact nI_clamp (by omega)
    have hlen := (hq.2.2.1 j hj).1
    have hrl := (hq.2.2.1 j hj).2
    have h40 := hw.1 j hj
    refine lv_iload_n hx hb d_M_element_11 rfl (lv_at hl 2 rfl) ?_
    refine lv_if_lt (tgt := 25) hx hb d_M_element_12 (by decide) (fun h12 => ?_) (fun h12 => ?_)
    · skip
      have hy9 : inx_ y9 (m_r (rp_ hs ac n) j).length = false := inx_1 h12
      refine lv_iconst (v := 0) hx hb d_M_element_25 (by decide) ?_
      refine lv_goto (tgt := 40) hx hb d_M_element_26 (by decide) ?_
      exact W.iret hx hb hr (fun t ht hW => ⟨⟨_, (nu, ki, th, ot, vs, av, pl, ps, ts, 1, bk2, ce2, co2, ro2, le2, dn2, un2), rfl, ⟨by unfold sp_elem; first | (rw [if_neg (fun h => by rw [q8] at h; exact absurd h.1 (by decide))]; done) | rw [if_neg (fun h => by rw [hcl, hy9] at h; exact absurd h.2 (by decide))], ⟨hmh, hT, Or.inr ⟨rfl, hq⟩⟩⟩, by rw [ht]; exact hP, hD⟩, hS.F ht⟩) hS.2.2 d_M_element_40
    · skip
      refine lv_iload_n hx hb d_M_element_15 rfl (lv_at hl 2 rfl) ?_
      refine lv_aload_n hx hb d_M_element_16 rfl (lv_at hl 0 rfl) ?_
      refine va_get (D := D) (ci := 3) (v := .ref (am 13)) (C := RM) (T := TM) (N := 20) hx hb hg inM hown hK hP 0 rfl rfl 17 (by decide) (hg _ fl_M_56) (fun _ h9 => h9) rfl d_M_element_17 ?_
      refine lv_iload_n hx hb d_M_element_20 rfl (lv_at hl 1 rfl) ?_
      refine toi_ (y := nI j) (hxj) ?_
      refine va_iald hx hb hK hP 13 0 rfl rfl (vp_in_nI (n := j) (N := 3) (by omega) (by omega)) d_M_element_21 ?_
      refine toi_ (y := le2 j) (by rw [nI_clamp (by omega)]) ?_
      refine toi_ (y := nI (m_r (rp_ hs ac n) j).length) (hlen) ?_
      refine lv_icmp_lt (tgt := 29) hx hb d_M_element_22 (by decide) (fun h22 => ?_) (fun h22 => ?_)
      · skip
        have hy9 : inx_ y9 (m_r (rp_ hs ac n) j).length = true := inx_7 (by omega) h12 h22
        obtain ⟨i, hi, hyi⟩ := inx_n hy9
        refine lv_aload_n hx hb d_M_element_29 rfl (lv_at hl 0 rfl) ?_
        refine va_get (D := D) (ci := 3) (v := .ref (am 12)) (C := RM) (T := TM) (N := 20) hx hb hg inM hown hK hP 0 rfl rfl 16 (by decide) (hg _ fl_M_53) (fun _ h9 => h9) rfl d_M_element_30 ?_
        refine lv_bipush (v := 40) hx hb d_M_element_33 (by decide) ?_
        refine lv_iload_n hx hb d_M_element_35 rfl (lv_at hl 1 rfl) ?_
        refine toi_ (y := nI j) (hxj) ?_
        refine lv_imul hx hb d_M_element_36 ?_
        refine toi_ (y := nI (40 * j)) (pk_mul 40 j) ?_
        refine lv_iload_n hx hb d_M_element_37 rfl (lv_at hl 2 rfl) ?_
        refine toi_ (y := nI i) (hyi) ?_
        refine lv_iadd hx hb d_M_element_38 ?_
        refine toi_ (y := nI (40 * j + i)) (nI_add _ _) ?_
        refine va_iald hx hb hK hP 12 0 rfl rfl (vp_in_nI (n := 40 * j + i) (N := 120) (by omega) (by omega)) d_M_element_39 ?_
        refine toi_ (y := ro2 (40 * j + i)) (by rw [nI_clamp (by omega)]) ?_
        exact W.iret hx hb hr (fun t ht hW => ⟨⟨_, (nu, ki, th, ot, vs, av, pl, ps, ts, 1, bk2, ce2, co2, ro2, le2, dn2, un2), rfl, ⟨by unfold sp_elem; rw [if_pos ⟨q8, by rw [hcl]; exact hy9⟩, hcl, hyi, nI_clamp (by omega), List.getD_eq_getElem?_getD, hrl i hi]; rfl, ⟨hmh, hT, Or.inr ⟨rfl, hq⟩⟩⟩, by rw [ht]; exact hP, hD⟩, hS.F ht⟩) hS.2.2 d_M_element_40
      · skip
        have hy9 : inx_ y9 (m_r (rp_ hs ac n) j).length = false := inx_6 (by omega) h22
        refine lv_iconst (v := 0) hx hb d_M_element_25 (by decide) ?_
        refine lv_goto (tgt := 40) hx hb d_M_element_26 (by decide) ?_
        exact W.iret hx hb hr (fun t ht hW => ⟨⟨_, (nu, ki, th, ot, vs, av, pl, ps, ts, 1, bk2, ce2, co2, ro2, le2, dn2, un2), rfl, ⟨by unfold sp_elem; first | (rw [if_neg (fun h => by rw [q8] at h; exact absurd h.1 (by decide))]; done) | rw [if_neg (fun h => by rw [hcl, hy9] at h; exact absurd h.2 (by decide))], ⟨hmh, hT, Or.inr ⟨rfl, hq⟩⟩⟩, by rw [ht]; exact hP, hD⟩, hS.F ht⟩) hS.2.2 d_M_element_40

set_option maxHeartbeats 4000000 in
set_option maxRecDepth 100000 in
theorem m_M_parent (l : Launch) (D : va_G) (cA : Nat → ClassId) (sz : Nat) (am : Nat → Nat) (nu ki th ot : Nat → Int32) (vs : Nat → Int64) (av pl ps ts : Nat → Int32) (fr bk : Int32) (ce : Nat → Int32) (co : Nat → Int64) (ro le dn un : Nat → Int32) (hs : Nat → st_T) (ac : Nat → Bool) (n la : Nat) (T : List Int32) (x9 : Int32) (hI : mI_ (hs, ac, n, la, T) (nu, ki, th, ot, vs, av, pl, ps, ts, fr, bk, ce, co, ro, le, dn, un)) (haI : aI_ (hs, ac, n, la, T)) : Met l y_M_parent (.code y_M_parent c_M_parent 2 (some .int) :: G_) ({ frames := 5, cells := 0, slots := 0, locals := 115 }) (va_Pc [.ref (am 0), .int x9] (pm_ D cA (wM cA am (nI n) (nI la) nu ki th ot vs av pl ps (nI T.length) ts fr bk ce co ro le dn un) sz)) (va_Qi (fun (r : Int32) (u : mc_T) => r = sp_parent (rp_ hs ac n) x9 ∧ mI_ (hs, ac, n, la, T) u) (bw_ D (va_A (wM cA am (nI n) (nI la) nu ki th ot vs av pl ps (nI T.length) ts fr bk ce co ro le dn un) sz) (fun u => wY cA am (hs, ac, n, la, T) u)) (va_A (wM cA am (nI n) (nI la) nu ki th ot vs av pl ps (nI T.length) ts fr bk ce co ro le dn un) sz)) 0 0 (va_A (wM cA am (nI n) (nI la) nu ki th ot vs av pl ps (nI T.length) ts fr bk ce co ro le dn un) sz) := by
  refine Met.ofW (cc := c_M_parent) (maxL := 2) (ret := (some .int)) (by decide) rfl ?_
  intro p e s m args below meth c s₁ B hml hv
  obtain ⟨rfl, hsz, hP, ⟨hK, hN⟩, hD0⟩ := hv
  have hx := B.exec
  have hb := B.bytes
  have hr := B.returns
  have hts := atoms_spec (ws := (.code y_M_parent c_M_parent 2 (some .int) :: G_)) B.pre
  have hg : ∀ w ∈ G_, w.before ([.ref (am 0), .int x9] : List Value).toArray s = true := fun w h => hts w (List.mem_cons_of_mem _ h)
  have hown : s.vm.findClass RM = some m.cls := findClass_of_methodNamed B.named
  have hlocks := B.notSynchronized
  subst hsz
  have hD := hD0.self (sz := s.heap.size)
  generalize hAe : va_A (wM cA am (nI n) (nI la) nu ki th ot vs av pl ps (nI T.length) ts fr bk ce co ro le dn un) s.heap.size = A at hD ⊢
  have hA : ∀ q : Nat, s.heap.size ≤ q → A q := fun q h => by rw [← hAe]; exact Or.inr h
  have hS : va_S A s.heap s.heap [] := va_S.rf
  have hl := lv_entry ([.ref (am 0), .int x9]) (n := 2) (Nat.le_of_ble_eq_true rfl)
  rw [lg_entry_eq]
  generalize (lg_sl ([.ref (am 0), .int x9]) ++ List.replicate (2 - (lg_sl ([.ref (am 0), .int x9])).length) Slot.unset).toArray = ls at hl ⊢
  have hl : lv_has ls 2 [(0, .ref (am 0)), (1, .int x9)] := hl
  have hmh : mh_ hs ac n nu ki th ot vs av pl ps := hI.1
  have hT : rl_ ts T := hI.2.1
  have hH : hi_ hs n la := haI.1
  have hn2 : n ≤ 200 := hH.1
  have hT200 : T.length ≤ 200 := haI.2.2
  have hla2 : la < 100000 := hH.2.1
  have hw := rp_mw hH ac (Nat.le_refl n)
  refine lv_aload_n hx hb d_M_parent_0 rfl (lv_at hl 0 rfl) ?_
  refine mu0_v (w := (wM cA am (nI n) (nI la) nu ki th ot vs av pl ps (nI T.length) ts fr bk ce co ro le dn un)) (va_runV (C := RM) (As := []) (rest := []) ⟨hx, hb, hml, hown, hg⟩ (m_M_recall l D cA s.heap.size am (nI la) nu ki th ot vs av pl ps (nI T.length) ts fr bk ce co ro le dn un hs ac n hmh hn2 la hH hI.2.2) (cwV 0 hg (gd_V ml_M_117 im_M_recall sl_M_recall ini_M cd_M_recall) rfl rfl rfl (by decide +kernel) ⟨Nat.le_of_ble_eq_true rfl, Nat.le_of_ble_eq_true rfl⟩) (pv_m (va_recv (q0 := 0) (ci := 3) hK hP rfl rfl) hP hK hN hD) rfl rfl hl.1 rfl (lv_room (Nat.le_of_ble_eq_true rfl)) d_M_parent_1 ⟨Nat.zero_le _, Nat.zero_le _⟩) hP hD hS hA (fun u H locs hp hP hD hS => ?_)
  obtain ⟨⟨ce2, co2, ro2, le2, dn2, un2⟩, bk2⟩ := u
  have hq : mq_ hs ac n n (rp_ hs ac n) ce2 co2 ro2 le2 dn2 un2 := hp
  have hP : va_P D cls_ (wM cA am (nI n) (nI la) nu ki th ot vs av pl ps (nI T.length) ts 1 bk2 ce2 co2 ro2 le2 dn2 un2) H := hP
  have hD : va_D A (wM cA am (nI n) (nI la) nu ki th ot vs av pl ps (nI T.length) ts 1 bk2 ce2 co2 ro2 le2 dn2 un2) := hD
  refine lv_aload_n hx hb d_M_parent_4 rfl (lv_at hl 0 rfl) ?_
  refine lv_iload_n hx hb d_M_parent_5 rfl (lv_at hl 1 rfl) ?_
  refine vp_callSi (va_Run.run (va_runV (C := RM) (As := [.int x9]) (rest := []) ⟨hx, hb, hml, hown, hg⟩ (m_M_isNode l D cA am (nI la) nu ki th ot vs av pl ps (nI T.length) ts 1 bk2 ce2 co2 ro2 le2 dn2 un2 hs ac n x9 hmh hn2 ac n (rp_ hs ac n) hq) (cwV 1 hg (gd_V ml_M_129 im_M_isNode sl_M_isNode ini_M cd_M_isNode) rfl rfl rfl (by decide +kernel) ⟨Nat.le_of_ble_eq_true rfl, Nat.le_of_ble_eq_true rfl⟩) (pv_r (va_recv (q0 := 0) (ci := 3) hK hP rfl rfl) (hP) hK hN) rfl rfl hl.1 rfl (lv_room (Nat.le_of_ble_eq_true rfl)) d_M_parent_6 ⟨Nat.zero_le _, Nat.zero_le _⟩)) (fun r6 e6 => ?_)
  subst e6
  refine lv_if_eq (tgt := 25) hx hb d_M_parent_9 (by decide) (fun h9 => ?_) (fun h9 => ?_)
  · skip
    have q9 := b2_0.mp h9
    rw [ndo_in hH (Nat.le_refl n)] at q9
    have hnd : x9 ∉ m_n (rp_ hs ac n) := by simpa using q9
    refine lv_iconst (v := (-1)) hx hb d_M_parent_25 (by decide) ?_
    exact W.iret hx hb hr (fun t ht hW => ⟨⟨_, (nu, ki, th, ot, vs, av, pl, ps, ts, 1, bk2, ce2, co2, ro2, le2, dn2, un2), rfl, ⟨by unfold sp_parent; rw [if_neg hnd], ⟨hmh, hT, Or.inr ⟨rfl, hq⟩⟩⟩, by rw [ht]; exact hP, hD⟩, hS.F ht⟩) hS.2.2 d_M_parent_26
  · skip
    have q9 := b2_n.mp h9
    rw [ndo_in hH (Nat.le_refl n)] at q9
    have hnd : x9 ∈ m_n (rp_ hs ac n) := by simpa using q9
    obtain ⟨k, hk1, hk2, hk3⟩ := (nd_mem (fun j hj => (hH.2.2.1 j hj).1.1)).mp hnd
    have hkn : k < n := (dn_s.mp hk1).1
    have hfn : fn_ hs n x9 = some k := by rw [← hk3]; exact fn_at hH hkn
    refine lv_aload_n hx hb d_M_parent_12 rfl (lv_at hl 0 rfl) ?_
    refine va_get (D := D) (ci := 3) (v := .ref (am 15)) (C := RM) (T := TM) (N := 20) hx hb hg inM hown hK hP 0 rfl rfl 19 (by decide) (hg _ fl_M_62) (fun _ h9 => h9) rfl d_M_parent_13 ?_
    refine lv_aload_n hx hb d_M_parent_16 rfl (lv_at hl 0 rfl) ?_
    refine lv_iload_n hx hb d_M_parent_17 rfl (lv_at hl 1 rfl) ?_
    refine vp_callSi (va_Run.run (va_runV (C := RM) (As := [.int x9]) (rest := [.ref (am 15)]) ⟨hx, hb, hml, hown, hg⟩ (m_M_find l D cA am (nI la) nu ki th ot vs av pl ps (nI T.length) ts 1 bk2 ce2 co2 ro2 le2 dn2 un2 hs ac n x9 hmh hn2) (cwV 1 hg (gd_V ml_M_79 im_M_find sl_M_find ini_M cd_M_find) rfl rfl rfl (by decide +kernel) ⟨Nat.le_of_ble_eq_true rfl, Nat.le_of_ble_eq_true rfl⟩) (pv_r (va_recv (q0 := 0) (ci := 3) hK hP rfl rfl) (hP) hK hN) rfl rfl hl.1 rfl (lv_room (Nat.le_of_ble_eq_true rfl)) d_M_parent_18 ⟨Nat.zero_le _, Nat.zero_le _⟩)) (fun r18 e18 => ?_)
    subst e18
    refine toi_ (y := nI k) (by rw [hfn]; rfl) ?_
    refine va_iald hx hb hK hP 15 0 rfl rfl (vp_in_nI (n := k) (N := 200) (by omega) (by omega)) d_M_parent_21 ?_
    refine toi_ (y := un2 k) (by rw [nI_clamp (by omega)]) ?_
    refine lv_goto (tgt := 26) hx hb d_M_parent_22 (by decide) ?_
    exact W.iret hx hb hr (fun t ht hW => ⟨⟨_, (nu, ki, th, ot, vs, av, pl, ps, ts, 1, bk2, ce2, co2, ro2, le2, dn2, un2), rfl, ⟨by unfold sp_parent; rw [if_pos hnd, hq.2.2.2.2 k hkn hk1 hk2, hk3], ⟨hmh, hT, Or.inr ⟨rfl, hq⟩⟩⟩, by rw [ht]; exact hP, hD⟩, hS.F ht⟩) hS.2.2 d_M_parent_26
