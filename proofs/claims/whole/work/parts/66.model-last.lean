/-! The reference: dependsOn, undoLast, redoNext -/
set_option maxHeartbeats 4000000 in
set_option maxRecDepth 100000 in
theorem m_M_dependsOn (l : Launch) (D : va_G) (cA : Nat → ClassId) (sz : Nat) (am : Nat → Nat) (nu ki th ot : Nat → Int32) (vs : Nat → Int64) (av pl ps ts : Nat → Int32) (fr bk : Int32) (ce : Nat → Int32) (co : Nat → Int64) (ro le dn un : Nat → Int32) (hs : Nat → st_T) (ac : Nat → Bool) (n la : Nat) (T : List Int32) (x9 y9 : Int32) (hI : mI_ (hs, ac, n, la, T) (nu, ki, th, ot, vs, av, pl, ps, ts, fr, bk, ce, co, ro, le, dn, un)) (haI : aI_ (hs, ac, n, la, T)) : Met l y_M_dependsOn (.code y_M_dependsOn c_M_dependsOn 5 (some .boolean) :: G_) ({ frames := 4, cells := 0, slots := 0, locals := 95 }) (va_Pc [.ref (am 0), .int x9, .int y9] (pm_ D cA (wM cA am (nI n) (nI la) nu ki th ot vs av pl ps (nI T.length) ts fr bk ce co ro le dn un) sz)) (va_Qi (fun (r : Int32) (u : mc_T) => r = b2_ (sp_dep (hs, ac, n, la, T) x9 y9) ∧ mI_ (hs, ac, n, la, T) u) (bw_ D (va_A (wM cA am (nI n) (nI la) nu ki th ot vs av pl ps (nI T.length) ts fr bk ce co ro le dn un) sz) (fun u => wY cA am (hs, ac, n, la, T) u)) (va_A (wM cA am (nI n) (nI la) nu ki th ot vs av pl ps (nI T.length) ts fr bk ce co ro le dn un) sz)) 0 0 (va_A (wM cA am (nI n) (nI la) nu ki th ot vs av pl ps (nI T.length) ts fr bk ce co ro le dn un) sz) := by
  refine Met.ofW (cc := c_M_dependsOn) (maxL := 5) (ret := (some .boolean)) (by decide) rfl ?_
  intro p e s m args below meth c s₁ B hml hv
  obtain ⟨rfl, hsz, hP, ⟨hK, hN⟩, hD0⟩ := hv
  have hx := B.exec
  have hb := B.bytes
  have hr := B.returns
  have hts := atoms_spec (ws := (.code y_M_dependsOn c_M_dependsOn 5 (some .boolean) :: G_)) B.pre
  have hg : ∀ w ∈ G_, w.before ([.ref (am 0), .int x9, .int y9] : List Value).toArray s = true := fun w h => hts w (List.mem_cons_of_mem _ h)
  have hown : s.vm.findClass RM = some m.cls := findClass_of_methodNamed B.named
  have hlocks := B.notSynchronized
  subst hsz
  have hD := hD0.self (sz := s.heap.size)
  generalize hAe : va_A (wM cA am (nI n) (nI la) nu ki th ot vs av pl ps (nI T.length) ts fr bk ce co ro le dn un) s.heap.size = A at hD ⊢
  have hA : ∀ q : Nat, s.heap.size ≤ q → A q := fun q h => by rw [← hAe]; exact Or.inr h
  have hS : va_S A s.heap s.heap [] := va_S.rf
  have hl := lv_entry ([.ref (am 0), .int x9, .int y9]) (n := 5) (Nat.le_of_ble_eq_true rfl)
  rw [lg_entry_eq]
  generalize (lg_sl ([.ref (am 0), .int x9, .int y9]) ++ List.replicate (5 - (lg_sl ([.ref (am 0), .int x9, .int y9])).length) Slot.unset).toArray = ls at hl ⊢
  have hl : lv_has ls 5 [(0, .ref (am 0)), (1, .int x9), (2, .int y9)] := hl
  have hmh : mh_ hs ac n nu ki th ot vs av pl ps := hI.1
  have hT : rl_ ts T := hI.2.1
  have hH : hi_ hs n la := haI.1
  have hn2 : n ≤ 200 := hH.1
  have hT200 : T.length ≤ 200 := haI.2.2
  have hla2 : la < 100000 := hH.2.1
  have hw := rp_mw hH ac (Nat.le_refl n)
  refine lv_aload_n hx hb d_M_dependsOn_0 rfl (lv_at hl 0 rfl) ?_
  refine lv_iload_n hx hb d_M_dependsOn_1 rfl (lv_at hl 1 rfl) ?_
  refine vp_callSi (va_Run.run (va_runV (C := RM) (As := [.int x9]) (rest := []) ⟨hx, hb, hml, hown, hg⟩ (m_M_find l D cA am (nI la) nu ki th ot vs av pl ps (nI T.length) ts fr bk ce co ro le dn un hs ac n x9 hmh hn2) (cwV 1 hg (gd_V ml_M_79 im_M_find sl_M_find ini_M cd_M_find) rfl rfl rfl (by decide +kernel) ⟨Nat.le_of_ble_eq_true rfl, Nat.le_of_ble_eq_true rfl⟩) (pv_r (va_recv (q0 := 0) (ci := 3) hK hP rfl rfl) (hP) hK hN) rfl rfl hl.1 rfl (lv_room (Nat.le_of_ble_eq_true rfl)) d_M_dependsOn_2 ⟨Nat.zero_le _, Nat.zero_le _⟩)) (fun r2 e2 => ?_)
  subst e2
  rcases hhx : fn_ hs n x9 with _ | i
  · skip
    refine toi_ (y := -1) rfl ?_
    refine lv_istore_n (lv' := [(3, .int (-1)), (0, .ref (am 0)), (1, .int x9), (2, .int y9)]) hx hb d_M_dependsOn_5 rfl hl (by decide) rfl (fun ls hl => ?_)
    refine lv_aload_n hx hb d_M_dependsOn_6 rfl (lv_at hl 1 rfl) ?_
    refine lv_iload_n hx hb d_M_dependsOn_7 rfl (lv_at hl 3 rfl) ?_
    refine vp_callSi (va_Run.run (va_runV (C := RM) (As := [.int y9]) (rest := []) ⟨hx, hb, hml, hown, hg⟩ (m_M_find l D cA am (nI la) nu ki th ot vs av pl ps (nI T.length) ts fr bk ce co ro le dn un hs ac n y9 hmh hn2) (cwV 1 hg (gd_V ml_M_79 im_M_find sl_M_find ini_M cd_M_find) rfl rfl rfl (by decide +kernel) ⟨Nat.le_of_ble_eq_true rfl, Nat.le_of_ble_eq_true rfl⟩) (pv_r (va_recv (q0 := 0) (ci := 3) hK hP rfl rfl) (hP) hK hN) rfl rfl hl.1 rfl (lv_room (Nat.le_of_ble_eq_true rfl)) d_M_dependsOn_8 ⟨Nat.zero_le _, Nat.zero_le _⟩)) (fun r8 e8 => ?_)
    subst e8
    rcases hhy : fn_ hs n y9 with _ | j
    · skip
      refine toi_ (y := -1) rfl ?_
      refine lv_istore (lv' := [(4, .int (-1)), (3, .int (-1)), (0, .ref (am 0)), (1, .int x9), (2, .int y9)]) hx hb d_M_dependsOn_11 hl (by decide) rfl (fun ls hl => ?_)
      refine lv_iload_n hx hb d_M_dependsOn_13 rfl (lv_at hl 1 rfl) ?_
      refine lv_if_lt (tgt := 38) hx hb d_M_dependsOn_14 (by decide) (fun h14 => ?_) (fun h14 => ?_)
      · skip
        refine lv_iconst (v := 0) hx hb d_M_dependsOn_38 (by decide) ?_
        have hsp : sp_dep (hs, ac, n, la, T) x9 y9 = false := dp_none1 hhx
        exact W.zret hx hb hr rfl (fun t ht9 hW => ⟨⟨_, (nu, ki, th, ot, vs, av, pl, ps, ts, fr, bk, ce, co, ro, le, dn, un), rfl, ⟨by rw [hsp]; rfl, hI⟩, by rw [ht9]; exact hP, hD⟩, hS.F ht9⟩) hS.2.2 d_M_dependsOn_39
      · skip
        exact absurd (by decide) h14
    · skip
      refine toi_ (y := nI j) rfl ?_
      refine lv_istore (lv' := [(4, .int (nI j)), (3, .int (-1)), (0, .ref (am 0)), (1, .int x9), (2, .int y9)]) hx hb d_M_dependsOn_11 hl (by decide) rfl (fun ls hl => ?_)
      refine lv_iload_n hx hb d_M_dependsOn_13 rfl (lv_at hl 1 rfl) ?_
      refine lv_if_lt (tgt := 38) hx hb d_M_dependsOn_14 (by decide) (fun h14 => ?_) (fun h14 => ?_)
      · skip
        refine lv_iconst (v := 0) hx hb d_M_dependsOn_38 (by decide) ?_
        have hsp : sp_dep (hs, ac, n, la, T) x9 y9 = false := dp_none1 hhx
        exact W.zret hx hb hr rfl (fun t ht9 hW => ⟨⟨_, (nu, ki, th, ot, vs, av, pl, ps, ts, fr, bk, ce, co, ro, le, dn, un), rfl, ⟨by rw [hsp]; rfl, hI⟩, by rw [ht9]; exact hP, hD⟩, hS.F ht9⟩) hS.2.2 d_M_dependsOn_39
      · skip
        exact absurd (by decide) h14
  · skip
    refine toi_ (y := nI i) rfl ?_
    refine lv_istore_n (lv' := [(3, .int (nI i)), (0, .ref (am 0)), (1, .int x9), (2, .int y9)]) hx hb d_M_dependsOn_5 rfl hl (by decide) rfl (fun ls hl => ?_)
    refine lv_aload_n hx hb d_M_dependsOn_6 rfl (lv_at hl 1 rfl) ?_
    refine lv_iload_n hx hb d_M_dependsOn_7 rfl (lv_at hl 3 rfl) ?_
    refine vp_callSi (va_Run.run (va_runV (C := RM) (As := [.int y9]) (rest := []) ⟨hx, hb, hml, hown, hg⟩ (m_M_find l D cA am (nI la) nu ki th ot vs av pl ps (nI T.length) ts fr bk ce co ro le dn un hs ac n y9 hmh hn2) (cwV 1 hg (gd_V ml_M_79 im_M_find sl_M_find ini_M cd_M_find) rfl rfl rfl (by decide +kernel) ⟨Nat.le_of_ble_eq_true rfl, Nat.le_of_ble_eq_true rfl⟩) (pv_r (va_recv (q0 := 0) (ci := 3) hK hP rfl rfl) (hP) hK hN) rfl rfl hl.1 rfl (lv_room (Nat.le_of_ble_eq_true rfl)) d_M_dependsOn_8 ⟨Nat.zero_le _, Nat.zero_le _⟩)) (fun r8 e8 => ?_)
    subst e8
    rcases hhy : fn_ hs n y9 with _ | j
    · skip
      refine toi_ (y := -1) rfl ?_
      refine lv_istore (lv' := [(4, .int (-1)), (3, .int (nI i)), (0, .ref (am 0)), (1, .int x9), (2, .int y9)]) hx hb d_M_dependsOn_11 hl (by decide) rfl (fun ls hl => ?_)
      refine lv_iload_n hx hb d_M_dependsOn_13 rfl (lv_at hl 1 rfl) ?_
      refine lv_if_lt (tgt := 38) hx hb d_M_dependsOn_14 (by decide) (fun h14 => ?_) (fun h14 => ?_)
      · skip
        exact absurd h14 (nI_pos (by have := (fn_some hhx).1; omega))
      · skip
        have hlthx := (fn_some hhx).1
        refine lv_iload hx hb d_M_dependsOn_17 (lv_at hl 0 rfl) ?_
        refine lv_if_lt (tgt := 38) hx hb d_M_dependsOn_19 (by decide) (fun h19 => ?_) (fun h19 => ?_)
        · skip
          refine lv_iconst (v := 0) hx hb d_M_dependsOn_38 (by decide) ?_
          have hsp : sp_dep (hs, ac, n, la, T) x9 y9 = false := dp_none2 hhy
          exact W.zret hx hb hr rfl (fun t ht9 hW => ⟨⟨_, (nu, ki, th, ot, vs, av, pl, ps, ts, fr, bk, ce, co, ro, le, dn, un), rfl, ⟨by rw [hsp]; rfl, hI⟩, by rw [ht9]; exact hP, hD⟩, hS.F ht9⟩) hS.2.2 d_M_dependsOn_39
        · skip
          exact absurd (by decide) h19
    · skip
      refine toi_ (y := nI j) rfl ?_
      refine lv_istore (lv' := [(4, .int (nI j)), (3, .int (nI i)), (0, .ref (am 0)), (1, .int x9), (2, .int y9)]) hx hb d_M_dependsOn_11 hl (by decide) rfl (fun ls hl => ?_)
      refine lv_iload_n hx hb d_M_dependsOn_13 rfl (lv_at hl 1 rfl) ?_
      refine lv_if_lt (tgt := 38) hx hb d_M_dependsOn_14 (by decide) (fun h14 => ?_) (fun h14 => ?_)
      · skip
        exact absurd h14 (nI_pos (by have := (fn_some hhx).1; omega))
      · skip
        have hlthx := (fn_some hhx).1
        refine lv_iload hx hb d_M_dependsOn_17 (lv_at hl 0 rfl) ?_
        refine lv_if_lt (tgt := 38) hx hb d_M_dependsOn_19 (by decide) (fun h19 => ?_) (fun h19 => ?_)
        · skip
          exact absurd h19 (nI_pos (by have := (fn_some hhy).1; omega))
        · skip
          have hlthy := (fn_some hhy).1
          refine lv_iload hx hb d_M_dependsOn_22 (lv_at hl 0 rfl) ?_
          refine lv_iload_n hx hb d_M_dependsOn_24 rfl (lv_at hl 1 rfl) ?_
          refine lv_icmp_ge (tgt := 38) hx hb d_M_dependsOn_25 (by decide) (fun h25 => ?_) (fun h25 => ?_)
          · skip
            have hji : ¬ j < i := fun h => absurd h25 (nI_ge h (by omega))
            refine lv_iconst (v := 0) hx hb d_M_dependsOn_38 (by decide) ?_
            have hsp : sp_dep (hs, ac, n, la, T) x9 y9 = false := by rw [dp_some (a := (hs, ac, n, la, T)) hhx hhy]; first | (show (decide (j < i) && _) = false; rw [decide_eq_false hji]; rfl) | (show (decide (j < i) && (ac j && _)) = false; rw [hac]; simp)
            exact W.zret hx hb hr rfl (fun t ht9 hW => ⟨⟨_, (nu, ki, th, ot, vs, av, pl, ps, ts, fr, bk, ce, co, ro, le, dn, un), rfl, ⟨by rw [hsp]; rfl, hI⟩, by rw [ht9]; exact hP, hD⟩, hS.F ht9⟩) hS.2.2 d_M_dependsOn_39
          · skip
            have hji : j < i := Nat.not_le.mp (fun h => h25 (nI_le h (by omega)))
            refine lv_aload_n hx hb d_M_dependsOn_28 rfl (lv_at hl 2 rfl) ?_
            refine va_get (D := D) (ci := 3) (v := .ref (am 6)) (C := RM) (T := TM) (N := 20) hx hb hg inM hown hK hP 0 rfl rfl 7 (by decide) (hg _ fl_M_26) (fun _ h9 => h9) rfl d_M_dependsOn_29 ?_
            refine lv_iload hx hb d_M_dependsOn_32 (lv_at hl 0 rfl) ?_
            refine va_zald hx hb hK hP 6 4 rfl rfl (vp_in_nI (n := j) (N := 200) (by omega) (by omega)) d_M_dependsOn_34 ?_
            refine toi_ (y := av j) (by rw [nI_clamp (by omega)]) ?_
            refine toi_ (y := b2_ (ac j)) ((hmh j hlthy).2.2.2.2.2.1) ?_
            refine lv_if_ne (tgt := 40) hx hb d_M_dependsOn_35 (by decide) (fun h35 => ?_) (fun h35 => ?_)
            · skip
              have hac : ac j = true := b2_n.mp h35
              refine lv_aload_n hx hb d_M_dependsOn_40 rfl (lv_at hl 2 rfl) ?_
              refine lv_iload_n hx hb d_M_dependsOn_41 rfl (lv_at hl 1 rfl) ?_
              refine lv_iload hx hb d_M_dependsOn_42 (lv_at hl 0 rfl) ?_
              refine mu0_v (w := (wM cA am (nI n) (nI la) nu ki th ot vs av pl ps (nI T.length) ts fr bk ce co ro le dn un)) (va_runV (C := RM) (As := [.int (nI i), .int (nI j)]) (rest := []) ⟨hx, hb, hml, hown, hg⟩ (m_M_replay l D cA s.heap.size am (nI la) nu ki th ot vs av pl ps (nI T.length) ts fr bk ce co ro le dn un hs ac n hmh hn2 i (nI j) la (va_up ac j false) hH (Nat.le_of_lt hlthx) (ac_off hlthy hn2)) (cwV 2 hg (gd_V ml_M_106 im_M_replay sl_M_replay ini_M cd_M_replay) rfl rfl rfl (by decide +kernel) ⟨Nat.le_of_ble_eq_true rfl, Nat.le_of_ble_eq_true rfl⟩) (pv_m (va_recv (q0 := 0) (ci := 3) hK hP rfl rfl) hP hK hN hD) rfl rfl hl.1 rfl (lv_room (Nat.le_of_ble_eq_true rfl)) d_M_dependsOn_44 ⟨Nat.zero_le _, Nat.zero_le _⟩) hP hD hS hA (fun u H locs hp hP hD hS => ?_)
              obtain ⟨⟨ce2, co2, ro2, le2, dn2, un2⟩, bk2⟩ := u
              have hmq2 := hp.1
              have hbk2 : bk2 = bo_ (il_ hs (va_up ac j false) i) := hp.2
              have hP : va_P D cls_ (wM cA am (nI n) (nI la) nu ki th ot vs av pl ps (nI T.length) ts 0 bk2 ce2 co2 ro2 le2 dn2 un2) H := hP
              have hD : va_D A (wM cA am (nI n) (nI la) nu ki th ot vs av pl ps (nI T.length) ts 0 bk2 ce2 co2 ro2 le2 dn2 un2) := hD
              refine lv_aload_n hx hb d_M_dependsOn_47 rfl (lv_at hl 2 rfl) ?_
              refine lv_iload_n hx hb d_M_dependsOn_48 rfl (lv_at hl 1 rfl) ?_
              refine vp_callSi (va_Run.run (va_runV (C := RM) (As := [.int (nI i)]) (rest := []) ⟨hx, hb, hml, hown, hg⟩ (m_M_isImpossible l D cA am (nI la) nu ki th ot vs av pl ps (nI T.length) ts 0 bk2 ce2 co2 ro2 le2 dn2 un2 hs ac n hmh hn2 i la (va_up ac j false) hH hlthx hmq2) (cwV 1 hg (gd_V ml_M_99 im_M_isImpossible sl_M_isImpossible ini_M cd_M_isImpossible) rfl rfl rfl (by decide +kernel) ⟨Nat.le_of_ble_eq_true rfl, Nat.le_of_ble_eq_true rfl⟩) (pv_r (va_recv (q0 := 0) (ci := 3) hK hP rfl rfl) (hP) hK hN) rfl rfl hl.1 rfl (lv_room (Nat.le_of_ble_eq_true rfl)) d_M_dependsOn_49 ⟨Nat.zero_le _, Nat.zero_le _⟩)) (fun r49 e49 => ?_)
              subst e49
              have hsp : sp_dep (hs, ac, n, la, T) x9 y9 = im_ (hs i) (rp_ hs (va_up ac j false) i) := by rw [dp_some (a := (hs, ac, n, la, T)) hhx hhy]; show (decide (j < i) && (ac j && _)) = _; rw [hac, decide_eq_true hji]; rfl
              exact W.zret hx hb hr (b2_nar _) (fun t ht9 hW => ⟨⟨_, (nu, ki, th, ot, vs, av, pl, ps, ts, 0, bk2, ce2, co2, ro2, le2, dn2, un2), rfl, ⟨by rw [hsp], ⟨hmh, hT, Or.inl rfl⟩⟩, by rw [ht9]; exact hP, hD⟩, hS.F ht9⟩) hS.2.2 d_M_dependsOn_52
            · skip
              have hac : ac j = false := b2_0.mp h35
              refine lv_iconst (v := 0) hx hb d_M_dependsOn_38 (by decide) ?_
              have hsp : sp_dep (hs, ac, n, la, T) x9 y9 = false := by rw [dp_some (a := (hs, ac, n, la, T)) hhx hhy]; first | (show (decide (j < i) && _) = false; rw [decide_eq_false hji]; rfl) | (show (decide (j < i) && (ac j && _)) = false; rw [hac]; simp)
              exact W.zret hx hb hr rfl (fun t ht9 hW => ⟨⟨_, (nu, ki, th, ot, vs, av, pl, ps, ts, fr, bk, ce, co, ro, le, dn, un), rfl, ⟨by rw [hsp]; rfl, hI⟩, by rw [ht9]; exact hP, hD⟩, hS.F ht9⟩) hS.2.2 d_M_dependsOn_39

set_option maxHeartbeats 4000000 in
set_option maxRecDepth 100000 in
theorem m_M_undoLast (l : Launch) (D : va_G) (cA : Nat → ClassId) (sz : Nat) (am : Nat → Nat) (nu ki th ot : Nat → Int32) (vs : Nat → Int64) (av pl ps ts : Nat → Int32) (fr bk : Int32) (ce : Nat → Int32) (co : Nat → Int64) (ro le dn un : Nat → Int32) (hs : Nat → st_T) (ac : Nat → Bool) (n la : Nat) (T : List Int32) (hI : mI_ (hs, ac, n, la, T) (nu, ki, th, ot, vs, av, pl, ps, ts, fr, bk, ce, co, ro, le, dn, un)) (haI : aI_ (hs, ac, n, la, T)) (hla9 : la + 1 < 100000) : Met l y_M_undoLast (.code y_M_undoLast c_M_undoLast 2 (some .int) :: G_) ({ frames := 1, cells := 0, slots := 0, locals := 21 }) (va_Pc [.ref (am 0)] (pm_ D cA (wM cA am (nI n) (nI la) nu ki th ot vs av pl ps (nI T.length) ts fr bk ce co ro le dn un) sz)) (va_Qi (fun (r : Int32) (u : mc_T) => r = (sp_undoLast (hs, ac, n, la, T)).1 ∧ mI_ ((sp_undoLast (hs, ac, n, la, T)).2) u) (bw_ D (va_A (wM cA am (nI n) (nI la) nu ki th ot vs av pl ps (nI T.length) ts fr bk ce co ro le dn un) sz) (fun u => wY cA am ((sp_undoLast (hs, ac, n, la, T)).2) u)) (va_A (wM cA am (nI n) (nI la) nu ki th ot vs av pl ps (nI T.length) ts fr bk ce co ro le dn un) sz)) 0 0 (va_A (wM cA am (nI n) (nI la) nu ki th ot vs av pl ps (nI T.length) ts fr bk ce co ro le dn un) sz) := by
  refine Met.ofW (cc := c_M_undoLast) (maxL := 2) (ret := (some .int)) (by decide) rfl ?_
  intro p e s m args below meth c s₁ B hml hv
  obtain ⟨rfl, hsz, hP, ⟨hK, hN⟩, hD0⟩ := hv
  have hx := B.exec
  have hb := B.bytes
  have hr := B.returns
  have hts := atoms_spec (ws := (.code y_M_undoLast c_M_undoLast 2 (some .int) :: G_)) B.pre
  have hg : ∀ w ∈ G_, w.before ([.ref (am 0)] : List Value).toArray s = true := fun w h => hts w (List.mem_cons_of_mem _ h)
  have hown : s.vm.findClass RM = some m.cls := findClass_of_methodNamed B.named
  have hlocks := B.notSynchronized
  subst hsz
  have hD := hD0.self (sz := s.heap.size)
  generalize hAe : va_A (wM cA am (nI n) (nI la) nu ki th ot vs av pl ps (nI T.length) ts fr bk ce co ro le dn un) s.heap.size = A at hD ⊢
  have hA : ∀ q : Nat, s.heap.size ≤ q → A q := fun q h => by rw [← hAe]; exact Or.inr h
  have hS : va_S A s.heap s.heap [] := va_S.rf
  have hl := lv_entry ([.ref (am 0)]) (n := 2) (Nat.le_of_ble_eq_true rfl)
  rw [lg_entry_eq]
  generalize (lg_sl ([.ref (am 0)]) ++ List.replicate (2 - (lg_sl ([.ref (am 0)])).length) Slot.unset).toArray = ls at hl ⊢
  have hl : lv_has ls 2 [(0, .ref (am 0))] := hl
  have hmh : mh_ hs ac n nu ki th ot vs av pl ps := hI.1
  have hT : rl_ ts T := hI.2.1
  have hH : hi_ hs n la := haI.1
  have hn2 : n ≤ 200 := hH.1
  have hT200 : T.length ≤ 200 := haI.2.2
  have hla2 : la < 100000 := hH.2.1
  have hw := rp_mw hH ac (Nat.le_refl n)
  refine lv_aload_n hx hb d_M_undoLast_0 rfl (lv_at hl 0 rfl) ?_
  refine vp_callSi (va_Run.run (va_runV (C := RM) (As := []) (rest := []) ⟨hx, hb, hml, hown, hg⟩ (m_M_latestActive l D cA am (nI la) nu ki th ot vs av pl ps (nI T.length) ts fr bk ce co ro le dn un hs ac n hmh hn2) (cwV 0 hg (gd_V ml_M_135 im_M_latestActive sl_M_latestActive ini_M cd_M_latestActive) rfl rfl rfl (by decide +kernel) ⟨Nat.le_of_ble_eq_true rfl, Nat.le_of_ble_eq_true rfl⟩) (pv_r (va_recv (q0 := 0) (ci := 3) hK hP rfl rfl) (hP) hK hN) rfl rfl hl.1 rfl (lv_room (Nat.le_of_ble_eq_true rfl)) d_M_undoLast_1 ⟨Nat.zero_le _, Nat.zero_le _⟩)) (fun r1 e1 => ?_)
  subst e1
  rcases hfi : lt_ ac n with _ | k
  · skip
    refine toi_ (y := -1) rfl ?_
    refine lv_istore_n (lv' := [(1, .int (-1)), (0, .ref (am 0))]) hx hb d_M_undoLast_4 rfl hl (by decide) rfl (fun ls hl => ?_)
    refine lv_iload_n hx hb d_M_undoLast_5 rfl (lv_at hl 0 rfl) ?_
    refine lv_if_ge (tgt := 11) hx hb d_M_undoLast_6 (by decide) (fun h6 => ?_) (fun h6 => ?_)
    · skip
      exact absurd h6 (by decide)
    · skip
      refine lv_iconst (v := 0) hx hb d_M_undoLast_9 (by decide) ?_
      have hsp : sp_undoLast (hs, ac, n, la, T) = (0, (hs, ac, n, la, T)) := ul_none hfi
      exact W.iret hx hb hr (fun t ht9 hW => ⟨⟨_, (nu, ki, th, ot, vs, av, pl, ps, ts, fr, bk, ce, co, ro, le, dn, un), rfl, ⟨by rw [hsp], by rw [hsp]; exact hI⟩, by rw [ht9, hsp]; exact hP, by rw [hsp]; exact hD⟩, hS.F ht9⟩) hS.2.2 d_M_undoLast_10
  · skip
    refine toi_ (y := nI k) rfl ?_
    refine lv_istore_n (lv' := [(1, .int (nI k)), (0, .ref (am 0))]) hx hb d_M_undoLast_4 rfl hl (by decide) rfl (fun ls hl => ?_)
    refine lv_iload_n hx hb d_M_undoLast_5 rfl (lv_at hl 0 rfl) ?_
    refine lv_if_ge (tgt := 11) hx hb d_M_undoLast_6 (by decide) (fun h6 => ?_) (fun h6 => ?_)
    · skip
      have hklt := (lt_some hfi).1
      refine lv_aload_n hx hb d_M_undoLast_11 rfl (lv_at hl 1 rfl) ?_
      refine va_get (D := D) (ci := 3) (v := .ref (am 6)) (C := RM) (T := TM) (N := 20) hx hb hg inM hown hK hP 0 rfl rfl 7 (by decide) (hg _ fl_M_26) (fun _ h9 => h9) rfl d_M_undoLast_12 ?_
      refine lv_iload_n hx hb d_M_undoLast_15 rfl (lv_at hl 0 rfl) ?_
      refine lv_iconst (v := 0) hx hb d_M_undoLast_16 (by decide) ?_
      refine va_zast hx hb hK hP hD hS 6 4 rfl rfl (vp_in_nI (n := k) (N := 200) (by omega) (by omega)) d_M_undoLast_17 (fun H locs hP hD hS => ?_)
      rw [nI_clamp (by omega)] at hP hD
      rw [show vp_nar .boolean 0 = 0 from rfl] at hP hD
      have hP : va_P D cls_ (wM cA am (nI n) (nI la) nu ki th ot vs (upd av k 0) pl ps (nI T.length) ts fr bk ce co ro le dn un) H := hP
      have hD : va_D A (wM cA am (nI n) (nI la) nu ki th ot vs (upd av k 0) pl ps (nI T.length) ts fr bk ce co ro le dn un) := hD
      refine lv_aload_n hx hb d_M_undoLast_18 rfl (lv_at hl 1 rfl) ?_
      refine lv_iconst (v := 0) hx hb d_M_undoLast_19 (by decide) ?_
      refine va_put (D := D) (ci := 3) (v := .int 0) (ty := .int) (C := RM) (T := TM) (N := 20) hx hb hg inM tyM okM nmM hown hK hP hD hS 0 rfl rfl 10 (by decide) (hg _ fl_M_132) (fun _ h9 => h9) rfl (by decide +kernel) rfl rfl (Nat.le_of_ble_eq_true rfl) d_M_undoLast_20 (fun H locs hP hD hS => ?_)
      have hP : va_P D cls_ (wM cA am (nI n) (nI la) nu ki th ot vs (upd av k 0) pl ps 0 ts fr bk ce co ro le dn un) H := hP
      have hD : va_D A (wM cA am (nI n) (nI la) nu ki th ot vs (upd av k 0) pl ps 0 ts fr bk ce co ro le dn un) := hD
      refine lv_aload_n hx hb d_M_undoLast_23 rfl (lv_at hl 1 rfl) ?_
      refine lv_iconst (v := 0) hx hb d_M_undoLast_24 (by decide) ?_
      refine va_put (D := D) (ci := 3) (v := .int 0) (ty := .boolean) (C := RM) (T := TM) (N := 20) hx hb hg inM tyM okM nmM hown hK hP hD hS 0 rfl rfl 12 (by decide) (hg _ fl_M_39) (fun _ h9 => h9) rfl (by decide +kernel) rfl rfl (Nat.le_of_ble_eq_true rfl) d_M_undoLast_25 (fun H locs hP hD hS => ?_)
      have hP : va_P D cls_ (wM cA am (nI n) (nI la) nu ki th ot vs (upd av k 0) pl ps 0 ts 0 bk ce co ro le dn un) H := hP
      have hD : va_D A (wM cA am (nI n) (nI la) nu ki th ot vs (upd av k 0) pl ps 0 ts 0 bk ce co ro le dn un) := hD
      refine lv_aload_n hx hb d_M_undoLast_28 rfl (lv_at hl 1 rfl) ?_
      refine va_get (D := D) (ci := 3) (v := .ref (am 1)) (C := RM) (T := TM) (N := 20) hx hb hg inM hown hK hP 0 rfl rfl 2 (by decide) (hg _ fl_M_7) (fun _ h9 => h9) rfl d_M_undoLast_29 ?_
      refine lv_iload_n hx hb d_M_undoLast_32 rfl (lv_at hl 0 rfl) ?_
      refine va_iald hx hb hK hP 1 0 rfl rfl (vp_in_nI (n := k) (N := 200) (by omega) (by omega)) d_M_undoLast_33 ?_
      refine toi_ (y := nu k) (by rw [nI_clamp (by omega)]) ?_
      refine toi_ (y := s_n (hs k)) ((hmh k hklt).1) ?_
      have hsp : sp_undoLast (hs, ac, n, la, T) = (s_n (hs k), (hs, va_up ac k false, n, la, [])) := ul_some hfi
      exact W.iret hx hb hr (fun t ht9 hW => ⟨⟨_, (nu, ki, th, ot, vs, upd av k 0, pl, ps, ts, 0, bk, ce, co, ro, le, dn, un), rfl, ⟨by rw [hsp], by rw [hsp]; exact ⟨mh_flag hmh k false rfl, fun i hi => absurd hi (Nat.not_lt_zero _), Or.inl rfl⟩⟩, by rw [ht9, hsp]; exact hP, by rw [hsp]; exact hD⟩, hS.F ht9⟩) hS.2.2 d_M_undoLast_34
    · skip
      exact absurd (nI_ge0 (by have := (lt_some hfi).1; omega)) h6

set_option maxHeartbeats 4000000 in
set_option maxRecDepth 100000 in
theorem m_M_redoNext (l : Launch) (D : va_G) (cA : Nat → ClassId) (sz : Nat) (am : Nat → Nat) (nu ki th ot : Nat → Int32) (vs : Nat → Int64) (av pl ps ts : Nat → Int32) (fr bk : Int32) (ce : Nat → Int32) (co : Nat → Int64) (ro le dn un : Nat → Int32) (hs : Nat → st_T) (ac : Nat → Bool) (n la : Nat) (T : List Int32) (hI : mI_ (hs, ac, n, la, T) (nu, ki, th, ot, vs, av, pl, ps, ts, fr, bk, ce, co, ro, le, dn, un)) (haI : aI_ (hs, ac, n, la, T)) (hla9 : la + 1 < 100000) : Met l y_M_redoNext (.code y_M_redoNext c_M_redoNext 2 (some .int) :: G_) ({ frames := 5, cells := 0, slots := 0, locals := 117 }) (va_Pc [.ref (am 0)] (pm_ D cA (wM cA am (nI n) (nI la) nu ki th ot vs av pl ps (nI T.length) ts fr bk ce co ro le dn un) sz)) (va_Qi (fun (r : Int32) (u : mc_T) => r = (sp_redoNext (hs, ac, n, la, T)).1 ∧ mI_ ((sp_redoNext (hs, ac, n, la, T)).2) u) (bw_ D (va_A (wM cA am (nI n) (nI la) nu ki th ot vs av pl ps (nI T.length) ts fr bk ce co ro le dn un) sz) (fun u => wY cA am ((sp_redoNext (hs, ac, n, la, T)).2) u)) (va_A (wM cA am (nI n) (nI la) nu ki th ot vs av pl ps (nI T.length) ts fr bk ce co ro le dn un) sz)) 0 0 (va_A (wM cA am (nI n) (nI la) nu ki th ot vs av pl ps (nI T.length) ts fr bk ce co ro le dn un) sz) := by
  refine Met.ofW (cc := c_M_redoNext) (maxL := 2) (ret := (some .int)) (by decide) rfl ?_
  intro p e s m args below meth c s₁ B hml hv
  obtain ⟨rfl, hsz, hP, ⟨hK, hN⟩, hD0⟩ := hv
  have hx := B.exec
  have hb := B.bytes
  have hr := B.returns
  have hts := atoms_spec (ws := (.code y_M_redoNext c_M_redoNext 2 (some .int) :: G_)) B.pre
  have hg : ∀ w ∈ G_, w.before ([.ref (am 0)] : List Value).toArray s = true := fun w h => hts w (List.mem_cons_of_mem _ h)
  have hown : s.vm.findClass RM = some m.cls := findClass_of_methodNamed B.named
  have hlocks := B.notSynchronized
  subst hsz
  have hD := hD0.self (sz := s.heap.size)
  generalize hAe : va_A (wM cA am (nI n) (nI la) nu ki th ot vs av pl ps (nI T.length) ts fr bk ce co ro le dn un) s.heap.size = A at hD ⊢
  have hA : ∀ q : Nat, s.heap.size ≤ q → A q := fun q h => by rw [← hAe]; exact Or.inr h
  have hS : va_S A s.heap s.heap [] := va_S.rf
  have hl := lv_entry ([.ref (am 0)]) (n := 2) (Nat.le_of_ble_eq_true rfl)
  rw [lg_entry_eq]
  generalize (lg_sl ([.ref (am 0)]) ++ List.replicate (2 - (lg_sl ([.ref (am 0)])).length) Slot.unset).toArray = ls at hl ⊢
  have hl : lv_has ls 2 [(0, .ref (am 0))] := hl
  have hmh : mh_ hs ac n nu ki th ot vs av pl ps := hI.1
  have hT : rl_ ts T := hI.2.1
  have hH : hi_ hs n la := haI.1
  have hn2 : n ≤ 200 := hH.1
  have hT200 : T.length ≤ 200 := haI.2.2
  have hla2 : la < 100000 := hH.2.1
  have hw := rp_mw hH ac (Nat.le_refl n)
  refine lv_aload_n hx hb d_M_redoNext_0 rfl (lv_at hl 0 rfl) ?_
  refine vp_callSi (va_Run.run (va_runV (C := RM) (As := []) (rest := []) ⟨hx, hb, hml, hown, hg⟩ (m_M_latestActive l D cA am (nI la) nu ki th ot vs av pl ps (nI T.length) ts fr bk ce co ro le dn un hs ac n hmh hn2) (cwV 0 hg (gd_V ml_M_135 im_M_latestActive sl_M_latestActive ini_M cd_M_latestActive) rfl rfl rfl (by decide +kernel) ⟨Nat.le_of_ble_eq_true rfl, Nat.le_of_ble_eq_true rfl⟩) (pv_r (va_recv (q0 := 0) (ci := 3) hK hP rfl rfl) (hP) hK hN) rfl rfl hl.1 rfl (lv_room (Nat.le_of_ble_eq_true rfl)) d_M_redoNext_1 ⟨Nat.zero_le _, Nat.zero_le _⟩)) (fun r1 e1 => ?_)
  subst e1
  have hnk : ov_ (lt_ ac n) + 1 = nI (nk_ ac n) := by
    unfold nk_
    cases hfi : lt_ ac n with
    | none => decide
    | some k => exact nI_1 k
  have hkn : nk_ ac n ≤ n := by
    unfold nk_
    cases hfi : lt_ ac n with
    | none => exact Nat.zero_le _
    | some k => exact (lt_some hfi).1
  generalize hke : nk_ ac n = k at hnk hkn
  refine lv_iconst (v := 1) hx hb d_M_redoNext_4 (by decide) ?_
  refine lv_iadd hx hb d_M_redoNext_5 ?_
  refine toi_ (y := nI k) (hnk) ?_
  refine lv_istore_n (lv' := [(1, .int (nI k)), (0, .ref (am 0))]) hx hb d_M_redoNext_6 rfl hl (by decide) rfl (fun ls hl => ?_)
  refine lv_iload_n hx hb d_M_redoNext_7 rfl (lv_at hl 0 rfl) ?_
  refine lv_aload_n hx hb d_M_redoNext_8 rfl (lv_at hl 1 rfl) ?_
  refine va_get (D := D) (ci := 3) (v := .int (nI n)) (C := RM) (T := TM) (N := 20) hx hb hg inM hown hK hP 0 rfl rfl 0 (by decide) (hg _ fl_M_65) (fun _ h9 => h9) rfl d_M_redoNext_9 ?_
  refine lv_icmp_eq (tgt := 29) hx hb d_M_redoNext_12 (by decide) (fun h12 => ?_) (fun h12 => ?_)
  · skip
    have hklt : ¬ k < n := fun h => by have := (nI_eq (by omega) (by omega)).mp h12; omega
    refine lv_iconst (v := 0) hx hb d_M_redoNext_29 (by decide) ?_
    have hsp : sp_redoNext (hs, ac, n, la, T) = (0, (hs, ac, n, la, T)) := by unfold sp_redoNext; exact if_neg (by change ¬ nk_ ac n < n; rw [hke]; exact hklt)
    exact W.iret hx hb hr (fun t ht9 hW => ⟨⟨_, (nu, ki, th, ot, vs, av, pl, ps, ts, fr, bk, ce, co, ro, le, dn, un), rfl, ⟨by rw [hsp], by rw [hsp]; exact hI⟩, by rw [ht9, hsp]; exact hP, by rw [hsp]; exact hD⟩, hS.F ht9⟩) hS.2.2 d_M_redoNext_30
  · skip
    have hklt : k < n := by
      have h9 : ¬ k = n := fun h => h12 (by rw [h])
      omega
    refine lv_aload_n hx hb d_M_redoNext_15 rfl (lv_at hl 1 rfl) ?_
    refine lv_aload_n hx hb d_M_redoNext_16 rfl (lv_at hl 1 rfl) ?_
    refine va_get (D := D) (ci := 3) (v := .ref (am 1)) (C := RM) (T := TM) (N := 20) hx hb hg inM hown hK hP 0 rfl rfl 2 (by decide) (hg _ fl_M_7) (fun _ h9 => h9) rfl d_M_redoNext_17 ?_
    refine lv_iload_n hx hb d_M_redoNext_20 rfl (lv_at hl 0 rfl) ?_
    refine va_iald hx hb hK hP 1 0 rfl rfl (vp_in_nI (n := k) (N := 200) (by omega) (by omega)) d_M_redoNext_21 ?_
    refine toi_ (y := nu k) (by rw [nI_clamp (by omega)]) ?_
    refine toi_ (y := s_n (hs k)) ((hmh k hklt).1) ?_
    refine mu0_i (w := (wM cA am (nI n) (nI la) nu ki th ot vs av pl ps (nI T.length) ts fr bk ce co ro le dn un)) (va_runV (C := RM) (As := [.int (s_n (hs k))]) (rest := []) ⟨hx, hb, hml, hown, hg⟩ (m_M_redo l D cA s.heap.size am nu ki th ot vs av pl ps ts fr bk ce co ro le dn un hs ac n la T (s_n (hs k)) hI haI hla9) (cwV 1 hg (gd_V ml_M_139 im_M_redo sl_M_redo ini_M cd_M_redo) rfl rfl rfl (by decide +kernel) ⟨Nat.le_of_ble_eq_true rfl, Nat.le_of_ble_eq_true rfl⟩) (pv_m (va_recv (q0 := 0) (ci := 3) hK hP rfl rfl) hP hK hN hD) rfl rfl hl.1 rfl (lv_room (Nat.le_of_ble_eq_true rfl)) d_M_redoNext_22 ⟨Nat.zero_le _, Nat.zero_le _⟩) hP hD hS hA (fun r22 u H locs hp hP hD hS => ?_)
    obtain ⟨hr9, hI9⟩ := hp
    obtain ⟨ac2, hre⟩ := re_same (hs, ac, n, la, T) (s_n (hs k))
    obtain ⟨nu2, ki2, th2, ot2, vs2, av2, pl2, ps2, ts2, fr2, bk2, ce2, co2, ro2, le2, dn2, un2⟩ := u
    rw [hre] at hP hD hI9
    have hm9 : mh_ hs ac2 n nu2 ki2 th2 ot2 vs2 av2 pl2 ps2 := hI9.1
    have hP : va_P D cls_ (wM cA am (nI n) (nI la) nu2 ki2 th2 ot2 vs2 av2 pl2 ps2 (nI T.length) ts2 fr2 bk2 ce2 co2 ro2 le2 dn2 un2) H := hP
    have hD : va_D A (wM cA am (nI n) (nI la) nu2 ki2 th2 ot2 vs2 av2 pl2 ps2 (nI T.length) ts2 fr2 bk2 ce2 co2 ro2 le2 dn2 un2) := hD
    refine lv_iconst (v := 1) hx hb d_M_redoNext_25 (by decide) ?_
    refine lv_icmp_eq (tgt := 31) hx hb d_M_redoNext_26 (by decide) (fun h26 => ?_) (fun h26 => ?_)
    · skip
      refine lv_aload_n hx hb d_M_redoNext_31 rfl (lv_at hl 1 rfl) ?_
      refine va_get (D := D) (ci := 3) (v := .ref (am 1)) (C := RM) (T := TM) (N := 20) hx hb hg inM hown hK hP 0 rfl rfl 2 (by decide) (hg _ fl_M_7) (fun _ h9 => h9) rfl d_M_redoNext_32 ?_
      refine lv_iload_n hx hb d_M_redoNext_35 rfl (lv_at hl 0 rfl) ?_
      refine va_iald hx hb hK hP 1 0 rfl rfl (vp_in_nI (n := k) (N := 200) (by omega) (by omega)) d_M_redoNext_36 ?_
      refine toi_ (y := nu2 k) (by rw [nI_clamp (by omega)]) ?_
      refine toi_ (y := s_n (hs k)) ((hm9 k hklt).1) ?_
      have e9 : sp_redoNext (hs, ac, n, la, T) = (if nk_ ac n < n then (if (sp_redo (hs, ac, n, la, T) (s_n (hs (nk_ ac n)))).1 = 1 then s_n (hs (nk_ ac n)) else 0, (sp_redo (hs, ac, n, la, T) (s_n (hs (nk_ ac n)))).2) else (0, (hs, ac, n, la, T))) := rfl
      have hsp : sp_redoNext (hs, ac, n, la, T) = ((s_n (hs k)), (hs, ac2, n, la, T)) := by rw [e9, hke, if_pos hklt, ← hr9, if_pos h26, hre]
      exact W.iret hx hb hr (fun t ht9 hW => ⟨⟨_, (nu2, ki2, th2, ot2, vs2, av2, pl2, ps2, ts2, fr2, bk2, ce2, co2, ro2, le2, dn2, un2), rfl, ⟨by rw [hsp], by rw [hsp]; exact hI9⟩, by rw [ht9, hsp]; exact hP, by rw [hsp]; exact hD⟩, hS.F ht9⟩) hS.2.2 d_M_redoNext_37
    · skip
      refine lv_iconst (v := 0) hx hb d_M_redoNext_29 (by decide) ?_
      have e9 : sp_redoNext (hs, ac, n, la, T) = (if nk_ ac n < n then (if (sp_redo (hs, ac, n, la, T) (s_n (hs (nk_ ac n)))).1 = 1 then s_n (hs (nk_ ac n)) else 0, (sp_redo (hs, ac, n, la, T) (s_n (hs (nk_ ac n)))).2) else (0, (hs, ac, n, la, T))) := rfl
      have hsp : sp_redoNext (hs, ac, n, la, T) = (0, (hs, ac2, n, la, T)) := by rw [e9, hke, if_pos hklt, ← hr9, if_neg h26, hre]
      exact W.iret hx hb hr (fun t ht9 hW => ⟨⟨_, (nu2, ki2, th2, ot2, vs2, av2, pl2, ps2, ts2, fr2, bk2, ce2, co2, ro2, le2, dn2, un2), rfl, ⟨by rw [hsp], by rw [hsp]; exact hI9⟩, by rw [ht9, hsp]; exact hP, by rw [hsp]; exact hD⟩, hS.F ht9⟩) hS.2.2 d_M_redoNext_30
