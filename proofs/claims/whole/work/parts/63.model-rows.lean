/-! The reference: remove, insert, move -/
set_option maxHeartbeats 4000000 in
set_option maxRecDepth 100000 in
theorem m_M_remove (l : Launch) (D : va_G) (cA : Nat → ClassId) (sz : Nat) (am : Nat → Nat) (nu ki th ot : Nat → Int32) (vs : Nat → Int64) (av pl ps ts : Nat → Int32) (fr bk : Int32) (ce : Nat → Int32) (co : Nat → Int64) (ro le dn un : Nat → Int32) (hs : Nat → st_T) (ac : Nat → Bool) (n la : Nat) (T : List Int32) (x9 y9 : Int32) (hI : mI_ (hs, ac, n, la, T) (nu, ki, th, ot, vs, av, pl, ps, ts, fr, bk, ce, co, ro, le, dn, un)) (haI : aI_ (hs, ac, n, la, T)) (hla9 : la + 1 < 100000) : Met l y_M_remove (.code y_M_remove c_M_remove 3 (some .int) :: G_) ({ frames := 5, cells := 0, slots := 0, locals := 115 }) (va_Pc [.ref (am 0), .int x9, .int y9] (pm_ D cA (wM cA am (nI n) (nI la) nu ki th ot vs av pl ps (nI T.length) ts fr bk ce co ro le dn un) sz)) (va_Qi (fun (r : Int32) (u : mc_T) => r = (sp_remove (hs, ac, n, la, T) x9 y9).1 ∧ mI_ ((sp_remove (hs, ac, n, la, T) x9 y9).2) u) (bw_ D (va_A (wM cA am (nI n) (nI la) nu ki th ot vs av pl ps (nI T.length) ts fr bk ce co ro le dn un) sz) (fun u => wY cA am ((sp_remove (hs, ac, n, la, T) x9 y9).2) u)) (va_A (wM cA am (nI n) (nI la) nu ki th ot vs av pl ps (nI T.length) ts fr bk ce co ro le dn un) sz)) 0 0 (va_A (wM cA am (nI n) (nI la) nu ki th ot vs av pl ps (nI T.length) ts fr bk ce co ro le dn un) sz) := by
  refine Met.ofW (cc := c_M_remove) (maxL := 3) (ret := (some .int)) (by decide) rfl ?_
  intro p e s m args below meth c s₁ B hml hv
  obtain ⟨rfl, hsz, hP, ⟨hK, hN⟩, hD0⟩ := hv
  have hx := B.exec
  have hb := B.bytes
  have hr := B.returns
  have hts := atoms_spec (ws := (.code y_M_remove c_M_remove 3 (some .int) :: G_)) B.pre
  have hg : ∀ w ∈ G_, w.before ([.ref (am 0), .int x9, .int y9] : List Value).toArray s = true := fun w h => hts w (List.mem_cons_of_mem _ h)
  have hown : s.vm.findClass RM = some m.cls := findClass_of_methodNamed B.named
  have hlocks := B.notSynchronized
  subst hsz
  have hD := hD0.self (sz := s.heap.size)
  generalize hAe : va_A (wM cA am (nI n) (nI la) nu ki th ot vs av pl ps (nI T.length) ts fr bk ce co ro le dn un) s.heap.size = A at hD ⊢
  have hA : ∀ q : Nat, s.heap.size ≤ q → A q := fun q h => by rw [← hAe]; exact Or.inr h
  have hS : va_S A s.heap s.heap [] := va_S.rf
  have hl := lv_entry ([.ref (am 0), .int x9, .int y9]) (n := 3) (Nat.le_of_ble_eq_true rfl)
  rw [lg_entry_eq]
  generalize (lg_sl ([.ref (am 0), .int x9, .int y9]) ++ List.replicate (3 - (lg_sl ([.ref (am 0), .int x9, .int y9])).length) Slot.unset).toArray = ls at hl ⊢
  have hl : lv_has ls 3 [(0, .ref (am 0)), (1, .int x9), (2, .int y9)] := hl
  have hmh : mh_ hs ac n nu ki th ot vs av pl ps := hI.1
  have hT : rl_ ts T := hI.2.1
  have hH : hi_ hs n la := haI.1
  have hn2 : n ≤ 200 := hH.1
  have hT200 : T.length ≤ 200 := haI.2.2
  have hla2 : la < 100000 := hH.2.1
  have hw := rp_mw hH ac (Nat.le_refl n)
  refine lv_aload_n hx hb d_M_remove_0 rfl (lv_at hl 0 rfl) ?_
  refine mu0_v (w := (wM cA am (nI n) (nI la) nu ki th ot vs av pl ps (nI T.length) ts fr bk ce co ro le dn un)) (va_runV (C := RM) (As := []) (rest := []) ⟨hx, hb, hml, hown, hg⟩ (m_M_recall l D cA s.heap.size am (nI la) nu ki th ot vs av pl ps (nI T.length) ts fr bk ce co ro le dn un hs ac n hmh hn2 la hH hI.2.2) (cwV 0 hg (gd_V ml_M_117 im_M_recall sl_M_recall ini_M cd_M_recall) rfl rfl rfl (by decide +kernel) ⟨Nat.le_of_ble_eq_true rfl, Nat.le_of_ble_eq_true rfl⟩) (pv_m (va_recv (q0 := 0) (ci := 3) hK hP rfl rfl) hP hK hN hD) rfl rfl hl.1 rfl (lv_room (Nat.le_of_ble_eq_true rfl)) d_M_remove_1 ⟨Nat.zero_le _, Nat.zero_le _⟩) hP hD hS hA (fun u H locs hp hP hD hS => ?_)
  obtain ⟨⟨ce2, co2, ro2, le2, dn2, un2⟩, bk2⟩ := u
  have hq : mq_ hs ac n n (rp_ hs ac n) ce2 co2 ro2 le2 dn2 un2 := hp
  have hP : va_P D cls_ (wM cA am (nI n) (nI la) nu ki th ot vs av pl ps (nI T.length) ts 1 bk2 ce2 co2 ro2 le2 dn2 un2) H := hP
  have hD : va_D A (wM cA am (nI n) (nI la) nu ki th ot vs av pl ps (nI T.length) ts 1 bk2 ce2 co2 ro2 le2 dn2 un2) := hD
  refine lv_iload_n hx hb d_M_remove_4 rfl (lv_at hl 1 rfl) ?_
  refine vp_callSi (va_Run.run (va_runS (As := [.int x9]) (rest := []) ⟨hx, hb, hml, hown, hg⟩ (m_M_isRow l D cA x9) (cwS 1 hg (gd_S ml_M_120 sm_M_isRow ini_M cd_M_isRow) rfl rfl rfl (by decide +kernel) ⟨Nat.le_of_ble_eq_true rfl, Nat.le_of_ble_eq_true rfl⟩) (ps_r (wp_iff.mpr (fun q h => absurd h List.not_mem_nil)) hK hN) rfl rfl hl.1 rfl (lv_room (Nat.le_of_ble_eq_true rfl)) d_M_remove_5 ⟨Nat.zero_le _, Nat.zero_le _⟩)) (fun r5 e5 => ?_)
  subst e5
  refine lv_if_eq (tgt := 32) hx hb d_M_remove_8 (by decide) (fun h8 => ?_) (fun h8 => ?_)
  · skip
    have q8 := b2_0.mp h8
    have hse : sp_elem (rp_ hs ac n) x9 y9 = 0 := by
      unfold sp_elem
      exact if_neg (fun h => by rw [q8] at h; exact absurd h.1 (by decide))
    refine lv_iconst (v := 0) hx hb d_M_remove_32 (by decide) ?_
    have hsp : sp_remove (hs, ac, n, la, T) x9 y9 = (0, (hs, ac, n, la, T)) := by unfold sp_remove; exact if_neg (fun h => by first | exact h.1 hse | exact h.2 hfull)
    exact W.iret hx hb hr (fun t ht9 hW => ⟨⟨_, (nu, ki, th, ot, vs, av, pl, ps, ts, 1, bk2, ce2, co2, ro2, le2, dn2, un2), rfl, ⟨by rw [hsp], by rw [hsp]; exact ⟨hmh, hT, Or.inr ⟨rfl, hq⟩⟩⟩, by rw [ht9, hsp]; exact hP, by rw [hsp]; exact hD⟩, hS.F ht9⟩) hS.2.2 d_M_remove_33
  · skip
    have q8 := b2_n.mp h8
    obtain ⟨j, hj, hxj⟩ := inx_n q8
    have hcl : x9.toNatClampNeg = j := by rw [hxj]; exact nI_clamp (by omega)
    have hlen := (hq.2.2.1 j hj).1
    have hrl := (hq.2.2.1 j hj).2
    have h40 := hw.1 j hj
    refine lv_iload_n hx hb d_M_remove_11 rfl (lv_at hl 2 rfl) ?_
    refine lv_if_lt (tgt := 32) hx hb d_M_remove_12 (by decide) (fun h12 => ?_) (fun h12 => ?_)
    · skip
      have hy9 : inx_ y9 (m_r (rp_ hs ac n) j).length = false := inx_1 h12
      have hse : sp_elem (rp_ hs ac n) x9 y9 = 0 := by
        unfold sp_elem
        exact if_neg (fun h => by rw [hcl, hy9] at h; exact absurd h.2 (by decide))
      refine lv_iconst (v := 0) hx hb d_M_remove_32 (by decide) ?_
      have hsp : sp_remove (hs, ac, n, la, T) x9 y9 = (0, (hs, ac, n, la, T)) := by unfold sp_remove; exact if_neg (fun h => by first | exact h.1 hse | exact h.2 hfull)
      exact W.iret hx hb hr (fun t ht9 hW => ⟨⟨_, (nu, ki, th, ot, vs, av, pl, ps, ts, 1, bk2, ce2, co2, ro2, le2, dn2, un2), rfl, ⟨by rw [hsp], by rw [hsp]; exact ⟨hmh, hT, Or.inr ⟨rfl, hq⟩⟩⟩, by rw [ht9, hsp]; exact hP, by rw [hsp]; exact hD⟩, hS.F ht9⟩) hS.2.2 d_M_remove_33
    · skip
      refine lv_iload_n hx hb d_M_remove_15 rfl (lv_at hl 2 rfl) ?_
      refine lv_aload_n hx hb d_M_remove_16 rfl (lv_at hl 0 rfl) ?_
      refine va_get (D := D) (ci := 3) (v := .ref (am 13)) (C := RM) (T := TM) (N := 20) hx hb hg inM hown hK hP 0 rfl rfl 17 (by decide) (hg _ fl_M_56) (fun _ h9 => h9) rfl d_M_remove_17 ?_
      refine lv_iload_n hx hb d_M_remove_20 rfl (lv_at hl 1 rfl) ?_
      refine toi_ (y := nI j) (hxj) ?_
      refine va_iald hx hb hK hP 13 0 rfl rfl (vp_in_nI (n := j) (N := 3) (by omega) (by omega)) d_M_remove_21 ?_
      refine toi_ (y := le2 j) (by rw [nI_clamp (by omega)]) ?_
      refine toi_ (y := nI (m_r (rp_ hs ac n) j).length) (hlen) ?_
      refine lv_icmp_ge (tgt := 32) hx hb d_M_remove_22 (by decide) (fun h22 => ?_) (fun h22 => ?_)
      · skip
        have hy9 : inx_ y9 (m_r (rp_ hs ac n) j).length = false := inx_2 (by omega) h22
        have hse : sp_elem (rp_ hs ac n) x9 y9 = 0 := by
          unfold sp_elem
          exact if_neg (fun h => by rw [hcl, hy9] at h; exact absurd h.2 (by decide))
        refine lv_iconst (v := 0) hx hb d_M_remove_32 (by decide) ?_
        have hsp : sp_remove (hs, ac, n, la, T) x9 y9 = (0, (hs, ac, n, la, T)) := by unfold sp_remove; exact if_neg (fun h => by first | exact h.1 hse | exact h.2 hfull)
        exact W.iret hx hb hr (fun t ht9 hW => ⟨⟨_, (nu, ki, th, ot, vs, av, pl, ps, ts, 1, bk2, ce2, co2, ro2, le2, dn2, un2), rfl, ⟨by rw [hsp], by rw [hsp]; exact ⟨hmh, hT, Or.inr ⟨rfl, hq⟩⟩⟩, by rw [ht9, hsp]; exact hP, by rw [hsp]; exact hD⟩, hS.F ht9⟩) hS.2.2 d_M_remove_33
      · skip
        have hy9 : inx_ y9 (m_r (rp_ hs ac n) j).length = true := inx_3 (by omega) h12 h22
        obtain ⟨i, hi, hyi⟩ := inx_n hy9
        have hel : sp_elem (rp_ hs ac n) x9 y9 = ro2 (40 * j + i) := by
          unfold sp_elem
          rw [if_pos ⟨q8, by rw [hcl]; exact hy9⟩, hcl, hyi, nI_clamp (by omega), List.getD_eq_getElem?_getD, hrl i hi]
          rfl
        have hmem : sp_elem (rp_ hs ac n) x9 y9 ∈ m_r (rp_ hs ac n) j := by rw [hel]; exact List.mem_of_getElem? (hrl i hi)
        have hme : sp_elem (rp_ hs ac n) x9 y9 ∈ m_e (rp_ hs ac n) := (rp_mb hH ac (Nat.le_refl n)).2.2.2.2.2.1 j _ hmem
        have hne : ¬ sp_elem (rp_ hs ac n) x9 y9 = 0 := fun h9 => by
          have h8 := hw.2.2.2.2.2.2.1 _ hme
          rw [h9] at h8
          exact absurd h8 (by decide)
        refine lv_aload_n hx hb d_M_remove_25 rfl (lv_at hl 0 rfl) ?_
        refine vp_callSi (va_Run.run (va_runV (C := RM) (As := []) (rest := []) ⟨hx, hb, hml, hown, hg⟩ (m_M_isFull l D cA am (nI la) nu ki th ot vs av pl ps (nI T.length) ts 1 bk2 ce2 co2 ro2 le2 dn2 un2 n hn2) (cwV 0 hg (gd_V ml_M_109 im_M_isFull sl_M_isFull ini_M cd_M_isFull) rfl rfl rfl (by decide +kernel) ⟨Nat.le_of_ble_eq_true rfl, Nat.le_of_ble_eq_true rfl⟩) (pv_r (va_recv (q0 := 0) (ci := 3) hK hP rfl rfl) (hP) hK hN) rfl rfl hl.1 rfl (lv_room (Nat.le_of_ble_eq_true rfl)) d_M_remove_26 ⟨Nat.zero_le _, Nat.zero_le _⟩)) (fun r26 e26 => ?_)
        subst e26
        refine lv_if_eq (tgt := 34) hx hb d_M_remove_29 (by decide) (fun h29 => ?_) (fun h29 => ?_)
        · skip
          have q29 := b2_0.mp h29
          have hfull : ¬ n = 200 := by simpa using q29
          have hn9 : n < 200 := by omega
          refine lv_aload_n hx hb d_M_remove_34 rfl (lv_at hl 0 rfl) ?_
          refine lv_iconst (v := 4) hx hb d_M_remove_35 (by decide) ?_
          refine lv_iload_n hx hb d_M_remove_36 rfl (lv_at hl 1 rfl) ?_
          refine lv_aload_n hx hb d_M_remove_37 rfl (lv_at hl 0 rfl) ?_
          refine va_get (D := D) (ci := 3) (v := .ref (am 12)) (C := RM) (T := TM) (N := 20) hx hb hg inM hown hK hP 0 rfl rfl 16 (by decide) (hg _ fl_M_53) (fun _ h9 => h9) rfl d_M_remove_38 ?_
          refine lv_bipush (v := 40) hx hb d_M_remove_41 (by decide) ?_
          refine lv_iload_n hx hb d_M_remove_43 rfl (lv_at hl 1 rfl) ?_
          refine toi_ (y := nI j) (hxj) ?_
          refine lv_imul hx hb d_M_remove_44 ?_
          refine toi_ (y := nI (40 * j)) (pk_mul 40 j) ?_
          refine lv_iload_n hx hb d_M_remove_45 rfl (lv_at hl 2 rfl) ?_
          refine toi_ (y := nI i) (hyi) ?_
          refine lv_iadd hx hb d_M_remove_46 ?_
          refine toi_ (y := nI (40 * j + i)) (nI_add _ _) ?_
          refine va_iald hx hb hK hP 12 0 rfl rfl (vp_in_nI (n := 40 * j + i) (N := 120) (by omega) (by omega)) d_M_remove_47 ?_
          refine toi_ (y := ro2 (40 * j + i)) (by rw [nI_clamp (by omega)]) ?_
          refine toi_ (y := sp_elem (rp_ hs ac n) x9 y9) (hel.symm) ?_
          refine lv_lconst (v := 0) hx hb d_M_remove_48 (by decide) ?_
          refine mu0_i (w := (wM cA am (nI n) (nI la) nu ki th ot vs av pl ps (nI T.length) ts 1 bk2 ce2 co2 ro2 le2 dn2 un2)) (va_runV (C := RM) (As := [.int 4, .int x9, .int (sp_elem (rp_ hs ac n) x9 y9), .long 0]) (rest := []) ⟨hx, hb, hml, hown, hg⟩ (m_M_put l D cA H.size am nu ki th ot vs av pl ps ts 1 bk2 ce2 co2 ro2 le2 dn2 un2 hs ac n la T 4 x9 (sp_elem (rp_ hs ac n) x9 y9) 0 hn9) (cwV 4 hg (gd_V ml_M_113 im_M_put sl_M_put ini_M cd_M_put) rfl rfl rfl (by decide +kernel) ⟨Nat.le_of_ble_eq_true rfl, Nat.le_of_ble_eq_true rfl⟩) (pv_m (va_recv (q0 := 0) (ci := 3) hK hP rfl rfl) hP hK hN hD) rfl rfl hl.1 rfl (lv_room (Nat.le_of_ble_eq_true rfl)) d_M_remove_49 ⟨Nat.zero_le _, Nat.zero_le _⟩) hP hD hS hA (fun r49 u8 H locs hp hP hD hS => ?_)
          obtain ⟨hpe, hmI⟩ := mput (la := la) (bk := bk2) (ce := ce2) (co := co2) (ro := ro2) (le := le2) (dn := dn2) (un := un2) hmh hT (x := (nI (la + 1), 4, x9, sp_elem (rp_ hs ac n) x9 y9, 0, [])) rfl ((im_45 _ (Or.inl rfl)).trans (decide_eq_false (fun h => h hme))) (fun h => by rcases h with h | h; exact kn_ (show (4 : Int32) = 3 from h) (by decide); exact kn_ (show (4 : Int32) = 5 from h) (by decide))
          have hP : va_P D cls_ (wM cA am (nI (n + 1)) (nI (la + 1)) (upd nu n (nI (la + 1))) (upd ki n 4) (upd th n x9) (upd ot n (sp_elem (rp_ hs ac n) x9 y9)) (vp_updL vs n 0) (upd av n 1) pl ps (nI T.length) ts 0 bk2 ce2 co2 ro2 le2 dn2 un2) H := hP
          have hD : va_D A (wM cA am (nI (n + 1)) (nI (la + 1)) (upd nu n (nI (la + 1))) (upd ki n 4) (upd th n x9) (upd ot n (sp_elem (rp_ hs ac n) x9 y9)) (vp_updL vs n 0) (upd av n 1) pl ps (nI T.length) ts 0 bk2 ce2 co2 ro2 le2 dn2 un2) := hD
          have hsp : sp_remove (hs, ac, n, la, T) x9 y9 = (nI (la + 1), (va_up hs n (nI (la + 1), 4, x9, sp_elem (rp_ hs ac n) x9 y9, 0, []), va_up ac n true, n + 1, la + 1, T)) := by unfold sp_remove; exact (if_pos ⟨hne, hfull⟩).trans hpe
          exact W.iret hx hb hr (fun t ht9 hW => ⟨⟨_, (upd nu n (nI (la + 1)), upd ki n 4, upd th n x9, upd ot n (sp_elem (rp_ hs ac n) x9 y9), vp_updL vs n 0, upd av n 1, pl, ps, ts, 0, bk2, ce2, co2, ro2, le2, dn2, un2), rfl, ⟨by rw [hsp]; exact hp, by rw [hsp]; exact hmI⟩, by rw [ht9, hsp]; exact hP, by rw [hsp]; exact hD⟩, hS.F ht9⟩) hS.2.2 d_M_remove_52
        · skip
          have q29 := b2_n.mp h29
          have hfull : n = 200 := by simpa using q29
          refine lv_iconst (v := 0) hx hb d_M_remove_32 (by decide) ?_
          have hsp : sp_remove (hs, ac, n, la, T) x9 y9 = (0, (hs, ac, n, la, T)) := by unfold sp_remove; exact if_neg (fun h => by first | exact h.1 hse | exact h.2 hfull)
          exact W.iret hx hb hr (fun t ht9 hW => ⟨⟨_, (nu, ki, th, ot, vs, av, pl, ps, ts, 1, bk2, ce2, co2, ro2, le2, dn2, un2), rfl, ⟨by rw [hsp], by rw [hsp]; exact ⟨hmh, hT, Or.inr ⟨rfl, hq⟩⟩⟩, by rw [ht9, hsp]; exact hP, by rw [hsp]; exact hD⟩, hS.F ht9⟩) hS.2.2 d_M_remove_33

set_option maxHeartbeats 4000000 in
set_option maxRecDepth 100000 in
theorem m_M_insert (l : Launch) (D : va_G) (cA : Nat → ClassId) (sz : Nat) (am : Nat → Nat) (nu ki th ot : Nat → Int32) (vs : Nat → Int64) (av pl ps ts : Nat → Int32) (fr bk : Int32) (ce : Nat → Int32) (co : Nat → Int64) (ro le dn un : Nat → Int32) (hs : Nat → st_T) (ac : Nat → Bool) (n la : Nat) (T : List Int32) (x9 y9 v : Int32) (hI : mI_ (hs, ac, n, la, T) (nu, ki, th, ot, vs, av, pl, ps, ts, fr, bk, ce, co, ro, le, dn, un)) (haI : aI_ (hs, ac, n, la, T)) (hla9 : la + 1 < 100000) : Met l y_M_insert (.code y_M_insert c_M_insert 4 (some .int) :: G_) ({ frames := 5, cells := 0, slots := 0, locals := 115 }) (va_Pc [.ref (am 0), .int x9, .int y9, .int v] (pm_ D cA (wM cA am (nI n) (nI la) nu ki th ot vs av pl ps (nI T.length) ts fr bk ce co ro le dn un) sz)) (va_Qi (fun (r : Int32) (u : mc_T) => r = (sp_insert (hs, ac, n, la, T) x9 y9 v).1 ∧ mI_ ((sp_insert (hs, ac, n, la, T) x9 y9 v).2) u) (bw_ D (va_A (wM cA am (nI n) (nI la) nu ki th ot vs av pl ps (nI T.length) ts fr bk ce co ro le dn un) sz) (fun u => wY cA am ((sp_insert (hs, ac, n, la, T) x9 y9 v).2) u)) (va_A (wM cA am (nI n) (nI la) nu ki th ot vs av pl ps (nI T.length) ts fr bk ce co ro le dn un) sz)) 0 0 (va_A (wM cA am (nI n) (nI la) nu ki th ot vs av pl ps (nI T.length) ts fr bk ce co ro le dn un) sz) := by
  refine Met.ofW (cc := c_M_insert) (maxL := 4) (ret := (some .int)) (by decide) rfl ?_
  intro p e s m args below meth c s₁ B hml hv
  obtain ⟨rfl, hsz, hP, ⟨hK, hN⟩, hD0⟩ := hv
  have hx := B.exec
  have hb := B.bytes
  have hr := B.returns
  have hts := atoms_spec (ws := (.code y_M_insert c_M_insert 4 (some .int) :: G_)) B.pre
  have hg : ∀ w ∈ G_, w.before ([.ref (am 0), .int x9, .int y9, .int v] : List Value).toArray s = true := fun w h => hts w (List.mem_cons_of_mem _ h)
  have hown : s.vm.findClass RM = some m.cls := findClass_of_methodNamed B.named
  have hlocks := B.notSynchronized
  subst hsz
  have hD := hD0.self (sz := s.heap.size)
  generalize hAe : va_A (wM cA am (nI n) (nI la) nu ki th ot vs av pl ps (nI T.length) ts fr bk ce co ro le dn un) s.heap.size = A at hD ⊢
  have hA : ∀ q : Nat, s.heap.size ≤ q → A q := fun q h => by rw [← hAe]; exact Or.inr h
  have hS : va_S A s.heap s.heap [] := va_S.rf
  have hl := lv_entry ([.ref (am 0), .int x9, .int y9, .int v]) (n := 4) (Nat.le_of_ble_eq_true rfl)
  rw [lg_entry_eq]
  generalize (lg_sl ([.ref (am 0), .int x9, .int y9, .int v]) ++ List.replicate (4 - (lg_sl ([.ref (am 0), .int x9, .int y9, .int v])).length) Slot.unset).toArray = ls at hl ⊢
  have hl : lv_has ls 4 [(0, .ref (am 0)), (1, .int x9), (2, .int y9), (3, .int v)] := hl
  have hmh : mh_ hs ac n nu ki th ot vs av pl ps := hI.1
  have hT : rl_ ts T := hI.2.1
  have hH : hi_ hs n la := haI.1
  have hn2 : n ≤ 200 := hH.1
  have hT200 : T.length ≤ 200 := haI.2.2
  have hla2 : la < 100000 := hH.2.1
  have hw := rp_mw hH ac (Nat.le_refl n)
  refine lv_aload_n hx hb d_M_insert_0 rfl (lv_at hl 0 rfl) ?_
  refine mu0_v (w := (wM cA am (nI n) (nI la) nu ki th ot vs av pl ps (nI T.length) ts fr bk ce co ro le dn un)) (va_runV (C := RM) (As := []) (rest := []) ⟨hx, hb, hml, hown, hg⟩ (m_M_recall l D cA s.heap.size am (nI la) nu ki th ot vs av pl ps (nI T.length) ts fr bk ce co ro le dn un hs ac n hmh hn2 la hH hI.2.2) (cwV 0 hg (gd_V ml_M_117 im_M_recall sl_M_recall ini_M cd_M_recall) rfl rfl rfl (by decide +kernel) ⟨Nat.le_of_ble_eq_true rfl, Nat.le_of_ble_eq_true rfl⟩) (pv_m (va_recv (q0 := 0) (ci := 3) hK hP rfl rfl) hP hK hN hD) rfl rfl hl.1 rfl (lv_room (Nat.le_of_ble_eq_true rfl)) d_M_insert_1 ⟨Nat.zero_le _, Nat.zero_le _⟩) hP hD hS hA (fun u H locs hp hP hD hS => ?_)
  obtain ⟨⟨ce2, co2, ro2, le2, dn2, un2⟩, bk2⟩ := u
  have hq : mq_ hs ac n n (rp_ hs ac n) ce2 co2 ro2 le2 dn2 un2 := hp
  have hP : va_P D cls_ (wM cA am (nI n) (nI la) nu ki th ot vs av pl ps (nI T.length) ts 1 bk2 ce2 co2 ro2 le2 dn2 un2) H := hP
  have hD : va_D A (wM cA am (nI n) (nI la) nu ki th ot vs av pl ps (nI T.length) ts 1 bk2 ce2 co2 ro2 le2 dn2 un2) := hD
  refine lv_iload_n hx hb d_M_insert_4 rfl (lv_at hl 1 rfl) ?_
  refine vp_callSi (va_Run.run (va_runS (As := [.int x9]) (rest := []) ⟨hx, hb, hml, hown, hg⟩ (m_M_isRow l D cA x9) (cwS 1 hg (gd_S ml_M_120 sm_M_isRow ini_M cd_M_isRow) rfl rfl rfl (by decide +kernel) ⟨Nat.le_of_ble_eq_true rfl, Nat.le_of_ble_eq_true rfl⟩) (ps_r (wp_iff.mpr (fun q h => absurd h List.not_mem_nil)) hK hN) rfl rfl hl.1 rfl (lv_room (Nat.le_of_ble_eq_true rfl)) d_M_insert_5 ⟨Nat.zero_le _, Nat.zero_le _⟩)) (fun r5 e5 => ?_)
  subst e5
  refine lv_if_eq (tgt := 42) hx hb d_M_insert_8 (by decide) (fun h8 => ?_) (fun h8 => ?_)
  · skip
    have q8 := b2_0.mp h8
    refine lv_iconst (v := 0) hx hb d_M_insert_42 (by decide) ?_
    have hsp : sp_insert (hs, ac, n, la, T) x9 y9 v = (0, (hs, ac, n, la, T)) := by unfold sp_insert; exact if_neg (fun h => by first | exact absurd (q8.symm.trans h.1) (by decide) | exact absurd (hbad.symm.trans h.2.2.2) (by decide) | exact absurd h.2.2.1 hic | exact h.2.1 hfull)
    exact W.iret hx hb hr (fun t ht9 hW => ⟨⟨_, (nu, ki, th, ot, vs, av, pl, ps, ts, 1, bk2, ce2, co2, ro2, le2, dn2, un2), rfl, ⟨by rw [hsp], by rw [hsp]; exact ⟨hmh, hT, Or.inr ⟨rfl, hq⟩⟩⟩, by rw [ht9, hsp]; exact hP, by rw [hsp]; exact hD⟩, hS.F ht9⟩) hS.2.2 d_M_insert_43
  · skip
    have q8 := b2_n.mp h8
    obtain ⟨j, hj, hxj⟩ := inx_n q8
    have hcl : x9.toNatClampNeg = j := by rw [hxj]; exact nI_clamp (by omega)
    have hlen := (hq.2.2.1 j hj).1
    have hrl := (hq.2.2.1 j hj).2
    have h40 := hw.1 j hj
    have hicj := hH.2.2.2.2.2 j hj
    refine lv_iload_n hx hb d_M_insert_11 rfl (lv_at hl 2 rfl) ?_
    refine lv_if_lt (tgt := 42) hx hb d_M_insert_12 (by decide) (fun h12 => ?_) (fun h12 => ?_)
    · skip
      have hbad : inx_ y9 ((m_r (rp_ hs ac n) x9.toNatClampNeg).length + 1) = false := inx_1 h12
      refine lv_iconst (v := 0) hx hb d_M_insert_42 (by decide) ?_
      have hsp : sp_insert (hs, ac, n, la, T) x9 y9 v = (0, (hs, ac, n, la, T)) := by unfold sp_insert; exact if_neg (fun h => by first | exact absurd (q8.symm.trans h.1) (by decide) | exact absurd (hbad.symm.trans h.2.2.2) (by decide) | exact absurd h.2.2.1 hic | exact h.2.1 hfull)
      exact W.iret hx hb hr (fun t ht9 hW => ⟨⟨_, (nu, ki, th, ot, vs, av, pl, ps, ts, 1, bk2, ce2, co2, ro2, le2, dn2, un2), rfl, ⟨by rw [hsp], by rw [hsp]; exact ⟨hmh, hT, Or.inr ⟨rfl, hq⟩⟩⟩, by rw [ht9, hsp]; exact hP, by rw [hsp]; exact hD⟩, hS.F ht9⟩) hS.2.2 d_M_insert_43
    · skip
      refine lv_iload_n hx hb d_M_insert_15 rfl (lv_at hl 2 rfl) ?_
      refine lv_aload_n hx hb d_M_insert_16 rfl (lv_at hl 0 rfl) ?_
      refine va_get (D := D) (ci := 3) (v := .ref (am 13)) (C := RM) (T := TM) (N := 20) hx hb hg inM hown hK hP 0 rfl rfl 17 (by decide) (hg _ fl_M_56) (fun _ h9 => h9) rfl d_M_insert_17 ?_
      refine lv_iload_n hx hb d_M_insert_20 rfl (lv_at hl 1 rfl) ?_
      refine toi_ (y := nI j) (hxj) ?_
      refine va_iald hx hb hK hP 13 0 rfl rfl (vp_in_nI (n := j) (N := 3) (by omega) (by omega)) d_M_insert_21 ?_
      refine toi_ (y := le2 j) (by rw [nI_clamp (by omega)]) ?_
      refine toi_ (y := nI (m_r (rp_ hs ac n) j).length) (hlen) ?_
      refine lv_icmp_gt (tgt := 42) hx hb d_M_insert_22 (by decide) (fun h22 => ?_) (fun h22 => ?_)
      · skip
        have hbad : inx_ y9 ((m_r (rp_ hs ac n) x9.toNatClampNeg).length + 1) = false := by rw [hcl]; exact inx_4 (by omega) h22
        refine lv_iconst (v := 0) hx hb d_M_insert_42 (by decide) ?_
        have hsp : sp_insert (hs, ac, n, la, T) x9 y9 v = (0, (hs, ac, n, la, T)) := by unfold sp_insert; exact if_neg (fun h => by first | exact absurd (q8.symm.trans h.1) (by decide) | exact absurd (hbad.symm.trans h.2.2.2) (by decide) | exact absurd h.2.2.1 hic | exact h.2.1 hfull)
        exact W.iret hx hb hr (fun t ht9 hW => ⟨⟨_, (nu, ki, th, ot, vs, av, pl, ps, ts, 1, bk2, ce2, co2, ro2, le2, dn2, un2), rfl, ⟨by rw [hsp], by rw [hsp]; exact ⟨hmh, hT, Or.inr ⟨rfl, hq⟩⟩⟩, by rw [ht9, hsp]; exact hP, by rw [hsp]; exact hD⟩, hS.F ht9⟩) hS.2.2 d_M_insert_43
      · skip
        have hy9 : inx_ y9 ((m_r (rp_ hs ac n) j).length + 1) = true := inx_5 (by omega) h12 h22
        have hgood : inx_ y9 ((m_r (rp_ hs ac n) x9.toNatClampNeg).length + 1) = true := by rw [hcl]; exact hy9
        obtain ⟨i, hi, hyi⟩ := inx_n hy9
        have hcy : y9.toNatClampNeg = i := by rw [hyi]; exact nI_clamp (by omega)
        refine lv_aload_n hx hb d_M_insert_25 rfl (lv_at hl 0 rfl) ?_
        refine lv_iload_n hx hb d_M_insert_26 rfl (lv_at hl 1 rfl) ?_
        refine toi_ (y := nI j) (hxj) ?_
        refine vp_callSi (va_Run.run (va_runV (C := RM) (As := [.int (nI j)]) (rest := []) ⟨hx, hb, hml, hown, hg⟩ (m_M_insertsOf l D cA am (nI la) nu ki th ot vs av pl ps (nI T.length) ts 1 bk2 ce2 co2 ro2 le2 dn2 un2 hs ac n j hj (fun k hk => (hH.2.2.1 k hk).1) hmh hn2) (cwV 1 hg (gd_V ml_M_123 im_M_insertsOf sl_M_insertsOf ini_M cd_M_insertsOf) rfl rfl rfl (by decide +kernel) ⟨Nat.le_of_ble_eq_true rfl, Nat.le_of_ble_eq_true rfl⟩) (pv_r (va_recv (q0 := 0) (ci := 3) hK hP rfl rfl) (hP) hK hN) rfl rfl hl.1 rfl (lv_room (Nat.le_of_ble_eq_true rfl)) d_M_insert_27 ⟨Nat.zero_le _, Nat.zero_le _⟩)) (fun r27 e27 => ?_)
        subst e27
        refine lv_bipush (v := 40) hx hb d_M_insert_30 (by decide) ?_
        refine toi_ (y := nI 40) (rfl) ?_
        refine lv_icmp_eq (tgt := 42) hx hb d_M_insert_32 (by decide) (fun h32 => ?_) (fun h32 => ?_)
        · skip
          have hic : ¬ ic_ hs x9.toNatClampNeg n < 40 := by rw [hcl, (nI_eq (by omega) (by omega)).mp h32]; omega
          refine lv_iconst (v := 0) hx hb d_M_insert_42 (by decide) ?_
          have hsp : sp_insert (hs, ac, n, la, T) x9 y9 v = (0, (hs, ac, n, la, T)) := by unfold sp_insert; exact if_neg (fun h => by first | exact absurd (q8.symm.trans h.1) (by decide) | exact absurd (hbad.symm.trans h.2.2.2) (by decide) | exact absurd h.2.2.1 hic | exact h.2.1 hfull)
          exact W.iret hx hb hr (fun t ht9 hW => ⟨⟨_, (nu, ki, th, ot, vs, av, pl, ps, ts, 1, bk2, ce2, co2, ro2, le2, dn2, un2), rfl, ⟨by rw [hsp], by rw [hsp]; exact ⟨hmh, hT, Or.inr ⟨rfl, hq⟩⟩⟩, by rw [ht9, hsp]; exact hP, by rw [hsp]; exact hD⟩, hS.F ht9⟩) hS.2.2 d_M_insert_43
        · skip
          have hicg : ic_ hs x9.toNatClampNeg n < 40 := by
            rw [hcl]
            have h9 : ¬ ic_ hs j n = 40 := fun h => h32 (by rw [h])
            omega
          refine lv_aload_n hx hb d_M_insert_35 rfl (lv_at hl 0 rfl) ?_
          refine vp_callSi (va_Run.run (va_runV (C := RM) (As := []) (rest := []) ⟨hx, hb, hml, hown, hg⟩ (m_M_isFull l D cA am (nI la) nu ki th ot vs av pl ps (nI T.length) ts 1 bk2 ce2 co2 ro2 le2 dn2 un2 n hn2) (cwV 0 hg (gd_V ml_M_109 im_M_isFull sl_M_isFull ini_M cd_M_isFull) rfl rfl rfl (by decide +kernel) ⟨Nat.le_of_ble_eq_true rfl, Nat.le_of_ble_eq_true rfl⟩) (pv_r (va_recv (q0 := 0) (ci := 3) hK hP rfl rfl) (hP) hK hN) rfl rfl hl.1 rfl (lv_room (Nat.le_of_ble_eq_true rfl)) d_M_insert_36 ⟨Nat.zero_le _, Nat.zero_le _⟩)) (fun r36 e36 => ?_)
          subst e36
          refine lv_if_eq (tgt := 44) hx hb d_M_insert_39 (by decide) (fun h39 => ?_) (fun h39 => ?_)
          · skip
            have q39 := b2_0.mp h39
            have hfull : ¬ n = 200 := by simpa using q39
            have hn9 : n < 200 := by omega
            refine lv_aload_n hx hb d_M_insert_44 rfl (lv_at hl 0 rfl) ?_
            refine lv_iload_n hx hb d_M_insert_45 rfl (lv_at hl 1 rfl) ?_
            refine toi_ (y := nI j) (hxj) ?_
            refine lv_iload_n hx hb d_M_insert_46 rfl (lv_at hl 2 rfl) ?_
            refine toi_ (y := nI i) (hyi) ?_
            refine lv_iconst (v := 0) hx hb d_M_insert_47 (by decide) ?_
            refine mu0_v (w := (wM cA am (nI n) (nI la) nu ki th ot vs av pl ps (nI T.length) ts 1 bk2 ce2 co2 ro2 le2 dn2 un2)) (va_runV (C := RM) (As := [.int (nI j), .int (nI i), .int 0]) (rest := []) ⟨hx, hb, hml, hown, hg⟩ (m_M_tellPlace l D cA H.size am (nI la) nu ki th ot vs av pl ps (nI T.length) ts 1 bk2 ce2 co2 ro2 le2 dn2 un2 n j i 0 (m_r (rp_ hs ac n) j) hn9 hj hlen hrl h40 (by omega)) (cwV 3 hg (gd_V ml_M_126 im_M_tellPlace sl_M_tellPlace ini_M cd_M_tellPlace) rfl rfl rfl (by decide +kernel) ⟨Nat.le_of_ble_eq_true rfl, Nat.le_of_ble_eq_true rfl⟩) (pv_m (va_recv (q0 := 0) (ci := 3) hK hP rfl rfl) hP hK hN hD) rfl rfl hl.1 rfl (lv_room (Nat.le_of_ble_eq_true rfl)) d_M_insert_48 ⟨Nat.zero_le _, Nat.zero_le _⟩) hP hD hS hA (fun u H locs hp hP hD hS => ?_)
            obtain ⟨hpl1, hpl2⟩ := hp
            have hP : va_P D cls_ (wM cA am (nI n) (nI la) nu ki th ot vs av u (upd ps n (nI (pl_ (m_r (rp_ hs ac n) j) i 0).length)) (nI T.length) ts 1 bk2 ce2 co2 ro2 le2 dn2 un2) H := hP
            have hD : va_D A (wM cA am (nI n) (nI la) nu ki th ot vs av u (upd ps n (nI (pl_ (m_r (rp_ hs ac n) j) i 0).length)) (nI T.length) ts 1 bk2 ce2 co2 ro2 le2 dn2 un2) := hD
            have hmh2 : mh_ hs ac n nu ki th ot vs av u (upd ps n (nI (pl_ (m_r (rp_ hs ac n) j) i 0).length)) := mh_pl hmh (fun i hi => (hH.2.2.1 i hi).1.2.2.2.2.2.2) hpl2 (fun i hi => pk_un (by omega))
            have hpx : s_k (nI (la + 1), 3, x9, 0, v.toInt64, pl_ (m_r (rp_ hs ac n) x9.toNatClampNeg) y9.toNatClampNeg 0) = 3 ∨ s_k (nI (la + 1), 3, x9, 0, v.toInt64, pl_ (m_r (rp_ hs ac n) x9.toNatClampNeg) y9.toNatClampNeg 0) = 5 → (upd ps n (nI (pl_ (m_r (rp_ hs ac n) j) i 0).length)) n = nI (s_p (nI (la + 1), 3, x9, 0, v.toInt64, pl_ (m_r (rp_ hs ac n) x9.toNatClampNeg) y9.toNatClampNeg 0)).length ∧ rl_ (fun j => u (40 * n + j)) (s_p (nI (la + 1), 3, x9, 0, v.toInt64, pl_ (m_r (rp_ hs ac n) x9.toNatClampNeg) y9.toNatClampNeg 0)) := fun _ => by
              show _ = nI (pl_ (m_r (rp_ hs ac n) x9.toNatClampNeg) y9.toNatClampNeg 0).length ∧ rl_ _ (pl_ (m_r (rp_ hs ac n) x9.toNatClampNeg) y9.toNatClampNeg 0)
              rw [hcl, hcy]
              exact ⟨pk_us, hpl1⟩
            refine lv_aload_n hx hb d_M_insert_51 rfl (lv_at hl 0 rfl) ?_
            refine lv_iconst (v := 3) hx hb d_M_insert_52 (by decide) ?_
            refine lv_iload_n hx hb d_M_insert_53 rfl (lv_at hl 1 rfl) ?_
            refine lv_iconst (v := 0) hx hb d_M_insert_54 (by decide) ?_
            refine lv_iload_n hx hb d_M_insert_55 rfl (lv_at hl 3 rfl) ?_
            refine lv_i2l (v := v.toInt64) hx hb d_M_insert_56 (rfl) ?_
            refine mu0_i (w := (wM cA am (nI n) (nI la) nu ki th ot vs av u (upd ps n (nI (pl_ (m_r (rp_ hs ac n) j) i 0).length)) (nI T.length) ts 1 bk2 ce2 co2 ro2 le2 dn2 un2)) (va_runV (C := RM) (As := [.int 3, .int x9, .int 0, .long v.toInt64]) (rest := []) ⟨hx, hb, hml, hown, hg⟩ (m_M_put l D cA H.size am nu ki th ot vs av u (upd ps n (nI (pl_ (m_r (rp_ hs ac n) j) i 0).length)) ts 1 bk2 ce2 co2 ro2 le2 dn2 un2 hs ac n la T 3 x9 0 v.toInt64 hn9) (cwV 4 hg (gd_V ml_M_113 im_M_put sl_M_put ini_M cd_M_put) rfl rfl rfl (by decide +kernel) ⟨Nat.le_of_ble_eq_true rfl, Nat.le_of_ble_eq_true rfl⟩) (pv_m (va_recv (q0 := 0) (ci := 3) hK hP rfl rfl) hP hK hN hD) rfl rfl hl.1 rfl (lv_room (Nat.le_of_ble_eq_true rfl)) d_M_insert_57 ⟨Nat.zero_le _, Nat.zero_le _⟩) hP hD hS hA (fun r57 u8 H locs hp hP hD hS => ?_)
            obtain ⟨hpe, hmI⟩ := mput (la := la) (bk := bk2) (ce := ce2) (co := co2) (ro := ro2) (le := le2) (dn := dn2) (un := un2) hmh2 hT (x := (nI (la + 1), 3, x9, 0, v.toInt64, pl_ (m_r (rp_ hs ac n) x9.toNatClampNeg) y9.toNatClampNeg 0)) rfl (im_123 _ (Or.inr (Or.inr rfl))) hpx
            have hP : va_P D cls_ (wM cA am (nI (n + 1)) (nI (la + 1)) (upd nu n (nI (la + 1))) (upd ki n 3) (upd th n x9) (upd ot n 0) (vp_updL vs n v.toInt64) (upd av n 1) u (upd ps n (nI (pl_ (m_r (rp_ hs ac n) j) i 0).length)) (nI T.length) ts 0 bk2 ce2 co2 ro2 le2 dn2 un2) H := hP
            have hD : va_D A (wM cA am (nI (n + 1)) (nI (la + 1)) (upd nu n (nI (la + 1))) (upd ki n 3) (upd th n x9) (upd ot n 0) (vp_updL vs n v.toInt64) (upd av n 1) u (upd ps n (nI (pl_ (m_r (rp_ hs ac n) j) i 0).length)) (nI T.length) ts 0 bk2 ce2 co2 ro2 le2 dn2 un2) := hD
            have hsp : sp_insert (hs, ac, n, la, T) x9 y9 v = (nI (la + 1), (va_up hs n (nI (la + 1), 3, x9, 0, v.toInt64, pl_ (m_r (rp_ hs ac n) x9.toNatClampNeg) y9.toNatClampNeg 0), va_up ac n true, n + 1, la + 1, T)) := by unfold sp_insert; exact (if_pos ⟨q8, hfull, hicg, hgood⟩).trans hpe
            exact W.iret hx hb hr (fun t ht9 hW => ⟨⟨_, (upd nu n (nI (la + 1)), upd ki n 3, upd th n x9, upd ot n 0, vp_updL vs n v.toInt64, upd av n 1, u, upd ps n (nI (pl_ (m_r (rp_ hs ac n) j) i 0).length), ts, 0, bk2, ce2, co2, ro2, le2, dn2, un2), rfl, ⟨by rw [hsp]; exact hp, by rw [hsp]; exact hmI⟩, by rw [ht9, hsp]; exact hP, by rw [hsp]; exact hD⟩, hS.F ht9⟩) hS.2.2 d_M_insert_60
          · skip
            have q39 := b2_n.mp h39
            have hfull : n = 200 := by simpa using q39
            refine lv_iconst (v := 0) hx hb d_M_insert_42 (by decide) ?_
            have hsp : sp_insert (hs, ac, n, la, T) x9 y9 v = (0, (hs, ac, n, la, T)) := by unfold sp_insert; exact if_neg (fun h => by first | exact absurd (q8.symm.trans h.1) (by decide) | exact absurd (hbad.symm.trans h.2.2.2) (by decide) | exact absurd h.2.2.1 hic | exact h.2.1 hfull)
            exact W.iret hx hb hr (fun t ht9 hW => ⟨⟨_, (nu, ki, th, ot, vs, av, pl, ps, ts, 1, bk2, ce2, co2, ro2, le2, dn2, un2), rfl, ⟨by rw [hsp], by rw [hsp]; exact ⟨hmh, hT, Or.inr ⟨rfl, hq⟩⟩⟩, by rw [ht9, hsp]; exact hP, by rw [hsp]; exact hD⟩, hS.F ht9⟩) hS.2.2 d_M_insert_43

set_option maxHeartbeats 4000000 in
set_option maxRecDepth 100000 in
theorem m_M_move (l : Launch) (D : va_G) (cA : Nat → ClassId) (sz : Nat) (am : Nat → Nat) (nu ki th ot : Nat → Int32) (vs : Nat → Int64) (av pl ps ts : Nat → Int32) (fr bk : Int32) (ce : Nat → Int32) (co : Nat → Int64) (ro le dn un : Nat → Int32) (hs : Nat → st_T) (ac : Nat → Bool) (n la : Nat) (T : List Int32) (x9 y9 z9 : Int32) (hI : mI_ (hs, ac, n, la, T) (nu, ki, th, ot, vs, av, pl, ps, ts, fr, bk, ce, co, ro, le, dn, un)) (haI : aI_ (hs, ac, n, la, T)) (hla9 : la + 1 < 100000) : Met l y_M_move (.code y_M_move c_M_move 5 (some .int) :: G_) ({ frames := 5, cells := 0, slots := 0, locals := 115 }) (va_Pc [.ref (am 0), .int x9, .int y9, .int z9] (pm_ D cA (wM cA am (nI n) (nI la) nu ki th ot vs av pl ps (nI T.length) ts fr bk ce co ro le dn un) sz)) (va_Qi (fun (r : Int32) (u : mc_T) => r = (sp_move (hs, ac, n, la, T) x9 y9 z9).1 ∧ mI_ ((sp_move (hs, ac, n, la, T) x9 y9 z9).2) u) (bw_ D (va_A (wM cA am (nI n) (nI la) nu ki th ot vs av pl ps (nI T.length) ts fr bk ce co ro le dn un) sz) (fun u => wY cA am ((sp_move (hs, ac, n, la, T) x9 y9 z9).2) u)) (va_A (wM cA am (nI n) (nI la) nu ki th ot vs av pl ps (nI T.length) ts fr bk ce co ro le dn un) sz)) 0 0 (va_A (wM cA am (nI n) (nI la) nu ki th ot vs av pl ps (nI T.length) ts fr bk ce co ro le dn un) sz) := by
  refine Met.ofW (cc := c_M_move) (maxL := 5) (ret := (some .int)) (by decide) rfl ?_
  intro p e s m args below meth c s₁ B hml hv
  obtain ⟨rfl, hsz, hP, ⟨hK, hN⟩, hD0⟩ := hv
  have hx := B.exec
  have hb := B.bytes
  have hr := B.returns
  have hts := atoms_spec (ws := (.code y_M_move c_M_move 5 (some .int) :: G_)) B.pre
  have hg : ∀ w ∈ G_, w.before ([.ref (am 0), .int x9, .int y9, .int z9] : List Value).toArray s = true := fun w h => hts w (List.mem_cons_of_mem _ h)
  have hown : s.vm.findClass RM = some m.cls := findClass_of_methodNamed B.named
  have hlocks := B.notSynchronized
  subst hsz
  have hD := hD0.self (sz := s.heap.size)
  generalize hAe : va_A (wM cA am (nI n) (nI la) nu ki th ot vs av pl ps (nI T.length) ts fr bk ce co ro le dn un) s.heap.size = A at hD ⊢
  have hA : ∀ q : Nat, s.heap.size ≤ q → A q := fun q h => by rw [← hAe]; exact Or.inr h
  have hS : va_S A s.heap s.heap [] := va_S.rf
  have hl := lv_entry ([.ref (am 0), .int x9, .int y9, .int z9]) (n := 5) (Nat.le_of_ble_eq_true rfl)
  rw [lg_entry_eq]
  generalize (lg_sl ([.ref (am 0), .int x9, .int y9, .int z9]) ++ List.replicate (5 - (lg_sl ([.ref (am 0), .int x9, .int y9, .int z9])).length) Slot.unset).toArray = ls at hl ⊢
  have hl : lv_has ls 5 [(0, .ref (am 0)), (1, .int x9), (2, .int y9), (3, .int z9)] := hl
  have hmh : mh_ hs ac n nu ki th ot vs av pl ps := hI.1
  have hT : rl_ ts T := hI.2.1
  have hH : hi_ hs n la := haI.1
  have hn2 : n ≤ 200 := hH.1
  have hT200 : T.length ≤ 200 := haI.2.2
  have hla2 : la < 100000 := hH.2.1
  have hw := rp_mw hH ac (Nat.le_refl n)
  refine lv_aload_n hx hb d_M_move_0 rfl (lv_at hl 0 rfl) ?_
  refine mu0_v (w := (wM cA am (nI n) (nI la) nu ki th ot vs av pl ps (nI T.length) ts fr bk ce co ro le dn un)) (va_runV (C := RM) (As := []) (rest := []) ⟨hx, hb, hml, hown, hg⟩ (m_M_recall l D cA s.heap.size am (nI la) nu ki th ot vs av pl ps (nI T.length) ts fr bk ce co ro le dn un hs ac n hmh hn2 la hH hI.2.2) (cwV 0 hg (gd_V ml_M_117 im_M_recall sl_M_recall ini_M cd_M_recall) rfl rfl rfl (by decide +kernel) ⟨Nat.le_of_ble_eq_true rfl, Nat.le_of_ble_eq_true rfl⟩) (pv_m (va_recv (q0 := 0) (ci := 3) hK hP rfl rfl) hP hK hN hD) rfl rfl hl.1 rfl (lv_room (Nat.le_of_ble_eq_true rfl)) d_M_move_1 ⟨Nat.zero_le _, Nat.zero_le _⟩) hP hD hS hA (fun u H locs hp hP hD hS => ?_)
  obtain ⟨⟨ce2, co2, ro2, le2, dn2, un2⟩, bk2⟩ := u
  have hq : mq_ hs ac n n (rp_ hs ac n) ce2 co2 ro2 le2 dn2 un2 := hp
  have hP : va_P D cls_ (wM cA am (nI n) (nI la) nu ki th ot vs av pl ps (nI T.length) ts 1 bk2 ce2 co2 ro2 le2 dn2 un2) H := hP
  have hD : va_D A (wM cA am (nI n) (nI la) nu ki th ot vs av pl ps (nI T.length) ts 1 bk2 ce2 co2 ro2 le2 dn2 un2) := hD
  refine lv_iload_n hx hb d_M_move_4 rfl (lv_at hl 1 rfl) ?_
  refine vp_callSi (va_Run.run (va_runS (As := [.int x9]) (rest := []) ⟨hx, hb, hml, hown, hg⟩ (m_M_isRow l D cA x9) (cwS 1 hg (gd_S ml_M_120 sm_M_isRow ini_M cd_M_isRow) rfl rfl rfl (by decide +kernel) ⟨Nat.le_of_ble_eq_true rfl, Nat.le_of_ble_eq_true rfl⟩) (ps_r (wp_iff.mpr (fun q h => absurd h List.not_mem_nil)) hK hN) rfl rfl hl.1 rfl (lv_room (Nat.le_of_ble_eq_true rfl)) d_M_move_5 ⟨Nat.zero_le _, Nat.zero_le _⟩)) (fun r5 e5 => ?_)
  subst e5
  refine lv_if_eq (tgt := 46) hx hb d_M_move_8 (by decide) (fun h8 => ?_) (fun h8 => ?_)
  · skip
    have q8 := b2_0.mp h8
    have hse : sp_elem (rp_ hs ac n) x9 y9 = 0 := by
      unfold sp_elem
      exact if_neg (fun h => by rw [q8] at h; exact absurd h.1 (by decide))
    refine lv_iconst (v := 0) hx hb d_M_move_46 (by decide) ?_
    have hsp : sp_move (hs, ac, n, la, T) x9 y9 z9 = (0, (hs, ac, n, la, T)) := by unfold sp_move; exact if_neg (fun h => by first | exact h.1 hse | exact absurd (hbad.symm.trans h.2.1) (by decide) | exact h.2.2 hfull)
    exact W.iret hx hb hr (fun t ht9 hW => ⟨⟨_, (nu, ki, th, ot, vs, av, pl, ps, ts, 1, bk2, ce2, co2, ro2, le2, dn2, un2), rfl, ⟨by rw [hsp], by rw [hsp]; exact ⟨hmh, hT, Or.inr ⟨rfl, hq⟩⟩⟩, by rw [ht9, hsp]; exact hP, by rw [hsp]; exact hD⟩, hS.F ht9⟩) hS.2.2 d_M_move_47
  · skip
    have q8 := b2_n.mp h8
    obtain ⟨j, hj, hxj⟩ := inx_n q8
    have hcl : x9.toNatClampNeg = j := by rw [hxj]; exact nI_clamp (by omega)
    have hlen := (hq.2.2.1 j hj).1
    have hrl := (hq.2.2.1 j hj).2
    have h40 := hw.1 j hj
    refine lv_iload_n hx hb d_M_move_11 rfl (lv_at hl 2 rfl) ?_
    refine lv_if_lt (tgt := 46) hx hb d_M_move_12 (by decide) (fun h12 => ?_) (fun h12 => ?_)
    · skip
      have hy9 : inx_ y9 (m_r (rp_ hs ac n) j).length = false := inx_1 h12
      have hse : sp_elem (rp_ hs ac n) x9 y9 = 0 := by
        unfold sp_elem
        exact if_neg (fun h => by rw [hcl, hy9] at h; exact absurd h.2 (by decide))
      refine lv_iconst (v := 0) hx hb d_M_move_46 (by decide) ?_
      have hsp : sp_move (hs, ac, n, la, T) x9 y9 z9 = (0, (hs, ac, n, la, T)) := by unfold sp_move; exact if_neg (fun h => by first | exact h.1 hse | exact absurd (hbad.symm.trans h.2.1) (by decide) | exact h.2.2 hfull)
      exact W.iret hx hb hr (fun t ht9 hW => ⟨⟨_, (nu, ki, th, ot, vs, av, pl, ps, ts, 1, bk2, ce2, co2, ro2, le2, dn2, un2), rfl, ⟨by rw [hsp], by rw [hsp]; exact ⟨hmh, hT, Or.inr ⟨rfl, hq⟩⟩⟩, by rw [ht9, hsp]; exact hP, by rw [hsp]; exact hD⟩, hS.F ht9⟩) hS.2.2 d_M_move_47
    · skip
      refine lv_iload_n hx hb d_M_move_15 rfl (lv_at hl 2 rfl) ?_
      refine lv_aload_n hx hb d_M_move_16 rfl (lv_at hl 0 rfl) ?_
      refine va_get (D := D) (ci := 3) (v := .ref (am 13)) (C := RM) (T := TM) (N := 20) hx hb hg inM hown hK hP 0 rfl rfl 17 (by decide) (hg _ fl_M_56) (fun _ h9 => h9) rfl d_M_move_17 ?_
      refine lv_iload_n hx hb d_M_move_20 rfl (lv_at hl 1 rfl) ?_
      refine toi_ (y := nI j) (hxj) ?_
      refine va_iald hx hb hK hP 13 0 rfl rfl (vp_in_nI (n := j) (N := 3) (by omega) (by omega)) d_M_move_21 ?_
      refine toi_ (y := le2 j) (by rw [nI_clamp (by omega)]) ?_
      refine toi_ (y := nI (m_r (rp_ hs ac n) j).length) (hlen) ?_
      refine lv_icmp_ge (tgt := 46) hx hb d_M_move_22 (by decide) (fun h22 => ?_) (fun h22 => ?_)
      · skip
        have hy9 : inx_ y9 (m_r (rp_ hs ac n) j).length = false := inx_2 (by omega) h22
        have hse : sp_elem (rp_ hs ac n) x9 y9 = 0 := by
          unfold sp_elem
          exact if_neg (fun h => by rw [hcl, hy9] at h; exact absurd h.2 (by decide))
        refine lv_iconst (v := 0) hx hb d_M_move_46 (by decide) ?_
        have hsp : sp_move (hs, ac, n, la, T) x9 y9 z9 = (0, (hs, ac, n, la, T)) := by unfold sp_move; exact if_neg (fun h => by first | exact h.1 hse | exact absurd (hbad.symm.trans h.2.1) (by decide) | exact h.2.2 hfull)
        exact W.iret hx hb hr (fun t ht9 hW => ⟨⟨_, (nu, ki, th, ot, vs, av, pl, ps, ts, 1, bk2, ce2, co2, ro2, le2, dn2, un2), rfl, ⟨by rw [hsp], by rw [hsp]; exact ⟨hmh, hT, Or.inr ⟨rfl, hq⟩⟩⟩, by rw [ht9, hsp]; exact hP, by rw [hsp]; exact hD⟩, hS.F ht9⟩) hS.2.2 d_M_move_47
      · skip
        have hy9 : inx_ y9 (m_r (rp_ hs ac n) j).length = true := inx_3 (by omega) h12 h22
        obtain ⟨i, hi, hyi⟩ := inx_n hy9
        have hel : sp_elem (rp_ hs ac n) x9 y9 = ro2 (40 * j + i) := by
          unfold sp_elem
          rw [if_pos ⟨q8, by rw [hcl]; exact hy9⟩, hcl, hyi, nI_clamp (by omega), List.getD_eq_getElem?_getD, hrl i hi]
          rfl
        have hmem : sp_elem (rp_ hs ac n) x9 y9 ∈ m_r (rp_ hs ac n) j := by rw [hel]; exact List.mem_of_getElem? (hrl i hi)
        have hme : sp_elem (rp_ hs ac n) x9 y9 ∈ m_e (rp_ hs ac n) := (rp_mb hH ac (Nat.le_refl n)).2.2.2.2.2.1 j _ hmem
        have hne : ¬ sp_elem (rp_ hs ac n) x9 y9 = 0 := fun h9 => by
          have h8 := hw.2.2.2.2.2.2.1 _ hme
          rw [h9] at h8
          exact absurd h8 (by decide)
        refine lv_iload_n hx hb d_M_move_25 rfl (lv_at hl 3 rfl) ?_
        refine lv_if_lt (tgt := 46) hx hb d_M_move_26 (by decide) (fun h26 => ?_) (fun h26 => ?_)
        · skip
          have hbad : inx_ z9 (m_r (rp_ hs ac n) x9.toNatClampNeg).length = false := inx_1 h26
          refine lv_iconst (v := 0) hx hb d_M_move_46 (by decide) ?_
          have hsp : sp_move (hs, ac, n, la, T) x9 y9 z9 = (0, (hs, ac, n, la, T)) := by unfold sp_move; exact if_neg (fun h => by first | exact h.1 hse | exact absurd (hbad.symm.trans h.2.1) (by decide) | exact h.2.2 hfull)
          exact W.iret hx hb hr (fun t ht9 hW => ⟨⟨_, (nu, ki, th, ot, vs, av, pl, ps, ts, 1, bk2, ce2, co2, ro2, le2, dn2, un2), rfl, ⟨by rw [hsp], by rw [hsp]; exact ⟨hmh, hT, Or.inr ⟨rfl, hq⟩⟩⟩, by rw [ht9, hsp]; exact hP, by rw [hsp]; exact hD⟩, hS.F ht9⟩) hS.2.2 d_M_move_47
        · skip
          refine lv_iload_n hx hb d_M_move_29 rfl (lv_at hl 3 rfl) ?_
          refine lv_aload_n hx hb d_M_move_30 rfl (lv_at hl 0 rfl) ?_
          refine va_get (D := D) (ci := 3) (v := .ref (am 13)) (C := RM) (T := TM) (N := 20) hx hb hg inM hown hK hP 0 rfl rfl 17 (by decide) (hg _ fl_M_56) (fun _ h9 => h9) rfl d_M_move_31 ?_
          refine lv_iload_n hx hb d_M_move_34 rfl (lv_at hl 1 rfl) ?_
          refine toi_ (y := nI j) (hxj) ?_
          refine va_iald hx hb hK hP 13 0 rfl rfl (vp_in_nI (n := j) (N := 3) (by omega) (by omega)) d_M_move_35 ?_
          refine toi_ (y := le2 j) (by rw [nI_clamp (by omega)]) ?_
          refine toi_ (y := nI (m_r (rp_ hs ac n) j).length) (hlen) ?_
          refine lv_icmp_ge (tgt := 46) hx hb d_M_move_36 (by decide) (fun h36 => ?_) (fun h36 => ?_)
          · skip
            have hbad : inx_ z9 (m_r (rp_ hs ac n) x9.toNatClampNeg).length = false := by rw [hcl]; exact inx_2 (by omega) h36
            refine lv_iconst (v := 0) hx hb d_M_move_46 (by decide) ?_
            have hsp : sp_move (hs, ac, n, la, T) x9 y9 z9 = (0, (hs, ac, n, la, T)) := by unfold sp_move; exact if_neg (fun h => by first | exact h.1 hse | exact absurd (hbad.symm.trans h.2.1) (by decide) | exact h.2.2 hfull)
            exact W.iret hx hb hr (fun t ht9 hW => ⟨⟨_, (nu, ki, th, ot, vs, av, pl, ps, ts, 1, bk2, ce2, co2, ro2, le2, dn2, un2), rfl, ⟨by rw [hsp], by rw [hsp]; exact ⟨hmh, hT, Or.inr ⟨rfl, hq⟩⟩⟩, by rw [ht9, hsp]; exact hP, by rw [hsp]; exact hD⟩, hS.F ht9⟩) hS.2.2 d_M_move_47
          · skip
            have hz9 : inx_ z9 (m_r (rp_ hs ac n) j).length = true := inx_3 (by omega) h26 h36
            have hgood : inx_ z9 (m_r (rp_ hs ac n) x9.toNatClampNeg).length = true := by rw [hcl]; exact hz9
            obtain ⟨i3, hi3, hzi⟩ := inx_n hz9
            have hcz : z9.toNatClampNeg = i3 := by rw [hzi]; exact nI_clamp (by omega)
            refine lv_aload_n hx hb d_M_move_39 rfl (lv_at hl 0 rfl) ?_
            refine vp_callSi (va_Run.run (va_runV (C := RM) (As := []) (rest := []) ⟨hx, hb, hml, hown, hg⟩ (m_M_isFull l D cA am (nI la) nu ki th ot vs av pl ps (nI T.length) ts 1 bk2 ce2 co2 ro2 le2 dn2 un2 n hn2) (cwV 0 hg (gd_V ml_M_109 im_M_isFull sl_M_isFull ini_M cd_M_isFull) rfl rfl rfl (by decide +kernel) ⟨Nat.le_of_ble_eq_true rfl, Nat.le_of_ble_eq_true rfl⟩) (pv_r (va_recv (q0 := 0) (ci := 3) hK hP rfl rfl) (hP) hK hN) rfl rfl hl.1 rfl (lv_room (Nat.le_of_ble_eq_true rfl)) d_M_move_40 ⟨Nat.zero_le _, Nat.zero_le _⟩)) (fun r40 e40 => ?_)
            subst e40
            refine lv_if_eq (tgt := 48) hx hb d_M_move_43 (by decide) (fun h43 => ?_) (fun h43 => ?_)
            · skip
              have q43 := b2_0.mp h43
              have hfull : ¬ n = 200 := by simpa using q43
              have hn9 : n < 200 := by omega
              refine lv_aload_n hx hb d_M_move_48 rfl (lv_at hl 0 rfl) ?_
              refine va_get (D := D) (ci := 3) (v := .ref (am 12)) (C := RM) (T := TM) (N := 20) hx hb hg inM hown hK hP 0 rfl rfl 16 (by decide) (hg _ fl_M_53) (fun _ h9 => h9) rfl d_M_move_49 ?_
              refine lv_bipush (v := 40) hx hb d_M_move_52 (by decide) ?_
              refine lv_iload_n hx hb d_M_move_54 rfl (lv_at hl 1 rfl) ?_
              refine toi_ (y := nI j) (hxj) ?_
              refine lv_imul hx hb d_M_move_55 ?_
              refine toi_ (y := nI (40 * j)) (pk_mul 40 j) ?_
              refine lv_iload_n hx hb d_M_move_56 rfl (lv_at hl 2 rfl) ?_
              refine toi_ (y := nI i) (hyi) ?_
              refine lv_iadd hx hb d_M_move_57 ?_
              refine toi_ (y := nI (40 * j + i)) (nI_add _ _) ?_
              refine va_iald hx hb hK hP 12 0 rfl rfl (vp_in_nI (n := 40 * j + i) (N := 120) (by omega) (by omega)) d_M_move_58 ?_
              refine toi_ (y := ro2 (40 * j + i)) (by rw [nI_clamp (by omega)]) ?_
              refine toi_ (y := sp_elem (rp_ hs ac n) x9 y9) (hel.symm) ?_
              refine lv_istore (lv' := [(4, .int (sp_elem (rp_ hs ac n) x9 y9)), (0, .ref (am 0)), (1, .int x9), (2, .int y9), (3, .int z9)]) hx hb d_M_move_59 hl (by decide) rfl (fun ls hl => ?_)
              refine lv_aload_n hx hb d_M_move_61 rfl (lv_at hl 1 rfl) ?_
              refine lv_iload_n hx hb d_M_move_62 rfl (lv_at hl 2 rfl) ?_
              refine toi_ (y := nI j) (hxj) ?_
              refine lv_iload_n hx hb d_M_move_63 rfl (lv_at hl 4 rfl) ?_
              refine toi_ (y := nI i3) (hzi) ?_
              refine lv_iload hx hb d_M_move_64 (lv_at hl 0 rfl) ?_
              refine mu0_v (w := (wM cA am (nI n) (nI la) nu ki th ot vs av pl ps (nI T.length) ts 1 bk2 ce2 co2 ro2 le2 dn2 un2)) (va_runV (C := RM) (As := [.int (nI j), .int (nI i3), .int (sp_elem (rp_ hs ac n) x9 y9)]) (rest := []) ⟨hx, hb, hml, hown, hg⟩ (m_M_tellPlace l D cA H.size am (nI la) nu ki th ot vs av pl ps (nI T.length) ts 1 bk2 ce2 co2 ro2 le2 dn2 un2 n j i3 (sp_elem (rp_ hs ac n) x9 y9) (m_r (rp_ hs ac n) j) hn9 hj hlen hrl h40 (by omega)) (cwV 3 hg (gd_V ml_M_126 im_M_tellPlace sl_M_tellPlace ini_M cd_M_tellPlace) rfl rfl rfl (by decide +kernel) ⟨Nat.le_of_ble_eq_true rfl, Nat.le_of_ble_eq_true rfl⟩) (pv_m (va_recv (q0 := 0) (ci := 3) hK hP rfl rfl) hP hK hN hD) rfl rfl hl.1 rfl (lv_room (Nat.le_of_ble_eq_true rfl)) d_M_move_66 ⟨Nat.zero_le _, Nat.zero_le _⟩) hP hD hS hA (fun u H locs hp hP hD hS => ?_)
              obtain ⟨hpl1, hpl2⟩ := hp
              have hP : va_P D cls_ (wM cA am (nI n) (nI la) nu ki th ot vs av u (upd ps n (nI (pl_ (m_r (rp_ hs ac n) j) i3 (sp_elem (rp_ hs ac n) x9 y9)).length)) (nI T.length) ts 1 bk2 ce2 co2 ro2 le2 dn2 un2) H := hP
              have hD : va_D A (wM cA am (nI n) (nI la) nu ki th ot vs av u (upd ps n (nI (pl_ (m_r (rp_ hs ac n) j) i3 (sp_elem (rp_ hs ac n) x9 y9)).length)) (nI T.length) ts 1 bk2 ce2 co2 ro2 le2 dn2 un2) := hD
              have hmh2 : mh_ hs ac n nu ki th ot vs av u (upd ps n (nI (pl_ (m_r (rp_ hs ac n) j) i3 (sp_elem (rp_ hs ac n) x9 y9)).length)) := mh_pl hmh (fun i hi => (hH.2.2.1 i hi).1.2.2.2.2.2.2) hpl2 (fun i hi => pk_un (by omega))
              have hpx : s_k (nI (la + 1), 5, x9, sp_elem (rp_ hs ac n) x9 y9, 0, pl_ (m_r (rp_ hs ac n) x9.toNatClampNeg) z9.toNatClampNeg (sp_elem (rp_ hs ac n) x9 y9)) = 3 ∨ s_k (nI (la + 1), 5, x9, sp_elem (rp_ hs ac n) x9 y9, 0, pl_ (m_r (rp_ hs ac n) x9.toNatClampNeg) z9.toNatClampNeg (sp_elem (rp_ hs ac n) x9 y9)) = 5 → (upd ps n (nI (pl_ (m_r (rp_ hs ac n) j) i3 (sp_elem (rp_ hs ac n) x9 y9)).length)) n = nI (s_p (nI (la + 1), 5, x9, sp_elem (rp_ hs ac n) x9 y9, 0, pl_ (m_r (rp_ hs ac n) x9.toNatClampNeg) z9.toNatClampNeg (sp_elem (rp_ hs ac n) x9 y9))).length ∧ rl_ (fun j => u (40 * n + j)) (s_p (nI (la + 1), 5, x9, sp_elem (rp_ hs ac n) x9 y9, 0, pl_ (m_r (rp_ hs ac n) x9.toNatClampNeg) z9.toNatClampNeg (sp_elem (rp_ hs ac n) x9 y9))) := fun _ => by
                show _ = nI (pl_ (m_r (rp_ hs ac n) x9.toNatClampNeg) z9.toNatClampNeg (sp_elem (rp_ hs ac n) x9 y9)).length ∧ rl_ _ (pl_ (m_r (rp_ hs ac n) x9.toNatClampNeg) z9.toNatClampNeg (sp_elem (rp_ hs ac n) x9 y9))
                rw [hcl, hcz]
                exact ⟨pk_us, hpl1⟩
              refine lv_aload_n hx hb d_M_move_69 rfl (lv_at hl 1 rfl) ?_
              refine lv_iconst (v := 5) hx hb d_M_move_70 (by decide) ?_
              refine lv_iload_n hx hb d_M_move_71 rfl (lv_at hl 2 rfl) ?_
              refine lv_iload hx hb d_M_move_72 (lv_at hl 0 rfl) ?_
              refine lv_lconst (v := 0) hx hb d_M_move_74 (by decide) ?_
              refine mu0_i (w := (wM cA am (nI n) (nI la) nu ki th ot vs av u (upd ps n (nI (pl_ (m_r (rp_ hs ac n) j) i3 (sp_elem (rp_ hs ac n) x9 y9)).length)) (nI T.length) ts 1 bk2 ce2 co2 ro2 le2 dn2 un2)) (va_runV (C := RM) (As := [.int 5, .int x9, .int (sp_elem (rp_ hs ac n) x9 y9), .long 0]) (rest := []) ⟨hx, hb, hml, hown, hg⟩ (m_M_put l D cA H.size am nu ki th ot vs av u (upd ps n (nI (pl_ (m_r (rp_ hs ac n) j) i3 (sp_elem (rp_ hs ac n) x9 y9)).length)) ts 1 bk2 ce2 co2 ro2 le2 dn2 un2 hs ac n la T 5 x9 (sp_elem (rp_ hs ac n) x9 y9) 0 hn9) (cwV 4 hg (gd_V ml_M_113 im_M_put sl_M_put ini_M cd_M_put) rfl rfl rfl (by decide +kernel) ⟨Nat.le_of_ble_eq_true rfl, Nat.le_of_ble_eq_true rfl⟩) (pv_m (va_recv (q0 := 0) (ci := 3) hK hP rfl rfl) hP hK hN hD) rfl rfl hl.1 rfl (lv_room (Nat.le_of_ble_eq_true rfl)) d_M_move_75 ⟨Nat.zero_le _, Nat.zero_le _⟩) hP hD hS hA (fun r75 u8 H locs hp hP hD hS => ?_)
              obtain ⟨hpe, hmI⟩ := mput (la := la) (bk := bk2) (ce := ce2) (co := co2) (ro := ro2) (le := le2) (dn := dn2) (un := un2) hmh2 hT (x := (nI (la + 1), 5, x9, sp_elem (rp_ hs ac n) x9 y9, 0, pl_ (m_r (rp_ hs ac n) x9.toNatClampNeg) z9.toNatClampNeg (sp_elem (rp_ hs ac n) x9 y9))) rfl ((im_45 _ (Or.inr rfl)).trans (decide_eq_false (fun h => h hme))) hpx
              have hP : va_P D cls_ (wM cA am (nI (n + 1)) (nI (la + 1)) (upd nu n (nI (la + 1))) (upd ki n 5) (upd th n x9) (upd ot n (sp_elem (rp_ hs ac n) x9 y9)) (vp_updL vs n 0) (upd av n 1) u (upd ps n (nI (pl_ (m_r (rp_ hs ac n) j) i3 (sp_elem (rp_ hs ac n) x9 y9)).length)) (nI T.length) ts 0 bk2 ce2 co2 ro2 le2 dn2 un2) H := hP
              have hD : va_D A (wM cA am (nI (n + 1)) (nI (la + 1)) (upd nu n (nI (la + 1))) (upd ki n 5) (upd th n x9) (upd ot n (sp_elem (rp_ hs ac n) x9 y9)) (vp_updL vs n 0) (upd av n 1) u (upd ps n (nI (pl_ (m_r (rp_ hs ac n) j) i3 (sp_elem (rp_ hs ac n) x9 y9)).length)) (nI T.length) ts 0 bk2 ce2 co2 ro2 le2 dn2 un2) := hD
              have hsp : sp_move (hs, ac, n, la, T) x9 y9 z9 = (nI (la + 1), (va_up hs n (nI (la + 1), 5, x9, sp_elem (rp_ hs ac n) x9 y9, 0, pl_ (m_r (rp_ hs ac n) x9.toNatClampNeg) z9.toNatClampNeg (sp_elem (rp_ hs ac n) x9 y9)), va_up ac n true, n + 1, la + 1, T)) := by unfold sp_move; exact (if_pos ⟨hne, hgood, hfull⟩).trans hpe
              exact W.iret hx hb hr (fun t ht9 hW => ⟨⟨_, (upd nu n (nI (la + 1)), upd ki n 5, upd th n x9, upd ot n (sp_elem (rp_ hs ac n) x9 y9), vp_updL vs n 0, upd av n 1, u, upd ps n (nI (pl_ (m_r (rp_ hs ac n) j) i3 (sp_elem (rp_ hs ac n) x9 y9)).length), ts, 0, bk2, ce2, co2, ro2, le2, dn2, un2), rfl, ⟨by rw [hsp]; exact hp, by rw [hsp]; exact hmI⟩, by rw [ht9, hsp]; exact hP, by rw [hsp]; exact hD⟩, hS.F ht9⟩) hS.2.2 d_M_move_78
            · skip
              have q43 := b2_n.mp h43
              have hfull : n = 200 := by simpa using q43
              refine lv_iconst (v := 0) hx hb d_M_move_46 (by decide) ?_
              have hsp : sp_move (hs, ac, n, la, T) x9 y9 z9 = (0, (hs, ac, n, la, T)) := by unfold sp_move; exact if_neg (fun h => by first | exact h.1 hse | exact absurd (hbad.symm.trans h.2.1) (by decide) | exact h.2.2 hfull)
              exact W.iret hx hb hr (fun t ht9 hW => ⟨⟨_, (nu, ki, th, ot, vs, av, pl, ps, ts, 1, bk2, ce2, co2, ro2, le2, dn2, un2), rfl, ⟨by rw [hsp], by rw [hsp]; exact ⟨hmh, hT, Or.inr ⟨rfl, hq⟩⟩⟩, by rw [ht9, hsp]; exact hP, by rw [hsp]; exact hD⟩, hS.F ht9⟩) hS.2.2 d_M_move_47
