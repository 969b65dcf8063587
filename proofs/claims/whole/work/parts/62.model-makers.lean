/-! The reference: set, add, node, unlink, link -/
set_option maxHeartbeats 4000000 in
set_option maxRecDepth 100000 in
theorem m_M_set (l : Launch) (D : va_G) (cA : Nat → ClassId) (sz : Nat) (am : Nat → Nat) (nu ki th ot : Nat → Int32) (vs : Nat → Int64) (av pl ps ts : Nat → Int32) (fr bk : Int32) (ce : Nat → Int32) (co : Nat → Int64) (ro le dn un : Nat → Int32) (hs : Nat → st_T) (ac : Nat → Bool) (n la : Nat) (T : List Int32) (c9 v : Int32) (hI : mI_ (hs, ac, n, la, T) (nu, ki, th, ot, vs, av, pl, ps, ts, fr, bk, ce, co, ro, le, dn, un)) (haI : aI_ (hs, ac, n, la, T)) (hla9 : la + 1 < 100000) : Met l y_M_set (.code y_M_set c_M_set 3 (some .int) :: G_) ({ frames := 1, cells := 0, slots := 0, locals := 25 }) (va_Pc [.ref (am 0), .int c9, .int v] (pm_ D cA (wM cA am (nI n) (nI la) nu ki th ot vs av pl ps (nI T.length) ts fr bk ce co ro le dn un) sz)) (va_Qi (fun (r : Int32) (u : mc_T) => r = (sp_set (hs, ac, n, la, T) c9 v).1 ∧ mI_ ((sp_set (hs, ac, n, la, T) c9 v).2) u) (bw_ D (va_A (wM cA am (nI n) (nI la) nu ki th ot vs av pl ps (nI T.length) ts fr bk ce co ro le dn un) sz) (fun u => wY cA am ((sp_set (hs, ac, n, la, T) c9 v).2) u)) (va_A (wM cA am (nI n) (nI la) nu ki th ot vs av pl ps (nI T.length) ts fr bk ce co ro le dn un) sz)) 0 0 (va_A (wM cA am (nI n) (nI la) nu ki th ot vs av pl ps (nI T.length) ts fr bk ce co ro le dn un) sz) := by
  refine Met.ofW (cc := c_M_set) (maxL := 3) (ret := (some .int)) (by decide) rfl ?_
  intro p e s m args below meth c s₁ B hml hv
  obtain ⟨rfl, hsz, hP, ⟨hK, hN⟩, hD0⟩ := hv
  have hx := B.exec
  have hb := B.bytes
  have hr := B.returns
  have hts := atoms_spec (ws := (.code y_M_set c_M_set 3 (some .int) :: G_)) B.pre
  have hg : ∀ w ∈ G_, w.before ([.ref (am 0), .int c9, .int v] : List Value).toArray s = true := fun w h => hts w (List.mem_cons_of_mem _ h)
  have hown : s.vm.findClass RM = some m.cls := findClass_of_methodNamed B.named
  have hlocks := B.notSynchronized
  subst hsz
  have hD := hD0.self (sz := s.heap.size)
  generalize hAe : va_A (wM cA am (nI n) (nI la) nu ki th ot vs av pl ps (nI T.length) ts fr bk ce co ro le dn un) s.heap.size = A at hD ⊢
  have hA : ∀ q : Nat, s.heap.size ≤ q → A q := fun q h => by rw [← hAe]; exact Or.inr h
  have hS : va_S A s.heap s.heap [] := va_S.rf
  have hl := lv_entry ([.ref (am 0), .int c9, .int v]) (n := 3) (Nat.le_of_ble_eq_true rfl)
  rw [lg_entry_eq]
  generalize (lg_sl ([.ref (am 0), .int c9, .int v]) ++ List.replicate (3 - (lg_sl ([.ref (am 0), .int c9, .int v])).length) Slot.unset).toArray = ls at hl ⊢
  have hl : lv_has ls 3 [(0, .ref (am 0)), (1, .int c9), (2, .int v)] := hl
  have hmh : mh_ hs ac n nu ki th ot vs av pl ps := hI.1
  have hT : rl_ ts T := hI.2.1
  have hH : hi_ hs n la := haI.1
  have hn2 : n ≤ 200 := hH.1
  have hT200 : T.length ≤ 200 := haI.2.2
  have hla2 : la < 100000 := hH.2.1
  have hw := rp_mw hH ac (Nat.le_refl n)
  refine lv_iload_n hx hb d_M_set_0 rfl (lv_at hl 1 rfl) ?_
  refine lv_if_lt (tgt := 17) hx hb d_M_set_1 (by decide) (fun h1 => ?_) (fun h1 => ?_)
  · skip
    have hx9 : inx_ c9 8 = false := inx_1 h1
    refine lv_iconst (v := 0) hx hb d_M_set_17 (by decide) ?_
    have hsp : sp_set (hs, ac, n, la, T) c9 v = (0, (hs, ac, n, la, T)) := by unfold sp_set; exact if_neg (fun h => by first | exact absurd (hx9.symm.trans h.1) (by decide) | exact h.2 hfull)
    exact W.iret hx hb hr (fun t ht9 hW => ⟨⟨_, (nu, ki, th, ot, vs, av, pl, ps, ts, fr, bk, ce, co, ro, le, dn, un), rfl, ⟨by rw [hsp], by rw [hsp]; exact hI⟩, by rw [ht9, hsp]; exact hP, by rw [hsp]; exact hD⟩, hS.F ht9⟩) hS.2.2 d_M_set_18
  · skip
    refine lv_iload_n hx hb d_M_set_4 rfl (lv_at hl 1 rfl) ?_
    refine lv_bipush (v := 7) hx hb d_M_set_5 (by decide) ?_
    refine toi_ (y := nI 7) (rfl) ?_
    refine lv_icmp_gt (tgt := 17) hx hb d_M_set_7 (by decide) (fun h7 => ?_) (fun h7 => ?_)
    · skip
      have hx9 : inx_ c9 8 = false := inx_4 (by omega) h7
      refine lv_iconst (v := 0) hx hb d_M_set_17 (by decide) ?_
      have hsp : sp_set (hs, ac, n, la, T) c9 v = (0, (hs, ac, n, la, T)) := by unfold sp_set; exact if_neg (fun h => by first | exact absurd (hx9.symm.trans h.1) (by decide) | exact h.2 hfull)
      exact W.iret hx hb hr (fun t ht9 hW => ⟨⟨_, (nu, ki, th, ot, vs, av, pl, ps, ts, fr, bk, ce, co, ro, le, dn, un), rfl, ⟨by rw [hsp], by rw [hsp]; exact hI⟩, by rw [ht9, hsp]; exact hP, by rw [hsp]; exact hD⟩, hS.F ht9⟩) hS.2.2 d_M_set_18
    · skip
      have hx8 : inx_ c9 8 = true := inx_5 (by omega) h1 h7
      refine lv_aload_n hx hb d_M_set_10 rfl (lv_at hl 0 rfl) ?_
      refine vp_callSi (va_Run.run (va_runV (C := RM) (As := []) (rest := []) ⟨hx, hb, hml, hown, hg⟩ (m_M_isFull l D cA am (nI la) nu ki th ot vs av pl ps (nI T.length) ts fr bk ce co ro le dn un n hn2) (cwV 0 hg (gd_V ml_M_109 im_M_isFull sl_M_isFull ini_M cd_M_isFull) rfl rfl rfl (by decide +kernel) ⟨Nat.le_of_ble_eq_true rfl, Nat.le_of_ble_eq_true rfl⟩) (pv_r (va_recv (q0 := 0) (ci := 3) hK hP rfl rfl) (hP) hK hN) rfl rfl hl.1 rfl (lv_room (Nat.le_of_ble_eq_true rfl)) d_M_set_11 ⟨Nat.zero_le _, Nat.zero_le _⟩)) (fun r11 e11 => ?_)
      subst e11
      refine lv_if_eq (tgt := 19) hx hb d_M_set_14 (by decide) (fun h14 => ?_) (fun h14 => ?_)
      · skip
        have q14 := b2_0.mp h14
        have hfull : ¬ n = 200 := by simpa using q14
        have hn9 : n < 200 := by omega
        refine lv_aload_n hx hb d_M_set_19 rfl (lv_at hl 0 rfl) ?_
        refine lv_iconst (v := 1) hx hb d_M_set_20 (by decide) ?_
        refine lv_iload_n hx hb d_M_set_21 rfl (lv_at hl 1 rfl) ?_
        refine lv_iconst (v := 0) hx hb d_M_set_22 (by decide) ?_
        refine lv_iload_n hx hb d_M_set_23 rfl (lv_at hl 2 rfl) ?_
        refine lv_i2l (v := v.toInt64) hx hb d_M_set_24 (rfl) ?_
        refine mu0_i (w := (wM cA am (nI n) (nI la) nu ki th ot vs av pl ps (nI T.length) ts fr bk ce co ro le dn un)) (va_runV (C := RM) (As := [.int 1, .int c9, .int 0, .long v.toInt64]) (rest := []) ⟨hx, hb, hml, hown, hg⟩ (m_M_put l D cA s.heap.size am nu ki th ot vs av pl ps ts fr bk ce co ro le dn un hs ac n la T 1 c9 0 v.toInt64 hn9) (cwV 4 hg (gd_V ml_M_113 im_M_put sl_M_put ini_M cd_M_put) rfl rfl rfl (by decide +kernel) ⟨Nat.le_of_ble_eq_true rfl, Nat.le_of_ble_eq_true rfl⟩) (pv_m (va_recv (q0 := 0) (ci := 3) hK hP rfl rfl) hP hK hN hD) rfl rfl hl.1 rfl (lv_room (Nat.le_of_ble_eq_true rfl)) d_M_set_25 ⟨Nat.zero_le _, Nat.zero_le _⟩) hP hD hS hA (fun r25 u8 H locs hp hP hD hS => ?_)
        obtain ⟨hpe, hmI⟩ := mput (la := la) (bk := bk) (ce := ce) (co := co) (ro := ro) (le := le) (dn := dn) (un := un) hmh hT (x := (nI (la + 1), 1, c9, 0, v.toInt64, [])) rfl (im_123 _ (Or.inl rfl)) (fun h => by rcases h with h | h; exact kn_ (show (1 : Int32) = 3 from h) (by decide); exact kn_ (show (1 : Int32) = 5 from h) (by decide))
        have hP : va_P D cls_ (wM cA am (nI (n + 1)) (nI (la + 1)) (upd nu n (nI (la + 1))) (upd ki n 1) (upd th n c9) (upd ot n 0) (vp_updL vs n v.toInt64) (upd av n 1) pl ps (nI T.length) ts 0 bk ce co ro le dn un) H := hP
        have hD : va_D A (wM cA am (nI (n + 1)) (nI (la + 1)) (upd nu n (nI (la + 1))) (upd ki n 1) (upd th n c9) (upd ot n 0) (vp_updL vs n v.toInt64) (upd av n 1) pl ps (nI T.length) ts 0 bk ce co ro le dn un) := hD
        have hsp : sp_set (hs, ac, n, la, T) c9 v = (nI (la + 1), (va_up hs n (nI (la + 1), 1, c9, 0, v.toInt64, []), va_up ac n true, n + 1, la + 1, T)) := by unfold sp_set; exact (if_pos ⟨hx8, hfull⟩).trans hpe
        exact W.iret hx hb hr (fun t ht9 hW => ⟨⟨_, (upd nu n (nI (la + 1)), upd ki n 1, upd th n c9, upd ot n 0, vp_updL vs n v.toInt64, upd av n 1, pl, ps, ts, 0, bk, ce, co, ro, le, dn, un), rfl, ⟨by rw [hsp]; exact hp, by rw [hsp]; exact hmI⟩, by rw [ht9, hsp]; exact hP, by rw [hsp]; exact hD⟩, hS.F ht9⟩) hS.2.2 d_M_set_28
      · skip
        have q14 := b2_n.mp h14
        have hfull : n = 200 := by simpa using q14
        refine lv_iconst (v := 0) hx hb d_M_set_17 (by decide) ?_
        have hsp : sp_set (hs, ac, n, la, T) c9 v = (0, (hs, ac, n, la, T)) := by unfold sp_set; exact if_neg (fun h => by first | exact absurd (hx9.symm.trans h.1) (by decide) | exact h.2 hfull)
        exact W.iret hx hb hr (fun t ht9 hW => ⟨⟨_, (nu, ki, th, ot, vs, av, pl, ps, ts, fr, bk, ce, co, ro, le, dn, un), rfl, ⟨by rw [hsp], by rw [hsp]; exact hI⟩, by rw [ht9, hsp]; exact hP, by rw [hsp]; exact hD⟩, hS.F ht9⟩) hS.2.2 d_M_set_18

set_option maxHeartbeats 4000000 in
set_option maxRecDepth 100000 in
theorem m_M_add (l : Launch) (D : va_G) (cA : Nat → ClassId) (sz : Nat) (am : Nat → Nat) (nu ki th ot : Nat → Int32) (vs : Nat → Int64) (av pl ps ts : Nat → Int32) (fr bk : Int32) (ce : Nat → Int32) (co : Nat → Int64) (ro le dn un : Nat → Int32) (hs : Nat → st_T) (ac : Nat → Bool) (n la : Nat) (T : List Int32) (c9 : Int32) (v : Int64) (hI : mI_ (hs, ac, n, la, T) (nu, ki, th, ot, vs, av, pl, ps, ts, fr, bk, ce, co, ro, le, dn, un)) (haI : aI_ (hs, ac, n, la, T)) (hla9 : la + 1 < 100000) : Met l y_M_add (.code y_M_add c_M_add 4 (some .int) :: G_) ({ frames := 1, cells := 0, slots := 0, locals := 25 }) (va_Pc [.ref (am 0), .int c9, .long v] (pm_ D cA (wM cA am (nI n) (nI la) nu ki th ot vs av pl ps (nI T.length) ts fr bk ce co ro le dn un) sz)) (va_Qi (fun (r : Int32) (u : mc_T) => r = (sp_add (hs, ac, n, la, T) c9 v).1 ∧ mI_ ((sp_add (hs, ac, n, la, T) c9 v).2) u) (bw_ D (va_A (wM cA am (nI n) (nI la) nu ki th ot vs av pl ps (nI T.length) ts fr bk ce co ro le dn un) sz) (fun u => wY cA am ((sp_add (hs, ac, n, la, T) c9 v).2) u)) (va_A (wM cA am (nI n) (nI la) nu ki th ot vs av pl ps (nI T.length) ts fr bk ce co ro le dn un) sz)) 0 0 (va_A (wM cA am (nI n) (nI la) nu ki th ot vs av pl ps (nI T.length) ts fr bk ce co ro le dn un) sz) := by
  refine Met.ofW (cc := c_M_add) (maxL := 4) (ret := (some .int)) (by decide) rfl ?_
  intro p e s m args below meth c s₁ B hml hv
  obtain ⟨rfl, hsz, hP, ⟨hK, hN⟩, hD0⟩ := hv
  have hx := B.exec
  have hb := B.bytes
  have hr := B.returns
  have hts := atoms_spec (ws := (.code y_M_add c_M_add 4 (some .int) :: G_)) B.pre
  have hg : ∀ w ∈ G_, w.before ([.ref (am 0), .int c9, .long v] : List Value).toArray s = true := fun w h => hts w (List.mem_cons_of_mem _ h)
  have hown : s.vm.findClass RM = some m.cls := findClass_of_methodNamed B.named
  have hlocks := B.notSynchronized
  subst hsz
  have hD := hD0.self (sz := s.heap.size)
  generalize hAe : va_A (wM cA am (nI n) (nI la) nu ki th ot vs av pl ps (nI T.length) ts fr bk ce co ro le dn un) s.heap.size = A at hD ⊢
  have hA : ∀ q : Nat, s.heap.size ≤ q → A q := fun q h => by rw [← hAe]; exact Or.inr h
  have hS : va_S A s.heap s.heap [] := va_S.rf
  have hl := lv_entry ([.ref (am 0), .int c9, .long v]) (n := 4) (Nat.le_of_ble_eq_true rfl)
  rw [lg_entry_eq]
  generalize (lg_sl ([.ref (am 0), .int c9, .long v]) ++ List.replicate (4 - (lg_sl ([.ref (am 0), .int c9, .long v])).length) Slot.unset).toArray = ls at hl ⊢
  have hl : lv_has ls 4 [(0, .ref (am 0)), (1, .int c9), (2, .long v)] := hl
  have hmh : mh_ hs ac n nu ki th ot vs av pl ps := hI.1
  have hT : rl_ ts T := hI.2.1
  have hH : hi_ hs n la := haI.1
  have hn2 : n ≤ 200 := hH.1
  have hT200 : T.length ≤ 200 := haI.2.2
  have hla2 : la < 100000 := hH.2.1
  have hw := rp_mw hH ac (Nat.le_refl n)
  refine lv_iload_n hx hb d_M_add_0 rfl (lv_at hl 1 rfl) ?_
  refine lv_if_lt (tgt := 16) hx hb d_M_add_1 (by decide) (fun h1 => ?_) (fun h1 => ?_)
  · skip
    have hx9 : inx_ c9 4 = false := inx_1 h1
    refine lv_iconst (v := 0) hx hb d_M_add_16 (by decide) ?_
    have hsp : sp_add (hs, ac, n, la, T) c9 v = (0, (hs, ac, n, la, T)) := by unfold sp_add; exact if_neg (fun h => by first | exact absurd (hx9.symm.trans h.1) (by decide) | exact h.2 hfull)
    exact W.iret hx hb hr (fun t ht9 hW => ⟨⟨_, (nu, ki, th, ot, vs, av, pl, ps, ts, fr, bk, ce, co, ro, le, dn, un), rfl, ⟨by rw [hsp], by rw [hsp]; exact hI⟩, by rw [ht9, hsp]; exact hP, by rw [hsp]; exact hD⟩, hS.F ht9⟩) hS.2.2 d_M_add_17
  · skip
    refine lv_iload_n hx hb d_M_add_4 rfl (lv_at hl 1 rfl) ?_
    refine lv_iconst (v := 3) hx hb d_M_add_5 (by decide) ?_
    refine toi_ (y := nI 3) (rfl) ?_
    refine lv_icmp_gt (tgt := 16) hx hb d_M_add_6 (by decide) (fun h6 => ?_) (fun h6 => ?_)
    · skip
      have hx9 : inx_ c9 4 = false := inx_4 (by omega) h6
      refine lv_iconst (v := 0) hx hb d_M_add_16 (by decide) ?_
      have hsp : sp_add (hs, ac, n, la, T) c9 v = (0, (hs, ac, n, la, T)) := by unfold sp_add; exact if_neg (fun h => by first | exact absurd (hx9.symm.trans h.1) (by decide) | exact h.2 hfull)
      exact W.iret hx hb hr (fun t ht9 hW => ⟨⟨_, (nu, ki, th, ot, vs, av, pl, ps, ts, fr, bk, ce, co, ro, le, dn, un), rfl, ⟨by rw [hsp], by rw [hsp]; exact hI⟩, by rw [ht9, hsp]; exact hP, by rw [hsp]; exact hD⟩, hS.F ht9⟩) hS.2.2 d_M_add_17
    · skip
      have hx8 : inx_ c9 4 = true := inx_5 (by omega) h1 h6
      refine lv_aload_n hx hb d_M_add_9 rfl (lv_at hl 0 rfl) ?_
      refine vp_callSi (va_Run.run (va_runV (C := RM) (As := []) (rest := []) ⟨hx, hb, hml, hown, hg⟩ (m_M_isFull l D cA am (nI la) nu ki th ot vs av pl ps (nI T.length) ts fr bk ce co ro le dn un n hn2) (cwV 0 hg (gd_V ml_M_109 im_M_isFull sl_M_isFull ini_M cd_M_isFull) rfl rfl rfl (by decide +kernel) ⟨Nat.le_of_ble_eq_true rfl, Nat.le_of_ble_eq_true rfl⟩) (pv_r (va_recv (q0 := 0) (ci := 3) hK hP rfl rfl) (hP) hK hN) rfl rfl hl.1 rfl (lv_room (Nat.le_of_ble_eq_true rfl)) d_M_add_10 ⟨Nat.zero_le _, Nat.zero_le _⟩)) (fun r10 e10 => ?_)
      subst e10
      refine lv_if_eq (tgt := 18) hx hb d_M_add_13 (by decide) (fun h13 => ?_) (fun h13 => ?_)
      · skip
        have q13 := b2_0.mp h13
        have hfull : ¬ n = 200 := by simpa using q13
        have hn9 : n < 200 := by omega
        refine lv_aload_n hx hb d_M_add_18 rfl (lv_at hl 0 rfl) ?_
        refine lv_iconst (v := 2) hx hb d_M_add_19 (by decide) ?_
        refine lv_iload_n hx hb d_M_add_20 rfl (lv_at hl 1 rfl) ?_
        refine lv_iconst (v := 0) hx hb d_M_add_21 (by decide) ?_
        refine lv_lload_n hx hb d_M_add_22 rfl (lv_at hl 2 rfl) ?_
        refine mu0_i (w := (wM cA am (nI n) (nI la) nu ki th ot vs av pl ps (nI T.length) ts fr bk ce co ro le dn un)) (va_runV (C := RM) (As := [.int 2, .int c9, .int 0, .long v]) (rest := []) ⟨hx, hb, hml, hown, hg⟩ (m_M_put l D cA s.heap.size am nu ki th ot vs av pl ps ts fr bk ce co ro le dn un hs ac n la T 2 c9 0 v hn9) (cwV 4 hg (gd_V ml_M_113 im_M_put sl_M_put ini_M cd_M_put) rfl rfl rfl (by decide +kernel) ⟨Nat.le_of_ble_eq_true rfl, Nat.le_of_ble_eq_true rfl⟩) (pv_m (va_recv (q0 := 0) (ci := 3) hK hP rfl rfl) hP hK hN hD) rfl rfl hl.1 rfl (lv_room (Nat.le_of_ble_eq_true rfl)) d_M_add_23 ⟨Nat.zero_le _, Nat.zero_le _⟩) hP hD hS hA (fun r23 u8 H locs hp hP hD hS => ?_)
        obtain ⟨hpe, hmI⟩ := mput (la := la) (bk := bk) (ce := ce) (co := co) (ro := ro) (le := le) (dn := dn) (un := un) hmh hT (x := (nI (la + 1), 2, c9, 0, v, [])) rfl (im_123 _ (Or.inr (Or.inl rfl))) (fun h => by rcases h with h | h; exact kn_ (show (2 : Int32) = 3 from h) (by decide); exact kn_ (show (2 : Int32) = 5 from h) (by decide))
        have hP : va_P D cls_ (wM cA am (nI (n + 1)) (nI (la + 1)) (upd nu n (nI (la + 1))) (upd ki n 2) (upd th n c9) (upd ot n 0) (vp_updL vs n v) (upd av n 1) pl ps (nI T.length) ts 0 bk ce co ro le dn un) H := hP
        have hD : va_D A (wM cA am (nI (n + 1)) (nI (la + 1)) (upd nu n (nI (la + 1))) (upd ki n 2) (upd th n c9) (upd ot n 0) (vp_updL vs n v) (upd av n 1) pl ps (nI T.length) ts 0 bk ce co ro le dn un) := hD
        have hsp : sp_add (hs, ac, n, la, T) c9 v = (nI (la + 1), (va_up hs n (nI (la + 1), 2, c9, 0, v, []), va_up ac n true, n + 1, la + 1, T)) := by unfold sp_add; exact (if_pos ⟨hx8, hfull⟩).trans hpe
        exact W.iret hx hb hr (fun t ht9 hW => ⟨⟨_, (upd nu n (nI (la + 1)), upd ki n 2, upd th n c9, upd ot n 0, vp_updL vs n v, upd av n 1, pl, ps, ts, 0, bk, ce, co, ro, le, dn, un), rfl, ⟨by rw [hsp]; exact hp, by rw [hsp]; exact hmI⟩, by rw [ht9, hsp]; exact hP, by rw [hsp]; exact hD⟩, hS.F ht9⟩) hS.2.2 d_M_add_26
      · skip
        have q13 := b2_n.mp h13
        have hfull : n = 200 := by simpa using q13
        refine lv_iconst (v := 0) hx hb d_M_add_16 (by decide) ?_
        have hsp : sp_add (hs, ac, n, la, T) c9 v = (0, (hs, ac, n, la, T)) := by unfold sp_add; exact if_neg (fun h => by first | exact absurd (hx9.symm.trans h.1) (by decide) | exact h.2 hfull)
        exact W.iret hx hb hr (fun t ht9 hW => ⟨⟨_, (nu, ki, th, ot, vs, av, pl, ps, ts, fr, bk, ce, co, ro, le, dn, un), rfl, ⟨by rw [hsp], by rw [hsp]; exact hI⟩, by rw [ht9, hsp]; exact hP, by rw [hsp]; exact hD⟩, hS.F ht9⟩) hS.2.2 d_M_add_17

set_option maxHeartbeats 4000000 in
set_option maxRecDepth 100000 in
theorem m_M_node (l : Launch) (D : va_G) (cA : Nat → ClassId) (sz : Nat) (am : Nat → Nat) (nu ki th ot : Nat → Int32) (vs : Nat → Int64) (av pl ps ts : Nat → Int32) (fr bk : Int32) (ce : Nat → Int32) (co : Nat → Int64) (ro le dn un : Nat → Int32) (hs : Nat → st_T) (ac : Nat → Bool) (n la : Nat) (T : List Int32) (x9 : Int32) (hI : mI_ (hs, ac, n, la, T) (nu, ki, th, ot, vs, av, pl, ps, ts, fr, bk, ce, co, ro, le, dn, un)) (haI : aI_ (hs, ac, n, la, T)) (hla9 : la + 1 < 100000) : Met l y_M_node (.code y_M_node c_M_node 2 (some .int) :: G_) ({ frames := 5, cells := 0, slots := 0, locals := 115 }) (va_Pc [.ref (am 0), .int x9] (pm_ D cA (wM cA am (nI n) (nI la) nu ki th ot vs av pl ps (nI T.length) ts fr bk ce co ro le dn un) sz)) (va_Qi (fun (r : Int32) (u : mc_T) => r = (sp_node (hs, ac, n, la, T) x9).1 ∧ mI_ ((sp_node (hs, ac, n, la, T) x9).2) u) (bw_ D (va_A (wM cA am (nI n) (nI la) nu ki th ot vs av pl ps (nI T.length) ts fr bk ce co ro le dn un) sz) (fun u => wY cA am ((sp_node (hs, ac, n, la, T) x9).2) u)) (va_A (wM cA am (nI n) (nI la) nu ki th ot vs av pl ps (nI T.length) ts fr bk ce co ro le dn un) sz)) 0 0 (va_A (wM cA am (nI n) (nI la) nu ki th ot vs av pl ps (nI T.length) ts fr bk ce co ro le dn un) sz) := by
  refine Met.ofW (cc := c_M_node) (maxL := 2) (ret := (some .int)) (by decide) rfl ?_
  intro p e s m args below meth c s₁ B hml hv
  obtain ⟨rfl, hsz, hP, ⟨hK, hN⟩, hD0⟩ := hv
  have hx := B.exec
  have hb := B.bytes
  have hr := B.returns
  have hts := atoms_spec (ws := (.code y_M_node c_M_node 2 (some .int) :: G_)) B.pre
  have hg : ∀ w ∈ G_, w.before ([.ref (am 0), .int x9] : List Value).toArray s = true := fun w h => hts w (List.mem_cons_of_mem _ h)
  have hown : s.vm.findClass RM = some m.cls := findClass_of_methodNamed B.named
  have hlocks := B.notSynchronized
  subst hsz
  have hD := hD0.self (sz := s.heap.size)
  generalize hAe : va_A (wM cA am (nI n) (nI la) nu ki th ot vs av pl ps (nI T.length) ts fr bk ce co ro le dn un) s.heap.size = A at hD ⊢
  have hA : ∀ q : Nat, s.heap.size ≤ q → A q := fun q h => by rw [← hAe]; exact Or.inr h
  have hS : va_S A s.heap s.heap [] := va_S.rf
  have hl := lv_entry ([.ref (am 0), .int x9]) (n := 2) (Nat.le_of_ble_eq_true rfl)
  rw [lg_entry_eq]
  generalize (lg_sl ([.ref (am 0), .int x9]) ++ List.replicate (2 - (lg_sl ([.ref (am 0), .int x9])).length) Slot.unset).toArray = ls at hl ⊢
  have hl : lv_has ls 2 [(0, .ref (am 0)), (1, .int x9)] := hl
  have hmh : mh_ hs ac n nu ki th ot vs av pl ps := hI.1
  have hT : rl_ ts T := hI.2.1
  have hH : hi_ hs n la := haI.1
  have hn2 : n ≤ 200 := hH.1
  have hT200 : T.length ≤ 200 := haI.2.2
  have hla2 : la < 100000 := hH.2.1
  have hw := rp_mw hH ac (Nat.le_refl n)
  have him6 : im_ (nI (la + 1), 6, 0, x9, 0, []) (rp_ hs ac n) = decide (x9 ≠ 0 ∧ x9 ∉ m_n (rp_ hs ac n)) := im_6 _ rfl
  refine lv_aload_n hx hb d_M_node_0 rfl (lv_at hl 0 rfl) ?_
  refine mu0_v (w := (wM cA am (nI n) (nI la) nu ki th ot vs av pl ps (nI T.length) ts fr bk ce co ro le dn un)) (va_runV (C := RM) (As := []) (rest := []) ⟨hx, hb, hml, hown, hg⟩ (m_M_recall l D cA s.heap.size am (nI la) nu ki th ot vs av pl ps (nI T.length) ts fr bk ce co ro le dn un hs ac n hmh hn2 la hH hI.2.2) (cwV 0 hg (gd_V ml_M_117 im_M_recall sl_M_recall ini_M cd_M_recall) rfl rfl rfl (by decide +kernel) ⟨Nat.le_of_ble_eq_true rfl, Nat.le_of_ble_eq_true rfl⟩) (pv_m (va_recv (q0 := 0) (ci := 3) hK hP rfl rfl) hP hK hN hD) rfl rfl hl.1 rfl (lv_room (Nat.le_of_ble_eq_true rfl)) d_M_node_1 ⟨Nat.zero_le _, Nat.zero_le _⟩) hP hD hS hA (fun u H locs hp hP hD hS => ?_)
  obtain ⟨⟨ce2, co2, ro2, le2, dn2, un2⟩, bk2⟩ := u
  have hq : mq_ hs ac n n (rp_ hs ac n) ce2 co2 ro2 le2 dn2 un2 := hp
  have hP : va_P D cls_ (wM cA am (nI n) (nI la) nu ki th ot vs av pl ps (nI T.length) ts 1 bk2 ce2 co2 ro2 le2 dn2 un2) H := hP
  have hD : va_D A (wM cA am (nI n) (nI la) nu ki th ot vs av pl ps (nI T.length) ts 1 bk2 ce2 co2 ro2 le2 dn2 un2) := hD
  refine lv_iload_n hx hb d_M_node_4 rfl (lv_at hl 1 rfl) ?_
  refine lv_if_eq (tgt := 16) hx hb d_M_node_5 (by decide) (fun h5 => ?_) (fun h5 => ?_)
  · skip
    have him : im_ (nI (la + 1), 6, 0, x9, 0, []) (rp_ hs ac n) = false := by rw [him6]; exact decide_eq_false (fun h => h.1 h5)
    refine lv_aload_n hx hb d_M_node_16 rfl (lv_at hl 0 rfl) ?_
    refine vp_callSi (va_Run.run (va_runV (C := RM) (As := []) (rest := []) ⟨hx, hb, hml, hown, hg⟩ (m_M_isFull l D cA am (nI la) nu ki th ot vs av pl ps (nI T.length) ts 1 bk2 ce2 co2 ro2 le2 dn2 un2 n hn2) (cwV 0 hg (gd_V ml_M_109 im_M_isFull sl_M_isFull ini_M cd_M_isFull) rfl rfl rfl (by decide +kernel) ⟨Nat.le_of_ble_eq_true rfl, Nat.le_of_ble_eq_true rfl⟩) (pv_r (va_recv (q0 := 0) (ci := 3) hK hP rfl rfl) (hP) hK hN) rfl rfl hl.1 rfl (lv_room (Nat.le_of_ble_eq_true rfl)) d_M_node_17 ⟨Nat.zero_le _, Nat.zero_le _⟩)) (fun r17 e17 => ?_)
    subst e17
    refine lv_if_eq (tgt := 25) hx hb d_M_node_20 (by decide) (fun h20 => ?_) (fun h20 => ?_)
    · skip
      have q20 := b2_0.mp h20
      have hfull : ¬ n = 200 := by simpa using q20
      have hn9 : n < 200 := by omega
      refine lv_aload_n hx hb d_M_node_25 rfl (lv_at hl 0 rfl) ?_
      refine lv_bipush (v := 6) hx hb d_M_node_26 (by decide) ?_
      refine lv_iconst (v := 0) hx hb d_M_node_28 (by decide) ?_
      refine lv_iload_n hx hb d_M_node_29 rfl (lv_at hl 1 rfl) ?_
      refine lv_lconst (v := 0) hx hb d_M_node_30 (by decide) ?_
      refine mu0_i (w := (wM cA am (nI n) (nI la) nu ki th ot vs av pl ps (nI T.length) ts 1 bk2 ce2 co2 ro2 le2 dn2 un2)) (va_runV (C := RM) (As := [.int 6, .int 0, .int x9, .long 0]) (rest := []) ⟨hx, hb, hml, hown, hg⟩ (m_M_put l D cA H.size am nu ki th ot vs av pl ps ts 1 bk2 ce2 co2 ro2 le2 dn2 un2 hs ac n la T 6 0 x9 0 hn9) (cwV 4 hg (gd_V ml_M_113 im_M_put sl_M_put ini_M cd_M_put) rfl rfl rfl (by decide +kernel) ⟨Nat.le_of_ble_eq_true rfl, Nat.le_of_ble_eq_true rfl⟩) (pv_m (va_recv (q0 := 0) (ci := 3) hK hP rfl rfl) hP hK hN hD) rfl rfl hl.1 rfl (lv_room (Nat.le_of_ble_eq_true rfl)) d_M_node_31 ⟨Nat.zero_le _, Nat.zero_le _⟩) hP hD hS hA (fun r31 u8 H locs hp hP hD hS => ?_)
      obtain ⟨hpe, hmI⟩ := mput (la := la) (bk := bk2) (ce := ce2) (co := co2) (ro := ro2) (le := le2) (dn := dn2) (un := un2) hmh hT (x := (nI (la + 1), 6, 0, x9, 0, [])) rfl (him) (fun h => by rcases h with h | h; exact kn_ (show (6 : Int32) = 3 from h) (by decide); exact kn_ (show (6 : Int32) = 5 from h) (by decide))
      have hP : va_P D cls_ (wM cA am (nI (n + 1)) (nI (la + 1)) (upd nu n (nI (la + 1))) (upd ki n 6) (upd th n 0) (upd ot n x9) (vp_updL vs n 0) (upd av n 1) pl ps (nI T.length) ts 0 bk2 ce2 co2 ro2 le2 dn2 un2) H := hP
      have hD : va_D A (wM cA am (nI (n + 1)) (nI (la + 1)) (upd nu n (nI (la + 1))) (upd ki n 6) (upd th n 0) (upd ot n x9) (vp_updL vs n 0) (upd av n 1) pl ps (nI T.length) ts 0 bk2 ce2 co2 ro2 le2 dn2 un2) := hD
      have hsp : sp_node (hs, ac, n, la, T) x9 = (nI (la + 1), (va_up hs n (nI (la + 1), 6, 0, x9, 0, []), va_up ac n true, n + 1, la + 1, T)) := by unfold sp_node; exact (if_pos hfull).trans hpe
      exact W.iret hx hb hr (fun t ht9 hW => ⟨⟨_, (upd nu n (nI (la + 1)), upd ki n 6, upd th n 0, upd ot n x9, vp_updL vs n 0, upd av n 1, pl, ps, ts, 0, bk2, ce2, co2, ro2, le2, dn2, un2), rfl, ⟨by rw [hsp]; exact hp, by rw [hsp]; exact hmI⟩, by rw [ht9, hsp]; exact hP, by rw [hsp]; exact hD⟩, hS.F ht9⟩) hS.2.2 d_M_node_34
    · skip
      have q20 := b2_n.mp h20
      have hfull : n = 200 := by simpa using q20
      refine lv_iconst (v := 0) hx hb d_M_node_23 (by decide) ?_
      have hsp : sp_node (hs, ac, n, la, T) x9 = (0, (hs, ac, n, la, T)) := by unfold sp_node; exact if_neg (fun h => h hfull)
      exact W.iret hx hb hr (fun t ht9 hW => ⟨⟨_, (nu, ki, th, ot, vs, av, pl, ps, ts, 1, bk2, ce2, co2, ro2, le2, dn2, un2), rfl, ⟨by rw [hsp], by rw [hsp]; exact ⟨hmh, hT, Or.inr ⟨rfl, hq⟩⟩⟩, by rw [ht9, hsp]; exact hP, by rw [hsp]; exact hD⟩, hS.F ht9⟩) hS.2.2 d_M_node_24
  · skip
    refine lv_aload_n hx hb d_M_node_8 rfl (lv_at hl 0 rfl) ?_
    refine lv_iload_n hx hb d_M_node_9 rfl (lv_at hl 1 rfl) ?_
    refine vp_callSi (va_Run.run (va_runV (C := RM) (As := [.int x9]) (rest := []) ⟨hx, hb, hml, hown, hg⟩ (m_M_isNode l D cA am (nI la) nu ki th ot vs av pl ps (nI T.length) ts 1 bk2 ce2 co2 ro2 le2 dn2 un2 hs ac n x9 hmh hn2 ac n (rp_ hs ac n) hq) (cwV 1 hg (gd_V ml_M_129 im_M_isNode sl_M_isNode ini_M cd_M_isNode) rfl rfl rfl (by decide +kernel) ⟨Nat.le_of_ble_eq_true rfl, Nat.le_of_ble_eq_true rfl⟩) (pv_r (va_recv (q0 := 0) (ci := 3) hK hP rfl rfl) (hP) hK hN) rfl rfl hl.1 rfl (lv_room (Nat.le_of_ble_eq_true rfl)) d_M_node_10 ⟨Nat.zero_le _, Nat.zero_le _⟩)) (fun r10 e10 => ?_)
    subst e10
    refine lv_if_eq (tgt := 23) hx hb d_M_node_13 (by decide) (fun h13 => ?_) (fun h13 => ?_)
    · skip
      have q13 := b2_0.mp h13
      rw [ndo_in hH (Nat.le_refl n)] at q13
      have hno : x9 ∉ m_n (rp_ hs ac n) := by simpa using q13
      refine lv_iconst (v := 0) hx hb d_M_node_23 (by decide) ?_
      have hsp : sp_node (hs, ac, n, la, T) x9 = (0, (hs, ac, n, la, T)) := by
        unfold sp_node
        by_cases h200 : n = 200
        · exact if_neg (fun h => h h200)
        · refine (if_pos h200).trans ?_
          unfold put_
          exact if_pos (him6.trans (decide_eq_true ⟨h5, hno⟩))
      exact W.iret hx hb hr (fun t ht9 hW => ⟨⟨_, (nu, ki, th, ot, vs, av, pl, ps, ts, 1, bk2, ce2, co2, ro2, le2, dn2, un2), rfl, ⟨by rw [hsp], by rw [hsp]; exact ⟨hmh, hT, Or.inr ⟨rfl, hq⟩⟩⟩, by rw [ht9, hsp]; exact hP, by rw [hsp]; exact hD⟩, hS.F ht9⟩) hS.2.2 d_M_node_24
    · skip
      have q13 := b2_n.mp h13
      rw [ndo_in hH (Nat.le_refl n)] at q13
      have hnd : x9 ∈ m_n (rp_ hs ac n) := by simpa using q13
      have him : im_ (nI (la + 1), 6, 0, x9, 0, []) (rp_ hs ac n) = false := by rw [him6]; exact decide_eq_false (fun h => h.2 hnd)
      refine lv_aload_n hx hb d_M_node_16 rfl (lv_at hl 0 rfl) ?_
      refine vp_callSi (va_Run.run (va_runV (C := RM) (As := []) (rest := []) ⟨hx, hb, hml, hown, hg⟩ (m_M_isFull l D cA am (nI la) nu ki th ot vs av pl ps (nI T.length) ts 1 bk2 ce2 co2 ro2 le2 dn2 un2 n hn2) (cwV 0 hg (gd_V ml_M_109 im_M_isFull sl_M_isFull ini_M cd_M_isFull) rfl rfl rfl (by decide +kernel) ⟨Nat.le_of_ble_eq_true rfl, Nat.le_of_ble_eq_true rfl⟩) (pv_r (va_recv (q0 := 0) (ci := 3) hK hP rfl rfl) (hP) hK hN) rfl rfl hl.1 rfl (lv_room (Nat.le_of_ble_eq_true rfl)) d_M_node_17 ⟨Nat.zero_le _, Nat.zero_le _⟩)) (fun r17 e17 => ?_)
      subst e17
      refine lv_if_eq (tgt := 25) hx hb d_M_node_20 (by decide) (fun h20 => ?_) (fun h20 => ?_)
      · skip
        have q20 := b2_0.mp h20
        have hfull : ¬ n = 200 := by simpa using q20
        have hn9 : n < 200 := by omega
        refine lv_aload_n hx hb d_M_node_25 rfl (lv_at hl 0 rfl) ?_
        refine lv_bipush (v := 6) hx hb d_M_node_26 (by decide) ?_
        refine lv_iconst (v := 0) hx hb d_M_node_28 (by decide) ?_
        refine lv_iload_n hx hb d_M_node_29 rfl (lv_at hl 1 rfl) ?_
        refine lv_lconst (v := 0) hx hb d_M_node_30 (by decide) ?_
        refine mu0_i (w := (wM cA am (nI n) (nI la) nu ki th ot vs av pl ps (nI T.length) ts 1 bk2 ce2 co2 ro2 le2 dn2 un2)) (va_runV (C := RM) (As := [.int 6, .int 0, .int x9, .long 0]) (rest := []) ⟨hx, hb, hml, hown, hg⟩ (m_M_put l D cA H.size am nu ki th ot vs av pl ps ts 1 bk2 ce2 co2 ro2 le2 dn2 un2 hs ac n la T 6 0 x9 0 hn9) (cwV 4 hg (gd_V ml_M_113 im_M_put sl_M_put ini_M cd_M_put) rfl rfl rfl (by decide +kernel) ⟨Nat.le_of_ble_eq_true rfl, Nat.le_of_ble_eq_true rfl⟩) (pv_m (va_recv (q0 := 0) (ci := 3) hK hP rfl rfl) hP hK hN hD) rfl rfl hl.1 rfl (lv_room (Nat.le_of_ble_eq_true rfl)) d_M_node_31 ⟨Nat.zero_le _, Nat.zero_le _⟩) hP hD hS hA (fun r31 u8 H locs hp hP hD hS => ?_)
        obtain ⟨hpe, hmI⟩ := mput (la := la) (bk := bk2) (ce := ce2) (co := co2) (ro := ro2) (le := le2) (dn := dn2) (un := un2) hmh hT (x := (nI (la + 1), 6, 0, x9, 0, [])) rfl (him) (fun h => by rcases h with h | h; exact kn_ (show (6 : Int32) = 3 from h) (by decide); exact kn_ (show (6 : Int32) = 5 from h) (by decide))
        have hP : va_P D cls_ (wM cA am (nI (n + 1)) (nI (la + 1)) (upd nu n (nI (la + 1))) (upd ki n 6) (upd th n 0) (upd ot n x9) (vp_updL vs n 0) (upd av n 1) pl ps (nI T.length) ts 0 bk2 ce2 co2 ro2 le2 dn2 un2) H := hP
        have hD : va_D A (wM cA am (nI (n + 1)) (nI (la + 1)) (upd nu n (nI (la + 1))) (upd ki n 6) (upd th n 0) (upd ot n x9) (vp_updL vs n 0) (upd av n 1) pl ps (nI T.length) ts 0 bk2 ce2 co2 ro2 le2 dn2 un2) := hD
        have hsp : sp_node (hs, ac, n, la, T) x9 = (nI (la + 1), (va_up hs n (nI (la + 1), 6, 0, x9, 0, []), va_up ac n true, n + 1, la + 1, T)) := by unfold sp_node; exact (if_pos hfull).trans hpe
        exact W.iret hx hb hr (fun t ht9 hW => ⟨⟨_, (upd nu n (nI (la + 1)), upd ki n 6, upd th n 0, upd ot n x9, vp_updL vs n 0, upd av n 1, pl, ps, ts, 0, bk2, ce2, co2, ro2, le2, dn2, un2), rfl, ⟨by rw [hsp]; exact hp, by rw [hsp]; exact hmI⟩, by rw [ht9, hsp]; exact hP, by rw [hsp]; exact hD⟩, hS.F ht9⟩) hS.2.2 d_M_node_34
      · skip
        have q20 := b2_n.mp h20
        have hfull : n = 200 := by simpa using q20
        refine lv_iconst (v := 0) hx hb d_M_node_23 (by decide) ?_
        have hsp : sp_node (hs, ac, n, la, T) x9 = (0, (hs, ac, n, la, T)) := by unfold sp_node; exact if_neg (fun h => h hfull)
        exact W.iret hx hb hr (fun t ht9 hW => ⟨⟨_, (nu, ki, th, ot, vs, av, pl, ps, ts, 1, bk2, ce2, co2, ro2, le2, dn2, un2), rfl, ⟨by rw [hsp], by rw [hsp]; exact ⟨hmh, hT, Or.inr ⟨rfl, hq⟩⟩⟩, by rw [ht9, hsp]; exact hP, by rw [hsp]; exact hD⟩, hS.F ht9⟩) hS.2.2 d_M_node_24

set_option maxHeartbeats 4000000 in
set_option maxRecDepth 100000 in
theorem m_M_unlink (l : Launch) (D : va_G) (cA : Nat → ClassId) (sz : Nat) (am : Nat → Nat) (nu ki th ot : Nat → Int32) (vs : Nat → Int64) (av pl ps ts : Nat → Int32) (fr bk : Int32) (ce : Nat → Int32) (co : Nat → Int64) (ro le dn un : Nat → Int32) (hs : Nat → st_T) (ac : Nat → Bool) (n la : Nat) (T : List Int32) (x9 : Int32) (hI : mI_ (hs, ac, n, la, T) (nu, ki, th, ot, vs, av, pl, ps, ts, fr, bk, ce, co, ro, le, dn, un)) (haI : aI_ (hs, ac, n, la, T)) (hla9 : la + 1 < 100000) : Met l y_M_unlink (.code y_M_unlink c_M_unlink 2 (some .int) :: G_) ({ frames := 5, cells := 0, slots := 0, locals := 115 }) (va_Pc [.ref (am 0), .int x9] (pm_ D cA (wM cA am (nI n) (nI la) nu ki th ot vs av pl ps (nI T.length) ts fr bk ce co ro le dn un) sz)) (va_Qi (fun (r : Int32) (u : mc_T) => r = (sp_unlink (hs, ac, n, la, T) x9).1 ∧ mI_ ((sp_unlink (hs, ac, n, la, T) x9).2) u) (bw_ D (va_A (wM cA am (nI n) (nI la) nu ki th ot vs av pl ps (nI T.length) ts fr bk ce co ro le dn un) sz) (fun u => wY cA am ((sp_unlink (hs, ac, n, la, T) x9).2) u)) (va_A (wM cA am (nI n) (nI la) nu ki th ot vs av pl ps (nI T.length) ts fr bk ce co ro le dn un) sz)) 0 0 (va_A (wM cA am (nI n) (nI la) nu ki th ot vs av pl ps (nI T.length) ts fr bk ce co ro le dn un) sz) := by
  refine Met.ofW (cc := c_M_unlink) (maxL := 2) (ret := (some .int)) (by decide) rfl ?_
  intro p e s m args below meth c s₁ B hml hv
  obtain ⟨rfl, hsz, hP, ⟨hK, hN⟩, hD0⟩ := hv
  have hx := B.exec
  have hb := B.bytes
  have hr := B.returns
  have hts := atoms_spec (ws := (.code y_M_unlink c_M_unlink 2 (some .int) :: G_)) B.pre
  have hg : ∀ w ∈ G_, w.before ([.ref (am 0), .int x9] : List Value).toArray s = true := fun w h => hts w (List.mem_cons_of_mem _ h)
  have hown : s.vm.findClass RM = some m.cls := findClass_of_methodNamed B.named
  have hlocks := B.notSynchronized
  subst hsz
  have hD := hD0.self (sz := s.heap.size)
  generalize hAe : va_A (wM cA am (nI n) (nI la) nu ki th ot vs av pl ps (nI T.length) ts fr bk ce co ro le dn un) s.heap.size = A at hD ⊢
  have hA : ∀ q : Nat, s.heap.size ≤ q → A q := fun q h => by rw [← hAe]; exact Or.inr h
  have hS : va_S A s.heap s.heap [] := va_S.rf
  have hl := lv_entry ([.ref (am 0), .int x9]) (n := 2) (Nat.le_of_ble_eq_true rfl)
  rw [lg_entry_eq]
  generalize (lg_sl ([.ref (am 0), .int x9]) ++ List.replicate (2 - (lg_sl ([.ref (am 0), .int x9])).length) Slot.unset).toArray = ls at hl ⊢
  have hl : lv_has ls 2 [(0, .ref (am 0)), (1, .int x9)] := hl
  have hmh : mh_ hs ac n nu ki th ot vs av pl ps := hI.1
  have hT : rl_ ts T := hI.2.1
  have hH : hi_ hs n la := haI.1
  have hn2 : n ≤ 200 := hH.1
  have hT200 : T.length ≤ 200 := haI.2.2
  have hla2 : la < 100000 := hH.2.1
  have hw := rp_mw hH ac (Nat.le_refl n)
  have him7 : im_ (nI (la + 1), 7, x9, 0, 0, []) (rp_ hs ac n) = decide (x9 ∉ m_n (rp_ hs ac n)) := im_7 _ rfl
  refine lv_aload_n hx hb d_M_unlink_0 rfl (lv_at hl 0 rfl) ?_
  refine mu0_v (w := (wM cA am (nI n) (nI la) nu ki th ot vs av pl ps (nI T.length) ts fr bk ce co ro le dn un)) (va_runV (C := RM) (As := []) (rest := []) ⟨hx, hb, hml, hown, hg⟩ (m_M_recall l D cA s.heap.size am (nI la) nu ki th ot vs av pl ps (nI T.length) ts fr bk ce co ro le dn un hs ac n hmh hn2 la hH hI.2.2) (cwV 0 hg (gd_V ml_M_117 im_M_recall sl_M_recall ini_M cd_M_recall) rfl rfl rfl (by decide +kernel) ⟨Nat.le_of_ble_eq_true rfl, Nat.le_of_ble_eq_true rfl⟩) (pv_m (va_recv (q0 := 0) (ci := 3) hK hP rfl rfl) hP hK hN hD) rfl rfl hl.1 rfl (lv_room (Nat.le_of_ble_eq_true rfl)) d_M_unlink_1 ⟨Nat.zero_le _, Nat.zero_le _⟩) hP hD hS hA (fun u H locs hp hP hD hS => ?_)
  obtain ⟨⟨ce2, co2, ro2, le2, dn2, un2⟩, bk2⟩ := u
  have hq : mq_ hs ac n n (rp_ hs ac n) ce2 co2 ro2 le2 dn2 un2 := hp
  have hP : va_P D cls_ (wM cA am (nI n) (nI la) nu ki th ot vs av pl ps (nI T.length) ts 1 bk2 ce2 co2 ro2 le2 dn2 un2) H := hP
  have hD : va_D A (wM cA am (nI n) (nI la) nu ki th ot vs av pl ps (nI T.length) ts 1 bk2 ce2 co2 ro2 le2 dn2 un2) := hD
  refine lv_aload_n hx hb d_M_unlink_4 rfl (lv_at hl 0 rfl) ?_
  refine lv_iload_n hx hb d_M_unlink_5 rfl (lv_at hl 1 rfl) ?_
  refine vp_callSi (va_Run.run (va_runV (C := RM) (As := [.int x9]) (rest := []) ⟨hx, hb, hml, hown, hg⟩ (m_M_isNode l D cA am (nI la) nu ki th ot vs av pl ps (nI T.length) ts 1 bk2 ce2 co2 ro2 le2 dn2 un2 hs ac n x9 hmh hn2 ac n (rp_ hs ac n) hq) (cwV 1 hg (gd_V ml_M_129 im_M_isNode sl_M_isNode ini_M cd_M_isNode) rfl rfl rfl (by decide +kernel) ⟨Nat.le_of_ble_eq_true rfl, Nat.le_of_ble_eq_true rfl⟩) (pv_r (va_recv (q0 := 0) (ci := 3) hK hP rfl rfl) (hP) hK hN) rfl rfl hl.1 rfl (lv_room (Nat.le_of_ble_eq_true rfl)) d_M_unlink_6 ⟨Nat.zero_le _, Nat.zero_le _⟩)) (fun r6 e6 => ?_)
  subst e6
  refine lv_if_eq (tgt := 19) hx hb d_M_unlink_9 (by decide) (fun h9 => ?_) (fun h9 => ?_)
  · skip
    have q9 := b2_0.mp h9
    rw [ndo_in hH (Nat.le_refl n)] at q9
    have hno : x9 ∉ m_n (rp_ hs ac n) := by simpa using q9
    refine lv_iconst (v := 0) hx hb d_M_unlink_19 (by decide) ?_
    have hsp : sp_unlink (hs, ac, n, la, T) x9 = (0, (hs, ac, n, la, T)) := by
      unfold sp_unlink
      by_cases h200 : n = 200
      · exact if_neg (fun h => h h200)
      · refine (if_pos h200).trans ?_
        unfold put_
        exact if_pos (him7.trans (decide_eq_true hno))
    exact W.iret hx hb hr (fun t ht9 hW => ⟨⟨_, (nu, ki, th, ot, vs, av, pl, ps, ts, 1, bk2, ce2, co2, ro2, le2, dn2, un2), rfl, ⟨by rw [hsp], by rw [hsp]; exact ⟨hmh, hT, Or.inr ⟨rfl, hq⟩⟩⟩, by rw [ht9, hsp]; exact hP, by rw [hsp]; exact hD⟩, hS.F ht9⟩) hS.2.2 d_M_unlink_20
  · skip
    have q9 := b2_n.mp h9
    rw [ndo_in hH (Nat.le_refl n)] at q9
    have hnd : x9 ∈ m_n (rp_ hs ac n) := by simpa using q9
    have him : im_ (nI (la + 1), 7, x9, 0, 0, []) (rp_ hs ac n) = false := by rw [him7]; exact decide_eq_false (fun h => h hnd)
    refine lv_aload_n hx hb d_M_unlink_12 rfl (lv_at hl 0 rfl) ?_
    refine vp_callSi (va_Run.run (va_runV (C := RM) (As := []) (rest := []) ⟨hx, hb, hml, hown, hg⟩ (m_M_isFull l D cA am (nI la) nu ki th ot vs av pl ps (nI T.length) ts 1 bk2 ce2 co2 ro2 le2 dn2 un2 n hn2) (cwV 0 hg (gd_V ml_M_109 im_M_isFull sl_M_isFull ini_M cd_M_isFull) rfl rfl rfl (by decide +kernel) ⟨Nat.le_of_ble_eq_true rfl, Nat.le_of_ble_eq_true rfl⟩) (pv_r (va_recv (q0 := 0) (ci := 3) hK hP rfl rfl) (hP) hK hN) rfl rfl hl.1 rfl (lv_room (Nat.le_of_ble_eq_true rfl)) d_M_unlink_13 ⟨Nat.zero_le _, Nat.zero_le _⟩)) (fun r13 e13 => ?_)
    subst e13
    refine lv_if_eq (tgt := 21) hx hb d_M_unlink_16 (by decide) (fun h16 => ?_) (fun h16 => ?_)
    · skip
      have q16 := b2_0.mp h16
      have hfull : ¬ n = 200 := by simpa using q16
      have hn9 : n < 200 := by omega
      refine lv_aload_n hx hb d_M_unlink_21 rfl (lv_at hl 0 rfl) ?_
      refine lv_bipush (v := 7) hx hb d_M_unlink_22 (by decide) ?_
      refine lv_iload_n hx hb d_M_unlink_24 rfl (lv_at hl 1 rfl) ?_
      refine lv_iconst (v := 0) hx hb d_M_unlink_25 (by decide) ?_
      refine lv_lconst (v := 0) hx hb d_M_unlink_26 (by decide) ?_
      refine mu0_i (w := (wM cA am (nI n) (nI la) nu ki th ot vs av pl ps (nI T.length) ts 1 bk2 ce2 co2 ro2 le2 dn2 un2)) (va_runV (C := RM) (As := [.int 7, .int x9, .int 0, .long 0]) (rest := []) ⟨hx, hb, hml, hown, hg⟩ (m_M_put l D cA H.size am nu ki th ot vs av pl ps ts 1 bk2 ce2 co2 ro2 le2 dn2 un2 hs ac n la T 7 x9 0 0 hn9) (cwV 4 hg (gd_V ml_M_113 im_M_put sl_M_put ini_M cd_M_put) rfl rfl rfl (by decide +kernel) ⟨Nat.le_of_ble_eq_true rfl, Nat.le_of_ble_eq_true rfl⟩) (pv_m (va_recv (q0 := 0) (ci := 3) hK hP rfl rfl) hP hK hN hD) rfl rfl hl.1 rfl (lv_room (Nat.le_of_ble_eq_true rfl)) d_M_unlink_27 ⟨Nat.zero_le _, Nat.zero_le _⟩) hP hD hS hA (fun r27 u8 H locs hp hP hD hS => ?_)
      obtain ⟨hpe, hmI⟩ := mput (la := la) (bk := bk2) (ce := ce2) (co := co2) (ro := ro2) (le := le2) (dn := dn2) (un := un2) hmh hT (x := (nI (la + 1), 7, x9, 0, 0, [])) rfl (him) (fun h => by rcases h with h | h; exact kn_ (show (7 : Int32) = 3 from h) (by decide); exact kn_ (show (7 : Int32) = 5 from h) (by decide))
      have hP : va_P D cls_ (wM cA am (nI (n + 1)) (nI (la + 1)) (upd nu n (nI (la + 1))) (upd ki n 7) (upd th n x9) (upd ot n 0) (vp_updL vs n 0) (upd av n 1) pl ps (nI T.length) ts 0 bk2 ce2 co2 ro2 le2 dn2 un2) H := hP
      have hD : va_D A (wM cA am (nI (n + 1)) (nI (la + 1)) (upd nu n (nI (la + 1))) (upd ki n 7) (upd th n x9) (upd ot n 0) (vp_updL vs n 0) (upd av n 1) pl ps (nI T.length) ts 0 bk2 ce2 co2 ro2 le2 dn2 un2) := hD
      have hsp : sp_unlink (hs, ac, n, la, T) x9 = (nI (la + 1), (va_up hs n (nI (la + 1), 7, x9, 0, 0, []), va_up ac n true, n + 1, la + 1, T)) := by unfold sp_unlink; exact (if_pos hfull).trans hpe
      exact W.iret hx hb hr (fun t ht9 hW => ⟨⟨_, (upd nu n (nI (la + 1)), upd ki n 7, upd th n x9, upd ot n 0, vp_updL vs n 0, upd av n 1, pl, ps, ts, 0, bk2, ce2, co2, ro2, le2, dn2, un2), rfl, ⟨by rw [hsp]; exact hp, by rw [hsp]; exact hmI⟩, by rw [ht9, hsp]; exact hP, by rw [hsp]; exact hD⟩, hS.F ht9⟩) hS.2.2 d_M_unlink_30
    · skip
      have q16 := b2_n.mp h16
      have hfull : n = 200 := by simpa using q16
      refine lv_iconst (v := 0) hx hb d_M_unlink_19 (by decide) ?_
      have hsp : sp_unlink (hs, ac, n, la, T) x9 = (0, (hs, ac, n, la, T)) := by unfold sp_unlink; exact if_neg (fun h => h hfull)
      exact W.iret hx hb hr (fun t ht9 hW => ⟨⟨_, (nu, ki, th, ot, vs, av, pl, ps, ts, 1, bk2, ce2, co2, ro2, le2, dn2, un2), rfl, ⟨by rw [hsp], by rw [hsp]; exact ⟨hmh, hT, Or.inr ⟨rfl, hq⟩⟩⟩, by rw [ht9, hsp]; exact hP, by rw [hsp]; exact hD⟩, hS.F ht9⟩) hS.2.2 d_M_unlink_20

set_option maxHeartbeats 4000000 in
set_option maxRecDepth 100000 in
theorem m_M_link (l : Launch) (D : va_G) (cA : Nat → ClassId) (sz : Nat) (am : Nat → Nat) (nu ki th ot : Nat → Int32) (vs : Nat → Int64) (av pl ps ts : Nat → Int32) (fr bk : Int32) (ce : Nat → Int32) (co : Nat → Int64) (ro le dn un : Nat → Int32) (hs : Nat → st_T) (ac : Nat → Bool) (n la : Nat) (T : List Int32) (x9 p9 : Int32) (hI : mI_ (hs, ac, n, la, T) (nu, ki, th, ot, vs, av, pl, ps, ts, fr, bk, ce, co, ro, le, dn, un)) (haI : aI_ (hs, ac, n, la, T)) (hla9 : la + 1 < 100000) : Met l y_M_link (.code y_M_link c_M_link 3 (some .int) :: G_) ({ frames := 5, cells := 0, slots := 0, locals := 115 }) (va_Pc [.ref (am 0), .int x9, .int p9] (pm_ D cA (wM cA am (nI n) (nI la) nu ki th ot vs av pl ps (nI T.length) ts fr bk ce co ro le dn un) sz)) (va_Qi (fun (r : Int32) (u : mc_T) => r = (sp_link (hs, ac, n, la, T) x9 p9).1 ∧ mI_ ((sp_link (hs, ac, n, la, T) x9 p9).2) u) (bw_ D (va_A (wM cA am (nI n) (nI la) nu ki th ot vs av pl ps (nI T.length) ts fr bk ce co ro le dn un) sz) (fun u => wY cA am ((sp_link (hs, ac, n, la, T) x9 p9).2) u)) (va_A (wM cA am (nI n) (nI la) nu ki th ot vs av pl ps (nI T.length) ts fr bk ce co ro le dn un) sz)) 0 0 (va_A (wM cA am (nI n) (nI la) nu ki th ot vs av pl ps (nI T.length) ts fr bk ce co ro le dn un) sz) := by
  refine Met.ofW (cc := c_M_link) (maxL := 3) (ret := (some .int)) (by decide) rfl ?_
  intro p e s m args below meth c s₁ B hml hv
  obtain ⟨rfl, hsz, hP, ⟨hK, hN⟩, hD0⟩ := hv
  have hx := B.exec
  have hb := B.bytes
  have hr := B.returns
  have hts := atoms_spec (ws := (.code y_M_link c_M_link 3 (some .int) :: G_)) B.pre
  have hg : ∀ w ∈ G_, w.before ([.ref (am 0), .int x9, .int p9] : List Value).toArray s = true := fun w h => hts w (List.mem_cons_of_mem _ h)
  have hown : s.vm.findClass RM = some m.cls := findClass_of_methodNamed B.named
  have hlocks := B.notSynchronized
  subst hsz
  have hD := hD0.self (sz := s.heap.size)
  generalize hAe : va_A (wM cA am (nI n) (nI la) nu ki th ot vs av pl ps (nI T.length) ts fr bk ce co ro le dn un) s.heap.size = A at hD ⊢
  have hA : ∀ q : Nat, s.heap.size ≤ q → A q := fun q h => by rw [← hAe]; exact Or.inr h
  have hS : va_S A s.heap s.heap [] := va_S.rf
  have hl := lv_entry ([.ref (am 0), .int x9, .int p9]) (n := 3) (Nat.le_of_ble_eq_true rfl)
  rw [lg_entry_eq]
  generalize (lg_sl ([.ref (am 0), .int x9, .int p9]) ++ List.replicate (3 - (lg_sl ([.ref (am 0), .int x9, .int p9])).length) Slot.unset).toArray = ls at hl ⊢
  have hl : lv_has ls 3 [(0, .ref (am 0)), (1, .int x9), (2, .int p9)] := hl
  have hmh : mh_ hs ac n nu ki th ot vs av pl ps := hI.1
  have hT : rl_ ts T := hI.2.1
  have hH : hi_ hs n la := haI.1
  have hn2 : n ≤ 200 := hH.1
  have hT200 : T.length ≤ 200 := haI.2.2
  have hla2 : la < 100000 := hH.2.1
  have hw := rp_mw hH ac (Nat.le_refl n)
  have him8 : im_ (nI (la + 1), 8, x9, p9, 0, []) (rp_ hs ac n) = decide (x9 ∉ m_n (rp_ hs ac n) ∨ (p9 ≠ 0 ∧ (p9 ∉ m_n (rp_ hs ac n) ∨ bl_ (m_n (rp_ hs ac n)) (m_p (rp_ hs ac n)) x9 ((m_n (rp_ hs ac n)).length + 1) p9 = true))) := im_8 _ rfl
  refine lv_aload_n hx hb d_M_link_0 rfl (lv_at hl 0 rfl) ?_
  refine mu0_v (w := (wM cA am (nI n) (nI la) nu ki th ot vs av pl ps (nI T.length) ts fr bk ce co ro le dn un)) (va_runV (C := RM) (As := []) (rest := []) ⟨hx, hb, hml, hown, hg⟩ (m_M_recall l D cA s.heap.size am (nI la) nu ki th ot vs av pl ps (nI T.length) ts fr bk ce co ro le dn un hs ac n hmh hn2 la hH hI.2.2) (cwV 0 hg (gd_V ml_M_117 im_M_recall sl_M_recall ini_M cd_M_recall) rfl rfl rfl (by decide +kernel) ⟨Nat.le_of_ble_eq_true rfl, Nat.le_of_ble_eq_true rfl⟩) (pv_m (va_recv (q0 := 0) (ci := 3) hK hP rfl rfl) hP hK hN hD) rfl rfl hl.1 rfl (lv_room (Nat.le_of_ble_eq_true rfl)) d_M_link_1 ⟨Nat.zero_le _, Nat.zero_le _⟩) hP hD hS hA (fun u H locs hp hP hD hS => ?_)
  obtain ⟨⟨ce2, co2, ro2, le2, dn2, un2⟩, bk2⟩ := u
  have hq : mq_ hs ac n n (rp_ hs ac n) ce2 co2 ro2 le2 dn2 un2 := hp
  have hP : va_P D cls_ (wM cA am (nI n) (nI la) nu ki th ot vs av pl ps (nI T.length) ts 1 bk2 ce2 co2 ro2 le2 dn2 un2) H := hP
  have hD : va_D A (wM cA am (nI n) (nI la) nu ki th ot vs av pl ps (nI T.length) ts 1 bk2 ce2 co2 ro2 le2 dn2 un2) := hD
  refine lv_aload_n hx hb d_M_link_4 rfl (lv_at hl 0 rfl) ?_
  refine lv_iload_n hx hb d_M_link_5 rfl (lv_at hl 1 rfl) ?_
  refine vp_callSi (va_Run.run (va_runV (C := RM) (As := [.int x9]) (rest := []) ⟨hx, hb, hml, hown, hg⟩ (m_M_isNode l D cA am (nI la) nu ki th ot vs av pl ps (nI T.length) ts 1 bk2 ce2 co2 ro2 le2 dn2 un2 hs ac n x9 hmh hn2 ac n (rp_ hs ac n) hq) (cwV 1 hg (gd_V ml_M_129 im_M_isNode sl_M_isNode ini_M cd_M_isNode) rfl rfl rfl (by decide +kernel) ⟨Nat.le_of_ble_eq_true rfl, Nat.le_of_ble_eq_true rfl⟩) (pv_r (va_recv (q0 := 0) (ci := 3) hK hP rfl rfl) (hP) hK hN) rfl rfl hl.1 rfl (lv_room (Nat.le_of_ble_eq_true rfl)) d_M_link_6 ⟨Nat.zero_le _, Nat.zero_le _⟩)) (fun r6 e6 => ?_)
  subst e6
  refine lv_if_eq (tgt := 40) hx hb d_M_link_9 (by decide) (fun h9 => ?_) (fun h9 => ?_)
  · skip
    have q9 := b2_0.mp h9
    rw [ndo_in hH (Nat.le_refl n)] at q9
    have hno : x9 ∉ m_n (rp_ hs ac n) := by simpa using q9
    refine lv_iconst (v := 0) hx hb d_M_link_40 (by decide) ?_
    have hsp : sp_link (hs, ac, n, la, T) x9 p9 = (0, (hs, ac, n, la, T)) := by
      unfold sp_link
      by_cases h200 : n = 200
      · exact if_neg (fun h => h h200)
      · refine (if_pos h200).trans ?_
        unfold put_
        exact if_pos (him8.trans (decide_eq_true (Or.inl hno)))
    exact W.iret hx hb hr (fun t ht9 hW => ⟨⟨_, (nu, ki, th, ot, vs, av, pl, ps, ts, 1, bk2, ce2, co2, ro2, le2, dn2, un2), rfl, ⟨by rw [hsp], by rw [hsp]; exact ⟨hmh, hT, Or.inr ⟨rfl, hq⟩⟩⟩, by rw [ht9, hsp]; exact hP, by rw [hsp]; exact hD⟩, hS.F ht9⟩) hS.2.2 d_M_link_41
  · skip
    have q9 := b2_n.mp h9
    rw [ndo_in hH (Nat.le_refl n)] at q9
    have hnd : x9 ∈ m_n (rp_ hs ac n) := by simpa using q9
    refine lv_iload_n hx hb d_M_link_12 rfl (lv_at hl 2 rfl) ?_
    refine lv_if_eq (tgt := 24) hx hb d_M_link_13 (by decide) (fun h13 => ?_) (fun h13 => ?_)
    · skip
      have hlo : p9 = 0 ∨ p9 ∈ m_n (rp_ hs ac n) := Or.inl h13
      refine lv_aload_n hx hb d_M_link_24 rfl (lv_at hl 0 rfl) ?_
      refine lv_iload_n hx hb d_M_link_25 rfl (lv_at hl 2 rfl) ?_
      refine lv_iload_n hx hb d_M_link_26 rfl (lv_at hl 1 rfl) ?_
      refine vp_callSi (va_Run.run (va_runV (C := RM) (As := [.int p9, .int x9]) (rest := []) ⟨hx, hb, hml, hown, hg⟩ (m_M_isBelow l D cA am (nI la) nu ki th ot vs av pl ps (nI T.length) ts 1 bk2 ce2 co2 ro2 le2 dn2 un2 hs ac n p9 x9 hmh hn2 n la ac hH (Nat.le_refl n) hq hlo hnd) (cwV 2 hg (gd_V ml_M_87 im_M_isBelow sl_M_isBelow ini_M cd_M_isBelow) rfl rfl rfl (by decide +kernel) ⟨Nat.le_of_ble_eq_true rfl, Nat.le_of_ble_eq_true rfl⟩) (pv_r (va_recv (q0 := 0) (ci := 3) hK hP rfl rfl) (hP) hK hN) rfl rfl hl.1 rfl (lv_room (Nat.le_of_ble_eq_true rfl)) d_M_link_27 ⟨Nat.zero_le _, Nat.zero_le _⟩)) (fun r27 e27 => ?_)
      subst e27
      refine lv_if_ne (tgt := 40) hx hb d_M_link_30 (by decide) (fun h30 => ?_) (fun h30 => ?_)
      · skip
        have q30 := b2_n.mp h30
        have hp0 : p9 ≠ 0 := fun h9 => by
          rw [h9, bl_s, if_neg (by decide)] at q30
          cases q30
        refine lv_iconst (v := 0) hx hb d_M_link_40 (by decide) ?_
        have hsp : sp_link (hs, ac, n, la, T) x9 p9 = (0, (hs, ac, n, la, T)) := by
          unfold sp_link
          by_cases h200 : n = 200
          · exact if_neg (fun h => h h200)
          · refine (if_pos h200).trans ?_
            unfold put_
            exact if_pos (him8.trans (decide_eq_true (Or.inr ⟨hp0, Or.inr q30⟩)))
        exact W.iret hx hb hr (fun t ht9 hW => ⟨⟨_, (nu, ki, th, ot, vs, av, pl, ps, ts, 1, bk2, ce2, co2, ro2, le2, dn2, un2), rfl, ⟨by rw [hsp], by rw [hsp]; exact ⟨hmh, hT, Or.inr ⟨rfl, hq⟩⟩⟩, by rw [ht9, hsp]; exact hP, by rw [hsp]; exact hD⟩, hS.F ht9⟩) hS.2.2 d_M_link_41
      · skip
        have q30 := b2_0.mp h30
        have him : im_ (nI (la + 1), 8, x9, p9, 0, []) (rp_ hs ac n) = false := by
          rw [him8]
          refine decide_eq_false (fun h => ?_)
          rcases h with h | h
          · exact h hnd
          · rcases h.2 with h2 | h2
            · rcases hlo with h3 | h3
              · exact h.1 h3
              · exact h2 h3
            · rw [q30] at h2; cases h2
        refine lv_aload_n hx hb d_M_link_33 rfl (lv_at hl 0 rfl) ?_
        refine vp_callSi (va_Run.run (va_runV (C := RM) (As := []) (rest := []) ⟨hx, hb, hml, hown, hg⟩ (m_M_isFull l D cA am (nI la) nu ki th ot vs av pl ps (nI T.length) ts 1 bk2 ce2 co2 ro2 le2 dn2 un2 n hn2) (cwV 0 hg (gd_V ml_M_109 im_M_isFull sl_M_isFull ini_M cd_M_isFull) rfl rfl rfl (by decide +kernel) ⟨Nat.le_of_ble_eq_true rfl, Nat.le_of_ble_eq_true rfl⟩) (pv_r (va_recv (q0 := 0) (ci := 3) hK hP rfl rfl) (hP) hK hN) rfl rfl hl.1 rfl (lv_room (Nat.le_of_ble_eq_true rfl)) d_M_link_34 ⟨Nat.zero_le _, Nat.zero_le _⟩)) (fun r34 e34 => ?_)
        subst e34
        refine lv_if_eq (tgt := 42) hx hb d_M_link_37 (by decide) (fun h37 => ?_) (fun h37 => ?_)
        · skip
          have q37 := b2_0.mp h37
          have hfull : ¬ n = 200 := by simpa using q37
          have hn9 : n < 200 := by omega
          refine lv_aload_n hx hb d_M_link_42 rfl (lv_at hl 0 rfl) ?_
          refine lv_bipush (v := 8) hx hb d_M_link_43 (by decide) ?_
          refine lv_iload_n hx hb d_M_link_45 rfl (lv_at hl 1 rfl) ?_
          refine lv_iload_n hx hb d_M_link_46 rfl (lv_at hl 2 rfl) ?_
          refine lv_lconst (v := 0) hx hb d_M_link_47 (by decide) ?_
          refine mu0_i (w := (wM cA am (nI n) (nI la) nu ki th ot vs av pl ps (nI T.length) ts 1 bk2 ce2 co2 ro2 le2 dn2 un2)) (va_runV (C := RM) (As := [.int 8, .int x9, .int p9, .long 0]) (rest := []) ⟨hx, hb, hml, hown, hg⟩ (m_M_put l D cA H.size am nu ki th ot vs av pl ps ts 1 bk2 ce2 co2 ro2 le2 dn2 un2 hs ac n la T 8 x9 p9 0 hn9) (cwV 4 hg (gd_V ml_M_113 im_M_put sl_M_put ini_M cd_M_put) rfl rfl rfl (by decide +kernel) ⟨Nat.le_of_ble_eq_true rfl, Nat.le_of_ble_eq_true rfl⟩) (pv_m (va_recv (q0 := 0) (ci := 3) hK hP rfl rfl) hP hK hN hD) rfl rfl hl.1 rfl (lv_room (Nat.le_of_ble_eq_true rfl)) d_M_link_48 ⟨Nat.zero_le _, Nat.zero_le _⟩) hP hD hS hA (fun r48 u8 H locs hp hP hD hS => ?_)
          obtain ⟨hpe, hmI⟩ := mput (la := la) (bk := bk2) (ce := ce2) (co := co2) (ro := ro2) (le := le2) (dn := dn2) (un := un2) hmh hT (x := (nI (la + 1), 8, x9, p9, 0, [])) rfl (him) (fun h => by rcases h with h | h; exact kn_ (show (8 : Int32) = 3 from h) (by decide); exact kn_ (show (8 : Int32) = 5 from h) (by decide))
          have hP : va_P D cls_ (wM cA am (nI (n + 1)) (nI (la + 1)) (upd nu n (nI (la + 1))) (upd ki n 8) (upd th n x9) (upd ot n p9) (vp_updL vs n 0) (upd av n 1) pl ps (nI T.length) ts 0 bk2 ce2 co2 ro2 le2 dn2 un2) H := hP
          have hD : va_D A (wM cA am (nI (n + 1)) (nI (la + 1)) (upd nu n (nI (la + 1))) (upd ki n 8) (upd th n x9) (upd ot n p9) (vp_updL vs n 0) (upd av n 1) pl ps (nI T.length) ts 0 bk2 ce2 co2 ro2 le2 dn2 un2) := hD
          have hsp : sp_link (hs, ac, n, la, T) x9 p9 = (nI (la + 1), (va_up hs n (nI (la + 1), 8, x9, p9, 0, []), va_up ac n true, n + 1, la + 1, T)) := by unfold sp_link; exact (if_pos hfull).trans hpe
          exact W.iret hx hb hr (fun t ht9 hW => ⟨⟨_, (upd nu n (nI (la + 1)), upd ki n 8, upd th n x9, upd ot n p9, vp_updL vs n 0, upd av n 1, pl, ps, ts, 0, bk2, ce2, co2, ro2, le2, dn2, un2), rfl, ⟨by rw [hsp]; exact hp, by rw [hsp]; exact hmI⟩, by rw [ht9, hsp]; exact hP, by rw [hsp]; exact hD⟩, hS.F ht9⟩) hS.2.2 d_M_link_51
        · skip
          have q37 := b2_n.mp h37
          have hfull : n = 200 := by simpa using q37
          refine lv_iconst (v := 0) hx hb d_M_link_40 (by decide) ?_
          have hsp : sp_link (hs, ac, n, la, T) x9 p9 = (0, (hs, ac, n, la, T)) := by unfold sp_link; exact if_neg (fun h => h hfull)
          exact W.iret hx hb hr (fun t ht9 hW => ⟨⟨_, (nu, ki, th, ot, vs, av, pl, ps, ts, 1, bk2, ce2, co2, ro2, le2, dn2, un2), rfl, ⟨by rw [hsp], by rw [hsp]; exact ⟨hmh, hT, Or.inr ⟨rfl, hq⟩⟩⟩, by rw [ht9, hsp]; exact hP, by rw [hsp]; exact hD⟩, hS.F ht9⟩) hS.2.2 d_M_link_41
    · skip
      refine lv_aload_n hx hb d_M_link_16 rfl (lv_at hl 0 rfl) ?_
      refine lv_iload_n hx hb d_M_link_17 rfl (lv_at hl 2 rfl) ?_
      refine vp_callSi (va_Run.run (va_runV (C := RM) (As := [.int p9]) (rest := []) ⟨hx, hb, hml, hown, hg⟩ (m_M_isNode l D cA am (nI la) nu ki th ot vs av pl ps (nI T.length) ts 1 bk2 ce2 co2 ro2 le2 dn2 un2 hs ac n p9 hmh hn2 ac n (rp_ hs ac n) hq) (cwV 1 hg (gd_V ml_M_129 im_M_isNode sl_M_isNode ini_M cd_M_isNode) rfl rfl rfl (by decide +kernel) ⟨Nat.le_of_ble_eq_true rfl, Nat.le_of_ble_eq_true rfl⟩) (pv_r (va_recv (q0 := 0) (ci := 3) hK hP rfl rfl) (hP) hK hN) rfl rfl hl.1 rfl (lv_room (Nat.le_of_ble_eq_true rfl)) d_M_link_18 ⟨Nat.zero_le _, Nat.zero_le _⟩)) (fun r18 e18 => ?_)
      subst e18
      refine lv_if_eq (tgt := 40) hx hb d_M_link_21 (by decide) (fun h21 => ?_) (fun h21 => ?_)
      · skip
        have q21 := b2_0.mp h21
        rw [ndo_in hH (Nat.le_refl n)] at q21
        have hno2 : p9 ∉ m_n (rp_ hs ac n) := by simpa using q21
        refine lv_iconst (v := 0) hx hb d_M_link_40 (by decide) ?_
        have hsp : sp_link (hs, ac, n, la, T) x9 p9 = (0, (hs, ac, n, la, T)) := by
          unfold sp_link
          by_cases h200 : n = 200
          · exact if_neg (fun h => h h200)
          · refine (if_pos h200).trans ?_
            unfold put_
            exact if_pos (him8.trans (decide_eq_true (Or.inr ⟨h13, Or.inl hno2⟩)))
        exact W.iret hx hb hr (fun t ht9 hW => ⟨⟨_, (nu, ki, th, ot, vs, av, pl, ps, ts, 1, bk2, ce2, co2, ro2, le2, dn2, un2), rfl, ⟨by rw [hsp], by rw [hsp]; exact ⟨hmh, hT, Or.inr ⟨rfl, hq⟩⟩⟩, by rw [ht9, hsp]; exact hP, by rw [hsp]; exact hD⟩, hS.F ht9⟩) hS.2.2 d_M_link_41
      · skip
        have q21 := b2_n.mp h21
        rw [ndo_in hH (Nat.le_refl n)] at q21
        have hpd : p9 ∈ m_n (rp_ hs ac n) := by simpa using q21
        have hlo : p9 = 0 ∨ p9 ∈ m_n (rp_ hs ac n) := Or.inr hpd
        refine lv_aload_n hx hb d_M_link_24 rfl (lv_at hl 0 rfl) ?_
        refine lv_iload_n hx hb d_M_link_25 rfl (lv_at hl 2 rfl) ?_
        refine lv_iload_n hx hb d_M_link_26 rfl (lv_at hl 1 rfl) ?_
        refine vp_callSi (va_Run.run (va_runV (C := RM) (As := [.int p9, .int x9]) (rest := []) ⟨hx, hb, hml, hown, hg⟩ (m_M_isBelow l D cA am (nI la) nu ki th ot vs av pl ps (nI T.length) ts 1 bk2 ce2 co2 ro2 le2 dn2 un2 hs ac n p9 x9 hmh hn2 n la ac hH (Nat.le_refl n) hq hlo hnd) (cwV 2 hg (gd_V ml_M_87 im_M_isBelow sl_M_isBelow ini_M cd_M_isBelow) rfl rfl rfl (by decide +kernel) ⟨Nat.le_of_ble_eq_true rfl, Nat.le_of_ble_eq_true rfl⟩) (pv_r (va_recv (q0 := 0) (ci := 3) hK hP rfl rfl) (hP) hK hN) rfl rfl hl.1 rfl (lv_room (Nat.le_of_ble_eq_true rfl)) d_M_link_27 ⟨Nat.zero_le _, Nat.zero_le _⟩)) (fun r27 e27 => ?_)
        subst e27
        refine lv_if_ne (tgt := 40) hx hb d_M_link_30 (by decide) (fun h30 => ?_) (fun h30 => ?_)
        · skip
          have q30 := b2_n.mp h30
          have hp0 : p9 ≠ 0 := fun h9 => by
            rw [h9, bl_s, if_neg (by decide)] at q30
            cases q30
          refine lv_iconst (v := 0) hx hb d_M_link_40 (by decide) ?_
          have hsp : sp_link (hs, ac, n, la, T) x9 p9 = (0, (hs, ac, n, la, T)) := by
            unfold sp_link
            by_cases h200 : n = 200
            · exact if_neg (fun h => h h200)
            · refine (if_pos h200).trans ?_
              unfold put_
              exact if_pos (him8.trans (decide_eq_true (Or.inr ⟨hp0, Or.inr q30⟩)))
          exact W.iret hx hb hr (fun t ht9 hW => ⟨⟨_, (nu, ki, th, ot, vs, av, pl, ps, ts, 1, bk2, ce2, co2, ro2, le2, dn2, un2), rfl, ⟨by rw [hsp], by rw [hsp]; exact ⟨hmh, hT, Or.inr ⟨rfl, hq⟩⟩⟩, by rw [ht9, hsp]; exact hP, by rw [hsp]; exact hD⟩, hS.F ht9⟩) hS.2.2 d_M_link_41
        · skip
          have q30 := b2_0.mp h30
          have him : im_ (nI (la + 1), 8, x9, p9, 0, []) (rp_ hs ac n) = false := by
            rw [him8]
            refine decide_eq_false (fun h => ?_)
            rcases h with h | h
            · exact h hnd
            · rcases h.2 with h2 | h2
              · rcases hlo with h3 | h3
                · exact h.1 h3
                · exact h2 h3
              · rw [q30] at h2; cases h2
          refine lv_aload_n hx hb d_M_link_33 rfl (lv_at hl 0 rfl) ?_
          refine vp_callSi (va_Run.run (va_runV (C := RM) (As := []) (rest := []) ⟨hx, hb, hml, hown, hg⟩ (m_M_isFull l D cA am (nI la) nu ki th ot vs av pl ps (nI T.length) ts 1 bk2 ce2 co2 ro2 le2 dn2 un2 n hn2) (cwV 0 hg (gd_V ml_M_109 im_M_isFull sl_M_isFull ini_M cd_M_isFull) rfl rfl rfl (by decide +kernel) ⟨Nat.le_of_ble_eq_true rfl, Nat.le_of_ble_eq_true rfl⟩) (pv_r (va_recv (q0 := 0) (ci := 3) hK hP rfl rfl) (hP) hK hN) rfl rfl hl.1 rfl (lv_room (Nat.le_of_ble_eq_true rfl)) d_M_link_34 ⟨Nat.zero_le _, Nat.zero_le _⟩)) (fun r34 e34 => ?_)
          subst e34
          refine lv_if_eq (tgt := 42) hx hb d_M_link_37 (by decide) (fun h37 => ?_) (fun h37 => ?_)
          · skip
            have q37 := b2_0.mp h37
            have hfull : ¬ n = 200 := by simpa using q37
            have hn9 : n < 200 := by omega
            refine lv_aload_n hx hb d_M_link_42 rfl (lv_at hl 0 rfl) ?_
            refine lv_bipush (v := 8) hx hb d_M_link_43 (by decide) ?_
            refine lv_iload_n hx hb d_M_link_45 rfl (lv_at hl 1 rfl) ?_
            refine lv_iload_n hx hb d_M_link_46 rfl (lv_at hl 2 rfl) ?_
            refine lv_lconst (v := 0) hx hb d_M_link_47 (by decide) ?_
            refine mu0_i (w := (wM cA am (nI n) (nI la) nu ki th ot vs av pl ps (nI T.length) ts 1 bk2 ce2 co2 ro2 le2 dn2 un2)) (va_runV (C := RM) (As := [.int 8, .int x9, .int p9, .long 0]) (rest := []) ⟨hx, hb, hml, hown, hg⟩ (m_M_put l D cA H.size am nu ki th ot vs av pl ps ts 1 bk2 ce2 co2 ro2 le2 dn2 un2 hs ac n la T 8 x9 p9 0 hn9) (cwV 4 hg (gd_V ml_M_113 im_M_put sl_M_put ini_M cd_M_put) rfl rfl rfl (by decide +kernel) ⟨Nat.le_of_ble_eq_true rfl, Nat.le_of_ble_eq_true rfl⟩) (pv_m (va_recv (q0 := 0) (ci := 3) hK hP rfl rfl) hP hK hN hD) rfl rfl hl.1 rfl (lv_room (Nat.le_of_ble_eq_true rfl)) d_M_link_48 ⟨Nat.zero_le _, Nat.zero_le _⟩) hP hD hS hA (fun r48 u8 H locs hp hP hD hS => ?_)
            obtain ⟨hpe, hmI⟩ := mput (la := la) (bk := bk2) (ce := ce2) (co := co2) (ro := ro2) (le := le2) (dn := dn2) (un := un2) hmh hT (x := (nI (la + 1), 8, x9, p9, 0, [])) rfl (him) (fun h => by rcases h with h | h; exact kn_ (show (8 : Int32) = 3 from h) (by decide); exact kn_ (show (8 : Int32) = 5 from h) (by decide))
            have hP : va_P D cls_ (wM cA am (nI (n + 1)) (nI (la + 1)) (upd nu n (nI (la + 1))) (upd ki n 8) (upd th n x9) (upd ot n p9) (vp_updL vs n 0) (upd av n 1) pl ps (nI T.length) ts 0 bk2 ce2 co2 ro2 le2 dn2 un2) H := hP
            have hD : va_D A (wM cA am (nI (n + 1)) (nI (la + 1)) (upd nu n (nI (la + 1))) (upd ki n 8) (upd th n x9) (upd ot n p9) (vp_updL vs n 0) (upd av n 1) pl ps (nI T.length) ts 0 bk2 ce2 co2 ro2 le2 dn2 un2) := hD
            have hsp : sp_link (hs, ac, n, la, T) x9 p9 = (nI (la + 1), (va_up hs n (nI (la + 1), 8, x9, p9, 0, []), va_up ac n true, n + 1, la + 1, T)) := by unfold sp_link; exact (if_pos hfull).trans hpe
            exact W.iret hx hb hr (fun t ht9 hW => ⟨⟨_, (upd nu n (nI (la + 1)), upd ki n 8, upd th n x9, upd ot n p9, vp_updL vs n 0, upd av n 1, pl, ps, ts, 0, bk2, ce2, co2, ro2, le2, dn2, un2), rfl, ⟨by rw [hsp]; exact hp, by rw [hsp]; exact hmI⟩, by rw [ht9, hsp]; exact hP, by rw [hsp]; exact hD⟩, hS.F ht9⟩) hS.2.2 d_M_link_51
          · skip
            have q37 := b2_n.mp h37
            have hfull : n = 200 := by simpa using q37
            refine lv_iconst (v := 0) hx hb d_M_link_40 (by decide) ?_
            have hsp : sp_link (hs, ac, n, la, T) x9 p9 = (0, (hs, ac, n, la, T)) := by unfold sp_link; exact if_neg (fun h => h hfull)
            exact W.iret hx hb hr (fun t ht9 hW => ⟨⟨_, (nu, ki, th, ot, vs, av, pl, ps, ts, 1, bk2, ce2, co2, ro2, le2, dn2, un2), rfl, ⟨by rw [hsp], by rw [hsp]; exact ⟨hmh, hT, Or.inr ⟨rfl, hq⟩⟩⟩, by rw [ht9, hsp]; exact hP, by rw [hsp]; exact hD⟩, hS.F ht9⟩) hS.2.2 d_M_link_41
