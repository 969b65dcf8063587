/-! UndoMemory: set, add, node, unlink, link, remove -/
set_option maxHeartbeats 4000000 in
set_option maxRecDepth 100000 in
theorem m_U_set (l : Launch) (D : va_G) (cA : Nat → ClassId) (sz : Nat) (au am at2 : Nat → Nat) (ic : Int32) (sa : Nat → Option Nat) (ip tk : Nat → Int32) (um ut : rs_T) (L : List Nat) (f : Nat → va_E) (hs : Nat → st_T) (ac : Nat → Bool) (n la : Nat) (T : List Int32) (np : Nat) (c9 v : Int32) (hI : uI_ cA (hs, ac, n, la, T) (am, at2, ic, sa, ip, tk, um, ut, L, f)) (hla9 : la + 1 < 100000) : Met l y_U_set (.code y_U_set c_U_set 3 (some .int) :: G_) ({ frames := 5, cells := 1, slots := 7, locals := 118 }) (va_Pc [.ref (au 0), .int c9, .int v] (pz_ D cA ((wU cA au (am 0) (at2 0) (nI n) (nI la) ic (nI T.length) sa ip tk) ++ ((wq_ cA am um) ++ ((wq_ cA at2 ut) ++ (va_pl L f)))) np sz)) (va_Qi (fun (r : Int32) (u : uc_T) => r = (sp_set (hs, ac, n, la, T) c9 v).1 ∧ uI_ cA (sp_set (hs, ac, n, la, T) c9 v).2 u) (bw_ D (va_A ((wU cA au (am 0) (at2 0) (nI n) (nI la) ic (nI T.length) sa ip tk) ++ ((wq_ cA am um) ++ ((wq_ cA at2 ut) ++ (va_pl L f)))) sz) (fun u => wX cA au (sp_set (hs, ac, n, la, T) c9 v).2 u)) (va_A ((wU cA au (am 0) (at2 0) (nI n) (nI la) ic (nI T.length) sa ip tk) ++ ((wq_ cA am um) ++ ((wq_ cA at2 ut) ++ (va_pl L f)))) sz)) 1 7 (va_A ((wU cA au (am 0) (at2 0) (nI n) (nI la) ic (nI T.length) sa ip tk) ++ ((wq_ cA am um) ++ ((wq_ cA at2 ut) ++ (va_pl L f)))) sz) := by
  refine Met.ofW (cc := c_U_set) (maxL := 3) (ret := (some .int)) (by decide) rfl ?_
  intro p e s m args below meth c s₁ B hml hv
  obtain ⟨rfl, hsz, hP, ⟨hK, hN⟩, hD0, hZ⟩ := hv
  have hx := B.exec
  have hb := B.bytes
  have hr := B.returns
  have hts := atoms_spec (ws := (.code y_U_set c_U_set 3 (some .int) :: G_)) B.pre
  have hg : ∀ w ∈ G_, w.before ([.ref (au 0), .int c9, .int v] : List Value).toArray s = true := fun w h => hts w (List.mem_cons_of_mem _ h)
  have hown : s.vm.findClass RU = some m.cls := findClass_of_methodNamed B.named
  have hlocks := B.notSynchronized
  subst hsz
  have hD := hD0.self (sz := s.heap.size)
  generalize hAe : va_A ((wU cA au (am 0) (at2 0) (nI n) (nI la) ic (nI T.length) sa ip tk) ++ ((wq_ cA am um) ++ ((wq_ cA at2 ut) ++ (va_pl L f)))) s.heap.size = A at hD hZ ⊢
  have hA : ∀ q : Nat, s.heap.size ≤ q → A q := fun q h => by rw [← hAe]; exact Or.inr h
  have hS : va_S A s.heap s.heap [] := va_S.rf
  have hl := lv_entry ([.ref (au 0), .int c9, .int v]) (n := 3) (Nat.le_of_ble_eq_true rfl)
  rw [lg_entry_eq]
  generalize (lg_sl ([.ref (au 0), .int c9, .int v]) ++ List.replicate (3 - (lg_sl ([.ref (au 0), .int c9, .int v])).length) Slot.unset).toArray = ls at hl ⊢
  have hl : lv_has ls 3 [(0, .ref (au 0)), (1, .int c9), (2, .int v)] := hl
  have hH : hi_ hs n la := hI.1.1
  have hU : ui_ cA hs ac n sa L f := hI.2.1
  refine lv_iload_n hx hb d_U_set_0 rfl (lv_at hl 1 rfl) ?_
  refine lv_bipush (v := 8) hx hb d_U_set_1 (by decide) ?_
  refine toi_ (y := nI 8) (rfl) ?_
  refine vp_callSi (va_Run.run (va_runS (As := [.int c9, .int (nI 8)]) (rest := []) ⟨hx, hb, hml, hown, hg⟩ (m_U_isIndex l D cA c9 8 (by omega)) (cwS 2 hg (gd_S ml_U_32 sm_U_isIndex ini_U cd_U_isIndex) rfl rfl rfl (by decide +kernel) ⟨Nat.le_of_ble_eq_true rfl, Nat.le_of_ble_eq_true rfl⟩) (ps_r (wp_iff.mpr (fun q h => absurd h List.not_mem_nil)) hK hN) rfl rfl hl.1 rfl (lv_room (Nat.le_of_ble_eq_true rfl)) d_U_set_3 ⟨Nat.le_of_ble_eq_true rfl, Nat.le_of_ble_eq_true rfl⟩)) (fun r3 e3 => ?_)
  subst e3
  refine lv_if_eq (tgt := 16) hx hb d_U_set_6 (by decide) (fun h6 => ?_) (fun h6 => ?_)
  · skip
    have q6 := b2_0.mp h6
    refine lv_iconst (v := 0) hx hb d_U_set_16 (by decide) ?_
    have hsp : sp_set (hs, ac, n, la, T) c9 v = (0, (hs, ac, n, la, T)) := by unfold sp_set; exact if_neg (fun h => by simp_all)
    refine W.widen (k := 1) (n := 7) (by decide) (by decide) ?_
    exact W.iret hx hb hr (fun t ht9 hW => ⟨⟨_, (am, at2, ic, sa, ip, tk, um, ut, L, f), rfl, ⟨by rw [hsp], by rw [hsp]; exact hI⟩, by rw [ht9, hsp]; exact hP, by rw [hsp]; exact hD⟩, hS.F ht9⟩) hS.2.2 d_U_set_17
  · skip
    have q6 := b2_n.mp h6
    obtain ⟨j, hj, hxj⟩ := inx_n q6
    refine lv_aload_n hx hb d_U_set_9 rfl (lv_at hl 0 rfl) ?_
    refine vp_callSi (va_Run.run (va_runV (C := RU) (As := []) (rest := []) ⟨hx, hb, hml, hown, hg⟩ (m_U_isFull l D cA au am at2 ic (nI T.length) sa ip tk um ut L f hs ac n la hI.1.1.1) (cwV 0 hg (gd_V ml_U_36 im_U_isFull sl_U_isFull ini_U cd_U_isFull) rfl rfl rfl (by decide +kernel) ⟨Nat.le_of_ble_eq_true rfl, Nat.le_of_ble_eq_true rfl⟩) (pv_r (va_recv (q0 := 0) (ci := 2) hK hP rfl rfl) (hP) hK hN) rfl rfl hl.1 rfl (lv_room (Nat.le_of_ble_eq_true rfl)) d_U_set_10 ⟨Nat.le_of_ble_eq_true rfl, Nat.le_of_ble_eq_true rfl⟩)) (fun r10 e10 => ?_)
    subst e10
    refine lv_if_eq (tgt := 18) hx hb d_U_set_13 (by decide) (fun h13 => ?_) (fun h13 => ?_)
    · skip
      have q13 := b2_0.mp h13
      have hfull : ¬ n = 200 := by simpa using q13
      have hn2 : n < 200 := by have h200 : n ≤ 200 := hI.1.1.1; omega
      refine lv_aload_n hx hb d_U_set_18 rfl (lv_at hl 0 rfl) ?_
      refine lv_iconst (v := 1) hx hb d_U_set_19 (by decide) ?_
      refine lv_iload_n hx hb d_U_set_20 rfl (lv_at hl 1 rfl) ?_
      refine toi_ (y := nI j) (hxj) ?_
      refine lv_iconst (v := 0) hx hb d_U_set_21 (by decide) ?_
      refine lv_iload_n hx hb d_U_set_22 rfl (lv_at hl 2 rfl) ?_
      refine lv_i2l (v := v.toInt64) hx hb d_U_set_23 (rfl) ?_
      refine va_gets (v := .ref np) hx hb hZ hS hown (hg _ fl_U_40) (fun _ h9 => h9) d_U_set_24 ?_
      have htq : tq_ (nI (la + 1), 1, nI j, 0, v.toInt64, []) := tq_1 hj
      have hla := hI.1.1.2.1
      have hcn := ca_new (ac := ac) (x := (nI (la + 1), 1, nI j, 0, v.toInt64, [])) hI.1.1 hn2 rfl (fun h => kn_ (show (1 : Int32) = 3 from h) (by decide)) (fun h => kn_ (show (1 : Int32) = 3 from h) (by decide))
      refine mu0_i (w := ((wU cA au (am 0) (at2 0) (nI n) (nI la) ic (nI T.length) sa ip tk) ++ ((wq_ cA am um) ++ ((wq_ cA at2 ut) ++ (va_pl L f))))) (va_runV (C := RU) (As := [.int 1, .int (nI j), .int 0, .long v.toInt64, .ref np]) (rest := []) ⟨hx, hb, hml, hown, hg⟩ (m_U_make l D cA s.heap.size au am at2 ic (nI T.length) sa ip tk um ut L f hs ac n la (nI (la + 1), 1, nI j, 0, v.toInt64, []) np rfl hn2 hI.2.1 hI.2.2.1 (rp_mw hH ac (Nat.le_refl n)) htq hcn (fun h => by rcases h with h | h; exact kn_ (show (1 : Int32) = 3 from h) (by decide); exact kn_ (show (1 : Int32) = 5 from h) (by decide))) (cwV 5 hg (gd_V ml_U_43 im_U_make sl_U_make ini_U cd_U_make) rfl rfl rfl (by decide +kernel) ⟨Nat.le_of_ble_eq_true rfl, Nat.le_of_ble_eq_true rfl⟩) (pv_m (va_recv (q0 := 0) (ci := 2) hK hP rfl rfl) hP hK hN hD) rfl rfl hl.1 rfl (lv_room (Nat.le_of_ble_eq_true rfl)) d_U_set_27 ⟨Nat.le_of_ble_eq_true rfl, Nat.le_of_ble_eq_true rfl⟩) hP hD hS hA (fun r9 u9 H locs hp hP hD hS => ?_)
      obtain ⟨k1, k2, k3⟩ := mk_fin (au := au) hI hn2 hla9 (x := (nI (la + 1), 1, nI j, 0, v.toInt64, [])) rfl htq (fun h => kn_ (show (1 : Int32) = 3 from h) (by decide)) hp
      rw [← k3] at hP hD
      have hsp : sp_set (hs, ac, n, la, T) c9 v = put_ (hs, ac, n, la, T) (nI (la + 1), 1, nI j, 0, v.toInt64, []) := by unfold sp_set; rw [if_pos ⟨q6, hfull⟩, hxj]; rfl
      refine W.widen (k := 1) (n := 7) (by decide) (by decide) ?_
      exact W.iret hx hb hr (fun t ht9 hW => ⟨⟨_, (am, at2, ic, u9.1, ip, tk, u9.2.1, ut, u9.2.2.1, u9.2.2.2), rfl, ⟨by rw [hsp]; exact k1, by rw [hsp]; exact k2⟩, by rw [ht9, hsp]; exact hP, by rw [hsp]; exact hD⟩, hS.F ht9⟩) hS.2.2 d_U_set_30
    · skip
      have q13 := b2_n.mp h13
      have hfull : n = 200 := by simpa using q13
      refine lv_iconst (v := 0) hx hb d_U_set_16 (by decide) ?_
      have hsp : sp_set (hs, ac, n, la, T) c9 v = (0, (hs, ac, n, la, T)) := by unfold sp_set; exact if_neg (fun h => by simp_all)
      refine W.widen (k := 1) (n := 7) (by decide) (by decide) ?_
      exact W.iret hx hb hr (fun t ht9 hW => ⟨⟨_, (am, at2, ic, sa, ip, tk, um, ut, L, f), rfl, ⟨by rw [hsp], by rw [hsp]; exact hI⟩, by rw [ht9, hsp]; exact hP, by rw [hsp]; exact hD⟩, hS.F ht9⟩) hS.2.2 d_U_set_17

set_option maxHeartbeats 4000000 in
set_option maxRecDepth 100000 in
theorem m_U_add (l : Launch) (D : va_G) (cA : Nat → ClassId) (sz : Nat) (au am at2 : Nat → Nat) (ic : Int32) (sa : Nat → Option Nat) (ip tk : Nat → Int32) (um ut : rs_T) (L : List Nat) (f : Nat → va_E) (hs : Nat → st_T) (ac : Nat → Bool) (n la : Nat) (T : List Int32) (np : Nat) (c9 : Int32) (v : Int64) (hI : uI_ cA (hs, ac, n, la, T) (am, at2, ic, sa, ip, tk, um, ut, L, f)) (hla9 : la + 1 < 100000) : Met l y_U_add (.code y_U_add c_U_add 4 (some .int) :: G_) ({ frames := 5, cells := 1, slots := 7, locals := 118 }) (va_Pc [.ref (au 0), .int c9, .long v] (pz_ D cA ((wU cA au (am 0) (at2 0) (nI n) (nI la) ic (nI T.length) sa ip tk) ++ ((wq_ cA am um) ++ ((wq_ cA at2 ut) ++ (va_pl L f)))) np sz)) (va_Qi (fun (r : Int32) (u : uc_T) => r = (sp_add (hs, ac, n, la, T) c9 v).1 ∧ uI_ cA (sp_add (hs, ac, n, la, T) c9 v).2 u) (bw_ D (va_A ((wU cA au (am 0) (at2 0) (nI n) (nI la) ic (nI T.length) sa ip tk) ++ ((wq_ cA am um) ++ ((wq_ cA at2 ut) ++ (va_pl L f)))) sz) (fun u => wX cA au (sp_add (hs, ac, n, la, T) c9 v).2 u)) (va_A ((wU cA au (am 0) (at2 0) (nI n) (nI la) ic (nI T.length) sa ip tk) ++ ((wq_ cA am um) ++ ((wq_ cA at2 ut) ++ (va_pl L f)))) sz)) 1 7 (va_A ((wU cA au (am 0) (at2 0) (nI n) (nI la) ic (nI T.length) sa ip tk) ++ ((wq_ cA am um) ++ ((wq_ cA at2 ut) ++ (va_pl L f)))) sz) := by
  refine Met.ofW (cc := c_U_add) (maxL := 4) (ret := (some .int)) (by decide) rfl ?_
  intro p e s m args below meth c s₁ B hml hv
  obtain ⟨rfl, hsz, hP, ⟨hK, hN⟩, hD0, hZ⟩ := hv
  have hx := B.exec
  have hb := B.bytes
  have hr := B.returns
  have hts := atoms_spec (ws := (.code y_U_add c_U_add 4 (some .int) :: G_)) B.pre
  have hg : ∀ w ∈ G_, w.before ([.ref (au 0), .int c9, .long v] : List Value).toArray s = true := fun w h => hts w (List.mem_cons_of_mem _ h)
  have hown : s.vm.findClass RU = some m.cls := findClass_of_methodNamed B.named
  have hlocks := B.notSynchronized
  subst hsz
  have hD := hD0.self (sz := s.heap.size)
  generalize hAe : va_A ((wU cA au (am 0) (at2 0) (nI n) (nI la) ic (nI T.length) sa ip tk) ++ ((wq_ cA am um) ++ ((wq_ cA at2 ut) ++ (va_pl L f)))) s.heap.size = A at hD hZ ⊢
  have hA : ∀ q : Nat, s.heap.size ≤ q → A q := fun q h => by rw [← hAe]; exact Or.inr h
  have hS : va_S A s.heap s.heap [] := va_S.rf
  have hl := lv_entry ([.ref (au 0), .int c9, .long v]) (n := 4) (Nat.le_of_ble_eq_true rfl)
  rw [lg_entry_eq]
  generalize (lg_sl ([.ref (au 0), .int c9, .long v]) ++ List.replicate (4 - (lg_sl ([.ref (au 0), .int c9, .long v])).length) Slot.unset).toArray = ls at hl ⊢
  have hl : lv_has ls 4 [(0, .ref (au 0)), (1, .int c9), (2, .long v)] := hl
  have hH : hi_ hs n la := hI.1.1
  have hU : ui_ cA hs ac n sa L f := hI.2.1
  refine lv_iload_n hx hb d_U_add_0 rfl (lv_at hl 1 rfl) ?_
  refine lv_iconst (v := 4) hx hb d_U_add_1 (by decide) ?_
  refine toi_ (y := nI 4) (rfl) ?_
  refine vp_callSi (va_Run.run (va_runS (As := [.int c9, .int (nI 4)]) (rest := []) ⟨hx, hb, hml, hown, hg⟩ (m_U_isIndex l D cA c9 4 (by omega)) (cwS 2 hg (gd_S ml_U_32 sm_U_isIndex ini_U cd_U_isIndex) rfl rfl rfl (by decide +kernel) ⟨Nat.le_of_ble_eq_true rfl, Nat.le_of_ble_eq_true rfl⟩) (ps_r (wp_iff.mpr (fun q h => absurd h List.not_mem_nil)) hK hN) rfl rfl hl.1 rfl (lv_room (Nat.le_of_ble_eq_true rfl)) d_U_add_2 ⟨Nat.le_of_ble_eq_true rfl, Nat.le_of_ble_eq_true rfl⟩)) (fun r2 e2 => ?_)
  subst e2
  refine lv_if_eq (tgt := 15) hx hb d_U_add_5 (by decide) (fun h5 => ?_) (fun h5 => ?_)
  · skip
    have q5 := b2_0.mp h5
    refine lv_iconst (v := 0) hx hb d_U_add_15 (by decide) ?_
    have hsp : sp_add (hs, ac, n, la, T) c9 v = (0, (hs, ac, n, la, T)) := by unfold sp_add; exact if_neg (fun h => by simp_all)
    refine W.widen (k := 1) (n := 7) (by decide) (by decide) ?_
    exact W.iret hx hb hr (fun t ht9 hW => ⟨⟨_, (am, at2, ic, sa, ip, tk, um, ut, L, f), rfl, ⟨by rw [hsp], by rw [hsp]; exact hI⟩, by rw [ht9, hsp]; exact hP, by rw [hsp]; exact hD⟩, hS.F ht9⟩) hS.2.2 d_U_add_16
  · skip
    have q5 := b2_n.mp h5
    obtain ⟨j, hj, hxj⟩ := inx_n q5
    refine lv_aload_n hx hb d_U_add_8 rfl (lv_at hl 0 rfl) ?_
    refine vp_callSi (va_Run.run (va_runV (C := RU) (As := []) (rest := []) ⟨hx, hb, hml, hown, hg⟩ (m_U_isFull l D cA au am at2 ic (nI T.length) sa ip tk um ut L f hs ac n la hI.1.1.1) (cwV 0 hg (gd_V ml_U_36 im_U_isFull sl_U_isFull ini_U cd_U_isFull) rfl rfl rfl (by decide +kernel) ⟨Nat.le_of_ble_eq_true rfl, Nat.le_of_ble_eq_true rfl⟩) (pv_r (va_recv (q0 := 0) (ci := 2) hK hP rfl rfl) (hP) hK hN) rfl rfl hl.1 rfl (lv_room (Nat.le_of_ble_eq_true rfl)) d_U_add_9 ⟨Nat.le_of_ble_eq_true rfl, Nat.le_of_ble_eq_true rfl⟩)) (fun r9 e9 => ?_)
    subst e9
    refine lv_if_eq (tgt := 17) hx hb d_U_add_12 (by decide) (fun h12 => ?_) (fun h12 => ?_)
    · skip
      have q12 := b2_0.mp h12
      have hfull : ¬ n = 200 := by simpa using q12
      have hn2 : n < 200 := by have h200 : n ≤ 200 := hI.1.1.1; omega
      refine lv_aload_n hx hb d_U_add_17 rfl (lv_at hl 0 rfl) ?_
      refine lv_iconst (v := 2) hx hb d_U_add_18 (by decide) ?_
      refine lv_iload_n hx hb d_U_add_19 rfl (lv_at hl 1 rfl) ?_
      refine toi_ (y := nI j) (hxj) ?_
      refine lv_iconst (v := 0) hx hb d_U_add_20 (by decide) ?_
      refine lv_lload_n hx hb d_U_add_21 rfl (lv_at hl 2 rfl) ?_
      refine va_gets (v := .ref np) hx hb hZ hS hown (hg _ fl_U_40) (fun _ h9 => h9) d_U_add_22 ?_
      have htq : tq_ (nI (la + 1), 2, nI j, 0, v, []) := tq_2 hj
      have hla := hI.1.1.2.1
      have hcn := ca_new (ac := ac) (x := (nI (la + 1), 2, nI j, 0, v, [])) hI.1.1 hn2 rfl (fun h => kn_ (show (2 : Int32) = 3 from h) (by decide)) (fun h => kn_ (show (2 : Int32) = 3 from h) (by decide))
      refine mu0_i (w := ((wU cA au (am 0) (at2 0) (nI n) (nI la) ic (nI T.length) sa ip tk) ++ ((wq_ cA am um) ++ ((wq_ cA at2 ut) ++ (va_pl L f))))) (va_runV (C := RU) (As := [.int 2, .int (nI j), .int 0, .long v, .ref np]) (rest := []) ⟨hx, hb, hml, hown, hg⟩ (m_U_make l D cA s.heap.size au am at2 ic (nI T.length) sa ip tk um ut L f hs ac n la (nI (la + 1), 2, nI j, 0, v, []) np rfl hn2 hI.2.1 hI.2.2.1 (rp_mw hH ac (Nat.le_refl n)) htq hcn (fun h => by rcases h with h | h; exact kn_ (show (2 : Int32) = 3 from h) (by decide); exact kn_ (show (2 : Int32) = 5 from h) (by decide))) (cwV 5 hg (gd_V ml_U_43 im_U_make sl_U_make ini_U cd_U_make) rfl rfl rfl (by decide +kernel) ⟨Nat.le_of_ble_eq_true rfl, Nat.le_of_ble_eq_true rfl⟩) (pv_m (va_recv (q0 := 0) (ci := 2) hK hP rfl rfl) hP hK hN hD) rfl rfl hl.1 rfl (lv_room (Nat.le_of_ble_eq_true rfl)) d_U_add_25 ⟨Nat.le_of_ble_eq_true rfl, Nat.le_of_ble_eq_true rfl⟩) hP hD hS hA (fun r9 u9 H locs hp hP hD hS => ?_)
      obtain ⟨k1, k2, k3⟩ := mk_fin (au := au) hI hn2 hla9 (x := (nI (la + 1), 2, nI j, 0, v, [])) rfl htq (fun h => kn_ (show (2 : Int32) = 3 from h) (by decide)) hp
      rw [← k3] at hP hD
      have hsp : sp_add (hs, ac, n, la, T) c9 v = put_ (hs, ac, n, la, T) (nI (la + 1), 2, nI j, 0, v, []) := by unfold sp_add; rw [if_pos ⟨q5, hfull⟩, hxj]; rfl
      refine W.widen (k := 1) (n := 7) (by decide) (by decide) ?_
      exact W.iret hx hb hr (fun t ht9 hW => ⟨⟨_, (am, at2, ic, u9.1, ip, tk, u9.2.1, ut, u9.2.2.1, u9.2.2.2), rfl, ⟨by rw [hsp]; exact k1, by rw [hsp]; exact k2⟩, by rw [ht9, hsp]; exact hP, by rw [hsp]; exact hD⟩, hS.F ht9⟩) hS.2.2 d_U_add_28
    · skip
      have q12 := b2_n.mp h12
      have hfull : n = 200 := by simpa using q12
      refine lv_iconst (v := 0) hx hb d_U_add_15 (by decide) ?_
      have hsp : sp_add (hs, ac, n, la, T) c9 v = (0, (hs, ac, n, la, T)) := by unfold sp_add; exact if_neg (fun h => by simp_all)
      refine W.widen (k := 1) (n := 7) (by decide) (by decide) ?_
      exact W.iret hx hb hr (fun t ht9 hW => ⟨⟨_, (am, at2, ic, sa, ip, tk, um, ut, L, f), rfl, ⟨by rw [hsp], by rw [hsp]; exact hI⟩, by rw [ht9, hsp]; exact hP, by rw [hsp]; exact hD⟩, hS.F ht9⟩) hS.2.2 d_U_add_16

set_option maxHeartbeats 4000000 in
set_option maxRecDepth 100000 in
theorem m_U_node (l : Launch) (D : va_G) (cA : Nat → ClassId) (sz : Nat) (au am at2 : Nat → Nat) (ic : Int32) (sa : Nat → Option Nat) (ip tk : Nat → Int32) (um ut : rs_T) (L : List Nat) (f : Nat → va_E) (hs : Nat → st_T) (ac : Nat → Bool) (n la : Nat) (T : List Int32) (np : Nat) (x9 : Int32) (hI : uI_ cA (hs, ac, n, la, T) (am, at2, ic, sa, ip, tk, um, ut, L, f)) (hla9 : la + 1 < 100000) : Met l y_U_node (.code y_U_node c_U_node 2 (some .int) :: G_) ({ frames := 5, cells := 1, slots := 7, locals := 118 }) (va_Pc [.ref (au 0), .int x9] (pz_ D cA ((wU cA au (am 0) (at2 0) (nI n) (nI la) ic (nI T.length) sa ip tk) ++ ((wq_ cA am um) ++ ((wq_ cA at2 ut) ++ (va_pl L f)))) np sz)) (va_Qi (fun (r : Int32) (u : uc_T) => r = (sp_node (hs, ac, n, la, T) x9).1 ∧ uI_ cA (sp_node (hs, ac, n, la, T) x9).2 u) (bw_ D (va_A ((wU cA au (am 0) (at2 0) (nI n) (nI la) ic (nI T.length) sa ip tk) ++ ((wq_ cA am um) ++ ((wq_ cA at2 ut) ++ (va_pl L f)))) sz) (fun u => wX cA au (sp_node (hs, ac, n, la, T) x9).2 u)) (va_A ((wU cA au (am 0) (at2 0) (nI n) (nI la) ic (nI T.length) sa ip tk) ++ ((wq_ cA am um) ++ ((wq_ cA at2 ut) ++ (va_pl L f)))) sz)) 1 7 (va_A ((wU cA au (am 0) (at2 0) (nI n) (nI la) ic (nI T.length) sa ip tk) ++ ((wq_ cA am um) ++ ((wq_ cA at2 ut) ++ (va_pl L f)))) sz) := by
  refine Met.ofW (cc := c_U_node) (maxL := 2) (ret := (some .int)) (by decide) rfl ?_
  intro p e s m args below meth c s₁ B hml hv
  obtain ⟨rfl, hsz, hP, ⟨hK, hN⟩, hD0, hZ⟩ := hv
  have hx := B.exec
  have hb := B.bytes
  have hr := B.returns
  have hts := atoms_spec (ws := (.code y_U_node c_U_node 2 (some .int) :: G_)) B.pre
  have hg : ∀ w ∈ G_, w.before ([.ref (au 0), .int x9] : List Value).toArray s = true := fun w h => hts w (List.mem_cons_of_mem _ h)
  have hown : s.vm.findClass RU = some m.cls := findClass_of_methodNamed B.named
  have hlocks := B.notSynchronized
  subst hsz
  have hD := hD0.self (sz := s.heap.size)
  generalize hAe : va_A ((wU cA au (am 0) (at2 0) (nI n) (nI la) ic (nI T.length) sa ip tk) ++ ((wq_ cA am um) ++ ((wq_ cA at2 ut) ++ (va_pl L f)))) s.heap.size = A at hD hZ ⊢
  have hA : ∀ q : Nat, s.heap.size ≤ q → A q := fun q h => by rw [← hAe]; exact Or.inr h
  have hS : va_S A s.heap s.heap [] := va_S.rf
  have hl := lv_entry ([.ref (au 0), .int x9]) (n := 2) (Nat.le_of_ble_eq_true rfl)
  rw [lg_entry_eq]
  generalize (lg_sl ([.ref (au 0), .int x9]) ++ List.replicate (2 - (lg_sl ([.ref (au 0), .int x9])).length) Slot.unset).toArray = ls at hl ⊢
  have hl : lv_has ls 2 [(0, .ref (au 0)), (1, .int x9)] := hl
  have hH : hi_ hs n la := hI.1.1
  have hU : ui_ cA hs ac n sa L f := hI.2.1
  refine lv_aload_n hx hb d_U_node_0 rfl (lv_at hl 0 rfl) ?_
  refine vp_callSi (va_Run.run (va_runV (C := RU) (As := []) (rest := []) ⟨hx, hb, hml, hown, hg⟩ (m_U_isFull l D cA au am at2 ic (nI T.length) sa ip tk um ut L f hs ac n la hI.1.1.1) (cwV 0 hg (gd_V ml_U_36 im_U_isFull sl_U_isFull ini_U cd_U_isFull) rfl rfl rfl (by decide +kernel) ⟨Nat.le_of_ble_eq_true rfl, Nat.le_of_ble_eq_true rfl⟩) (pv_r (va_recv (q0 := 0) (ci := 2) hK hP rfl rfl) (hP) hK hN) rfl rfl hl.1 rfl (lv_room (Nat.le_of_ble_eq_true rfl)) d_U_node_1 ⟨Nat.le_of_ble_eq_true rfl, Nat.le_of_ble_eq_true rfl⟩)) (fun r1 e1 => ?_)
  subst e1
  refine lv_if_eq (tgt := 11) hx hb d_U_node_4 (by decide) (fun h4 => ?_) (fun h4 => ?_)
  · skip
    have q4 := b2_0.mp h4
    have hfull : ¬ n = 200 := by simpa using q4
    have hn2 : n < 200 := by have h200 : n ≤ 200 := hI.1.1.1; omega
    refine lv_aload_n hx hb d_U_node_11 rfl (lv_at hl 0 rfl) ?_
    refine lv_bipush (v := 6) hx hb d_U_node_12 (by decide) ?_
    refine lv_iconst (v := 0) hx hb d_U_node_14 (by decide) ?_
    refine lv_iload_n hx hb d_U_node_15 rfl (lv_at hl 1 rfl) ?_
    refine lv_lconst (v := 0) hx hb d_U_node_16 (by decide) ?_
    refine va_gets (v := .ref np) hx hb hZ hS hown (hg _ fl_U_40) (fun _ h9 => h9) d_U_node_17 ?_
    have htq : tq_ (nI (la + 1), 6, 0, x9, 0, []) := tq_6
    have hla := hI.1.1.2.1
    have hcn := ca_new (ac := ac) (x := (nI (la + 1), 6, 0, x9, 0, [])) hI.1.1 hn2 rfl (fun h => kn_ (show (6 : Int32) = 3 from h) (by decide)) (fun h => kn_ (show (6 : Int32) = 3 from h) (by decide))
    refine mu0_i (w := ((wU cA au (am 0) (at2 0) (nI n) (nI la) ic (nI T.length) sa ip tk) ++ ((wq_ cA am um) ++ ((wq_ cA at2 ut) ++ (va_pl L f))))) (va_runV (C := RU) (As := [.int 6, .int 0, .int x9, .long 0, .ref np]) (rest := []) ⟨hx, hb, hml, hown, hg⟩ (m_U_make l D cA s.heap.size au am at2 ic (nI T.length) sa ip tk um ut L f hs ac n la (nI (la + 1), 6, 0, x9, 0, []) np rfl hn2 hI.2.1 hI.2.2.1 (rp_mw hH ac (Nat.le_refl n)) htq hcn (fun h => by rcases h with h | h; exact kn_ (show (6 : Int32) = 3 from h) (by decide); exact kn_ (show (6 : Int32) = 5 from h) (by decide))) (cwV 5 hg (gd_V ml_U_43 im_U_make sl_U_make ini_U cd_U_make) rfl rfl rfl (by decide +kernel) ⟨Nat.le_of_ble_eq_true rfl, Nat.le_of_ble_eq_true rfl⟩) (pv_m (va_recv (q0 := 0) (ci := 2) hK hP rfl rfl) hP hK hN hD) rfl rfl hl.1 rfl (lv_room (Nat.le_of_ble_eq_true rfl)) d_U_node_20 ⟨Nat.le_of_ble_eq_true rfl, Nat.le_of_ble_eq_true rfl⟩) hP hD hS hA (fun r9 u9 H locs hp hP hD hS => ?_)
    obtain ⟨k1, k2, k3⟩ := mk_fin (au := au) hI hn2 hla9 (x := (nI (la + 1), 6, 0, x9, 0, [])) rfl htq (fun h => kn_ (show (6 : Int32) = 3 from h) (by decide)) hp
    rw [← k3] at hP hD
    have hsp : sp_node (hs, ac, n, la, T) x9 = put_ (hs, ac, n, la, T) (nI (la + 1), 6, 0, x9, 0, []) := by unfold sp_node; rw [if_pos hfull]; rfl
    refine W.widen (k := 1) (n := 7) (by decide) (by decide) ?_
    exact W.iret hx hb hr (fun t ht9 hW => ⟨⟨_, (am, at2, ic, u9.1, ip, tk, u9.2.1, ut, u9.2.2.1, u9.2.2.2), rfl, ⟨by rw [hsp]; exact k1, by rw [hsp]; exact k2⟩, by rw [ht9, hsp]; exact hP, by rw [hsp]; exact hD⟩, hS.F ht9⟩) hS.2.2 d_U_node_23
  · skip
    have q4 := b2_n.mp h4
    have hfull : n = 200 := by simpa using q4
    refine lv_iconst (v := 0) hx hb d_U_node_7 (by decide) ?_
    refine lv_goto (tgt := 23) hx hb d_U_node_8 (by decide) ?_
    have hsp : sp_node (hs, ac, n, la, T) x9 = (0, (hs, ac, n, la, T)) := by unfold sp_node; exact if_neg (fun h => h hfull)
    refine W.widen (k := 1) (n := 7) (by decide) (by decide) ?_
    exact W.iret hx hb hr (fun t ht9 hW => ⟨⟨_, (am, at2, ic, sa, ip, tk, um, ut, L, f), rfl, ⟨by rw [hsp], by rw [hsp]; exact hI⟩, by rw [ht9, hsp]; exact hP, by rw [hsp]; exact hD⟩, hS.F ht9⟩) hS.2.2 d_U_node_23

set_option maxHeartbeats 4000000 in
set_option maxRecDepth 100000 in
theorem m_U_unlink (l : Launch) (D : va_G) (cA : Nat → ClassId) (sz : Nat) (au am at2 : Nat → Nat) (ic : Int32) (sa : Nat → Option Nat) (ip tk : Nat → Int32) (um ut : rs_T) (L : List Nat) (f : Nat → va_E) (hs : Nat → st_T) (ac : Nat → Bool) (n la : Nat) (T : List Int32) (np : Nat) (x9 : Int32) (hI : uI_ cA (hs, ac, n, la, T) (am, at2, ic, sa, ip, tk, um, ut, L, f)) (hla9 : la + 1 < 100000) : Met l y_U_unlink (.code y_U_unlink c_U_unlink 2 (some .int) :: G_) ({ frames := 5, cells := 1, slots := 7, locals := 118 }) (va_Pc [.ref (au 0), .int x9] (pz_ D cA ((wU cA au (am 0) (at2 0) (nI n) (nI la) ic (nI T.length) sa ip tk) ++ ((wq_ cA am um) ++ ((wq_ cA at2 ut) ++ (va_pl L f)))) np sz)) (va_Qi (fun (r : Int32) (u : uc_T) => r = (sp_unlink (hs, ac, n, la, T) x9).1 ∧ uI_ cA (sp_unlink (hs, ac, n, la, T) x9).2 u) (bw_ D (va_A ((wU cA au (am 0) (at2 0) (nI n) (nI la) ic (nI T.length) sa ip tk) ++ ((wq_ cA am um) ++ ((wq_ cA at2 ut) ++ (va_pl L f)))) sz) (fun u => wX cA au (sp_unlink (hs, ac, n, la, T) x9).2 u)) (va_A ((wU cA au (am 0) (at2 0) (nI n) (nI la) ic (nI T.length) sa ip tk) ++ ((wq_ cA am um) ++ ((wq_ cA at2 ut) ++ (va_pl L f)))) sz)) 1 7 (va_A ((wU cA au (am 0) (at2 0) (nI n) (nI la) ic (nI T.length) sa ip tk) ++ ((wq_ cA am um) ++ ((wq_ cA at2 ut) ++ (va_pl L f)))) sz) := by
  refine Met.ofW (cc := c_U_unlink) (maxL := 2) (ret := (some .int)) (by decide) rfl ?_
  intro p e s m args below meth c s₁ B hml hv
  obtain ⟨rfl, hsz, hP, ⟨hK, hN⟩, hD0, hZ⟩ := hv
  have hx := B.exec
  have hb := B.bytes
  have hr := B.returns
  have hts := atoms_spec (ws := (.code y_U_unlink c_U_unlink 2 (some .int) :: G_)) B.pre
  have hg : ∀ w ∈ G_, w.before ([.ref (au 0), .int x9] : List Value).toArray s = true := fun w h => hts w (List.mem_cons_of_mem _ h)
  have hown : s.vm.findClass RU = some m.cls := findClass_of_methodNamed B.named
  have hlocks := B.notSynchronized
  subst hsz
  have hD := hD0.self (sz := s.heap.size)
  generalize hAe : va_A ((wU cA au (am 0) (at2 0) (nI n) (nI la) ic (nI T.length) sa ip tk) ++ ((wq_ cA am um) ++ ((wq_ cA at2 ut) ++ (va_pl L f)))) s.heap.size = A at hD hZ ⊢
  have hA : ∀ q : Nat, s.heap.size ≤ q → A q := fun q h => by rw [← hAe]; exact Or.inr h
  have hS : va_S A s.heap s.heap [] := va_S.rf
  have hl := lv_entry ([.ref (au 0), .int x9]) (n := 2) (Nat.le_of_ble_eq_true rfl)
  rw [lg_entry_eq]
  generalize (lg_sl ([.ref (au 0), .int x9]) ++ List.replicate (2 - (lg_sl ([.ref (au 0), .int x9])).length) Slot.unset).toArray = ls at hl ⊢
  have hl : lv_has ls 2 [(0, .ref (au 0)), (1, .int x9)] := hl
  have hH : hi_ hs n la := hI.1.1
  have hU : ui_ cA hs ac n sa L f := hI.2.1
  refine lv_aload_n hx hb d_U_unlink_0 rfl (lv_at hl 0 rfl) ?_
  refine vp_callSi (va_Run.run (va_runV (C := RU) (As := []) (rest := []) ⟨hx, hb, hml, hown, hg⟩ (m_U_isFull l D cA au am at2 ic (nI T.length) sa ip tk um ut L f hs ac n la hI.1.1.1) (cwV 0 hg (gd_V ml_U_36 im_U_isFull sl_U_isFull ini_U cd_U_isFull) rfl rfl rfl (by decide +kernel) ⟨Nat.le_of_ble_eq_true rfl, Nat.le_of_ble_eq_true rfl⟩) (pv_r (va_recv (q0 := 0) (ci := 2) hK hP rfl rfl) (hP) hK hN) rfl rfl hl.1 rfl (lv_room (Nat.le_of_ble_eq_true rfl)) d_U_unlink_1 ⟨Nat.le_of_ble_eq_true rfl, Nat.le_of_ble_eq_true rfl⟩)) (fun r1 e1 => ?_)
  subst e1
  refine lv_if_eq (tgt := 11) hx hb d_U_unlink_4 (by decide) (fun h4 => ?_) (fun h4 => ?_)
  · skip
    have q4 := b2_0.mp h4
    have hfull : ¬ n = 200 := by simpa using q4
    have hn2 : n < 200 := by have h200 : n ≤ 200 := hI.1.1.1; omega
    refine lv_aload_n hx hb d_U_unlink_11 rfl (lv_at hl 0 rfl) ?_
    refine lv_bipush (v := 7) hx hb d_U_unlink_12 (by decide) ?_
    refine lv_iload_n hx hb d_U_unlink_14 rfl (lv_at hl 1 rfl) ?_
    refine lv_iconst (v := 0) hx hb d_U_unlink_15 (by decide) ?_
    refine lv_lconst (v := 0) hx hb d_U_unlink_16 (by decide) ?_
    refine va_gets (v := .ref np) hx hb hZ hS hown (hg _ fl_U_40) (fun _ h9 => h9) d_U_unlink_17 ?_
    have htq : tq_ (nI (la + 1), 7, x9, 0, 0, []) := tq_7
    have hla := hI.1.1.2.1
    have hcn := ca_new (ac := ac) (x := (nI (la + 1), 7, x9, 0, 0, [])) hI.1.1 hn2 rfl (fun h => kn_ (show (7 : Int32) = 3 from h) (by decide)) (fun h => kn_ (show (7 : Int32) = 3 from h) (by decide))
    refine mu0_i (w := ((wU cA au (am 0) (at2 0) (nI n) (nI la) ic (nI T.length) sa ip tk) ++ ((wq_ cA am um) ++ ((wq_ cA at2 ut) ++ (va_pl L f))))) (va_runV (C := RU) (As := [.int 7, .int x9, .int 0, .long 0, .ref np]) (rest := []) ⟨hx, hb, hml, hown, hg⟩ (m_U_make l D cA s.heap.size au am at2 ic (nI T.length) sa ip tk um ut L f hs ac n la (nI (la + 1), 7, x9, 0, 0, []) np rfl hn2 hI.2.1 hI.2.2.1 (rp_mw hH ac (Nat.le_refl n)) htq hcn (fun h => by rcases h with h | h; exact kn_ (show (7 : Int32) = 3 from h) (by decide); exact kn_ (show (7 : Int32) = 5 from h) (by decide))) (cwV 5 hg (gd_V ml_U_43 im_U_make sl_U_make ini_U cd_U_make) rfl rfl rfl (by decide +kernel) ⟨Nat.le_of_ble_eq_true rfl, Nat.le_of_ble_eq_true rfl⟩) (pv_m (va_recv (q0 := 0) (ci := 2) hK hP rfl rfl) hP hK hN hD) rfl rfl hl.1 rfl (lv_room (Nat.le_of_ble_eq_true rfl)) d_U_unlink_20 ⟨Nat.le_of_ble_eq_true rfl, Nat.le_of_ble_eq_true rfl⟩) hP hD hS hA (fun r9 u9 H locs hp hP hD hS => ?_)
    obtain ⟨k1, k2, k3⟩ := mk_fin (au := au) hI hn2 hla9 (x := (nI (la + 1), 7, x9, 0, 0, [])) rfl htq (fun h => kn_ (show (7 : Int32) = 3 from h) (by decide)) hp
    rw [← k3] at hP hD
    have hsp : sp_unlink (hs, ac, n, la, T) x9 = put_ (hs, ac, n, la, T) (nI (la + 1), 7, x9, 0, 0, []) := by unfold sp_unlink; rw [if_pos hfull]; rfl
    refine W.widen (k := 1) (n := 7) (by decide) (by decide) ?_
    exact W.iret hx hb hr (fun t ht9 hW => ⟨⟨_, (am, at2, ic, u9.1, ip, tk, u9.2.1, ut, u9.2.2.1, u9.2.2.2), rfl, ⟨by rw [hsp]; exact k1, by rw [hsp]; exact k2⟩, by rw [ht9, hsp]; exact hP, by rw [hsp]; exact hD⟩, hS.F ht9⟩) hS.2.2 d_U_unlink_23
  · skip
    have q4 := b2_n.mp h4
    have hfull : n = 200 := by simpa using q4
    refine lv_iconst (v := 0) hx hb d_U_unlink_7 (by decide) ?_
    refine lv_goto (tgt := 23) hx hb d_U_unlink_8 (by decide) ?_
    have hsp : sp_unlink (hs, ac, n, la, T) x9 = (0, (hs, ac, n, la, T)) := by unfold sp_unlink; exact if_neg (fun h => h hfull)
    refine W.widen (k := 1) (n := 7) (by decide) (by decide) ?_
    exact W.iret hx hb hr (fun t ht9 hW => ⟨⟨_, (am, at2, ic, sa, ip, tk, um, ut, L, f), rfl, ⟨by rw [hsp], by rw [hsp]; exact hI⟩, by rw [ht9, hsp]; exact hP, by rw [hsp]; exact hD⟩, hS.F ht9⟩) hS.2.2 d_U_unlink_23

set_option maxHeartbeats 4000000 in
set_option maxRecDepth 100000 in
theorem m_U_link (l : Launch) (D : va_G) (cA : Nat → ClassId) (sz : Nat) (au am at2 : Nat → Nat) (ic : Int32) (sa : Nat → Option Nat) (ip tk : Nat → Int32) (um ut : rs_T) (L : List Nat) (f : Nat → va_E) (hs : Nat → st_T) (ac : Nat → Bool) (n la : Nat) (T : List Int32) (np : Nat) (x9 p9 : Int32) (hI : uI_ cA (hs, ac, n, la, T) (am, at2, ic, sa, ip, tk, um, ut, L, f)) (hla9 : la + 1 < 100000) : Met l y_U_link (.code y_U_link c_U_link 3 (some .int) :: G_) ({ frames := 5, cells := 1, slots := 7, locals := 118 }) (va_Pc [.ref (au 0), .int x9, .int p9] (pz_ D cA ((wU cA au (am 0) (at2 0) (nI n) (nI la) ic (nI T.length) sa ip tk) ++ ((wq_ cA am um) ++ ((wq_ cA at2 ut) ++ (va_pl L f)))) np sz)) (va_Qi (fun (r : Int32) (u : uc_T) => r = (sp_link (hs, ac, n, la, T) x9 p9).1 ∧ uI_ cA (sp_link (hs, ac, n, la, T) x9 p9).2 u) (bw_ D (va_A ((wU cA au (am 0) (at2 0) (nI n) (nI la) ic (nI T.length) sa ip tk) ++ ((wq_ cA am um) ++ ((wq_ cA at2 ut) ++ (va_pl L f)))) sz) (fun u => wX cA au (sp_link (hs, ac, n, la, T) x9 p9).2 u)) (va_A ((wU cA au (am 0) (at2 0) (nI n) (nI la) ic (nI T.length) sa ip tk) ++ ((wq_ cA am um) ++ ((wq_ cA at2 ut) ++ (va_pl L f)))) sz)) 1 7 (va_A ((wU cA au (am 0) (at2 0) (nI n) (nI la) ic (nI T.length) sa ip tk) ++ ((wq_ cA am um) ++ ((wq_ cA at2 ut) ++ (va_pl L f)))) sz) := by
  refine Met.ofW (cc := c_U_link) (maxL := 3) (ret := (some .int)) (by decide) rfl ?_
  intro p e s m args below meth c s₁ B hml hv
  obtain ⟨rfl, hsz, hP, ⟨hK, hN⟩, hD0, hZ⟩ := hv
  have hx := B.exec
  have hb := B.bytes
  have hr := B.returns
  have hts := atoms_spec (ws := (.code y_U_link c_U_link 3 (some .int) :: G_)) B.pre
  have hg : ∀ w ∈ G_, w.before ([.ref (au 0), .int x9, .int p9] : List Value).toArray s = true := fun w h => hts w (List.mem_cons_of_mem _ h)
  have hown : s.vm.findClass RU = some m.cls := findClass_of_methodNamed B.named
  have hlocks := B.notSynchronized
  subst hsz
  have hD := hD0.self (sz := s.heap.size)
  generalize hAe : va_A ((wU cA au (am 0) (at2 0) (nI n) (nI la) ic (nI T.length) sa ip tk) ++ ((wq_ cA am um) ++ ((wq_ cA at2 ut) ++ (va_pl L f)))) s.heap.size = A at hD hZ ⊢
  have hA : ∀ q : Nat, s.heap.size ≤ q → A q := fun q h => by rw [← hAe]; exact Or.inr h
  have hS : va_S A s.heap s.heap [] := va_S.rf
  have hl := lv_entry ([.ref (au 0), .int x9, .int p9]) (n := 3) (Nat.le_of_ble_eq_true rfl)
  rw [lg_entry_eq]
  generalize (lg_sl ([.ref (au 0), .int x9, .int p9]) ++ List.replicate (3 - (lg_sl ([.ref (au 0), .int x9, .int p9])).length) Slot.unset).toArray = ls at hl ⊢
  have hl : lv_has ls 3 [(0, .ref (au 0)), (1, .int x9), (2, .int p9)] := hl
  have hH : hi_ hs n la := hI.1.1
  have hU : ui_ cA hs ac n sa L f := hI.2.1
  refine lv_aload_n hx hb d_U_link_0 rfl (lv_at hl 0 rfl) ?_
  refine vp_callSi (va_Run.run (va_runV (C := RU) (As := []) (rest := []) ⟨hx, hb, hml, hown, hg⟩ (m_U_isFull l D cA au am at2 ic (nI T.length) sa ip tk um ut L f hs ac n la hI.1.1.1) (cwV 0 hg (gd_V ml_U_36 im_U_isFull sl_U_isFull ini_U cd_U_isFull) rfl rfl rfl (by decide +kernel) ⟨Nat.le_of_ble_eq_true rfl, Nat.le_of_ble_eq_true rfl⟩) (pv_r (va_recv (q0 := 0) (ci := 2) hK hP rfl rfl) (hP) hK hN) rfl rfl hl.1 rfl (lv_room (Nat.le_of_ble_eq_true rfl)) d_U_link_1 ⟨Nat.le_of_ble_eq_true rfl, Nat.le_of_ble_eq_true rfl⟩)) (fun r1 e1 => ?_)
  subst e1
  refine lv_if_eq (tgt := 11) hx hb d_U_link_4 (by decide) (fun h4 => ?_) (fun h4 => ?_)
  · skip
    have q4 := b2_0.mp h4
    have hfull : ¬ n = 200 := by simpa using q4
    have hn2 : n < 200 := by have h200 : n ≤ 200 := hI.1.1.1; omega
    refine lv_aload_n hx hb d_U_link_11 rfl (lv_at hl 0 rfl) ?_
    refine lv_bipush (v := 8) hx hb d_U_link_12 (by decide) ?_
    refine lv_iload_n hx hb d_U_link_14 rfl (lv_at hl 1 rfl) ?_
    refine lv_iload_n hx hb d_U_link_15 rfl (lv_at hl 2 rfl) ?_
    refine lv_lconst (v := 0) hx hb d_U_link_16 (by decide) ?_
    refine va_gets (v := .ref np) hx hb hZ hS hown (hg _ fl_U_40) (fun _ h9 => h9) d_U_link_17 ?_
    have htq : tq_ (nI (la + 1), 8, x9, p9, 0, []) := tq_8
    have hla := hI.1.1.2.1
    have hcn := ca_new (ac := ac) (x := (nI (la + 1), 8, x9, p9, 0, [])) hI.1.1 hn2 rfl (fun h => kn_ (show (8 : Int32) = 3 from h) (by decide)) (fun h => kn_ (show (8 : Int32) = 3 from h) (by decide))
    refine mu0_i (w := ((wU cA au (am 0) (at2 0) (nI n) (nI la) ic (nI T.length) sa ip tk) ++ ((wq_ cA am um) ++ ((wq_ cA at2 ut) ++ (va_pl L f))))) (va_runV (C := RU) (As := [.int 8, .int x9, .int p9, .long 0, .ref np]) (rest := []) ⟨hx, hb, hml, hown, hg⟩ (m_U_make l D cA s.heap.size au am at2 ic (nI T.length) sa ip tk um ut L f hs ac n la (nI (la + 1), 8, x9, p9, 0, []) np rfl hn2 hI.2.1 hI.2.2.1 (rp_mw hH ac (Nat.le_refl n)) htq hcn (fun h => by rcases h with h | h; exact kn_ (show (8 : Int32) = 3 from h) (by decide); exact kn_ (show (8 : Int32) = 5 from h) (by decide))) (cwV 5 hg (gd_V ml_U_43 im_U_make sl_U_make ini_U cd_U_make) rfl rfl rfl (by decide +kernel) ⟨Nat.le_of_ble_eq_true rfl, Nat.le_of_ble_eq_true rfl⟩) (pv_m (va_recv (q0 := 0) (ci := 2) hK hP rfl rfl) hP hK hN hD) rfl rfl hl.1 rfl (lv_room (Nat.le_of_ble_eq_true rfl)) d_U_link_20 ⟨Nat.le_of_ble_eq_true rfl, Nat.le_of_ble_eq_true rfl⟩) hP hD hS hA (fun r9 u9 H locs hp hP hD hS => ?_)
    obtain ⟨k1, k2, k3⟩ := mk_fin (au := au) hI hn2 hla9 (x := (nI (la + 1), 8, x9, p9, 0, [])) rfl htq (fun h => kn_ (show (8 : Int32) = 3 from h) (by decide)) hp
    rw [← k3] at hP hD
    have hsp : sp_link (hs, ac, n, la, T) x9 p9 = put_ (hs, ac, n, la, T) (nI (la + 1), 8, x9, p9, 0, []) := by unfold sp_link; rw [if_pos hfull]; rfl
    refine W.widen (k := 1) (n := 7) (by decide) (by decide) ?_
    exact W.iret hx hb hr (fun t ht9 hW => ⟨⟨_, (am, at2, ic, u9.1, ip, tk, u9.2.1, ut, u9.2.2.1, u9.2.2.2), rfl, ⟨by rw [hsp]; exact k1, by rw [hsp]; exact k2⟩, by rw [ht9, hsp]; exact hP, by rw [hsp]; exact hD⟩, hS.F ht9⟩) hS.2.2 d_U_link_23
  · skip
    have q4 := b2_n.mp h4
    have hfull : n = 200 := by simpa using q4
    refine lv_iconst (v := 0) hx hb d_U_link_7 (by decide) ?_
    refine lv_goto (tgt := 23) hx hb d_U_link_8 (by decide) ?_
    have hsp : sp_link (hs, ac, n, la, T) x9 p9 = (0, (hs, ac, n, la, T)) := by unfold sp_link; exact if_neg (fun h => h hfull)
    refine W.widen (k := 1) (n := 7) (by decide) (by decide) ?_
    exact W.iret hx hb hr (fun t ht9 hW => ⟨⟨_, (am, at2, ic, sa, ip, tk, um, ut, L, f), rfl, ⟨by rw [hsp], by rw [hsp]; exact hI⟩, by rw [ht9, hsp]; exact hP, by rw [hsp]; exact hD⟩, hS.F ht9⟩) hS.2.2 d_U_link_23

set_option maxHeartbeats 4000000 in
set_option maxRecDepth 100000 in
theorem m_U_remove (l : Launch) (D : va_G) (cA : Nat → ClassId) (sz : Nat) (au am at2 : Nat → Nat) (ic : Int32) (sa : Nat → Option Nat) (ip tk : Nat → Int32) (um ut : rs_T) (L : List Nat) (f : Nat → va_E) (hs : Nat → st_T) (ac : Nat → Bool) (n la : Nat) (T : List Int32) (np : Nat) (x9 y9 : Int32) (hI : uI_ cA (hs, ac, n, la, T) (am, at2, ic, sa, ip, tk, um, ut, L, f)) (hla9 : la + 1 < 100000) : Met l y_U_remove (.code y_U_remove c_U_remove 4 (some .int) :: G_) ({ frames := 5, cells := 1, slots := 7, locals := 118 }) (va_Pc [.ref (au 0), .int x9, .int y9] (pz_ D cA ((wU cA au (am 0) (at2 0) (nI n) (nI la) ic (nI T.length) sa ip tk) ++ ((wq_ cA am um) ++ ((wq_ cA at2 ut) ++ (va_pl L f)))) np sz)) (va_Qi (fun (r : Int32) (u : uc_T) => r = (sp_remove (hs, ac, n, la, T) x9 y9).1 ∧ uI_ cA (sp_remove (hs, ac, n, la, T) x9 y9).2 u) (bw_ D (va_A ((wU cA au (am 0) (at2 0) (nI n) (nI la) ic (nI T.length) sa ip tk) ++ ((wq_ cA am um) ++ ((wq_ cA at2 ut) ++ (va_pl L f)))) sz) (fun u => wX cA au (sp_remove (hs, ac, n, la, T) x9 y9).2 u)) (va_A ((wU cA au (am 0) (at2 0) (nI n) (nI la) ic (nI T.length) sa ip tk) ++ ((wq_ cA am um) ++ ((wq_ cA at2 ut) ++ (va_pl L f)))) sz)) 1 7 (va_A ((wU cA au (am 0) (at2 0) (nI n) (nI la) ic (nI T.length) sa ip tk) ++ ((wq_ cA am um) ++ ((wq_ cA at2 ut) ++ (va_pl L f)))) sz) := by
  refine Met.ofW (cc := c_U_remove) (maxL := 4) (ret := (some .int)) (by decide) rfl ?_
  intro p e s m args below meth c s₁ B hml hv
  obtain ⟨rfl, hsz, hP, ⟨hK, hN⟩, hD0, hZ⟩ := hv
  have hx := B.exec
  have hb := B.bytes
  have hr := B.returns
  have hts := atoms_spec (ws := (.code y_U_remove c_U_remove 4 (some .int) :: G_)) B.pre
  have hg : ∀ w ∈ G_, w.before ([.ref (au 0), .int x9, .int y9] : List Value).toArray s = true := fun w h => hts w (List.mem_cons_of_mem _ h)
  have hown : s.vm.findClass RU = some m.cls := findClass_of_methodNamed B.named
  have hlocks := B.notSynchronized
  subst hsz
  have hD := hD0.self (sz := s.heap.size)
  generalize hAe : va_A ((wU cA au (am 0) (at2 0) (nI n) (nI la) ic (nI T.length) sa ip tk) ++ ((wq_ cA am um) ++ ((wq_ cA at2 ut) ++ (va_pl L f)))) s.heap.size = A at hD hZ ⊢
  have hA : ∀ q : Nat, s.heap.size ≤ q → A q := fun q h => by rw [← hAe]; exact Or.inr h
  have hS : va_S A s.heap s.heap [] := va_S.rf
  have hl := lv_entry ([.ref (au 0), .int x9, .int y9]) (n := 4) (Nat.le_of_ble_eq_true rfl)
  rw [lg_entry_eq]
  generalize (lg_sl ([.ref (au 0), .int x9, .int y9]) ++ List.replicate (4 - (lg_sl ([.ref (au 0), .int x9, .int y9])).length) Slot.unset).toArray = ls at hl ⊢
  have hl : lv_has ls 4 [(0, .ref (au 0)), (1, .int x9), (2, .int y9)] := hl
  have hH : hi_ hs n la := hI.1.1
  have hU : ui_ cA hs ac n sa L f := hI.2.1
  refine lv_aload_n hx hb d_U_remove_0 rfl (lv_at hl 0 rfl) ?_
  refine lv_iload_n hx hb d_U_remove_1 rfl (lv_at hl 1 rfl) ?_
  refine lv_iload_n hx hb d_U_remove_2 rfl (lv_at hl 2 rfl) ?_
  refine vp_callSi (va_Run.run (va_runV (C := RU) (As := [.int x9, .int y9]) (rest := []) ⟨hx, hb, hml, hown, hg⟩ (m_U_element l D cA au am at2 ic (nI T.length) sa ip tk um ut L f hs ac n la x9 y9 hI.2.2.1 (rp_mw hH ac (Nat.le_refl n))) (cwV 2 hg (gd_V ml_U_58 im_U_element sl_U_element ini_U cd_U_element) rfl rfl rfl (by decide +kernel) ⟨Nat.le_of_ble_eq_true rfl, Nat.le_of_ble_eq_true rfl⟩) (pv_r (va_recv (q0 := 0) (ci := 2) hK hP rfl rfl) (hP) hK hN) rfl rfl hl.1 rfl (lv_room (Nat.le_of_ble_eq_true rfl)) d_U_remove_3 ⟨Nat.le_of_ble_eq_true rfl, Nat.le_of_ble_eq_true rfl⟩)) (fun r3 e3 => ?_)
  subst e3
  refine lv_istore_n (lv' := [(3, .int (sp_elem (rp_ hs ac n) x9 y9)), (0, .ref (au 0)), (1, .int x9), (2, .int y9)]) hx hb d_U_remove_6 rfl hl (by decide) rfl (fun ls hl => ?_)
  refine lv_iload_n hx hb d_U_remove_7 rfl (lv_at hl 0 rfl) ?_
  refine lv_if_eq (tgt := 18) hx hb d_U_remove_8 (by decide) (fun h8 => ?_) (fun h8 => ?_)
  · skip
    refine lv_iconst (v := 0) hx hb d_U_remove_18 (by decide) ?_
    have hsp : sp_remove (hs, ac, n, la, T) x9 y9 = (0, (hs, ac, n, la, T)) := by unfold sp_remove; exact if_neg (fun h => by first | exact h.1 h8 | exact h.2 hfull)
    refine W.widen (k := 1) (n := 7) (by decide) (by decide) ?_
    exact W.iret hx hb hr (fun t ht9 hW => ⟨⟨_, (am, at2, ic, sa, ip, tk, um, ut, L, f), rfl, ⟨by rw [hsp], by rw [hsp]; exact hI⟩, by rw [ht9, hsp]; exact hP, by rw [hsp]; exact hD⟩, hS.F ht9⟩) hS.2.2 d_U_remove_19
  · skip
    obtain ⟨j, i, hj, hxj, hi, hyi, hmem⟩ := el_row (rp_mw hH ac (Nat.le_refl n)) h8
    refine lv_aload_n hx hb d_U_remove_11 rfl (lv_at hl 1 rfl) ?_
    refine vp_callSi (va_Run.run (va_runV (C := RU) (As := []) (rest := []) ⟨hx, hb, hml, hown, hg⟩ (m_U_isFull l D cA au am at2 ic (nI T.length) sa ip tk um ut L f hs ac n la hI.1.1.1) (cwV 0 hg (gd_V ml_U_36 im_U_isFull sl_U_isFull ini_U cd_U_isFull) rfl rfl rfl (by decide +kernel) ⟨Nat.le_of_ble_eq_true rfl, Nat.le_of_ble_eq_true rfl⟩) (pv_r (va_recv (q0 := 0) (ci := 2) hK hP rfl rfl) (hP) hK hN) rfl rfl hl.1 rfl (lv_room (Nat.le_of_ble_eq_true rfl)) d_U_remove_12 ⟨Nat.le_of_ble_eq_true rfl, Nat.le_of_ble_eq_true rfl⟩)) (fun r12 e12 => ?_)
    subst e12
    refine lv_if_eq (tgt := 20) hx hb d_U_remove_15 (by decide) (fun h15 => ?_) (fun h15 => ?_)
    · skip
      have q15 := b2_0.mp h15
      have hfull : ¬ n = 200 := by simpa using q15
      have hn2 : n < 200 := by have h200 : n ≤ 200 := hI.1.1.1; omega
      refine lv_aload_n hx hb d_U_remove_20 rfl (lv_at hl 1 rfl) ?_
      refine lv_iconst (v := 4) hx hb d_U_remove_21 (by decide) ?_
      refine lv_iload_n hx hb d_U_remove_22 rfl (lv_at hl 2 rfl) ?_
      refine toi_ (y := nI j) (hxj) ?_
      refine lv_iload_n hx hb d_U_remove_23 rfl (lv_at hl 0 rfl) ?_
      refine lv_lconst (v := 0) hx hb d_U_remove_24 (by decide) ?_
      refine va_gets (v := .ref np) hx hb hZ hS hown (hg _ fl_U_40) (fun _ h9 => h9) d_U_remove_25 ?_
      have htq : tq_ (nI (la + 1), 4, nI j, sp_elem (rp_ hs ac n) x9 y9, 0, []) := tq_4 hj
      have hla := hI.1.1.2.1
      have hcn := ca_new (ac := ac) (x := (nI (la + 1), 4, nI j, sp_elem (rp_ hs ac n) x9 y9, 0, [])) hI.1.1 hn2 rfl (fun h => kn_ (show (4 : Int32) = 3 from h) (by decide)) (fun h => kn_ (show (4 : Int32) = 3 from h) (by decide))
      refine mu0_i (w := ((wU cA au (am 0) (at2 0) (nI n) (nI la) ic (nI T.length) sa ip tk) ++ ((wq_ cA am um) ++ ((wq_ cA at2 ut) ++ (va_pl L f))))) (va_runV (C := RU) (As := [.int 4, .int (nI j), .int (sp_elem (rp_ hs ac n) x9 y9), .long 0, .ref np]) (rest := []) ⟨hx, hb, hml, hown, hg⟩ (m_U_make l D cA s.heap.size au am at2 ic (nI T.length) sa ip tk um ut L f hs ac n la (nI (la + 1), 4, nI j, sp_elem (rp_ hs ac n) x9 y9, 0, []) np rfl hn2 hI.2.1 hI.2.2.1 (rp_mw hH ac (Nat.le_refl n)) htq hcn (fun h => by rcases h with h | h; exact kn_ (show (4 : Int32) = 3 from h) (by decide); exact kn_ (show (4 : Int32) = 5 from h) (by decide))) (cwV 5 hg (gd_V ml_U_43 im_U_make sl_U_make ini_U cd_U_make) rfl rfl rfl (by decide +kernel) ⟨Nat.le_of_ble_eq_true rfl, Nat.le_of_ble_eq_true rfl⟩) (pv_m (va_recv (q0 := 0) (ci := 2) hK hP rfl rfl) hP hK hN hD) rfl rfl hl.1 rfl (lv_room (Nat.le_of_ble_eq_true rfl)) d_U_remove_28 ⟨Nat.le_of_ble_eq_true rfl, Nat.le_of_ble_eq_true rfl⟩) hP hD hS hA (fun r9 u9 H locs hp hP hD hS => ?_)
      obtain ⟨k1, k2, k3⟩ := mk_fin (au := au) hI hn2 hla9 (x := (nI (la + 1), 4, nI j, sp_elem (rp_ hs ac n) x9 y9, 0, [])) rfl htq (fun h => kn_ (show (4 : Int32) = 3 from h) (by decide)) hp
      rw [← k3] at hP hD
      have hsp : sp_remove (hs, ac, n, la, T) x9 y9 = put_ (hs, ac, n, la, T) (nI (la + 1), 4, nI j, sp_elem (rp_ hs ac n) x9 y9, 0, []) := by unfold sp_remove; rw [if_pos ⟨h8, hfull⟩, ← hxj]; rfl
      refine W.widen (k := 1) (n := 7) (by decide) (by decide) ?_
      exact W.iret hx hb hr (fun t ht9 hW => ⟨⟨_, (am, at2, ic, u9.1, ip, tk, u9.2.1, ut, u9.2.2.1, u9.2.2.2), rfl, ⟨by rw [hsp]; exact k1, by rw [hsp]; exact k2⟩, by rw [ht9, hsp]; exact hP, by rw [hsp]; exact hD⟩, hS.F ht9⟩) hS.2.2 d_U_remove_31
    · skip
      have q15 := b2_n.mp h15
      have hfull : n = 200 := by simpa using q15
      refine lv_iconst (v := 0) hx hb d_U_remove_18 (by decide) ?_
      have hsp : sp_remove (hs, ac, n, la, T) x9 y9 = (0, (hs, ac, n, la, T)) := by unfold sp_remove; exact if_neg (fun h => by first | exact h.1 h8 | exact h.2 hfull)
      refine W.widen (k := 1) (n := 7) (by decide) (by decide) ?_
      exact W.iret hx hb hr (fun t ht9 hW => ⟨⟨_, (am, at2, ic, sa, ip, tk, um, ut, L, f), rfl, ⟨by rw [hsp], by rw [hsp]; exact hI⟩, by rw [ht9, hsp]; exact hP, by rw [hsp]; exact hD⟩, hS.F ht9⟩) hS.2.2 d_U_remove_19
