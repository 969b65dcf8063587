/-! UndoMemory: insert, move -/
set_option maxHeartbeats 4000000 in
set_option maxRecDepth 100000 in
theorem m_U_insert (l : Launch) (D : va_G) (cA : Nat → ClassId) (sz : Nat) (au am at2 : Nat → Nat) (ic : Int32) (sa : Nat → Option Nat) (ip tk : Nat → Int32) (um ut : rs_T) (L : List Nat) (f : Nat → va_E) (hs : Nat → st_T) (ac : Nat → Bool) (n la : Nat) (T : List Int32) (x9 y9 v : Int32) (hI : uI_ cA (hs, ac, n, la, T) (am, at2, ic, sa, ip, tk, um, ut, L, f)) (hla9 : la + 1 < 100000) : Met l y_U_insert (.code y_U_insert c_U_insert 4 (some .int) :: G_) ({ frames := 5, cells := 2, slots := 47, locals := 118 }) (va_Pc [.ref (au 0), .int x9, .int y9, .int v] (pm_ D cA ((wU cA au (am 0) (at2 0) (nI n) (nI la) ic (nI T.length) sa ip tk) ++ ((wq_ cA am um) ++ ((wq_ cA at2 ut) ++ (va_pl L f)))) sz)) (va_Qi (fun (r : Int32) (u : uc_T) => r = (sp_insert (hs, ac, n, la, T) x9 y9 v).1 ∧ uI_ cA (sp_insert (hs, ac, n, la, T) x9 y9 v).2 u) (bw_ D (va_A ((wU cA au (am 0) (at2 0) (nI n) (nI la) ic (nI T.length) sa ip tk) ++ ((wq_ cA am um) ++ ((wq_ cA at2 ut) ++ (va_pl L f)))) sz) (fun u => wX cA au (sp_insert (hs, ac, n, la, T) x9 y9 v).2 u)) (va_A ((wU cA au (am 0) (at2 0) (nI n) (nI la) ic (nI T.length) sa ip tk) ++ ((wq_ cA am um) ++ ((wq_ cA at2 ut) ++ (va_pl L f)))) sz)) 2 47 (va_A ((wU cA au (am 0) (at2 0) (nI n) (nI la) ic (nI T.length) sa ip tk) ++ ((wq_ cA am um) ++ ((wq_ cA at2 ut) ++ (va_pl L f)))) sz) := by
  refine Met.ofW (cc := c_U_insert) (maxL := 4) (ret := (some .int)) (by decide) rfl ?_
  intro p e s m args below meth c s₁ B hml hv
  obtain ⟨rfl, hsz, hP, ⟨hK, hN⟩, hD0⟩ := hv
  have hx := B.exec
  have hb := B.bytes
  have hr := B.returns
  have hts := atoms_spec (ws := (.code y_U_insert c_U_insert 4 (some .int) :: G_)) B.pre
  have hg : ∀ w ∈ G_, w.before ([.ref (au 0), .int x9, .int y9, .int v] : List Value).toArray s = true := fun w h => hts w (List.mem_cons_of_mem _ h)
  have hown : s.vm.findClass RU = some m.cls := findClass_of_methodNamed B.named
  have hlocks := B.notSynchronized
  subst hsz
  have hD := hD0.self (sz := s.heap.size)
  generalize hAe : va_A ((wU cA au (am 0) (at2 0) (nI n) (nI la) ic (nI T.length) sa ip tk) ++ ((wq_ cA am um) ++ ((wq_ cA at2 ut) ++ (va_pl L f)))) s.heap.size = A at hD ⊢
  have hA : ∀ q : Nat, s.heap.size ≤ q → A q := fun q h => by rw [← hAe]; exact Or.inr h
  have hS : va_S A s.heap s.heap [] := va_S.rf
  have hl := lv_entry ([.ref (au 0), .int x9, .int y9, .int v]) (n := 4) (Nat.le_of_ble_eq_true rfl)
  rw [lg_entry_eq]
  generalize (lg_sl ([.ref (au 0), .int x9, .int y9, .int v]) ++ List.replicate (4 - (lg_sl ([.ref (au 0), .int x9, .int y9, .int v])).length) Slot.unset).toArray = ls at hl ⊢
  have hl : lv_has ls 4 [(0, .ref (au 0)), (1, .int x9), (2, .int y9), (3, .int v)] := hl
  have hH : hi_ hs n la := hI.1.1
  have hU : ui_ cA hs ac n sa L f := hI.2.1
  refine lv_iload_n hx hb d_U_insert_0 rfl (lv_at hl 1 rfl) ?_
  refine lv_iconst (v := 3) hx hb d_U_insert_1 (by decide) ?_
  refine toi_ (y := nI 3) (rfl) ?_
  refine vp_callSi (va_Run.run (va_runS (As := [.int x9, .int (nI 3)]) (rest := []) ⟨hx, hb, hml, hown, hg⟩ (m_U_isIndex l D cA x9 3 (by omega)) (cwS 2 hg (gd_S ml_U_32 sm_U_isIndex ini_U cd_U_isIndex) rfl rfl rfl (by decide +kernel) ⟨Nat.le_of_ble_eq_true rfl, Nat.le_of_ble_eq_true rfl⟩) (ps_r (wp_iff.mpr (fun q h => absurd h List.not_mem_nil)) hK hN) rfl rfl hl.1 rfl (lv_room (Nat.le_of_ble_eq_true rfl)) d_U_insert_2 ⟨Nat.le_of_ble_eq_true rfl, Nat.le_of_ble_eq_true rfl⟩)) (fun r2 e2 => ?_)
  subst e2
  refine lv_if_eq (tgt := 25) hx hb d_U_insert_5 (by decide) (fun h5 => ?_) (fun h5 => ?_)
  · skip
    have q5 := b2_0.mp h5
    refine lv_iconst (v := 0) hx hb d_U_insert_25 (by decide) ?_
    have hsp : sp_insert (hs, ac, n, la, T) x9 y9 v = (0, (hs, ac, n, la, T)) := by unfold sp_insert; exact if_neg (fun h => by first | (rw [q5] at h; exact absurd h.1 (by decide)) | exact h.2.1 hfull | (have h9 := h.2.2.1; rw [hxj, nI_clamp (by omega)] at h9; have h8 : ic_ hs j n < 40 := h9; omega) | (have h9 := h.2.2.2; rw [hxj, nI_clamp (by omega)] at h9; exact absurd (q42.symm.trans h9) (by decide)))
    refine W.widen (k := 2) (n := 47) (by decide) (by decide) ?_
    exact W.iret hx hb hr (fun t ht9 hW => ⟨⟨_, (am, at2, ic, sa, ip, tk, um, ut, L, f), rfl, ⟨by rw [hsp], by rw [hsp]; exact hI⟩, by rw [ht9, hsp]; exact hP, by rw [hsp]; exact hD⟩, hS.F ht9⟩) hS.2.2 d_U_insert_26
  · skip
    have q5 := b2_n.mp h5
    obtain ⟨j, hj, hxj⟩ := inx_n q5
    refine lv_aload_n hx hb d_U_insert_8 rfl (lv_at hl 0 rfl) ?_
    refine vp_callSi (va_Run.run (va_runV (C := RU) (As := []) (rest := []) ⟨hx, hb, hml, hown, hg⟩ (m_U_isFull l D cA au am at2 ic (nI T.length) sa ip tk um ut L f hs ac n la hI.1.1.1) (cwV 0 hg (gd_V ml_U_36 im_U_isFull sl_U_isFull ini_U cd_U_isFull) rfl rfl rfl (by decide +kernel) ⟨Nat.le_of_ble_eq_true rfl, Nat.le_of_ble_eq_true rfl⟩) (pv_r (va_recv (q0 := 0) (ci := 2) hK hP rfl rfl) (hP) hK hN) rfl rfl hl.1 rfl (lv_room (Nat.le_of_ble_eq_true rfl)) d_U_insert_9 ⟨Nat.le_of_ble_eq_true rfl, Nat.le_of_ble_eq_true rfl⟩)) (fun r9 e9 => ?_)
    subst e9
    refine lv_if_ne (tgt := 25) hx hb d_U_insert_12 (by decide) (fun h12 => ?_) (fun h12 => ?_)
    · skip
      have q12 := b2_n.mp h12
      have hfull : n = 200 := by simpa using q12
      refine lv_iconst (v := 0) hx hb d_U_insert_25 (by decide) ?_
      have hsp : sp_insert (hs, ac, n, la, T) x9 y9 v = (0, (hs, ac, n, la, T)) := by unfold sp_insert; exact if_neg (fun h => by first | (rw [q5] at h; exact absurd h.1 (by decide)) | exact h.2.1 hfull | (have h9 := h.2.2.1; rw [hxj, nI_clamp (by omega)] at h9; have h8 : ic_ hs j n < 40 := h9; omega) | (have h9 := h.2.2.2; rw [hxj, nI_clamp (by omega)] at h9; exact absurd (q42.symm.trans h9) (by decide)))
      refine W.widen (k := 2) (n := 47) (by decide) (by decide) ?_
      exact W.iret hx hb hr (fun t ht9 hW => ⟨⟨_, (am, at2, ic, sa, ip, tk, um, ut, L, f), rfl, ⟨by rw [hsp], by rw [hsp]; exact hI⟩, by rw [ht9, hsp]; exact hP, by rw [hsp]; exact hD⟩, hS.F ht9⟩) hS.2.2 d_U_insert_26
    · skip
      have q12 := b2_0.mp h12
      have hfull : ¬ n = 200 := by simpa using q12
      have hn2 : n < 200 := by have h200 : n ≤ 200 := hI.1.1.1; omega
      refine lv_aload_n hx hb d_U_insert_15 rfl (lv_at hl 0 rfl) ?_
      refine lv_iload_n hx hb d_U_insert_16 rfl (lv_at hl 1 rfl) ?_
      refine toi_ (y := nI j) (hxj) ?_
      refine vp_callSi (va_Run.run (va_runV (C := RU) (As := [.int (nI j)]) (rest := []) ⟨hx, hb, hml, hown, hg⟩ (m_U_insertsOf l D cA au am at2 ic (nI T.length) sa ip tk um ut L f hs ac n la j hj (fun k hk => (hI.1.1.2.2.1 k hk).1) hI.2.1 hI.1.1.1) (cwV 1 hg (gd_V ml_U_47 im_U_insertsOf sl_U_insertsOf ini_U cd_U_insertsOf) rfl rfl rfl (by decide +kernel) ⟨Nat.le_of_ble_eq_true rfl, Nat.le_of_ble_eq_true rfl⟩) (pv_r (va_recv (q0 := 0) (ci := 2) hK hP rfl rfl) (hP) hK hN) rfl rfl hl.1 rfl (lv_room (Nat.le_of_ble_eq_true rfl)) d_U_insert_17 ⟨Nat.le_of_ble_eq_true rfl, Nat.le_of_ble_eq_true rfl⟩)) (fun r17 e17 => ?_)
      subst e17
      refine lv_bipush (v := 40) hx hb d_U_insert_20 (by decide) ?_
      refine toi_ (y := nI 40) (rfl) ?_
      refine lv_icmp_lt (tgt := 27) hx hb d_U_insert_22 (by decide) (fun h22 => ?_) (fun h22 => ?_)
      · skip
        have hic9 := ic_le hs j n
        have hic40 : ic_ hs j n < 40 := Nat.not_le.mp (fun h => absurd h22 (nI_nlt h (by omega)))
        refine lv_iload_n hx hb d_U_insert_27 rfl (lv_at hl 2 rfl) ?_
        refine lv_aload_n hx hb d_U_insert_28 rfl (lv_at hl 0 rfl) ?_
        refine va_get (D := D) (ci := 2) (v := .ref (am 0)) (C := RU) (T := TU) (N := 9) hx hb hg inU hown hK hP 0 rfl rfl 3 (by decide) (hg _ fl_U_18) (fun _ h9 => h9) rfl d_U_insert_29 ?_
        refine va_getN (D := D) (ci := 0) (v := .ref (am 7)) (C := RR) (T := TR) (N := 9) hx hb hg inR hown hK hP 4 rfl rfl 3 (by decide) (va_Nw.use rfl (hN.1 _ fn_U_51)) (fun _ h9 => h9) rfl d_U_insert_32 ?_
        refine lv_iload_n hx hb d_U_insert_35 rfl (lv_at hl 1 rfl) ?_
        refine toi_ (y := nI j) (hxj) ?_
        refine va_iald hx hb hK hP 11 0 rfl rfl (vp_in_nI (n := j) (N := 3) (by omega) (by omega)) d_U_insert_36 ?_
        refine toi_ (y := um.2.2.2.1 j) (by rw [nI_clamp (by omega)]) ?_
        refine toi_ (y := nI (m_r (rp_ hs ac n) j).length) ((hI.2.2.1.2.2.1 j hj).1) ?_
        refine lv_iconst (v := 1) hx hb d_U_insert_37 (by decide) ?_
        refine lv_iadd hx hb d_U_insert_38 ?_
        refine toi_ (y := nI ((m_r (rp_ hs ac n) j).length + 1)) (nI_1 _) ?_
        have h40 := (rp_mw hH ac (Nat.le_refl n)).1 j hj
        refine vp_callSi (va_Run.run (va_runS (As := [.int y9, .int (nI ((m_r (rp_ hs ac n) j).length + 1))]) (rest := []) ⟨hx, hb, hml, hown, hg⟩ (m_U_isIndex l D cA y9 ((m_r (rp_ hs ac n) j).length + 1) (by omega)) (cwS 2 hg (gd_S ml_U_32 sm_U_isIndex ini_U cd_U_isIndex) rfl rfl rfl (by decide +kernel) ⟨Nat.le_of_ble_eq_true rfl, Nat.le_of_ble_eq_true rfl⟩) (ps_r (wp_iff.mpr (fun q h => absurd h List.not_mem_nil)) hK hN) rfl rfl hl.1 rfl (lv_room (Nat.le_of_ble_eq_true rfl)) d_U_insert_39 ⟨Nat.le_of_ble_eq_true rfl, Nat.le_of_ble_eq_true rfl⟩)) (fun r39 e39 => ?_)
        subst e39
        refine lv_if_ne (tgt := 47) hx hb d_U_insert_42 (by decide) (fun h42 => ?_) (fun h42 => ?_)
        · skip
          have q42 := b2_n.mp h42
          obtain ⟨k, hk, hyk⟩ := inx_n q42
          refine lv_aload_n hx hb d_U_insert_47 rfl (lv_at hl 0 rfl) ?_
          refine lv_iconst (v := 3) hx hb d_U_insert_48 (by decide) ?_
          refine lv_iload_n hx hb d_U_insert_49 rfl (lv_at hl 1 rfl) ?_
          refine toi_ (y := nI j) (hxj) ?_
          refine lv_iconst (v := 0) hx hb d_U_insert_50 (by decide) ?_
          refine lv_iload_n hx hb d_U_insert_51 rfl (lv_at hl 3 rfl) ?_
          refine lv_i2l (v := v.toInt64) hx hb d_U_insert_52 (rfl) ?_
          refine lv_aload_n hx hb d_U_insert_53 rfl (lv_at hl 0 rfl) ?_
          refine va_get (D := D) (ci := 2) (v := .ref (am 0)) (C := RU) (T := TU) (N := 9) hx hb hg inU hown hK hP 0 rfl rfl 3 (by decide) (hg _ fl_U_18) (fun _ h9 => h9) rfl d_U_insert_54 ?_
          refine lv_iload_n hx hb d_U_insert_57 rfl (lv_at hl 1 rfl) ?_
          refine toi_ (y := nI j) (hxj) ?_
          refine lv_iload_n hx hb d_U_insert_58 rfl (lv_at hl 2 rfl) ?_
          refine toi_ (y := nI k) (hyk) ?_
          refine lv_iconst (v := 0) hx hb d_U_insert_59 (by decide) ?_
          have hmw := rp_mw hH ac (Nat.le_refl n)
          have hfa : (m_r (rp_ hs ac n) j).filter (fun y => decide (y ≠ 0)) = (m_r (rp_ hs ac n) j) := fl_all (fun y hy he => by have h9 := hmw.2.2.2.2.2.2.1 y (hmw.2.2.2.2.2.2.2.1 j y hy); rw [he] at h9; exact absurd h9 (by decide))
          have h40 := hmw.1 j hj
          have hk9 : k ≤ ((m_r (rp_ hs ac n) j).filter (fun y => decide (y ≠ 0))).length := by rw [hfa]; omega
          have hP := wp_pm (pc_ca _ _ _) hP
          have hD := wd_pm (pc_ca _ _ _) hD
          refine mu_r (w := wq_ cA am um) (wr := ((wU cA au (am 0) (at2 0) (nI n) (nI la) ic (nI T.length) sa ip tk) ++ ((wq_ cA at2 ut) ++ (va_pl L f)))) (w' := fun r u => wq_ cA am um ++ [(r, .inl (cA 0, k, .inl u))]) (va_runV (C := RR) (As := [.int (nI j), .int (nI k), .int 0]) (rest := [.long v.toInt64, .int 0, .int (nI j), .int 3, .ref (au 0)]) ⟨hx, hb, hml, hown, hg⟩ (m_R_placeBefore l D cA s.heap.size am um.1 um.2.1 um.2.2.1 um.2.2.2.1 um.2.2.2.2.1 um.2.2.2.2.2.1 um.2.2.2.2.2.2.1 um.2.2.2.2.2.2.2.1 um.2.2.2.2.2.2.2.2 j k 0 hj (rp_ hs ac n) hI.2.2.1 hmw (by omega) hk9) (cwV 3 hg (gd_V ml_U_54 im_R_placeBefore sl_R_placeBefore ini_R cd_R_placeBefore) rfl rfl rfl (by decide +kernel) ⟨Nat.le_of_ble_eq_true rfl, Nat.le_of_ble_eq_true rfl⟩) (pv_m (va_recv (q0 := 0) (ci := 0) hK hP rfl rfl) (wp_l hP) hK hN (wd_l hD)) rfl rfl hl.1 rfl (lv_room (Nat.le_of_ble_eq_true rfl)) d_U_insert_60 ⟨Nat.le_of_ble_eq_true rfl, Nat.le_of_ble_eq_true rfl⟩) hP hD hS hA (fun g9 q H locs hg9 hP hD hS => ?_)
          have hP := wp_pm (pm_pl _ _ _ _) hP
          have hD := wd_pm (pm_pl _ _ _ _) hD
          obtain ⟨hqn, hpush⟩ := pl_push hD
          rw [hpush] at hP hD
          have hI2 : uI_ cA (hs, ac, n, la, T) (am, at2, ic, sa, ip, tk, um, ut, L ++ [q], va_up f q (.inl (cA 0, k, .inl g9))) := ⟨hI.1, ui_push hI.2.1 hqn _, hI.2.2⟩
          have hqL : q ∈ L ++ [q] := List.mem_append_right _ (List.mem_singleton.mpr rfl)
          have hfq : va_up f q (.inl (cA 0, k, .inl g9)) q = .inl (cA 0, k, .inl g9) := vu_eq
          generalize hL2 : L ++ [q] = L2 at hP hD hI2 hqL
          generalize hf2 : va_up f q (.inl (cA 0, k, .inl g9)) = f2 at hP hD hI2 hfq
          have hP : va_P D cls_ ((wU cA au (am 0) (at2 0) (nI n) (nI la) ic (nI T.length) sa ip tk) ++ ((wq_ cA am um) ++ ((wq_ cA at2 ut) ++ (va_pl L2 f2)))) H := hP
          have hD : va_D A ((wU cA au (am 0) (at2 0) (nI n) (nI la) ic (nI T.length) sa ip tk) ++ ((wq_ cA am um) ++ ((wq_ cA at2 ut) ++ (va_pl L2 f2)))) := hD
          refine W.widen (k := 1) (n := 40) (by decide) (by decide) ?_
          have hpl9 : (pl_ (m_r (rp_ hs ac n) j) k 0).length = k := pl_len hk9
          have htq : tq_ (nI (la + 1), 3, nI j, 0, v.toInt64, pl_ (m_r (rp_ hs ac n) j) k 0) := tq_3 hj (by omega)
          have hla := hI.1.1.2.1
          have hcn := ca_new (ac := ac) (x := (nI (la + 1), 3, nI j, 0, v.toInt64, pl_ (m_r (rp_ hs ac n) j) k 0)) hI.1.1 hn2 rfl (fun _ => by show ic_ hs (nI j).toNatClampNeg n < 40; rw [nI_clamp (by omega)]; exact hic40) (fun _ => by show (nI j).toNatClampNeg < 3; rw [nI_clamp (by omega)]; exact hj)
          refine mu0_i (w := ((wU cA au (am 0) (at2 0) (nI n) (nI la) ic (nI T.length) sa ip tk) ++ ((wq_ cA am um) ++ ((wq_ cA at2 ut) ++ (va_pl L2 f2))))) (va_runV (C := RU) (As := [.int 3, .int (nI j), .int 0, .long v.toInt64, .ref q]) (rest := []) ⟨hx, hb, hml, hown, hg⟩ (m_U_make l D cA H.size au am at2 ic (nI T.length) sa ip tk um ut L2 f2 hs ac n la (nI (la + 1), 3, nI j, 0, v.toInt64, pl_ (m_r (rp_ hs ac n) j) k 0) q rfl hn2 hI2.2.1 hI2.2.2.1 (rp_mw hH ac (Nat.le_refl n)) htq hcn (fun _ => ⟨g9, hqL, by rw [hfq]; show _ = Sum.inl (cA 0, (pl_ (m_r (rp_ hs ac n) j) k 0).length, _); rw [hpl9], hg9⟩)) (cwV 5 hg (gd_V ml_U_43 im_U_make sl_U_make ini_U cd_U_make) rfl rfl rfl (by decide +kernel) ⟨Nat.le_of_ble_eq_true rfl, Nat.le_of_ble_eq_true rfl⟩) (pv_m (va_recv (q0 := 0) (ci := 2) hK hP rfl rfl) hP hK hN hD) rfl rfl hl.1 rfl (lv_room (Nat.le_of_ble_eq_true rfl)) d_U_insert_63 ⟨Nat.le_of_ble_eq_true rfl, Nat.le_of_ble_eq_true rfl⟩) hP hD hS hA (fun r9 u9 H locs hp hP hD hS => ?_)
          obtain ⟨k1, k2, k3⟩ := mk_fin (au := au) hI2 hn2 hla9 (x := (nI (la + 1), 3, nI j, 0, v.toInt64, pl_ (m_r (rp_ hs ac n) j) k 0)) rfl htq (fun _ => by show ic_ hs (nI j).toNatClampNeg n < 40; rw [nI_clamp (by omega)]; exact hic40) hp
          rw [← k3] at hP hD
          have hsp : sp_insert (hs, ac, n, la, T) x9 y9 v = put_ (hs, ac, n, la, T) (nI (la + 1), 3, nI j, 0, v.toInt64, pl_ (m_r (rp_ hs ac n) j) k 0) := by unfold sp_insert; rw [if_pos ⟨q5, hfull, by rw [hxj, nI_clamp (by omega)]; exact hic40, by rw [hxj, nI_clamp (by omega)]; exact q42⟩, hxj, nI_clamp (by omega), hyk, nI_clamp (by omega)]; rfl
          refine W.widen (k := 2) (n := 47) (by decide) (by decide) ?_
          exact W.iret hx hb hr (fun t ht9 hW => ⟨⟨_, (am, at2, ic, u9.1, ip, tk, u9.2.1, ut, u9.2.2.1, u9.2.2.2), rfl, ⟨by rw [hsp]; exact k1, by rw [hsp]; exact k2⟩, by rw [ht9, hsp]; exact hP, by rw [hsp]; exact hD⟩, hS.F ht9⟩) hS.2.2 d_U_insert_66
        · skip
          have q42 := b2_0.mp h42
          refine lv_iconst (v := 0) hx hb d_U_insert_45 (by decide) ?_
          have hsp : sp_insert (hs, ac, n, la, T) x9 y9 v = (0, (hs, ac, n, la, T)) := by unfold sp_insert; exact if_neg (fun h => by first | (rw [q5] at h; exact absurd h.1 (by decide)) | exact h.2.1 hfull | (have h9 := h.2.2.1; rw [hxj, nI_clamp (by omega)] at h9; have h8 : ic_ hs j n < 40 := h9; omega) | (have h9 := h.2.2.2; rw [hxj, nI_clamp (by omega)] at h9; exact absurd (q42.symm.trans h9) (by decide)))
          refine W.widen (k := 2) (n := 47) (by decide) (by decide) ?_
          exact W.iret hx hb hr (fun t ht9 hW => ⟨⟨_, (am, at2, ic, sa, ip, tk, um, ut, L, f), rfl, ⟨by rw [hsp], by rw [hsp]; exact hI⟩, by rw [ht9, hsp]; exact hP, by rw [hsp]; exact hD⟩, hS.F ht9⟩) hS.2.2 d_U_insert_46
      · skip
        have hic9 := ic_le hs j n
        have hic40 : ¬ ic_ hs j n < 40 := fun h => h22 (nI_lt h (by omega))
        refine lv_iconst (v := 0) hx hb d_U_insert_25 (by decide) ?_
        have hsp : sp_insert (hs, ac, n, la, T) x9 y9 v = (0, (hs, ac, n, la, T)) := by unfold sp_insert; exact if_neg (fun h => by first | (rw [q5] at h; exact absurd h.1 (by decide)) | exact h.2.1 hfull | (have h9 := h.2.2.1; rw [hxj, nI_clamp (by omega)] at h9; have h8 : ic_ hs j n < 40 := h9; omega) | (have h9 := h.2.2.2; rw [hxj, nI_clamp (by omega)] at h9; exact absurd (q42.symm.trans h9) (by decide)))
        refine W.widen (k := 2) (n := 47) (by decide) (by decide) ?_
        exact W.iret hx hb hr (fun t ht9 hW => ⟨⟨_, (am, at2, ic, sa, ip, tk, um, ut, L, f), rfl, ⟨by rw [hsp], by rw [hsp]; exact hI⟩, by rw [ht9, hsp]; exact hP, by rw [hsp]; exact hD⟩, hS.F ht9⟩) hS.2.2 d_U_insert_26

set_option maxHeartbeats 4000000 in
set_option maxRecDepth 100000 in
theorem m_U_move (l : Launch) (D : va_G) (cA : Nat → ClassId) (sz : Nat) (au am at2 : Nat → Nat) (ic : Int32) (sa : Nat → Option Nat) (ip tk : Nat → Int32) (um ut : rs_T) (L : List Nat) (f : Nat → va_E) (hs : Nat → st_T) (ac : Nat → Bool) (n la : Nat) (T : List Int32) (x9 y9 z9 : Int32) (hI : uI_ cA (hs, ac, n, la, T) (am, at2, ic, sa, ip, tk, um, ut, L, f)) (hla9 : la + 1 < 100000) : Met l y_U_move (.code y_U_move c_U_move 5 (some .int) :: G_) ({ frames := 5, cells := 2, slots := 47, locals := 118 }) (va_Pc [.ref (au 0), .int x9, .int y9, .int z9] (pm_ D cA ((wU cA au (am 0) (at2 0) (nI n) (nI la) ic (nI T.length) sa ip tk) ++ ((wq_ cA am um) ++ ((wq_ cA at2 ut) ++ (va_pl L f)))) sz)) (va_Qi (fun (r : Int32) (u : uc_T) => r = (sp_move (hs, ac, n, la, T) x9 y9 z9).1 ∧ uI_ cA (sp_move (hs, ac, n, la, T) x9 y9 z9).2 u) (bw_ D (va_A ((wU cA au (am 0) (at2 0) (nI n) (nI la) ic (nI T.length) sa ip tk) ++ ((wq_ cA am um) ++ ((wq_ cA at2 ut) ++ (va_pl L f)))) sz) (fun u => wX cA au (sp_move (hs, ac, n, la, T) x9 y9 z9).2 u)) (va_A ((wU cA au (am 0) (at2 0) (nI n) (nI la) ic (nI T.length) sa ip tk) ++ ((wq_ cA am um) ++ ((wq_ cA at2 ut) ++ (va_pl L f)))) sz)) 2 47 (va_A ((wU cA au (am 0) (at2 0) (nI n) (nI la) ic (nI T.length) sa ip tk) ++ ((wq_ cA am um) ++ ((wq_ cA at2 ut) ++ (va_pl L f)))) sz) := by
  refine Met.ofW (cc := c_U_move) (maxL := 5) (ret := (some .int)) (by decide) rfl ?_
  intro p e s m args below meth c s₁ B hml hv
  obtain ⟨rfl, hsz, hP, ⟨hK, hN⟩, hD0⟩ := hv
  have hx := B.exec
  have hb := B.bytes
  have hr := B.returns
  have hts := atoms_spec (ws := (.code y_U_move c_U_move 5 (some .int) :: G_)) B.pre
  have hg : ∀ w ∈ G_, w.before ([.ref (au 0), .int x9, .int y9, .int z9] : List Value).toArray s = true := fun w h => hts w (List.mem_cons_of_mem _ h)
  have hown : s.vm.findClass RU = some m.cls := findClass_of_methodNamed B.named
  have hlocks := B.notSynchronized
  subst hsz
  have hD := hD0.self (sz := s.heap.size)
  generalize hAe : va_A ((wU cA au (am 0) (at2 0) (nI n) (nI la) ic (nI T.length) sa ip tk) ++ ((wq_ cA am um) ++ ((wq_ cA at2 ut) ++ (va_pl L f)))) s.heap.size = A at hD ⊢
  have hA : ∀ q : Nat, s.heap.size ≤ q → A q := fun q h => by rw [← hAe]; exact Or.inr h
  have hS : va_S A s.heap s.heap [] := va_S.rf
  have hl := lv_entry ([.ref (au 0), .int x9, .int y9, .int z9]) (n := 5) (Nat.le_of_ble_eq_true rfl)
  rw [lg_entry_eq]
  generalize (lg_sl ([.ref (au 0), .int x9, .int y9, .int z9]) ++ List.replicate (5 - (lg_sl ([.ref (au 0), .int x9, .int y9, .int z9])).length) Slot.unset).toArray = ls at hl ⊢
  have hl : lv_has ls 5 [(0, .ref (au 0)), (1, .int x9), (2, .int y9), (3, .int z9)] := hl
  have hH : hi_ hs n la := hI.1.1
  have hU : ui_ cA hs ac n sa L f := hI.2.1
  refine lv_aload_n hx hb d_U_move_0 rfl (lv_at hl 0 rfl) ?_
  refine lv_iload_n hx hb d_U_move_1 rfl (lv_at hl 1 rfl) ?_
  refine lv_iload_n hx hb d_U_move_2 rfl (lv_at hl 2 rfl) ?_
  refine vp_callSi (va_Run.run (va_runV (C := RU) (As := [.int x9, .int y9]) (rest := []) ⟨hx, hb, hml, hown, hg⟩ (m_U_element l D cA au am at2 ic (nI T.length) sa ip tk um ut L f hs ac n la x9 y9 hI.2.2.1 (rp_mw hH ac (Nat.le_refl n))) (cwV 2 hg (gd_V ml_U_58 im_U_element sl_U_element ini_U cd_U_element) rfl rfl rfl (by decide +kernel) ⟨Nat.le_of_ble_eq_true rfl, Nat.le_of_ble_eq_true rfl⟩) (pv_r (va_recv (q0 := 0) (ci := 2) hK hP rfl rfl) (hP) hK hN) rfl rfl hl.1 rfl (lv_room (Nat.le_of_ble_eq_true rfl)) d_U_move_3 ⟨Nat.le_of_ble_eq_true rfl, Nat.le_of_ble_eq_true rfl⟩)) (fun r3 e3 => ?_)
  subst e3
  refine lv_istore (lv' := [(4, .int (sp_elem (rp_ hs ac n) x9 y9)), (0, .ref (au 0)), (1, .int x9), (2, .int y9), (3, .int z9)]) hx hb d_U_move_6 hl (by decide) rfl (fun ls hl => ?_)
  refine lv_iload hx hb d_U_move_8 (lv_at hl 0 rfl) ?_
  refine lv_if_eq (tgt := 36) hx hb d_U_move_10 (by decide) (fun h10 => ?_) (fun h10 => ?_)
  · skip
    refine lv_iconst (v := 0) hx hb d_U_move_36 (by decide) ?_
    have hsp : sp_move (hs, ac, n, la, T) x9 y9 z9 = (0, (hs, ac, n, la, T)) := by unfold sp_move; exact if_neg (fun h => by first | exact h.1 h10 | exact h.2.2 hfull | (have h9 := h.2.1; rw [hxj, nI_clamp (by omega)] at h9; exact absurd (q26.symm.trans h9) (by decide)))
    refine W.widen (k := 2) (n := 47) (by decide) (by decide) ?_
    exact W.iret hx hb hr (fun t ht9 hW => ⟨⟨_, (am, at2, ic, sa, ip, tk, um, ut, L, f), rfl, ⟨by rw [hsp], by rw [hsp]; exact hI⟩, by rw [ht9, hsp]; exact hP, by rw [hsp]; exact hD⟩, hS.F ht9⟩) hS.2.2 d_U_move_37
  · skip
    obtain ⟨j, i, hj, hxj, hi, hyi, hmem⟩ := el_row (rp_mw hH ac (Nat.le_refl n)) h10
    have h40 := (rp_mw hH ac (Nat.le_refl n)).1 j hj
    refine lv_iload_n hx hb d_U_move_13 rfl (lv_at hl 4 rfl) ?_
    refine lv_aload_n hx hb d_U_move_14 rfl (lv_at hl 1 rfl) ?_
    refine va_get (D := D) (ci := 2) (v := .ref (am 0)) (C := RU) (T := TU) (N := 9) hx hb hg inU hown hK hP 0 rfl rfl 3 (by decide) (hg _ fl_U_18) (fun _ h9 => h9) rfl d_U_move_15 ?_
    refine va_getN (D := D) (ci := 0) (v := .ref (am 7)) (C := RR) (T := TR) (N := 9) hx hb hg inR hown hK hP 4 rfl rfl 3 (by decide) (va_Nw.use rfl (hN.1 _ fn_U_51)) (fun _ h9 => h9) rfl d_U_move_18 ?_
    refine lv_iload_n hx hb d_U_move_21 rfl (lv_at hl 2 rfl) ?_
    refine toi_ (y := nI j) (hxj) ?_
    refine va_iald hx hb hK hP 11 0 rfl rfl (vp_in_nI (n := j) (N := 3) (by omega) (by omega)) d_U_move_22 ?_
    refine toi_ (y := um.2.2.2.1 j) (by rw [nI_clamp (by omega)]) ?_
    refine toi_ (y := nI (m_r (rp_ hs ac n) j).length) ((hI.2.2.1.2.2.1 j hj).1) ?_
    refine vp_callSi (va_Run.run (va_runS (As := [.int z9, .int (nI (m_r (rp_ hs ac n) j).length)]) (rest := []) ⟨hx, hb, hml, hown, hg⟩ (m_U_isIndex l D cA z9 ((m_r (rp_ hs ac n) j).length) (by omega)) (cwS 2 hg (gd_S ml_U_32 sm_U_isIndex ini_U cd_U_isIndex) rfl rfl rfl (by decide +kernel) ⟨Nat.le_of_ble_eq_true rfl, Nat.le_of_ble_eq_true rfl⟩) (ps_r (wp_iff.mpr (fun q h => absurd h List.not_mem_nil)) hK hN) rfl rfl hl.1 rfl (lv_room (Nat.le_of_ble_eq_true rfl)) d_U_move_23 ⟨Nat.le_of_ble_eq_true rfl, Nat.le_of_ble_eq_true rfl⟩)) (fun r23 e23 => ?_)
    subst e23
    refine lv_if_eq (tgt := 36) hx hb d_U_move_26 (by decide) (fun h26 => ?_) (fun h26 => ?_)
    · skip
      have q26 := b2_0.mp h26
      refine lv_iconst (v := 0) hx hb d_U_move_36 (by decide) ?_
      have hsp : sp_move (hs, ac, n, la, T) x9 y9 z9 = (0, (hs, ac, n, la, T)) := by unfold sp_move; exact if_neg (fun h => by first | exact h.1 h10 | exact h.2.2 hfull | (have h9 := h.2.1; rw [hxj, nI_clamp (by omega)] at h9; exact absurd (q26.symm.trans h9) (by decide)))
      refine W.widen (k := 2) (n := 47) (by decide) (by decide) ?_
      exact W.iret hx hb hr (fun t ht9 hW => ⟨⟨_, (am, at2, ic, sa, ip, tk, um, ut, L, f), rfl, ⟨by rw [hsp], by rw [hsp]; exact hI⟩, by rw [ht9, hsp]; exact hP, by rw [hsp]; exact hD⟩, hS.F ht9⟩) hS.2.2 d_U_move_37
    · skip
      have q26 := b2_n.mp h26
      obtain ⟨k, hk, hzk⟩ := inx_n q26
      refine lv_aload_n hx hb d_U_move_29 rfl (lv_at hl 1 rfl) ?_
      refine vp_callSi (va_Run.run (va_runV (C := RU) (As := []) (rest := []) ⟨hx, hb, hml, hown, hg⟩ (m_U_isFull l D cA au am at2 ic (nI T.length) sa ip tk um ut L f hs ac n la hI.1.1.1) (cwV 0 hg (gd_V ml_U_36 im_U_isFull sl_U_isFull ini_U cd_U_isFull) rfl rfl rfl (by decide +kernel) ⟨Nat.le_of_ble_eq_true rfl, Nat.le_of_ble_eq_true rfl⟩) (pv_r (va_recv (q0 := 0) (ci := 2) hK hP rfl rfl) (hP) hK hN) rfl rfl hl.1 rfl (lv_room (Nat.le_of_ble_eq_true rfl)) d_U_move_30 ⟨Nat.le_of_ble_eq_true rfl, Nat.le_of_ble_eq_true rfl⟩)) (fun r30 e30 => ?_)
      subst e30
      refine lv_if_eq (tgt := 38) hx hb d_U_move_33 (by decide) (fun h33 => ?_) (fun h33 => ?_)
      · skip
        have q33 := b2_0.mp h33
        have hfull : ¬ n = 200 := by simpa using q33
        have hn2 : n < 200 := by have h200 : n ≤ 200 := hI.1.1.1; omega
        refine lv_aload_n hx hb d_U_move_38 rfl (lv_at hl 1 rfl) ?_
        refine lv_iconst (v := 5) hx hb d_U_move_39 (by decide) ?_
        refine lv_iload_n hx hb d_U_move_40 rfl (lv_at hl 2 rfl) ?_
        refine toi_ (y := nI j) (hxj) ?_
        refine lv_iload hx hb d_U_move_41 (lv_at hl 0 rfl) ?_
        refine lv_lconst (v := 0) hx hb d_U_move_43 (by decide) ?_
        refine lv_aload_n hx hb d_U_move_44 rfl (lv_at hl 1 rfl) ?_
        refine va_get (D := D) (ci := 2) (v := .ref (am 0)) (C := RU) (T := TU) (N := 9) hx hb hg inU hown hK hP 0 rfl rfl 3 (by decide) (hg _ fl_U_18) (fun _ h9 => h9) rfl d_U_move_45 ?_
        refine lv_iload_n hx hb d_U_move_48 rfl (lv_at hl 2 rfl) ?_
        refine toi_ (y := nI j) (hxj) ?_
        refine lv_iload_n hx hb d_U_move_49 rfl (lv_at hl 4 rfl) ?_
        refine toi_ (y := nI k) (hzk) ?_
        refine lv_iload hx hb d_U_move_50 (lv_at hl 0 rfl) ?_
        have hmw := rp_mw hH ac (Nat.le_refl n)
        have hnd := rp_nd hH ac (Nat.le_refl n) j
        have hfo := fl_one (x := (sp_elem (rp_ hs ac n) x9 y9)) hnd
        have h40 := hmw.1 j hj
        have hk9 : k ≤ ((m_r (rp_ hs ac n) j).filter (fun y => decide (y ≠ (sp_elem (rp_ hs ac n) x9 y9)))).length := by omega
        have hP := wp_pm (pc_ca _ _ _) hP
        have hD := wd_pm (pc_ca _ _ _) hD
        refine mu_r (w := wq_ cA am um) (wr := ((wU cA au (am 0) (at2 0) (nI n) (nI la) ic (nI T.length) sa ip tk) ++ ((wq_ cA at2 ut) ++ (va_pl L f)))) (w' := fun r u => wq_ cA am um ++ [(r, .inl (cA 0, k, .inl u))]) (va_runV (C := RR) (As := [.int (nI j), .int (nI k), .int (sp_elem (rp_ hs ac n) x9 y9)]) (rest := [.long 0, .int (sp_elem (rp_ hs ac n) x9 y9), .int (nI j), .int 5, .ref (au 0)]) ⟨hx, hb, hml, hown, hg⟩ (m_R_placeBefore l D cA s.heap.size am um.1 um.2.1 um.2.2.1 um.2.2.2.1 um.2.2.2.2.1 um.2.2.2.2.2.1 um.2.2.2.2.2.2.1 um.2.2.2.2.2.2.2.1 um.2.2.2.2.2.2.2.2 j k (sp_elem (rp_ hs ac n) x9 y9) hj (rp_ hs ac n) hI.2.2.1 hmw (by omega) hk9) (cwV 3 hg (gd_V ml_U_54 im_R_placeBefore sl_R_placeBefore ini_R cd_R_placeBefore) rfl rfl rfl (by decide +kernel) ⟨Nat.le_of_ble_eq_true rfl, Nat.le_of_ble_eq_true rfl⟩) (pv_m (va_recv (q0 := 0) (ci := 0) hK hP rfl rfl) (wp_l hP) hK hN (wd_l hD)) rfl rfl hl.1 rfl (lv_room (Nat.le_of_ble_eq_true rfl)) d_U_move_52 ⟨Nat.le_of_ble_eq_true rfl, Nat.le_of_ble_eq_true rfl⟩) hP hD hS hA (fun g9 q H locs hg9 hP hD hS => ?_)
        have hP := wp_pm (pm_pl _ _ _ _) hP
        have hD := wd_pm (pm_pl _ _ _ _) hD
        obtain ⟨hqn, hpush⟩ := pl_push hD
        rw [hpush] at hP hD
        have hI2 : uI_ cA (hs, ac, n, la, T) (am, at2, ic, sa, ip, tk, um, ut, L ++ [q], va_up f q (.inl (cA 0, k, .inl g9))) := ⟨hI.1, ui_push hI.2.1 hqn _, hI.2.2⟩
        have hqL : q ∈ L ++ [q] := List.mem_append_right _ (List.mem_singleton.mpr rfl)
        have hfq : va_up f q (.inl (cA 0, k, .inl g9)) q = .inl (cA 0, k, .inl g9) := vu_eq
        generalize hL2 : L ++ [q] = L2 at hP hD hI2 hqL
        generalize hf2 : va_up f q (.inl (cA 0, k, .inl g9)) = f2 at hP hD hI2 hfq
        have hP : va_P D cls_ ((wU cA au (am 0) (at2 0) (nI n) (nI la) ic (nI T.length) sa ip tk) ++ ((wq_ cA am um) ++ ((wq_ cA at2 ut) ++ (va_pl L2 f2)))) H := hP
        have hD : va_D A ((wU cA au (am 0) (at2 0) (nI n) (nI la) ic (nI T.length) sa ip tk) ++ ((wq_ cA am um) ++ ((wq_ cA at2 ut) ++ (va_pl L2 f2)))) := hD
        refine W.widen (k := 1) (n := 40) (by decide) (by decide) ?_
        have hpl9 : (pl_ (m_r (rp_ hs ac n) j) k (sp_elem (rp_ hs ac n) x9 y9)).length = k := pl_len hk9
        have htq : tq_ (nI (la + 1), 5, nI j, (sp_elem (rp_ hs ac n) x9 y9), 0, pl_ (m_r (rp_ hs ac n) j) k (sp_elem (rp_ hs ac n) x9 y9)) := tq_5 hj (by omega)
        have hla := hI.1.1.2.1
        have hcn := ca_new (ac := ac) (x := (nI (la + 1), 5, nI j, (sp_elem (rp_ hs ac n) x9 y9), 0, pl_ (m_r (rp_ hs ac n) j) k (sp_elem (rp_ hs ac n) x9 y9))) hI.1.1 hn2 rfl (fun h => kn_ (show (5 : Int32) = 3 from h) (by decide)) (fun h => kn_ (show (5 : Int32) = 3 from h) (by decide))
        refine mu0_i (w := ((wU cA au (am 0) (at2 0) (nI n) (nI la) ic (nI T.length) sa ip tk) ++ ((wq_ cA am um) ++ ((wq_ cA at2 ut) ++ (va_pl L2 f2))))) (va_runV (C := RU) (As := [.int 5, .int (nI j), .int (sp_elem (rp_ hs ac n) x9 y9), .long 0, .ref q]) (rest := []) ⟨hx, hb, hml, hown, hg⟩ (m_U_make l D cA H.size au am at2 ic (nI T.length) sa ip tk um ut L2 f2 hs ac n la (nI (la + 1), 5, nI j, (sp_elem (rp_ hs ac n) x9 y9), 0, pl_ (m_r (rp_ hs ac n) j) k (sp_elem (rp_ hs ac n) x9 y9)) q rfl hn2 hI2.2.1 hI2.2.2.1 (rp_mw hH ac (Nat.le_refl n)) htq hcn (fun _ => ⟨g9, hqL, by rw [hfq]; show _ = Sum.inl (cA 0, (pl_ (m_r (rp_ hs ac n) j) k (sp_elem (rp_ hs ac n) x9 y9)).length, _); rw [hpl9], hg9⟩)) (cwV 5 hg (gd_V ml_U_43 im_U_make sl_U_make ini_U cd_U_make) rfl rfl rfl (by decide +kernel) ⟨Nat.le_of_ble_eq_true rfl, Nat.le_of_ble_eq_true rfl⟩) (pv_m (va_recv (q0 := 0) (ci := 2) hK hP rfl rfl) hP hK hN hD) rfl rfl hl.1 rfl (lv_room (Nat.le_of_ble_eq_true rfl)) d_U_move_55 ⟨Nat.le_of_ble_eq_true rfl, Nat.le_of_ble_eq_true rfl⟩) hP hD hS hA (fun r9 u9 H locs hp hP hD hS => ?_)
        obtain ⟨k1, k2, k3⟩ := mk_fin (au := au) hI2 hn2 hla9 (x := (nI (la + 1), 5, nI j, (sp_elem (rp_ hs ac n) x9 y9), 0, pl_ (m_r (rp_ hs ac n) j) k (sp_elem (rp_ hs ac n) x9 y9))) rfl htq (fun h => kn_ (show (5 : Int32) = 3 from h) (by decide)) hp
        rw [← k3] at hP hD
        have e1 : x9.toNatClampNeg = j := by rw [hxj]; exact nI_clamp (by omega)
        have e2 : z9.toNatClampNeg = k := by rw [hzk]; exact nI_clamp (by omega)
        have hsp : sp_move (hs, ac, n, la, T) x9 y9 z9 = put_ (hs, ac, n, la, T) (nI (la + 1), 5, nI j, (sp_elem (rp_ hs ac n) x9 y9), 0, pl_ (m_r (rp_ hs ac n) j) k (sp_elem (rp_ hs ac n) x9 y9)) := by unfold sp_move; rw [if_pos ⟨h10, by rw [e1]; exact q26, hfull⟩, e1, e2, ← hxj]; rfl
        refine W.widen (k := 2) (n := 47) (by decide) (by decide) ?_
        exact W.iret hx hb hr (fun t ht9 hW => ⟨⟨_, (am, at2, ic, u9.1, ip, tk, u9.2.1, ut, u9.2.2.1, u9.2.2.2), rfl, ⟨by rw [hsp]; exact k1, by rw [hsp]; exact k2⟩, by rw [ht9, hsp]; exact hP, by rw [hsp]; exact hD⟩, hS.F ht9⟩) hS.2.2 d_U_move_58
      · skip
        have q33 := b2_n.mp h33
        have hfull : n = 200 := by simpa using q33
        refine lv_iconst (v := 0) hx hb d_U_move_36 (by decide) ?_
        have hsp : sp_move (hs, ac, n, la, T) x9 y9 z9 = (0, (hs, ac, n, la, T)) := by unfold sp_move; exact if_neg (fun h => by first | exact h.1 h10 | exact h.2.2 hfull | (have h9 := h.2.1; rw [hxj, nI_clamp (by omega)] at h9; exact absurd (q26.symm.trans h9) (by decide)))
        refine W.widen (k := 2) (n := 47) (by decide) (by decide) ?_
        exact W.iret hx hb hr (fun t ht9 hW => ⟨⟨_, (am, at2, ic, sa, ip, tk, um, ut, L, f), rfl, ⟨by rw [hsp], by rw [hsp]; exact hI⟩, by rw [ht9, hsp]; exact hP, by rw [hsp]; exact hD⟩, hS.F ht9⟩) hS.2.2 d_U_move_37
