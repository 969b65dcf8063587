/-! UndoMemory: undoLast, redoNext, dependsOn -/
set_option maxHeartbeats 4000000 in
set_option maxRecDepth 100000 in
theorem m_U_undoLast (l : Launch) (D : va_G) (cA : Nat → ClassId) (sz : Nat) (au am at2 : Nat → Nat) (ic : Int32) (sa : Nat → Option Nat) (ip tk : Nat → Int32) (um ut : rs_T) (L : List Nat) (f : Nat → va_E) (hs : Nat → st_T) (ac : Nat → Bool) (n la : Nat) (T : List Int32) (hI : uI_ cA (hs, ac, n, la, T) (am, at2, ic, sa, ip, tk, um, ut, L, f)) (hla9 : la + 1 < 100000) : Met l y_U_undoLast (.code y_U_undoLast c_U_undoLast 3 (some .int) :: G_) ({ frames := 6, cells := 0, slots := 0, locals := 135 }) (va_Pc [.ref (au 0)] (pm_ D cA ((wU cA au (am 0) (at2 0) (nI n) (nI la) ic (nI T.length) sa ip tk) ++ ((wq_ cA am um) ++ ((wq_ cA at2 ut) ++ (va_pl L f)))) sz)) (va_Qi (fun (r : Int32) (u : uc_T) => r = (sp_undoLast (hs, ac, n, la, T)).1 ∧ uI_ cA (sp_undoLast (hs, ac, n, la, T)).2 u) (bw_ D (va_A ((wU cA au (am 0) (at2 0) (nI n) (nI la) ic (nI T.length) sa ip tk) ++ ((wq_ cA am um) ++ ((wq_ cA at2 ut) ++ (va_pl L f)))) sz) (fun u => wX cA au (sp_undoLast (hs, ac, n, la, T)).2 u)) (va_A ((wU cA au (am 0) (at2 0) (nI n) (nI la) ic (nI T.length) sa ip tk) ++ ((wq_ cA am um) ++ ((wq_ cA at2 ut) ++ (va_pl L f)))) sz)) 0 0 (va_A ((wU cA au (am 0) (at2 0) (nI n) (nI la) ic (nI T.length) sa ip tk) ++ ((wq_ cA am um) ++ ((wq_ cA at2 ut) ++ (va_pl L f)))) sz) := by
  refine Met.ofW (cc := c_U_undoLast) (maxL := 3) (ret := (some .int)) (by decide) rfl ?_
  intro p e s m args below meth c s₁ B hml hv
  obtain ⟨rfl, hsz, hP, ⟨hK, hN⟩, hD0⟩ := hv
  have hx := B.exec
  have hb := B.bytes
  have hr := B.returns
  have hts := atoms_spec (ws := (.code y_U_undoLast c_U_undoLast 3 (some .int) :: G_)) B.pre
  have hg : ∀ w ∈ G_, w.before ([.ref (au 0)] : List Value).toArray s = true := fun w h => hts w (List.mem_cons_of_mem _ h)
  have hown : s.vm.findClass RU = some m.cls := findClass_of_methodNamed B.named
  have hlocks := B.notSynchronized
  subst hsz
  have hD := hD0.self (sz := s.heap.size)
  generalize hAe : va_A ((wU cA au (am 0) (at2 0) (nI n) (nI la) ic (nI T.length) sa ip tk) ++ ((wq_ cA am um) ++ ((wq_ cA at2 ut) ++ (va_pl L f)))) s.heap.size = A at hD ⊢
  have hA : ∀ q : Nat, s.heap.size ≤ q → A q := fun q h => by rw [← hAe]; exact Or.inr h
  have hS : va_S A s.heap s.heap [] := va_S.rf
  have hl := lv_entry ([.ref (au 0)]) (n := 3) (Nat.le_of_ble_eq_true rfl)
  rw [lg_entry_eq]
  generalize (lg_sl ([.ref (au 0)]) ++ List.replicate (3 - (lg_sl ([.ref (au 0)])).length) Slot.unset).toArray = ls at hl ⊢
  have hl : lv_has ls 3 [(0, .ref (au 0))] := hl
  have hH : hi_ hs n la := hI.1.1
  have hU : ui_ cA hs ac n sa L f := hI.2.1
  refine lv_aload_n hx hb d_U_undoLast_0 rfl (lv_at hl 0 rfl) ?_
  refine vp_callSi (va_Run.run (va_runV (C := RU) (As := []) (rest := []) ⟨hx, hb, hml, hown, hg⟩ (m_U_latestActive l D cA au am at2 ic (nI T.length) sa ip tk um ut L f hs ac n la hU hH.1) (cwV 0 hg (gd_V ml_U_98 im_U_latestActive sl_U_latestActive ini_U cd_U_latestActive) rfl rfl rfl (by decide +kernel) ⟨Nat.le_of_ble_eq_true rfl, Nat.le_of_ble_eq_true rfl⟩) (pv_r (va_recv (q0 := 0) (ci := 2) hK hP rfl rfl) (hP) hK hN) rfl rfl hl.1 rfl (lv_room (Nat.le_of_ble_eq_true rfl)) d_U_undoLast_1 ⟨Nat.zero_le _, Nat.zero_le _⟩)) (fun r1 e1 => ?_)
  subst e1
  rcases hfi : lt_ ac n with _ | k
  · skip
    refine toi_ (y := -1) rfl ?_
    refine lv_istore_n (lv' := [(1, .int (-1)), (0, .ref (au 0))]) hx hb d_U_undoLast_4 rfl hl (by decide) rfl (fun ls hl => ?_)
    refine lv_iload_n hx hb d_U_undoLast_5 rfl (lv_at hl 0 rfl) ?_
    refine lv_iconst (v := (-1)) hx hb d_U_undoLast_6 (by decide) ?_
    refine lv_icmp_ne (tgt := 12) hx hb d_U_undoLast_7 (by decide) (fun h7 => ?_) (fun h7 => ?_)
    · skip
      exact absurd rfl h7
    · skip
      refine lv_iconst (v := 0) hx hb d_U_undoLast_10 (by decide) ?_
      have hsp : sp_undoLast (hs, ac, n, la, T) = (0, (hs, ac, n, la, T)) := ul_none hfi
      exact W.iret hx hb hr (fun t ht9 hW => ⟨⟨_, (am, at2, ic, sa, ip, tk, um, ut, L, f), rfl, ⟨by rw [hsp], by rw [hsp]; exact hI⟩, by rw [ht9, hsp]; exact hP, by rw [hsp]; exact hD⟩, hS.F ht9⟩) hS.2.2 d_U_undoLast_11
  · skip
    refine toi_ (y := nI k) rfl ?_
    refine lv_istore_n (lv' := [(1, .int (nI k)), (0, .ref (au 0))]) hx hb d_U_undoLast_4 rfl hl (by decide) rfl (fun ls hl => ?_)
    refine lv_iload_n hx hb d_U_undoLast_5 rfl (lv_at hl 0 rfl) ?_
    refine lv_iconst (v := (-1)) hx hb d_U_undoLast_6 (by decide) ?_
    refine lv_icmp_ne (tgt := 12) hx hb d_U_undoLast_7 (by decide) (fun h7 => ?_) (fun h7 => ?_)
    · skip
      have hklt := (lt_some hfi).1
      have h200 := hH.1
      refine lv_aload_n hx hb d_U_undoLast_12 rfl (lv_at hl 1 rfl) ?_
      refine va_get (D := D) (ci := 2) (v := .ref (au 1)) (C := RU) (T := TU) (N := 9) hx hb hg inU hown hK hP 0 rfl rfl 0 (by decide) (hg _ fl_U_11) (fun _ h9 => h9) rfl d_U_undoLast_13 ?_
      refine lv_iload_n hx hb d_U_undoLast_16 rfl (lv_at hl 0 rfl) ?_
      obtain ⟨a17, p17, hsa17, haL17, hfa17, hst17⟩ := ui_at hU (i := k) hklt (wp_r (wp_r (wp_r hP)))
      refine va_aldq hx hb hK hP 1 3 rfl rfl (vp_in_nI (n := k) (N := 200) (by omega) (by omega)) d_U_undoLast_17 ?_
      refine tov_ (y := .ref a17) (by rw [nI_clamp (by omega), hsa17]; rfl) ?_
      refine va_getN (D := D) (ci := 1) (v := .int (s_n (hs k))) (C := RS) (T := TS) (N := 7) hx hb hg inS hown hK hst17 0 rfl rfl 0 (by decide) (va_Nw.use rfl (hN.1 _ fn_U_76)) (fun _ h9 => h9) rfl d_U_undoLast_18 ?_
      refine lv_istore_n (lv' := [(2, .int (s_n (hs k))), (1, .int (nI k)), (0, .ref (au 0))]) hx hb d_U_undoLast_21 rfl hl (by decide) rfl (fun ls hl => ?_)
      refine lv_aload_n hx hb d_U_undoLast_22 rfl (lv_at hl 2 rfl) ?_
      refine lv_iload_n hx hb d_U_undoLast_23 rfl (lv_at hl 0 rfl) ?_
      refine lv_iconst (v := 0) hx hb d_U_undoLast_24 (by decide) ?_
      have hun := ul_undo (T := T) hH hI.1.2.1 hfi
      refine mu0_i (w := ((wU cA au (am 0) (at2 0) (nI n) (nI la) ic (nI T.length) sa ip tk) ++ ((wq_ cA am um) ++ ((wq_ cA at2 ut) ++ (va_pl L f))))) (va_runV (C := RU) (As := [.int (s_n (hs k)), .int 0]) (rest := []) ⟨hx, hb, hml, hown, hg⟩ (m_U_undo l D cA s.heap.size au am at2 ic sa ip tk um ut L f hs ac n la T (s_n (hs k)) false hI hla9) (cwV 2 hg (gd_V ml_U_102 im_U_undo sl_U_undo ini_U cd_U_undo) rfl rfl rfl (by decide +kernel) ⟨Nat.le_of_ble_eq_true rfl, Nat.le_of_ble_eq_true rfl⟩) (pv_m (va_recv (q0 := 0) (ci := 2) hK hP rfl rfl) hP hK hN hD) rfl rfl hl.1 rfl (lv_room (Nat.le_of_ble_eq_true rfl)) d_U_undoLast_25 ⟨Nat.zero_le _, Nat.zero_le _⟩) hP hD hS hA (fun r9 u9 H locs hp hP hD hS => ?_)
      obtain ⟨hr9, hI9⟩ := hp
      refine lv_pop hx hb d_U_undoLast_28 rfl ?_
      refine lv_iload_n hx hb d_U_undoLast_29 rfl (lv_at hl 0 rfl) ?_
      have hsp : sp_undoLast (hs, ac, n, la, T) = (s_n (hs k), (hs, va_up ac k false, n, la, [])) := ul_some hfi
      rw [hun] at hP hD hI9
      exact W.iret hx hb hr (fun t ht9 hW => ⟨⟨_, u9, rfl, ⟨by rw [hsp], by rw [hsp]; exact hI9⟩, by rw [ht9, hsp]; exact hP, by rw [hsp]; exact hD⟩, hS.F ht9⟩) hS.2.2 d_U_undoLast_30
    · skip
      exact absurd h7 (ov_ne (i := k) (by have := (lt_some hfi).1; have := hH.1; omega))

set_option maxHeartbeats 4000000 in
set_option maxRecDepth 100000 in
theorem m_U_redoNext (l : Launch) (D : va_G) (cA : Nat → ClassId) (sz : Nat) (au am at2 : Nat → Nat) (ic : Int32) (sa : Nat → Option Nat) (ip tk : Nat → Int32) (um ut : rs_T) (L : List Nat) (f : Nat → va_E) (hs : Nat → st_T) (ac : Nat → Bool) (n la : Nat) (T : List Int32) (hI : uI_ cA (hs, ac, n, la, T) (am, at2, ic, sa, ip, tk, um, ut, L, f)) (hla9 : la + 1 < 100000) : Met l y_U_redoNext (.code y_U_redoNext c_U_redoNext 3 (some .int) :: G_) ({ frames := 6, cells := 0, slots := 0, locals := 134 }) (va_Pc [.ref (au 0)] (pm_ D cA ((wU cA au (am 0) (at2 0) (nI n) (nI la) ic (nI T.length) sa ip tk) ++ ((wq_ cA am um) ++ ((wq_ cA at2 ut) ++ (va_pl L f)))) sz)) (va_Qi (fun (r : Int32) (u : uc_T) => r = (sp_redoNext (hs, ac, n, la, T)).1 ∧ uI_ cA (sp_redoNext (hs, ac, n, la, T)).2 u) (bw_ D (va_A ((wU cA au (am 0) (at2 0) (nI n) (nI la) ic (nI T.length) sa ip tk) ++ ((wq_ cA am um) ++ ((wq_ cA at2 ut) ++ (va_pl L f)))) sz) (fun u => wX cA au (sp_redoNext (hs, ac, n, la, T)).2 u)) (va_A ((wU cA au (am 0) (at2 0) (nI n) (nI la) ic (nI T.length) sa ip tk) ++ ((wq_ cA am um) ++ ((wq_ cA at2 ut) ++ (va_pl L f)))) sz)) 0 0 (va_A ((wU cA au (am 0) (at2 0) (nI n) (nI la) ic (nI T.length) sa ip tk) ++ ((wq_ cA am um) ++ ((wq_ cA at2 ut) ++ (va_pl L f)))) sz) := by
  refine Met.ofW (cc := c_U_redoNext) (maxL := 3) (ret := (some .int)) (by decide) rfl ?_
  intro p e s m args below meth c s₁ B hml hv
  obtain ⟨rfl, hsz, hP, ⟨hK, hN⟩, hD0⟩ := hv
  have hx := B.exec
  have hb := B.bytes
  have hr := B.returns
  have hts := atoms_spec (ws := (.code y_U_redoNext c_U_redoNext 3 (some .int) :: G_)) B.pre
  have hg : ∀ w ∈ G_, w.before ([.ref (au 0)] : List Value).toArray s = true := fun w h => hts w (List.mem_cons_of_mem _ h)
  have hown : s.vm.findClass RU = some m.cls := findClass_of_methodNamed B.named
  have hlocks := B.notSynchronized
  subst hsz
  have hD := hD0.self (sz := s.heap.size)
  generalize hAe : va_A ((wU cA au (am 0) (at2 0) (nI n) (nI la) ic (nI T.length) sa ip tk) ++ ((wq_ cA am um) ++ ((wq_ cA at2 ut) ++ (va_pl L f)))) s.heap.size = A at hD ⊢
  have hA : ∀ q : Nat, s.heap.size ≤ q → A q := fun q h => by rw [← hAe]; exact Or.inr h
  have hS : va_S A s.heap s.heap [] := va_S.rf
  have hl := lv_entry ([.ref (au 0)]) (n := 3) (Nat.le_of_ble_eq_true rfl)
  rw [lg_entry_eq]
  generalize (lg_sl ([.ref (au 0)]) ++ List.replicate (3 - (lg_sl ([.ref (au 0)])).length) Slot.unset).toArray = ls at hl ⊢
  have hl : lv_has ls 3 [(0, .ref (au 0))] := hl
  have hH : hi_ hs n la := hI.1.1
  have hU : ui_ cA hs ac n sa L f := hI.2.1
  refine lv_aload_n hx hb d_U_redoNext_0 rfl (lv_at hl 0 rfl) ?_
  refine vp_callSi (va_Run.run (va_runV (C := RU) (As := []) (rest := []) ⟨hx, hb, hml, hown, hg⟩ (m_U_latestActive l D cA au am at2 ic (nI T.length) sa ip tk um ut L f hs ac n la hU hH.1) (cwV 0 hg (gd_V ml_U_98 im_U_latestActive sl_U_latestActive ini_U cd_U_latestActive) rfl rfl rfl (by decide +kernel) ⟨Nat.le_of_ble_eq_true rfl, Nat.le_of_ble_eq_true rfl⟩) (pv_r (va_recv (q0 := 0) (ci := 2) hK hP rfl rfl) (hP) hK hN) rfl rfl hl.1 rfl (lv_room (Nat.le_of_ble_eq_true rfl)) d_U_redoNext_1 ⟨Nat.zero_le _, Nat.zero_le _⟩)) (fun r1 e1 => ?_)
  subst e1
  have hnk : ov_ (lt_ ac n) + 1 = nI (nk_ ac n) := by
    unfold nk_
    cases hfi : lt_ ac n with
    | none => decide
    | some k => exact nI_1 k
  have hkn : nk_ ac n ≤ n := by
    unfold nk_
    cases hfi : lt_ ac n with
    | none => exact Nat.zero_le _
    | some k => exact (lt_some hfi).1
  have h200 := hH.1
  generalize hke : nk_ ac n = k at hnk hkn
  refine lv_iconst (v := 1) hx hb d_U_redoNext_4 (by decide) ?_
  refine lv_iadd hx hb d_U_redoNext_5 ?_
  refine toi_ (y := nI k) (hnk) ?_
  refine lv_istore_n (lv' := [(1, .int (nI k)), (0, .ref (au 0))]) hx hb d_U_redoNext_6 rfl hl (by decide) rfl (fun ls hl => ?_)
  refine lv_iload_n hx hb d_U_redoNext_7 rfl (lv_at hl 0 rfl) ?_
  refine lv_aload_n hx hb d_U_redoNext_8 rfl (lv_at hl 1 rfl) ?_
  refine va_get (D := D) (ci := 2) (v := .int (nI n)) (C := RU) (T := TU) (N := 9) hx hb hg inU hown hK hP 0 rfl rfl 1 (by decide) (hg _ fl_U_106) (fun _ h9 => h9) rfl d_U_redoNext_9 ?_
  refine lv_icmp_lt (tgt := 17) hx hb d_U_redoNext_12 (by decide) (fun h12 => ?_) (fun h12 => ?_)
  · skip
    have hklt : k < n := Nat.not_le.mp (fun h => absurd h12 (nI_nlt h (by omega)))
    refine lv_aload_n hx hb d_U_redoNext_17 rfl (lv_at hl 1 rfl) ?_
    refine va_get (D := D) (ci := 2) (v := .ref (au 1)) (C := RU) (T := TU) (N := 9) hx hb hg inU hown hK hP 0 rfl rfl 0 (by decide) (hg _ fl_U_11) (fun _ h9 => h9) rfl d_U_redoNext_18 ?_
    refine lv_iload_n hx hb d_U_redoNext_21 rfl (lv_at hl 0 rfl) ?_
    obtain ⟨a22, p22, hsa22, haL22, hfa22, hst22⟩ := ui_at hU (i := k) hklt (wp_r (wp_r (wp_r hP)))
    refine va_aldq hx hb hK hP 1 3 rfl rfl (vp_in_nI (n := k) (N := 200) (by omega) (by omega)) d_U_redoNext_22 ?_
    refine tov_ (y := .ref a22) (by rw [nI_clamp (by omega), hsa22]; rfl) ?_
    refine va_getN (D := D) (ci := 1) (v := .int (s_n (hs k))) (C := RS) (T := TS) (N := 7) hx hb hg inS hown hK hst22 0 rfl rfl 0 (by decide) (va_Nw.use rfl (hN.1 _ fn_U_76)) (fun _ h9 => h9) rfl d_U_redoNext_23 ?_
    refine lv_istore_n (lv' := [(2, .int (s_n (hs k))), (1, .int (nI k)), (0, .ref (au 0))]) hx hb d_U_redoNext_26 rfl hl (by decide) rfl (fun ls hl => ?_)
    refine lv_aload_n hx hb d_U_redoNext_27 rfl (lv_at hl 2 rfl) ?_
    refine lv_iload_n hx hb d_U_redoNext_28 rfl (lv_at hl 0 rfl) ?_
    refine mu0_i (w := ((wU cA au (am 0) (at2 0) (nI n) (nI la) ic (nI T.length) sa ip tk) ++ ((wq_ cA am um) ++ ((wq_ cA at2 ut) ++ (va_pl L f))))) (va_runV (C := RU) (As := [.int (s_n (hs k))]) (rest := []) ⟨hx, hb, hml, hown, hg⟩ (m_U_redo l D cA s.heap.size au am at2 ic sa ip tk um ut L f hs ac n la T (s_n (hs k)) hI hla9) (cwV 1 hg (gd_V ml_U_109 im_U_redo sl_U_redo ini_U cd_U_redo) rfl rfl rfl (by decide +kernel) ⟨Nat.le_of_ble_eq_true rfl, Nat.le_of_ble_eq_true rfl⟩) (pv_m (va_recv (q0 := 0) (ci := 2) hK hP rfl rfl) hP hK hN hD) rfl rfl hl.1 rfl (lv_room (Nat.le_of_ble_eq_true rfl)) d_U_redoNext_29 ⟨Nat.zero_le _, Nat.zero_le _⟩) hP hD hS hA (fun r9 u9 H locs hp hP hD hS => ?_)
    obtain ⟨hr9, hI9⟩ := hp
    refine lv_iconst (v := 1) hx hb d_U_redoNext_32 (by decide) ?_
    refine lv_icmp_ne (tgt := 40) hx hb d_U_redoNext_33 (by decide) (fun h33 => ?_) (fun h33 => ?_)
    · skip
      refine lv_iconst (v := 0) hx hb d_U_redoNext_40 (by decide) ?_
      have hsp : sp_redoNext (hs, ac, n, la, T) = (0, (sp_redo (hs, ac, n, la, T) (s_n (hs k))).2) := by
        have e9 : sp_redoNext (hs, ac, n, la, T) = (if nk_ ac n < n then (if (sp_redo (hs, ac, n, la, T) (s_n (hs (nk_ ac n)))).1 = 1 then s_n (hs (nk_ ac n)) else 0, (sp_redo (hs, ac, n, la, T) (s_n (hs (nk_ ac n)))).2) else (0, (hs, ac, n, la, T))) := rfl
        rw [e9, hke, if_pos hklt, ← hr9, if_neg h33]
      exact W.iret hx hb hr (fun t ht9 hW => ⟨⟨_, u9, rfl, ⟨by rw [hsp], by rw [hsp]; exact hI9⟩, by rw [ht9, hsp]; exact hP, by rw [hsp]; exact hD⟩, hS.F ht9⟩) hS.2.2 d_U_redoNext_41
    · skip
      refine lv_iload_n hx hb d_U_redoNext_36 rfl (lv_at hl 0 rfl) ?_
      refine lv_goto (tgt := 41) hx hb d_U_redoNext_37 (by decide) ?_
      have hsp : sp_redoNext (hs, ac, n, la, T) = ((s_n (hs k)), (sp_redo (hs, ac, n, la, T) (s_n (hs k))).2) := by
        have e9 : sp_redoNext (hs, ac, n, la, T) = (if nk_ ac n < n then (if (sp_redo (hs, ac, n, la, T) (s_n (hs (nk_ ac n)))).1 = 1 then s_n (hs (nk_ ac n)) else 0, (sp_redo (hs, ac, n, la, T) (s_n (hs (nk_ ac n)))).2) else (0, (hs, ac, n, la, T))) := rfl
        rw [e9, hke, if_pos hklt, ← hr9, if_pos h33]
      exact W.iret hx hb hr (fun t ht9 hW => ⟨⟨_, u9, rfl, ⟨by rw [hsp], by rw [hsp]; exact hI9⟩, by rw [ht9, hsp]; exact hP, by rw [hsp]; exact hD⟩, hS.F ht9⟩) hS.2.2 d_U_redoNext_41
  · skip
    have hklt : ¬ k < n := fun h => h12 (nI_lt h (by omega))
    refine lv_iconst (v := 0) hx hb d_U_redoNext_15 (by decide) ?_
    have hsp : sp_redoNext (hs, ac, n, la, T) = (0, (hs, ac, n, la, T)) := by unfold sp_redoNext; exact if_neg (by change ¬ nk_ ac n < n; rw [hke]; exact hklt)
    exact W.iret hx hb hr (fun t ht9 hW => ⟨⟨_, (am, at2, ic, sa, ip, tk, um, ut, L, f), rfl, ⟨by rw [hsp], by rw [hsp]; exact hI⟩, by rw [ht9, hsp]; exact hP, by rw [hsp]; exact hD⟩, hS.F ht9⟩) hS.2.2 d_U_redoNext_16

set_option maxHeartbeats 4000000 in
set_option maxRecDepth 100000 in
theorem m_U_dependsOn (l : Launch) (D : va_G) (cA : Nat → ClassId) (sz : Nat) (au am at2 : Nat → Nat) (ic : Int32) (sa : Nat → Option Nat) (ip tk : Nat → Int32) (um ut : rs_T) (L : List Nat) (f : Nat → va_E) (hs : Nat → st_T) (ac : Nat → Bool) (n la : Nat) (T : List Int32) (x9 y9 : Int32) (hI : uI_ cA (hs, ac, n, la, T) (am, at2, ic, sa, ip, tk, um, ut, L, f)) : Met l y_U_dependsOn (.code y_U_dependsOn c_U_dependsOn 6 (some .boolean) :: G_) ({ frames := 4, cells := 0, slots := 0, locals := 91 }) (va_Pc [.ref (au 0), .int x9, .int y9] (pm_ D cA ((wU cA au (am 0) (at2 0) (nI n) (nI la) ic (nI T.length) sa ip tk) ++ ((wq_ cA am um) ++ ((wq_ cA at2 ut) ++ (va_pl L f)))) sz)) (va_Qi (fun (r : Int32) (u : uc_T) => r = b2_ (sp_dep (hs, ac, n, la, T) x9 y9) ∧ uI_ cA (hs, ac, n, la, T) u) (bw_ D (va_A ((wU cA au (am 0) (at2 0) (nI n) (nI la) ic (nI T.length) sa ip tk) ++ ((wq_ cA am um) ++ ((wq_ cA at2 ut) ++ (va_pl L f)))) sz) (fun u => wX cA au (hs, ac, n, la, T) u)) (va_A ((wU cA au (am 0) (at2 0) (nI n) (nI la) ic (nI T.length) sa ip tk) ++ ((wq_ cA am um) ++ ((wq_ cA at2 ut) ++ (va_pl L f)))) sz)) 0 0 (va_A ((wU cA au (am 0) (at2 0) (nI n) (nI la) ic (nI T.length) sa ip tk) ++ ((wq_ cA am um) ++ ((wq_ cA at2 ut) ++ (va_pl L f)))) sz) := by
  refine Met.ofW (cc := c_U_dependsOn) (maxL := 6) (ret := (some .boolean)) (by decide) rfl ?_
  intro p e s m args below meth c s₁ B hml hv
  obtain ⟨rfl, hsz, hP, ⟨hK, hN⟩, hD0⟩ := hv
  have hx := B.exec
  have hb := B.bytes
  have hr := B.returns
  have hts := atoms_spec (ws := (.code y_U_dependsOn c_U_dependsOn 6 (some .boolean) :: G_)) B.pre
  have hg : ∀ w ∈ G_, w.before ([.ref (au 0), .int x9, .int y9] : List Value).toArray s = true := fun w h => hts w (List.mem_cons_of_mem _ h)
  have hown : s.vm.findClass RU = some m.cls := findClass_of_methodNamed B.named
  have hlocks := B.notSynchronized
  subst hsz
  have hD := hD0.self (sz := s.heap.size)
  generalize hAe : va_A ((wU cA au (am 0) (at2 0) (nI n) (nI la) ic (nI T.length) sa ip tk) ++ ((wq_ cA am um) ++ ((wq_ cA at2 ut) ++ (va_pl L f)))) s.heap.size = A at hD ⊢
  have hA : ∀ q : Nat, s.heap.size ≤ q → A q := fun q h => by rw [← hAe]; exact Or.inr h
  have hS : va_S A s.heap s.heap [] := va_S.rf
  have hl := lv_entry ([.ref (au 0), .int x9, .int y9]) (n := 6) (Nat.le_of_ble_eq_true rfl)
  rw [lg_entry_eq]
  generalize (lg_sl ([.ref (au 0), .int x9, .int y9]) ++ List.replicate (6 - (lg_sl ([.ref (au 0), .int x9, .int y9])).length) Slot.unset).toArray = ls at hl ⊢
  have hl : lv_has ls 6 [(0, .ref (au 0)), (1, .int x9), (2, .int y9)] := hl
  have hH : hi_ hs n la := hI.1.1
  have hh := hH
  have hU : ui_ cA hs ac n sa L f := hI.2.1
  have hu := hU
  have h200 := hH.1
  refine lv_aload_n hx hb d_U_dependsOn_0 rfl (lv_at hl 0 rfl) ?_
  refine lv_iload_n hx hb d_U_dependsOn_1 rfl (lv_at hl 1 rfl) ?_
  refine vp_callSi (va_Run.run (va_runV (C := RU) (As := [.int x9]) (rest := []) ⟨hx, hb, hml, hown, hg⟩ (m_U_indexOf l D cA au am at2 ic (nI T.length) sa ip tk um ut L f hs ac n la x9 hU hH.1) (cwV 1 hg (gd_V ml_U_62 im_U_indexOf sl_U_indexOf ini_U cd_U_indexOf) rfl rfl rfl (by decide +kernel) ⟨Nat.le_of_ble_eq_true rfl, Nat.le_of_ble_eq_true rfl⟩) (pv_r (va_recv (q0 := 0) (ci := 2) hK hP rfl rfl) (hP) hK hN) rfl rfl hl.1 rfl (lv_room (Nat.le_of_ble_eq_true rfl)) d_U_dependsOn_2 ⟨Nat.zero_le _, Nat.zero_le _⟩)) (fun r2 e2 => ?_)
  subst e2
  rcases hhx : fn_ hs n x9 with _ | i
  · skip
    refine toi_ (y := -1) rfl ?_
    refine lv_istore_n (lv' := [(3, .int (-1)), (0, .ref (au 0)), (1, .int x9), (2, .int y9)]) hx hb d_U_dependsOn_5 rfl hl (by decide) rfl (fun ls hl => ?_)
    refine lv_aload_n hx hb d_U_dependsOn_6 rfl (lv_at hl 1 rfl) ?_
    refine lv_iload_n hx hb d_U_dependsOn_7 rfl (lv_at hl 3 rfl) ?_
    refine vp_callSi (va_Run.run (va_runV (C := RU) (As := [.int y9]) (rest := []) ⟨hx, hb, hml, hown, hg⟩ (m_U_indexOf l D cA au am at2 ic (nI T.length) sa ip tk um ut L f hs ac n la y9 hU hH.1) (cwV 1 hg (gd_V ml_U_62 im_U_indexOf sl_U_indexOf ini_U cd_U_indexOf) rfl rfl rfl (by decide +kernel) ⟨Nat.le_of_ble_eq_true rfl, Nat.le_of_ble_eq_true rfl⟩) (pv_r (va_recv (q0 := 0) (ci := 2) hK hP rfl rfl) (hP) hK hN) rfl rfl hl.1 rfl (lv_room (Nat.le_of_ble_eq_true rfl)) d_U_dependsOn_8 ⟨Nat.zero_le _, Nat.zero_le _⟩)) (fun r8 e8 => ?_)
    subst e8
    rcases hhy : fn_ hs n y9 with _ | j
    · skip
      refine toi_ (y := -1) rfl ?_
      refine lv_istore (lv' := [(4, .int (-1)), (3, .int (-1)), (0, .ref (au 0)), (1, .int x9), (2, .int y9)]) hx hb d_U_dependsOn_11 hl (by decide) rfl (fun ls hl => ?_)
      refine lv_iload_n hx hb d_U_dependsOn_13 rfl (lv_at hl 1 rfl) ?_
      refine lv_iconst (v := (-1)) hx hb d_U_dependsOn_14 (by decide) ?_
      refine lv_icmp_eq (tgt := 43) hx hb d_U_dependsOn_15 (by decide) (fun h15 => ?_) (fun h15 => ?_)
      · skip
        refine lv_iconst (v := 0) hx hb d_U_dependsOn_43 (by decide) ?_
        have hsp : sp_dep (hs, ac, n, la, T) x9 y9 = false := dp_none1 hhx
        exact W.zret hx hb hr rfl (fun t ht9 hW => ⟨⟨_, (am, at2, ic, sa, ip, tk, um, ut, L, f), rfl, ⟨by rw [hsp]; rfl, hI⟩, by rw [ht9]; exact hP, hD⟩, hS.F ht9⟩) hS.2.2 d_U_dependsOn_44
      · skip
        exact absurd rfl h15
    · skip
      refine toi_ (y := nI j) rfl ?_
      refine lv_istore (lv' := [(4, .int (nI j)), (3, .int (-1)), (0, .ref (au 0)), (1, .int x9), (2, .int y9)]) hx hb d_U_dependsOn_11 hl (by decide) rfl (fun ls hl => ?_)
      refine lv_iload_n hx hb d_U_dependsOn_13 rfl (lv_at hl 1 rfl) ?_
      refine lv_iconst (v := (-1)) hx hb d_U_dependsOn_14 (by decide) ?_
      refine lv_icmp_eq (tgt := 43) hx hb d_U_dependsOn_15 (by decide) (fun h15 => ?_) (fun h15 => ?_)
      · skip
        refine lv_iconst (v := 0) hx hb d_U_dependsOn_43 (by decide) ?_
        have hsp : sp_dep (hs, ac, n, la, T) x9 y9 = false := dp_none1 hhx
        exact W.zret hx hb hr rfl (fun t ht9 hW => ⟨⟨_, (am, at2, ic, sa, ip, tk, um, ut, L, f), rfl, ⟨by rw [hsp]; rfl, hI⟩, by rw [ht9]; exact hP, hD⟩, hS.F ht9⟩) hS.2.2 d_U_dependsOn_44
      · skip
        exact absurd rfl h15
  · skip
    refine toi_ (y := nI i) rfl ?_
    refine lv_istore_n (lv' := [(3, .int (nI i)), (0, .ref (au 0)), (1, .int x9), (2, .int y9)]) hx hb d_U_dependsOn_5 rfl hl (by decide) rfl (fun ls hl => ?_)
    refine lv_aload_n hx hb d_U_dependsOn_6 rfl (lv_at hl 1 rfl) ?_
    refine lv_iload_n hx hb d_U_dependsOn_7 rfl (lv_at hl 3 rfl) ?_
    refine vp_callSi (va_Run.run (va_runV (C := RU) (As := [.int y9]) (rest := []) ⟨hx, hb, hml, hown, hg⟩ (m_U_indexOf l D cA au am at2 ic (nI T.length) sa ip tk um ut L f hs ac n la y9 hU hH.1) (cwV 1 hg (gd_V ml_U_62 im_U_indexOf sl_U_indexOf ini_U cd_U_indexOf) rfl rfl rfl (by decide +kernel) ⟨Nat.le_of_ble_eq_true rfl, Nat.le_of_ble_eq_true rfl⟩) (pv_r (va_recv (q0 := 0) (ci := 2) hK hP rfl rfl) (hP) hK hN) rfl rfl hl.1 rfl (lv_room (Nat.le_of_ble_eq_true rfl)) d_U_dependsOn_8 ⟨Nat.zero_le _, Nat.zero_le _⟩)) (fun r8 e8 => ?_)
    subst e8
    rcases hhy : fn_ hs n y9 with _ | j
    · skip
      refine toi_ (y := -1) rfl ?_
      refine lv_istore (lv' := [(4, .int (-1)), (3, .int (nI i)), (0, .ref (au 0)), (1, .int x9), (2, .int y9)]) hx hb d_U_dependsOn_11 hl (by decide) rfl (fun ls hl => ?_)
      refine lv_iload_n hx hb d_U_dependsOn_13 rfl (lv_at hl 1 rfl) ?_
      refine lv_iconst (v := (-1)) hx hb d_U_dependsOn_14 (by decide) ?_
      refine lv_icmp_eq (tgt := 43) hx hb d_U_dependsOn_15 (by decide) (fun h15 => ?_) (fun h15 => ?_)
      · skip
        exact absurd h15 (ov_ne (i := i) (by have := (fn_some hhx).1; omega))
      · skip
        have hlthx := (fn_some hhx).1
        refine lv_iload hx hb d_U_dependsOn_18 (lv_at hl 0 rfl) ?_
        refine lv_iconst (v := (-1)) hx hb d_U_dependsOn_20 (by decide) ?_
        refine lv_icmp_eq (tgt := 43) hx hb d_U_dependsOn_21 (by decide) (fun h21 => ?_) (fun h21 => ?_)
        · skip
          refine lv_iconst (v := 0) hx hb d_U_dependsOn_43 (by decide) ?_
          have hsp : sp_dep (hs, ac, n, la, T) x9 y9 = false := dp_none2 hhy
          exact W.zret hx hb hr rfl (fun t ht9 hW => ⟨⟨_, (am, at2, ic, sa, ip, tk, um, ut, L, f), rfl, ⟨by rw [hsp]; rfl, hI⟩, by rw [ht9]; exact hP, hD⟩, hS.F ht9⟩) hS.2.2 d_U_dependsOn_44
        · skip
          exact absurd rfl h21
    · skip
      refine toi_ (y := nI j) rfl ?_
      refine lv_istore (lv' := [(4, .int (nI j)), (3, .int (nI i)), (0, .ref (au 0)), (1, .int x9), (2, .int y9)]) hx hb d_U_dependsOn_11 hl (by decide) rfl (fun ls hl => ?_)
      refine lv_iload_n hx hb d_U_dependsOn_13 rfl (lv_at hl 1 rfl) ?_
      refine lv_iconst (v := (-1)) hx hb d_U_dependsOn_14 (by decide) ?_
      refine lv_icmp_eq (tgt := 43) hx hb d_U_dependsOn_15 (by decide) (fun h15 => ?_) (fun h15 => ?_)
      · skip
        exact absurd h15 (ov_ne (i := i) (by have := (fn_some hhx).1; omega))
      · skip
        have hlthx := (fn_some hhx).1
        refine lv_iload hx hb d_U_dependsOn_18 (lv_at hl 0 rfl) ?_
        refine lv_iconst (v := (-1)) hx hb d_U_dependsOn_20 (by decide) ?_
        refine lv_icmp_eq (tgt := 43) hx hb d_U_dependsOn_21 (by decide) (fun h21 => ?_) (fun h21 => ?_)
        · skip
          exact absurd h21 (ov_ne (i := j) (by have := (fn_some hhy).1; omega))
        · skip
          have hlthy := (fn_some hhy).1
          refine lv_iload hx hb d_U_dependsOn_24 (lv_at hl 0 rfl) ?_
          refine lv_iload_n hx hb d_U_dependsOn_26 rfl (lv_at hl 1 rfl) ?_
          refine lv_icmp_ge (tgt := 43) hx hb d_U_dependsOn_27 (by decide) (fun h27 => ?_) (fun h27 => ?_)
          · skip
            have hji : ¬ j < i := fun h => absurd h27 (nI_ge h (by omega))
            refine lv_iconst (v := 0) hx hb d_U_dependsOn_43 (by decide) ?_
            have hsp : sp_dep (hs, ac, n, la, T) x9 y9 = false := by rw [dp_some (a := (hs, ac, n, la, T)) hhx hhy]; first | (show (decide (j < i) && _) = false; rw [decide_eq_false hji]; rfl) | (show (decide (j < i) && (ac j && _)) = false; rw [hac]; simp)
            exact W.zret hx hb hr rfl (fun t ht9 hW => ⟨⟨_, (am, at2, ic, sa, ip, tk, um, ut, L, f), rfl, ⟨by rw [hsp]; rfl, hI⟩, by rw [ht9]; exact hP, hD⟩, hS.F ht9⟩) hS.2.2 d_U_dependsOn_44
          · skip
            have hji : j < i := Nat.not_le.mp (fun h => h27 (nI_le h (by omega)))
            refine lv_aload_n hx hb d_U_dependsOn_30 rfl (lv_at hl 2 rfl) ?_
            refine va_get (D := D) (ci := 2) (v := .ref (au 1)) (C := RU) (T := TU) (N := 9) hx hb hg inU hown hK hP 0 rfl rfl 0 (by decide) (hg _ fl_U_11) (fun _ h9 => h9) rfl d_U_dependsOn_31 ?_
            refine lv_iload hx hb d_U_dependsOn_34 (lv_at hl 0 rfl) ?_
            obtain ⟨a36, p36, hsa36, haL36, hfa36, hst36⟩ := ui_at hU (i := j) hlthy (wp_r (wp_r (wp_r hP)))
            refine va_aldq hx hb hK hP 1 3 rfl rfl (vp_in_nI (n := j) (N := 200) (by omega) (by omega)) d_U_dependsOn_36 ?_
            refine tov_ (y := .ref a36) (by rw [nI_clamp (by omega), hsa36]; rfl) ?_
            refine va_getN (D := D) (ci := 1) (v := .int (b2_ (ac j))) (C := RS) (T := TS) (N := 7) hx hb hg inS hown hK hst36 0 rfl rfl 6 (by decide) (va_Nw.use rfl (hN.1 _ fn_U_65)) (fun _ h9 => h9) rfl d_U_dependsOn_37 ?_
            refine lv_if_ne (tgt := 45) hx hb d_U_dependsOn_40 (by decide) (fun h40 => ?_) (fun h40 => ?_)
            · skip
              have hac : ac j = true := b2_n.mp h40
              refine lv_aload_n hx hb d_U_dependsOn_45 rfl (lv_at hl 2 rfl) ?_
              refine va_get (D := D) (ci := 2) (v := .ref (at2 0)) (C := RU) (T := TU) (N := 9) hx hb hg inU hown hK hP 0 rfl rfl 4 (by decide) (hg _ fl_U_22) (fun _ h9 => h9) rfl d_U_dependsOn_46 ?_
              have hP := wp_pm (pc_3 _ _ _ _) hP
              have hD := wd_pm (pc_3 _ _ _ _) hD
              refine mu_v (w := wq_ cA at2 ut) (wr := ((wU cA au (am 0) (at2 0) (nI n) (nI la) ic (nI T.length) sa ip tk) ++ ((wq_ cA am um) ++ (va_pl L f)))) (va_runV (C := RR) (As := []) (rest := []) ⟨hx, hb, hml, hown, hg⟩ (m_R_begin l D cA s.heap.size at2 ut.1 ut.2.1 ut.2.2.1 ut.2.2.2.1 ut.2.2.2.2.1 ut.2.2.2.2.2.1 ut.2.2.2.2.2.2.1 ut.2.2.2.2.2.2.2.1 ut.2.2.2.2.2.2.2.2) (cwV 0 hg (gd_V ml_U_88 im_R_begin sl_R_begin ini_R cd_R_begin) rfl rfl rfl (by decide +kernel) ⟨Nat.le_of_ble_eq_true rfl, Nat.le_of_ble_eq_true rfl⟩) (pv_m (va_recv (q0 := 0) (ci := 0) hK hP rfl rfl) (wp_l hP) hK hN (wd_l hD)) rfl rfl hl.1 rfl (lv_room (Nat.le_of_ble_eq_true rfl)) d_U_dependsOn_49 ⟨Nat.zero_le _, Nat.zero_le _⟩) hP hD hS hA (fun ut0 H locs hut0 hP hD hS => ?_)
              have hP := wp_pm (pc_3 _ _ _ _).symm hP
              have hD := wd_pm (pc_3 _ _ _ _).symm hD
              have hP : va_P D cls_ ((wU cA au (am 0) (at2 0) (nI n) (nI la) ic (nI T.length) sa ip tk) ++ ((wq_ cA am um) ++ ((wq_ cA at2 ut0) ++ (va_pl L f)))) H := hP
              have hD : va_D A ((wU cA au (am 0) (at2 0) (nI n) (nI la) ic (nI T.length) sa ip tk) ++ ((wq_ cA am um) ++ ((wq_ cA at2 ut0) ++ (va_pl L f)))) := hD
              refine lv_iconst (v := 0) hx hb d_U_dependsOn_52 (by decide) ?_
              refine lv_istore (lv' := [(5, .int 0), (4, .int (nI j)), (3, .int (nI i)), (0, .ref (au 0)), (1, .int x9), (2, .int y9)]) hx hb d_U_dependsOn_53 hl (by decide) rfl (fun ls hl => ?_)
              have hl := lv_sub hl [0, 2, 1, 3, 4, 5] (l' := [(5, .int (nI 0)), (3, .int (nI i)), (4, .int (nI j)), (0, .ref (au 0)), (1, .int x9), (2, .int y9)]) rfl
              have loop : ∀ (d k : Nat) (ut : rs_T) (H : Heap) (locs : List Loc) (ls : Array Slot), k + d = i → cq_ (rp_ hs (va_up ac j false) k) ut → va_P D cls_ ((wU cA au (am 0) (at2 0) (nI n) (nI la) ic (nI T.length) sa ip tk) ++ ((wq_ cA am um) ++ ((wq_ cA at2 ut) ++ (va_pl L f)))) H → va_D A ((wU cA au (am 0) (at2 0) (nI n) (nI la) ic (nI T.length) sa ip tk) ++ ((wq_ cA am um) ++ ((wq_ cA at2 ut) ++ (va_pl L f)))) → va_S A s.heap H locs → lv_has ls 6 [(5, .int (nI k)), (3, .int (nI i)), (4, .int (nI j)), (0, .ref (au 0)), (1, .int x9), (2, .int y9)] → W p l e (headSpec (.code y_U_dependsOn c_U_dependsOn 6 (some .boolean) :: G_) ({ frames := 4, cells := 0, slots := 0, locals := 91 })).room s m ([.ref (au 0), .int x9, .int y9] : List Value).toArray below meth c H locs 0 0 (MQ below (va_Qi (fun (r : Int32) (u : uc_T) => r = b2_ (sp_dep (hs, ac, n, la, T) x9 y9) ∧ uI_ cA (hs, ac, n, la, T) u) (bw_ D A (fun u => wX cA au (hs, ac, n, la, T) u)) A) ([.ref (au 0), .int x9, .int y9] : List Value).toArray s 0 0 A) (F0 m 55 ls []) := by
                intro d
                induction d with
                | zero =>
                  intro k ut H locs ls hid hcq hP hD hS hl
                  have hi2 : k = i := by omega
                  subst hi2
                  refine lv_iload hx hb d_U_dependsOn_55 (lv_at hl 0 rfl) ?_
                  refine lv_iload_n hx hb d_U_dependsOn_57 rfl (lv_at hl 1 rfl) ?_
                  refine lv_icmp_ge (tgt := 102) hx hb d_U_dependsOn_58 (by decide) (fun h58 => ?_) (fun h58 => ?_)
                  · skip
                    refine lv_aload_n hx hb d_U_dependsOn_102 rfl (lv_at hl 3 rfl) ?_
                    refine va_get (D := D) (ci := 2) (v := .ref (at2 0)) (C := RU) (T := TU) (N := 9) hx hb hg inU hown hK hP 0 rfl rfl 4 (by decide) (hg _ fl_U_22) (fun _ h9 => h9) rfl d_U_dependsOn_103 ?_
                    refine lv_aload_n hx hb d_U_dependsOn_106 rfl (lv_at hl 3 rfl) ?_
                    refine va_get (D := D) (ci := 2) (v := .ref (au 1)) (C := RU) (T := TU) (N := 9) hx hb hg inU hown hK hP 0 rfl rfl 0 (by decide) (hg _ fl_U_11) (fun _ h9 => h9) rfl d_U_dependsOn_107 ?_
                    refine lv_iload_n hx hb d_U_dependsOn_110 rfl (lv_at hl 1 rfl) ?_
                    obtain ⟨a111, p111, hsa111, haL111, hfa111, hst111⟩ := ui_at hU (i := k) hlthx (wp_r (wp_r (wp_r hP)))
                    refine va_aldq hx hb hK hP 1 3 rfl rfl (vp_in_nI (n := k) (N := 200) (by omega) (by omega)) d_U_dependsOn_111 ?_
                    refine tov_ (y := .ref a111) (by rw [nI_clamp (by omega), hsa111]; rfl) ?_
                    refine vp_callSi (va_Run.run (va_runV (C := RR) (As := [.ref a111]) (rest := []) ⟨hx, hb, hml, hown, hg⟩ (m_R_isImpossible l D cA at2 ut.1 ut.2.1 ut.2.2.1 ut.2.2.2.1 ut.2.2.2.2.1 ut.2.2.2.2.2.1 ut.2.2.2.2.2.2.1 ut.2.2.2.2.2.2.2.1 ut.2.2.2.2.2.2.2.2 a111 p111 (hs k) (ac k) (hH.2.2.1 k hlthx).1.1 (rp_ hs (va_up ac j false) k) hcq (rp_mw hH (va_up ac j false) (by omega))) (cwV 1 hg (gd_V ml_U_95 im_R_isImpossible sl_R_isImpossible ini_R cd_R_isImpossible) rfl rfl rfl (by decide +kernel) ⟨Nat.le_of_ble_eq_true rfl, Nat.le_of_ble_eq_true rfl⟩) (pv_r (va_recv (q0 := 15) (ci := 0) hK hP rfl rfl) (va_P.app (wp_l (wp_r (wp_r hP))) hst111) hK hN) rfl rfl hl.1 rfl (lv_room (Nat.le_of_ble_eq_true rfl)) d_U_dependsOn_112 ⟨Nat.zero_le _, Nat.zero_le _⟩)) (fun r112 e112 => ?_)
                    subst e112
                    have hsp : sp_dep (hs, ac, n, la, T) x9 y9 = im_ (hs k) (rp_ hs (va_up ac j false) k) := by rw [dp_some (a := (hs, ac, n, la, T)) hhx hhy]; show (decide (j < k) && (ac j && _)) = _; rw [hac, decide_eq_true hji]; rfl
                    exact W.zret hx hb hr (b2_nar _) (fun t ht9 hW => ⟨⟨_, (am, at2, ic, sa, ip, tk, um, ut, L, f), rfl, ⟨by rw [hsp], ⟨hI.1, hI.2.1, hI.2.2⟩⟩, by rw [ht9]; exact hP, hD⟩, hS.F ht9⟩) hS.2.2 d_U_dependsOn_115
                  · skip
                    exact absurd (Int32.le_refl _) h58
                | succ d ih =>
                  intro k ut H locs ls hid hcq hP hD hS hl
                  have hkn : k < n := by omega
                  refine lv_iload hx hb d_U_dependsOn_55 (lv_at hl 0 rfl) ?_
                  refine lv_iload_n hx hb d_U_dependsOn_57 rfl (lv_at hl 1 rfl) ?_
                  refine lv_icmp_ge (tgt := 102) hx hb d_U_dependsOn_58 (by decide) (fun h58 => ?_) (fun h58 => ?_)
                  · skip
                    exact absurd h58 (nI_ge (by omega) (by omega))
                  · skip
                    refine lv_aload_n hx hb d_U_dependsOn_61 rfl (lv_at hl 3 rfl) ?_
                    refine va_get (D := D) (ci := 2) (v := .ref (au 1)) (C := RU) (T := TU) (N := 9) hx hb hg inU hown hK hP 0 rfl rfl 0 (by decide) (hg _ fl_U_11) (fun _ h9 => h9) rfl d_U_dependsOn_62 ?_
                    refine lv_iload hx hb d_U_dependsOn_65 (lv_at hl 0 rfl) ?_
                    obtain ⟨a67, p67, hsa67, haL67, hfa67, hst67⟩ := ui_at hU (i := k) hkn (wp_r (wp_r (wp_r hP)))
                    refine va_aldq hx hb hK hP 1 3 rfl rfl (vp_in_nI (n := k) (N := 200) (by omega) (by omega)) d_U_dependsOn_67 ?_
                    refine tov_ (y := .ref a67) (by rw [nI_clamp (by omega), hsa67]; rfl) ?_
                    refine va_getN (D := D) (ci := 1) (v := .int (b2_ (ac k))) (C := RS) (T := TS) (N := 7) hx hb hg inS hown hK hst67 0 rfl rfl 6 (by decide) (va_Nw.use rfl (hN.1 _ fn_U_65)) (fun _ h9 => h9) rfl d_U_dependsOn_68 ?_
                    refine lv_if_eq (tgt := 96) hx hb d_U_dependsOn_71 (by decide) (fun h71 => ?_) (fun h71 => ?_)
                    · skip
                      have hq := b2_0.mp h71
                      have hvk : (va_up ac j false) k = false := by
                        by_cases h8 : k = j
                        · rw [h8, vu_eq]
                        · rw [vu_ne h8]; exact hq
                      have hrs : rp_ hs (va_up ac j false) (k + 1) = rp_ hs (va_up ac j false) k := by rw [rp_s, hvk]; rfl
                      refine lv_iinc (k := 0) (v := nI (k + 1)) (lv' := [(5, .int (nI (k + 1))), (3, .int (nI i)), (4, .int (nI j)), (0, .ref (au 0)), (1, .int x9), (2, .int y9)]) hx hb d_U_dependsOn_96 hl rfl (inc_ _) (by decide) rfl (fun ls hl => ?_)
                      refine lv_goto (tgt := 55) hx hb d_U_dependsOn_99 (by decide) ?_
                      have hl := lv_sub hl [0, 1, 2, 3, 4, 5] (l' := [(5, .int (nI (k + 1))), (3, .int (nI i)), (4, .int (nI j)), (0, .ref (au 0)), (1, .int x9), (2, .int y9)]) rfl
                      exact ih (k + 1) ut H locs ls (by omega) (by rw [hrs]; exact hcq) hP hD hS hl
                    · skip
                      have hq := b2_n.mp h71
                      refine lv_iload hx hb d_U_dependsOn_74 (lv_at hl 0 rfl) ?_
                      refine lv_iload hx hb d_U_dependsOn_76 (lv_at hl 2 rfl) ?_
                      refine lv_icmp_eq (tgt := 96) hx hb d_U_dependsOn_78 (by decide) (fun h78 => ?_) (fun h78 => ?_)
                      · skip
                        have hkj : k = j := (nI_eq (by omega) (by omega)).mp h78
                        have hrs : rp_ hs (va_up ac j false) (k + 1) = rp_ hs (va_up ac j false) k := by rw [rp_s, if_neg]; rw [hkj, vu_eq]; decide
                        refine lv_iinc (k := 0) (v := nI (k + 1)) (lv' := [(5, .int (nI (k + 1))), (3, .int (nI i)), (4, .int (nI j)), (0, .ref (au 0)), (1, .int x9), (2, .int y9)]) hx hb d_U_dependsOn_96 hl rfl (inc_ _) (by decide) rfl (fun ls hl => ?_)
                        refine lv_goto (tgt := 55) hx hb d_U_dependsOn_99 (by decide) ?_
                        have hl := lv_sub hl [0, 1, 2, 3, 4, 5] (l' := [(5, .int (nI (k + 1))), (3, .int (nI i)), (4, .int (nI j)), (0, .ref (au 0)), (1, .int x9), (2, .int y9)]) rfl
                        exact ih (k + 1) ut H locs ls (by omega) (by rw [hrs]; exact hcq) hP hD hS hl
                      · skip
                        have hkj : k ≠ j := fun h => h78 (by rw [h])
                        have hrs : rp_ hs (va_up ac j false) (k + 1) = at_ (hs k) (rp_ hs (va_up ac j false) k) := by rw [rp_s, if_pos]; rw [vu_ne hkj]; exact hq
                        refine lv_aload_n hx hb d_U_dependsOn_81 rfl (lv_at hl 3 rfl) ?_
                        refine va_get (D := D) (ci := 2) (v := .ref (at2 0)) (C := RU) (T := TU) (N := 9) hx hb hg inU hown hK hP 0 rfl rfl 4 (by decide) (hg _ fl_U_22) (fun _ h9 => h9) rfl d_U_dependsOn_82 ?_
                        refine lv_aload_n hx hb d_U_dependsOn_85 rfl (lv_at hl 3 rfl) ?_
                        refine va_get (D := D) (ci := 2) (v := .ref (au 1)) (C := RU) (T := TU) (N := 9) hx hb hg inU hown hK hP 0 rfl rfl 0 (by decide) (hg _ fl_U_11) (fun _ h9 => h9) rfl d_U_dependsOn_86 ?_
                        refine lv_iload hx hb d_U_dependsOn_89 (lv_at hl 0 rfl) ?_
                        obtain ⟨a91, p91, hsa91, haL91, hfa91, hst91⟩ := ui_at hU (i := k) hkn (wp_r (wp_r (wp_r hP)))
                        refine va_aldq hx hb hK hP 1 3 rfl rfl (vp_in_nI (n := k) (N := 200) (by omega) (by omega)) d_U_dependsOn_91 ?_
                        refine tov_ (y := .ref a91) (by rw [nI_clamp (by omega), hsa91]; rfl) ?_
                        obtain ⟨a9, p9, k1, k2, k3, k4⟩ := hu k hkn
                        have ea : a9 = a91 := Option.some.inj (k1.symm.trans hsa91)
                        subst ea
                        have hP := wp_pm (pc_3 _ _ _ _) hP
                        have hD := wd_pm (pc_3 _ _ _ _) hD
                        obtain ⟨wp, hwp, hPq, hDq⟩ := wp_mk2 hP hD k2 k3 k4
                        refine mu_i (w := wq_ cA at2 ut) (wr := ((wU cA au (am 0) (at2 0) (nI n) (nI la) ic (nI T.length) sa ip tk) ++ ((wq_ cA am um) ++ (va_pl L f)))) (va_runV (C := RR) (As := [.ref a9]) (rest := []) ⟨hx, hb, hml, hown, hg⟩ (m_R_attempt l D cA H.size at2 ut.1 ut.2.1 ut.2.2.1 ut.2.2.2.1 ut.2.2.2.2.1 ut.2.2.2.2.2.1 ut.2.2.2.2.2.2.1 ut.2.2.2.2.2.2.2.1 ut.2.2.2.2.2.2.2.2 a9 p9 (hs k) (ac k) wp (rp_ hs (va_up ac j false) k) hcq (rp_mw hh (va_up ac j false) (by omega)) (tr_tq (hh.2.2.1 k hkn).1) (ca_rp hh (va_up ac j false) hkn) hwp) (cwV 1 hg (gd_V ml_U_91 im_R_attempt sl_R_attempt ini_R cd_R_attempt) rfl rfl rfl (by decide +kernel) ⟨Nat.le_of_ble_eq_true rfl, Nat.le_of_ble_eq_true rfl⟩) (pv_q (va_recv (q0 := 0) (ci := 0) hK hP rfl rfl) hPq hK hN hDq) rfl rfl hl.1 rfl (lv_room (Nat.le_of_ble_eq_true rfl)) d_U_dependsOn_92 ⟨Nat.zero_le _, Nat.zero_le _⟩) hP hD hS hA (fun r9 ut2 H locs hp hP hD hS => ?_)
                        obtain ⟨rfl, hcn⟩ := hp
                        have hP := wp_pm (pc_3 _ _ _ _).symm hP
                        have hD := wd_pm (pc_3 _ _ _ _).symm hD
                        have hP : va_P D cls_ ((wU cA au (am 0) (at2 0) (nI n) (nI la) ic (nI T.length) sa ip tk) ++ ((wq_ cA am um) ++ ((wq_ cA at2 ut2) ++ (va_pl L f)))) H := hP
                        have hD : va_D A ((wU cA au (am 0) (at2 0) (nI n) (nI la) ic (nI T.length) sa ip tk) ++ ((wq_ cA am um) ++ ((wq_ cA at2 ut2) ++ (va_pl L f)))) := hD
                        refine lv_pop hx hb d_U_dependsOn_95 rfl ?_
                        refine lv_iinc (k := 0) (v := nI (k + 1)) (lv' := [(5, .int (nI (k + 1))), (3, .int (nI i)), (4, .int (nI j)), (0, .ref (au 0)), (1, .int x9), (2, .int y9)]) hx hb d_U_dependsOn_96 hl rfl (inc_ _) (by decide) rfl (fun ls hl => ?_)
                        refine lv_goto (tgt := 55) hx hb d_U_dependsOn_99 (by decide) ?_
                        have hl := lv_sub hl [0, 1, 2, 3, 4, 5] (l' := [(5, .int (nI (k + 1))), (3, .int (nI i)), (4, .int (nI j)), (0, .ref (au 0)), (1, .int x9), (2, .int y9)]) rfl
                        exact ih (k + 1) ut2 H locs ls (by omega) (by rw [hrs]; exact hcn) hP hD hS hl
              exact loop i 0 ut0 H locs ls (by omega) hut0 hP hD hS hl
            · skip
              have hac : ac j = false := b2_0.mp h40
              refine lv_iconst (v := 0) hx hb d_U_dependsOn_43 (by decide) ?_
              have hsp : sp_dep (hs, ac, n, la, T) x9 y9 = false := by rw [dp_some (a := (hs, ac, n, la, T)) hhx hhy]; first | (show (decide (j < i) && _) = false; rw [decide_eq_false hji]; rfl) | (show (decide (j < i) && (ac j && _)) = false; rw [hac]; simp)
              exact W.zret hx hb hr rfl (fun t ht9 hW => ⟨⟨_, (am, at2, ic, sa, ip, tk, um, ut, L, f), rfl, ⟨by rw [hsp]; rfl, hI⟩, by rw [ht9]; exact hP, hD⟩, hS.F ht9⟩) hS.2.2 d_U_dependsOn_44
