/-! UndoMemory: undo, redo -/
set_option maxHeartbeats 4000000 in
set_option maxRecDepth 100000 in
theorem m_U_undo (l : Launch) (D : va_G) (cA : Nat → ClassId) (sz : Nat) (au am at2 : Nat → Nat) (ic : Int32) (sa : Nat → Option Nat) (ip tk : Nat → Int32) (um ut : rs_T) (L : List Nat) (f : Nat → va_E) (hs : Nat → st_T) (ac : Nat → Bool) (n la : Nat) (T : List Int32) (x9 : Int32) (al : Bool) (hI : uI_ cA (hs, ac, n, la, T) (am, at2, ic, sa, ip, tk, um, ut, L, f)) (hla9 : la + 1 < 100000) : Met l y_U_undo (.code y_U_undo c_U_undo 4 (some .int) :: G_) ({ frames := 5, cells := 0, slots := 0, locals := 112 }) (va_Pc [.ref (au 0), .int x9, .int (b2_ al)] (pm_ D cA ((wU cA au (am 0) (at2 0) (nI n) (nI la) ic (nI T.length) sa ip tk) ++ ((wq_ cA am um) ++ ((wq_ cA at2 ut) ++ (va_pl L f)))) sz)) (va_Qi (fun (r : Int32) (u : uc_T) => r = (sp_undo (hs, ac, n, la, T) x9 al).1 ∧ uI_ cA (sp_undo (hs, ac, n, la, T) x9 al).2 u) (bw_ D (va_A ((wU cA au (am 0) (at2 0) (nI n) (nI la) ic (nI T.length) sa ip tk) ++ ((wq_ cA am um) ++ ((wq_ cA at2 ut) ++ (va_pl L f)))) sz) (fun u => wX cA au (sp_undo (hs, ac, n, la, T) x9 al).2 u)) (va_A ((wU cA au (am 0) (at2 0) (nI n) (nI la) ic (nI T.length) sa ip tk) ++ ((wq_ cA am um) ++ ((wq_ cA at2 ut) ++ (va_pl L f)))) sz)) 0 0 (va_A ((wU cA au (am 0) (at2 0) (nI n) (nI la) ic (nI T.length) sa ip tk) ++ ((wq_ cA am um) ++ ((wq_ cA at2 ut) ++ (va_pl L f)))) sz) := by
  refine Met.ofW (cc := c_U_undo) (maxL := 4) (ret := (some .int)) (by decide) rfl ?_
  intro p e s m args below meth c s₁ B hml hv
  obtain ⟨rfl, hsz, hP, ⟨hK, hN⟩, hD0⟩ := hv
  have hx := B.exec
  have hb := B.bytes
  have hr := B.returns
  have hts := atoms_spec (ws := (.code y_U_undo c_U_undo 4 (some .int) :: G_)) B.pre
  have hg : ∀ w ∈ G_, w.before ([.ref (au 0), .int x9, .int (b2_ al)] : List Value).toArray s = true := fun w h => hts w (List.mem_cons_of_mem _ h)
  have hown : s.vm.findClass RU = some m.cls := findClass_of_methodNamed B.named
  have hlocks := B.notSynchronized
  subst hsz
  have hD := hD0.self (sz := s.heap.size)
  generalize hAe : va_A ((wU cA au (am 0) (at2 0) (nI n) (nI la) ic (nI T.length) sa ip tk) ++ ((wq_ cA am um) ++ ((wq_ cA at2 ut) ++ (va_pl L f)))) s.heap.size = A at hD ⊢
  have hA : ∀ q : Nat, s.heap.size ≤ q → A q := fun q h => by rw [← hAe]; exact Or.inr h
  have hS : va_S A s.heap s.heap [] := va_S.rf
  have hl := lv_entry ([.ref (au 0), .int x9, .int (b2_ al)]) (n := 4) (Nat.le_of_ble_eq_true rfl)
  rw [lg_entry_eq]
  generalize (lg_sl ([.ref (au 0), .int x9, .int (b2_ al)]) ++ List.replicate (4 - (lg_sl ([.ref (au 0), .int x9, .int (b2_ al)])).length) Slot.unset).toArray = ls at hl ⊢
  have hl : lv_has ls 4 [(0, .ref (au 0)), (1, .int x9), (2, .int (b2_ al))] := hl
  have hH : hi_ hs n la := hI.1.1
  have hU : ui_ cA hs ac n sa L f := hI.2.1
  refine lv_aload_n hx hb d_U_undo_0 rfl (lv_at hl 0 rfl) ?_
  refine lv_iload_n hx hb d_U_undo_1 rfl (lv_at hl 1 rfl) ?_
  refine vp_callSi (va_Run.run (va_runV (C := RU) (As := [.int x9]) (rest := []) ⟨hx, hb, hml, hown, hg⟩ (m_U_indexOf l D cA au am at2 ic (nI T.length) sa ip tk um ut L f hs ac n la x9 hI.2.1 hI.1.1.1) (cwV 1 hg (gd_V ml_U_62 im_U_indexOf sl_U_indexOf ini_U cd_U_indexOf) rfl rfl rfl (by decide +kernel) ⟨Nat.le_of_ble_eq_true rfl, Nat.le_of_ble_eq_true rfl⟩) (pv_r (va_recv (q0 := 0) (ci := 2) hK hP rfl rfl) (hP) hK hN) rfl rfl hl.1 rfl (lv_room (Nat.le_of_ble_eq_true rfl)) d_U_undo_2 ⟨Nat.zero_le _, Nat.zero_le _⟩)) (fun r2 e2 => ?_)
  subst e2
  rcases hfi : fn_ hs n x9 with _ | k
  · skip
    refine toi_ (y := -1) rfl ?_
    refine lv_istore_n (lv' := [(3, .int (-1)), (0, .ref (au 0)), (1, .int x9), (2, .int (b2_ al))]) hx hb d_U_undo_5 rfl hl (by decide) rfl (fun ls hl => ?_)
    refine lv_iload_n hx hb d_U_undo_6 rfl (lv_at hl 0 rfl) ?_
    refine lv_iconst (v := (-1)) hx hb d_U_undo_7 (by decide) ?_
    refine lv_icmp_eq (tgt := 23) hx hb d_U_undo_8 (by decide) (fun h8 => ?_) (fun h8 => ?_)
    · skip
      refine lv_iconst (v := 0) hx hb d_U_undo_23 (by decide) ?_
      have hsp : sp_undo (hs, ac, n, la, T) x9 al = (0, (hs, ac, n, la, T)) := un_none hfi
      exact W.iret hx hb hr (fun t ht9 hW => ⟨⟨_, (am, at2, ic, sa, ip, tk, um, ut, L, f), rfl, ⟨by rw [hsp], by rw [hsp]; exact hI⟩, by rw [ht9, hsp]; exact hP, by rw [hsp]; exact hD⟩, hS.F ht9⟩) hS.2.2 d_U_undo_24
    · skip
      exact absurd rfl h8
  · skip
    refine toi_ (y := nI k) rfl ?_
    refine lv_istore_n (lv' := [(3, .int (nI k)), (0, .ref (au 0)), (1, .int x9), (2, .int (b2_ al))]) hx hb d_U_undo_5 rfl hl (by decide) rfl (fun ls hl => ?_)
    refine lv_iload_n hx hb d_U_undo_6 rfl (lv_at hl 0 rfl) ?_
    refine lv_iconst (v := (-1)) hx hb d_U_undo_7 (by decide) ?_
    refine lv_icmp_eq (tgt := 23) hx hb d_U_undo_8 (by decide) (fun h8 => ?_) (fun h8 => ?_)
    · skip
      exact absurd h8 (ov_ne (i := k) (by have := (fn_some hfi).1; have := hH.1; omega))
    · skip
      have hklt := (fn_some hfi).1
      have h200 := hH.1
      refine lv_aload_n hx hb d_U_undo_11 rfl (lv_at hl 1 rfl) ?_
      refine va_get (D := D) (ci := 2) (v := .ref (au 1)) (C := RU) (T := TU) (N := 9) hx hb hg inU hown hK hP 0 rfl rfl 0 (by decide) (hg _ fl_U_11) (fun _ h9 => h9) rfl d_U_undo_12 ?_
      refine lv_iload_n hx hb d_U_undo_15 rfl (lv_at hl 0 rfl) ?_
      obtain ⟨a16, p16, hsa16, haL16, hfa16, hst16⟩ := ui_at hU (i := k) hklt (wp_r (wp_r (wp_r hP)))
      refine va_aldq hx hb hK hP 1 3 rfl rfl (vp_in_nI (n := k) (N := 200) (by omega) (by omega)) d_U_undo_16 ?_
      refine tov_ (y := .ref a16) (by rw [nI_clamp (by omega), hsa16]; rfl) ?_
      refine va_getN (D := D) (ci := 1) (v := .int (b2_ (ac k))) (C := RS) (T := TS) (N := 7) hx hb hg inS hown hK hst16 0 rfl rfl 6 (by decide) (va_Nw.use rfl (hN.1 _ fn_U_65)) (fun _ h9 => h9) rfl d_U_undo_17 ?_
      refine lv_if_ne (tgt := 25) hx hb d_U_undo_20 (by decide) (fun h20 => ?_) (fun h20 => ?_)
      · skip
        have hq1 : ac k = true := b2_n.mp h20
        refine lv_aload_n hx hb d_U_undo_25 rfl (lv_at hl 1 rfl) ?_
        refine va_get (D := D) (ci := 2) (v := .ref (au 1)) (C := RU) (T := TU) (N := 9) hx hb hg inU hown hK hP 0 rfl rfl 0 (by decide) (hg _ fl_U_11) (fun _ h9 => h9) rfl d_U_undo_26 ?_
        refine lv_iload_n hx hb d_U_undo_29 rfl (lv_at hl 0 rfl) ?_
        obtain ⟨a30, p30, hsa30, haL30, hfa30, hst30⟩ := ui_at hU (i := k) hklt (wp_r (wp_r (wp_r hP)))
        refine va_aldq hx hb hK hP 1 3 rfl rfl (vp_in_nI (n := k) (N := 200) (by omega) (by omega)) d_U_undo_30 ?_
        refine tov_ (y := .ref a30) (by rw [nI_clamp (by omega), hsa30]; rfl) ?_
        refine lv_iconst (v := 0) hx hb d_U_undo_31 (by decide) ?_
        obtain ⟨k9, hk9⟩ := cell_in (w1 := (wU cA au (am 0) (at2 0) (nI n) (nI la) ic (nI T.length) sa ip tk)) (w2 := (wq_ cA am um)) (w3 := (wq_ cA at2 ut)) haL30 hfa30
        have hDb := hD
        refine va_putN (D := D) (ci := 1) (v := .int 0) (ty := .boolean) (C := RS) (T := TS) (N := 7) hx hb hg inS tyS okS nmS hown hK hP hD hS k9 hk9 rfl 6 (by decide) (va_Nw.use rfl (hN.1 _ fn_U_65)) (fun _ h9 => h9) rfl (by decide +kernel) rfl rfl (Nat.le_of_ble_eq_true rfl) d_U_undo_32 (fun H locs hP hD hS => ?_)
        have hP : va_P D cls_ ((wU cA au (am 0) (at2 0) (nI n) (nI la) ic (nI T.length) sa ip tk) ++ ((wq_ cA am um) ++ ((wq_ cA at2 ut) ++ (va_pl L (va_up f a30 (cS (hs k) p30 false)))))) H := by rw [← set_pool (cS (hs k) p30 false) hDb haL30 hfa30 hk9]; exact hP
        have hD : va_D A ((wU cA au (am 0) (at2 0) (nI n) (nI la) ic (nI T.length) sa ip tk) ++ ((wq_ cA am um) ++ ((wq_ cA at2 ut) ++ (va_pl L (va_up f a30 (cS (hs k) p30 false)))))) := by rw [← set_pool (cS (hs k) p30 false) hDb haL30 hfa30 hk9]; exact hD
        have hu1 := ui_flag hH hU hklt hsa30 hfa30 false
        refine lv_aload_n hx hb d_U_undo_35 rfl (lv_at hl 1 rfl) ?_
        refine mu0_v (w := ((wU cA au (am 0) (at2 0) (nI n) (nI la) ic (nI T.length) sa ip tk) ++ ((wq_ cA am um) ++ ((wq_ cA at2 ut) ++ (va_pl L (va_up f a30 (cS (hs k) p30 false))))))) (va_runV (C := RU) (As := []) (rest := []) ⟨hx, hb, hml, hown, hg⟩ (m_U_replayActive l D cA H.size au am at2 ic (nI T.length) sa ip tk um ut L (va_up f a30 (cS (hs k) p30 false)) hs (va_up ac k false) n la hu1 hH) (cwV 0 hg (gd_V ml_U_69 im_U_replayActive sl_U_replayActive ini_U cd_U_replayActive) rfl rfl rfl (by decide +kernel) ⟨Nat.le_of_ble_eq_true rfl, Nat.le_of_ble_eq_true rfl⟩) (pv_m (va_recv (q0 := 0) (ci := 2) hK hP rfl rfl) hP hK hN hD) rfl rfl hl.1 rfl (lv_room (Nat.le_of_ble_eq_true rfl)) d_U_undo_36 ⟨Nat.zero_le _, Nat.zero_le _⟩) hP hD hS hA (fun u36 H locs hu36 hP hD hS => ?_)
        obtain ⟨ut2, ip2⟩ := u36
        have hcq2 : cq_ (rp_ hs (va_up ac k false) n) ut2 := hu36.1
        have hrn2 : rn_ ip2 (il_ hs (va_up ac k false) n) := hu36.2
        have hiln := il_len hs (va_up ac k false) n
        have hP : va_P D cls_ ((wU cA au (am 0) (at2 0) (nI n) (nI la) (nI (il_ hs (va_up ac k false) n).length) (nI T.length) sa ip2 tk) ++ ((wq_ cA am um) ++ ((wq_ cA at2 ut2) ++ (va_pl L (va_up f a30 (cS (hs k) p30 false)))))) H := hP
        have hD : va_D A ((wU cA au (am 0) (at2 0) (nI n) (nI la) (nI (il_ hs (va_up ac k false) n).length) (nI T.length) sa ip2 tk) ++ ((wq_ cA am um) ++ ((wq_ cA at2 ut2) ++ (va_pl L (va_up f a30 (cS (hs k) p30 false)))))) := hD
        refine lv_aload_n hx hb d_U_undo_39 rfl (lv_at hl 1 rfl) ?_
        refine va_get (D := D) (ci := 2) (v := .int (nI (il_ hs (va_up ac k false) n).length)) (C := RU) (T := TU) (N := 9) hx hb hg inU hown hK hP 0 rfl rfl 6 (by decide) (hg _ fl_U_72) (fun _ h9 => h9) rfl d_U_undo_40 ?_
        refine lv_if_le (tgt := 76) hx hb d_U_undo_43 (by decide) (fun h43 => ?_) (fun h43 => ?_)
        · skip
          have hl0 : (il_ hs (va_up ac k false) n) = [] := by
            rcases Nat.eq_zero_or_pos (il_ hs (va_up ac k false) n).length with h | h
            · exact List.eq_nil_of_length_eq_zero h
            · exact absurd h43 (nI_nle h (by omega))
          refine lv_aload_n hx hb d_U_undo_76 rfl (lv_at hl 1 rfl) ?_
          refine mu0_v (w := ((wU cA au (am 0) (at2 0) (nI n) (nI la) (nI (il_ hs (va_up ac k false) n).length) (nI T.length) sa ip2 tk) ++ ((wq_ cA am um) ++ ((wq_ cA at2 ut2) ++ (va_pl L (va_up f a30 (cS (hs k) p30 false))))))) (va_runV (C := RU) (As := []) (rest := []) ⟨hx, hb, hml, hown, hg⟩ (m_U_takeImpossibleAlong l D cA H.size au am at2 (nI T.length) sa ip2 tk um ut2 L (va_up f a30 (cS (hs k) p30 false)) hs (va_up ac k false) n la (il_ hs (va_up ac k false) n) (fun j hj => il_lt hj) (by omega) hH.1 hrn2 hu1 hH) (cwV 0 hg (gd_V ml_U_79 im_U_takeImpossibleAlong sl_U_takeImpossibleAlong ini_U cd_U_takeImpossibleAlong) rfl rfl rfl (by decide +kernel) ⟨Nat.le_of_ble_eq_true rfl, Nat.le_of_ble_eq_true rfl⟩) (pv_m (va_recv (q0 := 0) (ci := 2) hK hP rfl rfl) hP hK hN hD) rfl rfl hl.1 rfl (lv_room (Nat.le_of_ble_eq_true rfl)) d_U_undo_77 ⟨Nat.zero_le _, Nat.zero_le _⟩) hP hD hS hA (fun u77 H locs hu77 hP hD hS => ?_)
          obtain ⟨tk2, f2⟩ := u77
          have htk2 := hu77.1
          have hu2 := hu77.2
          change rl_ tk2 _ at htk2
          change ui_ cA hs _ n sa L f2 at hu2
          have hP : va_P D cls_ ((wU cA au (am 0) (at2 0) (nI n) (nI la) (nI (il_ hs (va_up ac k false) n).length) (nI (il_ hs (va_up ac k false) n).length) sa ip2 tk2) ++ ((wq_ cA am um) ++ ((wq_ cA at2 ut2) ++ (va_pl L f2)))) H := hP
          have hD : va_D A ((wU cA au (am 0) (at2 0) (nI n) (nI la) (nI (il_ hs (va_up ac k false) n).length) (nI (il_ hs (va_up ac k false) n).length) sa ip2 tk2) ++ ((wq_ cA am um) ++ ((wq_ cA at2 ut2) ++ (va_pl L f2)))) := hD
          refine lv_aload_n hx hb d_U_undo_80 rfl (lv_at hl 1 rfl) ?_
          refine mu0_v (w := ((wU cA au (am 0) (at2 0) (nI n) (nI la) (nI (il_ hs (va_up ac k false) n).length) (nI (il_ hs (va_up ac k false) n).length) sa ip2 tk2) ++ ((wq_ cA am um) ++ ((wq_ cA at2 ut2) ++ (va_pl L f2))))) (va_runV (C := RU) (As := []) (rest := []) ⟨hx, hb, hml, hown, hg⟩ (m_U_keepTrial l D cA H.size au am at2 (nI (il_ hs (va_up ac k false) n).length) (nI (il_ hs (va_up ac k false) n).length) sa ip2 tk2 um ut2 L f2 hs ac n la) (cwV 0 hg (gd_V ml_U_82 im_U_keepTrial sl_U_keepTrial ini_U cd_U_keepTrial) rfl rfl rfl (by decide +kernel) ⟨Nat.le_of_ble_eq_true rfl, Nat.le_of_ble_eq_true rfl⟩) (pv_m (va_recv (q0 := 0) (ci := 2) hK hP rfl rfl) hP hK hN hD) rfl rfl hl.1 rfl (lv_room (Nat.le_of_ble_eq_true rfl)) d_U_undo_81 ⟨Nat.zero_le _, Nat.zero_le _⟩) hP hD hS hA (fun u81 H locs hu81 hP hD hS => ?_)
          have hP : va_P D cls_ ((wU cA au (at2 0) (am 0) (nI n) (nI la) (nI (il_ hs (va_up ac k false) n).length) (nI (il_ hs (va_up ac k false) n).length) sa ip2 tk2) ++ ((wq_ cA at2 ut2) ++ ((wq_ cA am um) ++ (va_pl L f2)))) H := hP
          have hD : va_D A ((wU cA au (at2 0) (am 0) (nI n) (nI la) (nI (il_ hs (va_up ac k false) n).length) (nI (il_ hs (va_up ac k false) n).length) sa ip2 tk2) ++ ((wq_ cA at2 ut2) ++ ((wq_ cA am um) ++ (va_pl L f2)))) := hD
          refine lv_iconst (v := 1) hx hb d_U_undo_84 (by decide) ?_
          have hlm : ((il_ hs (va_up ac k false) n).map (fun j => s_n (hs j))).length = (il_ hs (va_up ac k false) n).length := List.length_map _
          have hnew : uI_ cA (hs, off_ (va_up ac k false) (il_ hs (va_up ac k false) n), n, la, (il_ hs (va_up ac k false) n).map (fun j => s_n (hs j))) (at2, am, nI (il_ hs (va_up ac k false) n).length, sa, ip2, tk2, ut2, um, L, f2) := ⟨⟨hH, il_offl, by show ((il_ hs (va_up ac k false) n).map (fun j => s_n (hs j))).length ≤ 200; omega⟩, hu2, by show cq_ (rp_ hs (off_ (va_up ac k false) (il_ hs (va_up ac k false) n)) n) ut2; rw [rp_offl]; exact hcq2, htk2⟩
          have e9 : nI (il_ hs (va_up ac k false) n).length = nI ((il_ hs (va_up ac k false) n).map (fun j => s_n (hs j))).length := by rw [hlm]
          have hP : va_P D cls_ (wU cA au (at2 0) (am 0) (nI n) (nI la) (nI (il_ hs (va_up ac k false) n).length) (nI ((il_ hs (va_up ac k false) n).map (fun j => s_n (hs j))).length) sa ip2 tk2 ++ (wq_ cA at2 ut2 ++ (wq_ cA am um ++ va_pl L f2))) H := by rw [hlm]; exact hP
          have hD : va_D A (wU cA au (at2 0) (am 0) (nI n) (nI la) (nI (il_ hs (va_up ac k false) n).length) (nI ((il_ hs (va_up ac k false) n).map (fun j => s_n (hs j))).length) sa ip2 tk2 ++ (wq_ cA at2 ut2 ++ (wq_ cA am um ++ va_pl L f2))) := by rw [hlm]; exact hD
          have hsp : sp_undo (hs, ac, n, la, T) x9 al = (1, (hs, off_ (va_up ac k false) (il_ hs (va_up ac k false) n), n, la, (il_ hs (va_up ac k false) n).map (fun j => s_n (hs j)))) := by rw [un_some (k := k) hfi]; rw [if_pos (show ac k = true from hq1)]; exact if_neg (fun h => by first | exact h.1 hl0 | exact absurd (hal.symm.trans h.2) (by decide))
          exact W.iret hx hb hr (fun t ht9 hW => ⟨⟨_, (at2, am, nI (il_ hs (va_up ac k false) n).length, sa, ip2, tk2, ut2, um, L, f2), rfl, ⟨by rw [hsp], by rw [hsp]; exact hnew⟩, by rw [ht9, hsp]; exact hP, by rw [hsp]; exact hD⟩, hS.F ht9⟩) hS.2.2 d_U_undo_85
        · skip
          have hl1 : 0 < (il_ hs (va_up ac k false) n).length := by
            rcases Nat.eq_zero_or_pos (il_ hs (va_up ac k false) n).length with h | h
            · exact absurd (by rw [h, nI_0]; exact Int32.le_refl 0) h43
            · exact h
          refine lv_iload_n hx hb d_U_undo_46 rfl (lv_at hl 3 rfl) ?_
          refine lv_if_ne (tgt := 76) hx hb d_U_undo_47 (by decide) (fun h47 => ?_) (fun h47 => ?_)
          · skip
            have hal : al = true := b2_n.mp h47
            refine lv_aload_n hx hb d_U_undo_76 rfl (lv_at hl 1 rfl) ?_
            refine mu0_v (w := ((wU cA au (am 0) (at2 0) (nI n) (nI la) (nI (il_ hs (va_up ac k false) n).length) (nI T.length) sa ip2 tk) ++ ((wq_ cA am um) ++ ((wq_ cA at2 ut2) ++ (va_pl L (va_up f a30 (cS (hs k) p30 false))))))) (va_runV (C := RU) (As := []) (rest := []) ⟨hx, hb, hml, hown, hg⟩ (m_U_takeImpossibleAlong l D cA H.size au am at2 (nI T.length) sa ip2 tk um ut2 L (va_up f a30 (cS (hs k) p30 false)) hs (va_up ac k false) n la (il_ hs (va_up ac k false) n) (fun j hj => il_lt hj) (by omega) hH.1 hrn2 hu1 hH) (cwV 0 hg (gd_V ml_U_79 im_U_takeImpossibleAlong sl_U_takeImpossibleAlong ini_U cd_U_takeImpossibleAlong) rfl rfl rfl (by decide +kernel) ⟨Nat.le_of_ble_eq_true rfl, Nat.le_of_ble_eq_true rfl⟩) (pv_m (va_recv (q0 := 0) (ci := 2) hK hP rfl rfl) hP hK hN hD) rfl rfl hl.1 rfl (lv_room (Nat.le_of_ble_eq_true rfl)) d_U_undo_77 ⟨Nat.zero_le _, Nat.zero_le _⟩) hP hD hS hA (fun u77 H locs hu77 hP hD hS => ?_)
            obtain ⟨tk2, f2⟩ := u77
            have htk2 := hu77.1
            have hu2 := hu77.2
            change rl_ tk2 _ at htk2
            change ui_ cA hs _ n sa L f2 at hu2
            have hP : va_P D cls_ ((wU cA au (am 0) (at2 0) (nI n) (nI la) (nI (il_ hs (va_up ac k false) n).length) (nI (il_ hs (va_up ac k false) n).length) sa ip2 tk2) ++ ((wq_ cA am um) ++ ((wq_ cA at2 ut2) ++ (va_pl L f2)))) H := hP
            have hD : va_D A ((wU cA au (am 0) (at2 0) (nI n) (nI la) (nI (il_ hs (va_up ac k false) n).length) (nI (il_ hs (va_up ac k false) n).length) sa ip2 tk2) ++ ((wq_ cA am um) ++ ((wq_ cA at2 ut2) ++ (va_pl L f2)))) := hD
            refine lv_aload_n hx hb d_U_undo_80 rfl (lv_at hl 1 rfl) ?_
            refine mu0_v (w := ((wU cA au (am 0) (at2 0) (nI n) (nI la) (nI (il_ hs (va_up ac k false) n).length) (nI (il_ hs (va_up ac k false) n).length) sa ip2 tk2) ++ ((wq_ cA am um) ++ ((wq_ cA at2 ut2) ++ (va_pl L f2))))) (va_runV (C := RU) (As := []) (rest := []) ⟨hx, hb, hml, hown, hg⟩ (m_U_keepTrial l D cA H.size au am at2 (nI (il_ hs (va_up ac k false) n).length) (nI (il_ hs (va_up ac k false) n).length) sa ip2 tk2 um ut2 L f2 hs ac n la) (cwV 0 hg (gd_V ml_U_82 im_U_keepTrial sl_U_keepTrial ini_U cd_U_keepTrial) rfl rfl rfl (by decide +kernel) ⟨Nat.le_of_ble_eq_true rfl, Nat.le_of_ble_eq_true rfl⟩) (pv_m (va_recv (q0 := 0) (ci := 2) hK hP rfl rfl) hP hK hN hD) rfl rfl hl.1 rfl (lv_room (Nat.le_of_ble_eq_true rfl)) d_U_undo_81 ⟨Nat.zero_le _, Nat.zero_le _⟩) hP hD hS hA (fun u81 H locs hu81 hP hD hS => ?_)
            have hP : va_P D cls_ ((wU cA au (at2 0) (am 0) (nI n) (nI la) (nI (il_ hs (va_up ac k false) n).length) (nI (il_ hs (va_up ac k false) n).length) sa ip2 tk2) ++ ((wq_ cA at2 ut2) ++ ((wq_ cA am um) ++ (va_pl L f2)))) H := hP
            have hD : va_D A ((wU cA au (at2 0) (am 0) (nI n) (nI la) (nI (il_ hs (va_up ac k false) n).length) (nI (il_ hs (va_up ac k false) n).length) sa ip2 tk2) ++ ((wq_ cA at2 ut2) ++ ((wq_ cA am um) ++ (va_pl L f2)))) := hD
            refine lv_iconst (v := 1) hx hb d_U_undo_84 (by decide) ?_
            have hlm : ((il_ hs (va_up ac k false) n).map (fun j => s_n (hs j))).length = (il_ hs (va_up ac k false) n).length := List.length_map _
            have hnew : uI_ cA (hs, off_ (va_up ac k false) (il_ hs (va_up ac k false) n), n, la, (il_ hs (va_up ac k false) n).map (fun j => s_n (hs j))) (at2, am, nI (il_ hs (va_up ac k false) n).length, sa, ip2, tk2, ut2, um, L, f2) := ⟨⟨hH, il_offl, by show ((il_ hs (va_up ac k false) n).map (fun j => s_n (hs j))).length ≤ 200; omega⟩, hu2, by show cq_ (rp_ hs (off_ (va_up ac k false) (il_ hs (va_up ac k false) n)) n) ut2; rw [rp_offl]; exact hcq2, htk2⟩
            have e9 : nI (il_ hs (va_up ac k false) n).length = nI ((il_ hs (va_up ac k false) n).map (fun j => s_n (hs j))).length := by rw [hlm]
            have hP : va_P D cls_ (wU cA au (at2 0) (am 0) (nI n) (nI la) (nI (il_ hs (va_up ac k false) n).length) (nI ((il_ hs (va_up ac k false) n).map (fun j => s_n (hs j))).length) sa ip2 tk2 ++ (wq_ cA at2 ut2 ++ (wq_ cA am um ++ va_pl L f2))) H := by rw [hlm]; exact hP
            have hD : va_D A (wU cA au (at2 0) (am 0) (nI n) (nI la) (nI (il_ hs (va_up ac k false) n).length) (nI ((il_ hs (va_up ac k false) n).map (fun j => s_n (hs j))).length) sa ip2 tk2 ++ (wq_ cA at2 ut2 ++ (wq_ cA am um ++ va_pl L f2))) := by rw [hlm]; exact hD
            have hsp : sp_undo (hs, ac, n, la, T) x9 al = (1, (hs, off_ (va_up ac k false) (il_ hs (va_up ac k false) n), n, la, (il_ hs (va_up ac k false) n).map (fun j => s_n (hs j)))) := by rw [un_some (k := k) hfi]; rw [if_pos (show ac k = true from hq1)]; exact if_neg (fun h => by first | exact h.1 hl0 | exact absurd (hal.symm.trans h.2) (by decide))
            exact W.iret hx hb hr (fun t ht9 hW => ⟨⟨_, (at2, am, nI (il_ hs (va_up ac k false) n).length, sa, ip2, tk2, ut2, um, L, f2), rfl, ⟨by rw [hsp], by rw [hsp]; exact hnew⟩, by rw [ht9, hsp]; exact hP, by rw [hsp]; exact hD⟩, hS.F ht9⟩) hS.2.2 d_U_undo_85
          · skip
            have hal : al = false := b2_0.mp h47
            refine lv_aload_n hx hb d_U_undo_50 rfl (lv_at hl 1 rfl) ?_
            refine va_get (D := D) (ci := 2) (v := .ref (au 1)) (C := RU) (T := TU) (N := 9) hx hb hg inU hown hK hP 0 rfl rfl 0 (by decide) (hg _ fl_U_11) (fun _ h9 => h9) rfl d_U_undo_51 ?_
            refine lv_iload_n hx hb d_U_undo_54 rfl (lv_at hl 0 rfl) ?_
            obtain ⟨a55, p55, hsa55, haL55, hfa55, hst55⟩ := ui_at hu1 (i := k) hklt (wp_r (wp_r (wp_r hP)))
            refine va_aldq hx hb hK hP 1 3 rfl rfl (vp_in_nI (n := k) (N := 200) (by omega) (by omega)) d_U_undo_55 ?_
            refine tov_ (y := .ref a55) (by rw [nI_clamp (by omega), hsa55]; rfl) ?_
            refine lv_iconst (v := 1) hx hb d_U_undo_56 (by decide) ?_
            obtain ⟨k9, hk9⟩ := cell_in (w1 := (wU cA au (am 0) (at2 0) (nI n) (nI la) (nI (il_ hs (va_up ac k false) n).length) (nI T.length) sa ip2 tk)) (w2 := (wq_ cA am um)) (w3 := (wq_ cA at2 ut2)) haL55 hfa55
            have hDb := hD
            refine va_putN (D := D) (ci := 1) (v := .int 1) (ty := .boolean) (C := RS) (T := TS) (N := 7) hx hb hg inS tyS okS nmS hown hK hP hD hS k9 hk9 rfl 6 (by decide) (va_Nw.use rfl (hN.1 _ fn_U_65)) (fun _ h9 => h9) rfl (by decide +kernel) rfl rfl (Nat.le_of_ble_eq_true rfl) d_U_undo_57 (fun H locs hP hD hS => ?_)
            have hP : va_P D cls_ ((wU cA au (am 0) (at2 0) (nI n) (nI la) (nI (il_ hs (va_up ac k false) n).length) (nI T.length) sa ip2 tk) ++ ((wq_ cA am um) ++ ((wq_ cA at2 ut2) ++ (va_pl L (va_up (va_up f a30 (cS (hs k) p30 false)) a55 (cS (hs k) p55 true)))))) H := by rw [← set_pool (cS (hs k) p55 true) hDb haL55 hfa55 hk9]; exact hP
            have hD : va_D A ((wU cA au (am 0) (at2 0) (nI n) (nI la) (nI (il_ hs (va_up ac k false) n).length) (nI T.length) sa ip2 tk) ++ ((wq_ cA am um) ++ ((wq_ cA at2 ut2) ++ (va_pl L (va_up (va_up f a30 (cS (hs k) p30 false)) a55 (cS (hs k) p55 true)))))) := by rw [← set_pool (cS (hs k) p55 true) hDb haL55 hfa55 hk9]; exact hD
            have hu4 := ui_flag hH hu1 hklt hsa55 hfa55 true
            rw [up_back hq1] at hu4
            refine lv_aload_n hx hb d_U_undo_60 rfl (lv_at hl 1 rfl) ?_
            refine va_get (D := D) (ci := 2) (v := .ref (au 1)) (C := RU) (T := TU) (N := 9) hx hb hg inU hown hK hP 0 rfl rfl 0 (by decide) (hg _ fl_U_11) (fun _ h9 => h9) rfl d_U_undo_61 ?_
            refine lv_aload_n hx hb d_U_undo_64 rfl (lv_at hl 1 rfl) ?_
            refine va_get (D := D) (ci := 2) (v := .ref (au 2)) (C := RU) (T := TU) (N := 9) hx hb hg inU hown hK hP 0 rfl rfl 5 (by decide) (hg _ fl_U_25) (fun _ h9 => h9) rfl d_U_undo_65 ?_
            refine lv_iconst (v := 0) hx hb d_U_undo_68 (by decide) ?_
            refine toi_ (y := nI 0) (rfl) ?_
            refine va_iald hx hb hK hP 2 0 rfl rfl (vp_in_nI (n := 0) (N := 200) (by omega) (by omega)) d_U_undo_69 ?_
            refine toi_ (y := ip2 0) (by rw [nI_clamp (by omega)]) ?_
            refine toi_ (y := nI ((il_ hs (va_up ac k false) n).getD 0 0)) (hrn2 0 hl1) ?_
            have hi0 := il_0 hl1
            obtain ⟨a70, p70, hsa70, haL70, hfa70, hst70⟩ := ui_at hu4 (i := ((il_ hs (va_up ac k false) n).getD 0 0)) (il_0 hl1) (wp_r (wp_r (wp_r hP)))
            refine va_aldq hx hb hK hP 1 3 rfl rfl (vp_in_nI (n := (il_ hs (va_up ac k false) n).getD 0 0) (N := 200) (by omega) (by omega)) d_U_undo_70 ?_
            refine tov_ (y := .ref a70) (by rw [nI_clamp (by omega), hsa70]; rfl) ?_
            refine va_getN (D := D) (ci := 1) (v := .int (s_n (hs ((il_ hs (va_up ac k false) n).getD 0 0)))) (C := RS) (T := TS) (N := 7) hx hb hg inS hown hK hst70 0 rfl rfl 0 (by decide) (va_Nw.use rfl (hN.1 _ fn_U_76)) (fun _ h9 => h9) rfl d_U_undo_71 ?_
            refine lv_ineg hx hb d_U_undo_74 ?_
            have hnew : uI_ cA (hs, ac, n, la, T) (am, at2, nI (il_ hs (va_up ac k false) n).length, sa, ip2, tk, um, ut2, L, va_up (va_up f a30 (cS (hs k) p30 false)) a55 (cS (hs k) p55 true)) := ⟨hI.1, hu4, hI.2.2⟩
            have hsp : sp_undo (hs, ac, n, la, T) x9 al = (-(s_n (hs ((il_ hs (va_up ac k false) n).getD 0 0))), (hs, ac, n, la, T)) := by rw [un_some (k := k) hfi]; rw [if_pos (show ac k = true from hq1)]; exact if_pos ⟨fun h => by rw [h] at hl1; exact absurd hl1 (Nat.lt_irrefl 0), hal⟩
            exact W.iret hx hb hr (fun t ht9 hW => ⟨⟨_, (am, at2, nI (il_ hs (va_up ac k false) n).length, sa, ip2, tk, um, ut2, L, va_up (va_up f a30 (cS (hs k) p30 false)) a55 (cS (hs k) p55 true)), rfl, ⟨by rw [hsp], by rw [hsp]; exact hnew⟩, by rw [ht9, hsp]; exact hP, by rw [hsp]; exact hD⟩, hS.F ht9⟩) hS.2.2 d_U_undo_75
      · skip
        have hq1 : ac k = false := b2_0.mp h20
        refine lv_iconst (v := 0) hx hb d_U_undo_23 (by decide) ?_
        have hsp : sp_undo (hs, ac, n, la, T) x9 al = (0, (hs, ac, n, la, T)) := by rw [un_some (k := k) hfi]; exact if_neg (by change ¬ ac k = true; rw [hq1]; decide)
        exact W.iret hx hb hr (fun t ht9 hW => ⟨⟨_, (am, at2, ic, sa, ip, tk, um, ut, L, f), rfl, ⟨by rw [hsp], by rw [hsp]; exact hI⟩, by rw [ht9, hsp]; exact hP, by rw [hsp]; exact hD⟩, hS.F ht9⟩) hS.2.2 d_U_undo_24

set_option maxHeartbeats 4000000 in
set_option maxRecDepth 100000 in
theorem m_U_redo (l : Launch) (D : va_G) (cA : Nat → ClassId) (sz : Nat) (au am at2 : Nat → Nat) (ic : Int32) (sa : Nat → Option Nat) (ip tk : Nat → Int32) (um ut : rs_T) (L : List Nat) (f : Nat → va_E) (hs : Nat → st_T) (ac : Nat → Bool) (n la : Nat) (T : List Int32) (x9 : Int32) (hI : uI_ cA (hs, ac, n, la, T) (am, at2, ic, sa, ip, tk, um, ut, L, f)) (hla9 : la + 1 < 100000) : Met l y_U_redo (.code y_U_redo c_U_redo 3 (some .int) :: G_) ({ frames := 5, cells := 0, slots := 0, locals := 112 }) (va_Pc [.ref (au 0), .int x9] (pm_ D cA ((wU cA au (am 0) (at2 0) (nI n) (nI la) ic (nI T.length) sa ip tk) ++ ((wq_ cA am um) ++ ((wq_ cA at2 ut) ++ (va_pl L f)))) sz)) (va_Qi (fun (r : Int32) (u : uc_T) => r = (sp_redo (hs, ac, n, la, T) x9).1 ∧ uI_ cA (sp_redo (hs, ac, n, la, T) x9).2 u) (bw_ D (va_A ((wU cA au (am 0) (at2 0) (nI n) (nI la) ic (nI T.length) sa ip tk) ++ ((wq_ cA am um) ++ ((wq_ cA at2 ut) ++ (va_pl L f)))) sz) (fun u => wX cA au (sp_redo (hs, ac, n, la, T) x9).2 u)) (va_A ((wU cA au (am 0) (at2 0) (nI n) (nI la) ic (nI T.length) sa ip tk) ++ ((wq_ cA am um) ++ ((wq_ cA at2 ut) ++ (va_pl L f)))) sz)) 0 0 (va_A ((wU cA au (am 0) (at2 0) (nI n) (nI la) ic (nI T.length) sa ip tk) ++ ((wq_ cA am um) ++ ((wq_ cA at2 ut) ++ (va_pl L f)))) sz) := by
  refine Met.ofW (cc := c_U_redo) (maxL := 3) (ret := (some .int)) (by decide) rfl ?_
  intro p e s m args below meth c s₁ B hml hv
  obtain ⟨rfl, hsz, hP, ⟨hK, hN⟩, hD0⟩ := hv
  have hx := B.exec
  have hb := B.bytes
  have hr := B.returns
  have hts := atoms_spec (ws := (.code y_U_redo c_U_redo 3 (some .int) :: G_)) B.pre
  have hg : ∀ w ∈ G_, w.before ([.ref (au 0), .int x9] : List Value).toArray s = true := fun w h => hts w (List.mem_cons_of_mem _ h)
  have hown : s.vm.findClass RU = some m.cls := findClass_of_methodNamed B.named
  have hlocks := B.notSynchronized
  subst hsz
  have hD := hD0.self (sz := s.heap.size)
  generalize hAe : va_A ((wU cA au (am 0) (at2 0) (nI n) (nI la) ic (nI T.length) sa ip tk) ++ ((wq_ cA am um) ++ ((wq_ cA at2 ut) ++ (va_pl L f)))) s.heap.size = A at hD ⊢
  have hA : ∀ q : Nat, s.heap.size ≤ q → A q := fun q h => by rw [← hAe]; exact Or.inr h
  have hS : va_S A s.heap s.heap [] := va_S.rf
  have hl := lv_entry ([.ref (au 0), .int x9]) (n := 3) (Nat.le_of_ble_eq_true rfl)
  rw [lg_entry_eq]
  generalize (lg_sl ([.ref (au 0), .int x9]) ++ List.replicate (3 - (lg_sl ([.ref (au 0), .int x9])).length) Slot.unset).toArray = ls at hl ⊢
  have hl : lv_has ls 3 [(0, .ref (au 0)), (1, .int x9)] := hl
  have hH : hi_ hs n la := hI.1.1
  have hU : ui_ cA hs ac n sa L f := hI.2.1
  refine lv_aload_n hx hb d_U_redo_0 rfl (lv_at hl 0 rfl) ?_
  refine lv_iload_n hx hb d_U_redo_1 rfl (lv_at hl 1 rfl) ?_
  refine vp_callSi (va_Run.run (va_runV (C := RU) (As := [.int x9]) (rest := []) ⟨hx, hb, hml, hown, hg⟩ (m_U_indexOf l D cA au am at2 ic (nI T.length) sa ip tk um ut L f hs ac n la x9 hI.2.1 hI.1.1.1) (cwV 1 hg (gd_V ml_U_62 im_U_indexOf sl_U_indexOf ini_U cd_U_indexOf) rfl rfl rfl (by decide +kernel) ⟨Nat.le_of_ble_eq_true rfl, Nat.le_of_ble_eq_true rfl⟩) (pv_r (va_recv (q0 := 0) (ci := 2) hK hP rfl rfl) (hP) hK hN) rfl rfl hl.1 rfl (lv_room (Nat.le_of_ble_eq_true rfl)) d_U_redo_2 ⟨Nat.zero_le _, Nat.zero_le _⟩)) (fun r2 e2 => ?_)
  subst e2
  rcases hfi : fn_ hs n x9 with _ | k
  · skip
    refine toi_ (y := -1) rfl ?_
    refine lv_istore_n (lv' := [(2, .int (-1)), (0, .ref (au 0)), (1, .int x9)]) hx hb d_U_redo_5 rfl hl (by decide) rfl (fun ls hl => ?_)
    refine lv_iload_n hx hb d_U_redo_6 rfl (lv_at hl 0 rfl) ?_
    refine lv_iconst (v := (-1)) hx hb d_U_redo_7 (by decide) ?_
    refine lv_icmp_eq (tgt := 23) hx hb d_U_redo_8 (by decide) (fun h8 => ?_) (fun h8 => ?_)
    · skip
      refine lv_iconst (v := 0) hx hb d_U_redo_23 (by decide) ?_
      have hsp : sp_redo (hs, ac, n, la, T) x9 = (0, (hs, ac, n, la, T)) := re_none hfi
      exact W.iret hx hb hr (fun t ht9 hW => ⟨⟨_, (am, at2, ic, sa, ip, tk, um, ut, L, f), rfl, ⟨by rw [hsp], by rw [hsp]; exact hI⟩, by rw [ht9, hsp]; exact hP, by rw [hsp]; exact hD⟩, hS.F ht9⟩) hS.2.2 d_U_redo_24
    · skip
      exact absurd rfl h8
  · skip
    refine toi_ (y := nI k) rfl ?_
    refine lv_istore_n (lv' := [(2, .int (nI k)), (0, .ref (au 0)), (1, .int x9)]) hx hb d_U_redo_5 rfl hl (by decide) rfl (fun ls hl => ?_)
    refine lv_iload_n hx hb d_U_redo_6 rfl (lv_at hl 0 rfl) ?_
    refine lv_iconst (v := (-1)) hx hb d_U_redo_7 (by decide) ?_
    refine lv_icmp_eq (tgt := 23) hx hb d_U_redo_8 (by decide) (fun h8 => ?_) (fun h8 => ?_)
    · skip
      exact absurd h8 (ov_ne (i := k) (by have := (fn_some hfi).1; have := hH.1; omega))
    · skip
      have hklt := (fn_some hfi).1
      have h200 := hH.1
      refine lv_aload_n hx hb d_U_redo_11 rfl (lv_at hl 1 rfl) ?_
      refine va_get (D := D) (ci := 2) (v := .ref (au 1)) (C := RU) (T := TU) (N := 9) hx hb hg inU hown hK hP 0 rfl rfl 0 (by decide) (hg _ fl_U_11) (fun _ h9 => h9) rfl d_U_redo_12 ?_
      refine lv_iload_n hx hb d_U_redo_15 rfl (lv_at hl 0 rfl) ?_
      obtain ⟨a16, p16, hsa16, haL16, hfa16, hst16⟩ := ui_at hU (i := k) hklt (wp_r (wp_r (wp_r hP)))
      refine va_aldq hx hb hK hP 1 3 rfl rfl (vp_in_nI (n := k) (N := 200) (by omega) (by omega)) d_U_redo_16 ?_
      refine tov_ (y := .ref a16) (by rw [nI_clamp (by omega), hsa16]; rfl) ?_
      refine va_getN (D := D) (ci := 1) (v := .int (b2_ (ac k))) (C := RS) (T := TS) (N := 7) hx hb hg inS hown hK hst16 0 rfl rfl 6 (by decide) (va_Nw.use rfl (hN.1 _ fn_U_65)) (fun _ h9 => h9) rfl d_U_redo_17 ?_
      refine lv_if_eq (tgt := 25) hx hb d_U_redo_20 (by decide) (fun h20 => ?_) (fun h20 => ?_)
      · skip
        have hq1 : ac k = false := b2_0.mp h20
        refine lv_aload_n hx hb d_U_redo_25 rfl (lv_at hl 1 rfl) ?_
        refine va_get (D := D) (ci := 2) (v := .ref (au 1)) (C := RU) (T := TU) (N := 9) hx hb hg inU hown hK hP 0 rfl rfl 0 (by decide) (hg _ fl_U_11) (fun _ h9 => h9) rfl d_U_redo_26 ?_
        refine lv_iload_n hx hb d_U_redo_29 rfl (lv_at hl 0 rfl) ?_
        obtain ⟨a30, p30, hsa30, haL30, hfa30, hst30⟩ := ui_at hU (i := k) hklt (wp_r (wp_r (wp_r hP)))
        refine va_aldq hx hb hK hP 1 3 rfl rfl (vp_in_nI (n := k) (N := 200) (by omega) (by omega)) d_U_redo_30 ?_
        refine tov_ (y := .ref a30) (by rw [nI_clamp (by omega), hsa30]; rfl) ?_
        refine lv_iconst (v := 1) hx hb d_U_redo_31 (by decide) ?_
        obtain ⟨k9, hk9⟩ := cell_in (w1 := (wU cA au (am 0) (at2 0) (nI n) (nI la) ic (nI T.length) sa ip tk)) (w2 := (wq_ cA am um)) (w3 := (wq_ cA at2 ut)) haL30 hfa30
        have hDb := hD
        refine va_putN (D := D) (ci := 1) (v := .int 1) (ty := .boolean) (C := RS) (T := TS) (N := 7) hx hb hg inS tyS okS nmS hown hK hP hD hS k9 hk9 rfl 6 (by decide) (va_Nw.use rfl (hN.1 _ fn_U_65)) (fun _ h9 => h9) rfl (by decide +kernel) rfl rfl (Nat.le_of_ble_eq_true rfl) d_U_redo_32 (fun H locs hP hD hS => ?_)
        have hP : va_P D cls_ ((wU cA au (am 0) (at2 0) (nI n) (nI la) ic (nI T.length) sa ip tk) ++ ((wq_ cA am um) ++ ((wq_ cA at2 ut) ++ (va_pl L (va_up f a30 (cS (hs k) p30 true)))))) H := by rw [← set_pool (cS (hs k) p30 true) hDb haL30 hfa30 hk9]; exact hP
        have hD : va_D A ((wU cA au (am 0) (at2 0) (nI n) (nI la) ic (nI T.length) sa ip tk) ++ ((wq_ cA am um) ++ ((wq_ cA at2 ut) ++ (va_pl L (va_up f a30 (cS (hs k) p30 true)))))) := by rw [← set_pool (cS (hs k) p30 true) hDb haL30 hfa30 hk9]; exact hD
        have hu1 := ui_flag hH hU hklt hsa30 hfa30 true
        refine lv_aload_n hx hb d_U_redo_35 rfl (lv_at hl 1 rfl) ?_
        refine mu0_v (w := ((wU cA au (am 0) (at2 0) (nI n) (nI la) ic (nI T.length) sa ip tk) ++ ((wq_ cA am um) ++ ((wq_ cA at2 ut) ++ (va_pl L (va_up f a30 (cS (hs k) p30 true))))))) (va_runV (C := RU) (As := []) (rest := []) ⟨hx, hb, hml, hown, hg⟩ (m_U_replayActive l D cA H.size au am at2 ic (nI T.length) sa ip tk um ut L (va_up f a30 (cS (hs k) p30 true)) hs (va_up ac k true) n la hu1 hH) (cwV 0 hg (gd_V ml_U_69 im_U_replayActive sl_U_replayActive ini_U cd_U_replayActive) rfl rfl rfl (by decide +kernel) ⟨Nat.le_of_ble_eq_true rfl, Nat.le_of_ble_eq_true rfl⟩) (pv_m (va_recv (q0 := 0) (ci := 2) hK hP rfl rfl) hP hK hN hD) rfl rfl hl.1 rfl (lv_room (Nat.le_of_ble_eq_true rfl)) d_U_redo_36 ⟨Nat.zero_le _, Nat.zero_le _⟩) hP hD hS hA (fun u36 H locs hu36 hP hD hS => ?_)
        obtain ⟨ut2, ip2⟩ := u36
        have hcq2 : cq_ (rp_ hs (va_up ac k true) n) ut2 := hu36.1
        have hrn2 : rn_ ip2 (il_ hs (va_up ac k true) n) := hu36.2
        have hiln := il_len hs (va_up ac k true) n
        have hP : va_P D cls_ ((wU cA au (am 0) (at2 0) (nI n) (nI la) (nI (il_ hs (va_up ac k true) n).length) (nI T.length) sa ip2 tk) ++ ((wq_ cA am um) ++ ((wq_ cA at2 ut2) ++ (va_pl L (va_up f a30 (cS (hs k) p30 true)))))) H := hP
        have hD : va_D A ((wU cA au (am 0) (at2 0) (nI n) (nI la) (nI (il_ hs (va_up ac k true) n).length) (nI T.length) sa ip2 tk) ++ ((wq_ cA am um) ++ ((wq_ cA at2 ut2) ++ (va_pl L (va_up f a30 (cS (hs k) p30 true)))))) := hD
        refine lv_aload_n hx hb d_U_redo_39 rfl (lv_at hl 1 rfl) ?_
        refine va_get (D := D) (ci := 2) (v := .int (nI (il_ hs (va_up ac k true) n).length)) (C := RU) (T := TU) (N := 9) hx hb hg inU hown hK hP 0 rfl rfl 6 (by decide) (hg _ fl_U_72) (fun _ h9 => h9) rfl d_U_redo_40 ?_
        refine lv_if_le (tgt := 72) hx hb d_U_redo_43 (by decide) (fun h43 => ?_) (fun h43 => ?_)
        · skip
          have hl0 : (il_ hs (va_up ac k true) n) = [] := by
            rcases Nat.eq_zero_or_pos (il_ hs (va_up ac k true) n).length with h | h
            · exact List.eq_nil_of_length_eq_zero h
            · exact absurd h43 (nI_nle h (by omega))
          refine lv_aload_n hx hb d_U_redo_72 rfl (lv_at hl 1 rfl) ?_
          refine mu0_v (w := ((wU cA au (am 0) (at2 0) (nI n) (nI la) (nI (il_ hs (va_up ac k true) n).length) (nI T.length) sa ip2 tk) ++ ((wq_ cA am um) ++ ((wq_ cA at2 ut2) ++ (va_pl L (va_up f a30 (cS (hs k) p30 true))))))) (va_runV (C := RU) (As := []) (rest := []) ⟨hx, hb, hml, hown, hg⟩ (m_U_keepTrial l D cA H.size au am at2 (nI (il_ hs (va_up ac k true) n).length) (nI T.length) sa ip2 tk um ut2 L (va_up f a30 (cS (hs k) p30 true)) hs ac n la) (cwV 0 hg (gd_V ml_U_82 im_U_keepTrial sl_U_keepTrial ini_U cd_U_keepTrial) rfl rfl rfl (by decide +kernel) ⟨Nat.le_of_ble_eq_true rfl, Nat.le_of_ble_eq_true rfl⟩) (pv_m (va_recv (q0 := 0) (ci := 2) hK hP rfl rfl) hP hK hN hD) rfl rfl hl.1 rfl (lv_room (Nat.le_of_ble_eq_true rfl)) d_U_redo_73 ⟨Nat.zero_le _, Nat.zero_le _⟩) hP hD hS hA (fun u73 H locs hu73 hP hD hS => ?_)
          have hP : va_P D cls_ ((wU cA au (at2 0) (am 0) (nI n) (nI la) (nI (il_ hs (va_up ac k true) n).length) (nI T.length) sa ip2 tk) ++ ((wq_ cA at2 ut2) ++ ((wq_ cA am um) ++ (va_pl L (va_up f a30 (cS (hs k) p30 true)))))) H := hP
          have hD : va_D A ((wU cA au (at2 0) (am 0) (nI n) (nI la) (nI (il_ hs (va_up ac k true) n).length) (nI T.length) sa ip2 tk) ++ ((wq_ cA at2 ut2) ++ ((wq_ cA am um) ++ (va_pl L (va_up f a30 (cS (hs k) p30 true)))))) := hD
          refine lv_iconst (v := 1) hx hb d_U_redo_76 (by decide) ?_
          have hnew : uI_ cA (hs, (va_up ac k true), n, la, T) (at2, am, nI (il_ hs (va_up ac k true) n).length, sa, ip2, tk, ut2, um, L, va_up f a30 (cS (hs k) p30 true)) := ⟨⟨hH, hl0, hI.1.2.2⟩, hu1, hcq2, hI.2.2.2⟩
          have hsp : sp_redo (hs, ac, n, la, T) x9 = (1, (hs, (va_up ac k true), n, la, T)) := by rw [re_some (k := k) hfi]; rw [if_neg (show ¬ ac k = true by rw [hq1]; decide)]; exact if_pos hl0
          exact W.iret hx hb hr (fun t ht9 hW => ⟨⟨_, (at2, am, nI (il_ hs (va_up ac k true) n).length, sa, ip2, tk, ut2, um, L, va_up f a30 (cS (hs k) p30 true)), rfl, ⟨by rw [hsp], by rw [hsp]; exact hnew⟩, by rw [ht9, hsp]; exact hP, by rw [hsp]; exact hD⟩, hS.F ht9⟩) hS.2.2 d_U_redo_77
        · skip
          have hl1 : 0 < (il_ hs (va_up ac k true) n).length := by
            rcases Nat.eq_zero_or_pos (il_ hs (va_up ac k true) n).length with h | h
            · exact absurd (by rw [h, nI_0]; exact Int32.le_refl 0) h43
            · exact h
          refine lv_aload_n hx hb d_U_redo_46 rfl (lv_at hl 1 rfl) ?_
          refine va_get (D := D) (ci := 2) (v := .ref (au 1)) (C := RU) (T := TU) (N := 9) hx hb hg inU hown hK hP 0 rfl rfl 0 (by decide) (hg _ fl_U_11) (fun _ h9 => h9) rfl d_U_redo_47 ?_
          refine lv_iload_n hx hb d_U_redo_50 rfl (lv_at hl 0 rfl) ?_
          obtain ⟨a51, p51, hsa51, haL51, hfa51, hst51⟩ := ui_at hu1 (i := k) hklt (wp_r (wp_r (wp_r hP)))
          refine va_aldq hx hb hK hP 1 3 rfl rfl (vp_in_nI (n := k) (N := 200) (by omega) (by omega)) d_U_redo_51 ?_
          refine tov_ (y := .ref a51) (by rw [nI_clamp (by omega), hsa51]; rfl) ?_
          refine lv_iconst (v := 0) hx hb d_U_redo_52 (by decide) ?_
          obtain ⟨k9, hk9⟩ := cell_in (w1 := (wU cA au (am 0) (at2 0) (nI n) (nI la) (nI (il_ hs (va_up ac k true) n).length) (nI T.length) sa ip2 tk)) (w2 := (wq_ cA am um)) (w3 := (wq_ cA at2 ut2)) haL51 hfa51
          have hDb := hD
          refine va_putN (D := D) (ci := 1) (v := .int 0) (ty := .boolean) (C := RS) (T := TS) (N := 7) hx hb hg inS tyS okS nmS hown hK hP hD hS k9 hk9 rfl 6 (by decide) (va_Nw.use rfl (hN.1 _ fn_U_65)) (fun _ h9 => h9) rfl (by decide +kernel) rfl rfl (Nat.le_of_ble_eq_true rfl) d_U_redo_53 (fun H locs hP hD hS => ?_)
          have hP : va_P D cls_ ((wU cA au (am 0) (at2 0) (nI n) (nI la) (nI (il_ hs (va_up ac k true) n).length) (nI T.length) sa ip2 tk) ++ ((wq_ cA am um) ++ ((wq_ cA at2 ut2) ++ (va_pl L (va_up (va_up f a30 (cS (hs k) p30 true)) a51 (cS (hs k) p51 false)))))) H := by rw [← set_pool (cS (hs k) p51 false) hDb haL51 hfa51 hk9]; exact hP
          have hD : va_D A ((wU cA au (am 0) (at2 0) (nI n) (nI la) (nI (il_ hs (va_up ac k true) n).length) (nI T.length) sa ip2 tk) ++ ((wq_ cA am um) ++ ((wq_ cA at2 ut2) ++ (va_pl L (va_up (va_up f a30 (cS (hs k) p30 true)) a51 (cS (hs k) p51 false)))))) := by rw [← set_pool (cS (hs k) p51 false) hDb haL51 hfa51 hk9]; exact hD
          have hu4 := ui_flag hH hu1 hklt hsa51 hfa51 false
          rw [up_back hq1] at hu4
          refine lv_aload_n hx hb d_U_redo_56 rfl (lv_at hl 1 rfl) ?_
          refine va_get (D := D) (ci := 2) (v := .ref (au 1)) (C := RU) (T := TU) (N := 9) hx hb hg inU hown hK hP 0 rfl rfl 0 (by decide) (hg _ fl_U_11) (fun _ h9 => h9) rfl d_U_redo_57 ?_
          refine lv_aload_n hx hb d_U_redo_60 rfl (lv_at hl 1 rfl) ?_
          refine va_get (D := D) (ci := 2) (v := .ref (au 2)) (C := RU) (T := TU) (N := 9) hx hb hg inU hown hK hP 0 rfl rfl 5 (by decide) (hg _ fl_U_25) (fun _ h9 => h9) rfl d_U_redo_61 ?_
          refine lv_iconst (v := 0) hx hb d_U_redo_64 (by decide) ?_
          refine toi_ (y := nI 0) (rfl) ?_
          refine va_iald hx hb hK hP 2 0 rfl rfl (vp_in_nI (n := 0) (N := 200) (by omega) (by omega)) d_U_redo_65 ?_
          refine toi_ (y := ip2 0) (by rw [nI_clamp (by omega)]) ?_
          refine toi_ (y := nI ((il_ hs (va_up ac k true) n).getD 0 0)) (hrn2 0 hl1) ?_
          have hi0 := il_0 hl1
          obtain ⟨a66, p66, hsa66, haL66, hfa66, hst66⟩ := ui_at hu4 (i := ((il_ hs (va_up ac k true) n).getD 0 0)) (il_0 hl1) (wp_r (wp_r (wp_r hP)))
          refine va_aldq hx hb hK hP 1 3 rfl rfl (vp_in_nI (n := (il_ hs (va_up ac k true) n).getD 0 0) (N := 200) (by omega) (by omega)) d_U_redo_66 ?_
          refine tov_ (y := .ref a66) (by rw [nI_clamp (by omega), hsa66]; rfl) ?_
          refine va_getN (D := D) (ci := 1) (v := .int (s_n (hs ((il_ hs (va_up ac k true) n).getD 0 0)))) (C := RS) (T := TS) (N := 7) hx hb hg inS hown hK hst66 0 rfl rfl 0 (by decide) (va_Nw.use rfl (hN.1 _ fn_U_76)) (fun _ h9 => h9) rfl d_U_redo_67 ?_
          refine lv_ineg hx hb d_U_redo_70 ?_
          have hnew : uI_ cA (hs, ac, n, la, T) (am, at2, nI (il_ hs (va_up ac k true) n).length, sa, ip2, tk, um, ut2, L, va_up (va_up f a30 (cS (hs k) p30 true)) a51 (cS (hs k) p51 false)) := ⟨hI.1, hu4, hI.2.2⟩
          have hsp : sp_redo (hs, ac, n, la, T) x9 = (-(s_n (hs ((il_ hs (va_up ac k true) n).getD 0 0))), (hs, ac, n, la, T)) := by rw [re_some (k := k) hfi]; rw [if_neg (show ¬ ac k = true by rw [hq1]; decide)]; exact if_neg (fun h => by rw [show il_ hs (va_up ac k true) n = [] from h] at hl1; exact absurd hl1 (Nat.lt_irrefl 0))
          exact W.iret hx hb hr (fun t ht9 hW => ⟨⟨_, (am, at2, nI (il_ hs (va_up ac k true) n).length, sa, ip2, tk, um, ut2, L, va_up (va_up f a30 (cS (hs k) p30 true)) a51 (cS (hs k) p51 false)), rfl, ⟨by rw [hsp], by rw [hsp]; exact hnew⟩, by rw [ht9, hsp]; exact hP, by rw [hsp]; exact hD⟩, hS.F ht9⟩) hS.2.2 d_U_redo_71
      · skip
        have hq1 : ac k = true := b2_n.mp h20
        refine lv_iconst (v := 0) hx hb d_U_redo_23 (by decide) ?_
        have hsp : sp_redo (hs, ac, n, la, T) x9 = (0, (hs, ac, n, la, T)) := by rw [re_some (k := k) hfi]; exact if_pos hq1
        exact W.iret hx hb hr (fun t ht9 hW => ⟨⟨_, (am, at2, ic, sa, ip, tk, um, ut, L, f), rfl, ⟨by rw [hsp], by rw [hsp]; exact hI⟩, by rw [ht9, hsp]; exact hP, by rw [hsp]; exact hD⟩, hS.F ht9⟩) hS.2.2 d_U_redo_24
