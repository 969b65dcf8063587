/-! UndoMemory: takeImpossibleAlong -/
set_option maxHeartbeats 4000000 in
set_option maxRecDepth 100000 in
theorem m_U_takeImpossibleAlong (l : Launch) (D : va_G) (cA : Nat → ClassId) (sz : Nat) (au am at2 : Nat → Nat) (tc : Int32) (sa : Nat → Option Nat) (ip tk : Nat → Int32) (um ut : rs_T) (L : List Nat) (f : Nat → va_E) (hs : Nat → st_T) (ac : Nat → Bool) (n la : Nat) (l9 : List Nat) (hl9 : ∀ j, j ∈ l9 → j < n) (h200 : l9.length ≤ 200) (hn2 : n ≤ 200) (hrn : rn_ ip l9) (hu : ui_ cA hs ac n sa L f) (hH : hi_ hs n la) : Met l y_U_takeImpossibleAlong (.code y_U_takeImpossibleAlong c_U_takeImpossibleAlong 3 none :: G_) ({ frames := 0, cells := 0, slots := 0, locals := 0 }) (va_Pc [.ref (au 0)] (pm_ D cA ((wU cA au (am 0) (at2 0) (nI n) (nI la) (nI l9.length) tc sa ip tk) ++ ((wq_ cA am um) ++ ((wq_ cA at2 ut) ++ (va_pl L f)))) sz)) (va_Qv (fun (u : (Nat → Int32) × (Nat → va_E)) => rl_ u.1 (l9.map (fun j => s_n (hs j))) ∧ ui_ cA hs (off_ ac l9) n sa L u.2) (bw_ D (va_A ((wU cA au (am 0) (at2 0) (nI n) (nI la) (nI l9.length) tc sa ip tk) ++ ((wq_ cA am um) ++ ((wq_ cA at2 ut) ++ (va_pl L f)))) sz) (fun u => wU cA au (am 0) (at2 0) (nI n) (nI la) (nI l9.length) (nI l9.length) sa ip u.1 ++ (wq_ cA am um ++ (wq_ cA at2 ut ++ va_pl L u.2)))) (va_A ((wU cA au (am 0) (at2 0) (nI n) (nI la) (nI l9.length) tc sa ip tk) ++ ((wq_ cA am um) ++ ((wq_ cA at2 ut) ++ (va_pl L f)))) sz)) 0 0 (va_A ((wU cA au (am 0) (at2 0) (nI n) (nI la) (nI l9.length) tc sa ip tk) ++ ((wq_ cA am um) ++ ((wq_ cA at2 ut) ++ (va_pl L f)))) sz) := by
  refine Met.ofW (cc := c_U_takeImpossibleAlong) (maxL := 3) (ret := none) (by decide) rfl ?_
  intro p e s m args below meth c s₁ B hml hv
  obtain ⟨rfl, hsz, hP, ⟨hK, hN⟩, hD0⟩ := hv
  have hx := B.exec
  have hb := B.bytes
  have hr := B.returns
  have hts := atoms_spec (ws := (.code y_U_takeImpossibleAlong c_U_takeImpossibleAlong 3 none :: G_)) B.pre
  have hg : ∀ w ∈ G_, w.before ([.ref (au 0)] : List Value).toArray s = true := fun w h => hts w (List.mem_cons_of_mem _ h)
  have hown : s.vm.findClass RU = some m.cls := findClass_of_methodNamed B.named
  have hlocks := B.notSynchronized
  subst hsz
  have hD := hD0.self (sz := s.heap.size)
  generalize hAe : va_A ((wU cA au (am 0) (at2 0) (nI n) (nI la) (nI l9.length) tc sa ip tk) ++ ((wq_ cA am um) ++ ((wq_ cA at2 ut) ++ (va_pl L f)))) s.heap.size = A at hD ⊢
  have hA : ∀ q : Nat, s.heap.size ≤ q → A q := fun q h => by rw [← hAe]; exact Or.inr h
  have hS : va_S A s.heap s.heap [] := va_S.rf
  have hl := lv_entry ([.ref (au 0)]) (n := 3) (Nat.le_of_ble_eq_true rfl)
  rw [lg_entry_eq]
  generalize (lg_sl ([.ref (au 0)]) ++ List.replicate (3 - (lg_sl ([.ref (au 0)])).length) Slot.unset).toArray = ls at hl ⊢
  have hl : lv_has ls 3 [(0, .ref (au 0))] := hl
  refine lv_aload_n hx hb d_U_takeImpossibleAlong_0 rfl (lv_at hl 0 rfl) ?_
  refine lv_aload_n hx hb d_U_takeImpossibleAlong_1 rfl (lv_at hl 0 rfl) ?_
  refine va_get (D := D) (ci := 2) (v := .int (nI l9.length)) (C := RU) (T := TU) (N := 9) hx hb hg inU hown hK hP 0 rfl rfl 6 (by decide) (hg _ fl_U_72) (fun _ h9 => h9) rfl d_U_takeImpossibleAlong_2 ?_
  refine va_put (D := D) (ci := 2) (v := .int (nI l9.length)) (ty := .int) (C := RU) (T := TU) (N := 9) hx hb hg inU tyU okU nmU hown hK hP hD hS 0 rfl rfl 8 (by decide) (hg _ fl_U_85) (fun _ h9 => h9) rfl (by decide +kernel) rfl rfl (Nat.le_of_ble_eq_true rfl) d_U_takeImpossibleAlong_5 (fun H locs hP hD hS => ?_)
  have hP : va_P D cls_ ((wU cA au (am 0) (at2 0) (nI n) (nI la) (nI l9.length) (nI l9.length) sa ip tk) ++ ((wq_ cA am um) ++ ((wq_ cA at2 ut) ++ (va_pl L f)))) H := hP
  have hD : va_D A ((wU cA au (am 0) (at2 0) (nI n) (nI la) (nI l9.length) (nI l9.length) sa ip tk) ++ ((wq_ cA am um) ++ ((wq_ cA at2 ut) ++ (va_pl L f)))) := hD
  refine lv_iconst (v := 0) hx hb d_U_takeImpossibleAlong_8 (by decide) ?_
  refine lv_istore_n (lv' := [(1, .int 0), (0, .ref (au 0))]) hx hb d_U_takeImpossibleAlong_9 rfl hl (by decide) rfl (fun ls hl => ?_)
  have hl := lv_sub hl [0, 1] (l' := [(1, .int (nI 0)), (0, .ref (au 0))]) rfl
  have loop : ∀ (d i : Nat) (tk : Nat → Int32) (f : Nat → va_E) (H : Heap) (locs : List Loc) (ls : Array Slot), i + d = l9.length → rl_ tk ((l9.take i).map (fun j => s_n (hs j))) → ui_ cA hs (off_ ac (l9.take i)) n sa L f → va_P D cls_ ((wU cA au (am 0) (at2 0) (nI n) (nI la) (nI l9.length) (nI l9.length) sa ip tk) ++ ((wq_ cA am um) ++ ((wq_ cA at2 ut) ++ (va_pl L f)))) H → va_D A ((wU cA au (am 0) (at2 0) (nI n) (nI la) (nI l9.length) (nI l9.length) sa ip tk) ++ ((wq_ cA am um) ++ ((wq_ cA at2 ut) ++ (va_pl L f)))) → va_S A s.heap H locs → lv_has ls 3 [(1, .int (nI i)), (0, .ref (au 0))] → W p l e (headSpec (.code y_U_takeImpossibleAlong c_U_takeImpossibleAlong 3 none :: G_) ({ frames := 0, cells := 0, slots := 0, locals := 0 })).room s m ([.ref (au 0)] : List Value).toArray below meth c H locs 0 0 (MQ below (va_Qv (fun (u : (Nat → Int32) × (Nat → va_E)) => rl_ u.1 (l9.map (fun j => s_n (hs j))) ∧ ui_ cA hs (off_ ac l9) n sa L u.2) (bw_ D A (fun u => wU cA au (am 0) (at2 0) (nI n) (nI la) (nI l9.length) (nI l9.length) sa ip u.1 ++ (wq_ cA am um ++ (wq_ cA at2 ut ++ va_pl L u.2)))) A) ([.ref (au 0)] : List Value).toArray s 0 0 A) (F0 m 10 ls []) := by
    intro d
    induction d with
    | zero =>
      intro i tk f H locs ls hid htk hu2 hP hD hS hl
      have hi2 : i = l9.length := by omega
      subst hi2
      rw [List.take_length] at htk hu2
      refine lv_iload_n hx hb d_U_takeImpossibleAlong_10 rfl (lv_at hl 0 rfl) ?_
      refine lv_aload_n hx hb d_U_takeImpossibleAlong_11 rfl (lv_at hl 1 rfl) ?_
      refine va_get (D := D) (ci := 2) (v := .int (nI l9.length)) (C := RU) (T := TU) (N := 9) hx hb hg inU hown hK hP 0 rfl rfl 6 (by decide) (hg _ fl_U_72) (fun _ h9 => h9) rfl d_U_takeImpossibleAlong_12 ?_
      refine lv_icmp_ge (tgt := 51) hx hb d_U_takeImpossibleAlong_15 (by decide) (fun h15 => ?_) (fun h15 => ?_)
      · skip
        exact W.vret hx hb hr (fun t ht hW => ⟨⟨(tk, f), rfl, ⟨htk, hu2⟩, by rw [ht]; exact hP, hD⟩, hS.F ht⟩) hS.2.2 d_U_takeImpossibleAlong_51
      · skip
        exact absurd (Int32.le_refl _) h15
    | succ d ih =>
      intro i tk f H locs ls hid htk hu2 hP hD hS hl
      have hil : i < l9.length := by omega
      have hgi : l9[i]? = some (l9.getD i 0) := by rw [List.getD_eq_getElem?_getD, List.getElem?_eq_getElem hil]; rfl
      have hjn : (l9.getD i 0) < n := hl9 _ (List.mem_of_getElem? hgi)
      have htk1 : l9.take (i + 1) = l9.take i ++ [(l9.getD i 0)] := by rw [List.take_add_one, hgi]; rfl
      refine lv_iload_n hx hb d_U_takeImpossibleAlong_10 rfl (lv_at hl 0 rfl) ?_
      refine lv_aload_n hx hb d_U_takeImpossibleAlong_11 rfl (lv_at hl 1 rfl) ?_
      refine va_get (D := D) (ci := 2) (v := .int (nI l9.length)) (C := RU) (T := TU) (N := 9) hx hb hg inU hown hK hP 0 rfl rfl 6 (by decide) (hg _ fl_U_72) (fun _ h9 => h9) rfl d_U_takeImpossibleAlong_12 ?_
      refine lv_icmp_ge (tgt := 51) hx hb d_U_takeImpossibleAlong_15 (by decide) (fun h15 => ?_) (fun h15 => ?_)
      · skip
        exact absurd h15 (nI_ge (by omega) (by omega))
      · skip
        refine lv_aload_n hx hb d_U_takeImpossibleAlong_18 rfl (lv_at hl 1 rfl) ?_
        refine va_get (D := D) (ci := 2) (v := .ref (au 1)) (C := RU) (T := TU) (N := 9) hx hb hg inU hown hK hP 0 rfl rfl 0 (by decide) (hg _ fl_U_11) (fun _ h9 => h9) rfl d_U_takeImpossibleAlong_19 ?_
        refine lv_aload_n hx hb d_U_takeImpossibleAlong_22 rfl (lv_at hl 1 rfl) ?_
        refine va_get (D := D) (ci := 2) (v := .ref (au 2)) (C := RU) (T := TU) (N := 9) hx hb hg inU hown hK hP 0 rfl rfl 5 (by decide) (hg _ fl_U_25) (fun _ h9 => h9) rfl d_U_takeImpossibleAlong_23 ?_
        refine lv_iload_n hx hb d_U_takeImpossibleAlong_26 rfl (lv_at hl 0 rfl) ?_
        refine va_iald hx hb hK hP 2 0 rfl rfl (vp_in_nI (n := i) (N := 200) (by omega) (by omega)) d_U_takeImpossibleAlong_27 ?_
        refine toi_ (y := ip i) (by rw [nI_clamp (by omega)]) ?_
        refine toi_ (y := nI (l9.getD i 0)) (hrn i hil) ?_
        obtain ⟨a28, p28, hsa28, haL28, hfa28, hst28⟩ := ui_at hu2 (i := (l9.getD i 0)) hjn (wp_r (wp_r (wp_r hP)))
        refine va_aldq hx hb hK hP 1 3 rfl rfl (vp_in_nI (n := l9.getD i 0) (N := 200) (by omega) (by omega)) d_U_takeImpossibleAlong_28 ?_
        refine tov_ (y := .ref a28) (by rw [nI_clamp (by omega), hsa28]; rfl) ?_
        refine lv_astore_n (lv' := [(2, .ref a28), (1, .int (nI i)), (0, .ref (au 0))]) hx hb d_U_takeImpossibleAlong_29 rfl hl (by decide) rfl (fun ls hl => ?_)
        refine lv_aload_n hx hb d_U_takeImpossibleAlong_30 rfl (lv_at hl 0 rfl) ?_
        refine lv_iconst (v := 0) hx hb d_U_takeImpossibleAlong_31 (by decide) ?_
        obtain ⟨k9, hk9⟩ := cell_in (w1 := (wU cA au (am 0) (at2 0) (nI n) (nI la) (nI l9.length) (nI l9.length) sa ip tk)) (w2 := (wq_ cA am um)) (w3 := (wq_ cA at2 ut)) haL28 hfa28
        have hDb := hD
        refine va_putN (D := D) (ci := 1) (v := .int 0) (ty := .boolean) (C := RS) (T := TS) (N := 7) hx hb hg inS tyS okS nmS hown hK hP hD hS k9 hk9 rfl 6 (by decide) (va_Nw.use rfl (hN.1 _ fn_U_65)) (fun _ h9 => h9) rfl (by decide +kernel) rfl rfl (Nat.le_of_ble_eq_true rfl) d_U_takeImpossibleAlong_32 (fun H locs hP hD hS => ?_)
        have hP : va_P D cls_ ((wU cA au (am 0) (at2 0) (nI n) (nI la) (nI l9.length) (nI l9.length) sa ip tk) ++ ((wq_ cA am um) ++ ((wq_ cA at2 ut) ++ (va_pl L (va_up f a28 (cS (hs (l9.getD i 0)) p28 false)))))) H := by rw [← set_pool (cS (hs (l9.getD i 0)) p28 false) hDb haL28 hfa28 hk9]; exact hP
        have hD : va_D A ((wU cA au (am 0) (at2 0) (nI n) (nI la) (nI l9.length) (nI l9.length) sa ip tk) ++ ((wq_ cA am um) ++ ((wq_ cA at2 ut) ++ (va_pl L (va_up f a28 (cS (hs (l9.getD i 0)) p28 false)))))) := by rw [← set_pool (cS (hs (l9.getD i 0)) p28 false) hDb haL28 hfa28 hk9]; exact hD
        have hu3 := ui_flag hH hu2 hjn hsa28 hfa28 false
        refine lv_aload_n hx hb d_U_takeImpossibleAlong_35 rfl (lv_at hl 2 rfl) ?_
        refine va_get (D := D) (ci := 2) (v := .ref (au 3)) (C := RU) (T := TU) (N := 9) hx hb hg inU hown hK hP 0 rfl rfl 7 (by decide) (hg _ fl_U_29) (fun _ h9 => h9) rfl d_U_takeImpossibleAlong_36 ?_
        refine lv_iload_n hx hb d_U_takeImpossibleAlong_39 rfl (lv_at hl 1 rfl) ?_
        refine lv_aload_n hx hb d_U_takeImpossibleAlong_40 rfl (lv_at hl 0 rfl) ?_
        refine va_getN (D := D) (ci := 1) (v := .int (s_n (hs (l9.getD i 0)))) (C := RS) (T := TS) (N := 7) hx hb hg inS hown hK (cell_P hP haL28 vu_eq) 0 rfl rfl 0 (by decide) (va_Nw.use rfl (hN.1 _ fn_U_76)) (fun _ h9 => h9) rfl d_U_takeImpossibleAlong_41 ?_
        refine va_iast hx hb hK hP hD hS 3 0 rfl rfl (vp_in_nI (n := i) (N := 200) (by omega) (by omega)) d_U_takeImpossibleAlong_44 (fun H locs hP hD hS => ?_)
        rw [nI_clamp (by omega)] at hP hD
        have hP : va_P D cls_ ((wU cA au (am 0) (at2 0) (nI n) (nI la) (nI l9.length) (nI l9.length) sa ip (upd tk i (s_n (hs (l9.getD i 0))))) ++ ((wq_ cA am um) ++ ((wq_ cA at2 ut) ++ (va_pl L (va_up f a28 (cS (hs (l9.getD i 0)) p28 false)))))) H := hP
        have hD : va_D A ((wU cA au (am 0) (at2 0) (nI n) (nI la) (nI l9.length) (nI l9.length) sa ip (upd tk i (s_n (hs (l9.getD i 0))))) ++ ((wq_ cA am um) ++ ((wq_ cA at2 ut) ++ (va_pl L (va_up f a28 (cS (hs (l9.getD i 0)) p28 false)))))) := hD
        refine lv_iinc (k := 1) (v := nI (i + 1)) (lv' := [(1, .int (nI (i + 1))), (2, .ref a28), (0, .ref (au 0))]) hx hb d_U_takeImpossibleAlong_45 hl rfl (inc_ _) (by decide) rfl (fun ls hl => ?_)
        refine lv_goto (tgt := 10) hx hb d_U_takeImpossibleAlong_48 (by decide) ?_
        have hl := lv_sub hl [0, 2] (l' := [(1, .int (nI (i + 1))), (0, .ref (au 0))]) rfl
        rw [off_snoc, ← htk1] at hu3
        refine ih (i + 1) _ _ H locs ls (by omega) ?_ hu3 hP hD hS hl
        rw [htk1, List.map_append]
        have hln : ((l9.take i).map (fun j => s_n (hs j))).length = i := by rw [List.length_map, List.length_take]; omega
        have h9 := rl_snoc htk (s_n (hs (l9.getD i 0)))
        rw [hln] at h9
        exact h9
  exact loop l9.length 0 tk f _ _ ls (by omega) (fun i h => absurd h (Nat.not_lt_zero _)) (by rw [List.take_zero, off_nil]; exact hu) hP hD hS hl
