/-! UndoMemory: replayActive, keepTrial -/
set_option maxHeartbeats 4000000 in
set_option maxRecDepth 100000 in
theorem m_U_replayActive (l : Launch) (D : va_G) (cA : Nat → ClassId) (sz : Nat) (au am at2 : Nat → Nat) (ic tc : Int32) (sa : Nat → Option Nat) (ip tk : Nat → Int32) (um ut : rs_T) (L : List Nat) (f : Nat → va_E) (hs : Nat → st_T) (ac : Nat → Bool) (n la : Nat) (hu : ui_ cA hs ac n sa L f) (hh : hi_ hs n la) : Met l y_U_replayActive (.code y_U_replayActive c_U_replayActive 2 none :: G_) ({ frames := 4, cells := 0, slots := 0, locals := 91 }) (va_Pc [.ref (au 0)] (pm_ D cA ((wU cA au (am 0) (at2 0) (nI n) (nI la) ic tc sa ip tk) ++ ((wq_ cA am um) ++ ((wq_ cA at2 ut) ++ (va_pl L f)))) sz)) (va_Qv (fun (u : rs_T × (Nat → Int32)) => cq_ (rp_ hs ac n) u.1 ∧ rn_ u.2 (il_ hs ac n)) (bw_ D (va_A ((wU cA au (am 0) (at2 0) (nI n) (nI la) ic tc sa ip tk) ++ ((wq_ cA am um) ++ ((wq_ cA at2 ut) ++ (va_pl L f)))) sz) (fun u => wU cA au (am 0) (at2 0) (nI n) (nI la) (nI (il_ hs ac n).length) tc sa u.2 tk ++ (wq_ cA am um ++ (wq_ cA at2 u.1 ++ va_pl L f)))) (va_A ((wU cA au (am 0) (at2 0) (nI n) (nI la) ic tc sa ip tk) ++ ((wq_ cA am um) ++ ((wq_ cA at2 ut) ++ (va_pl L f)))) sz)) 0 0 (va_A ((wU cA au (am 0) (at2 0) (nI n) (nI la) ic tc sa ip tk) ++ ((wq_ cA am um) ++ ((wq_ cA at2 ut) ++ (va_pl L f)))) sz) := by
  refine Met.ofW (cc := c_U_replayActive) (maxL := 2) (ret := none) (by decide) rfl ?_
  intro p e s m args below meth c s₁ B hml hv
  obtain ⟨rfl, hsz, hP, ⟨hK, hN⟩, hD0⟩ := hv
  have hx := B.exec
  have hb := B.bytes
  have hr := B.returns
  have hts := atoms_spec (ws := (.code y_U_replayActive c_U_replayActive 2 none :: G_)) B.pre
  have hg : ∀ w ∈ G_, w.before ([.ref (au 0)] : List Value).toArray s = true := fun w h => hts w (List.mem_cons_of_mem _ h)
  have hown : s.vm.findClass RU = some m.cls := findClass_of_methodNamed B.named
  have hlocks := B.notSynchronized
  subst hsz
  have hD := hD0.self (sz := s.heap.size)
  generalize hAe : va_A ((wU cA au (am 0) (at2 0) (nI n) (nI la) ic tc sa ip tk) ++ ((wq_ cA am um) ++ ((wq_ cA at2 ut) ++ (va_pl L f)))) s.heap.size = A at hD ⊢
  have hA : ∀ q : Nat, s.heap.size ≤ q → A q := fun q h => by rw [← hAe]; exact Or.inr h
  have hS : va_S A s.heap s.heap [] := va_S.rf
  have hl := lv_entry ([.ref (au 0)]) (n := 2) (Nat.le_of_ble_eq_true rfl)
  rw [lg_entry_eq]
  generalize (lg_sl ([.ref (au 0)]) ++ List.replicate (2 - (lg_sl ([.ref (au 0)])).length) Slot.unset).toArray = ls at hl ⊢
  have hl : lv_has ls 2 [(0, .ref (au 0))] := hl
  have h200 := hh.1
  refine lv_aload_n hx hb d_U_replayActive_0 rfl (lv_at hl 0 rfl) ?_
  refine va_get (D := D) (ci := 2) (v := .ref (at2 0)) (C := RU) (T := TU) (N := 9) hx hb hg inU hown hK hP 0 rfl rfl 4 (by decide) (hg _ fl_U_22) (fun _ h9 => h9) rfl d_U_replayActive_1 ?_
  have hP := wp_pm (pc_3 _ _ _ _) hP
  have hD := wd_pm (pc_3 _ _ _ _) hD
  refine mu_v (w := wq_ cA at2 ut) (wr := ((wU cA au (am 0) (at2 0) (nI n) (nI la) ic tc sa ip tk) ++ ((wq_ cA am um) ++ (va_pl L f)))) (va_runV (C := RR) (As := []) (rest := []) ⟨hx, hb, hml, hown, hg⟩ (m_R_begin l D cA s.heap.size at2 ut.1 ut.2.1 ut.2.2.1 ut.2.2.2.1 ut.2.2.2.2.1 ut.2.2.2.2.2.1 ut.2.2.2.2.2.2.1 ut.2.2.2.2.2.2.2.1 ut.2.2.2.2.2.2.2.2) (cwV 0 hg (gd_V ml_U_88 im_R_begin sl_R_begin ini_R cd_R_begin) rfl rfl rfl (by decide +kernel) ⟨Nat.le_of_ble_eq_true rfl, Nat.le_of_ble_eq_true rfl⟩) (pv_m (va_recv (q0 := 0) (ci := 0) hK hP rfl rfl) (wp_l hP) hK hN (wd_l hD)) rfl rfl hl.1 rfl (lv_room (Nat.le_of_ble_eq_true rfl)) d_U_replayActive_4 ⟨Nat.zero_le _, Nat.zero_le _⟩) hP hD hS hA (fun ut0 H locs hut0 hP hD hS => ?_)
  have hP := wp_pm (pc_3 _ _ _ _).symm hP
  have hD := wd_pm (pc_3 _ _ _ _).symm hD
  have hP : va_P D cls_ ((wU cA au (am 0) (at2 0) (nI n) (nI la) ic tc sa ip tk) ++ ((wq_ cA am um) ++ ((wq_ cA at2 ut0) ++ (va_pl L f)))) H := hP
  have hD : va_D A ((wU cA au (am 0) (at2 0) (nI n) (nI la) ic tc sa ip tk) ++ ((wq_ cA am um) ++ ((wq_ cA at2 ut0) ++ (va_pl L f)))) := hD
  refine lv_aload_n hx hb d_U_replayActive_7 rfl (lv_at hl 0 rfl) ?_
  refine lv_iconst (v := 0) hx hb d_U_replayActive_8 (by decide) ?_
  refine va_put (D := D) (ci := 2) (v := .int 0) (ty := .int) (C := RU) (T := TU) (N := 9) hx hb hg inU tyU okU nmU hown hK hP hD hS 0 rfl rfl 6 (by decide) (hg _ fl_U_72) (fun _ h9 => h9) rfl (by decide +kernel) rfl rfl (Nat.le_of_ble_eq_true rfl) d_U_replayActive_9 (fun H locs hP hD hS => ?_)
  have hP : va_P D cls_ ((wU cA au (am 0) (at2 0) (nI n) (nI la) 0 tc sa ip tk) ++ ((wq_ cA am um) ++ ((wq_ cA at2 ut0) ++ (va_pl L f)))) H := hP
  have hD : va_D A ((wU cA au (am 0) (at2 0) (nI n) (nI la) 0 tc sa ip tk) ++ ((wq_ cA am um) ++ ((wq_ cA at2 ut0) ++ (va_pl L f)))) := hD
  refine lv_iconst (v := 0) hx hb d_U_replayActive_12 (by decide) ?_
  refine lv_istore_n (lv' := [(1, .int 0), (0, .ref (au 0))]) hx hb d_U_replayActive_13 rfl hl (by decide) rfl (fun ls hl => ?_)
  have hl := lv_sub hl [0, 1] (l' := [(1, .int (nI 0)), (0, .ref (au 0))]) rfl
  have loop : ∀ (d i : Nat) (ut : rs_T) (ip : Nat → Int32) (H : Heap) (locs : List Loc) (ls : Array Slot), i + d = n → cq_ (rp_ hs ac i) ut → rn_ ip (il_ hs ac i) → va_P D cls_ ((wU cA au (am 0) (at2 0) (nI n) (nI la) (nI (il_ hs ac i).length) tc sa ip tk) ++ ((wq_ cA am um) ++ ((wq_ cA at2 ut) ++ (va_pl L f)))) H → va_D A ((wU cA au (am 0) (at2 0) (nI n) (nI la) (nI (il_ hs ac i).length) tc sa ip tk) ++ ((wq_ cA am um) ++ ((wq_ cA at2 ut) ++ (va_pl L f)))) → va_S A s.heap H locs → lv_has ls 2 [(1, .int (nI i)), (0, .ref (au 0))] → W p l e (headSpec (.code y_U_replayActive c_U_replayActive 2 none :: G_) ({ frames := 4, cells := 0, slots := 0, locals := 91 })).room s m ([.ref (au 0)] : List Value).toArray below meth c H locs 0 0 (MQ below (va_Qv (fun (u : rs_T × (Nat → Int32)) => cq_ (rp_ hs ac n) u.1 ∧ rn_ u.2 (il_ hs ac n)) (bw_ D A (fun u => wU cA au (am 0) (at2 0) (nI n) (nI la) (nI (il_ hs ac n).length) tc sa u.2 tk ++ (wq_ cA am um ++ (wq_ cA at2 u.1 ++ va_pl L f)))) A) ([.ref (au 0)] : List Value).toArray s 0 0 A) (F0 m 14 ls []) := by
    intro d
    induction d with
    | zero =>
      intro i ut ip H locs ls hid hcq hrn hP hD hS hl
      have hi2 : i = n := by omega
      subst hi2
      refine lv_iload_n hx hb d_U_replayActive_14 rfl (lv_at hl 0 rfl) ?_
      refine lv_aload_n hx hb d_U_replayActive_15 rfl (lv_at hl 1 rfl) ?_
      refine va_get (D := D) (ci := 2) (v := .int (nI i)) (C := RU) (T := TU) (N := 9) hx hb hg inU hown hK hP 0 rfl rfl 1 (by decide) (hg _ fl_U_106) (fun _ h9 => h9) rfl d_U_replayActive_16 ?_
      refine lv_icmp_ge (tgt := 76) hx hb d_U_replayActive_19 (by decide) (fun h19 => ?_) (fun h19 => ?_)
      · skip
        exact W.vret hx hb hr (fun t ht hW => ⟨⟨(ut, ip), rfl, ⟨hcq, hrn⟩, by rw [ht]; exact hP, hD⟩, hS.F ht⟩) hS.2.2 d_U_replayActive_76
      · skip
        exact absurd (Int32.le_refl _) h19
    | succ d ih =>
      intro i ut ip H locs ls hid hcq hrn hP hD hS hl
      have hil := il_len hs ac i
      refine lv_iload_n hx hb d_U_replayActive_14 rfl (lv_at hl 0 rfl) ?_
      refine lv_aload_n hx hb d_U_replayActive_15 rfl (lv_at hl 1 rfl) ?_
      refine va_get (D := D) (ci := 2) (v := .int (nI n)) (C := RU) (T := TU) (N := 9) hx hb hg inU hown hK hP 0 rfl rfl 1 (by decide) (hg _ fl_U_106) (fun _ h9 => h9) rfl d_U_replayActive_16 ?_
      refine lv_icmp_ge (tgt := 76) hx hb d_U_replayActive_19 (by decide) (fun h19 => ?_) (fun h19 => ?_)
      · skip
        exact absurd h19 (nI_ge (by omega) (by omega))
      · skip
        refine lv_aload_n hx hb d_U_replayActive_22 rfl (lv_at hl 1 rfl) ?_
        refine va_get (D := D) (ci := 2) (v := .ref (au 1)) (C := RU) (T := TU) (N := 9) hx hb hg inU hown hK hP 0 rfl rfl 0 (by decide) (hg _ fl_U_11) (fun _ h9 => h9) rfl d_U_replayActive_23 ?_
        refine lv_iload_n hx hb d_U_replayActive_26 rfl (lv_at hl 0 rfl) ?_
        obtain ⟨a27, p27, hsa27, haL27, hfa27, hst27⟩ := ui_at hu (i := i) (by omega) (wp_r (wp_r (wp_r hP)))
        refine va_aldq hx hb hK hP 1 3 rfl rfl (vp_in_nI (n := i) (N := 200) (by omega) (by omega)) d_U_replayActive_27 ?_
        refine tov_ (y := .ref a27) (by rw [nI_clamp (by omega), hsa27]; rfl) ?_
        refine va_getN (D := D) (ci := 1) (v := .int (b2_ (ac i))) (C := RS) (T := TS) (N := 7) hx hb hg inS hown hK hst27 0 rfl rfl 6 (by decide) (va_Nw.use rfl (hN.1 _ fn_U_65)) (fun _ h9 => h9) rfl d_U_replayActive_28 ?_
        refine lv_if_eq (tgt := 70) hx hb d_U_replayActive_31 (by decide) (fun h31 => ?_) (fun h31 => ?_)
        · skip
          have hq := b2_0.mp h31
          have hrs : rp_ hs ac (i + 1) = rp_ hs ac i := by rw [rp_s, if_neg (by rw [hq]; decide)]
          have his : il_ hs ac (i + 1) = il_ hs ac i := by rw [il_s, hq]; rfl
          refine lv_iinc (k := 0) (v := nI (i + 1)) (lv' := [(1, .int (nI (i + 1))), (0, .ref (au 0))]) hx hb d_U_replayActive_70 hl rfl (inc_ _) (by decide) rfl (fun ls hl => ?_)
          refine lv_goto (tgt := 14) hx hb d_U_replayActive_73 (by decide) ?_
          have hl := lv_sub hl [0, 1] (l' := [(1, .int (nI (i + 1))), (0, .ref (au 0))]) rfl
          rw [← his] at hP hD
          exact ih (i + 1) ut ip H locs ls (by omega) (by rw [hrs]; exact hcq) (by rw [his]; exact hrn) hP hD hS hl
        · skip
          have hq := b2_n.mp h31
          have hrs : rp_ hs ac (i + 1) = at_ (hs i) (rp_ hs ac i) := by rw [rp_s, if_pos hq]
          refine lv_aload_n hx hb d_U_replayActive_34 rfl (lv_at hl 1 rfl) ?_
          refine va_get (D := D) (ci := 2) (v := .ref (at2 0)) (C := RU) (T := TU) (N := 9) hx hb hg inU hown hK hP 0 rfl rfl 4 (by decide) (hg _ fl_U_22) (fun _ h9 => h9) rfl d_U_replayActive_35 ?_
          refine lv_aload_n hx hb d_U_replayActive_38 rfl (lv_at hl 1 rfl) ?_
          refine va_get (D := D) (ci := 2) (v := .ref (au 1)) (C := RU) (T := TU) (N := 9) hx hb hg inU hown hK hP 0 rfl rfl 0 (by decide) (hg _ fl_U_11) (fun _ h9 => h9) rfl d_U_replayActive_39 ?_
          refine lv_iload_n hx hb d_U_replayActive_42 rfl (lv_at hl 0 rfl) ?_
          obtain ⟨a43, p43, hsa43, haL43, hfa43, hst43⟩ := ui_at hu (i := i) (by omega) (wp_r (wp_r (wp_r hP)))
          refine va_aldq hx hb hK hP 1 3 rfl rfl (vp_in_nI (n := i) (N := 200) (by omega) (by omega)) d_U_replayActive_43 ?_
          refine tov_ (y := .ref a43) (by rw [nI_clamp (by omega), hsa43]; rfl) ?_
          obtain ⟨a9, p9, k1, k2, k3, k4⟩ := hu i (by omega)
          have ea : a9 = a43 := Option.some.inj (k1.symm.trans hsa43)
          subst ea
          have hP := wp_pm (pc_3 _ _ _ _) hP
          have hD := wd_pm (pc_3 _ _ _ _) hD
          obtain ⟨wp, hwp, hPq, hDq⟩ := wp_mk2 hP hD k2 k3 k4
          refine mu_i (w := wq_ cA at2 ut) (wr := ((wU cA au (am 0) (at2 0) (nI n) (nI la) (nI (il_ hs ac i).length) tc sa ip tk) ++ ((wq_ cA am um) ++ (va_pl L f)))) (va_runV (C := RR) (As := [.ref a9]) (rest := []) ⟨hx, hb, hml, hown, hg⟩ (m_R_attempt l D cA H.size at2 ut.1 ut.2.1 ut.2.2.1 ut.2.2.2.1 ut.2.2.2.2.1 ut.2.2.2.2.2.1 ut.2.2.2.2.2.2.1 ut.2.2.2.2.2.2.2.1 ut.2.2.2.2.2.2.2.2 a9 p9 (hs i) (ac i) wp (rp_ hs ac i) hcq (rp_mw hh ac (by omega)) (tr_tq (hh.2.2.1 i (by omega)).1) (ca_rp hh ac (by omega)) hwp) (cwV 1 hg (gd_V ml_U_91 im_R_attempt sl_R_attempt ini_R cd_R_attempt) rfl rfl rfl (by decide +kernel) ⟨Nat.le_of_ble_eq_true rfl, Nat.le_of_ble_eq_true rfl⟩) (pv_q (va_recv (q0 := 0) (ci := 0) hK hP rfl rfl) hPq hK hN hDq) rfl rfl hl.1 rfl (lv_room (Nat.le_of_ble_eq_true rfl)) d_U_replayActive_44 ⟨Nat.zero_le _, Nat.zero_le _⟩) hP hD hS hA (fun r9 ut2 H locs hp hP hD hS => ?_)
          obtain ⟨rfl, hcn⟩ := hp
          have hP := wp_pm (pc_3 _ _ _ _).symm hP
          have hD := wd_pm (pc_3 _ _ _ _).symm hD
          have hP : va_P D cls_ ((wU cA au (am 0) (at2 0) (nI n) (nI la) (nI (il_ hs ac i).length) tc sa ip tk) ++ ((wq_ cA am um) ++ ((wq_ cA at2 ut2) ++ (va_pl L f)))) H := hP
          have hD : va_D A ((wU cA au (am 0) (at2 0) (nI n) (nI la) (nI (il_ hs ac i).length) tc sa ip tk) ++ ((wq_ cA am um) ++ ((wq_ cA at2 ut2) ++ (va_pl L f)))) := hD
          refine lv_if_ne (tgt := 70) hx hb d_U_replayActive_47 (by decide) (fun h47 => ?_) (fun h47 => ?_)
          · skip
            have him : im_ (hs i) (rp_ hs ac i) = false := by have h9 := b2_n.mp h47; simpa using h9
            have his : il_ hs ac (i + 1) = il_ hs ac i := by rw [il_s, him, Bool.and_false]; rfl
            refine lv_iinc (k := 0) (v := nI (i + 1)) (lv' := [(1, .int (nI (i + 1))), (0, .ref (au 0))]) hx hb d_U_replayActive_70 hl rfl (inc_ _) (by decide) rfl (fun ls hl => ?_)
            refine lv_goto (tgt := 14) hx hb d_U_replayActive_73 (by decide) ?_
            have hl := lv_sub hl [0, 1] (l' := [(1, .int (nI (i + 1))), (0, .ref (au 0))]) rfl
            rw [← his] at hP hD
            exact ih (i + 1) ut2 ip H locs ls (by omega) (by rw [hrs]; exact hcn) (by rw [his]; exact hrn) hP hD hS hl
          · skip
            have him : im_ (hs i) (rp_ hs ac i) = true := by have h9 := b2_0.mp h47; simpa using h9
            have his : il_ hs ac (i + 1) = il_ hs ac i ++ [i] := by rw [il_s, him, hq]; rfl
            refine lv_aload_n hx hb d_U_replayActive_50 rfl (lv_at hl 1 rfl) ?_
            refine va_get (D := D) (ci := 2) (v := .ref (au 2)) (C := RU) (T := TU) (N := 9) hx hb hg inU hown hK hP 0 rfl rfl 5 (by decide) (hg _ fl_U_25) (fun _ h9 => h9) rfl d_U_replayActive_51 ?_
            refine lv_aload_n hx hb d_U_replayActive_54 rfl (lv_at hl 1 rfl) ?_
            refine va_get (D := D) (ci := 2) (v := .int (nI (il_ hs ac i).length)) (C := RU) (T := TU) (N := 9) hx hb hg inU hown hK hP 0 rfl rfl 6 (by decide) (hg _ fl_U_72) (fun _ h9 => h9) rfl d_U_replayActive_55 ?_
            refine lv_iload_n hx hb d_U_replayActive_58 rfl (lv_at hl 0 rfl) ?_
            refine va_iast hx hb hK hP hD hS 2 0 rfl rfl (vp_in_nI (n := (il_ hs ac i).length) (N := 200) (by omega) (by omega)) d_U_replayActive_59 (fun H locs hP hD hS => ?_)
            rw [nI_clamp (by omega)] at hP hD
            have hP : va_P D cls_ ((wU cA au (am 0) (at2 0) (nI n) (nI la) (nI (il_ hs ac i).length) tc sa (upd ip ((il_ hs ac i).length) (nI i)) tk) ++ ((wq_ cA am um) ++ ((wq_ cA at2 ut2) ++ (va_pl L f)))) H := hP
            have hD : va_D A ((wU cA au (am 0) (at2 0) (nI n) (nI la) (nI (il_ hs ac i).length) tc sa (upd ip ((il_ hs ac i).length) (nI i)) tk) ++ ((wq_ cA am um) ++ ((wq_ cA at2 ut2) ++ (va_pl L f)))) := hD
            refine lv_aload_n hx hb d_U_replayActive_60 rfl (lv_at hl 1 rfl) ?_
            refine lv_dup hx hb d_U_replayActive_61 rfl ?_
            refine va_get (D := D) (ci := 2) (v := .int (nI (il_ hs ac i).length)) (C := RU) (T := TU) (N := 9) hx hb hg inU hown hK hP 0 rfl rfl 6 (by decide) (hg _ fl_U_72) (fun _ h9 => h9) rfl d_U_replayActive_62 ?_
            refine lv_iconst (v := 1) hx hb d_U_replayActive_65 (by decide) ?_
            refine lv_iadd hx hb d_U_replayActive_66 ?_
            refine toi_ (y := nI ((il_ hs ac i).length + 1)) (nI_1 _) ?_
            refine va_put (D := D) (ci := 2) (v := .int (nI ((il_ hs ac i).length + 1))) (ty := .int) (C := RU) (T := TU) (N := 9) hx hb hg inU tyU okU nmU hown hK hP hD hS 0 rfl rfl 6 (by decide) (hg _ fl_U_72) (fun _ h9 => h9) rfl (by decide +kernel) rfl rfl (Nat.le_of_ble_eq_true rfl) d_U_replayActive_67 (fun H locs hP hD hS => ?_)
            have hP : va_P D cls_ ((wU cA au (am 0) (at2 0) (nI n) (nI la) (nI ((il_ hs ac i).length + 1)) tc sa (upd ip ((il_ hs ac i).length) (nI i)) tk) ++ ((wq_ cA am um) ++ ((wq_ cA at2 ut2) ++ (va_pl L f)))) H := hP
            have hD : va_D A ((wU cA au (am 0) (at2 0) (nI n) (nI la) (nI ((il_ hs ac i).length + 1)) tc sa (upd ip ((il_ hs ac i).length) (nI i)) tk) ++ ((wq_ cA am um) ++ ((wq_ cA at2 ut2) ++ (va_pl L f)))) := hD
            refine lv_iinc (k := 0) (v := nI (i + 1)) (lv' := [(1, .int (nI (i + 1))), (0, .ref (au 0))]) hx hb d_U_replayActive_70 hl rfl (inc_ _) (by decide) rfl (fun ls hl => ?_)
            refine lv_goto (tgt := 14) hx hb d_U_replayActive_73 (by decide) ?_
            have hl := lv_sub hl [0, 1] (l' := [(1, .int (nI (i + 1))), (0, .ref (au 0))]) rfl
            have hlen : (il_ hs ac (i + 1)).length = (il_ hs ac i).length + 1 := by rw [his, List.length_append, List.length_singleton]
            rw [← hlen] at hP hD
            exact ih (i + 1) ut2 _ H locs ls (by omega) (by rw [hrs]; exact hcn) (by rw [his]; exact rn_snoc hrn i) hP hD hS hl
  exact loop n 0 ut0 ip H locs ls (by omega) hut0 (fun i h => absurd h (Nat.not_lt_zero _)) hP hD hS hl

set_option maxHeartbeats 4000000 in
set_option maxRecDepth 100000 in
theorem m_U_keepTrial (l : Launch) (D : va_G) (cA : Nat → ClassId) (sz : Nat) (au am at2 : Nat → Nat) (ic tc : Int32) (sa : Nat → Option Nat) (ip tk : Nat → Int32) (um ut : rs_T) (L : List Nat) (f : Nat → va_E) (hs : Nat → st_T) (ac : Nat → Bool) (n la : Nat) : Met l y_U_keepTrial (.code y_U_keepTrial c_U_keepTrial 2 none :: G_) ({ frames := 0, cells := 0, slots := 0, locals := 0 }) (va_Pc [.ref (au 0)] (pm_ D cA ((wU cA au (am 0) (at2 0) (nI n) (nI la) ic tc sa ip tk) ++ ((wq_ cA am um) ++ ((wq_ cA at2 ut) ++ (va_pl L f)))) sz)) (va_Qv (fun (u : Unit) => True) (bw_ D (va_A ((wU cA au (am 0) (at2 0) (nI n) (nI la) ic tc sa ip tk) ++ ((wq_ cA am um) ++ ((wq_ cA at2 ut) ++ (va_pl L f)))) sz) (fun _ => wU cA au (at2 0) (am 0) (nI n) (nI la) ic tc sa ip tk ++ (wq_ cA at2 ut ++ (wq_ cA am um ++ va_pl L f)))) (va_A ((wU cA au (am 0) (at2 0) (nI n) (nI la) ic tc sa ip tk) ++ ((wq_ cA am um) ++ ((wq_ cA at2 ut) ++ (va_pl L f)))) sz)) 0 0 (va_A ((wU cA au (am 0) (at2 0) (nI n) (nI la) ic tc sa ip tk) ++ ((wq_ cA am um) ++ ((wq_ cA at2 ut) ++ (va_pl L f)))) sz) := by
  refine Met.ofW (cc := c_U_keepTrial) (maxL := 2) (ret := none) (by decide) rfl ?_
  intro p e s m args below meth c s₁ B hml hv
  obtain ⟨rfl, hsz, hP, ⟨hK, hN⟩, hD0⟩ := hv
  have hx := B.exec
  have hb := B.bytes
  have hr := B.returns
  have hts := atoms_spec (ws := (.code y_U_keepTrial c_U_keepTrial 2 none :: G_)) B.pre
  have hg : ∀ w ∈ G_, w.before ([.ref (au 0)] : List Value).toArray s = true := fun w h => hts w (List.mem_cons_of_mem _ h)
  have hown : s.vm.findClass RU = some m.cls := findClass_of_methodNamed B.named
  have hlocks := B.notSynchronized
  subst hsz
  have hD := hD0.self (sz := s.heap.size)
  generalize hAe : va_A ((wU cA au (am 0) (at2 0) (nI n) (nI la) ic tc sa ip tk) ++ ((wq_ cA am um) ++ ((wq_ cA at2 ut) ++ (va_pl L f)))) s.heap.size = A at hD ⊢
  have hA : ∀ q : Nat, s.heap.size ≤ q → A q := fun q h => by rw [← hAe]; exact Or.inr h
  have hS : va_S A s.heap s.heap [] := va_S.rf
  have hl := lv_entry ([.ref (au 0)]) (n := 2) (Nat.le_of_ble_eq_true rfl)
  rw [lg_entry_eq]
  generalize (lg_sl ([.ref (au 0)]) ++ List.replicate (2 - (lg_sl ([.ref (au 0)])).length) Slot.unset).toArray = ls at hl ⊢
  have hl : lv_has ls 2 [(0, .ref (au 0))] := hl
  refine lv_aload_n hx hb d_U_keepTrial_0 rfl (lv_at hl 0 rfl) ?_
  refine va_get (D := D) (ci := 2) (v := .ref (am 0)) (C := RU) (T := TU) (N := 9) hx hb hg inU hown hK hP 0 rfl rfl 3 (by decide) (hg _ fl_U_18) (fun _ h9 => h9) rfl d_U_keepTrial_1 ?_
  refine lv_astore_n (lv' := [(1, .ref (am 0)), (0, .ref (au 0))]) hx hb d_U_keepTrial_4 rfl hl (by decide) rfl (fun ls hl => ?_)
  refine lv_aload_n hx hb d_U_keepTrial_5 rfl (lv_at hl 1 rfl) ?_
  refine lv_aload_n hx hb d_U_keepTrial_6 rfl (lv_at hl 1 rfl) ?_
  refine va_get (D := D) (ci := 2) (v := .ref (at2 0)) (C := RU) (T := TU) (N := 9) hx hb hg inU hown hK hP 0 rfl rfl 4 (by decide) (hg _ fl_U_22) (fun _ h9 => h9) rfl d_U_keepTrial_7 ?_
  refine va_put (D := D) (ci := 2) (v := .ref (at2 0)) (ty := (.object "UndoMemory$Replay")) (C := RU) (T := TU) (N := 9) hx hb hg inU tyU okU nmU hown hK hP hD hS 0 rfl rfl 3 (by decide) (hg _ fl_U_18) (fun _ h9 => h9) rfl (by decide +kernel) rfl rfl (Nat.le_of_ble_eq_true rfl) d_U_keepTrial_10 (fun H locs hP hD hS => ?_)
  have hP : va_P D cls_ ((wU cA au (at2 0) (at2 0) (nI n) (nI la) ic tc sa ip tk) ++ ((wq_ cA am um) ++ ((wq_ cA at2 ut) ++ (va_pl L f)))) H := hP
  have hD : va_D A ((wU cA au (at2 0) (at2 0) (nI n) (nI la) ic tc sa ip tk) ++ ((wq_ cA am um) ++ ((wq_ cA at2 ut) ++ (va_pl L f)))) := hD
  refine lv_aload_n hx hb d_U_keepTrial_13 rfl (lv_at hl 1 rfl) ?_
  refine lv_aload_n hx hb d_U_keepTrial_14 rfl (lv_at hl 0 rfl) ?_
  refine va_put (D := D) (ci := 2) (v := .ref (am 0)) (ty := (.object "UndoMemory$Replay")) (C := RU) (T := TU) (N := 9) hx hb hg inU tyU okU nmU hown hK hP hD hS 0 rfl rfl 4 (by decide) (hg _ fl_U_22) (fun _ h9 => h9) rfl (by decide +kernel) rfl rfl (Nat.le_of_ble_eq_true rfl) d_U_keepTrial_15 (fun H locs hP hD hS => ?_)
  have hP : va_P D cls_ ((wU cA au (at2 0) (am 0) (nI n) (nI la) ic tc sa ip tk) ++ ((wq_ cA am um) ++ ((wq_ cA at2 ut) ++ (va_pl L f)))) H := hP
  have hD : va_D A ((wU cA au (at2 0) (am 0) (nI n) (nI la) ic tc sa ip tk) ++ ((wq_ cA am um) ++ ((wq_ cA at2 ut) ++ (va_pl L f)))) := hD
  have hP := wp_pm (List.Perm.append_left _ (pc_ca _ _ _)) hP
  have hD := wd_pm (List.Perm.append_left _ (pc_ca _ _ _)) hD
  exact W.vret hx hb hr (fun t ht hW => ⟨⟨(), rfl, trivial, by rw [ht]; exact hP, hD⟩, hS.F ht⟩) hS.2.2 d_U_keepTrial_18
