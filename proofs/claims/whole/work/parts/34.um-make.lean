/-! UndoMemory.make -/
set_option maxHeartbeats 4000000 in
set_option maxRecDepth 100000 in
theorem m_U_make (l : Launch) (D : va_G) (cA : Nat → ClassId) (sz : Nat) (au am at2 : Nat → Nat) (ic tc : Int32) (sa : Nat → Option Nat) (ip tk : Nat → Int32) (um ut : rs_T) (L : List Nat) (f : Nat → va_E) (hs : Nat → st_T) (ac : Nat → Bool) (n la : Nat) (x : st_T) (pl : Nat) (hnum : s_n x = nI (la + 1)) (hn : n < 200) (hu : ui_ cA hs ac n sa L f) (hm : cq_ (rp_ hs ac n) um) (hw : mw_ (rp_ hs ac n)) (ht : tq_ x) (hca : ca_ x (rp_ hs ac n)) (hpl : s_k x = 3 ∨ s_k x = 5 → ∃ g, pl ∈ L ∧ f pl = .inl (cA 0, (s_p x).length, .inl g) ∧ rl_ g (s_p x)) : Met l y_U_make (.code y_U_make c_U_make 8 (some .int) :: G_) ({ frames := 4, cells := 1, slots := 7, locals := 91 }) (va_Pc [.ref (au 0), .int (s_k x), .int (s_t x), .int (s_m x), .long (s_a x), .ref pl] (pm_ D cA ((wU cA au (am 0) (at2 0) (nI n) (nI la) ic tc sa ip tk) ++ ((wq_ cA am um) ++ ((wq_ cA at2 ut) ++ (va_pl L f)))) sz)) (va_Qi (fun (r : Int32) (u : (Nat → Option Nat) × rs_T × List Nat × (Nat → va_E)) => r = (if im_ x (rp_ hs ac n) = true then 0 else nI (la + 1)) ∧ cq_ (at_ x (rp_ hs ac n)) u.2.1 ∧ (im_ x (rp_ hs ac n) = true → ui_ cA hs ac n u.1 u.2.2.1 u.2.2.2) ∧ (im_ x (rp_ hs ac n) = false → ui_ cA (va_up hs n x) (va_up ac n true) (n + 1) u.1 u.2.2.1 u.2.2.2)) (bw_ D (va_A ((wU cA au (am 0) (at2 0) (nI n) (nI la) ic tc sa ip tk) ++ ((wq_ cA am um) ++ ((wq_ cA at2 ut) ++ (va_pl L f)))) sz) (fun u => wU cA au (am 0) (at2 0) (nI (mk_ (im_ x (rp_ hs ac n)) n)) (nI (mk_ (im_ x (rp_ hs ac n)) la)) ic tc u.1 ip tk ++ (wq_ cA am u.2.1 ++ (wq_ cA at2 ut ++ va_pl u.2.2.1 u.2.2.2)))) (va_A ((wU cA au (am 0) (at2 0) (nI n) (nI la) ic tc sa ip tk) ++ ((wq_ cA am um) ++ ((wq_ cA at2 ut) ++ (va_pl L f)))) sz)) 1 7 (va_A ((wU cA au (am 0) (at2 0) (nI n) (nI la) ic tc sa ip tk) ++ ((wq_ cA am um) ++ ((wq_ cA at2 ut) ++ (va_pl L f)))) sz) := by
  refine Met.ofW (cc := c_U_make) (maxL := 8) (ret := (some .int)) (by decide) rfl ?_
  intro p e s m args below meth c s₁ B hml hv
  obtain ⟨rfl, hsz, hP, ⟨hK, hN⟩, hD0⟩ := hv
  have hx := B.exec
  have hb := B.bytes
  have hr := B.returns
  have hts := atoms_spec (ws := (.code y_U_make c_U_make 8 (some .int) :: G_)) B.pre
  have hg : ∀ w ∈ G_, w.before ([.ref (au 0), .int (s_k x), .int (s_t x), .int (s_m x), .long (s_a x), .ref pl] : List Value).toArray s = true := fun w h => hts w (List.mem_cons_of_mem _ h)
  have hown : s.vm.findClass RU = some m.cls := findClass_of_methodNamed B.named
  have hlocks := B.notSynchronized
  subst hsz
  have hD := hD0.self (sz := s.heap.size)
  generalize hAe : va_A ((wU cA au (am 0) (at2 0) (nI n) (nI la) ic tc sa ip tk) ++ ((wq_ cA am um) ++ ((wq_ cA at2 ut) ++ (va_pl L f)))) s.heap.size = A at hD ⊢
  have hA : ∀ q : Nat, s.heap.size ≤ q → A q := fun q h => by rw [← hAe]; exact Or.inr h
  have hS : va_S A s.heap s.heap [] := va_S.rf
  have hl := lv_entry ([.ref (au 0), .int (s_k x), .int (s_t x), .int (s_m x), .long (s_a x), .ref pl]) (n := 8) (Nat.le_of_ble_eq_true rfl)
  rw [lg_entry_eq]
  generalize (lg_sl ([.ref (au 0), .int (s_k x), .int (s_t x), .int (s_m x), .long (s_a x), .ref pl]) ++ List.replicate (8 - (lg_sl ([.ref (au 0), .int (s_k x), .int (s_t x), .int (s_m x), .long (s_a x), .ref pl])).length) Slot.unset).toArray = ls at hl ⊢
  have hl : lv_has ls 8 [(0, .ref (au 0)), (1, .int (s_k x)), (2, .int (s_t x)), (3, .int (s_m x)), (4, .long (s_a x)), (6, .ref pl)] := hl
  refine va_new (ci := 1) (fs := [.int 0, .int 0, .int 0, .int 0, .long 0, .null, .int 0]) (C := RS) (T := TS) (N := 7) hx hb hg inS tyS okS hown (hg _ cl_U_9) (hg _ ins_S) (hg _ ini_S) hK hP hD hS hA rfl (fun j hj => by rcases (show j = 0 ∨ j = 1 ∨ j = 2 ∨ j = 3 ∨ j = 4 ∨ j = 5 ∨ j = 6 by omega) with rfl | rfl | rfl | rfl | rfl | rfl | rfl <;> rfl) (show 1 ≤ 1 by decide) (show 7 ≤ 7 by decide) d_U_make_0 (fun q H hP hD hS => ?_)
  refine W.widen (k := 1) (n := 7) (by decide) (by decide) ?_
  have hP := wp_pm List.perm_append_comm hP
  have hD := wd_pm List.perm_append_comm hD
  have hP : va_P D cls_ ([(q, .inr (1, [.int 0, .int 0, .int 0, .int 0, .long 0, .null, .int 0]))] ++ ((wU cA au (am 0) (at2 0) (nI n) (nI la) ic tc sa ip tk) ++ ((wq_ cA am um) ++ ((wq_ cA at2 ut) ++ (va_pl L f))))) H := hP
  have hD : va_D A ([(q, .inr (1, [.int 0, .int 0, .int 0, .int 0, .long 0, .null, .int 0]))] ++ ((wU cA au (am 0) (at2 0) (nI n) (nI la) ic tc sa ip tk) ++ ((wq_ cA am um) ++ ((wq_ cA at2 ut) ++ (va_pl L f))))) := hD
  refine lv_dup hx hb d_U_make_3 rfl ?_
  refine lv_aload_n hx hb d_U_make_4 rfl (lv_at hl 0 rfl) ?_
  refine va_get (D := D) (ci := 2) (v := .int (nI la)) (C := RU) (T := TU) (N := 9) hx hb hg inU hown hK hP 1 rfl rfl 2 (by decide) (hg _ fl_U_112) (fun _ h9 => h9) rfl d_U_make_5 ?_
  refine lv_iconst (v := 1) hx hb d_U_make_8 (by decide) ?_
  refine lv_iadd hx hb d_U_make_9 ?_
  refine toi_ (y := s_n x) (by rw [hnum]; exact nI_1 la) ?_
  refine lv_iload_n hx hb d_U_make_10 rfl (lv_at hl 1 rfl) ?_
  refine lv_iload_n hx hb d_U_make_11 rfl (lv_at hl 2 rfl) ?_
  refine lv_iload_n hx hb d_U_make_12 rfl (lv_at hl 3 rfl) ?_
  refine lv_lload hx hb d_U_make_13 (lv_at hl 4 rfl) ?_
  refine lv_aload hx hb d_U_make_15 (lv_at hl 5 rfl) ?_
  refine mu_v (w := [(q, .inr (1, [.int 0, .int 0, .int 0, .int 0, .long 0, .null, .int 0]))]) (wr := ((wU cA au (am 0) (at2 0) (nI n) (nI la) ic tc sa ip tk) ++ ((wq_ cA am um) ++ ((wq_ cA at2 ut) ++ (va_pl L f))))) (va_runI (As := [.int (s_n x), .int (s_k x), .int (s_t x), .int (s_m x), .long (s_a x), .ref pl]) (rest := [.ref q]) ⟨hx, hb, hml, hown, hg⟩ (m_S_init l D cA H.size q pl x) (cwI 6 hg (gd_ cd_S_init) rfl rfl rfl (hg _ ini_S) (hg _ ml_U_142) (hg _ im_S_init) rfl (by decide +kernel) ⟨Nat.le_of_ble_eq_true rfl, Nat.le_of_ble_eq_true rfl⟩) (ps_m (wp_l hP) hK hN (wd_l hD)) rfl rfl hl.1 rfl (lv_room (Nat.le_of_ble_eq_true rfl)) d_U_make_17 ⟨Nat.le_of_ble_eq_true rfl, Nat.le_of_ble_eq_true rfl⟩) hP hD hS hA (fun u9 H locs hp9 hP hD hS => ?_)
  have hP := wp_pm List.perm_append_comm hP
  have hD := wd_pm List.perm_append_comm hD
  obtain ⟨hqn, hpush⟩ := pl_push hD
  rw [hpush] at hP hD
  have hu2 := ui_push hu hqn (cS x pl true)
  have hqL : q ∈ L ++ [q] := List.mem_append_right _ (List.mem_singleton.mpr rfl)
  have hfq : va_up f q (cS x pl true) q = cS x pl true := vu_eq
  have hpl2 : s_k x = 3 ∨ s_k x = 5 → ∃ g, pl ∈ L ++ [q] ∧ va_up f q (cS x pl true) pl = .inl (cA 0, (s_p x).length, .inl g) ∧ rl_ g (s_p x) := fun hk => by
    obtain ⟨g, g1, g2, g3⟩ := hpl hk
    exact ⟨g, List.mem_append_left _ g1, by rw [vu_ne (fun h : pl = q => hqn (h ▸ g1))]; exact g2, g3⟩
  generalize hL2 : L ++ [q] = L2 at hP hD hu2 hqL hpl2
  generalize hf2 : va_up f q (cS x pl true) = f2 at hP hD hu2 hfq hpl2
  have hP : va_P D cls_ ((wU cA au (am 0) (at2 0) (nI n) (nI la) ic tc sa ip tk) ++ ((wq_ cA am um) ++ ((wq_ cA at2 ut) ++ (va_pl L2 f2)))) H := hP
  have hD : va_D A ((wU cA au (am 0) (at2 0) (nI n) (nI la) ic tc sa ip tk) ++ ((wq_ cA am um) ++ ((wq_ cA at2 ut) ++ (va_pl L2 f2)))) := hD
  refine lv_astore (lv' := [(7, .ref q), (0, .ref (au 0)), (1, .int (s_k x)), (2, .int (s_t x)), (3, .int (s_m x)), (4, .long (s_a x)), (6, .ref pl)]) hx hb d_U_make_20 hl (by decide) rfl (fun ls hl => ?_)
  refine lv_aload_n hx hb d_U_make_22 rfl (lv_at hl 1 rfl) ?_
  refine va_get (D := D) (ci := 2) (v := .ref (am 0)) (C := RU) (T := TU) (N := 9) hx hb hg inU hown hK hP 0 rfl rfl 3 (by decide) (hg _ fl_U_18) (fun _ h9 => h9) rfl d_U_make_23 ?_
  refine lv_aload hx hb d_U_make_26 (lv_at hl 0 rfl) ?_
  have hP := wp_pm (pc_ca _ _ _) hP
  have hD := wd_pm (pc_ca _ _ _) hD
  obtain ⟨wp, hwp, hPq, hDq⟩ := wp_mk2 hP hD hqL hfq hpl2
  refine mu_i (w := wq_ cA am um) (wr := ((wU cA au (am 0) (at2 0) (nI n) (nI la) ic tc sa ip tk) ++ ((wq_ cA at2 ut) ++ (va_pl L2 f2)))) (va_runV (C := RR) (As := [.ref q]) (rest := []) ⟨hx, hb, hml, hown, hg⟩ (m_R_attempt l D cA H.size am um.1 um.2.1 um.2.2.1 um.2.2.2.1 um.2.2.2.2.1 um.2.2.2.2.2.1 um.2.2.2.2.2.2.1 um.2.2.2.2.2.2.2.1 um.2.2.2.2.2.2.2.2 q pl x true wp (rp_ hs ac n) hm hw ht hca hwp) (cwV 1 hg (gd_V ml_U_91 im_R_attempt sl_R_attempt ini_R cd_R_attempt) rfl rfl rfl (by decide +kernel) ⟨Nat.le_of_ble_eq_true rfl, Nat.le_of_ble_eq_true rfl⟩) (pv_q (va_recv (q0 := 0) (ci := 0) hK hP rfl rfl) hPq hK hN hDq) rfl rfl hl.1 rfl (lv_room (Nat.le_of_ble_eq_true rfl)) d_U_make_28 ⟨Nat.le_of_ble_eq_true rfl, Nat.le_of_ble_eq_true rfl⟩) hP hD hS hA (fun r28 um2 H locs hp hP hD hS => ?_)
  obtain ⟨rfl, hm2⟩ := hp
  have hP := wp_pm (pc_ca _ _ _) hP
  have hD := wd_pm (pc_ca _ _ _) hD
  have hP : va_P D cls_ ((wU cA au (am 0) (at2 0) (nI n) (nI la) ic tc sa ip tk) ++ ((wq_ cA am um2) ++ ((wq_ cA at2 ut) ++ (va_pl L2 f2)))) H := hP
  have hD : va_D A ((wU cA au (am 0) (at2 0) (nI n) (nI la) ic tc sa ip tk) ++ ((wq_ cA am um2) ++ ((wq_ cA at2 ut) ++ (va_pl L2 f2)))) := hD
  refine lv_if_ne (tgt := 36) hx hb d_U_make_31 (by decide) (fun h31 => ?_) (fun h31 => ?_)
  · skip
    have him : im_ x (rp_ hs ac n) = false := by have h9 := b2_n.mp h31; simpa using h9
    refine lv_aload_n hx hb d_U_make_36 rfl (lv_at hl 1 rfl) ?_
    refine va_get (D := D) (ci := 2) (v := .ref (au 1)) (C := RU) (T := TU) (N := 9) hx hb hg inU hown hK hP 0 rfl rfl 0 (by decide) (hg _ fl_U_11) (fun _ h9 => h9) rfl d_U_make_37 ?_
    refine lv_aload_n hx hb d_U_make_40 rfl (lv_at hl 1 rfl) ?_
    refine va_get (D := D) (ci := 2) (v := .int (nI n)) (C := RU) (T := TU) (N := 9) hx hb hg inU hown hK hP 0 rfl rfl 1 (by decide) (hg _ fl_U_106) (fun _ h9 => h9) rfl d_U_make_41 ?_
    refine lv_aload hx hb d_U_make_44 (lv_at hl 0 rfl) ?_
    obtain ⟨kq, hkq⟩ := cell_in (w1 := (wU cA au (am 0) (at2 0) (nI n) (nI la) ic tc sa ip tk)) (w2 := (wq_ cA am um2)) (w3 := (wq_ cA at2 ut)) hqL hfq
    refine va_astq (r := (RS, TS, 7)) hx hb hK hP hD hS 1 3 kq 1 rfl rfl hkq rfl (vp_in_nI (n := n) (N := 200) (by omega) (by omega)) d_U_make_46 (fun H locs hP hD hS => ?_)
    rw [nI_clamp (by omega)] at hP hD
    have hP : va_P D cls_ ((wU cA au (am 0) (at2 0) (nI n) (nI la) ic tc (va_up sa n (some q)) ip tk) ++ ((wq_ cA am um2) ++ ((wq_ cA at2 ut) ++ (va_pl L2 f2)))) H := hP
    have hD : va_D A ((wU cA au (am 0) (at2 0) (nI n) (nI la) ic tc (va_up sa n (some q)) ip tk) ++ ((wq_ cA am um2) ++ ((wq_ cA at2 ut) ++ (va_pl L2 f2)))) := hD
    refine lv_aload_n hx hb d_U_make_47 rfl (lv_at hl 1 rfl) ?_
    refine lv_dup hx hb d_U_make_48 rfl ?_
    refine va_get (D := D) (ci := 2) (v := .int (nI n)) (C := RU) (T := TU) (N := 9) hx hb hg inU hown hK hP 0 rfl rfl 1 (by decide) (hg _ fl_U_106) (fun _ h9 => h9) rfl d_U_make_49 ?_
    refine lv_iconst (v := 1) hx hb d_U_make_52 (by decide) ?_
    refine lv_iadd hx hb d_U_make_53 ?_
    refine toi_ (y := nI (n + 1)) (nI_1 n) ?_
    refine va_put (D := D) (ci := 2) (v := .int (nI (n + 1))) (ty := .int) (C := RU) (T := TU) (N := 9) hx hb hg inU tyU okU nmU hown hK hP hD hS 0 rfl rfl 1 (by decide) (hg _ fl_U_106) (fun _ h9 => h9) rfl (by decide +kernel) rfl rfl (Nat.le_of_ble_eq_true rfl) d_U_make_54 (fun H locs hP hD hS => ?_)
    have hP : va_P D cls_ ((wU cA au (am 0) (at2 0) (nI (n + 1)) (nI la) ic tc (va_up sa n (some q)) ip tk) ++ ((wq_ cA am um2) ++ ((wq_ cA at2 ut) ++ (va_pl L2 f2)))) H := hP
    have hD : va_D A ((wU cA au (am 0) (at2 0) (nI (n + 1)) (nI la) ic tc (va_up sa n (some q)) ip tk) ++ ((wq_ cA am um2) ++ ((wq_ cA at2 ut) ++ (va_pl L2 f2)))) := hD
    refine lv_aload_n hx hb d_U_make_57 rfl (lv_at hl 1 rfl) ?_
    refine lv_aload hx hb d_U_make_58 (lv_at hl 0 rfl) ?_
    refine va_getN (D := D) (ci := 1) (v := .int (s_n x)) (C := RS) (T := TS) (N := 7) hx hb hg inS hown hK (cell_P hP hqL hfq) 0 rfl rfl 0 (by decide) (va_Nw.use rfl (hN.1 _ fn_U_76)) (fun _ h9 => h9) rfl d_U_make_60 ?_
    refine va_put (D := D) (ci := 2) (v := .int (s_n x)) (ty := .int) (C := RU) (T := TU) (N := 9) hx hb hg inU tyU okU nmU hown hK hP hD hS 0 rfl rfl 2 (by decide) (hg _ fl_U_112) (fun _ h9 => h9) rfl (by decide +kernel) rfl rfl (Nat.le_of_ble_eq_true rfl) d_U_make_63 (fun H locs hP hD hS => ?_)
    have hP : va_P D cls_ ((wU cA au (am 0) (at2 0) (nI (n + 1)) (s_n x) ic tc (va_up sa n (some q)) ip tk) ++ ((wq_ cA am um2) ++ ((wq_ cA at2 ut) ++ (va_pl L2 f2)))) H := hP
    have hD : va_D A ((wU cA au (am 0) (at2 0) (nI (n + 1)) (s_n x) ic tc (va_up sa n (some q)) ip tk) ++ ((wq_ cA am um2) ++ ((wq_ cA at2 ut) ++ (va_pl L2 f2)))) := hD
    refine lv_aload hx hb d_U_make_66 (lv_at hl 0 rfl) ?_
    refine va_getN (D := D) (ci := 1) (v := .int (s_n x)) (C := RS) (T := TS) (N := 7) hx hb hg inS hown hK (cell_P hP hqL hfq) 0 rfl rfl 0 (by decide) (va_Nw.use rfl (hN.1 _ fn_U_76)) (fun _ h9 => h9) rfl d_U_make_68 ?_
    have k1 : mk_ (im_ x (rp_ hs ac n)) n = n + 1 := by rw [him]; rfl
    have k2 : mk_ (im_ x (rp_ hs ac n)) la = la + 1 := by rw [him]; rfl
    rw [hnum] at hP hD
    rw [← k1, ← k2] at hP hD
    exact W.iret hx hb hr (fun t ht9 hW => ⟨⟨_, (va_up sa n (some q), um2, L2, f2), rfl, ⟨by rw [him, hnum]; rfl, hm2, fun h => absurd (him.symm.trans h) (by decide), fun _ => ui_new hu2 hqL hfq hpl2⟩, by rw [ht9]; exact hP, hD⟩, hS.F ht9⟩) hS.2.2 d_U_make_71
  · skip
    have him : im_ x (rp_ hs ac n) = true := by have h9 := b2_0.mp h31; simpa using h9
    refine lv_iconst (v := 0) hx hb d_U_make_34 (by decide) ?_
    have k1 : mk_ (im_ x (rp_ hs ac n)) n = n := by rw [him]; rfl
    have k2 : mk_ (im_ x (rp_ hs ac n)) la = la := by rw [him]; rfl
    rw [← k1, ← k2] at hP hD
    exact W.iret hx hb hr (fun t ht9 hW => ⟨⟨_, (sa, um2, L2, f2), rfl, ⟨by rw [him]; rfl, hm2, fun _ => hu2, fun h => absurd (him.symm.trans h) (by decide)⟩, by rw [ht9]; exact hP, hD⟩, hS.F ht9⟩) hS.2.2 d_U_make_35
