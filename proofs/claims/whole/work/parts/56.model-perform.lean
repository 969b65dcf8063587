/-! The reference: perform -/
set_option maxHeartbeats 4000000 in
set_option maxRecDepth 100000 in
theorem m_M_perform (l : Launch) (D : va_G) (cA : Nat → ClassId) (sz : Nat) (am : Nat → Nat) (la : Int32) (nu ki th ot : Nat → Int32) (vs : Nat → Int64) (av pl ps : Nat → Int32) (tz : Int32) (ts : Nat → Int32) (fr bk : Int32) (ce : Nat → Int32) (co : Nat → Int64) (ro le dn un : Nat → Int32) (hs : Nat → st_T) (ac : Nat → Bool) (n : Nat) (hmh : mh_ hs ac n nu ki th ot vs av pl ps) (hn : n ≤ 200) (i : Nat) (la9 : Nat) (ac2 : Nat → Bool) (hh : hi_ hs n la9) (hin2 : i < n) (hq : mq_ hs ac2 n i (rp_ hs ac2 i) ce co ro le dn un) (ha : ac2 i = true) (him : im_ (hs i) (rp_ hs ac2 i) = false) : Met l y_M_perform (.code y_M_perform c_M_perform 4 none :: G_) ({ frames := 2, cells := 0, slots := 0, locals := 49 }) (va_Pc [.ref (am 0), .int (nI i)] (pm_ D cA (wM cA am (nI n) la nu ki th ot vs av pl ps tz ts fr bk ce co ro le dn un) sz)) (va_Qv (fun (u : mt_T) => mq_ hs ac2 n (i + 1) (rp_ hs ac2 (i + 1)) u.1 u.2.1 u.2.2.1 u.2.2.2.1 u.2.2.2.2.1 u.2.2.2.2.2) (bw_ D (va_A (wM cA am (nI n) la nu ki th ot vs av pl ps tz ts fr bk ce co ro le dn un) sz) (fun u => wM cA am (nI n) la nu ki th ot vs av pl ps tz ts fr bk u.1 u.2.1 u.2.2.1 u.2.2.2.1 u.2.2.2.2.1 u.2.2.2.2.2)) (va_A (wM cA am (nI n) la nu ki th ot vs av pl ps tz ts fr bk ce co ro le dn un) sz)) 0 0 (va_A (wM cA am (nI n) la nu ki th ot vs av pl ps tz ts fr bk ce co ro le dn un) sz) := by
  refine Met.ofW (cc := c_M_perform) (maxL := 4) (ret := none) (by decide) rfl ?_
  intro p e s m args below meth c s₁ B hml hv
  obtain ⟨rfl, hsz, hP, ⟨hK, hN⟩, hD0⟩ := hv
  have hx := B.exec
  have hb := B.bytes
  have hr := B.returns
  have hts := atoms_spec (ws := (.code y_M_perform c_M_perform 4 none :: G_)) B.pre
  have hg : ∀ w ∈ G_, w.before ([.ref (am 0), .int (nI i)] : List Value).toArray s = true := fun w h => hts w (List.mem_cons_of_mem _ h)
  have hown : s.vm.findClass RM = some m.cls := findClass_of_methodNamed B.named
  have hlocks := B.notSynchronized
  subst hsz
  have hD := hD0.self (sz := s.heap.size)
  generalize hAe : va_A (wM cA am (nI n) la nu ki th ot vs av pl ps tz ts fr bk ce co ro le dn un) s.heap.size = A at hD ⊢
  have hA : ∀ q : Nat, s.heap.size ≤ q → A q := fun q h => by rw [← hAe]; exact Or.inr h
  have hS : va_S A s.heap s.heap [] := va_S.rf
  have hl := lv_entry ([.ref (am 0), .int (nI i)]) (n := 4) (Nat.le_of_ble_eq_true rfl)
  rw [lg_entry_eq]
  generalize (lg_sl ([.ref (am 0), .int (nI i)]) ++ List.replicate (4 - (lg_sl ([.ref (am 0), .int (nI i)])).length) Slot.unset).toArray = ls at hl ⊢
  have hl : lv_has ls 4 [(0, .ref (am 0)), (1, .int (nI i))] := hl
  have hin : i ≤ n := Nat.le_of_lt hin2
  obtain ⟨htr, -, -⟩ := hh.2.2.1 i hin2
  have hmi := hmh i hin2
  have hw := rp_mw hh ac2 hin
  have hca := ca_rp hh ac2 hin2
  have hkd : ∀ j, j < i → kd_ (hs j) := fun j hj => (hh.2.2.1 j (by omega)).1.1
  have hdn := dn_arr ha him hq.2.2.2.1
  have hon := rp_on ha him
  have hp40 := htr.2.2.2.2.2.2
  refine lv_aload_n hx hb d_M_perform_0 rfl (lv_at hl 0 rfl) ?_
  refine va_get (D := D) (ci := 3) (v := .ref (am 3)) (C := RM) (T := TM) (N := 20) hx hb hg inM hown hK hP 0 rfl rfl 4 (by decide) (hg _ fl_M_16) (fun _ h9 => h9) rfl d_M_perform_1 ?_
  refine lv_iload_n hx hb d_M_perform_4 rfl (lv_at hl 1 rfl) ?_
  refine va_iald hx hb hK hP 3 0 rfl rfl (vp_in_nI (n := i) (N := 200) (by omega) (by omega)) d_M_perform_5 ?_
  refine toi_ (y := th i) (by rw [nI_clamp (by omega)]) ?_
  refine toi_ (y := s_t (hs i)) (hmi.2.2.1) ?_
  refine lv_istore_n (lv' := [(2, .int (s_t (hs i))), (0, .ref (am 0)), (1, .int (nI i))]) hx hb d_M_perform_6 rfl hl (by decide) rfl (fun ls hl => ?_)
  refine lv_aload_n hx hb d_M_perform_7 rfl (lv_at hl 1 rfl) ?_
  refine va_get (D := D) (ci := 3) (v := .ref (am 14)) (C := RM) (T := TM) (N := 20) hx hb hg inM hown hK hP 0 rfl rfl 18 (by decide) (hg _ fl_M_59) (fun _ h9 => h9) rfl d_M_perform_8 ?_
  refine lv_iload_n hx hb d_M_perform_11 rfl (lv_at hl 2 rfl) ?_
  refine lv_iconst (v := 1) hx hb d_M_perform_12 (by decide) ?_
  refine va_zast hx hb hK hP hD hS 14 4 rfl rfl (vp_in_nI (n := i) (N := 200) (by omega) (by omega)) d_M_perform_13 (fun H locs hP hD hS => ?_)
  rw [nI_clamp (by omega)] at hP hD
  rw [show vp_nar .boolean 1 = 1 from rfl] at hP hD
  have hP : va_P D cls_ (wM cA am (nI n) la nu ki th ot vs av pl ps tz ts fr bk ce co ro le (upd dn i 1) un) H := hP
  have hD : va_D A (wM cA am (nI n) la nu ki th ot vs av pl ps tz ts fr bk ce co ro le (upd dn i 1) un) := hD
  refine lv_aload_n hx hb d_M_perform_14 rfl (lv_at hl 1 rfl) ?_
  refine va_get (D := D) (ci := 3) (v := .ref (am 2)) (C := RM) (T := TM) (N := 20) hx hb hg inM hown hK hP 0 rfl rfl 3 (by decide) (hg _ fl_M_13) (fun _ h9 => h9) rfl d_M_perform_15 ?_
  refine lv_iload_n hx hb d_M_perform_18 rfl (lv_at hl 2 rfl) ?_
  refine va_iald hx hb hK hP 2 0 rfl rfl (vp_in_nI (n := i) (N := 200) (by omega) (by omega)) d_M_perform_19 ?_
  refine toi_ (y := ki i) (by rw [nI_clamp (by omega)]) ?_
  refine toi_ (y := s_k (hs i)) hmi.2.1 ?_
  rcases htr.1 with hk | hk | hk | hk | hk | hk | hk | hk
  · skip
    refine toi_ (y := 1) hk ?_
    obtain ⟨x7, hx7, hct⟩ := htr.2.1 hk
    have hsr : s_r (hs i) = x7 := by unfold s_r; rw [hct]; exact nI_clamp (by omega)
    refine lv_tableIn (off := 44) (tgt := 64) hx hb d_M_perform_20 (by decide) (by decide) rfl (by decide) ?_
    refine lv_aload_n hx hb d_M_perform_64 rfl (lv_at hl 1 rfl) ?_
    refine va_get (D := D) (ci := 3) (v := .ref (am 10)) (C := RM) (T := TM) (N := 20) hx hb hg inM hown hK hP 0 rfl rfl 14 (by decide) (hg _ fl_M_47) (fun _ h9 => h9) rfl d_M_perform_65 ?_
    refine lv_iload_n hx hb d_M_perform_68 rfl (lv_at hl 0 rfl) ?_
    refine toi_ (y := nI x7) (hct) ?_
    refine lv_aload_n hx hb d_M_perform_69 rfl (lv_at hl 1 rfl) ?_
    refine va_get (D := D) (ci := 3) (v := .ref (am 5)) (C := RM) (T := TM) (N := 20) hx hb hg inM hown hK hP 0 rfl rfl 6 (by decide) (hg _ fl_M_22) (fun _ h9 => h9) rfl d_M_perform_70 ?_
    refine lv_iload_n hx hb d_M_perform_73 rfl (lv_at hl 2 rfl) ?_
    refine va_lald hx hb hK hP 5 1 rfl rfl (vp_in_nI (n := i) (N := 200) (by omega) (by omega)) d_M_perform_74 ?_
    refine tol_ (y := vs i) (by rw [nI_clamp (by omega)]) ?_
    refine tol_ (y := s_a (hs i)) (hmi.2.2.2.2.1) ?_
    refine lv_l2i (v := (s_a (hs i)).toInt32) hx hb d_M_perform_75 (rfl) ?_
    refine va_iast hx hb hK hP hD hS 10 0 rfl rfl (vp_in_nI (n := x7) (N := 8) (by omega) (by omega)) d_M_perform_76 (fun H locs hP hD hS => ?_)
    rw [nI_clamp (by omega)] at hP hD
    have hP : va_P D cls_ (wM cA am (nI n) la nu ki th ot vs av pl ps tz ts fr bk (upd ce x7 ((s_a (hs i)).toInt32)) co ro le (upd dn i 1) un) H := hP
    have hD : va_D A (wM cA am (nI n) la nu ki th ot vs av pl ps tz ts fr bk (upd ce x7 ((s_a (hs i)).toInt32)) co ro le (upd dn i 1) un) := hD
    refine lv_goto (tgt := 222) hx hb d_M_perform_77 (by decide) ?_
    have hfin : mq_ hs ac2 n (i + 1) (rp_ hs ac2 (i + 1)) (upd ce x7 ((s_a (hs i)).toInt32)) co ro le (upd dn i 1) un := by
      rw [hon, pf_1 _ hk, hsr]
      refine ⟨fun z hz => ?_, hq.2.1, hq.2.2.1, hdn, un_keep ha him (by rw [hk]; decide) rfl hq.2.2.2.2⟩
      show upd ce x7 _ z = upd (m_c (rp_ hs ac2 i)) x7 _ z
      by_cases h9 : z = x7
      · rw [h9, pk_us, pk_us]
      · rw [pk_un h9, pk_un h9]; exact hq.1 z hz
    exact W.vret hx hb hr (fun t ht hW => ⟨⟨(upd ce x7 ((s_a (hs i)).toInt32), co, ro, le, upd dn i 1, un), rfl, hfin, by rw [ht]; exact hP, hD⟩, hS.F ht⟩) hS.2.2 d_M_perform_222
  · skip
    refine toi_ (y := 2) hk ?_
    obtain ⟨x7, hx7, hct⟩ := htr.2.2.1 hk
    have hsr : s_r (hs i) = x7 := by unfold s_r; rw [hct]; exact nI_clamp (by omega)
    refine lv_tableIn (off := 60) (tgt := 80) hx hb d_M_perform_20 (by decide) (by decide) rfl (by decide) ?_
    refine lv_aload_n hx hb d_M_perform_80 rfl (lv_at hl 1 rfl) ?_
    refine va_get (D := D) (ci := 3) (v := .ref (am 11)) (C := RM) (T := TM) (N := 20) hx hb hg inM hown hK hP 0 rfl rfl 15 (by decide) (hg _ fl_M_50) (fun _ h9 => h9) rfl d_M_perform_81 ?_
    refine lv_iload_n hx hb d_M_perform_84 rfl (lv_at hl 0 rfl) ?_
    refine toi_ (y := nI x7) (hct) ?_
    refine lv_dup2_11 hx hb d_M_perform_85 rfl rfl ?_
    refine va_lald hx hb hK hP 11 1 rfl rfl (vp_in_nI (n := x7) (N := 4) (by omega) (by omega)) d_M_perform_86 ?_
    refine tol_ (y := co x7) (by rw [nI_clamp (by omega)]) ?_
    refine lv_aload_n hx hb d_M_perform_87 rfl (lv_at hl 1 rfl) ?_
    refine va_get (D := D) (ci := 3) (v := .ref (am 5)) (C := RM) (T := TM) (N := 20) hx hb hg inM hown hK hP 0 rfl rfl 6 (by decide) (hg _ fl_M_22) (fun _ h9 => h9) rfl d_M_perform_88 ?_
    refine lv_iload_n hx hb d_M_perform_91 rfl (lv_at hl 2 rfl) ?_
    refine va_lald hx hb hK hP 5 1 rfl rfl (vp_in_nI (n := i) (N := 200) (by omega) (by omega)) d_M_perform_92 ?_
    refine tol_ (y := vs i) (by rw [nI_clamp (by omega)]) ?_
    refine tol_ (y := s_a (hs i)) (hmi.2.2.2.2.1) ?_
    refine lv_ladd hx hb d_M_perform_93 ?_
    refine va_last hx hb hK hP hD hS 11 1 rfl rfl (vp_in_nI (n := x7) (N := 4) (by omega) (by omega)) d_M_perform_94 (fun H locs hP hD hS => ?_)
    rw [nI_clamp (by omega)] at hP hD
    have hP : va_P D cls_ (wM cA am (nI n) la nu ki th ot vs av pl ps tz ts fr bk ce (vp_updL co x7 ((co x7) + (s_a (hs i)))) ro le (upd dn i 1) un) H := hP
    have hD : va_D A (wM cA am (nI n) la nu ki th ot vs av pl ps tz ts fr bk ce (vp_updL co x7 ((co x7) + (s_a (hs i)))) ro le (upd dn i 1) un) := hD
    refine lv_goto (tgt := 222) hx hb d_M_perform_95 (by decide) ?_
    have hfin : mq_ hs ac2 n (i + 1) (rp_ hs ac2 (i + 1)) ce (vp_updL co x7 ((co x7) + (s_a (hs i)))) ro le (upd dn i 1) un := by
      rw [hon, pf_2 _ hk, hsr]
      refine ⟨hq.1, fun z hz => ?_, hq.2.2.1, hdn, un_keep ha him (by rw [hk]; decide) rfl hq.2.2.2.2⟩
      show vp_updL co x7 _ z = vp_updL (m_k (rp_ hs ac2 i)) x7 (m_k (rp_ hs ac2 i) x7 + _) z
      by_cases h9 : z = x7
      · rw [h9, pk_uLs, pk_uLs, hq.2.1 x7 hx7]
      · rw [pk_uLn h9, pk_uLn h9]; exact hq.2.1 z hz
    exact W.vret hx hb hr (fun t ht hW => ⟨⟨(ce, vp_updL co x7 ((co x7) + (s_a (hs i))), ro, le, upd dn i 1, un), rfl, hfin, by rw [ht]; exact hP, hD⟩, hS.F ht⟩) hS.2.2 d_M_perform_222
  · skip
    refine toi_ (y := 3) hk ?_
    obtain ⟨x7, hx7, hct⟩ := htr.2.2.2.1 (Or.inl hk)
    have hsr : s_r (hs i) = x7 := by unfold s_r; rw [hct]; exact nI_clamp (by omega)
    have hle9 := (hq.2.2.1 x7 hx7).1
    have hrl9 := (hq.2.2.1 x7 hx7).2
    have h40 := hw.1 x7 hx7
    obtain ⟨hps, hpp⟩ := hmi.2.2.2.2.2.2 (Or.inl hk)
    have h39 := (hca.1 hk).1
    rw [hsr] at h39
    refine lv_tableIn (off := 78) (tgt := 98) hx hb d_M_perform_20 (by decide) (by decide) rfl (by decide) ?_
    refine lv_aload_n hx hb d_M_perform_98 rfl (lv_at hl 1 rfl) ?_
    refine lv_iload_n hx hb d_M_perform_99 rfl (lv_at hl 0 rfl) ?_
    refine toi_ (y := nI x7) (hct) ?_
    refine lv_aload_n hx hb d_M_perform_100 rfl (lv_at hl 1 rfl) ?_
    refine va_get (D := D) (ci := 3) (v := .ref (am 1)) (C := RM) (T := TM) (N := 20) hx hb hg inM hown hK hP 0 rfl rfl 2 (by decide) (hg _ fl_M_7) (fun _ h9 => h9) rfl d_M_perform_101 ?_
    refine lv_iload_n hx hb d_M_perform_104 rfl (lv_at hl 2 rfl) ?_
    refine va_iald hx hb hK hP 1 0 rfl rfl (vp_in_nI (n := i) (N := 200) (by omega) (by omega)) d_M_perform_105 ?_
    refine toi_ (y := nu i) (by rw [nI_clamp (by omega)]) ?_
    refine toi_ (y := s_n (hs i)) (hmi.1) ?_
    refine lv_iload_n hx hb d_M_perform_106 rfl (lv_at hl 2 rfl) ?_
    refine mu0_v (w := (wM cA am (nI n) la nu ki th ot vs av pl ps tz ts fr bk ce co ro le (upd dn i 1) un)) (va_runV (C := RM) (As := [.int (nI x7), .int (s_n (hs i)), .int (nI i)]) (rest := []) ⟨hx, hb, hml, hown, hg⟩ (m_M_bringIn l D cA H.size am (nI n) la nu ki th ot vs av pl ps tz ts fr bk ce co ro le (upd dn i 1) un x7 (s_n (hs i)) i (s_p (hs i)) (m_r (rp_ hs ac2 i) x7) hx7 hle9 hrl9 h39 (by omega) hps hpp hp40) (cwV 3 hg (gd_V ml_M_91 im_M_bringIn sl_M_bringIn ini_M cd_M_bringIn) rfl rfl rfl (by decide +kernel) ⟨Nat.le_of_ble_eq_true rfl, Nat.le_of_ble_eq_true rfl⟩) (pv_m (va_recv (q0 := 0) (ci := 3) hK hP rfl rfl) hP hK hN hD) rfl rfl hl.1 rfl (lv_room (Nat.le_of_ble_eq_true rfl)) d_M_perform_107 ⟨Nat.zero_le _, Nat.zero_le _⟩) hP hD hS hA (fun u H locs hp hP hD hS => ?_)
    obtain ⟨ro3, le3⟩ := u
    have hp3 := hp
    have hP : va_P D cls_ (wM cA am (nI n) la nu ki th ot vs av pl ps tz ts fr bk ce co ro3 le3 (upd dn i 1) un) H := hP
    have hD : va_D A (wM cA am (nI n) la nu ki th ot vs av pl ps tz ts fr bk ce co ro3 le3 (upd dn i 1) un) := hD
    refine lv_goto (tgt := 222) hx hb d_M_perform_110 (by decide) ?_
    have hfin : mq_ hs ac2 n (i + 1) (rp_ hs ac2 (i + 1)) ce co ro3 le3 (upd dn i 1) un := by
      rw [hon, pf_3 _ hk, hsr]
      exact ⟨hq.1, hq.2.1, rows_up hx7 hw.1 hq.2.2.1 hp3, hdn, un_keep ha him (by rw [hk]; decide) rfl hq.2.2.2.2⟩
    exact W.vret hx hb hr (fun t ht hW => ⟨⟨(ce, co, ro3, le3, upd dn i 1, un), rfl, hfin, by rw [ht]; exact hP, hD⟩, hS.F ht⟩) hS.2.2 d_M_perform_222
  · skip
    refine toi_ (y := 4) hk ?_
    obtain ⟨x7, hx7, hct⟩ := htr.2.2.2.1 (Or.inr (Or.inl hk))
    have hsr : s_r (hs i) = x7 := by unfold s_r; rw [hct]; exact nI_clamp (by omega)
    have hle9 := (hq.2.2.1 x7 hx7).1
    have hrl9 := (hq.2.2.1 x7 hx7).2
    have h40 := hw.1 x7 hx7
    refine lv_tableIn (off := 93) (tgt := 113) hx hb d_M_perform_20 (by decide) (by decide) rfl (by decide) ?_
    refine lv_aload_n hx hb d_M_perform_113 rfl (lv_at hl 1 rfl) ?_
    refine lv_iload_n hx hb d_M_perform_114 rfl (lv_at hl 0 rfl) ?_
    refine toi_ (y := nI x7) (hct) ?_
    refine lv_aload_n hx hb d_M_perform_115 rfl (lv_at hl 1 rfl) ?_
    refine va_get (D := D) (ci := 3) (v := .ref (am 4)) (C := RM) (T := TM) (N := 20) hx hb hg inM hown hK hP 0 rfl rfl 5 (by decide) (hg _ fl_M_19) (fun _ h9 => h9) rfl d_M_perform_116 ?_
    refine lv_iload_n hx hb d_M_perform_119 rfl (lv_at hl 2 rfl) ?_
    refine va_iald hx hb hK hP 4 0 rfl rfl (vp_in_nI (n := i) (N := 200) (by omega) (by omega)) d_M_perform_120 ?_
    refine toi_ (y := ot i) (by rw [nI_clamp (by omega)]) ?_
    refine toi_ (y := s_m (hs i)) (hmi.2.2.2.1) ?_
    refine mu0_v (w := (wM cA am (nI n) la nu ki th ot vs av pl ps tz ts fr bk ce co ro le (upd dn i 1) un)) (va_runV (C := RM) (As := [.int (nI x7), .int (s_m (hs i))]) (rest := []) ⟨hx, hb, hml, hown, hg⟩ (m_M_takeOut l D cA H.size am (nI n) la nu ki th ot vs av pl ps tz ts fr bk ce co ro le (upd dn i 1) un x7 (s_m (hs i)) (m_r (rp_ hs ac2 i) x7) hx7 hle9 hrl9 h40) (cwV 2 hg (gd_V ml_M_95 im_M_takeOut sl_M_takeOut ini_M cd_M_takeOut) rfl rfl rfl (by decide +kernel) ⟨Nat.le_of_ble_eq_true rfl, Nat.le_of_ble_eq_true rfl⟩) (pv_m (va_recv (q0 := 0) (ci := 3) hK hP rfl rfl) hP hK hN hD) rfl rfl hl.1 rfl (lv_room (Nat.le_of_ble_eq_true rfl)) d_M_perform_121 ⟨Nat.zero_le _, Nat.zero_le _⟩) hP hD hS hA (fun u H locs hp hP hD hS => ?_)
    obtain ⟨ro2, le2⟩ := u
    have hp2 := hp
    have hP : va_P D cls_ (wM cA am (nI n) la nu ki th ot vs av pl ps tz ts fr bk ce co ro2 le2 (upd dn i 1) un) H := hP
    have hD : va_D A (wM cA am (nI n) la nu ki th ot vs av pl ps tz ts fr bk ce co ro2 le2 (upd dn i 1) un) := hD
    refine lv_goto (tgt := 222) hx hb d_M_perform_124 (by decide) ?_
    have hfin : mq_ hs ac2 n (i + 1) (rp_ hs ac2 (i + 1)) ce co ro2 le2 (upd dn i 1) un := by
      rw [hon, pf_4 _ hk, hsr]
      exact ⟨hq.1, hq.2.1, rows_up hx7 hw.1 hq.2.2.1 hp2, hdn, un_keep ha him (by rw [hk]; decide) rfl hq.2.2.2.2⟩
    exact W.vret hx hb hr (fun t ht hW => ⟨⟨(ce, co, ro2, le2, upd dn i 1, un), rfl, hfin, by rw [ht]; exact hP, hD⟩, hS.F ht⟩) hS.2.2 d_M_perform_222
  · skip
    refine toi_ (y := 5) hk ?_
    obtain ⟨x7, hx7, hct⟩ := htr.2.2.2.1 (Or.inr (Or.inr hk))
    have hsr : s_r (hs i) = x7 := by unfold s_r; rw [hct]; exact nI_clamp (by omega)
    have hle9 := (hq.2.2.1 x7 hx7).1
    have hrl9 := (hq.2.2.1 x7 hx7).2
    have h40 := hw.1 x7 hx7
    obtain ⟨hps, hpp⟩ := hmi.2.2.2.2.2.2 (Or.inr hk)
    refine lv_tableIn (off := 107) (tgt := 127) hx hb d_M_perform_20 (by decide) (by decide) rfl (by decide) ?_
    refine lv_aload_n hx hb d_M_perform_127 rfl (lv_at hl 1 rfl) ?_
    refine lv_iload_n hx hb d_M_perform_128 rfl (lv_at hl 0 rfl) ?_
    refine toi_ (y := nI x7) (hct) ?_
    refine lv_aload_n hx hb d_M_perform_129 rfl (lv_at hl 1 rfl) ?_
    refine va_get (D := D) (ci := 3) (v := .ref (am 4)) (C := RM) (T := TM) (N := 20) hx hb hg inM hown hK hP 0 rfl rfl 5 (by decide) (hg _ fl_M_19) (fun _ h9 => h9) rfl d_M_perform_130 ?_
    refine lv_iload_n hx hb d_M_perform_133 rfl (lv_at hl 2 rfl) ?_
    refine va_iald hx hb hK hP 4 0 rfl rfl (vp_in_nI (n := i) (N := 200) (by omega) (by omega)) d_M_perform_134 ?_
    refine toi_ (y := ot i) (by rw [nI_clamp (by omega)]) ?_
    refine toi_ (y := s_m (hs i)) (hmi.2.2.2.1) ?_
    refine vp_callSi (va_Run.run (va_runV (C := RM) (As := [.int (nI x7), .int (s_m (hs i))]) (rest := []) ⟨hx, hb, hml, hown, hg⟩ (m_M_indexOf l D cA am (nI n) la nu ki th ot vs av pl ps tz ts fr bk ce co ro le (upd dn i 1) un x7 (s_m (hs i)) (m_r (rp_ hs ac2 i) x7) hx7 hle9 hrl9 h40) (cwV 2 hg (gd_V ml_M_75 im_M_indexOf sl_M_indexOf ini_M cd_M_indexOf) rfl rfl rfl (by decide +kernel) ⟨Nat.le_of_ble_eq_true rfl, Nat.le_of_ble_eq_true rfl⟩) (pv_r (va_recv (q0 := 0) (ci := 3) hK hP rfl rfl) (hP) hK hN) rfl rfl hl.1 rfl (lv_room (Nat.le_of_ble_eq_true rfl)) d_M_perform_135 ⟨Nat.zero_le _, Nat.zero_le _⟩)) (fun r135 e135 => ?_)
    subst e135
    rcases hfi : ix_ (m_r (rp_ hs ac2 i) x7) (s_m (hs i)) with _ | k
    · skip
      refine toi_ (y := -1) rfl ?_
      refine lv_if_lt (tgt := 145) hx hb d_M_perform_138 (by decide) (fun h138 => ?_) (fun h138 => ?_)
      · skip
        refine lv_iconst (v := 0) hx hb d_M_perform_145 (by decide) ?_
        refine lv_istore_n (lv' := [(3, .int 0), (2, .int (s_t (hs i))), (0, .ref (am 0)), (1, .int (nI i))]) hx hb d_M_perform_146 rfl hl (by decide) rfl (fun ls hl => ?_)
        refine lv_aload_n hx hb d_M_perform_147 rfl (lv_at hl 2 rfl) ?_
        refine lv_iload_n hx hb d_M_perform_148 rfl (lv_at hl 1 rfl) ?_
        refine toi_ (y := nI x7) (hct) ?_
        refine lv_aload_n hx hb d_M_perform_149 rfl (lv_at hl 2 rfl) ?_
        refine va_get (D := D) (ci := 3) (v := .ref (am 4)) (C := RM) (T := TM) (N := 20) hx hb hg inM hown hK hP 0 rfl rfl 5 (by decide) (hg _ fl_M_19) (fun _ h9 => h9) rfl d_M_perform_150 ?_
        refine lv_iload_n hx hb d_M_perform_153 rfl (lv_at hl 3 rfl) ?_
        refine va_iald hx hb hK hP 4 0 rfl rfl (vp_in_nI (n := i) (N := 200) (by omega) (by omega)) d_M_perform_154 ?_
        refine toi_ (y := ot i) (by rw [nI_clamp (by omega)]) ?_
        refine toi_ (y := s_m (hs i)) (hmi.2.2.2.1) ?_
        refine mu0_v (w := (wM cA am (nI n) la nu ki th ot vs av pl ps tz ts fr bk ce co ro le (upd dn i 1) un)) (va_runV (C := RM) (As := [.int (nI x7), .int (s_m (hs i))]) (rest := []) ⟨hx, hb, hml, hown, hg⟩ (m_M_takeOut l D cA H.size am (nI n) la nu ki th ot vs av pl ps tz ts fr bk ce co ro le (upd dn i 1) un x7 (s_m (hs i)) (m_r (rp_ hs ac2 i) x7) hx7 hle9 hrl9 h40) (cwV 2 hg (gd_V ml_M_95 im_M_takeOut sl_M_takeOut ini_M cd_M_takeOut) rfl rfl rfl (by decide +kernel) ⟨Nat.le_of_ble_eq_true rfl, Nat.le_of_ble_eq_true rfl⟩) (pv_m (va_recv (q0 := 0) (ci := 3) hK hP rfl rfl) hP hK hN hD) rfl rfl hl.1 rfl (lv_room (Nat.le_of_ble_eq_true rfl)) d_M_perform_155 ⟨Nat.zero_le _, Nat.zero_le _⟩) hP hD hS hA (fun u H locs hp hP hD hS => ?_)
        obtain ⟨ro2, le2⟩ := u
        have hp2 := hp
        have hP : va_P D cls_ (wM cA am (nI n) la nu ki th ot vs av pl ps tz ts fr bk ce co ro2 le2 (upd dn i 1) un) H := hP
        have hD : va_D A (wM cA am (nI n) la nu ki th ot vs av pl ps tz ts fr bk ce co ro2 le2 (upd dn i 1) un) := hD
        refine lv_iload_n hx hb d_M_perform_158 rfl (lv_at hl 0 rfl) ?_
        refine lv_if_eq (tgt := 222) hx hb d_M_perform_159 (by decide) (fun h159 => ?_) (fun h159 => ?_)
        · skip
          have hfin : mq_ hs ac2 n (i + 1) (rp_ hs ac2 (i + 1)) ce co ro2 le2 (upd dn i 1) un := by
            rw [hon, pf_5 _ hk, hsr]
            have hnm := ix_non.mp hfi
            rw [if_neg hnm]
            rw [del_non hnm] at hp2
            exact ⟨hq.1, hq.2.1, rows_up hx7 hw.1 hq.2.2.1 hp2, hdn, un_keep ha him (by rw [hk]; decide) rfl hq.2.2.2.2⟩
          exact W.vret hx hb hr (fun t ht hW => ⟨⟨(ce, co, ro2, le2, upd dn i 1, un), rfl, hfin, by rw [ht]; exact hP, hD⟩, hS.F ht⟩) hS.2.2 d_M_perform_222
        · skip
          exact absurd rfl h159
      · skip
        exact absurd (by decide) h138
    · skip
      refine toi_ (y := nI k) rfl ?_
      refine lv_if_lt (tgt := 145) hx hb d_M_perform_138 (by decide) (fun h138 => ?_) (fun h138 => ?_)
      · skip
        exact absurd h138 (nI_pos (by have := ix_lt hfi; omega))
      · skip
        have hmem : s_m (hs i) ∈ (m_r (rp_ hs ac2 i) x7) := ix_mem.mp ⟨k, hfi⟩
        refine lv_iconst (v := 1) hx hb d_M_perform_141 (by decide) ?_
        refine lv_goto (tgt := 146) hx hb d_M_perform_142 (by decide) ?_
        refine lv_istore_n (lv' := [(3, .int 1), (2, .int (s_t (hs i))), (0, .ref (am 0)), (1, .int (nI i))]) hx hb d_M_perform_146 rfl hl (by decide) rfl (fun ls hl => ?_)
        refine lv_aload_n hx hb d_M_perform_147 rfl (lv_at hl 2 rfl) ?_
        refine lv_iload_n hx hb d_M_perform_148 rfl (lv_at hl 1 rfl) ?_
        refine toi_ (y := nI x7) (hct) ?_
        refine lv_aload_n hx hb d_M_perform_149 rfl (lv_at hl 2 rfl) ?_
        refine va_get (D := D) (ci := 3) (v := .ref (am 4)) (C := RM) (T := TM) (N := 20) hx hb hg inM hown hK hP 0 rfl rfl 5 (by decide) (hg _ fl_M_19) (fun _ h9 => h9) rfl d_M_perform_150 ?_
        refine lv_iload_n hx hb d_M_perform_153 rfl (lv_at hl 3 rfl) ?_
        refine va_iald hx hb hK hP 4 0 rfl rfl (vp_in_nI (n := i) (N := 200) (by omega) (by omega)) d_M_perform_154 ?_
        refine toi_ (y := ot i) (by rw [nI_clamp (by omega)]) ?_
        refine toi_ (y := s_m (hs i)) (hmi.2.2.2.1) ?_
        refine mu0_v (w := (wM cA am (nI n) la nu ki th ot vs av pl ps tz ts fr bk ce co ro le (upd dn i 1) un)) (va_runV (C := RM) (As := [.int (nI x7), .int (s_m (hs i))]) (rest := []) ⟨hx, hb, hml, hown, hg⟩ (m_M_takeOut l D cA H.size am (nI n) la nu ki th ot vs av pl ps tz ts fr bk ce co ro le (upd dn i 1) un x7 (s_m (hs i)) (m_r (rp_ hs ac2 i) x7) hx7 hle9 hrl9 h40) (cwV 2 hg (gd_V ml_M_95 im_M_takeOut sl_M_takeOut ini_M cd_M_takeOut) rfl rfl rfl (by decide +kernel) ⟨Nat.le_of_ble_eq_true rfl, Nat.le_of_ble_eq_true rfl⟩) (pv_m (va_recv (q0 := 0) (ci := 3) hK hP rfl rfl) hP hK hN hD) rfl rfl hl.1 rfl (lv_room (Nat.le_of_ble_eq_true rfl)) d_M_perform_155 ⟨Nat.zero_le _, Nat.zero_le _⟩) hP hD hS hA (fun u H locs hp hP hD hS => ?_)
        obtain ⟨ro2, le2⟩ := u
        have hp2 := hp
        have hP : va_P D cls_ (wM cA am (nI n) la nu ki th ot vs av pl ps tz ts fr bk ce co ro2 le2 (upd dn i 1) un) H := hP
        have hD : va_D A (wM cA am (nI n) la nu ki th ot vs av pl ps tz ts fr bk ce co ro2 le2 (upd dn i 1) un) := hD
        refine lv_iload_n hx hb d_M_perform_158 rfl (lv_at hl 0 rfl) ?_
        refine lv_if_eq (tgt := 222) hx hb d_M_perform_159 (by decide) (fun h159 => ?_) (fun h159 => ?_)
        · skip
          exact absurd h159 (by decide)
        · skip
          refine lv_aload_n hx hb d_M_perform_162 rfl (lv_at hl 2 rfl) ?_
          refine lv_iload_n hx hb d_M_perform_163 rfl (lv_at hl 1 rfl) ?_
          refine toi_ (y := nI x7) (hct) ?_
          refine lv_aload_n hx hb d_M_perform_164 rfl (lv_at hl 2 rfl) ?_
          refine va_get (D := D) (ci := 3) (v := .ref (am 4)) (C := RM) (T := TM) (N := 20) hx hb hg inM hown hK hP 0 rfl rfl 5 (by decide) (hg _ fl_M_19) (fun _ h9 => h9) rfl d_M_perform_165 ?_
          refine lv_iload_n hx hb d_M_perform_168 rfl (lv_at hl 3 rfl) ?_
          refine va_iald hx hb hK hP 4 0 rfl rfl (vp_in_nI (n := i) (N := 200) (by omega) (by omega)) d_M_perform_169 ?_
          refine toi_ (y := ot i) (by rw [nI_clamp (by omega)]) ?_
          refine toi_ (y := s_m (hs i)) (hmi.2.2.2.1) ?_
          refine lv_iload_n hx hb d_M_perform_170 rfl (lv_at hl 3 rfl) ?_
          refine mu0_v (w := (wM cA am (nI n) la nu ki th ot vs av pl ps tz ts fr bk ce co ro2 le2 (upd dn i 1) un)) (va_runV (C := RM) (As := [.int (nI x7), .int (s_m (hs i)), .int (nI i)]) (rest := []) ⟨hx, hb, hml, hown, hg⟩ (m_M_bringIn l D cA H.size am (nI n) la nu ki th ot vs av pl ps tz ts fr bk ce co ro2 le2 (upd dn i 1) un x7 (s_m (hs i)) i (s_p (hs i)) (del_ (m_r (rp_ hs ac2 i) x7) (s_m (hs i))) hx7 hp2.2.1 hp2.2.2 (by rw [del_len hmem]; omega) (by omega) hps hpp hp40) (cwV 3 hg (gd_V ml_M_91 im_M_bringIn sl_M_bringIn ini_M cd_M_bringIn) rfl rfl rfl (by decide +kernel) ⟨Nat.le_of_ble_eq_true rfl, Nat.le_of_ble_eq_true rfl⟩) (pv_m (va_recv (q0 := 0) (ci := 3) hK hP rfl rfl) hP hK hN hD) rfl rfl hl.1 rfl (lv_room (Nat.le_of_ble_eq_true rfl)) d_M_perform_171 ⟨Nat.zero_le _, Nat.zero_le _⟩) hP hD hS hA (fun u H locs hp hP hD hS => ?_)
          obtain ⟨ro3, le3⟩ := u
          have hp3 := hp
          have hP : va_P D cls_ (wM cA am (nI n) la nu ki th ot vs av pl ps tz ts fr bk ce co ro3 le3 (upd dn i 1) un) H := hP
          have hD : va_D A (wM cA am (nI n) la nu ki th ot vs av pl ps tz ts fr bk ce co ro3 le3 (upd dn i 1) un) := hD
          refine lv_goto (tgt := 222) hx hb d_M_perform_174 (by decide) ?_
          have hfin : mq_ hs ac2 n (i + 1) (rp_ hs ac2 (i + 1)) ce co ro3 le3 (upd dn i 1) un := by
            rw [hon, pf_5 _ hk, hsr]
            rw [if_pos hmem]
            exact ⟨hq.1, hq.2.1, rows_up hx7 hw.1 hq.2.2.1 (rq_trans hp2 hp3), hdn, un_keep ha him (by rw [hk]; decide) rfl hq.2.2.2.2⟩
          exact W.vret hx hb hr (fun t ht hW => ⟨⟨(ce, co, ro3, le3, upd dn i 1, un), rfl, hfin, by rw [ht]; exact hP, hD⟩, hS.F ht⟩) hS.2.2 d_M_perform_222
  · skip
    refine toi_ (y := 6) hk ?_
    refine lv_tableIn (off := 157) (tgt := 177) hx hb d_M_perform_20 (by decide) (by decide) rfl (by decide) ?_
    refine lv_aload_n hx hb d_M_perform_177 rfl (lv_at hl 1 rfl) ?_
    refine va_get (D := D) (ci := 3) (v := .ref (am 15)) (C := RM) (T := TM) (N := 20) hx hb hg inM hown hK hP 0 rfl rfl 19 (by decide) (hg _ fl_M_62) (fun _ h9 => h9) rfl d_M_perform_178 ?_
    refine lv_iload_n hx hb d_M_perform_181 rfl (lv_at hl 2 rfl) ?_
    refine lv_aload_n hx hb d_M_perform_182 rfl (lv_at hl 1 rfl) ?_
    refine va_get (D := D) (ci := 3) (v := .ref (am 4)) (C := RM) (T := TM) (N := 20) hx hb hg inM hown hK hP 0 rfl rfl 5 (by decide) (hg _ fl_M_19) (fun _ h9 => h9) rfl d_M_perform_183 ?_
    refine lv_iload_n hx hb d_M_perform_186 rfl (lv_at hl 2 rfl) ?_
    refine va_iald hx hb hK hP 4 0 rfl rfl (vp_in_nI (n := i) (N := 200) (by omega) (by omega)) d_M_perform_187 ?_
    refine toi_ (y := ot i) (by rw [nI_clamp (by omega)]) ?_
    refine toi_ (y := s_m (hs i)) (hmi.2.2.2.1) ?_
    refine va_iast hx hb hK hP hD hS 15 0 rfl rfl (vp_in_nI (n := i) (N := 200) (by omega) (by omega)) d_M_perform_188 (fun H locs hP hD hS => ?_)
    rw [nI_clamp (by omega)] at hP hD
    have hP : va_P D cls_ (wM cA am (nI n) la nu ki th ot vs av pl ps tz ts fr bk ce co ro le (upd dn i 1) (upd un i (s_m (hs i)))) H := hP
    have hD : va_D A (wM cA am (nI n) la nu ki th ot vs av pl ps tz ts fr bk ce co ro le (upd dn i 1) (upd un i (s_m (hs i)))) := hD
    refine lv_goto (tgt := 222) hx hb d_M_perform_189 (by decide) ?_
    have hfin : mq_ hs ac2 n (i + 1) (rp_ hs ac2 (i + 1)) ce co ro le (upd dn i 1) (upd un i (s_m (hs i))) := by
      rw [hon, pf_6 _ hk]
      refine ⟨hq.1, hq.2.1, hq.2.2.1, hdn, fun z hz h1 h2 => ?_⟩
      show upd un i (s_m (hs i)) z = upI_ (m_p (rp_ hs ac2 i)) (s_n (hs i)) (s_m (hs i)) (s_n (hs z))
      unfold upI_
      rw [dn_next ha him] at h1
      by_cases h9 : z = i
      · rw [h9, pk_us, if_pos rfl]
      · rw [if_neg h9] at h1
        rw [pk_un h9, if_neg (fun h => h9 (nu_inj hh hz hin2 h))]
        exact hq.2.2.2.2 z hz h1 h2
    exact W.vret hx hb hr (fun t ht hW => ⟨⟨(ce, co, ro, le, upd dn i 1, upd un i (s_m (hs i))), rfl, hfin, by rw [ht]; exact hP, hD⟩, hS.F ht⟩) hS.2.2 d_M_perform_222
  · skip
    refine toi_ (y := 7) hk ?_
    have htn : s_t (hs i) ∈ m_n (rp_ hs ac2 i) := by
      rw [im_7 _ hk] at him
      by_cases h9 : s_t (hs i) ∈ m_n (rp_ hs ac2 i)
      · exact h9
      · simp [h9] at him
    obtain ⟨j, hj1, hj2, hj3⟩ := (nd_mem hkd).mp htn
    have hjn : j < n := by have := (dn_s.mp hj1).1; omega
    have hfn : fn_ hs n (s_t (hs i)) = some j := by rw [← hj3]; exact fn_at hh hjn
    refine lv_tableIn (off := 172) (tgt := 192) hx hb d_M_perform_20 (by decide) (by decide) rfl (by decide) ?_
    refine lv_aload_n hx hb d_M_perform_192 rfl (lv_at hl 1 rfl) ?_
    refine va_get (D := D) (ci := 3) (v := .ref (am 15)) (C := RM) (T := TM) (N := 20) hx hb hg inM hown hK hP 0 rfl rfl 19 (by decide) (hg _ fl_M_62) (fun _ h9 => h9) rfl d_M_perform_193 ?_
    refine lv_aload_n hx hb d_M_perform_196 rfl (lv_at hl 1 rfl) ?_
    refine lv_iload_n hx hb d_M_perform_197 rfl (lv_at hl 0 rfl) ?_
    refine vp_callSi (va_Run.run (va_runV (C := RM) (As := [.int (s_t (hs i))]) (rest := [.ref (am 15)]) ⟨hx, hb, hml, hown, hg⟩ (m_M_find l D cA am la nu ki th ot vs av pl ps tz ts fr bk ce co ro le (upd dn i 1) un hs ac n (s_t (hs i)) hmh hn) (cwV 1 hg (gd_V ml_M_79 im_M_find sl_M_find ini_M cd_M_find) rfl rfl rfl (by decide +kernel) ⟨Nat.le_of_ble_eq_true rfl, Nat.le_of_ble_eq_true rfl⟩) (pv_r (va_recv (q0 := 0) (ci := 3) hK hP rfl rfl) (hP) hK hN) rfl rfl hl.1 rfl (lv_room (Nat.le_of_ble_eq_true rfl)) d_M_perform_198 ⟨Nat.zero_le _, Nat.zero_le _⟩)) (fun r198 e198 => ?_)
    subst e198
    refine toi_ (y := nI j) (by rw [hfn]; rfl) ?_
    refine lv_iconst (v := (-1)) hx hb d_M_perform_201 (by decide) ?_
    refine va_iast hx hb hK hP hD hS 15 0 rfl rfl (vp_in_nI (n := j) (N := 200) (by omega) (by omega)) d_M_perform_202 (fun H locs hP hD hS => ?_)
    rw [nI_clamp (by omega)] at hP hD
    have hP : va_P D cls_ (wM cA am (nI n) la nu ki th ot vs av pl ps tz ts fr bk ce co ro le (upd dn i 1) (upd un j (-1))) H := hP
    have hD : va_D A (wM cA am (nI n) la nu ki th ot vs av pl ps tz ts fr bk ce co ro le (upd dn i 1) (upd un j (-1))) := hD
    refine lv_goto (tgt := 222) hx hb d_M_perform_203 (by decide) ?_
    have hfin : mq_ hs ac2 n (i + 1) (rp_ hs ac2 (i + 1)) ce co ro le (upd dn i 1) (upd un j (-1)) := by
      rw [hon, pf_7 _ hk]
      refine ⟨hq.1, hq.2.1, hq.2.2.1, hdn, fun z hz h1 h2 => ?_⟩
      show upd un j (-1) z = upI_ (m_p (rp_ hs ac2 i)) (s_t (hs i)) (-1) (s_n (hs z))
      unfold upI_
      rw [dn_next ha him] at h1
      by_cases h9 : z = j
      · rw [h9, pk_us, if_pos hj3]
      · have hzi : z ≠ i := fun h => by rw [h, hk] at h2; exact absurd h2 (by decide)
        rw [if_neg hzi] at h1
        rw [pk_un h9, if_neg (fun h => h9 (nu_inj hh hz hjn (h.trans hj3.symm)))]
        exact hq.2.2.2.2 z hz h1 h2
    exact W.vret hx hb hr (fun t ht hW => ⟨⟨(ce, co, ro, le, upd dn i 1, upd un j (-1)), rfl, hfin, by rw [ht]; exact hP, hD⟩, hS.F ht⟩) hS.2.2 d_M_perform_222
  · skip
    refine toi_ (y := 8) hk ?_
    have htn : s_t (hs i) ∈ m_n (rp_ hs ac2 i) := by
      rw [im_8 _ hk] at him
      by_cases h9 : s_t (hs i) ∈ m_n (rp_ hs ac2 i)
      · exact h9
      · simp [h9] at him
    obtain ⟨j, hj1, hj2, hj3⟩ := (nd_mem hkd).mp htn
    have hjn : j < n := by have := (dn_s.mp hj1).1; omega
    have hfn : fn_ hs n (s_t (hs i)) = some j := by rw [← hj3]; exact fn_at hh hjn
    refine lv_tableOut (tgt := 206) hx hb d_M_perform_20 (by decide) (by decide) ?_
    refine lv_aload_n hx hb d_M_perform_206 rfl (lv_at hl 1 rfl) ?_
    refine va_get (D := D) (ci := 3) (v := .ref (am 15)) (C := RM) (T := TM) (N := 20) hx hb hg inM hown hK hP 0 rfl rfl 19 (by decide) (hg _ fl_M_62) (fun _ h9 => h9) rfl d_M_perform_207 ?_
    refine lv_aload_n hx hb d_M_perform_210 rfl (lv_at hl 1 rfl) ?_
    refine lv_iload_n hx hb d_M_perform_211 rfl (lv_at hl 0 rfl) ?_
    refine vp_callSi (va_Run.run (va_runV (C := RM) (As := [.int (s_t (hs i))]) (rest := [.ref (am 15)]) ⟨hx, hb, hml, hown, hg⟩ (m_M_find l D cA am la nu ki th ot vs av pl ps tz ts fr bk ce co ro le (upd dn i 1) un hs ac n (s_t (hs i)) hmh hn) (cwV 1 hg (gd_V ml_M_79 im_M_find sl_M_find ini_M cd_M_find) rfl rfl rfl (by decide +kernel) ⟨Nat.le_of_ble_eq_true rfl, Nat.le_of_ble_eq_true rfl⟩) (pv_r (va_recv (q0 := 0) (ci := 3) hK hP rfl rfl) (hP) hK hN) rfl rfl hl.1 rfl (lv_room (Nat.le_of_ble_eq_true rfl)) d_M_perform_212 ⟨Nat.zero_le _, Nat.zero_le _⟩)) (fun r212 e212 => ?_)
    subst e212
    refine toi_ (y := nI j) (by rw [hfn]; rfl) ?_
    refine lv_aload_n hx hb d_M_perform_215 rfl (lv_at hl 1 rfl) ?_
    refine va_get (D := D) (ci := 3) (v := .ref (am 4)) (C := RM) (T := TM) (N := 20) hx hb hg inM hown hK hP 0 rfl rfl 5 (by decide) (hg _ fl_M_19) (fun _ h9 => h9) rfl d_M_perform_216 ?_
    refine lv_iload_n hx hb d_M_perform_219 rfl (lv_at hl 2 rfl) ?_
    refine va_iald hx hb hK hP 4 0 rfl rfl (vp_in_nI (n := i) (N := 200) (by omega) (by omega)) d_M_perform_220 ?_
    refine toi_ (y := ot i) (by rw [nI_clamp (by omega)]) ?_
    refine toi_ (y := s_m (hs i)) (hmi.2.2.2.1) ?_
    refine va_iast hx hb hK hP hD hS 15 0 rfl rfl (vp_in_nI (n := j) (N := 200) (by omega) (by omega)) d_M_perform_221 (fun H locs hP hD hS => ?_)
    rw [nI_clamp (by omega)] at hP hD
    have hP : va_P D cls_ (wM cA am (nI n) la nu ki th ot vs av pl ps tz ts fr bk ce co ro le (upd dn i 1) (upd un j (s_m (hs i)))) H := hP
    have hD : va_D A (wM cA am (nI n) la nu ki th ot vs av pl ps tz ts fr bk ce co ro le (upd dn i 1) (upd un j (s_m (hs i)))) := hD
    have hfin : mq_ hs ac2 n (i + 1) (rp_ hs ac2 (i + 1)) ce co ro le (upd dn i 1) (upd un j (s_m (hs i))) := by
      rw [hon, pf_8 _ hk]
      refine ⟨hq.1, hq.2.1, hq.2.2.1, hdn, fun z hz h1 h2 => ?_⟩
      show upd un j (s_m (hs i)) z = upI_ (m_p (rp_ hs ac2 i)) (s_t (hs i)) (s_m (hs i)) (s_n (hs z))
      unfold upI_
      rw [dn_next ha him] at h1
      by_cases h9 : z = j
      · rw [h9, pk_us, if_pos hj3]
      · have hzi : z ≠ i := fun h => by rw [h, hk] at h2; exact absurd h2 (by decide)
        rw [if_neg hzi] at h1
        rw [pk_un h9, if_neg (fun h => h9 (nu_inj hh hz hjn (h.trans hj3.symm)))]
        exact hq.2.2.2.2 z hz h1 h2
    exact W.vret hx hb hr (fun t ht hW => ⟨⟨(ce, co, ro, le, upd dn i 1, upd un j (s_m (hs i))), rfl, hfin, by rw [ht]; exact hP, hD⟩, hS.F ht⟩) hS.2.2 d_M_perform_222
