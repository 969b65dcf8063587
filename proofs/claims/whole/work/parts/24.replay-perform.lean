/-! Replay.perform -/
set_option maxHeartbeats 4000000 in
set_option maxRecDepth 100000 in
theorem m_R_perform (l : Launch) (D : va_G) (cA : Nat → ClassId) (sz : Nat) (ad : Nat → Nat) (ce : Nat → Int32) (co : Nat → Int64) (rw : Nat → Nat → Int32) (le el : Nat → Int32) (ec : Int32) (nd pa : Nat → Int32) (nc : Int32) (sp pl : Nat) (x : st_T) (b : Bool) (wp : va_W) (mm : me_T) (hc : cr_ mm ce co rw le el ec nd pa nc) (hw : mw_ mm) (ht : tq_ x) (hca : ca_ x mm) (hpl : s_k x = 3 ∨ s_k x = 5 → ∃ f, wp = [(pl, .inl (cA 0, (s_p x).length, .inl f))] ∧ rl_ f (s_p x)) : Met l y_R_perform (.code y_R_perform c_R_perform 2 none :: G_) ({ frames := 2, cells := 0, slots := 0, locals := 47 }) (va_Pc [.ref (ad 0), .ref sp] (pq_ D cA (wR cA ad ce co rw le el ec nd pa nc) ((sp, cS x pl b) :: wp) sz)) (va_Qv (fun (u : rs_T) => cq_ (pf_ x mm) u) (bw_ D (va_A (wR cA ad ce co rw le el ec nd pa nc) sz) (wq_ cA ad)) (va_A (wR cA ad ce co rw le el ec nd pa nc) sz)) 0 0 (va_A (wR cA ad ce co rw le el ec nd pa nc) sz) := by
  refine Met.ofW (cc := c_R_perform) (maxL := 2) (ret := none) (by decide) rfl ?_
  intro p e s m args below meth c s₁ B hml hv
  obtain ⟨rfl, hsz, hPq, ⟨hK, hN⟩, hDq0⟩ := hv
  have hP := wp_l hPq
  have hR := wp_r hPq
  have hD0 := wd_l hDq0
  have hx := B.exec
  have hb := B.bytes
  have hr := B.returns
  have hts := atoms_spec (ws := (.code y_R_perform c_R_perform 2 none :: G_)) B.pre
  have hg : ∀ w ∈ G_, w.before ([.ref (ad 0), .ref sp] : List Value).toArray s = true := fun w h => hts w (List.mem_cons_of_mem _ h)
  have hown : s.vm.findClass RR = some m.cls := findClass_of_methodNamed B.named
  have hlocks := B.notSynchronized
  subst hsz
  have hD := hD0.self (sz := s.heap.size)
  have hRA := ra_ hPq hDq0
  generalize hAe : va_A (wR cA ad ce co rw le el ec nd pa nc) s.heap.size = A at hD hRA ⊢
  have hA : ∀ q : Nat, s.heap.size ≤ q → A q := fun q h => by rw [← hAe]; exact Or.inr h
  have hS : va_S A s.heap s.heap [] := va_S.rf
  have hl := lv_entry ([.ref (ad 0), .ref sp]) (n := 2) (Nat.le_of_ble_eq_true rfl)
  rw [lg_entry_eq]
  generalize (lg_sl ([.ref (ad 0), .ref sp]) ++ List.replicate (2 - (lg_sl ([.ref (ad 0), .ref sp])).length) Slot.unset).toArray = ls at hl ⊢
  have hl : lv_has ls 2 [(0, .ref (ad 0)), (1, .ref sp)] := hl
  obtain ⟨hkd, ht1, ht2, ht3, ht6⟩ := ht
  have hec := hc.2.2.2.1
  have hnc := hc.2.2.2.2.2.1
  refine lv_aload_n hx hb d_R_perform_0 rfl (lv_at hl 1 rfl) ?_
  refine va_getN (D := D) (ci := 1) (v := .int (s_k x)) (C := RS) (T := TS) (N := 7) hx hb hg inS hown hK (rk_ hR hRA hS) 0 rfl rfl 1 (by decide) (va_Nw.use rfl (hN.1 _ fn_R_60)) (fun _ h9 => h9) rfl d_R_perform_1 ?_
  rcases hkd with hk | hk | hk | hk | hk | hk | hk | hk
  · skip
    refine toi_ (y := 1) hk ?_
    obtain ⟨c, hc8, hct⟩ := ht1 hk
    have hsr : s_r x = c := by unfold s_r; rw [hct]; exact nI_clamp (by omega)
    refine lv_tableIn (off := 48) (tgt := 52) hx hb d_R_perform_4 (by decide) (by decide) rfl (by decide) ?_
    refine lv_aload_n hx hb d_R_perform_52 rfl (lv_at hl 0 rfl) ?_
    refine va_get (D := D) (ci := 0) (v := .ref (ad 1)) (C := RR) (T := TR) (N := 9) hx hb hg inR hown hK hP 0 rfl rfl 0 (by decide) (hg _ fl_R_9) (fun _ h9 => h9) rfl d_R_perform_53 ?_
    refine lv_aload_n hx hb d_R_perform_56 rfl (lv_at hl 1 rfl) ?_
    refine va_getN (D := D) (ci := 1) (v := .int (s_t x)) (C := RS) (T := TS) (N := 7) hx hb hg inS hown hK (rk_ hR hRA hS) 0 rfl rfl 2 (by decide) (va_Nw.use rfl (hN.1 _ fn_R_75)) (fun _ h9 => h9) rfl d_R_perform_57 ?_
    refine toi_ (y := nI c) (hct) ?_
    refine lv_aload_n hx hb d_R_perform_60 rfl (lv_at hl 1 rfl) ?_
    refine va_getN (D := D) (ci := 1) (v := .long (s_a x)) (C := RS) (T := TS) (N := 7) hx hb hg inS hown hK (rk_ hR hRA hS) 0 rfl rfl 4 (by decide) (va_Nw.use rfl (hN.1 _ fn_R_82)) (fun _ h9 => h9) rfl d_R_perform_61 ?_
    refine lv_l2i (v := (s_a x).toInt32) hx hb d_R_perform_64 (rfl) ?_
    refine va_iast hx hb hK hP hD hS 1 0 rfl rfl (vp_in_nI (n := c) (N := 8) (by omega) (by omega)) d_R_perform_65 (fun H locs hP hD hS => ?_)
    rw [nI_clamp (by omega)] at hP hD
    have hP : va_P D cls_ (wR cA ad (upd ce c ((s_a x).toInt32)) co rw le el ec nd pa nc) H := hP
    have hD : va_D A (wR cA ad (upd ce c ((s_a x).toInt32)) co rw le el ec nd pa nc) := hD
    refine lv_goto (tgt := 262) hx hb d_R_perform_66 (by decide) ?_
    have hq : cq_ (pf_ x mm) (upd ce c ((s_a x).toInt32), co, rw, le, el, ec, nd, pa, nc) := by
      rw [pf_1 mm hk, hsr]
      refine ⟨fun i hi => ?_, hc.2⟩
      show upd ce c (s_a x).toInt32 i = upd (m_c mm) c (s_a x).toInt32 i
      by_cases h : i = c
      · rw [h, pk_us, pk_us]
      · rw [pk_un h, pk_un h]; exact hc.1 i hi
    exact W.vret hx hb hr (fun t ht hW => ⟨⟨(upd ce c ((s_a x).toInt32), co, rw, le, el, ec, nd, pa, nc), rfl, hq, by rw [ht]; exact hP, hD⟩, hS.F ht⟩) hS.2.2 d_R_perform_262
  · skip
    refine toi_ (y := 2) hk ?_
    obtain ⟨c, hc4, hct⟩ := ht2 hk
    have hsr : s_r x = c := by unfold s_r; rw [hct]; exact nI_clamp (by omega)
    refine lv_tableIn (off := 65) (tgt := 69) hx hb d_R_perform_4 (by decide) (by decide) rfl (by decide) ?_
    refine lv_aload_n hx hb d_R_perform_69 rfl (lv_at hl 0 rfl) ?_
    refine va_get (D := D) (ci := 0) (v := .ref (ad 2)) (C := RR) (T := TR) (N := 9) hx hb hg inR hown hK hP 0 rfl rfl 1 (by decide) (hg _ fl_R_15) (fun _ h9 => h9) rfl d_R_perform_70 ?_
    refine lv_aload_n hx hb d_R_perform_73 rfl (lv_at hl 1 rfl) ?_
    refine va_getN (D := D) (ci := 1) (v := .int (s_t x)) (C := RS) (T := TS) (N := 7) hx hb hg inS hown hK (rk_ hR hRA hS) 0 rfl rfl 2 (by decide) (va_Nw.use rfl (hN.1 _ fn_R_75)) (fun _ h9 => h9) rfl d_R_perform_74 ?_
    refine toi_ (y := nI c) (hct) ?_
    refine lv_dup2_11 hx hb d_R_perform_77 rfl rfl ?_
    refine va_lald hx hb hK hP 2 1 rfl rfl (vp_in_nI (n := c) (N := 4) (by omega) (by omega)) d_R_perform_78 ?_
    refine tol_ (y := co c) (by rw [nI_clamp (by omega)]) ?_
    refine lv_aload_n hx hb d_R_perform_79 rfl (lv_at hl 1 rfl) ?_
    refine va_getN (D := D) (ci := 1) (v := .long (s_a x)) (C := RS) (T := TS) (N := 7) hx hb hg inS hown hK (rk_ hR hRA hS) 0 rfl rfl 4 (by decide) (va_Nw.use rfl (hN.1 _ fn_R_82)) (fun _ h9 => h9) rfl d_R_perform_80 ?_
    refine lv_ladd hx hb d_R_perform_83 ?_
    refine va_last hx hb hK hP hD hS 2 1 rfl rfl (vp_in_nI (n := c) (N := 4) (by omega) (by omega)) d_R_perform_84 (fun H locs hP hD hS => ?_)
    rw [nI_clamp (by omega)] at hP hD
    have hP : va_P D cls_ (wR cA ad ce (vp_updL co c ((co c) + (s_a x))) rw le el ec nd pa nc) H := hP
    have hD : va_D A (wR cA ad ce (vp_updL co c ((co c) + (s_a x))) rw le el ec nd pa nc) := hD
    refine lv_goto (tgt := 262) hx hb d_R_perform_85 (by decide) ?_
    have hq : cq_ (pf_ x mm) (ce, vp_updL co c ((co c) + (s_a x)), rw, le, el, ec, nd, pa, nc) := by
      rw [pf_2 mm hk, hsr]
      refine ⟨hc.1, fun i hi => ?_, hc.2.2⟩
      show vp_updL co c (co c + s_a x) i = vp_updL (m_k mm) c (m_k mm c + s_a x) i
      by_cases h : i = c
      · rw [h, pk_uLs, pk_uLs, hc.2.1 c hc4]
      · rw [pk_uLn h, pk_uLn h]; exact hc.2.1 i hi
    exact W.vret hx hb hr (fun t ht hW => ⟨⟨(ce, vp_updL co c ((co c) + (s_a x)), rw, le, el, ec, nd, pa, nc), rfl, hq, by rw [ht]; exact hP, hD⟩, hS.F ht⟩) hS.2.2 d_R_perform_262
  · skip
    refine toi_ (y := 3) hk ?_
    obtain ⟨c, hc3, hct⟩ := ht3 (Or.inl hk)
    have hsr : s_r x = c := by unfold s_r; rw [hct]; exact nI_clamp (by omega)
    obtain ⟨f, rfl, hf⟩ := hpl (Or.inl hk)
    obtain ⟨h39, h119, hpos, hnew⟩ := hca.1 hk
    rw [hsr] at h39
    refine lv_tableIn (off := 84) (tgt := 88) hx hb d_R_perform_4 (by decide) (by decide) rfl (by decide) ?_
    refine lv_aload_n hx hb d_R_perform_88 rfl (lv_at hl 0 rfl) ?_
    refine va_get (D := D) (ci := 0) (v := .ref (ad 8)) (C := RR) (T := TR) (N := 9) hx hb hg inR hown hK hP 0 rfl rfl 4 (by decide) (hg _ fl_R_27) (fun _ h9 => h9) rfl d_R_perform_89 ?_
    refine lv_aload_n hx hb d_R_perform_92 rfl (lv_at hl 0 rfl) ?_
    refine va_get (D := D) (ci := 0) (v := .int ec) (C := RR) (T := TR) (N := 9) hx hb hg inR hown hK hP 0 rfl rfl 5 (by decide) (hg _ fl_R_45) (fun _ h9 => h9) rfl d_R_perform_93 ?_
    refine toi_ (y := nI (m_e mm).length) (hec) ?_
    refine lv_aload_n hx hb d_R_perform_96 rfl (lv_at hl 1 rfl) ?_
    refine va_getN (D := D) (ci := 1) (v := .int (s_n x)) (C := RS) (T := TS) (N := 7) hx hb hg inS hown hK (rk_ hR hRA hS) 0 rfl rfl 0 (by decide) (va_Nw.use rfl (hN.1 _ fn_R_86)) (fun _ h9 => h9) rfl d_R_perform_97 ?_
    refine va_iast hx hb hK hP hD hS 8 0 rfl rfl (vp_in_nI (n := (m_e mm).length) (N := 120) (by omega) (by omega)) d_R_perform_100 (fun H locs hP hD hS => ?_)
    rw [nI_clamp (by omega)] at hP hD
    have hP : va_P D cls_ (wR cA ad ce co rw le (upd el ((m_e mm).length) (s_n x)) ec nd pa nc) H := hP
    have hD : va_D A (wR cA ad ce co rw le (upd el ((m_e mm).length) (s_n x)) ec nd pa nc) := hD
    refine lv_aload_n hx hb d_R_perform_101 rfl (lv_at hl 0 rfl) ?_
    refine lv_dup hx hb d_R_perform_102 rfl ?_
    refine va_get (D := D) (ci := 0) (v := .int ec) (C := RR) (T := TR) (N := 9) hx hb hg inR hown hK hP 0 rfl rfl 5 (by decide) (hg _ fl_R_45) (fun _ h9 => h9) rfl d_R_perform_103 ?_
    refine lv_iconst (v := 1) hx hb d_R_perform_106 (by decide) ?_
    refine lv_iadd hx hb d_R_perform_107 ?_
    refine toi_ (y := nI ((m_e mm).length + 1)) (by rw [hec]; exact nI_1 _) ?_
    refine va_put (D := D) (ci := 0) (v := .int (nI ((m_e mm).length + 1))) (ty := .int) (C := RR) (T := TR) (N := 9) hx hb hg inR tyR okR nmR hown hK hP hD hS 0 rfl rfl 5 (by decide) (hg _ fl_R_45) (fun _ h9 => h9) rfl (by decide +kernel) rfl rfl (Nat.le_of_ble_eq_true rfl) d_R_perform_108 (fun H locs hP hD hS => ?_)
    have hP : va_P D cls_ (wR cA ad ce co rw le (upd el ((m_e mm).length) (s_n x)) (nI ((m_e mm).length + 1)) nd pa nc) H := hP
    have hD : va_D A (wR cA ad ce co rw le (upd el ((m_e mm).length) (s_n x)) (nI ((m_e mm).length + 1)) nd pa nc) := hD
    have hc1 := cr_me hc (s_n x)
    have hw1 := mw_me hw h119 hpos hnew
    refine lv_aload_n hx hb d_R_perform_111 rfl (lv_at hl 0 rfl) ?_
    refine lv_aload_n hx hb d_R_perform_112 rfl (lv_at hl 1 rfl) ?_
    refine va_getN (D := D) (ci := 1) (v := .int (s_t x)) (C := RS) (T := TS) (N := 7) hx hb hg inS hown hK (rk_ hR hRA hS) 0 rfl rfl 2 (by decide) (va_Nw.use rfl (hN.1 _ fn_R_75)) (fun _ h9 => h9) rfl d_R_perform_113 ?_
    refine toi_ (y := nI c) (hct) ?_
    refine lv_aload_n hx hb d_R_perform_116 rfl (lv_at hl 0 rfl) ?_
    refine lv_aload_n hx hb d_R_perform_117 rfl (lv_at hl 1 rfl) ?_
    refine va_getN (D := D) (ci := 1) (v := .int (s_t x)) (C := RS) (T := TS) (N := 7) hx hb hg inS hown hK (rk_ hR hRA hS) 0 rfl rfl 2 (by decide) (va_Nw.use rfl (hN.1 _ fn_R_75)) (fun _ h9 => h9) rfl d_R_perform_118 ?_
    refine toi_ (y := nI c) (hct) ?_
    refine lv_aload_n hx hb d_R_perform_121 rfl (lv_at hl 1 rfl) ?_
    refine va_getN (D := D) (ci := 1) (v := .ref pl) (C := RS) (T := TS) (N := 7) hx hb hg inS hown hK (rk_ hR hRA hS) 0 rfl rfl 5 (by decide) (va_Nw.use rfl (hN.1 _ fn_R_89)) (fun _ h9 => h9) rfl d_R_perform_122 ?_
    refine vp_callSi (va_Run.run (va_runV (C := RR) (As := [.int (nI c), .ref pl]) (rest := [.int (nI c), .ref (ad 0)]) ⟨hx, hb, hml, hown, hg⟩ (m_R_indexBehind l D cA ad ce co rw le (upd el ((m_e mm).length) (s_n x)) (nI ((m_e mm).length + 1)) nd pa nc c pl (s_p x) f hc3 hf (by omega) (me_ mm (s_n x)) hc1 hw1) (cwV 2 hg (gd_V ml_R_92 im_R_indexBehind sl_R_indexBehind ini_R cd_R_indexBehind) rfl rfl rfl (by decide +kernel) ⟨Nat.le_of_ble_eq_true rfl, Nat.le_of_ble_eq_true rfl⟩) (pv_r (va_recv (q0 := 0) (ci := 0) hK hP rfl rfl) (va_P.app hP ((rk_ hR hRA hS).sub (ws' := [(pl, .inl (cA 0, (s_p x).length, .inl f))]) [1] rfl)) hK hN) rfl rfl hl.1 rfl (lv_room (Nat.le_of_ble_eq_true rfl)) d_R_perform_125 ⟨Nat.zero_le _, Nat.zero_le _⟩)) (fun r125 e125 => ?_)
    subst e125
    refine lv_aload_n hx hb d_R_perform_128 rfl (lv_at hl 1 rfl) ?_
    refine va_getN (D := D) (ci := 1) (v := .int (s_n x)) (C := RS) (T := TS) (N := 7) hx hb hg inS hown hK (rk_ hR hRA hS) 0 rfl rfl 0 (by decide) (va_Nw.use rfl (hN.1 _ fn_R_86)) (fun _ h9 => h9) rfl d_R_perform_129 ?_
    refine mu0_v (w := (wR cA ad ce co rw le (upd el ((m_e mm).length) (s_n x)) (nI ((m_e mm).length + 1)) nd pa nc)) (va_runV (C := RR) (As := [.int (nI c), .int (nI (be_ (m_r (me_ mm (s_n x)) c) (s_p x))), .int (s_n x)]) (rest := []) ⟨hx, hb, hml, hown, hg⟩ (m_R_putElement l D cA H.size ad ce co rw le (upd el ((m_e mm).length) (s_n x)) (nI ((m_e mm).length + 1)) nd pa nc c (be_ (m_r (me_ mm (s_n x)) c) (s_p x)) (s_n x) hc3 (me_ mm (s_n x)) hc1 hw1 (be_le _ _) h39) (cwV 3 hg (gd_V ml_R_96 im_R_putElement sl_R_putElement ini_R cd_R_putElement) rfl rfl rfl (by decide +kernel) ⟨Nat.le_of_ble_eq_true rfl, Nat.le_of_ble_eq_true rfl⟩) (pv_m (va_recv (q0 := 0) (ci := 0) hK hP rfl rfl) hP hK hN hD) rfl rfl hl.1 rfl (lv_room (Nat.le_of_ble_eq_true rfl)) d_R_perform_132 ⟨Nat.zero_le _, Nat.zero_le _⟩) hP hD hS hA (fun u H locs hp hP hD hS => ?_)
    obtain ⟨ce3, co3, rw3, le3, el3, ec3, nd3, pa3, nc3⟩ := u
    have hP : va_P D cls_ (wR cA ad ce3 co3 rw3 le3 el3 ec3 nd3 pa3 nc3) H := hP
    have hD : va_D A (wR cA ad ce3 co3 rw3 le3 el3 ec3 nd3 pa3 nc3) := hD
    refine lv_goto (tgt := 262) hx hb d_R_perform_135 (by decide) ?_
    have hq : cq_ (pf_ x mm) (ce3, co3, rw3, le3, el3, ec3, nd3, pa3, nc3) := by
      rw [pf_3 mm hk, hsr]
      exact hp
    exact W.vret hx hb hr (fun t ht hW => ⟨⟨(ce3, co3, rw3, le3, el3, ec3, nd3, pa3, nc3), rfl, hq, by rw [ht]; exact hP, hD⟩, hS.F ht⟩) hS.2.2 d_R_perform_262
  · skip
    refine toi_ (y := 4) hk ?_
    obtain ⟨c, hc3, hct⟩ := ht3 (Or.inr (Or.inl hk))
    have hsr : s_r x = c := by unfold s_r; rw [hct]; exact nI_clamp (by omega)
    refine lv_tableIn (off := 134) (tgt := 138) hx hb d_R_perform_4 (by decide) (by decide) rfl (by decide) ?_
    refine lv_aload_n hx hb d_R_perform_138 rfl (lv_at hl 0 rfl) ?_
    refine lv_aload_n hx hb d_R_perform_139 rfl (lv_at hl 1 rfl) ?_
    refine va_getN (D := D) (ci := 1) (v := .int (s_t x)) (C := RS) (T := TS) (N := 7) hx hb hg inS hown hK (rk_ hR hRA hS) 0 rfl rfl 2 (by decide) (va_Nw.use rfl (hN.1 _ fn_R_75)) (fun _ h9 => h9) rfl d_R_perform_140 ?_
    refine toi_ (y := nI c) (hct) ?_
    refine lv_aload_n hx hb d_R_perform_143 rfl (lv_at hl 1 rfl) ?_
    refine va_getN (D := D) (ci := 1) (v := .int (s_m x)) (C := RS) (T := TS) (N := 7) hx hb hg inS hown hK (rk_ hR hRA hS) 0 rfl rfl 3 (by decide) (va_Nw.use rfl (hN.1 _ fn_R_65)) (fun _ h9 => h9) rfl d_R_perform_144 ?_
    refine mu0_i (w := (wR cA ad ce co rw le el ec nd pa nc)) (va_runV (C := RR) (As := [.int (nI c), .int (s_m x)]) (rest := []) ⟨hx, hb, hml, hown, hg⟩ (m_R_takeElement l D cA s.heap.size ad ce co rw le el ec nd pa nc c (s_m x) hc3 mm hc hw) (cwV 2 hg (gd_V ml_R_100 im_R_takeElement sl_R_takeElement ini_R cd_R_takeElement) rfl rfl rfl (by decide +kernel) ⟨Nat.le_of_ble_eq_true rfl, Nat.le_of_ble_eq_true rfl⟩) (pv_m (va_recv (q0 := 0) (ci := 0) hK hP rfl rfl) hP hK hN hD) rfl rfl hl.1 rfl (lv_room (Nat.le_of_ble_eq_true rfl)) d_R_perform_147 ⟨Nat.zero_le _, Nat.zero_le _⟩) hP hD hS hA (fun r147 u H locs hp hP hD hS => ?_)
    obtain ⟨rfl, hp⟩ := hp
    obtain ⟨ce2, co2, rw2, le2, el2, ec2, nd2, pa2, nc2⟩ := u
    have hP : va_P D cls_ (wR cA ad ce2 co2 rw2 le2 el2 ec2 nd2 pa2 nc2) H := hP
    have hD : va_D A (wR cA ad ce2 co2 rw2 le2 el2 ec2 nd2 pa2 nc2) := hD
    refine lv_pop hx hb d_R_perform_150 rfl ?_
    refine lv_goto (tgt := 262) hx hb d_R_perform_151 (by decide) ?_
    have hq : cq_ (pf_ x mm) (ce2, co2, rw2, le2, el2, ec2, nd2, pa2, nc2) := by
      rw [pf_4 mm hk, hsr]
      exact hp
    exact W.vret hx hb hr (fun t ht hW => ⟨⟨(ce2, co2, rw2, le2, el2, ec2, nd2, pa2, nc2), rfl, hq, by rw [ht]; exact hP, hD⟩, hS.F ht⟩) hS.2.2 d_R_perform_262
  · skip
    refine toi_ (y := 5) hk ?_
    obtain ⟨c, hc3, hct⟩ := ht3 (Or.inr (Or.inr hk))
    have hsr : s_r x = c := by unfold s_r; rw [hct]; exact nI_clamp (by omega)
    obtain ⟨f, rfl, hf⟩ := hpl (Or.inr hk)
    refine lv_tableIn (off := 150) (tgt := 154) hx hb d_R_perform_4 (by decide) (by decide) rfl (by decide) ?_
    refine lv_aload_n hx hb d_R_perform_154 rfl (lv_at hl 0 rfl) ?_
    refine lv_aload_n hx hb d_R_perform_155 rfl (lv_at hl 1 rfl) ?_
    refine va_getN (D := D) (ci := 1) (v := .int (s_t x)) (C := RS) (T := TS) (N := 7) hx hb hg inS hown hK (rk_ hR hRA hS) 0 rfl rfl 2 (by decide) (va_Nw.use rfl (hN.1 _ fn_R_75)) (fun _ h9 => h9) rfl d_R_perform_156 ?_
    refine toi_ (y := nI c) (hct) ?_
    refine lv_aload_n hx hb d_R_perform_159 rfl (lv_at hl 1 rfl) ?_
    refine va_getN (D := D) (ci := 1) (v := .int (s_m x)) (C := RS) (T := TS) (N := 7) hx hb hg inS hown hK (rk_ hR hRA hS) 0 rfl rfl 3 (by decide) (va_Nw.use rfl (hN.1 _ fn_R_65)) (fun _ h9 => h9) rfl d_R_perform_160 ?_
    refine mu0_i (w := (wR cA ad ce co rw le el ec nd pa nc)) (va_runV (C := RR) (As := [.int (nI c), .int (s_m x)]) (rest := []) ⟨hx, hb, hml, hown, hg⟩ (m_R_takeElement l D cA s.heap.size ad ce co rw le el ec nd pa nc c (s_m x) hc3 mm hc hw) (cwV 2 hg (gd_V ml_R_100 im_R_takeElement sl_R_takeElement ini_R cd_R_takeElement) rfl rfl rfl (by decide +kernel) ⟨Nat.le_of_ble_eq_true rfl, Nat.le_of_ble_eq_true rfl⟩) (pv_m (va_recv (q0 := 0) (ci := 0) hK hP rfl rfl) hP hK hN hD) rfl rfl hl.1 rfl (lv_room (Nat.le_of_ble_eq_true rfl)) d_R_perform_163 ⟨Nat.zero_le _, Nat.zero_le _⟩) hP hD hS hA (fun r163 u H locs hp hP hD hS => ?_)
    obtain ⟨rfl, hp⟩ := hp
    obtain ⟨ce2, co2, rw2, le2, el2, ec2, nd2, pa2, nc2⟩ := u
    have hP : va_P D cls_ (wR cA ad ce2 co2 rw2 le2 el2 ec2 nd2 pa2 nc2) H := hP
    have hD : va_D A (wR cA ad ce2 co2 rw2 le2 el2 ec2 nd2 pa2 nc2) := hD
    refine lv_if_eq (tgt := 262) hx hb d_R_perform_166 (by decide) (fun h166 => ?_) (fun h166 => ?_)
    · skip
      have hnm := b2_0.mp h166
      have hnm2 : s_m x ∉ m_r mm c := by simpa using hnm
      have hq : cq_ (pf_ x mm) (ce2, co2, rw2, le2, el2, ec2, nd2, pa2, nc2) := by
        rw [pf_5 mm hk, hsr]
        rw [if_neg hnm2]
        rw [del_non hnm2] at hp
        exact hp
      exact W.vret hx hb hr (fun t ht hW => ⟨⟨(ce2, co2, rw2, le2, el2, ec2, nd2, pa2, nc2), rfl, hq, by rw [ht]; exact hP, hD⟩, hS.F ht⟩) hS.2.2 d_R_perform_262
    · skip
      have hnm := b2_n.mp h166
      have hnm2 : s_m x ∈ m_r mm c := by simpa using hnm
      have hdl := del_len hnm2
      have hl40 := hw.1 c hc3
      have h39 : (m_r (mr_ mm c (del_ (m_r mm c) (s_m x))) c).length ≤ 39 := by show (va_up (m_r mm) c (del_ (m_r mm c) (s_m x)) c).length ≤ 39; rw [vu_eq, hdl]; omega
      have hw1 := mw_row (r := c) (L := del_ (m_r mm c) (s_m x)) hw (by omega) (fun y hy => hw.2.2.2.2.2.2.2.1 c y (del_sub hy))
      refine lv_aload_n hx hb d_R_perform_169 rfl (lv_at hl 0 rfl) ?_
      refine lv_aload_n hx hb d_R_perform_170 rfl (lv_at hl 1 rfl) ?_
      refine va_getN (D := D) (ci := 1) (v := .int (s_t x)) (C := RS) (T := TS) (N := 7) hx hb hg inS hown hK (rk_ hR hRA hS) 0 rfl rfl 2 (by decide) (va_Nw.use rfl (hN.1 _ fn_R_75)) (fun _ h9 => h9) rfl d_R_perform_171 ?_
      refine toi_ (y := nI c) (hct) ?_
      refine lv_aload_n hx hb d_R_perform_174 rfl (lv_at hl 0 rfl) ?_
      refine lv_aload_n hx hb d_R_perform_175 rfl (lv_at hl 1 rfl) ?_
      refine va_getN (D := D) (ci := 1) (v := .int (s_t x)) (C := RS) (T := TS) (N := 7) hx hb hg inS hown hK (rk_ hR hRA hS) 0 rfl rfl 2 (by decide) (va_Nw.use rfl (hN.1 _ fn_R_75)) (fun _ h9 => h9) rfl d_R_perform_176 ?_
      refine toi_ (y := nI c) (hct) ?_
      refine lv_aload_n hx hb d_R_perform_179 rfl (lv_at hl 1 rfl) ?_
      refine va_getN (D := D) (ci := 1) (v := .ref pl) (C := RS) (T := TS) (N := 7) hx hb hg inS hown hK (rk_ hR hRA hS) 0 rfl rfl 5 (by decide) (va_Nw.use rfl (hN.1 _ fn_R_89)) (fun _ h9 => h9) rfl d_R_perform_180 ?_
      refine vp_callSi (va_Run.run (va_runV (C := RR) (As := [.int (nI c), .ref pl]) (rest := [.int (nI c), .ref (ad 0)]) ⟨hx, hb, hml, hown, hg⟩ (m_R_indexBehind l D cA ad ce2 co2 rw2 le2 el2 ec2 nd2 pa2 nc2 c pl (s_p x) f hc3 hf (by omega) (mr_ mm c (del_ (m_r mm c) (s_m x))) hp hw1) (cwV 2 hg (gd_V ml_R_92 im_R_indexBehind sl_R_indexBehind ini_R cd_R_indexBehind) rfl rfl rfl (by decide +kernel) ⟨Nat.le_of_ble_eq_true rfl, Nat.le_of_ble_eq_true rfl⟩) (pv_r (va_recv (q0 := 0) (ci := 0) hK hP rfl rfl) (va_P.app hP ((rk_ hR hRA hS).sub (ws' := [(pl, .inl (cA 0, (s_p x).length, .inl f))]) [1] rfl)) hK hN) rfl rfl hl.1 rfl (lv_room (Nat.le_of_ble_eq_true rfl)) d_R_perform_183 ⟨Nat.zero_le _, Nat.zero_le _⟩)) (fun r183 e183 => ?_)
      subst e183
      refine lv_aload_n hx hb d_R_perform_186 rfl (lv_at hl 1 rfl) ?_
      refine va_getN (D := D) (ci := 1) (v := .int (s_m x)) (C := RS) (T := TS) (N := 7) hx hb hg inS hown hK (rk_ hR hRA hS) 0 rfl rfl 3 (by decide) (va_Nw.use rfl (hN.1 _ fn_R_65)) (fun _ h9 => h9) rfl d_R_perform_187 ?_
      refine mu0_v (w := (wR cA ad ce2 co2 rw2 le2 el2 ec2 nd2 pa2 nc2)) (va_runV (C := RR) (As := [.int (nI c), .int (nI (be_ (m_r (mr_ mm c (del_ (m_r mm c) (s_m x))) c) (s_p x))), .int (s_m x)]) (rest := []) ⟨hx, hb, hml, hown, hg⟩ (m_R_putElement l D cA H.size ad ce2 co2 rw2 le2 el2 ec2 nd2 pa2 nc2 c (be_ (m_r (mr_ mm c (del_ (m_r mm c) (s_m x))) c) (s_p x)) (s_m x) hc3 (mr_ mm c (del_ (m_r mm c) (s_m x))) hp hw1 (be_le _ _) h39) (cwV 3 hg (gd_V ml_R_96 im_R_putElement sl_R_putElement ini_R cd_R_putElement) rfl rfl rfl (by decide +kernel) ⟨Nat.le_of_ble_eq_true rfl, Nat.le_of_ble_eq_true rfl⟩) (pv_m (va_recv (q0 := 0) (ci := 0) hK hP rfl rfl) hP hK hN hD) rfl rfl hl.1 rfl (lv_room (Nat.le_of_ble_eq_true rfl)) d_R_perform_190 ⟨Nat.zero_le _, Nat.zero_le _⟩) hP hD hS hA (fun u H locs hp hP hD hS => ?_)
      obtain ⟨ce3, co3, rw3, le3, el3, ec3, nd3, pa3, nc3⟩ := u
      have hP : va_P D cls_ (wR cA ad ce3 co3 rw3 le3 el3 ec3 nd3 pa3 nc3) H := hP
      have hD : va_D A (wR cA ad ce3 co3 rw3 le3 el3 ec3 nd3 pa3 nc3) := hD
      refine lv_goto (tgt := 262) hx hb d_R_perform_193 (by decide) ?_
      have hq : cq_ (pf_ x mm) (ce3, co3, rw3, le3, el3, ec3, nd3, pa3, nc3) := by
        rw [pf_5 mm hk, hsr]
        rw [if_pos hnm2]
        have e8 : m_r (mr_ mm c (del_ (m_r mm c) (s_m x))) c = del_ (m_r mm c) (s_m x) := vu_eq
        rw [e8] at hp
        have e9 : mr_ (mr_ mm c (del_ (m_r mm c) (s_m x))) c ((del_ (m_r mm c) (s_m x)).insertIdx (be_ (del_ (m_r mm c) (s_m x)) (s_p x)) (s_m x)) = (mm.1, mm.2.1, va_up (m_r mm) c (ins_ (del_ (m_r mm c) (s_m x)) (s_p x) (s_m x)), mm.2.2.2) := by
          show (mm.1, mm.2.1, va_up (va_up (m_r mm) c _) c _, mm.2.2.2) = _
          rw [bx_uu]
          rfl
        rw [e9] at hp
        exact hp
      exact W.vret hx hb hr (fun t ht hW => ⟨⟨(ce3, co3, rw3, le3, el3, ec3, nd3, pa3, nc3), rfl, hq, by rw [ht]; exact hP, hD⟩, hS.F ht⟩) hS.2.2 d_R_perform_262
  · skip
    refine toi_ (y := 6) hk ?_
    obtain ⟨h199, hnew⟩ := hca.2 hk
    refine lv_tableIn (off := 192) (tgt := 196) hx hb d_R_perform_4 (by decide) (by decide) rfl (by decide) ?_
    refine lv_aload_n hx hb d_R_perform_196 rfl (lv_at hl 0 rfl) ?_
    refine va_get (D := D) (ci := 0) (v := .ref (ad 9)) (C := RR) (T := TR) (N := 9) hx hb hg inR hown hK hP 0 rfl rfl 6 (by decide) (hg _ fl_R_30) (fun _ h9 => h9) rfl d_R_perform_197 ?_
    refine lv_aload_n hx hb d_R_perform_200 rfl (lv_at hl 0 rfl) ?_
    refine va_get (D := D) (ci := 0) (v := .int nc) (C := RR) (T := TR) (N := 9) hx hb hg inR hown hK hP 0 rfl rfl 8 (by decide) (hg _ fl_R_49) (fun _ h9 => h9) rfl d_R_perform_201 ?_
    refine toi_ (y := nI (m_n mm).length) (hnc) ?_
    refine lv_aload_n hx hb d_R_perform_204 rfl (lv_at hl 1 rfl) ?_
    refine va_getN (D := D) (ci := 1) (v := .int (s_n x)) (C := RS) (T := TS) (N := 7) hx hb hg inS hown hK (rk_ hR hRA hS) 0 rfl rfl 0 (by decide) (va_Nw.use rfl (hN.1 _ fn_R_86)) (fun _ h9 => h9) rfl d_R_perform_205 ?_
    refine va_iast hx hb hK hP hD hS 9 0 rfl rfl (vp_in_nI (n := (m_n mm).length) (N := 200) (by omega) (by omega)) d_R_perform_208 (fun H locs hP hD hS => ?_)
    rw [nI_clamp (by omega)] at hP hD
    have hP : va_P D cls_ (wR cA ad ce co rw le el ec (upd nd ((m_n mm).length) (s_n x)) pa nc) H := hP
    have hD : va_D A (wR cA ad ce co rw le el ec (upd nd ((m_n mm).length) (s_n x)) pa nc) := hD
    refine lv_aload_n hx hb d_R_perform_209 rfl (lv_at hl 0 rfl) ?_
    refine va_get (D := D) (ci := 0) (v := .ref (ad 10)) (C := RR) (T := TR) (N := 9) hx hb hg inR hown hK hP 0 rfl rfl 7 (by decide) (hg _ fl_R_33) (fun _ h9 => h9) rfl d_R_perform_210 ?_
    refine lv_aload_n hx hb d_R_perform_213 rfl (lv_at hl 0 rfl) ?_
    refine va_get (D := D) (ci := 0) (v := .int nc) (C := RR) (T := TR) (N := 9) hx hb hg inR hown hK hP 0 rfl rfl 8 (by decide) (hg _ fl_R_49) (fun _ h9 => h9) rfl d_R_perform_214 ?_
    refine toi_ (y := nI (m_n mm).length) (hnc) ?_
    refine lv_aload_n hx hb d_R_perform_217 rfl (lv_at hl 1 rfl) ?_
    refine va_getN (D := D) (ci := 1) (v := .int (s_m x)) (C := RS) (T := TS) (N := 7) hx hb hg inS hown hK (rk_ hR hRA hS) 0 rfl rfl 3 (by decide) (va_Nw.use rfl (hN.1 _ fn_R_65)) (fun _ h9 => h9) rfl d_R_perform_218 ?_
    refine va_iast hx hb hK hP hD hS 10 0 rfl rfl (vp_in_nI (n := (m_n mm).length) (N := 200) (by omega) (by omega)) d_R_perform_221 (fun H locs hP hD hS => ?_)
    rw [nI_clamp (by omega)] at hP hD
    have hP : va_P D cls_ (wR cA ad ce co rw le el ec (upd nd ((m_n mm).length) (s_n x)) (upd pa ((m_n mm).length) (s_m x)) nc) H := hP
    have hD : va_D A (wR cA ad ce co rw le el ec (upd nd ((m_n mm).length) (s_n x)) (upd pa ((m_n mm).length) (s_m x)) nc) := hD
    refine lv_aload_n hx hb d_R_perform_222 rfl (lv_at hl 0 rfl) ?_
    refine lv_dup hx hb d_R_perform_223 rfl ?_
    refine va_get (D := D) (ci := 0) (v := .int nc) (C := RR) (T := TR) (N := 9) hx hb hg inR hown hK hP 0 rfl rfl 8 (by decide) (hg _ fl_R_49) (fun _ h9 => h9) rfl d_R_perform_224 ?_
    refine lv_iconst (v := 1) hx hb d_R_perform_227 (by decide) ?_
    refine lv_iadd hx hb d_R_perform_228 ?_
    refine toi_ (y := nI ((m_n mm).length + 1)) (by rw [hnc]; exact nI_1 _) ?_
    refine va_put (D := D) (ci := 0) (v := .int (nI ((m_n mm).length + 1))) (ty := .int) (C := RR) (T := TR) (N := 9) hx hb hg inR tyR okR nmR hown hK hP hD hS 0 rfl rfl 8 (by decide) (hg _ fl_R_49) (fun _ h9 => h9) rfl (by decide +kernel) rfl rfl (Nat.le_of_ble_eq_true rfl) d_R_perform_229 (fun H locs hP hD hS => ?_)
    have hP : va_P D cls_ (wR cA ad ce co rw le el ec (upd nd ((m_n mm).length) (s_n x)) (upd pa ((m_n mm).length) (s_m x)) (nI ((m_n mm).length + 1))) H := hP
    have hD : va_D A (wR cA ad ce co rw le el ec (upd nd ((m_n mm).length) (s_n x)) (upd pa ((m_n mm).length) (s_m x)) (nI ((m_n mm).length + 1))) := hD
    refine lv_goto (tgt := 262) hx hb d_R_perform_232 (by decide) ?_
    have hq : cq_ (pf_ x mm) (ce, co, rw, le, el, ec, upd nd ((m_n mm).length) (s_n x), upd pa ((m_n mm).length) (s_m x), (nI ((m_n mm).length + 1))) := by
      rw [pf_6 mm hk]
      exact cr_mn hc hnew
    exact W.vret hx hb hr (fun t ht hW => ⟨⟨(ce, co, rw, le, el, ec, upd nd ((m_n mm).length) (s_n x), upd pa ((m_n mm).length) (s_m x), (nI ((m_n mm).length + 1))), rfl, hq, by rw [ht]; exact hP, hD⟩, hS.F ht⟩) hS.2.2 d_R_perform_262
  · skip
    refine toi_ (y := 7) hk ?_
    refine lv_tableIn (off := 231) (tgt := 235) hx hb d_R_perform_4 (by decide) (by decide) rfl (by decide) ?_
    refine lv_aload_n hx hb d_R_perform_235 rfl (lv_at hl 0 rfl) ?_
    refine lv_aload_n hx hb d_R_perform_236 rfl (lv_at hl 1 rfl) ?_
    refine va_getN (D := D) (ci := 1) (v := .int (s_t x)) (C := RS) (T := TS) (N := 7) hx hb hg inS hown hK (rk_ hR hRA hS) 0 rfl rfl 2 (by decide) (va_Nw.use rfl (hN.1 _ fn_R_75)) (fun _ h9 => h9) rfl d_R_perform_237 ?_
    refine lv_iconst (v := (-1)) hx hb d_R_perform_240 (by decide) ?_
    refine mu0_v (w := (wR cA ad ce co rw le el ec nd pa nc)) (va_runV (C := RR) (As := [.int (s_t x), .int (-1)]) (rest := []) ⟨hx, hb, hml, hown, hg⟩ (m_R_hang l D cA s.heap.size ad ce co rw le el ec nd pa nc (s_t x) (-1) mm hc hw) (cwV 2 hg (gd_V ml_R_103 im_R_hang sl_R_hang ini_R cd_R_hang) rfl rfl rfl (by decide +kernel) ⟨Nat.le_of_ble_eq_true rfl, Nat.le_of_ble_eq_true rfl⟩) (pv_m (va_recv (q0 := 0) (ci := 0) hK hP rfl rfl) hP hK hN hD) rfl rfl hl.1 rfl (lv_room (Nat.le_of_ble_eq_true rfl)) d_R_perform_241 ⟨Nat.zero_le _, Nat.zero_le _⟩) hP hD hS hA (fun u H locs hp hP hD hS => ?_)
    obtain ⟨ce2, co2, rw2, le2, el2, ec2, nd2, pa2, nc2⟩ := u
    have hP : va_P D cls_ (wR cA ad ce2 co2 rw2 le2 el2 ec2 nd2 pa2 nc2) H := hP
    have hD : va_D A (wR cA ad ce2 co2 rw2 le2 el2 ec2 nd2 pa2 nc2) := hD
    refine lv_goto (tgt := 262) hx hb d_R_perform_244 (by decide) ?_
    have hq : cq_ (pf_ x mm) (ce2, co2, rw2, le2, el2, ec2, nd2, pa2, nc2) := by
      rw [pf_7 mm hk]
      exact hp
    exact W.vret hx hb hr (fun t ht hW => ⟨⟨(ce2, co2, rw2, le2, el2, ec2, nd2, pa2, nc2), rfl, hq, by rw [ht]; exact hP, hD⟩, hS.F ht⟩) hS.2.2 d_R_perform_262
  · skip
    refine toi_ (y := 8) hk ?_
    refine lv_tableIn (off := 243) (tgt := 247) hx hb d_R_perform_4 (by decide) (by decide) rfl (by decide) ?_
    refine lv_aload_n hx hb d_R_perform_247 rfl (lv_at hl 0 rfl) ?_
    refine lv_aload_n hx hb d_R_perform_248 rfl (lv_at hl 1 rfl) ?_
    refine va_getN (D := D) (ci := 1) (v := .int (s_t x)) (C := RS) (T := TS) (N := 7) hx hb hg inS hown hK (rk_ hR hRA hS) 0 rfl rfl 2 (by decide) (va_Nw.use rfl (hN.1 _ fn_R_75)) (fun _ h9 => h9) rfl d_R_perform_249 ?_
    refine lv_aload_n hx hb d_R_perform_252 rfl (lv_at hl 1 rfl) ?_
    refine va_getN (D := D) (ci := 1) (v := .int (s_m x)) (C := RS) (T := TS) (N := 7) hx hb hg inS hown hK (rk_ hR hRA hS) 0 rfl rfl 3 (by decide) (va_Nw.use rfl (hN.1 _ fn_R_65)) (fun _ h9 => h9) rfl d_R_perform_253 ?_
    refine mu0_v (w := (wR cA ad ce co rw le el ec nd pa nc)) (va_runV (C := RR) (As := [.int (s_t x), .int (s_m x)]) (rest := []) ⟨hx, hb, hml, hown, hg⟩ (m_R_hang l D cA s.heap.size ad ce co rw le el ec nd pa nc (s_t x) (s_m x) mm hc hw) (cwV 2 hg (gd_V ml_R_103 im_R_hang sl_R_hang ini_R cd_R_hang) rfl rfl rfl (by decide +kernel) ⟨Nat.le_of_ble_eq_true rfl, Nat.le_of_ble_eq_true rfl⟩) (pv_m (va_recv (q0 := 0) (ci := 0) hK hP rfl rfl) hP hK hN hD) rfl rfl hl.1 rfl (lv_room (Nat.le_of_ble_eq_true rfl)) d_R_perform_256 ⟨Nat.zero_le _, Nat.zero_le _⟩) hP hD hS hA (fun u H locs hp hP hD hS => ?_)
    obtain ⟨ce2, co2, rw2, le2, el2, ec2, nd2, pa2, nc2⟩ := u
    have hP : va_P D cls_ (wR cA ad ce2 co2 rw2 le2 el2 ec2 nd2 pa2 nc2) H := hP
    have hD : va_D A (wR cA ad ce2 co2 rw2 le2 el2 ec2 nd2 pa2 nc2) := hD
    refine lv_goto (tgt := 262) hx hb d_R_perform_259 (by decide) ?_
    have hq : cq_ (pf_ x mm) (ce2, co2, rw2, le2, el2, ec2, nd2, pa2, nc2) := by
      rw [pf_8 mm hk]
      exact hp
    exact W.vret hx hb hr (fun t ht hW => ⟨⟨(ce2, co2, rw2, le2, el2, ec2, nd2, pa2, nc2), rfl, hq, by rw [ht]; exact hP, hD⟩, hS.F ht⟩) hS.2.2 d_R_perform_262
