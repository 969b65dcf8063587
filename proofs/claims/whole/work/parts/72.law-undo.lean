/-! The law: one call that undoes or does again, of both -/
set_option maxHeartbeats 4000000 in
set_option maxRecDepth 100000 in
theorem lc_undo {p : Program} {l : Launch} {e : Env} {s : State} {m : MethodId} {below : List Frame} {meth : Method} {c : Code} {b L : Nat} {xs : Nat → Int32} {D : va_G} {cA : Nat → ClassId} {np : Nat} {au ay : Nat → Nat} {a : ab_T} {cu : uc_T} {cm : mc_T} {H : Heap} {locs : List Loc} {ls : Array Slot} {t : Nat} {Q : State → Prop} (C : LC p s m c b L xs D cA np) (hL : L ≤ 2048) (ht : 4 * t + 4 ≤ L) (hla : a.2.2.2.1 ≤ t) (hI : LI s D cA au ay a cu cm H locs) (hl : lv_has ls 4 [(0, .ref b), (1, .ref (au 0)), (2, .ref (ay 0)), (3, .int (nI (4 * t)))])
    (kk : ∀ (a : ab_T) (cu : uc_T) (cm : mc_T) (H : Heap) (locs : List Loc), a.2.2.2.1 ≤ t + 1 → LI s D cA au ay a cu cm H locs → W p l e room_1 s m #[Value.ref b] below meth c H locs (42 + 2 * (t + 1)) (12098 + 47 * (t + 1)) Q (F0 m 833 ls [])) : W p l e room_1 s m #[Value.ref b] below meth c H locs (42 + 2 * t) (12098 + 47 * t) Q (F0 m 438 ls []) := by
  obtain ⟨hx, hb, hml, hown, hg, hX, hbl, hK, hN, hZ0⟩ := C
  obtain ⟨hP, hD, hS, hU, hM⟩ := hI
  obtain ⟨hs, ac, n, la, T⟩ := a
  obtain ⟨am, at2, ic, sa, ip, tk, um, ut, L9, f⟩ := cu
  obtain ⟨nu, ki, th, ot, vs, av, pl, ps, ts, fr, bk, ce, co, ro, le, dn, un⟩ := cm
  have hla : la ≤ t := hla
  have hla9 : la + 1 < 100000 := by omega
  have hH : hi_ hs n la := hU.1.1
  have hP : va_P D cls_ (((wU cA au (am 0) (at2 0) (nI n) (nI la) ic (nI T.length) sa ip tk) ++ ((wq_ cA am um) ++ ((wq_ cA at2 ut) ++ (va_pl L9 f)))) ++ (wM cA ay (nI n) (nI la) nu ki th ot vs av pl ps (nI T.length) ts fr bk ce co ro le dn un)) H := hP
  have hD : va_D (fun q => s.heap.size ≤ q) (((wU cA au (am 0) (at2 0) (nI n) (nI la) ic (nI T.length) sa ip tk) ++ ((wq_ cA am um) ++ ((wq_ cA at2 ut) ++ (va_pl L9 f)))) ++ (wM cA ay (nI n) (nI la) nu ki th ot vs av pl ps (nI T.length) ts fr bk ce co ro le dn un)) := hD
  refine lv_aload_n hx hb d_L_law_438 rfl (lv_at hl 1 rfl) ?_
  refine lv_aload_n hx hb d_L_law_439 rfl (lv_at hl 0 rfl) ?_
  refine lv_iload_n hx hb d_L_law_440 rfl (lv_at hl 3 rfl) ?_
  refine lv_iconst (v := 1) hx hb d_L_law_441 (by decide) ?_
  refine lv_iadd hx hb d_L_law_442 ?_
  refine toi_ (y := nI (4 * t + 1)) (nI_1 _) ?_
  refine va_sld hx hb hX hbl (Nat.not_le.mpr hbl) hS (vp_in_nI (n := 4 * t + 1) (N := L) (by omega) (by omega)) d_L_law_443 ?_
  refine toi_ (y := xs (4 * t + 1)) (by rw [nI_clamp (by omega)]) ?_
  refine lv_aload_n hx hb d_L_law_444 rfl (lv_at hl 0 rfl) ?_
  refine lv_iload_n hx hb d_L_law_445 rfl (lv_at hl 3 rfl) ?_
  refine lv_iconst (v := 2) hx hb d_L_law_446 (by decide) ?_
  refine lv_iadd hx hb d_L_law_447 ?_
  refine toi_ (y := nI (4 * t + 2)) (nI_p2 _) ?_
  refine va_sld hx hb hX hbl (Nat.not_le.mpr hbl) hS (vp_in_nI (n := 4 * t + 2) (N := L) (by omega) (by omega)) d_L_law_448 ?_
  refine toi_ (y := xs (4 * t + 2)) (by rw [nI_clamp (by omega)]) ?_
  refine lv_if_eq (tgt := 456) hx hb d_L_law_449 (by decide) (fun h449 => ?_) (fun h449 => ?_)
  · skip
    have hz : (xs (4 * t + 2)) = 0 := h449
    refine lv_iconst (v := 0) hx hb d_L_law_456 (by decide) ?_
    refine mu_i (w := ((wU cA au (am 0) (at2 0) (nI n) (nI la) ic (nI T.length) sa ip tk) ++ ((wq_ cA am um) ++ ((wq_ cA at2 ut) ++ (va_pl L9 f))))) (wr := (wM cA ay (nI n) (nI la) nu ki th ot vs av pl ps (nI T.length) ts fr bk ce co ro le dn un)) (va_runV (C := RU) (As := [.int (xs (4 * t + 1)), .int 0]) (rest := []) ⟨hx, hb, hml, hown, hg⟩ (m_U_undo l D cA H.size au am at2 ic sa ip tk um ut L9 f hs ac n la T (xs (4 * t + 1)) false hU hla9) (cwV 2 hg (gd_V ml_L_51 im_U_undo sl_U_undo ini_U cd_U_undo) rfl rfl rfl (by decide +kernel) ⟨Nat.le_of_ble_eq_true rfl, Nat.le_of_ble_eq_true rfl⟩) (pv_m (va_recv (q0 := 0) (ci := 2) hK hP rfl rfl) (wp_l hP) hK hN (wd_l hD)) rfl rfl hl.1 rfl (lv_room (Nat.le_of_ble_eq_true rfl)) d_L_law_457 ⟨(show 42 + 2 * t + 0 ≤ 600000 by omega), (show 12098 + 47 * t + 0 ≤ 7302250 by omega)⟩) hP hD hS (fun q h => h) (fun r1 u1 H locs hp1 hP hD hS => ?_)
    refine lv_aload_n hx hb d_L_law_460 rfl (lv_at hl 2 rfl) ?_
    refine lv_aload_n hx hb d_L_law_461 rfl (lv_at hl 0 rfl) ?_
    refine lv_iload_n hx hb d_L_law_462 rfl (lv_at hl 3 rfl) ?_
    refine lv_iconst (v := 1) hx hb d_L_law_463 (by decide) ?_
    refine lv_iadd hx hb d_L_law_464 ?_
    refine toi_ (y := nI (4 * t + 1)) (nI_1 _) ?_
    refine va_sld hx hb hX hbl (Nat.not_le.mpr hbl) hS (vp_in_nI (n := 4 * t + 1) (N := L) (by omega) (by omega)) d_L_law_465 ?_
    refine toi_ (y := xs (4 * t + 1)) (by rw [nI_clamp (by omega)]) ?_
    refine lv_aload_n hx hb d_L_law_466 rfl (lv_at hl 0 rfl) ?_
    refine lv_iload_n hx hb d_L_law_467 rfl (lv_at hl 3 rfl) ?_
    refine lv_iconst (v := 2) hx hb d_L_law_468 (by decide) ?_
    refine lv_iadd hx hb d_L_law_469 ?_
    refine toi_ (y := nI (4 * t + 2)) (nI_p2 _) ?_
    refine va_sld hx hb hX hbl (Nat.not_le.mpr hbl) hS (vp_in_nI (n := 4 * t + 2) (N := L) (by omega) (by omega)) d_L_law_470 ?_
    refine toi_ (y := xs (4 * t + 2)) (by rw [nI_clamp (by omega)]) ?_
    refine lv_if_eq (tgt := 478) hx hb d_L_law_471 (by decide) (fun h471 => ?_) (fun h471 => ?_)
    · skip
      refine lv_iconst (v := 0) hx hb d_L_law_478 (by decide) ?_
      have hP := wp_pm List.perm_append_comm hP
      have hD := wd_pm List.perm_append_comm hD
      refine mu_i (w := (wM cA ay (nI n) (nI la) nu ki th ot vs av pl ps (nI T.length) ts fr bk ce co ro le dn un)) (wr := wX cA au (sp_undo (hs, ac, n, la, T) (xs (4 * t + 1)) false).2 u1) (va_runV (C := RM) (As := [.int (xs (4 * t + 1)), .int 0]) (rest := [.int r1]) ⟨hx, hb, hml, hown, hg⟩ (m_M_undo l D cA H.size ay nu ki th ot vs av pl ps ts fr bk ce co ro le dn un hs ac n la T (xs (4 * t + 1)) false hM hU.1 hla9) (cwV 2 hg (gd_V ml_L_55 im_M_undo sl_M_undo ini_M cd_M_undo) rfl rfl rfl (by decide +kernel) ⟨Nat.le_of_ble_eq_true rfl, Nat.le_of_ble_eq_true rfl⟩) (pv_m (va_recv (q0 := 0) (ci := 3) hK hP rfl rfl) (wp_l hP) hK hN (wd_l hD)) rfl rfl hl.1 rfl (lv_room (Nat.le_of_ble_eq_true rfl)) d_L_law_479 ⟨(show 42 + 2 * t + 0 + 0 ≤ 600000 by omega), (show 12098 + 47 * t + 0 + 0 ≤ 7302250 by omega)⟩) hP hD hS (fun q h => h) (fun r2 u2 H locs hp2 hP hD hS => ?_)
      have hP := wp_pm List.perm_append_comm hP
      have hD := wd_pm List.perm_append_comm hD
      refine lv_icmp_eq (tgt := 833) hx hb d_L_law_482 (by decide) (fun h482 => ?_) (fun h482 => ?_)
      · skip
        refine W.widen (k := 42 + 2 * (t + 1)) (n := 12098 + 47 * (t + 1)) (by omega) (by omega) ?_
        exact kk ((sp_undo (hs, ac, n, la, T) (xs (4 * t + 1)) false).2) u1 u2 H locs (Nat.le_trans (la_undo (hs, ac, n, la, T) _ _) (Nat.succ_le_succ hla)) ⟨hP, hD, hS, hp1.2, hp2.2⟩
      · skip
        exact absurd (hp1.1.trans hp2.1.symm) h482
    · skip
      exact absurd hz h471
  · skip
    have hz : ¬ (xs (4 * t + 2)) = 0 := h449
    refine lv_iconst (v := 1) hx hb d_L_law_452 (by decide) ?_
    refine lv_goto (tgt := 457) hx hb d_L_law_453 (by decide) ?_
    refine mu_i (w := ((wU cA au (am 0) (at2 0) (nI n) (nI la) ic (nI T.length) sa ip tk) ++ ((wq_ cA am um) ++ ((wq_ cA at2 ut) ++ (va_pl L9 f))))) (wr := (wM cA ay (nI n) (nI la) nu ki th ot vs av pl ps (nI T.length) ts fr bk ce co ro le dn un)) (va_runV (C := RU) (As := [.int (xs (4 * t + 1)), .int 1]) (rest := []) ⟨hx, hb, hml, hown, hg⟩ (m_U_undo l D cA H.size au am at2 ic sa ip tk um ut L9 f hs ac n la T (xs (4 * t + 1)) true hU hla9) (cwV 2 hg (gd_V ml_L_51 im_U_undo sl_U_undo ini_U cd_U_undo) rfl rfl rfl (by decide +kernel) ⟨Nat.le_of_ble_eq_true rfl, Nat.le_of_ble_eq_true rfl⟩) (pv_m (va_recv (q0 := 0) (ci := 2) hK hP rfl rfl) (wp_l hP) hK hN (wd_l hD)) rfl rfl hl.1 rfl (lv_room (Nat.le_of_ble_eq_true rfl)) d_L_law_457 ⟨(show 42 + 2 * t + 0 ≤ 600000 by omega), (show 12098 + 47 * t + 0 ≤ 7302250 by omega)⟩) hP hD hS (fun q h => h) (fun r1 u1 H locs hp1 hP hD hS => ?_)
    refine lv_aload_n hx hb d_L_law_460 rfl (lv_at hl 2 rfl) ?_
    refine lv_aload_n hx hb d_L_law_461 rfl (lv_at hl 0 rfl) ?_
    refine lv_iload_n hx hb d_L_law_462 rfl (lv_at hl 3 rfl) ?_
    refine lv_iconst (v := 1) hx hb d_L_law_463 (by decide) ?_
    refine lv_iadd hx hb d_L_law_464 ?_
    refine toi_ (y := nI (4 * t + 1)) (nI_1 _) ?_
    refine va_sld hx hb hX hbl (Nat.not_le.mpr hbl) hS (vp_in_nI (n := 4 * t + 1) (N := L) (by omega) (by omega)) d_L_law_465 ?_
    refine toi_ (y := xs (4 * t + 1)) (by rw [nI_clamp (by omega)]) ?_
    refine lv_aload_n hx hb d_L_law_466 rfl (lv_at hl 0 rfl) ?_
    refine lv_iload_n hx hb d_L_law_467 rfl (lv_at hl 3 rfl) ?_
    refine lv_iconst (v := 2) hx hb d_L_law_468 (by decide) ?_
    refine lv_iadd hx hb d_L_law_469 ?_
    refine toi_ (y := nI (4 * t + 2)) (nI_p2 _) ?_
    refine va_sld hx hb hX hbl (Nat.not_le.mpr hbl) hS (vp_in_nI (n := 4 * t + 2) (N := L) (by omega) (by omega)) d_L_law_470 ?_
    refine toi_ (y := xs (4 * t + 2)) (by rw [nI_clamp (by omega)]) ?_
    refine lv_if_eq (tgt := 478) hx hb d_L_law_471 (by decide) (fun h471 => ?_) (fun h471 => ?_)
    · skip
      exact absurd h471 hz
    · skip
      refine lv_iconst (v := 1) hx hb d_L_law_474 (by decide) ?_
      refine lv_goto (tgt := 479) hx hb d_L_law_475 (by decide) ?_
      have hP := wp_pm List.perm_append_comm hP
      have hD := wd_pm List.perm_append_comm hD
      refine mu_i (w := (wM cA ay (nI n) (nI la) nu ki th ot vs av pl ps (nI T.length) ts fr bk ce co ro le dn un)) (wr := wX cA au (sp_undo (hs, ac, n, la, T) (xs (4 * t + 1)) true).2 u1) (va_runV (C := RM) (As := [.int (xs (4 * t + 1)), .int 1]) (rest := [.int r1]) ⟨hx, hb, hml, hown, hg⟩ (m_M_undo l D cA H.size ay nu ki th ot vs av pl ps ts fr bk ce co ro le dn un hs ac n la T (xs (4 * t + 1)) true hM hU.1 hla9) (cwV 2 hg (gd_V ml_L_55 im_M_undo sl_M_undo ini_M cd_M_undo) rfl rfl rfl (by decide +kernel) ⟨Nat.le_of_ble_eq_true rfl, Nat.le_of_ble_eq_true rfl⟩) (pv_m (va_recv (q0 := 0) (ci := 3) hK hP rfl rfl) (wp_l hP) hK hN (wd_l hD)) rfl rfl hl.1 rfl (lv_room (Nat.le_of_ble_eq_true rfl)) d_L_law_479 ⟨(show 42 + 2 * t + 0 + 0 ≤ 600000 by omega), (show 12098 + 47 * t + 0 + 0 ≤ 7302250 by omega)⟩) hP hD hS (fun q h => h) (fun r2 u2 H locs hp2 hP hD hS => ?_)
      have hP := wp_pm List.perm_append_comm hP
      have hD := wd_pm List.perm_append_comm hD
      refine lv_icmp_eq (tgt := 833) hx hb d_L_law_482 (by decide) (fun h482 => ?_) (fun h482 => ?_)
      · skip
        refine W.widen (k := 42 + 2 * (t + 1)) (n := 12098 + 47 * (t + 1)) (by omega) (by omega) ?_
        exact kk ((sp_undo (hs, ac, n, la, T) (xs (4 * t + 1)) true).2) u1 u2 H locs (Nat.le_trans (la_undo (hs, ac, n, la, T) _ _) (Nat.succ_le_succ hla)) ⟨hP, hD, hS, hp1.2, hp2.2⟩
      · skip
        exact absurd (hp1.1.trans hp2.1.symm) h482

set_option maxHeartbeats 4000000 in
set_option maxRecDepth 100000 in
theorem lc_redo {p : Program} {l : Launch} {e : Env} {s : State} {m : MethodId} {below : List Frame} {meth : Method} {c : Code} {b L : Nat} {xs : Nat → Int32} {D : va_G} {cA : Nat → ClassId} {np : Nat} {au ay : Nat → Nat} {a : ab_T} {cu : uc_T} {cm : mc_T} {H : Heap} {locs : List Loc} {ls : Array Slot} {t : Nat} {Q : State → Prop} (C : LC p s m c b L xs D cA np) (hL : L ≤ 2048) (ht : 4 * t + 4 ≤ L) (hla : a.2.2.2.1 ≤ t) (hI : LI s D cA au ay a cu cm H locs) (hl : lv_has ls 4 [(0, .ref b), (1, .ref (au 0)), (2, .ref (ay 0)), (3, .int (nI (4 * t)))])
    (kk : ∀ (a : ab_T) (cu : uc_T) (cm : mc_T) (H : Heap) (locs : List Loc), a.2.2.2.1 ≤ t + 1 → LI s D cA au ay a cu cm H locs → W p l e room_1 s m #[Value.ref b] below meth c H locs (42 + 2 * (t + 1)) (12098 + 47 * (t + 1)) Q (F0 m 833 ls [])) : W p l e room_1 s m #[Value.ref b] below meth c H locs (42 + 2 * t) (12098 + 47 * t) Q (F0 m 487 ls []) := by
  obtain ⟨hx, hb, hml, hown, hg, hX, hbl, hK, hN, hZ0⟩ := C
  obtain ⟨hP, hD, hS, hU, hM⟩ := hI
  obtain ⟨hs, ac, n, la, T⟩ := a
  obtain ⟨am, at2, ic, sa, ip, tk, um, ut, L9, f⟩ := cu
  obtain ⟨nu, ki, th, ot, vs, av, pl, ps, ts, fr, bk, ce, co, ro, le, dn, un⟩ := cm
  have hla : la ≤ t := hla
  have hla9 : la + 1 < 100000 := by omega
  have hH : hi_ hs n la := hU.1.1
  have hP : va_P D cls_ (((wU cA au (am 0) (at2 0) (nI n) (nI la) ic (nI T.length) sa ip tk) ++ ((wq_ cA am um) ++ ((wq_ cA at2 ut) ++ (va_pl L9 f)))) ++ (wM cA ay (nI n) (nI la) nu ki th ot vs av pl ps (nI T.length) ts fr bk ce co ro le dn un)) H := hP
  have hD : va_D (fun q => s.heap.size ≤ q) (((wU cA au (am 0) (at2 0) (nI n) (nI la) ic (nI T.length) sa ip tk) ++ ((wq_ cA am um) ++ ((wq_ cA at2 ut) ++ (va_pl L9 f)))) ++ (wM cA ay (nI n) (nI la) nu ki th ot vs av pl ps (nI T.length) ts fr bk ce co ro le dn un)) := hD
  refine lv_aload_n hx hb d_L_law_487 rfl (lv_at hl 1 rfl) ?_
  refine lv_aload_n hx hb d_L_law_488 rfl (lv_at hl 0 rfl) ?_
  refine lv_iload_n hx hb d_L_law_489 rfl (lv_at hl 3 rfl) ?_
  refine lv_iconst (v := 1) hx hb d_L_law_490 (by decide) ?_
  refine lv_iadd hx hb d_L_law_491 ?_
  refine toi_ (y := nI (4 * t + 1)) (nI_1 _) ?_
  refine va_sld hx hb hX hbl (Nat.not_le.mpr hbl) hS (vp_in_nI (n := 4 * t + 1) (N := L) (by omega) (by omega)) d_L_law_492 ?_
  refine toi_ (y := xs (4 * t + 1)) (by rw [nI_clamp (by omega)]) ?_
  refine mu_i (w := ((wU cA au (am 0) (at2 0) (nI n) (nI la) ic (nI T.length) sa ip tk) ++ ((wq_ cA am um) ++ ((wq_ cA at2 ut) ++ (va_pl L9 f))))) (wr := (wM cA ay (nI n) (nI la) nu ki th ot vs av pl ps (nI T.length) ts fr bk ce co ro le dn un)) (va_runV (C := RU) (As := [.int (xs (4 * t + 1))]) (rest := []) ⟨hx, hb, hml, hown, hg⟩ (m_U_redo l D cA H.size au am at2 ic sa ip tk um ut L9 f hs ac n la T (xs (4 * t + 1)) hU hla9) (cwV 1 hg (gd_V ml_L_56 im_U_redo sl_U_redo ini_U cd_U_redo) rfl rfl rfl (by decide +kernel) ⟨Nat.le_of_ble_eq_true rfl, Nat.le_of_ble_eq_true rfl⟩) (pv_m (va_recv (q0 := 0) (ci := 2) hK hP rfl rfl) (wp_l hP) hK hN (wd_l hD)) rfl rfl hl.1 rfl (lv_room (Nat.le_of_ble_eq_true rfl)) d_L_law_493 ⟨(show 42 + 2 * t + 0 ≤ 600000 by omega), (show 12098 + 47 * t + 0 ≤ 7302250 by omega)⟩) hP hD hS (fun q h => h) (fun r1 u1 H locs hp1 hP hD hS => ?_)
  refine lv_aload_n hx hb d_L_law_496 rfl (lv_at hl 2 rfl) ?_
  refine lv_aload_n hx hb d_L_law_497 rfl (lv_at hl 0 rfl) ?_
  refine lv_iload_n hx hb d_L_law_498 rfl (lv_at hl 3 rfl) ?_
  refine lv_iconst (v := 1) hx hb d_L_law_499 (by decide) ?_
  refine lv_iadd hx hb d_L_law_500 ?_
  refine toi_ (y := nI (4 * t + 1)) (nI_1 _) ?_
  refine va_sld hx hb hX hbl (Nat.not_le.mpr hbl) hS (vp_in_nI (n := 4 * t + 1) (N := L) (by omega) (by omega)) d_L_law_501 ?_
  refine toi_ (y := xs (4 * t + 1)) (by rw [nI_clamp (by omega)]) ?_
  have hP := wp_pm List.perm_append_comm hP
  have hD := wd_pm List.perm_append_comm hD
  refine mu_i (w := (wM cA ay (nI n) (nI la) nu ki th ot vs av pl ps (nI T.length) ts fr bk ce co ro le dn un)) (wr := wX cA au (sp_redo (hs, ac, n, la, T) (xs (4 * t + 1))).2 u1) (va_runV (C := RM) (As := [.int (xs (4 * t + 1))]) (rest := [.int r1]) ⟨hx, hb, hml, hown, hg⟩ (m_M_redo l D cA H.size ay nu ki th ot vs av pl ps ts fr bk ce co ro le dn un hs ac n la T (xs (4 * t + 1)) hM hU.1 hla9) (cwV 1 hg (gd_V ml_L_59 im_M_redo sl_M_redo ini_M cd_M_redo) rfl rfl rfl (by decide +kernel) ⟨Nat.le_of_ble_eq_true rfl, Nat.le_of_ble_eq_true rfl⟩) (pv_m (va_recv (q0 := 0) (ci := 3) hK hP rfl rfl) (wp_l hP) hK hN (wd_l hD)) rfl rfl hl.1 rfl (lv_room (Nat.le_of_ble_eq_true rfl)) d_L_law_502 ⟨(show 42 + 2 * t + 0 + 0 ≤ 600000 by omega), (show 12098 + 47 * t + 0 + 0 ≤ 7302250 by omega)⟩) hP hD hS (fun q h => h) (fun r2 u2 H locs hp2 hP hD hS => ?_)
  have hP := wp_pm List.perm_append_comm hP
  have hD := wd_pm List.perm_append_comm hD
  refine lv_icmp_eq (tgt := 833) hx hb d_L_law_505 (by decide) (fun h505 => ?_) (fun h505 => ?_)
  · skip
    refine W.widen (k := 42 + 2 * (t + 1)) (n := 12098 + 47 * (t + 1)) (by omega) (by omega) ?_
    exact kk ((sp_redo (hs, ac, n, la, T) (xs (4 * t + 1))).2) u1 u2 H locs (Nat.le_trans (la_redo (hs, ac, n, la, T) _) (Nat.succ_le_succ hla)) ⟨hP, hD, hS, hp1.2, hp2.2⟩
  · skip
    exact absurd (hp1.1.trans hp2.1.symm) h505

set_option maxHeartbeats 4000000 in
set_option maxRecDepth 100000 in
theorem lc_taken {p : Program} {l : Launch} {e : Env} {s : State} {m : MethodId} {below : List Frame} {meth : Method} {c : Code} {b L : Nat} {xs : Nat → Int32} {D : va_G} {cA : Nat → ClassId} {np : Nat} {au ay : Nat → Nat} {a : ab_T} {cu : uc_T} {cm : mc_T} {H : Heap} {locs : List Loc} {ls : Array Slot} {t : Nat} {Q : State → Prop} (C : LC p s m c b L xs D cA np) (hL : L ≤ 2048) (ht : 4 * t + 4 ≤ L) (hla : a.2.2.2.1 ≤ t) (hI : LI s D cA au ay a cu cm H locs) (hl : lv_has ls 4 [(0, .ref b), (1, .ref (au 0)), (2, .ref (ay 0)), (3, .int (nI (4 * t)))])
    (kk : ∀ (a : ab_T) (cu : uc_T) (cm : mc_T) (H : Heap) (locs : List Loc), a.2.2.2.1 ≤ t + 1 → LI s D cA au ay a cu cm H locs → W p l e room_1 s m #[Value.ref b] below meth c H locs (42 + 2 * (t + 1)) (12098 + 47 * (t + 1)) Q (F0 m 833 ls [])) : W p l e room_1 s m #[Value.ref b] below meth c H locs (42 + 2 * t) (12098 + 47 * t) Q (F0 m 510 ls []) := by
  obtain ⟨hx, hb, hml, hown, hg, hX, hbl, hK, hN, hZ0⟩ := C
  obtain ⟨hP, hD, hS, hU, hM⟩ := hI
  obtain ⟨hs, ac, n, la, T⟩ := a
  obtain ⟨am, at2, ic, sa, ip, tk, um, ut, L9, f⟩ := cu
  obtain ⟨nu, ki, th, ot, vs, av, pl, ps, ts, fr, bk, ce, co, ro, le, dn, un⟩ := cm
  have hla : la ≤ t := hla
  have hla9 : la + 1 < 100000 := by omega
  have hH : hi_ hs n la := hU.1.1
  have hP : va_P D cls_ (((wU cA au (am 0) (at2 0) (nI n) (nI la) ic (nI T.length) sa ip tk) ++ ((wq_ cA am um) ++ ((wq_ cA at2 ut) ++ (va_pl L9 f)))) ++ (wM cA ay (nI n) (nI la) nu ki th ot vs av pl ps (nI T.length) ts fr bk ce co ro le dn un)) H := hP
  have hD : va_D (fun q => s.heap.size ≤ q) (((wU cA au (am 0) (at2 0) (nI n) (nI la) ic (nI T.length) sa ip tk) ++ ((wq_ cA am um) ++ ((wq_ cA at2 ut) ++ (va_pl L9 f)))) ++ (wM cA ay (nI n) (nI la) nu ki th ot vs av pl ps (nI T.length) ts fr bk ce co ro le dn un)) := hD
  refine lv_aload_n hx hb d_L_law_510 rfl (lv_at hl 1 rfl) ?_
  refine lv_aload_n hx hb d_L_law_511 rfl (lv_at hl 0 rfl) ?_
  refine lv_iload_n hx hb d_L_law_512 rfl (lv_at hl 3 rfl) ?_
  refine lv_iconst (v := 1) hx hb d_L_law_513 (by decide) ?_
  refine lv_iadd hx hb d_L_law_514 ?_
  refine toi_ (y := nI (4 * t + 1)) (nI_1 _) ?_
  refine va_sld hx hb hX hbl (Nat.not_le.mpr hbl) hS (vp_in_nI (n := 4 * t + 1) (N := L) (by omega) (by omega)) d_L_law_515 ?_
  refine toi_ (y := xs (4 * t + 1)) (by rw [nI_clamp (by omega)]) ?_
  refine vp_callSi (va_Run.run (va_runV (C := RU) (As := [.int (xs (4 * t + 1))]) (rest := []) ⟨hx, hb, hml, hown, hg⟩ (m_U_taken l D cA au am at2 ic sa ip tk um ut L9 f hs ac n la T hU.2.2.2 hU.1.2.2 (xs (4 * t + 1))) (cwV 1 hg (gd_V ml_L_60 im_U_taken sl_U_taken ini_U cd_U_taken) rfl rfl rfl (by decide +kernel) ⟨Nat.le_of_ble_eq_true rfl, Nat.le_of_ble_eq_true rfl⟩) (pv_r (va_recv (q0 := 0) (ci := 2) hK hP rfl rfl) (wp_l hP) hK hN) rfl rfl hl.1 rfl (lv_room (Nat.le_of_ble_eq_true rfl)) d_L_law_516 ⟨(show 42 + 2 * t + 0 ≤ 600000 by omega), (show 12098 + 47 * t + 0 ≤ 7302250 by omega)⟩)) (fun r1 e1 => ?_)
  subst e1
  refine lv_aload_n hx hb d_L_law_519 rfl (lv_at hl 2 rfl) ?_
  refine lv_aload_n hx hb d_L_law_520 rfl (lv_at hl 0 rfl) ?_
  refine lv_iload_n hx hb d_L_law_521 rfl (lv_at hl 3 rfl) ?_
  refine lv_iconst (v := 1) hx hb d_L_law_522 (by decide) ?_
  refine lv_iadd hx hb d_L_law_523 ?_
  refine toi_ (y := nI (4 * t + 1)) (nI_1 _) ?_
  refine va_sld hx hb hX hbl (Nat.not_le.mpr hbl) hS (vp_in_nI (n := 4 * t + 1) (N := L) (by omega) (by omega)) d_L_law_524 ?_
  refine toi_ (y := xs (4 * t + 1)) (by rw [nI_clamp (by omega)]) ?_
  have hP := wp_pm List.perm_append_comm hP
  have hD := wd_pm List.perm_append_comm hD
  refine vp_callSi (va_Run.run (va_runV (C := RM) (As := [.int (xs (4 * t + 1))]) (rest := [.int (sp_taken T (xs (4 * t + 1)))]) ⟨hx, hb, hml, hown, hg⟩ (m_M_taken l D cA ay nu ki th ot vs av pl ps ts fr bk ce co ro le dn un hs ac n la T (xs (4 * t + 1)) hM hU.1) (cwV 1 hg (gd_V ml_L_63 im_M_taken sl_M_taken ini_M cd_M_taken) rfl rfl rfl (by decide +kernel) ⟨Nat.le_of_ble_eq_true rfl, Nat.le_of_ble_eq_true rfl⟩) (pv_r (va_recv (q0 := 0) (ci := 3) hK hP rfl rfl) (wp_l hP) hK hN) rfl rfl hl.1 rfl (lv_room (Nat.le_of_ble_eq_true rfl)) d_L_law_525 ⟨(show 42 + 2 * t + 0 ≤ 600000 by omega), (show 12098 + 47 * t + 0 ≤ 7302250 by omega)⟩)) (fun r2 e2 => ?_)
  subst e2
  have hP := wp_pm List.perm_append_comm hP
  have hD := wd_pm List.perm_append_comm hD
  refine lv_icmp_eq (tgt := 833) hx hb d_L_law_528 (by decide) (fun h528 => ?_) (fun h528 => ?_)
  · skip
    refine W.widen (k := 42 + 2 * (t + 1)) (n := 12098 + 47 * (t + 1)) (by omega) (by omega) ?_
    exact kk (hs, ac, n, la, T) (am, at2, ic, sa, ip, tk, um, ut, L9, f) (nu, ki, th, ot, vs, av, pl, ps, ts, fr, bk, ce, co, ro, le, dn, un) H locs (Nat.le_trans hla (Nat.le_succ t)) ⟨hP, hD, hS, hU, hM⟩
  · skip
    exact absurd (rfl) h528

set_option maxHeartbeats 4000000 in
set_option maxRecDepth 100000 in
theorem lc_dependsOn {p : Program} {l : Launch} {e : Env} {s : State} {m : MethodId} {below : List Frame} {meth : Method} {c : Code} {b L : Nat} {xs : Nat → Int32} {D : va_G} {cA : Nat → ClassId} {np : Nat} {au ay : Nat → Nat} {a : ab_T} {cu : uc_T} {cm : mc_T} {H : Heap} {locs : List Loc} {ls : Array Slot} {t : Nat} {Q : State → Prop} (C : LC p s m c b L xs D cA np) (hL : L ≤ 2048) (ht : 4 * t + 4 ≤ L) (hla : a.2.2.2.1 ≤ t) (hI : LI s D cA au ay a cu cm H locs) (hl : lv_has ls 4 [(0, .ref b), (1, .ref (au 0)), (2, .ref (ay 0)), (3, .int (nI (4 * t)))])
    (kk : ∀ (a : ab_T) (cu : uc_T) (cm : mc_T) (H : Heap) (locs : List Loc), a.2.2.2.1 ≤ t + 1 → LI s D cA au ay a cu cm H locs → W p l e room_1 s m #[Value.ref b] below meth c H locs (42 + 2 * (t + 1)) (12098 + 47 * (t + 1)) Q (F0 m 833 ls [])) : W p l e room_1 s m #[Value.ref b] below meth c H locs (42 + 2 * t) (12098 + 47 * t) Q (F0 m 533 ls []) := by
  obtain ⟨hx, hb, hml, hown, hg, hX, hbl, hK, hN, hZ0⟩ := C
  obtain ⟨hP, hD, hS, hU, hM⟩ := hI
  obtain ⟨hs, ac, n, la, T⟩ := a
  obtain ⟨am, at2, ic, sa, ip, tk, um, ut, L9, f⟩ := cu
  obtain ⟨nu, ki, th, ot, vs, av, pl, ps, ts, fr, bk, ce, co, ro, le, dn, un⟩ := cm
  have hla : la ≤ t := hla
  have hla9 : la + 1 < 100000 := by omega
  have hH : hi_ hs n la := hU.1.1
  have hP : va_P D cls_ (((wU cA au (am 0) (at2 0) (nI n) (nI la) ic (nI T.length) sa ip tk) ++ ((wq_ cA am um) ++ ((wq_ cA at2 ut) ++ (va_pl L9 f)))) ++ (wM cA ay (nI n) (nI la) nu ki th ot vs av pl ps (nI T.length) ts fr bk ce co ro le dn un)) H := hP
  have hD : va_D (fun q => s.heap.size ≤ q) (((wU cA au (am 0) (at2 0) (nI n) (nI la) ic (nI T.length) sa ip tk) ++ ((wq_ cA am um) ++ ((wq_ cA at2 ut) ++ (va_pl L9 f)))) ++ (wM cA ay (nI n) (nI la) nu ki th ot vs av pl ps (nI T.length) ts fr bk ce co ro le dn un)) := hD
  refine lv_aload_n hx hb d_L_law_533 rfl (lv_at hl 1 rfl) ?_
  refine lv_aload_n hx hb d_L_law_534 rfl (lv_at hl 0 rfl) ?_
  refine lv_iload_n hx hb d_L_law_535 rfl (lv_at hl 3 rfl) ?_
  refine lv_iconst (v := 1) hx hb d_L_law_536 (by decide) ?_
  refine lv_iadd hx hb d_L_law_537 ?_
  refine toi_ (y := nI (4 * t + 1)) (nI_1 _) ?_
  refine va_sld hx hb hX hbl (Nat.not_le.mpr hbl) hS (vp_in_nI (n := 4 * t + 1) (N := L) (by omega) (by omega)) d_L_law_538 ?_
  refine toi_ (y := xs (4 * t + 1)) (by rw [nI_clamp (by omega)]) ?_
  refine lv_aload_n hx hb d_L_law_539 rfl (lv_at hl 0 rfl) ?_
  refine lv_iload_n hx hb d_L_law_540 rfl (lv_at hl 3 rfl) ?_
  refine lv_iconst (v := 2) hx hb d_L_law_541 (by decide) ?_
  refine lv_iadd hx hb d_L_law_542 ?_
  refine toi_ (y := nI (4 * t + 2)) (nI_p2 _) ?_
  refine va_sld hx hb hX hbl (Nat.not_le.mpr hbl) hS (vp_in_nI (n := 4 * t + 2) (N := L) (by omega) (by omega)) d_L_law_543 ?_
  refine toi_ (y := xs (4 * t + 2)) (by rw [nI_clamp (by omega)]) ?_
  refine mu_i (w := ((wU cA au (am 0) (at2 0) (nI n) (nI la) ic (nI T.length) sa ip tk) ++ ((wq_ cA am um) ++ ((wq_ cA at2 ut) ++ (va_pl L9 f))))) (wr := (wM cA ay (nI n) (nI la) nu ki th ot vs av pl ps (nI T.length) ts fr bk ce co ro le dn un)) (va_runV (C := RU) (As := [.int (xs (4 * t + 1)), .int (xs (4 * t + 2))]) (rest := []) ⟨hx, hb, hml, hown, hg⟩ (m_U_dependsOn l D cA H.size au am at2 ic sa ip tk um ut L9 f hs ac n la T (xs (4 * t + 1)) (xs (4 * t + 2)) hU) (cwV 2 hg (gd_V ml_L_64 im_U_dependsOn sl_U_dependsOn ini_U cd_U_dependsOn) rfl rfl rfl (by decide +kernel) ⟨Nat.le_of_ble_eq_true rfl, Nat.le_of_ble_eq_true rfl⟩) (pv_m (va_recv (q0 := 0) (ci := 2) hK hP rfl rfl) (wp_l hP) hK hN (wd_l hD)) rfl rfl hl.1 rfl (lv_room (Nat.le_of_ble_eq_true rfl)) d_L_law_544 ⟨(show 42 + 2 * t + 0 ≤ 600000 by omega), (show 12098 + 47 * t + 0 ≤ 7302250 by omega)⟩) hP hD hS (fun q h => h) (fun r1 u1 H locs hp1 hP hD hS => ?_)
  refine lv_aload_n hx hb d_L_law_547 rfl (lv_at hl 2 rfl) ?_
  refine lv_aload_n hx hb d_L_law_548 rfl (lv_at hl 0 rfl) ?_
  refine lv_iload_n hx hb d_L_law_549 rfl (lv_at hl 3 rfl) ?_
  refine lv_iconst (v := 1) hx hb d_L_law_550 (by decide) ?_
  refine lv_iadd hx hb d_L_law_551 ?_
  refine toi_ (y := nI (4 * t + 1)) (nI_1 _) ?_
  refine va_sld hx hb hX hbl (Nat.not_le.mpr hbl) hS (vp_in_nI (n := 4 * t + 1) (N := L) (by omega) (by omega)) d_L_law_552 ?_
  refine toi_ (y := xs (4 * t + 1)) (by rw [nI_clamp (by omega)]) ?_
  refine lv_aload_n hx hb d_L_law_553 rfl (lv_at hl 0 rfl) ?_
  refine lv_iload_n hx hb d_L_law_554 rfl (lv_at hl 3 rfl) ?_
  refine lv_iconst (v := 2) hx hb d_L_law_555 (by decide) ?_
  refine lv_iadd hx hb d_L_law_556 ?_
  refine toi_ (y := nI (4 * t + 2)) (nI_p2 _) ?_
  refine va_sld hx hb hX hbl (Nat.not_le.mpr hbl) hS (vp_in_nI (n := 4 * t + 2) (N := L) (by omega) (by omega)) d_L_law_557 ?_
  refine toi_ (y := xs (4 * t + 2)) (by rw [nI_clamp (by omega)]) ?_
  have hP := wp_pm List.perm_append_comm hP
  have hD := wd_pm List.perm_append_comm hD
  refine mu_i (w := (wM cA ay (nI n) (nI la) nu ki th ot vs av pl ps (nI T.length) ts fr bk ce co ro le dn un)) (wr := wX cA au (hs, ac, n, la, T) u1) (va_runV (C := RM) (As := [.int (xs (4 * t + 1)), .int (xs (4 * t + 2))]) (rest := [.int r1]) ⟨hx, hb, hml, hown, hg⟩ (m_M_dependsOn l D cA H.size ay nu ki th ot vs av pl ps ts fr bk ce co ro le dn un hs ac n la T (xs (4 * t + 1)) (xs (4 * t + 2)) hM hU.1) (cwV 2 hg (gd_V ml_L_68 im_M_dependsOn sl_M_dependsOn ini_M cd_M_dependsOn) rfl rfl rfl (by decide +kernel) ⟨Nat.le_of_ble_eq_true rfl, Nat.le_of_ble_eq_true rfl⟩) (pv_m (va_recv (q0 := 0) (ci := 3) hK hP rfl rfl) (wp_l hP) hK hN (wd_l hD)) rfl rfl hl.1 rfl (lv_room (Nat.le_of_ble_eq_true rfl)) d_L_law_558 ⟨(show 42 + 2 * t + 0 + 0 ≤ 600000 by omega), (show 12098 + 47 * t + 0 + 0 ≤ 7302250 by omega)⟩) hP hD hS (fun q h => h) (fun r2 u2 H locs hp2 hP hD hS => ?_)
  have hP := wp_pm List.perm_append_comm hP
  have hD := wd_pm List.perm_append_comm hD
  refine lv_icmp_eq (tgt := 833) hx hb d_L_law_561 (by decide) (fun h561 => ?_) (fun h561 => ?_)
  · skip
    refine W.widen (k := 42 + 2 * (t + 1)) (n := 12098 + 47 * (t + 1)) (by omega) (by omega) ?_
    exact kk (hs, ac, n, la, T) u1 u2 H locs (Nat.le_trans hla (Nat.le_succ t)) ⟨hP, hD, hS, hp1.2, hp2.2⟩
  · skip
    exact absurd (hp1.1.trans hp2.1.symm) h561

set_option maxHeartbeats 4000000 in
set_option maxRecDepth 100000 in
theorem lc_undoLast {p : Program} {l : Launch} {e : Env} {s : State} {m : MethodId} {below : List Frame} {meth : Method} {c : Code} {b L : Nat} {xs : Nat → Int32} {D : va_G} {cA : Nat → ClassId} {np : Nat} {au ay : Nat → Nat} {a : ab_T} {cu : uc_T} {cm : mc_T} {H : Heap} {locs : List Loc} {ls : Array Slot} {t : Nat} {Q : State → Prop} (C : LC p s m c b L xs D cA np) (hL : L ≤ 2048) (ht : 4 * t + 4 ≤ L) (hla : a.2.2.2.1 ≤ t) (hI : LI s D cA au ay a cu cm H locs) (hl : lv_has ls 4 [(0, .ref b), (1, .ref (au 0)), (2, .ref (ay 0)), (3, .int (nI (4 * t)))])
    (kk : ∀ (a : ab_T) (cu : uc_T) (cm : mc_T) (H : Heap) (locs : List Loc), a.2.2.2.1 ≤ t + 1 → LI s D cA au ay a cu cm H locs → W p l e room_1 s m #[Value.ref b] below meth c H locs (42 + 2 * (t + 1)) (12098 + 47 * (t + 1)) Q (F0 m 833 ls [])) : W p l e room_1 s m #[Value.ref b] below meth c H locs (42 + 2 * t) (12098 + 47 * t) Q (F0 m 566 ls []) := by
  obtain ⟨hx, hb, hml, hown, hg, hX, hbl, hK, hN, hZ0⟩ := C
  obtain ⟨hP, hD, hS, hU, hM⟩ := hI
  obtain ⟨hs, ac, n, la, T⟩ := a
  obtain ⟨am, at2, ic, sa, ip, tk, um, ut, L9, f⟩ := cu
  obtain ⟨nu, ki, th, ot, vs, av, pl, ps, ts, fr, bk, ce, co, ro, le, dn, un⟩ := cm
  have hla : la ≤ t := hla
  have hla9 : la + 1 < 100000 := by omega
  have hH : hi_ hs n la := hU.1.1
  have hP : va_P D cls_ (((wU cA au (am 0) (at2 0) (nI n) (nI la) ic (nI T.length) sa ip tk) ++ ((wq_ cA am um) ++ ((wq_ cA at2 ut) ++ (va_pl L9 f)))) ++ (wM cA ay (nI n) (nI la) nu ki th ot vs av pl ps (nI T.length) ts fr bk ce co ro le dn un)) H := hP
  have hD : va_D (fun q => s.heap.size ≤ q) (((wU cA au (am 0) (at2 0) (nI n) (nI la) ic (nI T.length) sa ip tk) ++ ((wq_ cA am um) ++ ((wq_ cA at2 ut) ++ (va_pl L9 f)))) ++ (wM cA ay (nI n) (nI la) nu ki th ot vs av pl ps (nI T.length) ts fr bk ce co ro le dn un)) := hD
  refine lv_aload_n hx hb d_L_law_566 rfl (lv_at hl 1 rfl) ?_
  refine mu_i (w := ((wU cA au (am 0) (at2 0) (nI n) (nI la) ic (nI T.length) sa ip tk) ++ ((wq_ cA am um) ++ ((wq_ cA at2 ut) ++ (va_pl L9 f))))) (wr := (wM cA ay (nI n) (nI la) nu ki th ot vs av pl ps (nI T.length) ts fr bk ce co ro le dn un)) (va_runV (C := RU) (As := []) (rest := []) ⟨hx, hb, hml, hown, hg⟩ (m_U_undoLast l D cA H.size au am at2 ic sa ip tk um ut L9 f hs ac n la T  hU hla9) (cwV 0 hg (gd_V ml_L_69 im_U_undoLast sl_U_undoLast ini_U cd_U_undoLast) rfl rfl rfl (by decide +kernel) ⟨Nat.le_of_ble_eq_true rfl, Nat.le_of_ble_eq_true rfl⟩) (pv_m (va_recv (q0 := 0) (ci := 2) hK hP rfl rfl) (wp_l hP) hK hN (wd_l hD)) rfl rfl hl.1 rfl (lv_room (Nat.le_of_ble_eq_true rfl)) d_L_law_567 ⟨(show 42 + 2 * t + 0 ≤ 600000 by omega), (show 12098 + 47 * t + 0 ≤ 7302250 by omega)⟩) hP hD hS (fun q h => h) (fun r1 u1 H locs hp1 hP hD hS => ?_)
  refine lv_aload_n hx hb d_L_law_570 rfl (lv_at hl 2 rfl) ?_
  have hP := wp_pm List.perm_append_comm hP
  have hD := wd_pm List.perm_append_comm hD
  refine mu_i (w := (wM cA ay (nI n) (nI la) nu ki th ot vs av pl ps (nI T.length) ts fr bk ce co ro le dn un)) (wr := wX cA au (sp_undoLast (hs, ac, n, la, T)).2 u1) (va_runV (C := RM) (As := []) (rest := [.int r1]) ⟨hx, hb, hml, hown, hg⟩ (m_M_undoLast l D cA H.size ay nu ki th ot vs av pl ps ts fr bk ce co ro le dn un hs ac n la T  hM hU.1 hla9) (cwV 0 hg (gd_V ml_L_73 im_M_undoLast sl_M_undoLast ini_M cd_M_undoLast) rfl rfl rfl (by decide +kernel) ⟨Nat.le_of_ble_eq_true rfl, Nat.le_of_ble_eq_true rfl⟩) (pv_m (va_recv (q0 := 0) (ci := 3) hK hP rfl rfl) (wp_l hP) hK hN (wd_l hD)) rfl rfl hl.1 rfl (lv_room (Nat.le_of_ble_eq_true rfl)) d_L_law_571 ⟨(show 42 + 2 * t + 0 + 0 ≤ 600000 by omega), (show 12098 + 47 * t + 0 + 0 ≤ 7302250 by omega)⟩) hP hD hS (fun q h => h) (fun r2 u2 H locs hp2 hP hD hS => ?_)
  have hP := wp_pm List.perm_append_comm hP
  have hD := wd_pm List.perm_append_comm hD
  refine lv_icmp_eq (tgt := 833) hx hb d_L_law_574 (by decide) (fun h574 => ?_) (fun h574 => ?_)
  · skip
    refine W.widen (k := 42 + 2 * (t + 1)) (n := 12098 + 47 * (t + 1)) (by omega) (by omega) ?_
    exact kk ((sp_undoLast (hs, ac, n, la, T)).2) u1 u2 H locs (Nat.le_trans (la_undoLast (hs, ac, n, la, T)) (Nat.succ_le_succ hla)) ⟨hP, hD, hS, hp1.2, hp2.2⟩
  · skip
    exact absurd (hp1.1.trans hp2.1.symm) h574

set_option maxHeartbeats 4000000 in
set_option maxRecDepth 100000 in
theorem lc_redoNext {p : Program} {l : Launch} {e : Env} {s : State} {m : MethodId} {below : List Frame} {meth : Method} {c : Code} {b L : Nat} {xs : Nat → Int32} {D : va_G} {cA : Nat → ClassId} {np : Nat} {au ay : Nat → Nat} {a : ab_T} {cu : uc_T} {cm : mc_T} {H : Heap} {locs : List Loc} {ls : Array Slot} {t : Nat} {Q : State → Prop} (C : LC p s m c b L xs D cA np) (hL : L ≤ 2048) (ht : 4 * t + 4 ≤ L) (hla : a.2.2.2.1 ≤ t) (hI : LI s D cA au ay a cu cm H locs) (hl : lv_has ls 4 [(0, .ref b), (1, .ref (au 0)), (2, .ref (ay 0)), (3, .int (nI (4 * t)))])
    (kk : ∀ (a : ab_T) (cu : uc_T) (cm : mc_T) (H : Heap) (locs : List Loc), a.2.2.2.1 ≤ t + 1 → LI s D cA au ay a cu cm H locs → W p l e room_1 s m #[Value.ref b] below meth c H locs (42 + 2 * (t + 1)) (12098 + 47 * (t + 1)) Q (F0 m 833 ls [])) : W p l e room_1 s m #[Value.ref b] below meth c H locs (42 + 2 * t) (12098 + 47 * t) Q (F0 m 579 ls []) := by
  obtain ⟨hx, hb, hml, hown, hg, hX, hbl, hK, hN, hZ0⟩ := C
  obtain ⟨hP, hD, hS, hU, hM⟩ := hI
  obtain ⟨hs, ac, n, la, T⟩ := a
  obtain ⟨am, at2, ic, sa, ip, tk, um, ut, L9, f⟩ := cu
  obtain ⟨nu, ki, th, ot, vs, av, pl, ps, ts, fr, bk, ce, co, ro, le, dn, un⟩ := cm
  have hla : la ≤ t := hla
  have hla9 : la + 1 < 100000 := by omega
  have hH : hi_ hs n la := hU.1.1
  have hP : va_P D cls_ (((wU cA au (am 0) (at2 0) (nI n) (nI la) ic (nI T.length) sa ip tk) ++ ((wq_ cA am um) ++ ((wq_ cA at2 ut) ++ (va_pl L9 f)))) ++ (wM cA ay (nI n) (nI la) nu ki th ot vs av pl ps (nI T.length) ts fr bk ce co ro le dn un)) H := hP
  have hD : va_D (fun q => s.heap.size ≤ q) (((wU cA au (am 0) (at2 0) (nI n) (nI la) ic (nI T.length) sa ip tk) ++ ((wq_ cA am um) ++ ((wq_ cA at2 ut) ++ (va_pl L9 f)))) ++ (wM cA ay (nI n) (nI la) nu ki th ot vs av pl ps (nI T.length) ts fr bk ce co ro le dn un)) := hD
  refine lv_aload_n hx hb d_L_law_579 rfl (lv_at hl 1 rfl) ?_
  refine mu_i (w := ((wU cA au (am 0) (at2 0) (nI n) (nI la) ic (nI T.length) sa ip tk) ++ ((wq_ cA am um) ++ ((wq_ cA at2 ut) ++ (va_pl L9 f))))) (wr := (wM cA ay (nI n) (nI la) nu ki th ot vs av pl ps (nI T.length) ts fr bk ce co ro le dn un)) (va_runV (C := RU) (As := []) (rest := []) ⟨hx, hb, hml, hown, hg⟩ (m_U_redoNext l D cA H.size au am at2 ic sa ip tk um ut L9 f hs ac n la T  hU hla9) (cwV 0 hg (gd_V ml_L_74 im_U_redoNext sl_U_redoNext ini_U cd_U_redoNext) rfl rfl rfl (by decide +kernel) ⟨Nat.le_of_ble_eq_true rfl, Nat.le_of_ble_eq_true rfl⟩) (pv_m (va_recv (q0 := 0) (ci := 2) hK hP rfl rfl) (wp_l hP) hK hN (wd_l hD)) rfl rfl hl.1 rfl (lv_room (Nat.le_of_ble_eq_true rfl)) d_L_law_580 ⟨(show 42 + 2 * t + 0 ≤ 600000 by omega), (show 12098 + 47 * t + 0 ≤ 7302250 by omega)⟩) hP hD hS (fun q h => h) (fun r1 u1 H locs hp1 hP hD hS => ?_)
  refine lv_aload_n hx hb d_L_law_583 rfl (lv_at hl 2 rfl) ?_
  have hP := wp_pm List.perm_append_comm hP
  have hD := wd_pm List.perm_append_comm hD
  refine mu_i (w := (wM cA ay (nI n) (nI la) nu ki th ot vs av pl ps (nI T.length) ts fr bk ce co ro le dn un)) (wr := wX cA au (sp_redoNext (hs, ac, n, la, T)).2 u1) (va_runV (C := RM) (As := []) (rest := [.int r1]) ⟨hx, hb, hml, hown, hg⟩ (m_M_redoNext l D cA H.size ay nu ki th ot vs av pl ps ts fr bk ce co ro le dn un hs ac n la T  hM hU.1 hla9) (cwV 0 hg (gd_V ml_L_77 im_M_redoNext sl_M_redoNext ini_M cd_M_redoNext) rfl rfl rfl (by decide +kernel) ⟨Nat.le_of_ble_eq_true rfl, Nat.le_of_ble_eq_true rfl⟩) (pv_m (va_recv (q0 := 0) (ci := 3) hK hP rfl rfl) (wp_l hP) hK hN (wd_l hD)) rfl rfl hl.1 rfl (lv_room (Nat.le_of_ble_eq_true rfl)) d_L_law_584 ⟨(show 42 + 2 * t + 0 + 0 ≤ 600000 by omega), (show 12098 + 47 * t + 0 + 0 ≤ 7302250 by omega)⟩) hP hD hS (fun q h => h) (fun r2 u2 H locs hp2 hP hD hS => ?_)
  have hP := wp_pm List.perm_append_comm hP
  have hD := wd_pm List.perm_append_comm hD
  refine lv_icmp_eq (tgt := 833) hx hb d_L_law_587 (by decide) (fun h587 => ?_) (fun h587 => ?_)
  · skip
    refine W.widen (k := 42 + 2 * (t + 1)) (n := 12098 + 47 * (t + 1)) (by omega) (by omega) ?_
    exact kk ((sp_redoNext (hs, ac, n, la, T)).2) u1 u2 H locs (Nat.le_trans (la_redoNext (hs, ac, n, la, T)) (Nat.succ_le_succ hla)) ⟨hP, hD, hS, hp1.2, hp2.2⟩
  · skip
    exact absurd (hp1.1.trans hp2.1.symm) h587

set_option maxHeartbeats 4000000 in
set_option maxRecDepth 100000 in
theorem lc_squash {p : Program} {l : Launch} {e : Env} {s : State} {m : MethodId} {below : List Frame} {meth : Method} {c : Code} {b L : Nat} {xs : Nat → Int32} {D : va_G} {cA : Nat → ClassId} {np : Nat} {au ay : Nat → Nat} {a : ab_T} {cu : uc_T} {cm : mc_T} {H : Heap} {locs : List Loc} {ls : Array Slot} {t : Nat} {Q : State → Prop} (C : LC p s m c b L xs D cA np) (hL : L ≤ 2048) (ht : 4 * t + 4 ≤ L) (hla : a.2.2.2.1 ≤ t) (hI : LI s D cA au ay a cu cm H locs) (hl : lv_has ls 4 [(0, .ref b), (1, .ref (au 0)), (2, .ref (ay 0)), (3, .int (nI (4 * t)))])
    (kk : ∀ (a : ab_T) (cu : uc_T) (cm : mc_T) (H : Heap) (locs : List Loc), a.2.2.2.1 ≤ t + 1 → LI s D cA au ay a cu cm H locs → W p l e room_1 s m #[Value.ref b] below meth c H locs (42 + 2 * (t + 1)) (12098 + 47 * (t + 1)) Q (F0 m 833 ls [])) : W p l e room_1 s m #[Value.ref b] below meth c H locs (42 + 2 * t) (12098 + 47 * t) Q (F0 m 592 ls []) := by
  obtain ⟨hx, hb, hml, hown, hg, hX, hbl, hK, hN, hZ0⟩ := C
  obtain ⟨hP, hD, hS, hU, hM⟩ := hI
  obtain ⟨hs, ac, n, la, T⟩ := a
  obtain ⟨am, at2, ic, sa, ip, tk, um, ut, L9, f⟩ := cu
  obtain ⟨nu, ki, th, ot, vs, av, pl, ps, ts, fr, bk, ce, co, ro, le, dn, un⟩ := cm
  have hla : la ≤ t := hla
  have hla9 : la + 1 < 100000 := by omega
  have hH : hi_ hs n la := hU.1.1
  have hP : va_P D cls_ (((wU cA au (am 0) (at2 0) (nI n) (nI la) ic (nI T.length) sa ip tk) ++ ((wq_ cA am um) ++ ((wq_ cA at2 ut) ++ (va_pl L9 f)))) ++ (wM cA ay (nI n) (nI la) nu ki th ot vs av pl ps (nI T.length) ts fr bk ce co ro le dn un)) H := hP
  have hD : va_D (fun q => s.heap.size ≤ q) (((wU cA au (am 0) (at2 0) (nI n) (nI la) ic (nI T.length) sa ip tk) ++ ((wq_ cA am um) ++ ((wq_ cA at2 ut) ++ (va_pl L9 f)))) ++ (wM cA ay (nI n) (nI la) nu ki th ot vs av pl ps (nI T.length) ts fr bk ce co ro le dn un)) := hD
  refine lv_aload_n hx hb d_L_law_592 rfl (lv_at hl 1 rfl) ?_
  refine mu_i (w := ((wU cA au (am 0) (at2 0) (nI n) (nI la) ic (nI T.length) sa ip tk) ++ ((wq_ cA am um) ++ ((wq_ cA at2 ut) ++ (va_pl L9 f))))) (wr := (wM cA ay (nI n) (nI la) nu ki th ot vs av pl ps (nI T.length) ts fr bk ce co ro le dn un)) (va_runV (C := RU) (As := []) (rest := []) ⟨hx, hb, hml, hown, hg⟩ (m_U_squash l D cA H.size au am at2 ic sa ip tk um ut L9 f hs ac n la T  hU hla9) (cwV 0 hg (gd_V ml_L_78 im_U_squash sl_U_squash ini_U cd_U_squash) rfl rfl rfl (by decide +kernel) ⟨Nat.le_of_ble_eq_true rfl, Nat.le_of_ble_eq_true rfl⟩) (pv_m (va_recv (q0 := 0) (ci := 2) hK hP rfl rfl) (wp_l hP) hK hN (wd_l hD)) rfl rfl hl.1 rfl (lv_room (Nat.le_of_ble_eq_true rfl)) d_L_law_593 ⟨(show 42 + 2 * t + 0 ≤ 600000 by omega), (show 12098 + 47 * t + 0 ≤ 7302250 by omega)⟩) hP hD hS (fun q h => h) (fun r1 u1 H locs hp1 hP hD hS => ?_)
  refine lv_aload_n hx hb d_L_law_596 rfl (lv_at hl 2 rfl) ?_
  have hP := wp_pm List.perm_append_comm hP
  have hD := wd_pm List.perm_append_comm hD
  refine mu_i (w := (wM cA ay (nI n) (nI la) nu ki th ot vs av pl ps (nI T.length) ts fr bk ce co ro le dn un)) (wr := wX cA au (sp_squash (hs, ac, n, la, T)).2 u1) (va_runV (C := RM) (As := []) (rest := [.int r1]) ⟨hx, hb, hml, hown, hg⟩ (m_M_squash l D cA H.size ay nu ki th ot vs av pl ps ts fr bk ce co ro le dn un hs ac n la T  hM hU.1 hla9) (cwV 0 hg (gd_V ml_L_81 im_M_squash sl_M_squash ini_M cd_M_squash) rfl rfl rfl (by decide +kernel) ⟨Nat.le_of_ble_eq_true rfl, Nat.le_of_ble_eq_true rfl⟩) (pv_m (va_recv (q0 := 0) (ci := 3) hK hP rfl rfl) (wp_l hP) hK hN (wd_l hD)) rfl rfl hl.1 rfl (lv_room (Nat.le_of_ble_eq_true rfl)) d_L_law_597 ⟨(show 42 + 2 * t + 0 + 0 ≤ 600000 by omega), (show 12098 + 47 * t + 0 + 0 ≤ 7302250 by omega)⟩) hP hD hS (fun q h => h) (fun r2 u2 H locs hp2 hP hD hS => ?_)
  have hP := wp_pm List.perm_append_comm hP
  have hD := wd_pm List.perm_append_comm hD
  refine lv_icmp_eq (tgt := 833) hx hb d_L_law_600 (by decide) (fun h600 => ?_) (fun h600 => ?_)
  · skip
    refine W.widen (k := 42 + 2 * (t + 1)) (n := 12098 + 47 * (t + 1)) (by omega) (by omega) ?_
    exact kk ((sp_squash (hs, ac, n, la, T)).2) u1 u2 H locs (Nat.le_trans (Nat.le_succ _) (Nat.succ_le_succ hla)) ⟨hP, hD, hS, hp1.2, hp2.2⟩
  · skip
    exact absurd (hp1.1.trans hp2.1.symm) h600
