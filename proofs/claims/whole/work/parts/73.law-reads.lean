/-! The law: one reading call of both -/
set_option maxHeartbeats 4000000 in
set_option maxRecDepth 100000 in
theorem lc_active {p : Program} {l : Launch} {e : Env} {s : State} {m : MethodId} {below : List Frame} {meth : Method} {c : Code} {b L : Nat} {xs : Nat → Int32} {D : va_G} {cA : Nat → ClassId} {np : Nat} {au ay : Nat → Nat} {a : ab_T} {cu : uc_T} {cm : mc_T} {H : Heap} {locs : List Loc} {ls : Array Slot} {t : Nat} {Q : State → Prop} (C : LC p s m c b L xs D cA np) (hL : L ≤ 2048) (ht : 4 * t + 4 ≤ L) (hla : a.2.2.2.1 ≤ t) (hI : LI s D cA au ay a cu cm H locs) (hl : lv_has ls 4 [(0, .ref b), (1, .ref (au 0)), (2, .ref (ay 0)), (3, .int (nI (4 * t)))])
    (kk : ∀ (a : ab_T) (cu : uc_T) (cm : mc_T) (H : Heap) (locs : List Loc), a.2.2.2.1 ≤ t + 1 → LI s D cA au ay a cu cm H locs → W p l e room_1 s m #[Value.ref b] below meth c H locs (42 + 2 * (t + 1)) (12098 + 47 * (t + 1)) Q (F0 m 833 ls [])) : W p l e room_1 s m #[Value.ref b] below meth c H locs (42 + 2 * t) (12098 + 47 * t) Q (F0 m 605 ls []) := by
  obtain ⟨hx, hb, hml, hown, hg, hX, hbl, hK, hN, hZ0⟩ := C
  obtain ⟨hP, hD, hS, hU, hM⟩ := hI
  obtain ⟨hs, ac, n, la, T⟩ := a
  obtain ⟨am, at2, ic, sa, ip, tk, um, ut, L9, f⟩ := cu
  obtain ⟨nu, ki, th, ot, vs, av, pl, ps, ts, fr, bk, ce, co, ro, le, dn, un⟩ := cm
  have hla : la ≤ t := hla
  have hla9 : la + 1 < 100000 := by omega
  have hH : hi_ hs n la := hU.1.1
  have hP : va_P D cls_ (((wU cA au (am 0) (at2 0) (nI n) (nI la) ic (nI T.length) sa ip tk) ++ ((wq_ cA am um) ++ ((wq_ cA at2 ut) ++ (va_pl L9 f)))) ++ (wM cA ay (nI n) (nI la) nu ki th ot vs av pl ps (nI T.length) ts fr bk ce co ro le dn un)) H := hP
  have hD : va_D (fun q => s.heap.size ≤ q) (((wU cA au (am 0) (at2 0) (nI n) (nI la) ic (nI T.length) sa ip tk) ++ ((wq_ cA am um) ++ ((wq_ cA at2 ut) ++ (va_pl L9 f)))) ++ (wM cA ay (nI n) (nI la) nu ki th ot vs av pl ps (nI T.length) ts fr bk ce co ro le dn un)) := hD
  refine lv_aload_n hx hb d_L_law_605 rfl (lv_at hl 1 rfl) ?_
  refine lv_aload_n hx hb d_L_law_606 rfl (lv_at hl 0 rfl) ?_
  refine lv_iload_n hx hb d_L_law_607 rfl (lv_at hl 3 rfl) ?_
  refine lv_iconst (v := 1) hx hb d_L_law_608 (by decide) ?_
  refine lv_iadd hx hb d_L_law_609 ?_
  refine toi_ (y := nI (4 * t + 1)) (nI_1 _) ?_
  refine va_sld hx hb hX hbl (Nat.not_le.mpr hbl) hS (vp_in_nI (n := 4 * t + 1) (N := L) (by omega) (by omega)) d_L_law_610 ?_
  refine toi_ (y := xs (4 * t + 1)) (by rw [nI_clamp (by omega)]) ?_
  refine vp_callSi (va_Run.run (va_runV (C := RU) (As := [.int (xs (4 * t + 1))]) (rest := []) ⟨hx, hb, hml, hown, hg⟩ (m_U_active l D cA au am at2 ic (nI T.length) sa ip tk um ut L9 f hs ac n la (xs (4 * t + 1)) hU.2.1 hH.1) (cwV 1 hg (gd_V ml_L_82 im_U_active sl_U_active ini_U cd_U_active) rfl rfl rfl (by decide +kernel) ⟨Nat.le_of_ble_eq_true rfl, Nat.le_of_ble_eq_true rfl⟩) (pv_r (va_recv (q0 := 0) (ci := 2) hK hP rfl rfl) (wp_l hP) hK hN) rfl rfl hl.1 rfl (lv_room (Nat.le_of_ble_eq_true rfl)) d_L_law_611 ⟨(show 42 + 2 * t + 0 ≤ 600000 by omega), (show 12098 + 47 * t + 0 ≤ 7302250 by omega)⟩)) (fun r1 e1 => ?_)
  subst e1
  refine lv_aload_n hx hb d_L_law_614 rfl (lv_at hl 2 rfl) ?_
  refine lv_aload_n hx hb d_L_law_615 rfl (lv_at hl 0 rfl) ?_
  refine lv_iload_n hx hb d_L_law_616 rfl (lv_at hl 3 rfl) ?_
  refine lv_iconst (v := 1) hx hb d_L_law_617 (by decide) ?_
  refine lv_iadd hx hb d_L_law_618 ?_
  refine toi_ (y := nI (4 * t + 1)) (nI_1 _) ?_
  refine va_sld hx hb hX hbl (Nat.not_le.mpr hbl) hS (vp_in_nI (n := 4 * t + 1) (N := L) (by omega) (by omega)) d_L_law_619 ?_
  refine toi_ (y := xs (4 * t + 1)) (by rw [nI_clamp (by omega)]) ?_
  have hP := wp_pm List.perm_append_comm hP
  have hD := wd_pm List.perm_append_comm hD
  refine vp_callSi (va_Run.run (va_runV (C := RM) (As := [.int (xs (4 * t + 1))]) (rest := [.int (sp_active hs ac n (xs (4 * t + 1)))]) ⟨hx, hb, hml, hown, hg⟩ (m_M_active l D cA ay nu ki th ot vs av pl ps ts fr bk ce co ro le dn un hs ac n la T (xs (4 * t + 1)) hM hU.1) (cwV 1 hg (gd_V ml_L_85 im_M_active sl_M_active ini_M cd_M_active) rfl rfl rfl (by decide +kernel) ⟨Nat.le_of_ble_eq_true rfl, Nat.le_of_ble_eq_true rfl⟩) (pv_r (va_recv (q0 := 0) (ci := 3) hK hP rfl rfl) (wp_l hP) hK hN) rfl rfl hl.1 rfl (lv_room (Nat.le_of_ble_eq_true rfl)) d_L_law_620 ⟨(show 42 + 2 * t + 0 ≤ 600000 by omega), (show 12098 + 47 * t + 0 ≤ 7302250 by omega)⟩)) (fun r2 e2 => ?_)
  subst e2
  have hP := wp_pm List.perm_append_comm hP
  have hD := wd_pm List.perm_append_comm hD
  refine lv_icmp_eq (tgt := 833) hx hb d_L_law_623 (by decide) (fun h623 => ?_) (fun h623 => ?_)
  · skip
    refine W.widen (k := 42 + 2 * (t + 1)) (n := 12098 + 47 * (t + 1)) (by omega) (by omega) ?_
    exact kk (hs, ac, n, la, T) (am, at2, ic, sa, ip, tk, um, ut, L9, f) (nu, ki, th, ot, vs, av, pl, ps, ts, fr, bk, ce, co, ro, le, dn, un) H locs (Nat.le_trans hla (Nat.le_succ t)) ⟨hP, hD, hS, hU, hM⟩
  · skip
    exact absurd (rfl) h623

set_option maxHeartbeats 4000000 in
set_option maxRecDepth 100000 in
theorem lc_count {p : Program} {l : Launch} {e : Env} {s : State} {m : MethodId} {below : List Frame} {meth : Method} {c : Code} {b L : Nat} {xs : Nat → Int32} {D : va_G} {cA : Nat → ClassId} {np : Nat} {au ay : Nat → Nat} {a : ab_T} {cu : uc_T} {cm : mc_T} {H : Heap} {locs : List Loc} {ls : Array Slot} {t : Nat} {Q : State → Prop} (C : LC p s m c b L xs D cA np) (hL : L ≤ 2048) (ht : 4 * t + 4 ≤ L) (hla : a.2.2.2.1 ≤ t) (hI : LI s D cA au ay a cu cm H locs) (hl : lv_has ls 4 [(0, .ref b), (1, .ref (au 0)), (2, .ref (ay 0)), (3, .int (nI (4 * t)))])
    (kk : ∀ (a : ab_T) (cu : uc_T) (cm : mc_T) (H : Heap) (locs : List Loc), a.2.2.2.1 ≤ t + 1 → LI s D cA au ay a cu cm H locs → W p l e room_1 s m #[Value.ref b] below meth c H locs (42 + 2 * (t + 1)) (12098 + 47 * (t + 1)) Q (F0 m 833 ls [])) : W p l e room_1 s m #[Value.ref b] below meth c H locs (42 + 2 * t) (12098 + 47 * t) Q (F0 m 628 ls []) := by
  obtain ⟨hx, hb, hml, hown, hg, hX, hbl, hK, hN, hZ0⟩ := C
  obtain ⟨hP, hD, hS, hU, hM⟩ := hI
  obtain ⟨hs, ac, n, la, T⟩ := a
  obtain ⟨am, at2, ic, sa, ip, tk, um, ut, L9, f⟩ := cu
  obtain ⟨nu, ki, th, ot, vs, av, pl, ps, ts, fr, bk, ce, co, ro, le, dn, un⟩ := cm
  have hla : la ≤ t := hla
  have hla9 : la + 1 < 100000 := by omega
  have hH : hi_ hs n la := hU.1.1
  have hP : va_P D cls_ (((wU cA au (am 0) (at2 0) (nI n) (nI la) ic (nI T.length) sa ip tk) ++ ((wq_ cA am um) ++ ((wq_ cA at2 ut) ++ (va_pl L9 f)))) ++ (wM cA ay (nI n) (nI la) nu ki th ot vs av pl ps (nI T.length) ts fr bk ce co ro le dn un)) H := hP
  have hD : va_D (fun q => s.heap.size ≤ q) (((wU cA au (am 0) (at2 0) (nI n) (nI la) ic (nI T.length) sa ip tk) ++ ((wq_ cA am um) ++ ((wq_ cA at2 ut) ++ (va_pl L9 f)))) ++ (wM cA ay (nI n) (nI la) nu ki th ot vs av pl ps (nI T.length) ts fr bk ce co ro le dn un)) := hD
  refine lv_aload_n hx hb d_L_law_628 rfl (lv_at hl 1 rfl) ?_
  refine lv_aload_n hx hb d_L_law_629 rfl (lv_at hl 0 rfl) ?_
  refine lv_iload_n hx hb d_L_law_630 rfl (lv_at hl 3 rfl) ?_
  refine lv_iconst (v := 1) hx hb d_L_law_631 (by decide) ?_
  refine lv_iadd hx hb d_L_law_632 ?_
  refine toi_ (y := nI (4 * t + 1)) (nI_1 _) ?_
  refine va_sld hx hb hX hbl (Nat.not_le.mpr hbl) hS (vp_in_nI (n := 4 * t + 1) (N := L) (by omega) (by omega)) d_L_law_633 ?_
  refine toi_ (y := xs (4 * t + 1)) (by rw [nI_clamp (by omega)]) ?_
  refine vp_callSi (va_Run.run (va_runV (C := RU) (As := [.int (xs (4 * t + 1))]) (rest := []) ⟨hx, hb, hml, hown, hg⟩ (m_U_count l D cA au am at2 ic (nI T.length) sa ip tk um ut L9 f hs ac n la (xs (4 * t + 1)) hU.2.1 hH.1) (cwV 1 hg (gd_V ml_L_86 im_U_count sl_U_count ini_U cd_U_count) rfl rfl rfl (by decide +kernel) ⟨Nat.le_of_ble_eq_true rfl, Nat.le_of_ble_eq_true rfl⟩) (pv_r (va_recv (q0 := 0) (ci := 2) hK hP rfl rfl) (wp_l hP) hK hN) rfl rfl hl.1 rfl (lv_room (Nat.le_of_ble_eq_true rfl)) d_L_law_634 ⟨(show 42 + 2 * t + 0 ≤ 600000 by omega), (show 12098 + 47 * t + 0 ≤ 7302250 by omega)⟩)) (fun r1 e1 => ?_)
  subst e1
  refine lv_aload_n hx hb d_L_law_637 rfl (lv_at hl 2 rfl) ?_
  refine lv_aload_n hx hb d_L_law_638 rfl (lv_at hl 0 rfl) ?_
  refine lv_iload_n hx hb d_L_law_639 rfl (lv_at hl 3 rfl) ?_
  refine lv_iconst (v := 1) hx hb d_L_law_640 (by decide) ?_
  refine lv_iadd hx hb d_L_law_641 ?_
  refine toi_ (y := nI (4 * t + 1)) (nI_1 _) ?_
  refine va_sld hx hb hX hbl (Nat.not_le.mpr hbl) hS (vp_in_nI (n := 4 * t + 1) (N := L) (by omega) (by omega)) d_L_law_642 ?_
  refine toi_ (y := xs (4 * t + 1)) (by rw [nI_clamp (by omega)]) ?_
  have hP := wp_pm List.perm_append_comm hP
  have hD := wd_pm List.perm_append_comm hD
  refine vp_callSi (va_Run.run (va_runV (C := RM) (As := [.int (xs (4 * t + 1))]) (rest := [.int (sp_count ac n la (xs (4 * t + 1)))]) ⟨hx, hb, hml, hown, hg⟩ (m_M_count l D cA ay nu ki th ot vs av pl ps ts fr bk ce co ro le dn un hs ac n la T (xs (4 * t + 1)) hM hU.1) (cwV 1 hg (gd_V ml_L_89 im_M_count sl_M_count ini_M cd_M_count) rfl rfl rfl (by decide +kernel) ⟨Nat.le_of_ble_eq_true rfl, Nat.le_of_ble_eq_true rfl⟩) (pv_r (va_recv (q0 := 0) (ci := 3) hK hP rfl rfl) (wp_l hP) hK hN) rfl rfl hl.1 rfl (lv_room (Nat.le_of_ble_eq_true rfl)) d_L_law_643 ⟨(show 42 + 2 * t + 0 ≤ 600000 by omega), (show 12098 + 47 * t + 0 ≤ 7302250 by omega)⟩)) (fun r2 e2 => ?_)
  subst e2
  have hP := wp_pm List.perm_append_comm hP
  have hD := wd_pm List.perm_append_comm hD
  refine lv_icmp_eq (tgt := 833) hx hb d_L_law_646 (by decide) (fun h646 => ?_) (fun h646 => ?_)
  · skip
    refine W.widen (k := 42 + 2 * (t + 1)) (n := 12098 + 47 * (t + 1)) (by omega) (by omega) ?_
    exact kk (hs, ac, n, la, T) (am, at2, ic, sa, ip, tk, um, ut, L9, f) (nu, ki, th, ot, vs, av, pl, ps, ts, fr, bk, ce, co, ro, le, dn, un) H locs (Nat.le_trans hla (Nat.le_succ t)) ⟨hP, hD, hS, hU, hM⟩
  · skip
    exact absurd (rfl) h646

set_option maxHeartbeats 4000000 in
set_option maxRecDepth 100000 in
theorem lc_history {p : Program} {l : Launch} {e : Env} {s : State} {m : MethodId} {below : List Frame} {meth : Method} {c : Code} {b L : Nat} {xs : Nat → Int32} {D : va_G} {cA : Nat → ClassId} {np : Nat} {au ay : Nat → Nat} {a : ab_T} {cu : uc_T} {cm : mc_T} {H : Heap} {locs : List Loc} {ls : Array Slot} {t : Nat} {Q : State → Prop} (C : LC p s m c b L xs D cA np) (hL : L ≤ 2048) (ht : 4 * t + 4 ≤ L) (hla : a.2.2.2.1 ≤ t) (hI : LI s D cA au ay a cu cm H locs) (hl : lv_has ls 4 [(0, .ref b), (1, .ref (au 0)), (2, .ref (ay 0)), (3, .int (nI (4 * t)))])
    (kk : ∀ (a : ab_T) (cu : uc_T) (cm : mc_T) (H : Heap) (locs : List Loc), a.2.2.2.1 ≤ t + 1 → LI s D cA au ay a cu cm H locs → W p l e room_1 s m #[Value.ref b] below meth c H locs (42 + 2 * (t + 1)) (12098 + 47 * (t + 1)) Q (F0 m 833 ls [])) : W p l e room_1 s m #[Value.ref b] below meth c H locs (42 + 2 * t) (12098 + 47 * t) Q (F0 m 651 ls []) := by
  obtain ⟨hx, hb, hml, hown, hg, hX, hbl, hK, hN, hZ0⟩ := C
  obtain ⟨hP, hD, hS, hU, hM⟩ := hI
  obtain ⟨hs, ac, n, la, T⟩ := a
  obtain ⟨am, at2, ic, sa, ip, tk, um, ut, L9, f⟩ := cu
  obtain ⟨nu, ki, th, ot, vs, av, pl, ps, ts, fr, bk, ce, co, ro, le, dn, un⟩ := cm
  have hla : la ≤ t := hla
  have hla9 : la + 1 < 100000 := by omega
  have hH : hi_ hs n la := hU.1.1
  have hP : va_P D cls_ (((wU cA au (am 0) (at2 0) (nI n) (nI la) ic (nI T.length) sa ip tk) ++ ((wq_ cA am um) ++ ((wq_ cA at2 ut) ++ (va_pl L9 f)))) ++ (wM cA ay (nI n) (nI la) nu ki th ot vs av pl ps (nI T.length) ts fr bk ce co ro le dn un)) H := hP
  have hD : va_D (fun q => s.heap.size ≤ q) (((wU cA au (am 0) (at2 0) (nI n) (nI la) ic (nI T.length) sa ip tk) ++ ((wq_ cA am um) ++ ((wq_ cA at2 ut) ++ (va_pl L9 f)))) ++ (wM cA ay (nI n) (nI la) nu ki th ot vs av pl ps (nI T.length) ts fr bk ce co ro le dn un)) := hD
  refine lv_aload_n hx hb d_L_law_651 rfl (lv_at hl 1 rfl) ?_
  refine lv_aload_n hx hb d_L_law_652 rfl (lv_at hl 0 rfl) ?_
  refine lv_iload_n hx hb d_L_law_653 rfl (lv_at hl 3 rfl) ?_
  refine lv_iconst (v := 1) hx hb d_L_law_654 (by decide) ?_
  refine lv_iadd hx hb d_L_law_655 ?_
  refine toi_ (y := nI (4 * t + 1)) (nI_1 _) ?_
  refine va_sld hx hb hX hbl (Nat.not_le.mpr hbl) hS (vp_in_nI (n := 4 * t + 1) (N := L) (by omega) (by omega)) d_L_law_656 ?_
  refine toi_ (y := xs (4 * t + 1)) (by rw [nI_clamp (by omega)]) ?_
  refine lv_aload_n hx hb d_L_law_657 rfl (lv_at hl 0 rfl) ?_
  refine lv_iload_n hx hb d_L_law_658 rfl (lv_at hl 3 rfl) ?_
  refine lv_iconst (v := 2) hx hb d_L_law_659 (by decide) ?_
  refine lv_iadd hx hb d_L_law_660 ?_
  refine toi_ (y := nI (4 * t + 2)) (nI_p2 _) ?_
  refine va_sld hx hb hX hbl (Nat.not_le.mpr hbl) hS (vp_in_nI (n := 4 * t + 2) (N := L) (by omega) (by omega)) d_L_law_661 ?_
  refine toi_ (y := xs (4 * t + 2)) (by rw [nI_clamp (by omega)]) ?_
  refine vp_callSi (va_Run.run (va_runV (C := RU) (As := [.int (xs (4 * t + 1)), .int (xs (4 * t + 2))]) (rest := []) ⟨hx, hb, hml, hown, hg⟩ (m_U_history l D cA au am at2 ic (nI T.length) sa ip tk um ut L9 f hs ac n la (xs (4 * t + 1)) (xs (4 * t + 2)) hU.2.1 hH.1) (cwV 2 hg (gd_V ml_L_90 im_U_history sl_U_history ini_U cd_U_history) rfl rfl rfl (by decide +kernel) ⟨Nat.le_of_ble_eq_true rfl, Nat.le_of_ble_eq_true rfl⟩) (pv_r (va_recv (q0 := 0) (ci := 2) hK hP rfl rfl) (wp_l hP) hK hN) rfl rfl hl.1 rfl (lv_room (Nat.le_of_ble_eq_true rfl)) d_L_law_662 ⟨(show 42 + 2 * t + 0 ≤ 600000 by omega), (show 12098 + 47 * t + 0 ≤ 7302250 by omega)⟩)) (fun r1 e1 => ?_)
  subst e1
  refine lv_aload_n hx hb d_L_law_665 rfl (lv_at hl 2 rfl) ?_
  refine lv_aload_n hx hb d_L_law_666 rfl (lv_at hl 0 rfl) ?_
  refine lv_iload_n hx hb d_L_law_667 rfl (lv_at hl 3 rfl) ?_
  refine lv_iconst (v := 1) hx hb d_L_law_668 (by decide) ?_
  refine lv_iadd hx hb d_L_law_669 ?_
  refine toi_ (y := nI (4 * t + 1)) (nI_1 _) ?_
  refine va_sld hx hb hX hbl (Nat.not_le.mpr hbl) hS (vp_in_nI (n := 4 * t + 1) (N := L) (by omega) (by omega)) d_L_law_670 ?_
  refine toi_ (y := xs (4 * t + 1)) (by rw [nI_clamp (by omega)]) ?_
  refine lv_aload_n hx hb d_L_law_671 rfl (lv_at hl 0 rfl) ?_
  refine lv_iload_n hx hb d_L_law_672 rfl (lv_at hl 3 rfl) ?_
  refine lv_iconst (v := 2) hx hb d_L_law_673 (by decide) ?_
  refine lv_iadd hx hb d_L_law_674 ?_
  refine toi_ (y := nI (4 * t + 2)) (nI_p2 _) ?_
  refine va_sld hx hb hX hbl (Nat.not_le.mpr hbl) hS (vp_in_nI (n := 4 * t + 2) (N := L) (by omega) (by omega)) d_L_law_675 ?_
  refine toi_ (y := xs (4 * t + 2)) (by rw [nI_clamp (by omega)]) ?_
  have hP := wp_pm List.perm_append_comm hP
  have hD := wd_pm List.perm_append_comm hD
  refine vp_callSi (va_Run.run (va_runV (C := RM) (As := [.int (xs (4 * t + 1)), .int (xs (4 * t + 2))]) (rest := [.int (sp_hist hs n (xs (4 * t + 1)) (xs (4 * t + 2)))]) ⟨hx, hb, hml, hown, hg⟩ (m_M_history l D cA ay nu ki th ot vs av pl ps ts fr bk ce co ro le dn un hs ac n la T (xs (4 * t + 1)) (xs (4 * t + 2)) hM hU.1) (cwV 2 hg (gd_V ml_L_93 im_M_history sl_M_history ini_M cd_M_history) rfl rfl rfl (by decide +kernel) ⟨Nat.le_of_ble_eq_true rfl, Nat.le_of_ble_eq_true rfl⟩) (pv_r (va_recv (q0 := 0) (ci := 3) hK hP rfl rfl) (wp_l hP) hK hN) rfl rfl hl.1 rfl (lv_room (Nat.le_of_ble_eq_true rfl)) d_L_law_676 ⟨(show 42 + 2 * t + 0 ≤ 600000 by omega), (show 12098 + 47 * t + 0 ≤ 7302250 by omega)⟩)) (fun r2 e2 => ?_)
  subst e2
  have hP := wp_pm List.perm_append_comm hP
  have hD := wd_pm List.perm_append_comm hD
  refine lv_icmp_eq (tgt := 833) hx hb d_L_law_679 (by decide) (fun h679 => ?_) (fun h679 => ?_)
  · skip
    refine W.widen (k := 42 + 2 * (t + 1)) (n := 12098 + 47 * (t + 1)) (by omega) (by omega) ?_
    exact kk (hs, ac, n, la, T) (am, at2, ic, sa, ip, tk, um, ut, L9, f) (nu, ki, th, ot, vs, av, pl, ps, ts, fr, bk, ce, co, ro, le, dn, un) H locs (Nat.le_trans hla (Nat.le_succ t)) ⟨hP, hD, hS, hU, hM⟩
  · skip
    exact absurd (rfl) h679

set_option maxHeartbeats 4000000 in
set_option maxRecDepth 100000 in
theorem lc_cell {p : Program} {l : Launch} {e : Env} {s : State} {m : MethodId} {below : List Frame} {meth : Method} {c : Code} {b L : Nat} {xs : Nat → Int32} {D : va_G} {cA : Nat → ClassId} {np : Nat} {au ay : Nat → Nat} {a : ab_T} {cu : uc_T} {cm : mc_T} {H : Heap} {locs : List Loc} {ls : Array Slot} {t : Nat} {Q : State → Prop} (C : LC p s m c b L xs D cA np) (hL : L ≤ 2048) (ht : 4 * t + 4 ≤ L) (hla : a.2.2.2.1 ≤ t) (hI : LI s D cA au ay a cu cm H locs) (hl : lv_has ls 4 [(0, .ref b), (1, .ref (au 0)), (2, .ref (ay 0)), (3, .int (nI (4 * t)))])
    (kk : ∀ (a : ab_T) (cu : uc_T) (cm : mc_T) (H : Heap) (locs : List Loc), a.2.2.2.1 ≤ t + 1 → LI s D cA au ay a cu cm H locs → W p l e room_1 s m #[Value.ref b] below meth c H locs (42 + 2 * (t + 1)) (12098 + 47 * (t + 1)) Q (F0 m 833 ls [])) : W p l e room_1 s m #[Value.ref b] below meth c H locs (42 + 2 * t) (12098 + 47 * t) Q (F0 m 684 ls []) := by
  obtain ⟨hx, hb, hml, hown, hg, hX, hbl, hK, hN, hZ0⟩ := C
  obtain ⟨hP, hD, hS, hU, hM⟩ := hI
  obtain ⟨hs, ac, n, la, T⟩ := a
  obtain ⟨am, at2, ic, sa, ip, tk, um, ut, L9, f⟩ := cu
  obtain ⟨nu, ki, th, ot, vs, av, pl, ps, ts, fr, bk, ce, co, ro, le, dn, un⟩ := cm
  have hla : la ≤ t := hla
  have hla9 : la + 1 < 100000 := by omega
  have hH : hi_ hs n la := hU.1.1
  have hP : va_P D cls_ (((wU cA au (am 0) (at2 0) (nI n) (nI la) ic (nI T.length) sa ip tk) ++ ((wq_ cA am um) ++ ((wq_ cA at2 ut) ++ (va_pl L9 f)))) ++ (wM cA ay (nI n) (nI la) nu ki th ot vs av pl ps (nI T.length) ts fr bk ce co ro le dn un)) H := hP
  have hD : va_D (fun q => s.heap.size ≤ q) (((wU cA au (am 0) (at2 0) (nI n) (nI la) ic (nI T.length) sa ip tk) ++ ((wq_ cA am um) ++ ((wq_ cA at2 ut) ++ (va_pl L9 f)))) ++ (wM cA ay (nI n) (nI la) nu ki th ot vs av pl ps (nI T.length) ts fr bk ce co ro le dn un)) := hD
  refine lv_aload_n hx hb d_L_law_684 rfl (lv_at hl 1 rfl) ?_
  refine lv_aload_n hx hb d_L_law_685 rfl (lv_at hl 0 rfl) ?_
  refine lv_iload_n hx hb d_L_law_686 rfl (lv_at hl 3 rfl) ?_
  refine lv_iconst (v := 1) hx hb d_L_law_687 (by decide) ?_
  refine lv_iadd hx hb d_L_law_688 ?_
  refine toi_ (y := nI (4 * t + 1)) (nI_1 _) ?_
  refine va_sld hx hb hX hbl (Nat.not_le.mpr hbl) hS (vp_in_nI (n := 4 * t + 1) (N := L) (by omega) (by omega)) d_L_law_689 ?_
  refine toi_ (y := xs (4 * t + 1)) (by rw [nI_clamp (by omega)]) ?_
  refine vp_callSi (va_Run.run (va_runV (C := RU) (As := [.int (xs (4 * t + 1))]) (rest := []) ⟨hx, hb, hml, hown, hg⟩ (m_U_cell l D cA au am at2 ic (nI T.length) sa ip tk um ut L9 f hs ac n la (xs (4 * t + 1)) hU.2.2.1 (rp_mw hH ac (Nat.le_refl n))) (cwV 1 hg (gd_V ml_L_94 im_U_cell sl_U_cell ini_U cd_U_cell) rfl rfl rfl (by decide +kernel) ⟨Nat.le_of_ble_eq_true rfl, Nat.le_of_ble_eq_true rfl⟩) (pv_r (va_recv (q0 := 0) (ci := 2) hK hP rfl rfl) (wp_l hP) hK hN) rfl rfl hl.1 rfl (lv_room (Nat.le_of_ble_eq_true rfl)) d_L_law_690 ⟨(show 42 + 2 * t + 0 ≤ 600000 by omega), (show 12098 + 47 * t + 0 ≤ 7302250 by omega)⟩)) (fun r1 e1 => ?_)
  subst e1
  refine lv_aload_n hx hb d_L_law_693 rfl (lv_at hl 2 rfl) ?_
  refine lv_aload_n hx hb d_L_law_694 rfl (lv_at hl 0 rfl) ?_
  refine lv_iload_n hx hb d_L_law_695 rfl (lv_at hl 3 rfl) ?_
  refine lv_iconst (v := 1) hx hb d_L_law_696 (by decide) ?_
  refine lv_iadd hx hb d_L_law_697 ?_
  refine toi_ (y := nI (4 * t + 1)) (nI_1 _) ?_
  refine va_sld hx hb hX hbl (Nat.not_le.mpr hbl) hS (vp_in_nI (n := 4 * t + 1) (N := L) (by omega) (by omega)) d_L_law_698 ?_
  refine toi_ (y := xs (4 * t + 1)) (by rw [nI_clamp (by omega)]) ?_
  have hP := wp_pm List.perm_append_comm hP
  have hD := wd_pm List.perm_append_comm hD
  refine mu_i (w := (wM cA ay (nI n) (nI la) nu ki th ot vs av pl ps (nI T.length) ts fr bk ce co ro le dn un)) (wr := ((wU cA au (am 0) (at2 0) (nI n) (nI la) ic (nI T.length) sa ip tk) ++ ((wq_ cA am um) ++ ((wq_ cA at2 ut) ++ (va_pl L9 f))))) (va_runV (C := RM) (As := [.int (xs (4 * t + 1))]) (rest := [.int (sp_cell (rp_ hs ac n) (xs (4 * t + 1)))]) ⟨hx, hb, hml, hown, hg⟩ (m_M_cell l D cA H.size ay nu ki th ot vs av pl ps ts fr bk ce co ro le dn un hs ac n la T (xs (4 * t + 1)) hM hU.1) (cwV 1 hg (gd_V ml_L_97 im_M_cell sl_M_cell ini_M cd_M_cell) rfl rfl rfl (by decide +kernel) ⟨Nat.le_of_ble_eq_true rfl, Nat.le_of_ble_eq_true rfl⟩) (pv_m (va_recv (q0 := 0) (ci := 3) hK hP rfl rfl) (wp_l hP) hK hN (wd_l hD)) rfl rfl hl.1 rfl (lv_room (Nat.le_of_ble_eq_true rfl)) d_L_law_699 ⟨(show 42 + 2 * t + 0 ≤ 600000 by omega), (show 12098 + 47 * t + 0 ≤ 7302250 by omega)⟩) hP hD hS (fun q h => h) (fun r2 u2 H locs hp2 hP hD hS => ?_)
  have hP := wp_pm List.perm_append_comm hP
  have hD := wd_pm List.perm_append_comm hD
  refine lv_icmp_eq (tgt := 833) hx hb d_L_law_702 (by decide) (fun h702 => ?_) (fun h702 => ?_)
  · skip
    refine W.widen (k := 42 + 2 * (t + 1)) (n := 12098 + 47 * (t + 1)) (by omega) (by omega) ?_
    exact kk (hs, ac, n, la, T) (am, at2, ic, sa, ip, tk, um, ut, L9, f) u2 H locs (Nat.le_trans hla (Nat.le_succ t)) ⟨hP, hD, hS, hU, hp2.2⟩
  · skip
    exact absurd (hp2.1.symm) h702

set_option maxHeartbeats 4000000 in
set_option maxRecDepth 100000 in
theorem lc_counter {p : Program} {l : Launch} {e : Env} {s : State} {m : MethodId} {below : List Frame} {meth : Method} {c : Code} {b L : Nat} {xs : Nat → Int32} {D : va_G} {cA : Nat → ClassId} {np : Nat} {au ay : Nat → Nat} {a : ab_T} {cu : uc_T} {cm : mc_T} {H : Heap} {locs : List Loc} {ls : Array Slot} {t : Nat} {Q : State → Prop} (C : LC p s m c b L xs D cA np) (hL : L ≤ 2048) (ht : 4 * t + 4 ≤ L) (hla : a.2.2.2.1 ≤ t) (hI : LI s D cA au ay a cu cm H locs) (hl : lv_has ls 4 [(0, .ref b), (1, .ref (au 0)), (2, .ref (ay 0)), (3, .int (nI (4 * t)))])
    (kk : ∀ (a : ab_T) (cu : uc_T) (cm : mc_T) (H : Heap) (locs : List Loc), a.2.2.2.1 ≤ t + 1 → LI s D cA au ay a cu cm H locs → W p l e room_1 s m #[Value.ref b] below meth c H locs (42 + 2 * (t + 1)) (12098 + 47 * (t + 1)) Q (F0 m 833 ls [])) : W p l e room_1 s m #[Value.ref b] below meth c H locs (42 + 2 * t) (12098 + 47 * t) Q (F0 m 707 ls []) := by
  obtain ⟨hx, hb, hml, hown, hg, hX, hbl, hK, hN, hZ0⟩ := C
  obtain ⟨hP, hD, hS, hU, hM⟩ := hI
  obtain ⟨hs, ac, n, la, T⟩ := a
  obtain ⟨am, at2, ic, sa, ip, tk, um, ut, L9, f⟩ := cu
  obtain ⟨nu, ki, th, ot, vs, av, pl, ps, ts, fr, bk, ce, co, ro, le, dn, un⟩ := cm
  have hla : la ≤ t := hla
  have hla9 : la + 1 < 100000 := by omega
  have hH : hi_ hs n la := hU.1.1
  have hP : va_P D cls_ (((wU cA au (am 0) (at2 0) (nI n) (nI la) ic (nI T.length) sa ip tk) ++ ((wq_ cA am um) ++ ((wq_ cA at2 ut) ++ (va_pl L9 f)))) ++ (wM cA ay (nI n) (nI la) nu ki th ot vs av pl ps (nI T.length) ts fr bk ce co ro le dn un)) H := hP
  have hD : va_D (fun q => s.heap.size ≤ q) (((wU cA au (am 0) (at2 0) (nI n) (nI la) ic (nI T.length) sa ip tk) ++ ((wq_ cA am um) ++ ((wq_ cA at2 ut) ++ (va_pl L9 f)))) ++ (wM cA ay (nI n) (nI la) nu ki th ot vs av pl ps (nI T.length) ts fr bk ce co ro le dn un)) := hD
  refine lv_aload_n hx hb d_L_law_707 rfl (lv_at hl 1 rfl) ?_
  refine lv_aload_n hx hb d_L_law_708 rfl (lv_at hl 0 rfl) ?_
  refine lv_iload_n hx hb d_L_law_709 rfl (lv_at hl 3 rfl) ?_
  refine lv_iconst (v := 1) hx hb d_L_law_710 (by decide) ?_
  refine lv_iadd hx hb d_L_law_711 ?_
  refine toi_ (y := nI (4 * t + 1)) (nI_1 _) ?_
  refine va_sld hx hb hX hbl (Nat.not_le.mpr hbl) hS (vp_in_nI (n := 4 * t + 1) (N := L) (by omega) (by omega)) d_L_law_712 ?_
  refine toi_ (y := xs (4 * t + 1)) (by rw [nI_clamp (by omega)]) ?_
  refine vp_callSl (va_Run.run (va_runV (C := RU) (As := [.int (xs (4 * t + 1))]) (rest := []) ⟨hx, hb, hml, hown, hg⟩ (m_U_counter l D cA au am at2 ic (nI T.length) sa ip tk um ut L9 f hs ac n la (xs (4 * t + 1)) hU.2.2.1 (rp_mw hH ac (Nat.le_refl n))) (cwV 1 hg (gd_V ml_L_98 im_U_counter sl_U_counter ini_U cd_U_counter) rfl rfl rfl (by decide +kernel) ⟨Nat.le_of_ble_eq_true rfl, Nat.le_of_ble_eq_true rfl⟩) (pv_r (va_recv (q0 := 0) (ci := 2) hK hP rfl rfl) (wp_l hP) hK hN) rfl rfl hl.1 rfl (lv_room (Nat.le_of_ble_eq_true rfl)) d_L_law_713 ⟨(show 42 + 2 * t + 0 ≤ 600000 by omega), (show 12098 + 47 * t + 0 ≤ 7302250 by omega)⟩)) (fun r1 e1 => ?_)
  subst e1
  refine lv_aload_n hx hb d_L_law_716 rfl (lv_at hl 2 rfl) ?_
  refine lv_aload_n hx hb d_L_law_717 rfl (lv_at hl 0 rfl) ?_
  refine lv_iload_n hx hb d_L_law_718 rfl (lv_at hl 3 rfl) ?_
  refine lv_iconst (v := 1) hx hb d_L_law_719 (by decide) ?_
  refine lv_iadd hx hb d_L_law_720 ?_
  refine toi_ (y := nI (4 * t + 1)) (nI_1 _) ?_
  refine va_sld hx hb hX hbl (Nat.not_le.mpr hbl) hS (vp_in_nI (n := 4 * t + 1) (N := L) (by omega) (by omega)) d_L_law_721 ?_
  refine toi_ (y := xs (4 * t + 1)) (by rw [nI_clamp (by omega)]) ?_
  have hP := wp_pm List.perm_append_comm hP
  have hD := wd_pm List.perm_append_comm hD
  refine mu_l (w := (wM cA ay (nI n) (nI la) nu ki th ot vs av pl ps (nI T.length) ts fr bk ce co ro le dn un)) (wr := ((wU cA au (am 0) (at2 0) (nI n) (nI la) ic (nI T.length) sa ip tk) ++ ((wq_ cA am um) ++ ((wq_ cA at2 ut) ++ (va_pl L9 f))))) (va_runV (C := RM) (As := [.int (xs (4 * t + 1))]) (rest := [.long (sp_counter (rp_ hs ac n) (xs (4 * t + 1)))]) ⟨hx, hb, hml, hown, hg⟩ (m_M_counter l D cA H.size ay nu ki th ot vs av pl ps ts fr bk ce co ro le dn un hs ac n la T (xs (4 * t + 1)) hM hU.1) (cwV 1 hg (gd_V ml_L_102 im_M_counter sl_M_counter ini_M cd_M_counter) rfl rfl rfl (by decide +kernel) ⟨Nat.le_of_ble_eq_true rfl, Nat.le_of_ble_eq_true rfl⟩) (pv_m (va_recv (q0 := 0) (ci := 3) hK hP rfl rfl) (wp_l hP) hK hN (wd_l hD)) rfl rfl hl.1 rfl (lv_room (Nat.le_of_ble_eq_true rfl)) d_L_law_722 ⟨(show 42 + 2 * t + 0 ≤ 600000 by omega), (show 12098 + 47 * t + 0 ≤ 7302250 by omega)⟩) hP hD hS (fun q h => h) (fun r2 u2 H locs hp2 hP hD hS => ?_)
  have hP := wp_pm List.perm_append_comm hP
  have hD := wd_pm List.perm_append_comm hD
  refine W.lcmp hx hb d_L_law_725 ?_
  refine toi_ (y := 0) (by rw [show r2 = _ from hp2.1]; exact lg_same _) ?_
  refine lv_if_eq (tgt := 833) hx hb d_L_law_726 (by decide) (fun h726 => ?_) (fun h726 => ?_)
  · skip
    refine W.widen (k := 42 + 2 * (t + 1)) (n := 12098 + 47 * (t + 1)) (by omega) (by omega) ?_
    exact kk (hs, ac, n, la, T) (am, at2, ic, sa, ip, tk, um, ut, L9, f) u2 H locs (Nat.le_trans hla (Nat.le_succ t)) ⟨hP, hD, hS, hU, hp2.2⟩
  · skip
    exact absurd rfl h726

set_option maxHeartbeats 4000000 in
set_option maxRecDepth 100000 in
theorem lc_length {p : Program} {l : Launch} {e : Env} {s : State} {m : MethodId} {below : List Frame} {meth : Method} {c : Code} {b L : Nat} {xs : Nat → Int32} {D : va_G} {cA : Nat → ClassId} {np : Nat} {au ay : Nat → Nat} {a : ab_T} {cu : uc_T} {cm : mc_T} {H : Heap} {locs : List Loc} {ls : Array Slot} {t : Nat} {Q : State → Prop} (C : LC p s m c b L xs D cA np) (hL : L ≤ 2048) (ht : 4 * t + 4 ≤ L) (hla : a.2.2.2.1 ≤ t) (hI : LI s D cA au ay a cu cm H locs) (hl : lv_has ls 4 [(0, .ref b), (1, .ref (au 0)), (2, .ref (ay 0)), (3, .int (nI (4 * t)))])
    (kk : ∀ (a : ab_T) (cu : uc_T) (cm : mc_T) (H : Heap) (locs : List Loc), a.2.2.2.1 ≤ t + 1 → LI s D cA au ay a cu cm H locs → W p l e room_1 s m #[Value.ref b] below meth c H locs (42 + 2 * (t + 1)) (12098 + 47 * (t + 1)) Q (F0 m 833 ls [])) : W p l e room_1 s m #[Value.ref b] below meth c H locs (42 + 2 * t) (12098 + 47 * t) Q (F0 m 731 ls []) := by
  obtain ⟨hx, hb, hml, hown, hg, hX, hbl, hK, hN, hZ0⟩ := C
  obtain ⟨hP, hD, hS, hU, hM⟩ := hI
  obtain ⟨hs, ac, n, la, T⟩ := a
  obtain ⟨am, at2, ic, sa, ip, tk, um, ut, L9, f⟩ := cu
  obtain ⟨nu, ki, th, ot, vs, av, pl, ps, ts, fr, bk, ce, co, ro, le, dn, un⟩ := cm
  have hla : la ≤ t := hla
  have hla9 : la + 1 < 100000 := by omega
  have hH : hi_ hs n la := hU.1.1
  have hP : va_P D cls_ (((wU cA au (am 0) (at2 0) (nI n) (nI la) ic (nI T.length) sa ip tk) ++ ((wq_ cA am um) ++ ((wq_ cA at2 ut) ++ (va_pl L9 f)))) ++ (wM cA ay (nI n) (nI la) nu ki th ot vs av pl ps (nI T.length) ts fr bk ce co ro le dn un)) H := hP
  have hD : va_D (fun q => s.heap.size ≤ q) (((wU cA au (am 0) (at2 0) (nI n) (nI la) ic (nI T.length) sa ip tk) ++ ((wq_ cA am um) ++ ((wq_ cA at2 ut) ++ (va_pl L9 f)))) ++ (wM cA ay (nI n) (nI la) nu ki th ot vs av pl ps (nI T.length) ts fr bk ce co ro le dn un)) := hD
  refine lv_aload_n hx hb d_L_law_731 rfl (lv_at hl 1 rfl) ?_
  refine lv_aload_n hx hb d_L_law_732 rfl (lv_at hl 0 rfl) ?_
  refine lv_iload_n hx hb d_L_law_733 rfl (lv_at hl 3 rfl) ?_
  refine lv_iconst (v := 1) hx hb d_L_law_734 (by decide) ?_
  refine lv_iadd hx hb d_L_law_735 ?_
  refine toi_ (y := nI (4 * t + 1)) (nI_1 _) ?_
  refine va_sld hx hb hX hbl (Nat.not_le.mpr hbl) hS (vp_in_nI (n := 4 * t + 1) (N := L) (by omega) (by omega)) d_L_law_736 ?_
  refine toi_ (y := xs (4 * t + 1)) (by rw [nI_clamp (by omega)]) ?_
  refine vp_callSi (va_Run.run (va_runV (C := RU) (As := [.int (xs (4 * t + 1))]) (rest := []) ⟨hx, hb, hml, hown, hg⟩ (m_U_length l D cA au am at2 ic (nI T.length) sa ip tk um ut L9 f hs ac n la (xs (4 * t + 1)) hU.2.2.1 (rp_mw hH ac (Nat.le_refl n))) (cwV 1 hg (gd_V ml_L_103 im_U_length sl_U_length ini_U cd_U_length) rfl rfl rfl (by decide +kernel) ⟨Nat.le_of_ble_eq_true rfl, Nat.le_of_ble_eq_true rfl⟩) (pv_r (va_recv (q0 := 0) (ci := 2) hK hP rfl rfl) (wp_l hP) hK hN) rfl rfl hl.1 rfl (lv_room (Nat.le_of_ble_eq_true rfl)) d_L_law_737 ⟨(show 42 + 2 * t + 0 ≤ 600000 by omega), (show 12098 + 47 * t + 0 ≤ 7302250 by omega)⟩)) (fun r1 e1 => ?_)
  subst e1
  refine lv_aload_n hx hb d_L_law_740 rfl (lv_at hl 2 rfl) ?_
  refine lv_aload_n hx hb d_L_law_741 rfl (lv_at hl 0 rfl) ?_
  refine lv_iload_n hx hb d_L_law_742 rfl (lv_at hl 3 rfl) ?_
  refine lv_iconst (v := 1) hx hb d_L_law_743 (by decide) ?_
  refine lv_iadd hx hb d_L_law_744 ?_
  refine toi_ (y := nI (4 * t + 1)) (nI_1 _) ?_
  refine va_sld hx hb hX hbl (Nat.not_le.mpr hbl) hS (vp_in_nI (n := 4 * t + 1) (N := L) (by omega) (by omega)) d_L_law_745 ?_
  refine toi_ (y := xs (4 * t + 1)) (by rw [nI_clamp (by omega)]) ?_
  have hP := wp_pm List.perm_append_comm hP
  have hD := wd_pm List.perm_append_comm hD
  refine mu_i (w := (wM cA ay (nI n) (nI la) nu ki th ot vs av pl ps (nI T.length) ts fr bk ce co ro le dn un)) (wr := ((wU cA au (am 0) (at2 0) (nI n) (nI la) ic (nI T.length) sa ip tk) ++ ((wq_ cA am um) ++ ((wq_ cA at2 ut) ++ (va_pl L9 f))))) (va_runV (C := RM) (As := [.int (xs (4 * t + 1))]) (rest := [.int (sp_len (rp_ hs ac n) (xs (4 * t + 1)))]) ⟨hx, hb, hml, hown, hg⟩ (m_M_length l D cA H.size ay nu ki th ot vs av pl ps ts fr bk ce co ro le dn un hs ac n la T (xs (4 * t + 1)) hM hU.1) (cwV 1 hg (gd_V ml_L_106 im_M_length sl_M_length ini_M cd_M_length) rfl rfl rfl (by decide +kernel) ⟨Nat.le_of_ble_eq_true rfl, Nat.le_of_ble_eq_true rfl⟩) (pv_m (va_recv (q0 := 0) (ci := 3) hK hP rfl rfl) (wp_l hP) hK hN (wd_l hD)) rfl rfl hl.1 rfl (lv_room (Nat.le_of_ble_eq_true rfl)) d_L_law_746 ⟨(show 42 + 2 * t + 0 ≤ 600000 by omega), (show 12098 + 47 * t + 0 ≤ 7302250 by omega)⟩) hP hD hS (fun q h => h) (fun r2 u2 H locs hp2 hP hD hS => ?_)
  have hP := wp_pm List.perm_append_comm hP
  have hD := wd_pm List.perm_append_comm hD
  refine lv_icmp_eq (tgt := 833) hx hb d_L_law_749 (by decide) (fun h749 => ?_) (fun h749 => ?_)
  · skip
    refine W.widen (k := 42 + 2 * (t + 1)) (n := 12098 + 47 * (t + 1)) (by omega) (by omega) ?_
    exact kk (hs, ac, n, la, T) (am, at2, ic, sa, ip, tk, um, ut, L9, f) u2 H locs (Nat.le_trans hla (Nat.le_succ t)) ⟨hP, hD, hS, hU, hp2.2⟩
  · skip
    exact absurd (hp2.1.symm) h749

set_option maxHeartbeats 4000000 in
set_option maxRecDepth 100000 in
theorem lc_element {p : Program} {l : Launch} {e : Env} {s : State} {m : MethodId} {below : List Frame} {meth : Method} {c : Code} {b L : Nat} {xs : Nat → Int32} {D : va_G} {cA : Nat → ClassId} {np : Nat} {au ay : Nat → Nat} {a : ab_T} {cu : uc_T} {cm : mc_T} {H : Heap} {locs : List Loc} {ls : Array Slot} {t : Nat} {Q : State → Prop} (C : LC p s m c b L xs D cA np) (hL : L ≤ 2048) (ht : 4 * t + 4 ≤ L) (hla : a.2.2.2.1 ≤ t) (hI : LI s D cA au ay a cu cm H locs) (hl : lv_has ls 4 [(0, .ref b), (1, .ref (au 0)), (2, .ref (ay 0)), (3, .int (nI (4 * t)))])
    (kk : ∀ (a : ab_T) (cu : uc_T) (cm : mc_T) (H : Heap) (locs : List Loc), a.2.2.2.1 ≤ t + 1 → LI s D cA au ay a cu cm H locs → W p l e room_1 s m #[Value.ref b] below meth c H locs (42 + 2 * (t + 1)) (12098 + 47 * (t + 1)) Q (F0 m 833 ls [])) : W p l e room_1 s m #[Value.ref b] below meth c H locs (42 + 2 * t) (12098 + 47 * t) Q (F0 m 754 ls []) := by
  obtain ⟨hx, hb, hml, hown, hg, hX, hbl, hK, hN, hZ0⟩ := C
  obtain ⟨hP, hD, hS, hU, hM⟩ := hI
  obtain ⟨hs, ac, n, la, T⟩ := a
  obtain ⟨am, at2, ic, sa, ip, tk, um, ut, L9, f⟩ := cu
  obtain ⟨nu, ki, th, ot, vs, av, pl, ps, ts, fr, bk, ce, co, ro, le, dn, un⟩ := cm
  have hla : la ≤ t := hla
  have hla9 : la + 1 < 100000 := by omega
  have hH : hi_ hs n la := hU.1.1
  have hP : va_P D cls_ (((wU cA au (am 0) (at2 0) (nI n) (nI la) ic (nI T.length) sa ip tk) ++ ((wq_ cA am um) ++ ((wq_ cA at2 ut) ++ (va_pl L9 f)))) ++ (wM cA ay (nI n) (nI la) nu ki th ot vs av pl ps (nI T.length) ts fr bk ce co ro le dn un)) H := hP
  have hD : va_D (fun q => s.heap.size ≤ q) (((wU cA au (am 0) (at2 0) (nI n) (nI la) ic (nI T.length) sa ip tk) ++ ((wq_ cA am um) ++ ((wq_ cA at2 ut) ++ (va_pl L9 f)))) ++ (wM cA ay (nI n) (nI la) nu ki th ot vs av pl ps (nI T.length) ts fr bk ce co ro le dn un)) := hD
  refine lv_aload_n hx hb d_L_law_754 rfl (lv_at hl 1 rfl) ?_
  refine lv_aload_n hx hb d_L_law_755 rfl (lv_at hl 0 rfl) ?_
  refine lv_iload_n hx hb d_L_law_756 rfl (lv_at hl 3 rfl) ?_
  refine lv_iconst (v := 1) hx hb d_L_law_757 (by decide) ?_
  refine lv_iadd hx hb d_L_law_758 ?_
  refine toi_ (y := nI (4 * t + 1)) (nI_1 _) ?_
  refine va_sld hx hb hX hbl (Nat.not_le.mpr hbl) hS (vp_in_nI (n := 4 * t + 1) (N := L) (by omega) (by omega)) d_L_law_759 ?_
  refine toi_ (y := xs (4 * t + 1)) (by rw [nI_clamp (by omega)]) ?_
  refine lv_aload_n hx hb d_L_law_760 rfl (lv_at hl 0 rfl) ?_
  refine lv_iload_n hx hb d_L_law_761 rfl (lv_at hl 3 rfl) ?_
  refine lv_iconst (v := 2) hx hb d_L_law_762 (by decide) ?_
  refine lv_iadd hx hb d_L_law_763 ?_
  refine toi_ (y := nI (4 * t + 2)) (nI_p2 _) ?_
  refine va_sld hx hb hX hbl (Nat.not_le.mpr hbl) hS (vp_in_nI (n := 4 * t + 2) (N := L) (by omega) (by omega)) d_L_law_764 ?_
  refine toi_ (y := xs (4 * t + 2)) (by rw [nI_clamp (by omega)]) ?_
  refine vp_callSi (va_Run.run (va_runV (C := RU) (As := [.int (xs (4 * t + 1)), .int (xs (4 * t + 2))]) (rest := []) ⟨hx, hb, hml, hown, hg⟩ (m_U_element l D cA au am at2 ic (nI T.length) sa ip tk um ut L9 f hs ac n la (xs (4 * t + 1)) (xs (4 * t + 2)) hU.2.2.1 (rp_mw hH ac (Nat.le_refl n))) (cwV 2 hg (gd_V ml_L_107 im_U_element sl_U_element ini_U cd_U_element) rfl rfl rfl (by decide +kernel) ⟨Nat.le_of_ble_eq_true rfl, Nat.le_of_ble_eq_true rfl⟩) (pv_r (va_recv (q0 := 0) (ci := 2) hK hP rfl rfl) (wp_l hP) hK hN) rfl rfl hl.1 rfl (lv_room (Nat.le_of_ble_eq_true rfl)) d_L_law_765 ⟨(show 42 + 2 * t + 0 ≤ 600000 by omega), (show 12098 + 47 * t + 0 ≤ 7302250 by omega)⟩)) (fun r1 e1 => ?_)
  subst e1
  refine lv_aload_n hx hb d_L_law_768 rfl (lv_at hl 2 rfl) ?_
  refine lv_aload_n hx hb d_L_law_769 rfl (lv_at hl 0 rfl) ?_
  refine lv_iload_n hx hb d_L_law_770 rfl (lv_at hl 3 rfl) ?_
  refine lv_iconst (v := 1) hx hb d_L_law_771 (by decide) ?_
  refine lv_iadd hx hb d_L_law_772 ?_
  refine toi_ (y := nI (4 * t + 1)) (nI_1 _) ?_
  refine va_sld hx hb hX hbl (Nat.not_le.mpr hbl) hS (vp_in_nI (n := 4 * t + 1) (N := L) (by omega) (by omega)) d_L_law_773 ?_
  refine toi_ (y := xs (4 * t + 1)) (by rw [nI_clamp (by omega)]) ?_
  refine lv_aload_n hx hb d_L_law_774 rfl (lv_at hl 0 rfl) ?_
  refine lv_iload_n hx hb d_L_law_775 rfl (lv_at hl 3 rfl) ?_
  refine lv_iconst (v := 2) hx hb d_L_law_776 (by decide) ?_
  refine lv_iadd hx hb d_L_law_777 ?_
  refine toi_ (y := nI (4 * t + 2)) (nI_p2 _) ?_
  refine va_sld hx hb hX hbl (Nat.not_le.mpr hbl) hS (vp_in_nI (n := 4 * t + 2) (N := L) (by omega) (by omega)) d_L_law_778 ?_
  refine toi_ (y := xs (4 * t + 2)) (by rw [nI_clamp (by omega)]) ?_
  have hP := wp_pm List.perm_append_comm hP
  have hD := wd_pm List.perm_append_comm hD
  refine mu_i (w := (wM cA ay (nI n) (nI la) nu ki th ot vs av pl ps (nI T.length) ts fr bk ce co ro le dn un)) (wr := ((wU cA au (am 0) (at2 0) (nI n) (nI la) ic (nI T.length) sa ip tk) ++ ((wq_ cA am um) ++ ((wq_ cA at2 ut) ++ (va_pl L9 f))))) (va_runV (C := RM) (As := [.int (xs (4 * t + 1)), .int (xs (4 * t + 2))]) (rest := [.int (sp_elem (rp_ hs ac n) (xs (4 * t + 1)) (xs (4 * t + 2)))]) ⟨hx, hb, hml, hown, hg⟩ (m_M_element l D cA H.size ay nu ki th ot vs av pl ps ts fr bk ce co ro le dn un hs ac n la T (xs (4 * t + 1)) (xs (4 * t + 2)) hM hU.1) (cwV 2 hg (gd_V ml_L_110 im_M_element sl_M_element ini_M cd_M_element) rfl rfl rfl (by decide +kernel) ⟨Nat.le_of_ble_eq_true rfl, Nat.le_of_ble_eq_true rfl⟩) (pv_m (va_recv (q0 := 0) (ci := 3) hK hP rfl rfl) (wp_l hP) hK hN (wd_l hD)) rfl rfl hl.1 rfl (lv_room (Nat.le_of_ble_eq_true rfl)) d_L_law_779 ⟨(show 42 + 2 * t + 0 ≤ 600000 by omega), (show 12098 + 47 * t + 0 ≤ 7302250 by omega)⟩) hP hD hS (fun q h => h) (fun r2 u2 H locs hp2 hP hD hS => ?_)
  have hP := wp_pm List.perm_append_comm hP
  have hD := wd_pm List.perm_append_comm hD
  refine lv_icmp_eq (tgt := 833) hx hb d_L_law_782 (by decide) (fun h782 => ?_) (fun h782 => ?_)
  · skip
    refine W.widen (k := 42 + 2 * (t + 1)) (n := 12098 + 47 * (t + 1)) (by omega) (by omega) ?_
    exact kk (hs, ac, n, la, T) (am, at2, ic, sa, ip, tk, um, ut, L9, f) u2 H locs (Nat.le_trans hla (Nat.le_succ t)) ⟨hP, hD, hS, hU, hp2.2⟩
  · skip
    exact absurd (hp2.1.symm) h782

set_option maxHeartbeats 4000000 in
set_option maxRecDepth 100000 in
theorem lc_value {p : Program} {l : Launch} {e : Env} {s : State} {m : MethodId} {below : List Frame} {meth : Method} {c : Code} {b L : Nat} {xs : Nat → Int32} {D : va_G} {cA : Nat → ClassId} {np : Nat} {au ay : Nat → Nat} {a : ab_T} {cu : uc_T} {cm : mc_T} {H : Heap} {locs : List Loc} {ls : Array Slot} {t : Nat} {Q : State → Prop} (C : LC p s m c b L xs D cA np) (hL : L ≤ 2048) (ht : 4 * t + 4 ≤ L) (hla : a.2.2.2.1 ≤ t) (hI : LI s D cA au ay a cu cm H locs) (hl : lv_has ls 4 [(0, .ref b), (1, .ref (au 0)), (2, .ref (ay 0)), (3, .int (nI (4 * t)))])
    (kk : ∀ (a : ab_T) (cu : uc_T) (cm : mc_T) (H : Heap) (locs : List Loc), a.2.2.2.1 ≤ t + 1 → LI s D cA au ay a cu cm H locs → W p l e room_1 s m #[Value.ref b] below meth c H locs (42 + 2 * (t + 1)) (12098 + 47 * (t + 1)) Q (F0 m 833 ls [])) : W p l e room_1 s m #[Value.ref b] below meth c H locs (42 + 2 * t) (12098 + 47 * t) Q (F0 m 787 ls []) := by
  obtain ⟨hx, hb, hml, hown, hg, hX, hbl, hK, hN, hZ0⟩ := C
  obtain ⟨hP, hD, hS, hU, hM⟩ := hI
  obtain ⟨hs, ac, n, la, T⟩ := a
  obtain ⟨am, at2, ic, sa, ip, tk, um, ut, L9, f⟩ := cu
  obtain ⟨nu, ki, th, ot, vs, av, pl, ps, ts, fr, bk, ce, co, ro, le, dn, un⟩ := cm
  have hla : la ≤ t := hla
  have hla9 : la + 1 < 100000 := by omega
  have hH : hi_ hs n la := hU.1.1
  have hP : va_P D cls_ (((wU cA au (am 0) (at2 0) (nI n) (nI la) ic (nI T.length) sa ip tk) ++ ((wq_ cA am um) ++ ((wq_ cA at2 ut) ++ (va_pl L9 f)))) ++ (wM cA ay (nI n) (nI la) nu ki th ot vs av pl ps (nI T.length) ts fr bk ce co ro le dn un)) H := hP
  have hD : va_D (fun q => s.heap.size ≤ q) (((wU cA au (am 0) (at2 0) (nI n) (nI la) ic (nI T.length) sa ip tk) ++ ((wq_ cA am um) ++ ((wq_ cA at2 ut) ++ (va_pl L9 f)))) ++ (wM cA ay (nI n) (nI la) nu ki th ot vs av pl ps (nI T.length) ts fr bk ce co ro le dn un)) := hD
  refine lv_aload_n hx hb d_L_law_787 rfl (lv_at hl 1 rfl) ?_
  refine lv_aload_n hx hb d_L_law_788 rfl (lv_at hl 0 rfl) ?_
  refine lv_iload_n hx hb d_L_law_789 rfl (lv_at hl 3 rfl) ?_
  refine lv_iconst (v := 1) hx hb d_L_law_790 (by decide) ?_
  refine lv_iadd hx hb d_L_law_791 ?_
  refine toi_ (y := nI (4 * t + 1)) (nI_1 _) ?_
  refine va_sld hx hb hX hbl (Nat.not_le.mpr hbl) hS (vp_in_nI (n := 4 * t + 1) (N := L) (by omega) (by omega)) d_L_law_792 ?_
  refine toi_ (y := xs (4 * t + 1)) (by rw [nI_clamp (by omega)]) ?_
  refine vp_callSi (va_Run.run (va_runV (C := RU) (As := [.int (xs (4 * t + 1))]) (rest := []) ⟨hx, hb, hml, hown, hg⟩ (m_U_value l D cA au am at2 ic (nI T.length) sa ip tk um ut L9 f hs ac n la (xs (4 * t + 1)) hU.2.1 hH.1) (cwV 1 hg (gd_V ml_L_111 im_U_value sl_U_value ini_U cd_U_value) rfl rfl rfl (by decide +kernel) ⟨Nat.le_of_ble_eq_true rfl, Nat.le_of_ble_eq_true rfl⟩) (pv_r (va_recv (q0 := 0) (ci := 2) hK hP rfl rfl) (wp_l hP) hK hN) rfl rfl hl.1 rfl (lv_room (Nat.le_of_ble_eq_true rfl)) d_L_law_793 ⟨(show 42 + 2 * t + 0 ≤ 600000 by omega), (show 12098 + 47 * t + 0 ≤ 7302250 by omega)⟩)) (fun r1 e1 => ?_)
  subst e1
  refine lv_aload_n hx hb d_L_law_796 rfl (lv_at hl 2 rfl) ?_
  refine lv_aload_n hx hb d_L_law_797 rfl (lv_at hl 0 rfl) ?_
  refine lv_iload_n hx hb d_L_law_798 rfl (lv_at hl 3 rfl) ?_
  refine lv_iconst (v := 1) hx hb d_L_law_799 (by decide) ?_
  refine lv_iadd hx hb d_L_law_800 ?_
  refine toi_ (y := nI (4 * t + 1)) (nI_1 _) ?_
  refine va_sld hx hb hX hbl (Nat.not_le.mpr hbl) hS (vp_in_nI (n := 4 * t + 1) (N := L) (by omega) (by omega)) d_L_law_801 ?_
  refine toi_ (y := xs (4 * t + 1)) (by rw [nI_clamp (by omega)]) ?_
  have hP := wp_pm List.perm_append_comm hP
  have hD := wd_pm List.perm_append_comm hD
  refine vp_callSi (va_Run.run (va_runV (C := RM) (As := [.int (xs (4 * t + 1))]) (rest := [.int (sp_value hs n (xs (4 * t + 1)))]) ⟨hx, hb, hml, hown, hg⟩ (m_M_value l D cA ay nu ki th ot vs av pl ps ts fr bk ce co ro le dn un hs ac n la T (xs (4 * t + 1)) hM hU.1) (cwV 1 hg (gd_V ml_L_114 im_M_value sl_M_value ini_M cd_M_value) rfl rfl rfl (by decide +kernel) ⟨Nat.le_of_ble_eq_true rfl, Nat.le_of_ble_eq_true rfl⟩) (pv_r (va_recv (q0 := 0) (ci := 3) hK hP rfl rfl) (wp_l hP) hK hN) rfl rfl hl.1 rfl (lv_room (Nat.le_of_ble_eq_true rfl)) d_L_law_802 ⟨(show 42 + 2 * t + 0 ≤ 600000 by omega), (show 12098 + 47 * t + 0 ≤ 7302250 by omega)⟩)) (fun r2 e2 => ?_)
  subst e2
  have hP := wp_pm List.perm_append_comm hP
  have hD := wd_pm List.perm_append_comm hD
  refine lv_icmp_eq (tgt := 833) hx hb d_L_law_805 (by decide) (fun h805 => ?_) (fun h805 => ?_)
  · skip
    refine W.widen (k := 42 + 2 * (t + 1)) (n := 12098 + 47 * (t + 1)) (by omega) (by omega) ?_
    exact kk (hs, ac, n, la, T) (am, at2, ic, sa, ip, tk, um, ut, L9, f) (nu, ki, th, ot, vs, av, pl, ps, ts, fr, bk, ce, co, ro, le, dn, un) H locs (Nat.le_trans hla (Nat.le_succ t)) ⟨hP, hD, hS, hU, hM⟩
  · skip
    exact absurd (rfl) h805

set_option maxHeartbeats 4000000 in
set_option maxRecDepth 100000 in
theorem lc_parent {p : Program} {l : Launch} {e : Env} {s : State} {m : MethodId} {below : List Frame} {meth : Method} {c : Code} {b L : Nat} {xs : Nat → Int32} {D : va_G} {cA : Nat → ClassId} {np : Nat} {au ay : Nat → Nat} {a : ab_T} {cu : uc_T} {cm : mc_T} {H : Heap} {locs : List Loc} {ls : Array Slot} {t : Nat} {Q : State → Prop} (C : LC p s m c b L xs D cA np) (hL : L ≤ 2048) (ht : 4 * t + 4 ≤ L) (hla : a.2.2.2.1 ≤ t) (hI : LI s D cA au ay a cu cm H locs) (hl : lv_has ls 4 [(0, .ref b), (1, .ref (au 0)), (2, .ref (ay 0)), (3, .int (nI (4 * t)))])
    (kk : ∀ (a : ab_T) (cu : uc_T) (cm : mc_T) (H : Heap) (locs : List Loc), a.2.2.2.1 ≤ t + 1 → LI s D cA au ay a cu cm H locs → W p l e room_1 s m #[Value.ref b] below meth c H locs (42 + 2 * (t + 1)) (12098 + 47 * (t + 1)) Q (F0 m 833 ls [])) : W p l e room_1 s m #[Value.ref b] below meth c H locs (42 + 2 * t) (12098 + 47 * t) Q (F0 m 810 ls []) := by
  obtain ⟨hx, hb, hml, hown, hg, hX, hbl, hK, hN, hZ0⟩ := C
  obtain ⟨hP, hD, hS, hU, hM⟩ := hI
  obtain ⟨hs, ac, n, la, T⟩ := a
  obtain ⟨am, at2, ic, sa, ip, tk, um, ut, L9, f⟩ := cu
  obtain ⟨nu, ki, th, ot, vs, av, pl, ps, ts, fr, bk, ce, co, ro, le, dn, un⟩ := cm
  have hla : la ≤ t := hla
  have hla9 : la + 1 < 100000 := by omega
  have hH : hi_ hs n la := hU.1.1
  have hP : va_P D cls_ (((wU cA au (am 0) (at2 0) (nI n) (nI la) ic (nI T.length) sa ip tk) ++ ((wq_ cA am um) ++ ((wq_ cA at2 ut) ++ (va_pl L9 f)))) ++ (wM cA ay (nI n) (nI la) nu ki th ot vs av pl ps (nI T.length) ts fr bk ce co ro le dn un)) H := hP
  have hD : va_D (fun q => s.heap.size ≤ q) (((wU cA au (am 0) (at2 0) (nI n) (nI la) ic (nI T.length) sa ip tk) ++ ((wq_ cA am um) ++ ((wq_ cA at2 ut) ++ (va_pl L9 f)))) ++ (wM cA ay (nI n) (nI la) nu ki th ot vs av pl ps (nI T.length) ts fr bk ce co ro le dn un)) := hD
  refine lv_aload_n hx hb d_L_law_810 rfl (lv_at hl 1 rfl) ?_
  refine lv_aload_n hx hb d_L_law_811 rfl (lv_at hl 0 rfl) ?_
  refine lv_iload_n hx hb d_L_law_812 rfl (lv_at hl 3 rfl) ?_
  refine lv_iconst (v := 1) hx hb d_L_law_813 (by decide) ?_
  refine lv_iadd hx hb d_L_law_814 ?_
  refine toi_ (y := nI (4 * t + 1)) (nI_1 _) ?_
  refine va_sld hx hb hX hbl (Nat.not_le.mpr hbl) hS (vp_in_nI (n := 4 * t + 1) (N := L) (by omega) (by omega)) d_L_law_815 ?_
  refine toi_ (y := xs (4 * t + 1)) (by rw [nI_clamp (by omega)]) ?_
  refine vp_callSi (va_Run.run (va_runV (C := RU) (As := [.int (xs (4 * t + 1))]) (rest := []) ⟨hx, hb, hml, hown, hg⟩ (m_U_parent l D cA au am at2 ic (nI T.length) sa ip tk um ut L9 f hs ac n la (xs (4 * t + 1)) hU.2.2.1 (rp_mw hH ac (Nat.le_refl n))) (cwV 1 hg (gd_V ml_L_115 im_U_parent sl_U_parent ini_U cd_U_parent) rfl rfl rfl (by decide +kernel) ⟨Nat.le_of_ble_eq_true rfl, Nat.le_of_ble_eq_true rfl⟩) (pv_r (va_recv (q0 := 0) (ci := 2) hK hP rfl rfl) (wp_l hP) hK hN) rfl rfl hl.1 rfl (lv_room (Nat.le_of_ble_eq_true rfl)) d_L_law_816 ⟨(show 42 + 2 * t + 0 ≤ 600000 by omega), (show 12098 + 47 * t + 0 ≤ 7302250 by omega)⟩)) (fun r1 e1 => ?_)
  subst e1
  refine lv_aload_n hx hb d_L_law_819 rfl (lv_at hl 2 rfl) ?_
  refine lv_aload_n hx hb d_L_law_820 rfl (lv_at hl 0 rfl) ?_
  refine lv_iload_n hx hb d_L_law_821 rfl (lv_at hl 3 rfl) ?_
  refine lv_iconst (v := 1) hx hb d_L_law_822 (by decide) ?_
  refine lv_iadd hx hb d_L_law_823 ?_
  refine toi_ (y := nI (4 * t + 1)) (nI_1 _) ?_
  refine va_sld hx hb hX hbl (Nat.not_le.mpr hbl) hS (vp_in_nI (n := 4 * t + 1) (N := L) (by omega) (by omega)) d_L_law_824 ?_
  refine toi_ (y := xs (4 * t + 1)) (by rw [nI_clamp (by omega)]) ?_
  have hP := wp_pm List.perm_append_comm hP
  have hD := wd_pm List.perm_append_comm hD
  refine mu_i (w := (wM cA ay (nI n) (nI la) nu ki th ot vs av pl ps (nI T.length) ts fr bk ce co ro le dn un)) (wr := ((wU cA au (am 0) (at2 0) (nI n) (nI la) ic (nI T.length) sa ip tk) ++ ((wq_ cA am um) ++ ((wq_ cA at2 ut) ++ (va_pl L9 f))))) (va_runV (C := RM) (As := [.int (xs (4 * t + 1))]) (rest := [.int (sp_parent (rp_ hs ac n) (xs (4 * t + 1)))]) ⟨hx, hb, hml, hown, hg⟩ (m_M_parent l D cA H.size ay nu ki th ot vs av pl ps ts fr bk ce co ro le dn un hs ac n la T (xs (4 * t + 1)) hM hU.1) (cwV 1 hg (gd_V ml_L_118 im_M_parent sl_M_parent ini_M cd_M_parent) rfl rfl rfl (by decide +kernel) ⟨Nat.le_of_ble_eq_true rfl, Nat.le_of_ble_eq_true rfl⟩) (pv_m (va_recv (q0 := 0) (ci := 3) hK hP rfl rfl) (wp_l hP) hK hN (wd_l hD)) rfl rfl hl.1 rfl (lv_room (Nat.le_of_ble_eq_true rfl)) d_L_law_825 ⟨(show 42 + 2 * t + 0 ≤ 600000 by omega), (show 12098 + 47 * t + 0 ≤ 7302250 by omega)⟩) hP hD hS (fun q h => h) (fun r2 u2 H locs hp2 hP hD hS => ?_)
  have hP := wp_pm List.perm_append_comm hP
  have hD := wd_pm List.perm_append_comm hD
  refine lv_icmp_eq (tgt := 833) hx hb d_L_law_828 (by decide) (fun h828 => ?_) (fun h828 => ?_)
  · skip
    refine W.widen (k := 42 + 2 * (t + 1)) (n := 12098 + 47 * (t + 1)) (by omega) (by omega) ?_
    exact kk (hs, ac, n, la, T) (am, at2, ic, sa, ip, tk, um, ut, L9, f) u2 H locs (Nat.le_trans hla (Nat.le_succ t)) ⟨hP, hD, hS, hU, hp2.2⟩
  · skip
    exact absurd (hp2.1.symm) h828
