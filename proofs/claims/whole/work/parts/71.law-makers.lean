/-! The law: one making call of both -/
set_option maxHeartbeats 4000000 in
set_option maxRecDepth 100000 in
theorem lc_set {p : Program} {l : Launch} {e : Env} {s : State} {m : MethodId} {below : List Frame} {meth : Method} {c : Code} {b L : Nat} {xs : Nat → Int32} {D : va_G} {cA : Nat → ClassId} {np : Nat} {au ay : Nat → Nat} {a : ab_T} {cu : uc_T} {cm : mc_T} {H : Heap} {locs : List Loc} {ls : Array Slot} {t : Nat} {Q : State → Prop} (C : LC p s m c b L xs D cA np) (hL : L ≤ 2048) (ht : 4 * t + 4 ≤ L) (hla : a.2.2.2.1 ≤ t) (hI : LI s D cA au ay a cu cm H locs) (hl : lv_has ls 4 [(0, .ref b), (1, .ref (au 0)), (2, .ref (ay 0)), (3, .int (nI (4 * t)))])
    (kk : ∀ (a : ab_T) (cu : uc_T) (cm : mc_T) (H : Heap) (locs : List Loc), a.2.2.2.1 ≤ t + 1 → LI s D cA au ay a cu cm H locs → W p l e room_1 s m #[Value.ref b] below meth c H locs (42 + 2 * (t + 1)) (12098 + 47 * (t + 1)) Q (F0 m 833 ls [])) : W p l e room_1 s m #[Value.ref b] below meth c H locs (42 + 2 * t) (12098 + 47 * t) Q (F0 m 144 ls []) := by
  obtain ⟨hx, hb, hml, hown, hg, hX, hbl, hK, hN, hZ0⟩ := C
  obtain ⟨hP, hD, hS, hU, hM⟩ := hI
  obtain ⟨hs, ac, n, la, T⟩ := a
  obtain ⟨am, at2, ic, sa, ip, tk, um, ut, L9, f⟩ := cu
  obtain ⟨nu, ki, th, ot, vs, av, pl, ps, ts, fr, bk, ce, co, ro, le, dn, un⟩ := cm
  have hla : la ≤ t := hla
  have hla9 : la + 1 < 100000 := by omega
  have hH : hi_ hs n la := hU.1.1
  have hP : va_P D cls_ (((wU cA au (am 0) (at2 0) (nI n) (nI la) ic (nI T.length) sa ip tk) ++ ((wq_ cA am um) ++ ((wq_ cA at2 ut) ++ (va_pl L9 f)))) ++ (wM cA ay (nI n) (nI la) nu ki th ot vs av pl ps (nI T.length) ts fr bk ce co ro le dn un)) H := hP
  have hD : va_D (fun q => s.heap.size ≤ q) (((wU cA au (am 0) (at2 0) (nI n) (nI la) ic (nI T.length) sa ip tk) ++ ((wq_ cA am um) ++ ((wq_ cA at2 ut) ++ (va_pl L9 f)))) ++ (wM cA ay (nI n) (nI la) nu ki th ot vs av pl ps (nI T.length) ts fr bk ce co ro le dn un)) := hD
  refine lv_aload_n hx hb d_L_law_144 rfl (lv_at hl 1 rfl) ?_
  refine lv_aload_n hx hb d_L_law_145 rfl (lv_at hl 0 rfl) ?_
  refine lv_iload_n hx hb d_L_law_146 rfl (lv_at hl 3 rfl) ?_
  refine lv_iconst (v := 1) hx hb d_L_law_147 (by decide) ?_
  refine lv_iadd hx hb d_L_law_148 ?_
  refine toi_ (y := nI (4 * t + 1)) (nI_1 _) ?_
  refine va_sld hx hb hX hbl (Nat.not_le.mpr hbl) hS (vp_in_nI (n := 4 * t + 1) (N := L) (by omega) (by omega)) d_L_law_149 ?_
  refine toi_ (y := xs (4 * t + 1)) (by rw [nI_clamp (by omega)]) ?_
  refine lv_aload_n hx hb d_L_law_150 rfl (lv_at hl 0 rfl) ?_
  refine lv_iload_n hx hb d_L_law_151 rfl (lv_at hl 3 rfl) ?_
  refine lv_iconst (v := 2) hx hb d_L_law_152 (by decide) ?_
  refine lv_iadd hx hb d_L_law_153 ?_
  refine toi_ (y := nI (4 * t + 2)) (nI_p2 _) ?_
  refine va_sld hx hb hX hbl (Nat.not_le.mpr hbl) hS (vp_in_nI (n := 4 * t + 2) (N := L) (by omega) (by omega)) d_L_law_154 ?_
  refine toi_ (y := xs (4 * t + 2)) (by rw [nI_clamp (by omega)]) ?_
  have hZ := (hZ0.kept hS.2.1).narrow (fr_ hD hS (fun q h => h))
  refine mu_i (w := ((wU cA au (am 0) (at2 0) (nI n) (nI la) ic (nI T.length) sa ip tk) ++ ((wq_ cA am um) ++ ((wq_ cA at2 ut) ++ (va_pl L9 f))))) (wr := (wM cA ay (nI n) (nI la) nu ki th ot vs av pl ps (nI T.length) ts fr bk ce co ro le dn un)) (va_runV (C := RU) (As := [.int (xs (4 * t + 1)), .int (xs (4 * t + 2))]) (rest := []) ⟨hx, hb, hml, hown, hg⟩ (m_U_set l D cA H.size au am at2 ic sa ip tk um ut L9 f hs ac n la T np (xs (4 * t + 1)) (xs (4 * t + 2)) hU hla9) (cwV 2 hg (gd_V ml_L_13 im_U_set sl_U_set ini_U cd_U_set) rfl rfl rfl (by decide +kernel) ⟨Nat.le_of_ble_eq_true rfl, Nat.le_of_ble_eq_true rfl⟩) (pv_z (va_recv (q0 := 0) (ci := 2) hK hP rfl rfl) (wp_l hP) hK hN (wd_l hD) hZ) rfl rfl hl.1 rfl (lv_room (Nat.le_of_ble_eq_true rfl)) d_L_law_155 ⟨(show 42 + 2 * t + 1 ≤ 600000 by omega), (show 12098 + 47 * t + 7 ≤ 7302250 by omega)⟩) hP hD hS (fun q h => h) (fun r1 u1 H locs hp1 hP hD hS => ?_)
  refine lv_aload_n hx hb d_L_law_158 rfl (lv_at hl 2 rfl) ?_
  refine lv_aload_n hx hb d_L_law_159 rfl (lv_at hl 0 rfl) ?_
  refine lv_iload_n hx hb d_L_law_160 rfl (lv_at hl 3 rfl) ?_
  refine lv_iconst (v := 1) hx hb d_L_law_161 (by decide) ?_
  refine lv_iadd hx hb d_L_law_162 ?_
  refine toi_ (y := nI (4 * t + 1)) (nI_1 _) ?_
  refine va_sld hx hb hX hbl (Nat.not_le.mpr hbl) hS (vp_in_nI (n := 4 * t + 1) (N := L) (by omega) (by omega)) d_L_law_163 ?_
  refine toi_ (y := xs (4 * t + 1)) (by rw [nI_clamp (by omega)]) ?_
  refine lv_aload_n hx hb d_L_law_164 rfl (lv_at hl 0 rfl) ?_
  refine lv_iload_n hx hb d_L_law_165 rfl (lv_at hl 3 rfl) ?_
  refine lv_iconst (v := 2) hx hb d_L_law_166 (by decide) ?_
  refine lv_iadd hx hb d_L_law_167 ?_
  refine toi_ (y := nI (4 * t + 2)) (nI_p2 _) ?_
  refine va_sld hx hb hX hbl (Nat.not_le.mpr hbl) hS (vp_in_nI (n := 4 * t + 2) (N := L) (by omega) (by omega)) d_L_law_168 ?_
  refine toi_ (y := xs (4 * t + 2)) (by rw [nI_clamp (by omega)]) ?_
  have hP := wp_pm List.perm_append_comm hP
  have hD := wd_pm List.perm_append_comm hD
  refine mu_i (w := (wM cA ay (nI n) (nI la) nu ki th ot vs av pl ps (nI T.length) ts fr bk ce co ro le dn un)) (wr := wX cA au (sp_set (hs, ac, n, la, T) (xs (4 * t + 1)) (xs (4 * t + 2))).2 u1) (va_runV (C := RM) (As := [.int (xs (4 * t + 1)), .int (xs (4 * t + 2))]) (rest := [.int r1]) ⟨hx, hb, hml, hown, hg⟩ (m_M_set l D cA H.size ay nu ki th ot vs av pl ps ts fr bk ce co ro le dn un hs ac n la T (xs (4 * t + 1)) (xs (4 * t + 2)) hM hU.1 hla9) (cwV 2 hg (gd_V ml_L_17 im_M_set sl_M_set ini_M cd_M_set) rfl rfl rfl (by decide +kernel) ⟨Nat.le_of_ble_eq_true rfl, Nat.le_of_ble_eq_true rfl⟩) (pv_m (va_recv (q0 := 0) (ci := 3) hK hP rfl rfl) (wp_l hP) hK hN (wd_l hD)) rfl rfl hl.1 rfl (lv_room (Nat.le_of_ble_eq_true rfl)) d_L_law_169 ⟨(show 42 + 2 * t + 1 + 0 ≤ 600000 by omega), (show 12098 + 47 * t + 7 + 0 ≤ 7302250 by omega)⟩) hP hD hS (fun q h => h) (fun r2 u2 H locs hp2 hP hD hS => ?_)
  have hP := wp_pm List.perm_append_comm hP
  have hD := wd_pm List.perm_append_comm hD
  refine lv_icmp_eq (tgt := 833) hx hb d_L_law_172 (by decide) (fun h172 => ?_) (fun h172 => ?_)
  · skip
    refine W.widen (k := 42 + 2 * (t + 1)) (n := 12098 + 47 * (t + 1)) (by omega) (by omega) ?_
    exact kk ((sp_set (hs, ac, n, la, T) (xs (4 * t + 1)) (xs (4 * t + 2))).2) u1 u2 H locs (Nat.le_trans (la_if (hs, ac, n, la, T) _) (Nat.succ_le_succ hla)) ⟨hP, hD, hS, hp1.2, hp2.2⟩
  · skip
    exact absurd (hp1.1.trans hp2.1.symm) h172

set_option maxHeartbeats 4000000 in
set_option maxRecDepth 100000 in
theorem lc_add {p : Program} {l : Launch} {e : Env} {s : State} {m : MethodId} {below : List Frame} {meth : Method} {c : Code} {b L : Nat} {xs : Nat → Int32} {D : va_G} {cA : Nat → ClassId} {np : Nat} {au ay : Nat → Nat} {a : ab_T} {cu : uc_T} {cm : mc_T} {H : Heap} {locs : List Loc} {ls : Array Slot} {t : Nat} {Q : State → Prop} (C : LC p s m c b L xs D cA np) (hL : L ≤ 2048) (ht : 4 * t + 4 ≤ L) (hla : a.2.2.2.1 ≤ t) (hI : LI s D cA au ay a cu cm H locs) (hl : lv_has ls 4 [(0, .ref b), (1, .ref (au 0)), (2, .ref (ay 0)), (3, .int (nI (4 * t)))])
    (kk : ∀ (a : ab_T) (cu : uc_T) (cm : mc_T) (H : Heap) (locs : List Loc), a.2.2.2.1 ≤ t + 1 → LI s D cA au ay a cu cm H locs → W p l e room_1 s m #[Value.ref b] below meth c H locs (42 + 2 * (t + 1)) (12098 + 47 * (t + 1)) Q (F0 m 833 ls [])) : W p l e room_1 s m #[Value.ref b] below meth c H locs (42 + 2 * t) (12098 + 47 * t) Q (F0 m 177 ls []) := by
  obtain ⟨hx, hb, hml, hown, hg, hX, hbl, hK, hN, hZ0⟩ := C
  obtain ⟨hP, hD, hS, hU, hM⟩ := hI
  obtain ⟨hs, ac, n, la, T⟩ := a
  obtain ⟨am, at2, ic, sa, ip, tk, um, ut, L9, f⟩ := cu
  obtain ⟨nu, ki, th, ot, vs, av, pl, ps, ts, fr, bk, ce, co, ro, le, dn, un⟩ := cm
  have hla : la ≤ t := hla
  have hla9 : la + 1 < 100000 := by omega
  have hH : hi_ hs n la := hU.1.1
  have hP : va_P D cls_ (((wU cA au (am 0) (at2 0) (nI n) (nI la) ic (nI T.length) sa ip tk) ++ ((wq_ cA am um) ++ ((wq_ cA at2 ut) ++ (va_pl L9 f)))) ++ (wM cA ay (nI n) (nI la) nu ki th ot vs av pl ps (nI T.length) ts fr bk ce co ro le dn un)) H := hP
  have hD : va_D (fun q => s.heap.size ≤ q) (((wU cA au (am 0) (at2 0) (nI n) (nI la) ic (nI T.length) sa ip tk) ++ ((wq_ cA am um) ++ ((wq_ cA at2 ut) ++ (va_pl L9 f)))) ++ (wM cA ay (nI n) (nI la) nu ki th ot vs av pl ps (nI T.length) ts fr bk ce co ro le dn un)) := hD
  refine lv_aload_n hx hb d_L_law_177 rfl (lv_at hl 1 rfl) ?_
  refine lv_aload_n hx hb d_L_law_178 rfl (lv_at hl 0 rfl) ?_
  refine lv_iload_n hx hb d_L_law_179 rfl (lv_at hl 3 rfl) ?_
  refine lv_iconst (v := 1) hx hb d_L_law_180 (by decide) ?_
  refine lv_iadd hx hb d_L_law_181 ?_
  refine toi_ (y := nI (4 * t + 1)) (nI_1 _) ?_
  refine va_sld hx hb hX hbl (Nat.not_le.mpr hbl) hS (vp_in_nI (n := 4 * t + 1) (N := L) (by omega) (by omega)) d_L_law_182 ?_
  refine toi_ (y := xs (4 * t + 1)) (by rw [nI_clamp (by omega)]) ?_
  refine lv_aload_n hx hb d_L_law_183 rfl (lv_at hl 0 rfl) ?_
  refine lv_iload_n hx hb d_L_law_184 rfl (lv_at hl 3 rfl) ?_
  refine lv_iconst (v := 2) hx hb d_L_law_185 (by decide) ?_
  refine lv_iadd hx hb d_L_law_186 ?_
  refine toi_ (y := nI (4 * t + 2)) (nI_p2 _) ?_
  refine va_sld hx hb hX hbl (Nat.not_le.mpr hbl) hS (vp_in_nI (n := 4 * t + 2) (N := L) (by omega) (by omega)) d_L_law_187 ?_
  refine toi_ (y := xs (4 * t + 2)) (by rw [nI_clamp (by omega)]) ?_
  refine lv_i2l (v := (xs (4 * t + 2)).toInt64) hx hb d_L_law_188 (rfl) ?_
  refine lv_bipush (v := 32) hx hb d_L_law_189 (by decide) ?_
  refine lv_lshl (v := ((xs (4 * t + 2)).toInt64) <<< ((32 : Int32).toInt64 &&& 63)) hx hb d_L_law_191 rfl ?_
  refine lv_aload_n hx hb d_L_law_192 rfl (lv_at hl 0 rfl) ?_
  refine lv_iload_n hx hb d_L_law_193 rfl (lv_at hl 3 rfl) ?_
  refine lv_iconst (v := 3) hx hb d_L_law_194 (by decide) ?_
  refine lv_iadd hx hb d_L_law_195 ?_
  refine toi_ (y := nI (4 * t + 3)) (nI_p3 _) ?_
  refine va_sld hx hb hX hbl (Nat.not_le.mpr hbl) hS (vp_in_nI (n := 4 * t + 3) (N := L) (by omega) (by omega)) d_L_law_196 ?_
  refine toi_ (y := xs (4 * t + 3)) (by rw [nI_clamp (by omega)]) ?_
  refine lv_i2l (v := (xs (4 * t + 3)).toInt64) hx hb d_L_law_197 (rfl) ?_
  refine lv_ldc2 (v := 4294967295) hx hb hown (hg _ cst) d_L_law_198 ?_
  refine lv_land hx hb d_L_law_201 ?_
  refine lv_lor hx hb d_L_law_202 ?_
  have hZ := (hZ0.kept hS.2.1).narrow (fr_ hD hS (fun q h => h))
  refine mu_i (w := ((wU cA au (am 0) (at2 0) (nI n) (nI la) ic (nI T.length) sa ip tk) ++ ((wq_ cA am um) ++ ((wq_ cA at2 ut) ++ (va_pl L9 f))))) (wr := (wM cA ay (nI n) (nI la) nu ki th ot vs av pl ps (nI T.length) ts fr bk ce co ro le dn un)) (va_runV (C := RU) (As := [.int (xs (4 * t + 1)), .long ((((xs (4 * t + 2)).toInt64) <<< ((32 : Int32).toInt64 &&& 63)) ||| (((xs (4 * t + 3)).toInt64) &&& 4294967295))]) (rest := []) ⟨hx, hb, hml, hown, hg⟩ (m_U_add l D cA H.size au am at2 ic sa ip tk um ut L9 f hs ac n la T np (xs (4 * t + 1)) ((((xs (4 * t + 2)).toInt64) <<< ((32 : Int32).toInt64 &&& 63)) ||| (((xs (4 * t + 3)).toInt64) &&& 4294967295)) hU hla9) (cwV 2 hg (gd_V ml_L_20 im_U_add sl_U_add ini_U cd_U_add) rfl rfl rfl (by decide +kernel) ⟨Nat.le_of_ble_eq_true rfl, Nat.le_of_ble_eq_true rfl⟩) (pv_z (va_recv (q0 := 0) (ci := 2) hK hP rfl rfl) (wp_l hP) hK hN (wd_l hD) hZ) rfl rfl hl.1 rfl (lv_room (Nat.le_of_ble_eq_true rfl)) d_L_law_203 ⟨(show 42 + 2 * t + 1 ≤ 600000 by omega), (show 12098 + 47 * t + 7 ≤ 7302250 by omega)⟩) hP hD hS (fun q h => h) (fun r1 u1 H locs hp1 hP hD hS => ?_)
  refine lv_aload_n hx hb d_L_law_206 rfl (lv_at hl 2 rfl) ?_
  refine lv_aload_n hx hb d_L_law_207 rfl (lv_at hl 0 rfl) ?_
  refine lv_iload_n hx hb d_L_law_208 rfl (lv_at hl 3 rfl) ?_
  refine lv_iconst (v := 1) hx hb d_L_law_209 (by decide) ?_
  refine lv_iadd hx hb d_L_law_210 ?_
  refine toi_ (y := nI (4 * t + 1)) (nI_1 _) ?_
  refine va_sld hx hb hX hbl (Nat.not_le.mpr hbl) hS (vp_in_nI (n := 4 * t + 1) (N := L) (by omega) (by omega)) d_L_law_211 ?_
  refine toi_ (y := xs (4 * t + 1)) (by rw [nI_clamp (by omega)]) ?_
  refine lv_aload_n hx hb d_L_law_212 rfl (lv_at hl 0 rfl) ?_
  refine lv_iload_n hx hb d_L_law_213 rfl (lv_at hl 3 rfl) ?_
  refine lv_iconst (v := 2) hx hb d_L_law_214 (by decide) ?_
  refine lv_iadd hx hb d_L_law_215 ?_
  refine toi_ (y := nI (4 * t + 2)) (nI_p2 _) ?_
  refine va_sld hx hb hX hbl (Nat.not_le.mpr hbl) hS (vp_in_nI (n := 4 * t + 2) (N := L) (by omega) (by omega)) d_L_law_216 ?_
  refine toi_ (y := xs (4 * t + 2)) (by rw [nI_clamp (by omega)]) ?_
  refine lv_i2l (v := (xs (4 * t + 2)).toInt64) hx hb d_L_law_217 (rfl) ?_
  refine lv_bipush (v := 32) hx hb d_L_law_218 (by decide) ?_
  refine lv_lshl (v := ((xs (4 * t + 2)).toInt64) <<< ((32 : Int32).toInt64 &&& 63)) hx hb d_L_law_220 rfl ?_
  refine lv_aload_n hx hb d_L_law_221 rfl (lv_at hl 0 rfl) ?_
  refine lv_iload_n hx hb d_L_law_222 rfl (lv_at hl 3 rfl) ?_
  refine lv_iconst (v := 3) hx hb d_L_law_223 (by decide) ?_
  refine lv_iadd hx hb d_L_law_224 ?_
  refine toi_ (y := nI (4 * t + 3)) (nI_p3 _) ?_
  refine va_sld hx hb hX hbl (Nat.not_le.mpr hbl) hS (vp_in_nI (n := 4 * t + 3) (N := L) (by omega) (by omega)) d_L_law_225 ?_
  refine toi_ (y := xs (4 * t + 3)) (by rw [nI_clamp (by omega)]) ?_
  refine lv_i2l (v := (xs (4 * t + 3)).toInt64) hx hb d_L_law_226 (rfl) ?_
  refine lv_ldc2 (v := 4294967295) hx hb hown (hg _ cst) d_L_law_227 ?_
  refine lv_land hx hb d_L_law_230 ?_
  refine lv_lor hx hb d_L_law_231 ?_
  have hP := wp_pm List.perm_append_comm hP
  have hD := wd_pm List.perm_append_comm hD
  refine mu_i (w := (wM cA ay (nI n) (nI la) nu ki th ot vs av pl ps (nI T.length) ts fr bk ce co ro le dn un)) (wr := wX cA au (sp_add (hs, ac, n, la, T) (xs (4 * t + 1)) ((((xs (4 * t + 2)).toInt64) <<< ((32 : Int32).toInt64 &&& 63)) ||| (((xs (4 * t + 3)).toInt64) &&& 4294967295))).2 u1) (va_runV (C := RM) (As := [.int (xs (4 * t + 1)), .long ((((xs (4 * t + 2)).toInt64) <<< ((32 : Int32).toInt64 &&& 63)) ||| (((xs (4 * t + 3)).toInt64) &&& 4294967295))]) (rest := [.int r1]) ⟨hx, hb, hml, hown, hg⟩ (m_M_add l D cA H.size ay nu ki th ot vs av pl ps ts fr bk ce co ro le dn un hs ac n la T (xs (4 * t + 1)) ((((xs (4 * t + 2)).toInt64) <<< ((32 : Int32).toInt64 &&& 63)) ||| (((xs (4 * t + 3)).toInt64) &&& 4294967295)) hM hU.1 hla9) (cwV 2 hg (gd_V ml_L_24 im_M_add sl_M_add ini_M cd_M_add) rfl rfl rfl (by decide +kernel) ⟨Nat.le_of_ble_eq_true rfl, Nat.le_of_ble_eq_true rfl⟩) (pv_m (va_recv (q0 := 0) (ci := 3) hK hP rfl rfl) (wp_l hP) hK hN (wd_l hD)) rfl rfl hl.1 rfl (lv_room (Nat.le_of_ble_eq_true rfl)) d_L_law_232 ⟨(show 42 + 2 * t + 1 + 0 ≤ 600000 by omega), (show 12098 + 47 * t + 7 + 0 ≤ 7302250 by omega)⟩) hP hD hS (fun q h => h) (fun r2 u2 H locs hp2 hP hD hS => ?_)
  have hP := wp_pm List.perm_append_comm hP
  have hD := wd_pm List.perm_append_comm hD
  refine lv_icmp_eq (tgt := 833) hx hb d_L_law_235 (by decide) (fun h235 => ?_) (fun h235 => ?_)
  · skip
    refine W.widen (k := 42 + 2 * (t + 1)) (n := 12098 + 47 * (t + 1)) (by omega) (by omega) ?_
    exact kk ((sp_add (hs, ac, n, la, T) (xs (4 * t + 1)) ((((xs (4 * t + 2)).toInt64) <<< ((32 : Int32).toInt64 &&& 63)) ||| (((xs (4 * t + 3)).toInt64) &&& 4294967295))).2) u1 u2 H locs (Nat.le_trans (la_if (hs, ac, n, la, T) _) (Nat.succ_le_succ hla)) ⟨hP, hD, hS, hp1.2, hp2.2⟩
  · skip
    exact absurd (hp1.1.trans hp2.1.symm) h235

set_option maxHeartbeats 4000000 in
set_option maxRecDepth 100000 in
theorem lc_insert {p : Program} {l : Launch} {e : Env} {s : State} {m : MethodId} {below : List Frame} {meth : Method} {c : Code} {b L : Nat} {xs : Nat → Int32} {D : va_G} {cA : Nat → ClassId} {np : Nat} {au ay : Nat → Nat} {a : ab_T} {cu : uc_T} {cm : mc_T} {H : Heap} {locs : List Loc} {ls : Array Slot} {t : Nat} {Q : State → Prop} (C : LC p s m c b L xs D cA np) (hL : L ≤ 2048) (ht : 4 * t + 4 ≤ L) (hla : a.2.2.2.1 ≤ t) (hI : LI s D cA au ay a cu cm H locs) (hl : lv_has ls 4 [(0, .ref b), (1, .ref (au 0)), (2, .ref (ay 0)), (3, .int (nI (4 * t)))])
    (kk : ∀ (a : ab_T) (cu : uc_T) (cm : mc_T) (H : Heap) (locs : List Loc), a.2.2.2.1 ≤ t + 1 → LI s D cA au ay a cu cm H locs → W p l e room_1 s m #[Value.ref b] below meth c H locs (42 + 2 * (t + 1)) (12098 + 47 * (t + 1)) Q (F0 m 833 ls [])) : W p l e room_1 s m #[Value.ref b] below meth c H locs (42 + 2 * t) (12098 + 47 * t) Q (F0 m 240 ls []) := by
  obtain ⟨hx, hb, hml, hown, hg, hX, hbl, hK, hN, hZ0⟩ := C
  obtain ⟨hP, hD, hS, hU, hM⟩ := hI
  obtain ⟨hs, ac, n, la, T⟩ := a
  obtain ⟨am, at2, ic, sa, ip, tk, um, ut, L9, f⟩ := cu
  obtain ⟨nu, ki, th, ot, vs, av, pl, ps, ts, fr, bk, ce, co, ro, le, dn, un⟩ := cm
  have hla : la ≤ t := hla
  have hla9 : la + 1 < 100000 := by omega
  have hH : hi_ hs n la := hU.1.1
  have hP : va_P D cls_ (((wU cA au (am 0) (at2 0) (nI n) (nI la) ic (nI T.length) sa ip tk) ++ ((wq_ cA am um) ++ ((wq_ cA at2 ut) ++ (va_pl L9 f)))) ++ (wM cA ay (nI n) (nI la) nu ki th ot vs av pl ps (nI T.length) ts fr bk ce co ro le dn un)) H := hP
  have hD : va_D (fun q => s.heap.size ≤ q) (((wU cA au (am 0) (at2 0) (nI n) (nI la) ic (nI T.length) sa ip tk) ++ ((wq_ cA am um) ++ ((wq_ cA at2 ut) ++ (va_pl L9 f)))) ++ (wM cA ay (nI n) (nI la) nu ki th ot vs av pl ps (nI T.length) ts fr bk ce co ro le dn un)) := hD
  refine lv_aload_n hx hb d_L_law_240 rfl (lv_at hl 1 rfl) ?_
  refine lv_aload_n hx hb d_L_law_241 rfl (lv_at hl 0 rfl) ?_
  refine lv_iload_n hx hb d_L_law_242 rfl (lv_at hl 3 rfl) ?_
  refine lv_iconst (v := 1) hx hb d_L_law_243 (by decide) ?_
  refine lv_iadd hx hb d_L_law_244 ?_
  refine toi_ (y := nI (4 * t + 1)) (nI_1 _) ?_
  refine va_sld hx hb hX hbl (Nat.not_le.mpr hbl) hS (vp_in_nI (n := 4 * t + 1) (N := L) (by omega) (by omega)) d_L_law_245 ?_
  refine toi_ (y := xs (4 * t + 1)) (by rw [nI_clamp (by omega)]) ?_
  refine lv_aload_n hx hb d_L_law_246 rfl (lv_at hl 0 rfl) ?_
  refine lv_iload_n hx hb d_L_law_247 rfl (lv_at hl 3 rfl) ?_
  refine lv_iconst (v := 2) hx hb d_L_law_248 (by decide) ?_
  refine lv_iadd hx hb d_L_law_249 ?_
  refine toi_ (y := nI (4 * t + 2)) (nI_p2 _) ?_
  refine va_sld hx hb hX hbl (Nat.not_le.mpr hbl) hS (vp_in_nI (n := 4 * t + 2) (N := L) (by omega) (by omega)) d_L_law_250 ?_
  refine toi_ (y := xs (4 * t + 2)) (by rw [nI_clamp (by omega)]) ?_
  refine lv_aload_n hx hb d_L_law_251 rfl (lv_at hl 0 rfl) ?_
  refine lv_iload_n hx hb d_L_law_252 rfl (lv_at hl 3 rfl) ?_
  refine lv_iconst (v := 3) hx hb d_L_law_253 (by decide) ?_
  refine lv_iadd hx hb d_L_law_254 ?_
  refine toi_ (y := nI (4 * t + 3)) (nI_p3 _) ?_
  refine va_sld hx hb hX hbl (Nat.not_le.mpr hbl) hS (vp_in_nI (n := 4 * t + 3) (N := L) (by omega) (by omega)) d_L_law_255 ?_
  refine toi_ (y := xs (4 * t + 3)) (by rw [nI_clamp (by omega)]) ?_
  refine mu_i (w := ((wU cA au (am 0) (at2 0) (nI n) (nI la) ic (nI T.length) sa ip tk) ++ ((wq_ cA am um) ++ ((wq_ cA at2 ut) ++ (va_pl L9 f))))) (wr := (wM cA ay (nI n) (nI la) nu ki th ot vs av pl ps (nI T.length) ts fr bk ce co ro le dn un)) (va_runV (C := RU) (As := [.int (xs (4 * t + 1)), .int (xs (4 * t + 2)), .int (xs (4 * t + 3))]) (rest := []) ⟨hx, hb, hml, hown, hg⟩ (m_U_insert l D cA H.size au am at2 ic sa ip tk um ut L9 f hs ac n la T (xs (4 * t + 1)) (xs (4 * t + 2)) (xs (4 * t + 3)) hU hla9) (cwV 3 hg (gd_V ml_L_25 im_U_insert sl_U_insert ini_U cd_U_insert) rfl rfl rfl (by decide +kernel) ⟨Nat.le_of_ble_eq_true rfl, Nat.le_of_ble_eq_true rfl⟩) (pv_m (va_recv (q0 := 0) (ci := 2) hK hP rfl rfl) (wp_l hP) hK hN (wd_l hD)) rfl rfl hl.1 rfl (lv_room (Nat.le_of_ble_eq_true rfl)) d_L_law_256 ⟨(show 42 + 2 * t + 2 ≤ 600000 by omega), (show 12098 + 47 * t + 47 ≤ 7302250 by omega)⟩) hP hD hS (fun q h => h) (fun r1 u1 H locs hp1 hP hD hS => ?_)
  refine lv_aload_n hx hb d_L_law_259 rfl (lv_at hl 2 rfl) ?_
  refine lv_aload_n hx hb d_L_law_260 rfl (lv_at hl 0 rfl) ?_
  refine lv_iload_n hx hb d_L_law_261 rfl (lv_at hl 3 rfl) ?_
  refine lv_iconst (v := 1) hx hb d_L_law_262 (by decide) ?_
  refine lv_iadd hx hb d_L_law_263 ?_
  refine toi_ (y := nI (4 * t + 1)) (nI_1 _) ?_
  refine va_sld hx hb hX hbl (Nat.not_le.mpr hbl) hS (vp_in_nI (n := 4 * t + 1) (N := L) (by omega) (by omega)) d_L_law_264 ?_
  refine toi_ (y := xs (4 * t + 1)) (by rw [nI_clamp (by omega)]) ?_
  refine lv_aload_n hx hb d_L_law_265 rfl (lv_at hl 0 rfl) ?_
  refine lv_iload_n hx hb d_L_law_266 rfl (lv_at hl 3 rfl) ?_
  refine lv_iconst (v := 2) hx hb d_L_law_267 (by decide) ?_
  refine lv_iadd hx hb d_L_law_268 ?_
  refine toi_ (y := nI (4 * t + 2)) (nI_p2 _) ?_
  refine va_sld hx hb hX hbl (Nat.not_le.mpr hbl) hS (vp_in_nI (n := 4 * t + 2) (N := L) (by omega) (by omega)) d_L_law_269 ?_
  refine toi_ (y := xs (4 * t + 2)) (by rw [nI_clamp (by omega)]) ?_
  refine lv_aload_n hx hb d_L_law_270 rfl (lv_at hl 0 rfl) ?_
  refine lv_iload_n hx hb d_L_law_271 rfl (lv_at hl 3 rfl) ?_
  refine lv_iconst (v := 3) hx hb d_L_law_272 (by decide) ?_
  refine lv_iadd hx hb d_L_law_273 ?_
  refine toi_ (y := nI (4 * t + 3)) (nI_p3 _) ?_
  refine va_sld hx hb hX hbl (Nat.not_le.mpr hbl) hS (vp_in_nI (n := 4 * t + 3) (N := L) (by omega) (by omega)) d_L_law_274 ?_
  refine toi_ (y := xs (4 * t + 3)) (by rw [nI_clamp (by omega)]) ?_
  have hP := wp_pm List.perm_append_comm hP
  have hD := wd_pm List.perm_append_comm hD
  refine mu_i (w := (wM cA ay (nI n) (nI la) nu ki th ot vs av pl ps (nI T.length) ts fr bk ce co ro le dn un)) (wr := wX cA au (sp_insert (hs, ac, n, la, T) (xs (4 * t + 1)) (xs (4 * t + 2)) (xs (4 * t + 3))).2 u1) (va_runV (C := RM) (As := [.int (xs (4 * t + 1)), .int (xs (4 * t + 2)), .int (xs (4 * t + 3))]) (rest := [.int r1]) ⟨hx, hb, hml, hown, hg⟩ (m_M_insert l D cA H.size ay nu ki th ot vs av pl ps ts fr bk ce co ro le dn un hs ac n la T (xs (4 * t + 1)) (xs (4 * t + 2)) (xs (4 * t + 3)) hM hU.1 hla9) (cwV 3 hg (gd_V ml_L_29 im_M_insert sl_M_insert ini_M cd_M_insert) rfl rfl rfl (by decide +kernel) ⟨Nat.le_of_ble_eq_true rfl, Nat.le_of_ble_eq_true rfl⟩) (pv_m (va_recv (q0 := 0) (ci := 3) hK hP rfl rfl) (wp_l hP) hK hN (wd_l hD)) rfl rfl hl.1 rfl (lv_room (Nat.le_of_ble_eq_true rfl)) d_L_law_275 ⟨(show 42 + 2 * t + 2 + 0 ≤ 600000 by omega), (show 12098 + 47 * t + 47 + 0 ≤ 7302250 by omega)⟩) hP hD hS (fun q h => h) (fun r2 u2 H locs hp2 hP hD hS => ?_)
  have hP := wp_pm List.perm_append_comm hP
  have hD := wd_pm List.perm_append_comm hD
  refine lv_icmp_eq (tgt := 833) hx hb d_L_law_278 (by decide) (fun h278 => ?_) (fun h278 => ?_)
  · skip
    refine W.widen (k := 42 + 2 * (t + 1)) (n := 12098 + 47 * (t + 1)) (by omega) (by omega) ?_
    exact kk ((sp_insert (hs, ac, n, la, T) (xs (4 * t + 1)) (xs (4 * t + 2)) (xs (4 * t + 3))).2) u1 u2 H locs (Nat.le_trans (la_if (hs, ac, n, la, T) _) (Nat.succ_le_succ hla)) ⟨hP, hD, hS, hp1.2, hp2.2⟩
  · skip
    exact absurd (hp1.1.trans hp2.1.symm) h278

set_option maxHeartbeats 4000000 in
set_option maxRecDepth 100000 in
theorem lc_remove {p : Program} {l : Launch} {e : Env} {s : State} {m : MethodId} {below : List Frame} {meth : Method} {c : Code} {b L : Nat} {xs : Nat → Int32} {D : va_G} {cA : Nat → ClassId} {np : Nat} {au ay : Nat → Nat} {a : ab_T} {cu : uc_T} {cm : mc_T} {H : Heap} {locs : List Loc} {ls : Array Slot} {t : Nat} {Q : State → Prop} (C : LC p s m c b L xs D cA np) (hL : L ≤ 2048) (ht : 4 * t + 4 ≤ L) (hla : a.2.2.2.1 ≤ t) (hI : LI s D cA au ay a cu cm H locs) (hl : lv_has ls 4 [(0, .ref b), (1, .ref (au 0)), (2, .ref (ay 0)), (3, .int (nI (4 * t)))])
    (kk : ∀ (a : ab_T) (cu : uc_T) (cm : mc_T) (H : Heap) (locs : List Loc), a.2.2.2.1 ≤ t + 1 → LI s D cA au ay a cu cm H locs → W p l e room_1 s m #[Value.ref b] below meth c H locs (42 + 2 * (t + 1)) (12098 + 47 * (t + 1)) Q (F0 m 833 ls [])) : W p l e room_1 s m #[Value.ref b] below meth c H locs (42 + 2 * t) (12098 + 47 * t) Q (F0 m 283 ls []) := by
  obtain ⟨hx, hb, hml, hown, hg, hX, hbl, hK, hN, hZ0⟩ := C
  obtain ⟨hP, hD, hS, hU, hM⟩ := hI
  obtain ⟨hs, ac, n, la, T⟩ := a
  obtain ⟨am, at2, ic, sa, ip, tk, um, ut, L9, f⟩ := cu
  obtain ⟨nu, ki, th, ot, vs, av, pl, ps, ts, fr, bk, ce, co, ro, le, dn, un⟩ := cm
  have hla : la ≤ t := hla
  have hla9 : la + 1 < 100000 := by omega
  have hH : hi_ hs n la := hU.1.1
  have hP : va_P D cls_ (((wU cA au (am 0) (at2 0) (nI n) (nI la) ic (nI T.length) sa ip tk) ++ ((wq_ cA am um) ++ ((wq_ cA at2 ut) ++ (va_pl L9 f)))) ++ (wM cA ay (nI n) (nI la) nu ki th ot vs av pl ps (nI T.length) ts fr bk ce co ro le dn un)) H := hP
  have hD : va_D (fun q => s.heap.size ≤ q) (((wU cA au (am 0) (at2 0) (nI n) (nI la) ic (nI T.length) sa ip tk) ++ ((wq_ cA am um) ++ ((wq_ cA at2 ut) ++ (va_pl L9 f)))) ++ (wM cA ay (nI n) (nI la) nu ki th ot vs av pl ps (nI T.length) ts fr bk ce co ro le dn un)) := hD
  refine lv_aload_n hx hb d_L_law_283 rfl (lv_at hl 1 rfl) ?_
  refine lv_aload_n hx hb d_L_law_284 rfl (lv_at hl 0 rfl) ?_
  refine lv_iload_n hx hb d_L_law_285 rfl (lv_at hl 3 rfl) ?_
  refine lv_iconst (v := 1) hx hb d_L_law_286 (by decide) ?_
  refine lv_iadd hx hb d_L_law_287 ?_
  refine toi_ (y := nI (4 * t + 1)) (nI_1 _) ?_
  refine va_sld hx hb hX hbl (Nat.not_le.mpr hbl) hS (vp_in_nI (n := 4 * t + 1) (N := L) (by omega) (by omega)) d_L_law_288 ?_
  refine toi_ (y := xs (4 * t + 1)) (by rw [nI_clamp (by omega)]) ?_
  refine lv_aload_n hx hb d_L_law_289 rfl (lv_at hl 0 rfl) ?_
  refine lv_iload_n hx hb d_L_law_290 rfl (lv_at hl 3 rfl) ?_
  refine lv_iconst (v := 2) hx hb d_L_law_291 (by decide) ?_
  refine lv_iadd hx hb d_L_law_292 ?_
  refine toi_ (y := nI (4 * t + 2)) (nI_p2 _) ?_
  refine va_sld hx hb hX hbl (Nat.not_le.mpr hbl) hS (vp_in_nI (n := 4 * t + 2) (N := L) (by omega) (by omega)) d_L_law_293 ?_
  refine toi_ (y := xs (4 * t + 2)) (by rw [nI_clamp (by omega)]) ?_
  have hZ := (hZ0.kept hS.2.1).narrow (fr_ hD hS (fun q h => h))
  refine mu_i (w := ((wU cA au (am 0) (at2 0) (nI n) (nI la) ic (nI T.length) sa ip tk) ++ ((wq_ cA am um) ++ ((wq_ cA at2 ut) ++ (va_pl L9 f))))) (wr := (wM cA ay (nI n) (nI la) nu ki th ot vs av pl ps (nI T.length) ts fr bk ce co ro le dn un)) (va_runV (C := RU) (As := [.int (xs (4 * t + 1)), .int (xs (4 * t + 2))]) (rest := []) ⟨hx, hb, hml, hown, hg⟩ (m_U_remove l D cA H.size au am at2 ic sa ip tk um ut L9 f hs ac n la T np (xs (4 * t + 1)) (xs (4 * t + 2)) hU hla9) (cwV 2 hg (gd_V ml_L_30 im_U_remove sl_U_remove ini_U cd_U_remove) rfl rfl rfl (by decide +kernel) ⟨Nat.le_of_ble_eq_true rfl, Nat.le_of_ble_eq_true rfl⟩) (pv_z (va_recv (q0 := 0) (ci := 2) hK hP rfl rfl) (wp_l hP) hK hN (wd_l hD) hZ) rfl rfl hl.1 rfl (lv_room (Nat.le_of_ble_eq_true rfl)) d_L_law_294 ⟨(show 42 + 2 * t + 1 ≤ 600000 by omega), (show 12098 + 47 * t + 7 ≤ 7302250 by omega)⟩) hP hD hS (fun q h => h) (fun r1 u1 H locs hp1 hP hD hS => ?_)
  refine lv_aload_n hx hb d_L_law_297 rfl (lv_at hl 2 rfl) ?_
  refine lv_aload_n hx hb d_L_law_298 rfl (lv_at hl 0 rfl) ?_
  refine lv_iload_n hx hb d_L_law_299 rfl (lv_at hl 3 rfl) ?_
  refine lv_iconst (v := 1) hx hb d_L_law_300 (by decide) ?_
  refine lv_iadd hx hb d_L_law_301 ?_
  refine toi_ (y := nI (4 * t + 1)) (nI_1 _) ?_
  refine va_sld hx hb hX hbl (Nat.not_le.mpr hbl) hS (vp_in_nI (n := 4 * t + 1) (N := L) (by omega) (by omega)) d_L_law_302 ?_
  refine toi_ (y := xs (4 * t + 1)) (by rw [nI_clamp (by omega)]) ?_
  refine lv_aload_n hx hb d_L_law_303 rfl (lv_at hl 0 rfl) ?_
  refine lv_iload_n hx hb d_L_law_304 rfl (lv_at hl 3 rfl) ?_
  refine lv_iconst (v := 2) hx hb d_L_law_305 (by decide) ?_
  refine lv_iadd hx hb d_L_law_306 ?_
  refine toi_ (y := nI (4 * t + 2)) (nI_p2 _) ?_
  refine va_sld hx hb hX hbl (Nat.not_le.mpr hbl) hS (vp_in_nI (n := 4 * t + 2) (N := L) (by omega) (by omega)) d_L_law_307 ?_
  refine toi_ (y := xs (4 * t + 2)) (by rw [nI_clamp (by omega)]) ?_
  have hP := wp_pm List.perm_append_comm hP
  have hD := wd_pm List.perm_append_comm hD
  refine mu_i (w := (wM cA ay (nI n) (nI la) nu ki th ot vs av pl ps (nI T.length) ts fr bk ce co ro le dn un)) (wr := wX cA au (sp_remove (hs, ac, n, la, T) (xs (4 * t + 1)) (xs (4 * t + 2))).2 u1) (va_runV (C := RM) (As := [.int (xs (4 * t + 1)), .int (xs (4 * t + 2))]) (rest := [.int r1]) ⟨hx, hb, hml, hown, hg⟩ (m_M_remove l D cA H.size ay nu ki th ot vs av pl ps ts fr bk ce co ro le dn un hs ac n la T (xs (4 * t + 1)) (xs (4 * t + 2)) hM hU.1 hla9) (cwV 2 hg (gd_V ml_L_33 im_M_remove sl_M_remove ini_M cd_M_remove) rfl rfl rfl (by decide +kernel) ⟨Nat.le_of_ble_eq_true rfl, Nat.le_of_ble_eq_true rfl⟩) (pv_m (va_recv (q0 := 0) (ci := 3) hK hP rfl rfl) (wp_l hP) hK hN (wd_l hD)) rfl rfl hl.1 rfl (lv_room (Nat.le_of_ble_eq_true rfl)) d_L_law_308 ⟨(show 42 + 2 * t + 1 + 0 ≤ 600000 by omega), (show 12098 + 47 * t + 7 + 0 ≤ 7302250 by omega)⟩) hP hD hS (fun q h => h) (fun r2 u2 H locs hp2 hP hD hS => ?_)
  have hP := wp_pm List.perm_append_comm hP
  have hD := wd_pm List.perm_append_comm hD
  refine lv_icmp_eq (tgt := 833) hx hb d_L_law_311 (by decide) (fun h311 => ?_) (fun h311 => ?_)
  · skip
    refine W.widen (k := 42 + 2 * (t + 1)) (n := 12098 + 47 * (t + 1)) (by omega) (by omega) ?_
    exact kk ((sp_remove (hs, ac, n, la, T) (xs (4 * t + 1)) (xs (4 * t + 2))).2) u1 u2 H locs (Nat.le_trans (la_if (hs, ac, n, la, T) _) (Nat.succ_le_succ hla)) ⟨hP, hD, hS, hp1.2, hp2.2⟩
  · skip
    exact absurd (hp1.1.trans hp2.1.symm) h311

set_option maxHeartbeats 4000000 in
set_option maxRecDepth 100000 in
theorem lc_move {p : Program} {l : Launch} {e : Env} {s : State} {m : MethodId} {below : List Frame} {meth : Method} {c : Code} {b L : Nat} {xs : Nat → Int32} {D : va_G} {cA : Nat → ClassId} {np : Nat} {au ay : Nat → Nat} {a : ab_T} {cu : uc_T} {cm : mc_T} {H : Heap} {locs : List Loc} {ls : Array Slot} {t : Nat} {Q : State → Prop} (C : LC p s m c b L xs D cA np) (hL : L ≤ 2048) (ht : 4 * t + 4 ≤ L) (hla : a.2.2.2.1 ≤ t) (hI : LI s D cA au ay a cu cm H locs) (hl : lv_has ls 4 [(0, .ref b), (1, .ref (au 0)), (2, .ref (ay 0)), (3, .int (nI (4 * t)))])
    (kk : ∀ (a : ab_T) (cu : uc_T) (cm : mc_T) (H : Heap) (locs : List Loc), a.2.2.2.1 ≤ t + 1 → LI s D cA au ay a cu cm H locs → W p l e room_1 s m #[Value.ref b] below meth c H locs (42 + 2 * (t + 1)) (12098 + 47 * (t + 1)) Q (F0 m 833 ls [])) : W p l e room_1 s m #[Value.ref b] below meth c H locs (42 + 2 * t) (12098 + 47 * t) Q (F0 m 316 ls []) := by
  obtain ⟨hx, hb, hml, hown, hg, hX, hbl, hK, hN, hZ0⟩ := C
  obtain ⟨hP, hD, hS, hU, hM⟩ := hI
  obtain ⟨hs, ac, n, la, T⟩ := a
  obtain ⟨am, at2, ic, sa, ip, tk, um, ut, L9, f⟩ := cu
  obtain ⟨nu, ki, th, ot, vs, av, pl, ps, ts, fr, bk, ce, co, ro, le, dn, un⟩ := cm
  have hla : la ≤ t := hla
  have hla9 : la + 1 < 100000 := by omega
  have hH : hi_ hs n la := hU.1.1
  have hP : va_P D cls_ (((wU cA au (am 0) (at2 0) (nI n) (nI la) ic (nI T.length) sa ip tk) ++ ((wq_ cA am um) ++ ((wq_ cA at2 ut) ++ (va_pl L9 f)))) ++ (wM cA ay (nI n) (nI la) nu ki th ot vs av pl ps (nI T.length) ts fr bk ce co ro le dn un)) H := hP
  have hD : va_D (fun q => s.heap.size ≤ q) (((wU cA au (am 0) (at2 0) (nI n) (nI la) ic (nI T.length) sa ip tk) ++ ((wq_ cA am um) ++ ((wq_ cA at2 ut) ++ (va_pl L9 f)))) ++ (wM cA ay (nI n) (nI la) nu ki th ot vs av pl ps (nI T.length) ts fr bk ce co ro le dn un)) := hD
  refine lv_aload_n hx hb d_L_law_316 rfl (lv_at hl 1 rfl) ?_
  refine lv_aload_n hx hb d_L_law_317 rfl (lv_at hl 0 rfl) ?_
  refine lv_iload_n hx hb d_L_law_318 rfl (lv_at hl 3 rfl) ?_
  refine lv_iconst (v := 1) hx hb d_L_law_319 (by decide) ?_
  refine lv_iadd hx hb d_L_law_320 ?_
  refine toi_ (y := nI (4 * t + 1)) (nI_1 _) ?_
  refine va_sld hx hb hX hbl (Nat.not_le.mpr hbl) hS (vp_in_nI (n := 4 * t + 1) (N := L) (by omega) (by omega)) d_L_law_321 ?_
  refine toi_ (y := xs (4 * t + 1)) (by rw [nI_clamp (by omega)]) ?_
  refine lv_aload_n hx hb d_L_law_322 rfl (lv_at hl 0 rfl) ?_
  refine lv_iload_n hx hb d_L_law_323 rfl (lv_at hl 3 rfl) ?_
  refine lv_iconst (v := 2) hx hb d_L_law_324 (by decide) ?_
  refine lv_iadd hx hb d_L_law_325 ?_
  refine toi_ (y := nI (4 * t + 2)) (nI_p2 _) ?_
  refine va_sld hx hb hX hbl (Nat.not_le.mpr hbl) hS (vp_in_nI (n := 4 * t + 2) (N := L) (by omega) (by omega)) d_L_law_326 ?_
  refine toi_ (y := xs (4 * t + 2)) (by rw [nI_clamp (by omega)]) ?_
  refine lv_aload_n hx hb d_L_law_327 rfl (lv_at hl 0 rfl) ?_
  refine lv_iload_n hx hb d_L_law_328 rfl (lv_at hl 3 rfl) ?_
  refine lv_iconst (v := 3) hx hb d_L_law_329 (by decide) ?_
  refine lv_iadd hx hb d_L_law_330 ?_
  refine toi_ (y := nI (4 * t + 3)) (nI_p3 _) ?_
  refine va_sld hx hb hX hbl (Nat.not_le.mpr hbl) hS (vp_in_nI (n := 4 * t + 3) (N := L) (by omega) (by omega)) d_L_law_331 ?_
  refine toi_ (y := xs (4 * t + 3)) (by rw [nI_clamp (by omega)]) ?_
  refine mu_i (w := ((wU cA au (am 0) (at2 0) (nI n) (nI la) ic (nI T.length) sa ip tk) ++ ((wq_ cA am um) ++ ((wq_ cA at2 ut) ++ (va_pl L9 f))))) (wr := (wM cA ay (nI n) (nI la) nu ki th ot vs av pl ps (nI T.length) ts fr bk ce co ro le dn un)) (va_runV (C := RU) (As := [.int (xs (4 * t + 1)), .int (xs (4 * t + 2)), .int (xs (4 * t + 3))]) (rest := []) ⟨hx, hb, hml, hown, hg⟩ (m_U_move l D cA H.size au am at2 ic sa ip tk um ut L9 f hs ac n la T (xs (4 * t + 1)) (xs (4 * t + 2)) (xs (4 * t + 3)) hU hla9) (cwV 3 hg (gd_V ml_L_34 im_U_move sl_U_move ini_U cd_U_move) rfl rfl rfl (by decide +kernel) ⟨Nat.le_of_ble_eq_true rfl, Nat.le_of_ble_eq_true rfl⟩) (pv_m (va_recv (q0 := 0) (ci := 2) hK hP rfl rfl) (wp_l hP) hK hN (wd_l hD)) rfl rfl hl.1 rfl (lv_room (Nat.le_of_ble_eq_true rfl)) d_L_law_332 ⟨(show 42 + 2 * t + 2 ≤ 600000 by omega), (show 12098 + 47 * t + 47 ≤ 7302250 by omega)⟩) hP hD hS (fun q h => h) (fun r1 u1 H locs hp1 hP hD hS => ?_)
  refine lv_aload_n hx hb d_L_law_335 rfl (lv_at hl 2 rfl) ?_
  refine lv_aload_n hx hb d_L_law_336 rfl (lv_at hl 0 rfl) ?_
  refine lv_iload_n hx hb d_L_law_337 rfl (lv_at hl 3 rfl) ?_
  refine lv_iconst (v := 1) hx hb d_L_law_338 (by decide) ?_
  refine lv_iadd hx hb d_L_law_339 ?_
  refine toi_ (y := nI (4 * t + 1)) (nI_1 _) ?_
  refine va_sld hx hb hX hbl (Nat.not_le.mpr hbl) hS (vp_in_nI (n := 4 * t + 1) (N := L) (by omega) (by omega)) d_L_law_340 ?_
  refine toi_ (y := xs (4 * t + 1)) (by rw [nI_clamp (by omega)]) ?_
  refine lv_aload_n hx hb d_L_law_341 rfl (lv_at hl 0 rfl) ?_
  refine lv_iload_n hx hb d_L_law_342 rfl (lv_at hl 3 rfl) ?_
  refine lv_iconst (v := 2) hx hb d_L_law_343 (by decide) ?_
  refine lv_iadd hx hb d_L_law_344 ?_
  refine toi_ (y := nI (4 * t + 2)) (nI_p2 _) ?_
  refine va_sld hx hb hX hbl (Nat.not_le.mpr hbl) hS (vp_in_nI (n := 4 * t + 2) (N := L) (by omega) (by omega)) d_L_law_345 ?_
  refine toi_ (y := xs (4 * t + 2)) (by rw [nI_clamp (by omega)]) ?_
  refine lv_aload_n hx hb d_L_law_346 rfl (lv_at hl 0 rfl) ?_
  refine lv_iload_n hx hb d_L_law_347 rfl (lv_at hl 3 rfl) ?_
  refine lv_iconst (v := 3) hx hb d_L_law_348 (by decide) ?_
  refine lv_iadd hx hb d_L_law_349 ?_
  refine toi_ (y := nI (4 * t + 3)) (nI_p3 _) ?_
  refine va_sld hx hb hX hbl (Nat.not_le.mpr hbl) hS (vp_in_nI (n := 4 * t + 3) (N := L) (by omega) (by omega)) d_L_law_350 ?_
  refine toi_ (y := xs (4 * t + 3)) (by rw [nI_clamp (by omega)]) ?_
  have hP := wp_pm List.perm_append_comm hP
  have hD := wd_pm List.perm_append_comm hD
  refine mu_i (w := (wM cA ay (nI n) (nI la) nu ki th ot vs av pl ps (nI T.length) ts fr bk ce co ro le dn un)) (wr := wX cA au (sp_move (hs, ac, n, la, T) (xs (4 * t + 1)) (xs (4 * t + 2)) (xs (4 * t + 3))).2 u1) (va_runV (C := RM) (As := [.int (xs (4 * t + 1)), .int (xs (4 * t + 2)), .int (xs (4 * t + 3))]) (rest := [.int r1]) ⟨hx, hb, hml, hown, hg⟩ (m_M_move l D cA H.size ay nu ki th ot vs av pl ps ts fr bk ce co ro le dn un hs ac n la T (xs (4 * t + 1)) (xs (4 * t + 2)) (xs (4 * t + 3)) hM hU.1 hla9) (cwV 3 hg (gd_V ml_L_37 im_M_move sl_M_move ini_M cd_M_move) rfl rfl rfl (by decide +kernel) ⟨Nat.le_of_ble_eq_true rfl, Nat.le_of_ble_eq_true rfl⟩) (pv_m (va_recv (q0 := 0) (ci := 3) hK hP rfl rfl) (wp_l hP) hK hN (wd_l hD)) rfl rfl hl.1 rfl (lv_room (Nat.le_of_ble_eq_true rfl)) d_L_law_351 ⟨(show 42 + 2 * t + 2 + 0 ≤ 600000 by omega), (show 12098 + 47 * t + 47 + 0 ≤ 7302250 by omega)⟩) hP hD hS (fun q h => h) (fun r2 u2 H locs hp2 hP hD hS => ?_)
  have hP := wp_pm List.perm_append_comm hP
  have hD := wd_pm List.perm_append_comm hD
  refine lv_icmp_eq (tgt := 833) hx hb d_L_law_354 (by decide) (fun h354 => ?_) (fun h354 => ?_)
  · skip
    refine W.widen (k := 42 + 2 * (t + 1)) (n := 12098 + 47 * (t + 1)) (by omega) (by omega) ?_
    exact kk ((sp_move (hs, ac, n, la, T) (xs (4 * t + 1)) (xs (4 * t + 2)) (xs (4 * t + 3))).2) u1 u2 H locs (Nat.le_trans (la_if (hs, ac, n, la, T) _) (Nat.succ_le_succ hla)) ⟨hP, hD, hS, hp1.2, hp2.2⟩
  · skip
    exact absurd (hp1.1.trans hp2.1.symm) h354

set_option maxHeartbeats 4000000 in
set_option maxRecDepth 100000 in
theorem lc_node {p : Program} {l : Launch} {e : Env} {s : State} {m : MethodId} {below : List Frame} {meth : Method} {c : Code} {b L : Nat} {xs : Nat → Int32} {D : va_G} {cA : Nat → ClassId} {np : Nat} {au ay : Nat → Nat} {a : ab_T} {cu : uc_T} {cm : mc_T} {H : Heap} {locs : List Loc} {ls : Array Slot} {t : Nat} {Q : State → Prop} (C : LC p s m c b L xs D cA np) (hL : L ≤ 2048) (ht : 4 * t + 4 ≤ L) (hla : a.2.2.2.1 ≤ t) (hI : LI s D cA au ay a cu cm H locs) (hl : lv_has ls 4 [(0, .ref b), (1, .ref (au 0)), (2, .ref (ay 0)), (3, .int (nI (4 * t)))])
    (kk : ∀ (a : ab_T) (cu : uc_T) (cm : mc_T) (H : Heap) (locs : List Loc), a.2.2.2.1 ≤ t + 1 → LI s D cA au ay a cu cm H locs → W p l e room_1 s m #[Value.ref b] below meth c H locs (42 + 2 * (t + 1)) (12098 + 47 * (t + 1)) Q (F0 m 833 ls [])) : W p l e room_1 s m #[Value.ref b] below meth c H locs (42 + 2 * t) (12098 + 47 * t) Q (F0 m 359 ls []) := by
  obtain ⟨hx, hb, hml, hown, hg, hX, hbl, hK, hN, hZ0⟩ := C
  obtain ⟨hP, hD, hS, hU, hM⟩ := hI
  obtain ⟨hs, ac, n, la, T⟩ := a
  obtain ⟨am, at2, ic, sa, ip, tk, um, ut, L9, f⟩ := cu
  obtain ⟨nu, ki, th, ot, vs, av, pl, ps, ts, fr, bk, ce, co, ro, le, dn, un⟩ := cm
  have hla : la ≤ t := hla
  have hla9 : la + 1 < 100000 := by omega
  have hH : hi_ hs n la := hU.1.1
  have hP : va_P D cls_ (((wU cA au (am 0) (at2 0) (nI n) (nI la) ic (nI T.length) sa ip tk) ++ ((wq_ cA am um) ++ ((wq_ cA at2 ut) ++ (va_pl L9 f)))) ++ (wM cA ay (nI n) (nI la) nu ki th ot vs av pl ps (nI T.length) ts fr bk ce co ro le dn un)) H := hP
  have hD : va_D (fun q => s.heap.size ≤ q) (((wU cA au (am 0) (at2 0) (nI n) (nI la) ic (nI T.length) sa ip tk) ++ ((wq_ cA am um) ++ ((wq_ cA at2 ut) ++ (va_pl L9 f)))) ++ (wM cA ay (nI n) (nI la) nu ki th ot vs av pl ps (nI T.length) ts fr bk ce co ro le dn un)) := hD
  refine lv_aload_n hx hb d_L_law_359 rfl (lv_at hl 1 rfl) ?_
  refine lv_aload_n hx hb d_L_law_360 rfl (lv_at hl 0 rfl) ?_
  refine lv_iload_n hx hb d_L_law_361 rfl (lv_at hl 3 rfl) ?_
  refine lv_iconst (v := 1) hx hb d_L_law_362 (by decide) ?_
  refine lv_iadd hx hb d_L_law_363 ?_
  refine toi_ (y := nI (4 * t + 1)) (nI_1 _) ?_
  refine va_sld hx hb hX hbl (Nat.not_le.mpr hbl) hS (vp_in_nI (n := 4 * t + 1) (N := L) (by omega) (by omega)) d_L_law_364 ?_
  refine toi_ (y := xs (4 * t + 1)) (by rw [nI_clamp (by omega)]) ?_
  have hZ := (hZ0.kept hS.2.1).narrow (fr_ hD hS (fun q h => h))
  refine mu_i (w := ((wU cA au (am 0) (at2 0) (nI n) (nI la) ic (nI T.length) sa ip tk) ++ ((wq_ cA am um) ++ ((wq_ cA at2 ut) ++ (va_pl L9 f))))) (wr := (wM cA ay (nI n) (nI la) nu ki th ot vs av pl ps (nI T.length) ts fr bk ce co ro le dn un)) (va_runV (C := RU) (As := [.int (xs (4 * t + 1))]) (rest := []) ⟨hx, hb, hml, hown, hg⟩ (m_U_node l D cA H.size au am at2 ic sa ip tk um ut L9 f hs ac n la T np (xs (4 * t + 1)) hU hla9) (cwV 1 hg (gd_V ml_L_38 im_U_node sl_U_node ini_U cd_U_node) rfl rfl rfl (by decide +kernel) ⟨Nat.le_of_ble_eq_true rfl, Nat.le_of_ble_eq_true rfl⟩) (pv_z (va_recv (q0 := 0) (ci := 2) hK hP rfl rfl) (wp_l hP) hK hN (wd_l hD) hZ) rfl rfl hl.1 rfl (lv_room (Nat.le_of_ble_eq_true rfl)) d_L_law_365 ⟨(show 42 + 2 * t + 1 ≤ 600000 by omega), (show 12098 + 47 * t + 7 ≤ 7302250 by omega)⟩) hP hD hS (fun q h => h) (fun r1 u1 H locs hp1 hP hD hS => ?_)
  refine lv_aload_n hx hb d_L_law_368 rfl (lv_at hl 2 rfl) ?_
  refine lv_aload_n hx hb d_L_law_369 rfl (lv_at hl 0 rfl) ?_
  refine lv_iload_n hx hb d_L_law_370 rfl (lv_at hl 3 rfl) ?_
  refine lv_iconst (v := 1) hx hb d_L_law_371 (by decide) ?_
  refine lv_iadd hx hb d_L_law_372 ?_
  refine toi_ (y := nI (4 * t + 1)) (nI_1 _) ?_
  refine va_sld hx hb hX hbl (Nat.not_le.mpr hbl) hS (vp_in_nI (n := 4 * t + 1) (N := L) (by omega) (by omega)) d_L_law_373 ?_
  refine toi_ (y := xs (4 * t + 1)) (by rw [nI_clamp (by omega)]) ?_
  have hP := wp_pm List.perm_append_comm hP
  have hD := wd_pm List.perm_append_comm hD
  refine mu_i (w := (wM cA ay (nI n) (nI la) nu ki th ot vs av pl ps (nI T.length) ts fr bk ce co ro le dn un)) (wr := wX cA au (sp_node (hs, ac, n, la, T) (xs (4 * t + 1))).2 u1) (va_runV (C := RM) (As := [.int (xs (4 * t + 1))]) (rest := [.int r1]) ⟨hx, hb, hml, hown, hg⟩ (m_M_node l D cA H.size ay nu ki th ot vs av pl ps ts fr bk ce co ro le dn un hs ac n la T (xs (4 * t + 1)) hM hU.1 hla9) (cwV 1 hg (gd_V ml_L_42 im_M_node sl_M_node ini_M cd_M_node) rfl rfl rfl (by decide +kernel) ⟨Nat.le_of_ble_eq_true rfl, Nat.le_of_ble_eq_true rfl⟩) (pv_m (va_recv (q0 := 0) (ci := 3) hK hP rfl rfl) (wp_l hP) hK hN (wd_l hD)) rfl rfl hl.1 rfl (lv_room (Nat.le_of_ble_eq_true rfl)) d_L_law_374 ⟨(show 42 + 2 * t + 1 + 0 ≤ 600000 by omega), (show 12098 + 47 * t + 7 + 0 ≤ 7302250 by omega)⟩) hP hD hS (fun q h => h) (fun r2 u2 H locs hp2 hP hD hS => ?_)
  have hP := wp_pm List.perm_append_comm hP
  have hD := wd_pm List.perm_append_comm hD
  refine lv_icmp_eq (tgt := 833) hx hb d_L_law_377 (by decide) (fun h377 => ?_) (fun h377 => ?_)
  · skip
    refine W.widen (k := 42 + 2 * (t + 1)) (n := 12098 + 47 * (t + 1)) (by omega) (by omega) ?_
    exact kk ((sp_node (hs, ac, n, la, T) (xs (4 * t + 1))).2) u1 u2 H locs (Nat.le_trans (la_if (hs, ac, n, la, T) _) (Nat.succ_le_succ hla)) ⟨hP, hD, hS, hp1.2, hp2.2⟩
  · skip
    exact absurd (hp1.1.trans hp2.1.symm) h377

set_option maxHeartbeats 4000000 in
set_option maxRecDepth 100000 in
theorem lc_unlink {p : Program} {l : Launch} {e : Env} {s : State} {m : MethodId} {below : List Frame} {meth : Method} {c : Code} {b L : Nat} {xs : Nat → Int32} {D : va_G} {cA : Nat → ClassId} {np : Nat} {au ay : Nat → Nat} {a : ab_T} {cu : uc_T} {cm : mc_T} {H : Heap} {locs : List Loc} {ls : Array Slot} {t : Nat} {Q : State → Prop} (C : LC p s m c b L xs D cA np) (hL : L ≤ 2048) (ht : 4 * t + 4 ≤ L) (hla : a.2.2.2.1 ≤ t) (hI : LI s D cA au ay a cu cm H locs) (hl : lv_has ls 4 [(0, .ref b), (1, .ref (au 0)), (2, .ref (ay 0)), (3, .int (nI (4 * t)))])
    (kk : ∀ (a : ab_T) (cu : uc_T) (cm : mc_T) (H : Heap) (locs : List Loc), a.2.2.2.1 ≤ t + 1 → LI s D cA au ay a cu cm H locs → W p l e room_1 s m #[Value.ref b] below meth c H locs (42 + 2 * (t + 1)) (12098 + 47 * (t + 1)) Q (F0 m 833 ls [])) : W p l e room_1 s m #[Value.ref b] below meth c H locs (42 + 2 * t) (12098 + 47 * t) Q (F0 m 382 ls []) := by
  obtain ⟨hx, hb, hml, hown, hg, hX, hbl, hK, hN, hZ0⟩ := C
  obtain ⟨hP, hD, hS, hU, hM⟩ := hI
  obtain ⟨hs, ac, n, la, T⟩ := a
  obtain ⟨am, at2, ic, sa, ip, tk, um, ut, L9, f⟩ := cu
  obtain ⟨nu, ki, th, ot, vs, av, pl, ps, ts, fr, bk, ce, co, ro, le, dn, un⟩ := cm
  have hla : la ≤ t := hla
  have hla9 : la + 1 < 100000 := by omega
  have hH : hi_ hs n la := hU.1.1
  have hP : va_P D cls_ (((wU cA au (am 0) (at2 0) (nI n) (nI la) ic (nI T.length) sa ip tk) ++ ((wq_ cA am um) ++ ((wq_ cA at2 ut) ++ (va_pl L9 f)))) ++ (wM cA ay (nI n) (nI la) nu ki th ot vs av pl ps (nI T.length) ts fr bk ce co ro le dn un)) H := hP
  have hD : va_D (fun q => s.heap.size ≤ q) (((wU cA au (am 0) (at2 0) (nI n) (nI la) ic (nI T.length) sa ip tk) ++ ((wq_ cA am um) ++ ((wq_ cA at2 ut) ++ (va_pl L9 f)))) ++ (wM cA ay (nI n) (nI la) nu ki th ot vs av pl ps (nI T.length) ts fr bk ce co ro le dn un)) := hD
  refine lv_aload_n hx hb d_L_law_382 rfl (lv_at hl 1 rfl) ?_
  refine lv_aload_n hx hb d_L_law_383 rfl (lv_at hl 0 rfl) ?_
  refine lv_iload_n hx hb d_L_law_384 rfl (lv_at hl 3 rfl) ?_
  refine lv_iconst (v := 1) hx hb d_L_law_385 (by decide) ?_
  refine lv_iadd hx hb d_L_law_386 ?_
  refine toi_ (y := nI (4 * t + 1)) (nI_1 _) ?_
  refine va_sld hx hb hX hbl (Nat.not_le.mpr hbl) hS (vp_in_nI (n := 4 * t + 1) (N := L) (by omega) (by omega)) d_L_law_387 ?_
  refine toi_ (y := xs (4 * t + 1)) (by rw [nI_clamp (by omega)]) ?_
  have hZ := (hZ0.kept hS.2.1).narrow (fr_ hD hS (fun q h => h))
  refine mu_i (w := ((wU cA au (am 0) (at2 0) (nI n) (nI la) ic (nI T.length) sa ip tk) ++ ((wq_ cA am um) ++ ((wq_ cA at2 ut) ++ (va_pl L9 f))))) (wr := (wM cA ay (nI n) (nI la) nu ki th ot vs av pl ps (nI T.length) ts fr bk ce co ro le dn un)) (va_runV (C := RU) (As := [.int (xs (4 * t + 1))]) (rest := []) ⟨hx, hb, hml, hown, hg⟩ (m_U_unlink l D cA H.size au am at2 ic sa ip tk um ut L9 f hs ac n la T np (xs (4 * t + 1)) hU hla9) (cwV 1 hg (gd_V ml_L_43 im_U_unlink sl_U_unlink ini_U cd_U_unlink) rfl rfl rfl (by decide +kernel) ⟨Nat.le_of_ble_eq_true rfl, Nat.le_of_ble_eq_true rfl⟩) (pv_z (va_recv (q0 := 0) (ci := 2) hK hP rfl rfl) (wp_l hP) hK hN (wd_l hD) hZ) rfl rfl hl.1 rfl (lv_room (Nat.le_of_ble_eq_true rfl)) d_L_law_388 ⟨(show 42 + 2 * t + 1 ≤ 600000 by omega), (show 12098 + 47 * t + 7 ≤ 7302250 by omega)⟩) hP hD hS (fun q h => h) (fun r1 u1 H locs hp1 hP hD hS => ?_)
  refine lv_aload_n hx hb d_L_law_391 rfl (lv_at hl 2 rfl) ?_
  refine lv_aload_n hx hb d_L_law_392 rfl (lv_at hl 0 rfl) ?_
  refine lv_iload_n hx hb d_L_law_393 rfl (lv_at hl 3 rfl) ?_
  refine lv_iconst (v := 1) hx hb d_L_law_394 (by decide) ?_
  refine lv_iadd hx hb d_L_law_395 ?_
  refine toi_ (y := nI (4 * t + 1)) (nI_1 _) ?_
  refine va_sld hx hb hX hbl (Nat.not_le.mpr hbl) hS (vp_in_nI (n := 4 * t + 1) (N := L) (by omega) (by omega)) d_L_law_396 ?_
  refine toi_ (y := xs (4 * t + 1)) (by rw [nI_clamp (by omega)]) ?_
  have hP := wp_pm List.perm_append_comm hP
  have hD := wd_pm List.perm_append_comm hD
  refine mu_i (w := (wM cA ay (nI n) (nI la) nu ki th ot vs av pl ps (nI T.length) ts fr bk ce co ro le dn un)) (wr := wX cA au (sp_unlink (hs, ac, n, la, T) (xs (4 * t + 1))).2 u1) (va_runV (C := RM) (As := [.int (xs (4 * t + 1))]) (rest := [.int r1]) ⟨hx, hb, hml, hown, hg⟩ (m_M_unlink l D cA H.size ay nu ki th ot vs av pl ps ts fr bk ce co ro le dn un hs ac n la T (xs (4 * t + 1)) hM hU.1 hla9) (cwV 1 hg (gd_V ml_L_46 im_M_unlink sl_M_unlink ini_M cd_M_unlink) rfl rfl rfl (by decide +kernel) ⟨Nat.le_of_ble_eq_true rfl, Nat.le_of_ble_eq_true rfl⟩) (pv_m (va_recv (q0 := 0) (ci := 3) hK hP rfl rfl) (wp_l hP) hK hN (wd_l hD)) rfl rfl hl.1 rfl (lv_room (Nat.le_of_ble_eq_true rfl)) d_L_law_397 ⟨(show 42 + 2 * t + 1 + 0 ≤ 600000 by omega), (show 12098 + 47 * t + 7 + 0 ≤ 7302250 by omega)⟩) hP hD hS (fun q h => h) (fun r2 u2 H locs hp2 hP hD hS => ?_)
  have hP := wp_pm List.perm_append_comm hP
  have hD := wd_pm List.perm_append_comm hD
  refine lv_icmp_eq (tgt := 833) hx hb d_L_law_400 (by decide) (fun h400 => ?_) (fun h400 => ?_)
  · skip
    refine W.widen (k := 42 + 2 * (t + 1)) (n := 12098 + 47 * (t + 1)) (by omega) (by omega) ?_
    exact kk ((sp_unlink (hs, ac, n, la, T) (xs (4 * t + 1))).2) u1 u2 H locs (Nat.le_trans (la_if (hs, ac, n, la, T) _) (Nat.succ_le_succ hla)) ⟨hP, hD, hS, hp1.2, hp2.2⟩
  · skip
    exact absurd (hp1.1.trans hp2.1.symm) h400

set_option maxHeartbeats 4000000 in
set_option maxRecDepth 100000 in
theorem lc_link {p : Program} {l : Launch} {e : Env} {s : State} {m : MethodId} {below : List Frame} {meth : Method} {c : Code} {b L : Nat} {xs : Nat → Int32} {D : va_G} {cA : Nat → ClassId} {np : Nat} {au ay : Nat → Nat} {a : ab_T} {cu : uc_T} {cm : mc_T} {H : Heap} {locs : List Loc} {ls : Array Slot} {t : Nat} {Q : State → Prop} (C : LC p s m c b L xs D cA np) (hL : L ≤ 2048) (ht : 4 * t + 4 ≤ L) (hla : a.2.2.2.1 ≤ t) (hI : LI s D cA au ay a cu cm H locs) (hl : lv_has ls 4 [(0, .ref b), (1, .ref (au 0)), (2, .ref (ay 0)), (3, .int (nI (4 * t)))])
    (kk : ∀ (a : ab_T) (cu : uc_T) (cm : mc_T) (H : Heap) (locs : List Loc), a.2.2.2.1 ≤ t + 1 → LI s D cA au ay a cu cm H locs → W p l e room_1 s m #[Value.ref b] below meth c H locs (42 + 2 * (t + 1)) (12098 + 47 * (t + 1)) Q (F0 m 833 ls [])) : W p l e room_1 s m #[Value.ref b] below meth c H locs (42 + 2 * t) (12098 + 47 * t) Q (F0 m 405 ls []) := by
  obtain ⟨hx, hb, hml, hown, hg, hX, hbl, hK, hN, hZ0⟩ := C
  obtain ⟨hP, hD, hS, hU, hM⟩ := hI
  obtain ⟨hs, ac, n, la, T⟩ := a
  obtain ⟨am, at2, ic, sa, ip, tk, um, ut, L9, f⟩ := cu
  obtain ⟨nu, ki, th, ot, vs, av, pl, ps, ts, fr, bk, ce, co, ro, le, dn, un⟩ := cm
  have hla : la ≤ t := hla
  have hla9 : la + 1 < 100000 := by omega
  have hH : hi_ hs n la := hU.1.1
  have hP : va_P D cls_ (((wU cA au (am 0) (at2 0) (nI n) (nI la) ic (nI T.length) sa ip tk) ++ ((wq_ cA am um) ++ ((wq_ cA at2 ut) ++ (va_pl L9 f)))) ++ (wM cA ay (nI n) (nI la) nu ki th ot vs av pl ps (nI T.length) ts fr bk ce co ro le dn un)) H := hP
  have hD : va_D (fun q => s.heap.size ≤ q) (((wU cA au (am 0) (at2 0) (nI n) (nI la) ic (nI T.length) sa ip tk) ++ ((wq_ cA am um) ++ ((wq_ cA at2 ut) ++ (va_pl L9 f)))) ++ (wM cA ay (nI n) (nI la) nu ki th ot vs av pl ps (nI T.length) ts fr bk ce co ro le dn un)) := hD
  refine lv_aload_n hx hb d_L_law_405 rfl (lv_at hl 1 rfl) ?_
  refine lv_aload_n hx hb d_L_law_406 rfl (lv_at hl 0 rfl) ?_
  refine lv_iload_n hx hb d_L_law_407 rfl (lv_at hl 3 rfl) ?_
  refine lv_iconst (v := 1) hx hb d_L_law_408 (by decide) ?_
  refine lv_iadd hx hb d_L_law_409 ?_
  refine toi_ (y := nI (4 * t + 1)) (nI_1 _) ?_
  refine va_sld hx hb hX hbl (Nat.not_le.mpr hbl) hS (vp_in_nI (n := 4 * t + 1) (N := L) (by omega) (by omega)) d_L_law_410 ?_
  refine toi_ (y := xs (4 * t + 1)) (by rw [nI_clamp (by omega)]) ?_
  refine lv_aload_n hx hb d_L_law_411 rfl (lv_at hl 0 rfl) ?_
  refine lv_iload_n hx hb d_L_law_412 rfl (lv_at hl 3 rfl) ?_
  refine lv_iconst (v := 2) hx hb d_L_law_413 (by decide) ?_
  refine lv_iadd hx hb d_L_law_414 ?_
  refine toi_ (y := nI (4 * t + 2)) (nI_p2 _) ?_
  refine va_sld hx hb hX hbl (Nat.not_le.mpr hbl) hS (vp_in_nI (n := 4 * t + 2) (N := L) (by omega) (by omega)) d_L_law_415 ?_
  refine toi_ (y := xs (4 * t + 2)) (by rw [nI_clamp (by omega)]) ?_
  have hZ := (hZ0.kept hS.2.1).narrow (fr_ hD hS (fun q h => h))
  refine mu_i (w := ((wU cA au (am 0) (at2 0) (nI n) (nI la) ic (nI T.length) sa ip tk) ++ ((wq_ cA am um) ++ ((wq_ cA at2 ut) ++ (va_pl L9 f))))) (wr := (wM cA ay (nI n) (nI la) nu ki th ot vs av pl ps (nI T.length) ts fr bk ce co ro le dn un)) (va_runV (C := RU) (As := [.int (xs (4 * t + 1)), .int (xs (4 * t + 2))]) (rest := []) ⟨hx, hb, hml, hown, hg⟩ (m_U_link l D cA H.size au am at2 ic sa ip tk um ut L9 f hs ac n la T np (xs (4 * t + 1)) (xs (4 * t + 2)) hU hla9) (cwV 2 hg (gd_V ml_L_47 im_U_link sl_U_link ini_U cd_U_link) rfl rfl rfl (by decide +kernel) ⟨Nat.le_of_ble_eq_true rfl, Nat.le_of_ble_eq_true rfl⟩) (pv_z (va_recv (q0 := 0) (ci := 2) hK hP rfl rfl) (wp_l hP) hK hN (wd_l hD) hZ) rfl rfl hl.1 rfl (lv_room (Nat.le_of_ble_eq_true rfl)) d_L_law_416 ⟨(show 42 + 2 * t + 1 ≤ 600000 by omega), (show 12098 + 47 * t + 7 ≤ 7302250 by omega)⟩) hP hD hS (fun q h => h) (fun r1 u1 H locs hp1 hP hD hS => ?_)
  refine lv_aload_n hx hb d_L_law_419 rfl (lv_at hl 2 rfl) ?_
  refine lv_aload_n hx hb d_L_law_420 rfl (lv_at hl 0 rfl) ?_
  refine lv_iload_n hx hb d_L_law_421 rfl (lv_at hl 3 rfl) ?_
  refine lv_iconst (v := 1) hx hb d_L_law_422 (by decide) ?_
  refine lv_iadd hx hb d_L_law_423 ?_
  refine toi_ (y := nI (4 * t + 1)) (nI_1 _) ?_
  refine va_sld hx hb hX hbl (Nat.not_le.mpr hbl) hS (vp_in_nI (n := 4 * t + 1) (N := L) (by omega) (by omega)) d_L_law_424 ?_
  refine toi_ (y := xs (4 * t + 1)) (by rw [nI_clamp (by omega)]) ?_
  refine lv_aload_n hx hb d_L_law_425 rfl (lv_at hl 0 rfl) ?_
  refine lv_iload_n hx hb d_L_law_426 rfl (lv_at hl 3 rfl) ?_
  refine lv_iconst (v := 2) hx hb d_L_law_427 (by decide) ?_
  refine lv_iadd hx hb d_L_law_428 ?_
  refine toi_ (y := nI (4 * t + 2)) (nI_p2 _) ?_
  refine va_sld hx hb hX hbl (Nat.not_le.mpr hbl) hS (vp_in_nI (n := 4 * t + 2) (N := L) (by omega) (by omega)) d_L_law_429 ?_
  refine toi_ (y := xs (4 * t + 2)) (by rw [nI_clamp (by omega)]) ?_
  have hP := wp_pm List.perm_append_comm hP
  have hD := wd_pm List.perm_append_comm hD
  refine mu_i (w := (wM cA ay (nI n) (nI la) nu ki th ot vs av pl ps (nI T.length) ts fr bk ce co ro le dn un)) (wr := wX cA au (sp_link (hs, ac, n, la, T) (xs (4 * t + 1)) (xs (4 * t + 2))).2 u1) (va_runV (C := RM) (As := [.int (xs (4 * t + 1)), .int (xs (4 * t + 2))]) (rest := [.int r1]) ⟨hx, hb, hml, hown, hg⟩ (m_M_link l D cA H.size ay nu ki th ot vs av pl ps ts fr bk ce co ro le dn un hs ac n la T (xs (4 * t + 1)) (xs (4 * t + 2)) hM hU.1 hla9) (cwV 2 hg (gd_V ml_L_50 im_M_link sl_M_link ini_M cd_M_link) rfl rfl rfl (by decide +kernel) ⟨Nat.le_of_ble_eq_true rfl, Nat.le_of_ble_eq_true rfl⟩) (pv_m (va_recv (q0 := 0) (ci := 3) hK hP rfl rfl) (wp_l hP) hK hN (wd_l hD)) rfl rfl hl.1 rfl (lv_room (Nat.le_of_ble_eq_true rfl)) d_L_law_430 ⟨(show 42 + 2 * t + 1 + 0 ≤ 600000 by omega), (show 12098 + 47 * t + 7 + 0 ≤ 7302250 by omega)⟩) hP hD hS (fun q h => h) (fun r2 u2 H locs hp2 hP hD hS => ?_)
  have hP := wp_pm List.perm_append_comm hP
  have hD := wd_pm List.perm_append_comm hD
  refine lv_icmp_eq (tgt := 833) hx hb d_L_law_433 (by decide) (fun h433 => ?_) (fun h433 => ?_)
  · skip
    refine W.widen (k := 42 + 2 * (t + 1)) (n := 12098 + 47 * (t + 1)) (by omega) (by omega) ?_
    exact kk ((sp_link (hs, ac, n, la, T) (xs (4 * t + 1)) (xs (4 * t + 2))).2) u1 u2 H locs (Nat.le_trans (la_if (hs, ac, n, la, T) _) (Nat.succ_le_succ hla)) ⟨hP, hD, hS, hp1.2, hp2.2⟩
  · skip
    exact absurd (hp1.1.trans hp2.1.symm) h433
