/-! Replay.begin; the constructors of Step and Replay -/
set_option maxHeartbeats 4000000 in
set_option maxRecDepth 100000 in
theorem m_R_begin (l : Launch) (D : va_G) (cA : Nat → ClassId) (sz : Nat) (ad : Nat → Nat) (ce : Nat → Int32) (co : Nat → Int64) (rw : Nat → Nat → Int32) (le el : Nat → Int32) (ec : Int32) (nd pa : Nat → Int32) (nc : Int32) : Met l y_R_begin (.code y_R_begin c_R_begin 1 none :: G_) ({ frames := 1, cells := 0, slots := 0, locals := 24 }) (va_Pc [.ref (ad 0)] (pm_ D cA (wR cA ad ce co rw le el ec nd pa nc) sz)) (va_Qv (fun (u : rs_T) => cq_ m0_ u) (bw_ D (va_A (wR cA ad ce co rw le el ec nd pa nc) sz) (wq_ cA ad)) (va_A (wR cA ad ce co rw le el ec nd pa nc) sz)) 0 0 (va_A (wR cA ad ce co rw le el ec nd pa nc) sz) := by
  refine Met.ofW (cc := c_R_begin) (maxL := 1) (ret := none) (by decide) rfl ?_
  intro p e s m args below meth c s₁ B hml hv
  obtain ⟨rfl, hsz, hP, ⟨hK, hN⟩, hD0⟩ := hv
  have hx := B.exec
  have hb := B.bytes
  have hr := B.returns
  have hts := atoms_spec (ws := (.code y_R_begin c_R_begin 1 none :: G_)) B.pre
  have hg : ∀ w ∈ G_, w.before ([.ref (ad 0)] : List Value).toArray s = true := fun w h => hts w (List.mem_cons_of_mem _ h)
  have hown : s.vm.findClass RR = some m.cls := findClass_of_methodNamed B.named
  have hlocks := B.notSynchronized
  subst hsz
  have hD := hD0.self (sz := s.heap.size)
  generalize hAe : va_A (wR cA ad ce co rw le el ec nd pa nc) s.heap.size = A at hD ⊢
  have hA : ∀ q : Nat, s.heap.size ≤ q → A q := fun q h => by rw [← hAe]; exact Or.inr h
  have hS : va_S A s.heap s.heap [] := va_S.rf
  have hl := lv_entry ([.ref (ad 0)]) (n := 1) (Nat.le_of_ble_eq_true rfl)
  rw [lg_entry_eq]
  generalize (lg_sl ([.ref (ad 0)]) ++ List.replicate (1 - (lg_sl ([.ref (ad 0)])).length) Slot.unset).toArray = ls at hl ⊢
  have hl : lv_has ls 1 [(0, .ref (ad 0))] := hl
  refine lv_aload_n hx hb d_R_begin_0 rfl (lv_at hl 0 rfl) ?_
  refine va_get (D := D) (ci := 0) (v := .ref (ad 1)) (C := RR) (T := TR) (N := 9) hx hb hg inR hown hK hP 0 rfl rfl 0 (by decide) (hg _ fl_R_9) (fun _ h9 => h9) rfl d_R_begin_1 ?_
  refine lv_iconst (v := 0) hx hb d_R_begin_4 (by decide) ?_
  refine mu1_v (k := 1) (q := ad 1) (en := .inl (cA 0, 8, .inl ce)) (e' := fun u => .inl (cA 0, 8, .inl u)) rfl (va_runS (As := [.ref (ad 1), .int 0]) (rest := []) ⟨hx, hb, hml, hown, hg⟩ (m_J_fillI l D cA s.heap.size (ad 1) 8 ce 0 (by decide)) (va_cwS 2 hg (gd_W ml_R_36 sm_J_fillI ini_J cd_J_fillI) rfl rfl rfl (by decide +kernel) ⟨Nat.le_of_ble_eq_true rfl, Nat.le_of_ble_eq_true rfl⟩) (ps_m (hP.sub (ws' := (w1I cA (ad 1) 8 ce)) [1] rfl) hK hN (hD.sub (ws' := (w1I cA (ad 1) 8 ce)) [1] (by decide) rfl)) rfl rfl hl.1 rfl (lv_room (Nat.le_of_ble_eq_true rfl)) d_R_begin_5 ⟨Nat.zero_le _, Nat.zero_le _⟩) hP hD hS hA (fun ce2 H locs hce2 hP hD hS => ?_)
  have hP : va_P D cls_ (wR cA ad ce2 co rw le el ec nd pa nc) H := hP
  have hD : va_D A (wR cA ad ce2 co rw le el ec nd pa nc) := hD
  refine lv_aload_n hx hb d_R_begin_8 rfl (lv_at hl 0 rfl) ?_
  refine va_get (D := D) (ci := 0) (v := .ref (ad 2)) (C := RR) (T := TR) (N := 9) hx hb hg inR hown hK hP 0 rfl rfl 1 (by decide) (hg _ fl_R_15) (fun _ h9 => h9) rfl d_R_begin_9 ?_
  refine lv_lconst (v := 0) hx hb d_R_begin_12 (by decide) ?_
  refine mu1_v (k := 2) (q := ad 2) (en := .inl (cA 1, 4, .inr (.inl co))) (e' := fun u => .inl (cA 1, 4, .inr (.inl u))) rfl (va_runS (As := [.ref (ad 2), .long 0]) (rest := []) ⟨hx, hb, hml, hown, hg⟩ (m_J_fillJ l D cA H.size (ad 2) 4 co 0 (by decide)) (va_cwS 2 hg (gd_W ml_R_42 sm_J_fillJ ini_J cd_J_fillJ) rfl rfl rfl (by decide +kernel) ⟨Nat.le_of_ble_eq_true rfl, Nat.le_of_ble_eq_true rfl⟩) (ps_m (hP.sub (ws' := (w1J cA (ad 2) 4 co)) [2] rfl) hK hN (hD.sub (ws' := (w1J cA (ad 2) 4 co)) [2] (by decide) rfl)) rfl rfl hl.1 rfl (lv_room (Nat.le_of_ble_eq_true rfl)) d_R_begin_13 ⟨Nat.zero_le _, Nat.zero_le _⟩) hP hD hS hA (fun co2 H locs hco2 hP hD hS => ?_)
  have hP : va_P D cls_ (wR cA ad ce2 co2 rw le el ec nd pa nc) H := hP
  have hD : va_D A (wR cA ad ce2 co2 rw le el ec nd pa nc) := hD
  refine lv_aload_n hx hb d_R_begin_16 rfl (lv_at hl 0 rfl) ?_
  refine va_get (D := D) (ci := 0) (v := .ref (ad 7)) (C := RR) (T := TR) (N := 9) hx hb hg inR hown hK hP 0 rfl rfl 3 (by decide) (hg _ fl_R_24) (fun _ h9 => h9) rfl d_R_begin_17 ?_
  refine lv_iconst (v := 0) hx hb d_R_begin_20 (by decide) ?_
  refine mu1_v (k := 7) (q := ad 7) (en := .inl (cA 0, 3, .inl le)) (e' := fun u => .inl (cA 0, 3, .inl u)) rfl (va_runS (As := [.ref (ad 7), .int 0]) (rest := []) ⟨hx, hb, hml, hown, hg⟩ (m_J_fillI l D cA H.size (ad 7) 3 le 0 (by decide)) (va_cwS 2 hg (gd_W ml_R_36 sm_J_fillI ini_J cd_J_fillI) rfl rfl rfl (by decide +kernel) ⟨Nat.le_of_ble_eq_true rfl, Nat.le_of_ble_eq_true rfl⟩) (ps_m (hP.sub (ws' := (w1I cA (ad 7) 3 le)) [7] rfl) hK hN (hD.sub (ws' := (w1I cA (ad 7) 3 le)) [7] (by decide) rfl)) rfl rfl hl.1 rfl (lv_room (Nat.le_of_ble_eq_true rfl)) d_R_begin_21 ⟨Nat.zero_le _, Nat.zero_le _⟩) hP hD hS hA (fun le2 H locs hle2 hP hD hS => ?_)
  have hP : va_P D cls_ (wR cA ad ce2 co2 rw le2 el ec nd pa nc) H := hP
  have hD : va_D A (wR cA ad ce2 co2 rw le2 el ec nd pa nc) := hD
  refine lv_aload_n hx hb d_R_begin_24 rfl (lv_at hl 0 rfl) ?_
  refine lv_iconst (v := 0) hx hb d_R_begin_25 (by decide) ?_
  refine va_put (D := D) (ci := 0) (v := .int 0) (ty := .int) (C := RR) (T := TR) (N := 9) hx hb hg inR tyR okR nmR hown hK hP hD hS 0 rfl rfl 5 (by decide) (hg _ fl_R_45) (fun _ h9 => h9) rfl (by decide +kernel) rfl rfl (Nat.le_of_ble_eq_true rfl) d_R_begin_26 (fun H locs hP hD hS => ?_)
  have hP : va_P D cls_ (wR cA ad ce2 co2 rw le2 el 0 nd pa nc) H := hP
  have hD : va_D A (wR cA ad ce2 co2 rw le2 el 0 nd pa nc) := hD
  refine lv_aload_n hx hb d_R_begin_29 rfl (lv_at hl 0 rfl) ?_
  refine lv_iconst (v := 0) hx hb d_R_begin_30 (by decide) ?_
  refine va_put (D := D) (ci := 0) (v := .int 0) (ty := .int) (C := RR) (T := TR) (N := 9) hx hb hg inR tyR okR nmR hown hK hP hD hS 0 rfl rfl 8 (by decide) (hg _ fl_R_49) (fun _ h9 => h9) rfl (by decide +kernel) rfl rfl (Nat.le_of_ble_eq_true rfl) d_R_begin_31 (fun H locs hP hD hS => ?_)
  have hP : va_P D cls_ (wR cA ad ce2 co2 rw le2 el 0 nd pa 0) H := hP
  have hD : va_D A (wR cA ad ce2 co2 rw le2 el 0 nd pa 0) := hD
  have hq : cq_ m0_ (ce2, co2, rw, le2, el, 0, nd, pa, 0) := ⟨hce2, hco2, fun r hr3 => ⟨(hle2 r hr3).trans nI_0.symm, fun i hi => absurd hi (Nat.not_lt_zero _)⟩, nI_0.symm, fun i hi => absurd hi (Nat.not_lt_zero _), nI_0.symm, fun i hi => absurd hi (Nat.not_lt_zero _), fun i hi => absurd hi (Nat.not_lt_zero _)⟩
  exact W.vret hx hb hr (fun t ht hW => ⟨⟨(ce2, co2, rw, le2, el, 0, nd, pa, 0), rfl, hq, by rw [ht]; exact hP, hD⟩, hS.F ht⟩) hS.2.2 d_R_begin_34

set_option maxHeartbeats 4000000 in
set_option maxRecDepth 100000 in
theorem m_S_init (l : Launch) (D : va_G) (cA : Nat → ClassId) (sz : Nat) (h0 pl : Nat) (x : st_T) : Met l y_S_init (.code y_S_init c_S_init 8 none :: G_) ({ frames := 1, cells := 0, slots := 0, locals := 12 }) (va_Pc [.ref h0, .int (s_n x), .int (s_k x), .int (s_t x), .int (s_m x), .long (s_a x), .ref pl] (pm_ D cA [(h0, .inr (1, [.int 0, .int 0, .int 0, .int 0, .long 0, .null, .int 0]))] sz)) (va_Qv (fun (u : Unit) => True) (bw_ D (va_A [(h0, .inr (1, [.int 0, .int 0, .int 0, .int 0, .long 0, .null, .int 0]))] sz) (fun _ => [(h0, cS x pl true)])) (va_A [(h0, .inr (1, [.int 0, .int 0, .int 0, .int 0, .long 0, .null, .int 0]))] sz)) 0 0 (va_A [(h0, .inr (1, [.int 0, .int 0, .int 0, .int 0, .long 0, .null, .int 0]))] sz) := by
  refine Met.ofW (cc := c_S_init) (maxL := 8) (ret := none) (by decide) rfl ?_
  intro p e s m args below meth c s₁ B hml hv
  obtain ⟨rfl, hsz, hP, ⟨hK, hN⟩, hD0⟩ := hv
  have hx := B.exec
  have hb := B.bytes
  have hr := B.returns
  have hts := atoms_spec (ws := (.code y_S_init c_S_init 8 none :: G_)) B.pre
  have hg : ∀ w ∈ G_, w.before ([.ref h0, .int (s_n x), .int (s_k x), .int (s_t x), .int (s_m x), .long (s_a x), .ref pl] : List Value).toArray s = true := fun w h => hts w (List.mem_cons_of_mem _ h)
  have hown : s.vm.findClass RS = some m.cls := findClass_of_methodNamed B.named
  have hlocks := B.notSynchronized
  have hin : meth.name = "<init>" := (name_of_methodNamed B.named B.method).1
  subst hsz
  have hD := hD0.self (sz := s.heap.size)
  generalize hAe : va_A [(h0, .inr (1, [.int 0, .int 0, .int 0, .int 0, .long 0, .null, .int 0]))] s.heap.size = A at hD ⊢
  have hA : ∀ q : Nat, s.heap.size ≤ q → A q := fun q h => by rw [← hAe]; exact Or.inr h
  have hS : va_S A s.heap s.heap [] := va_S.rf
  have hl := lv_entry ([.ref h0, .int (s_n x), .int (s_k x), .int (s_t x), .int (s_m x), .long (s_a x), .ref pl]) (n := 8) (Nat.le_of_ble_eq_true rfl)
  rw [lg_entry_eq]
  generalize (lg_sl ([.ref h0, .int (s_n x), .int (s_k x), .int (s_t x), .int (s_m x), .long (s_a x), .ref pl]) ++ List.replicate (8 - (lg_sl ([.ref h0, .int (s_n x), .int (s_k x), .int (s_t x), .int (s_m x), .long (s_a x), .ref pl])).length) Slot.unset).toArray = ls at hl ⊢
  have hl : lv_has ls 8 [(0, .ref h0), (1, .int (s_n x)), (2, .int (s_k x)), (3, .int (s_t x)), (4, .int (s_m x)), (5, .long (s_a x)), (7, .ref pl)] := hl
  refine lv_aload_n hx hb d_S_init_0 rfl (lv_at hl 0 rfl) ?_
  refine W.objInit hx hb hown (hg _ ml_S_1) (hg _ im_O_init) (hg _ cd_O_init) rfl (by rw [hml]; exact hl.1) rfl d_S_init_1 (Nat.le_of_ble_eq_true rfl) (Nat.le_of_ble_eq_true rfl) ?_
  refine W.eq (g2 := F0 m 4 ls []) rfl ?_
  refine lv_aload_n hx hb d_S_init_4 rfl (lv_at hl 0 rfl) ?_
  refine lv_iload_n hx hb d_S_init_5 rfl (lv_at hl 1 rfl) ?_
  refine va_putF (D := D) (ci := 1) (v := .int (s_n x)) (ty := .int) (C := RS) (T := TS) (N := 7) hx hb hg inS tyS okS nmS hown hK hP hD hS 0 rfl rfl 0 (by decide) (hg _ fl_S_7) (fun _ h9 => h9) rfl hin rfl (by decide +kernel) rfl rfl (Nat.le_of_ble_eq_true rfl) d_S_init_6 (fun H locs hP hD hS => ?_)
  have hP : va_P D cls_ [(h0, .inr (1, [.int (s_n x), .int 0, .int 0, .int 0, .long 0, .null, .int 0]))] H := hP
  have hD : va_D A [(h0, .inr (1, [.int (s_n x), .int 0, .int 0, .int 0, .long 0, .null, .int 0]))] := hD
  refine lv_aload_n hx hb d_S_init_9 rfl (lv_at hl 0 rfl) ?_
  refine lv_iload_n hx hb d_S_init_10 rfl (lv_at hl 2 rfl) ?_
  refine va_putF (D := D) (ci := 1) (v := .int (s_k x)) (ty := .int) (C := RS) (T := TS) (N := 7) hx hb hg inS tyS okS nmS hown hK hP hD hS 0 rfl rfl 1 (by decide) (hg _ fl_S_13) (fun _ h9 => h9) rfl hin rfl (by decide +kernel) rfl rfl (Nat.le_of_ble_eq_true rfl) d_S_init_11 (fun H locs hP hD hS => ?_)
  have hP : va_P D cls_ [(h0, .inr (1, [.int (s_n x), .int (s_k x), .int 0, .int 0, .long 0, .null, .int 0]))] H := hP
  have hD : va_D A [(h0, .inr (1, [.int (s_n x), .int (s_k x), .int 0, .int 0, .long 0, .null, .int 0]))] := hD
  refine lv_aload_n hx hb d_S_init_14 rfl (lv_at hl 0 rfl) ?_
  refine lv_iload_n hx hb d_S_init_15 rfl (lv_at hl 3 rfl) ?_
  refine va_putF (D := D) (ci := 1) (v := .int (s_t x)) (ty := .int) (C := RS) (T := TS) (N := 7) hx hb hg inS tyS okS nmS hown hK hP hD hS 0 rfl rfl 2 (by decide) (hg _ fl_S_16) (fun _ h9 => h9) rfl hin rfl (by decide +kernel) rfl rfl (Nat.le_of_ble_eq_true rfl) d_S_init_16 (fun H locs hP hD hS => ?_)
  have hP : va_P D cls_ [(h0, .inr (1, [.int (s_n x), .int (s_k x), .int (s_t x), .int 0, .long 0, .null, .int 0]))] H := hP
  have hD : va_D A [(h0, .inr (1, [.int (s_n x), .int (s_k x), .int (s_t x), .int 0, .long 0, .null, .int 0]))] := hD
  refine lv_aload_n hx hb d_S_init_19 rfl (lv_at hl 0 rfl) ?_
  refine lv_iload hx hb d_S_init_20 (lv_at hl 4 rfl) ?_
  refine va_putF (D := D) (ci := 1) (v := .int (s_m x)) (ty := .int) (C := RS) (T := TS) (N := 7) hx hb hg inS tyS okS nmS hown hK hP hD hS 0 rfl rfl 3 (by decide) (hg _ fl_S_19) (fun _ h9 => h9) rfl hin rfl (by decide +kernel) rfl rfl (Nat.le_of_ble_eq_true rfl) d_S_init_22 (fun H locs hP hD hS => ?_)
  have hP : va_P D cls_ [(h0, .inr (1, [.int (s_n x), .int (s_k x), .int (s_t x), .int (s_m x), .long 0, .null, .int 0]))] H := hP
  have hD : va_D A [(h0, .inr (1, [.int (s_n x), .int (s_k x), .int (s_t x), .int (s_m x), .long 0, .null, .int 0]))] := hD
  refine lv_aload_n hx hb d_S_init_25 rfl (lv_at hl 0 rfl) ?_
  refine lv_lload hx hb d_S_init_26 (lv_at hl 5 rfl) ?_
  refine va_putF (D := D) (ci := 1) (v := .long (s_a x)) (ty := .long) (C := RS) (T := TS) (N := 7) hx hb hg inS tyS okS nmS hown hK hP hD hS 0 rfl rfl 4 (by decide) (hg _ fl_S_22) (fun _ h9 => h9) rfl hin rfl (by decide +kernel) rfl rfl (Nat.le_of_ble_eq_true rfl) d_S_init_28 (fun H locs hP hD hS => ?_)
  have hP : va_P D cls_ [(h0, .inr (1, [.int (s_n x), .int (s_k x), .int (s_t x), .int (s_m x), .long (s_a x), .null, .int 0]))] H := hP
  have hD : va_D A [(h0, .inr (1, [.int (s_n x), .int (s_k x), .int (s_t x), .int (s_m x), .long (s_a x), .null, .int 0]))] := hD
  refine lv_aload_n hx hb d_S_init_31 rfl (lv_at hl 0 rfl) ?_
  refine lv_aload hx hb d_S_init_32 (lv_at hl 6 rfl) ?_
  refine va_putF (D := D) (ci := 1) (v := .ref pl) (ty := (.array .int)) (C := RS) (T := TS) (N := 7) hx hb hg inS tyS okS nmS hown hK hP hD hS 0 rfl rfl 5 (by decide) (hg _ fl_S_26) (fun _ h9 => h9) rfl hin rfl (by decide +kernel) rfl rfl (Nat.le_of_ble_eq_true rfl) d_S_init_34 (fun H locs hP hD hS => ?_)
  have hP : va_P D cls_ [(h0, .inr (1, [.int (s_n x), .int (s_k x), .int (s_t x), .int (s_m x), .long (s_a x), .ref pl, .int 0]))] H := hP
  have hD : va_D A [(h0, .inr (1, [.int (s_n x), .int (s_k x), .int (s_t x), .int (s_m x), .long (s_a x), .ref pl, .int 0]))] := hD
  refine lv_aload_n hx hb d_S_init_37 rfl (lv_at hl 0 rfl) ?_
  refine lv_iconst (v := 1) hx hb d_S_init_38 (by decide) ?_
  refine va_put (D := D) (ci := 1) (v := .int 1) (ty := .boolean) (C := RS) (T := TS) (N := 7) hx hb hg inS tyS okS nmS hown hK hP hD hS 0 rfl rfl 6 (by decide) (hg _ fl_S_30) (fun _ h9 => h9) rfl (by decide +kernel) rfl rfl (Nat.le_of_ble_eq_true rfl) d_S_init_39 (fun H locs hP hD hS => ?_)
  have hP : va_P D cls_ [(h0, .inr (1, [.int (s_n x), .int (s_k x), .int (s_t x), .int (s_m x), .long (s_a x), .ref pl, .int 1]))] H := hP
  have hD : va_D A [(h0, .inr (1, [.int (s_n x), .int (s_k x), .int (s_t x), .int (s_m x), .long (s_a x), .ref pl, .int 1]))] := hD
  exact W.vret hx hb hr (fun t ht hW => ⟨⟨(), rfl, trivial, by rw [ht]; exact hP, hD⟩, hS.F ht⟩) hS.2.2 d_S_init_42

theorem mn_3 (r : Nat → Nat) (f : Nat → va_E) (e : va_E) : va_pl ([] ++ List.map r (List.range 3)) (vr_up f (List.map r (List.range 3)) e) = [(r 0, e), (r 1, e), (r 2, e)] := by
  have h : ∀ i, i < 3 → vr_up f (List.map r (List.range 3)) e (r i) = e := fun i hi => vr_up_in (List.mem_map.mpr ⟨i, List.mem_range.mpr hi, rfl⟩)
  show [(r 0, vr_up f (List.map r (List.range 3)) e (r 0)), (r 1, vr_up f (List.map r (List.range 3)) e (r 1)), (r 2, vr_up f (List.map r (List.range 3)) e (r 2))] = _
  rw [h 0 (by omega), h 1 (by omega), h 2 (by omega)]
/-- the outer array may be told by another function that is the same below 3 -/
theorem wR_outer {D : va_G} {cA : Nat → ClassId} {ad : Nat → Nat} {ce : Nat → Int32} {co : Nat → Int64} {rw : Nat → Nat → Int32} {le el : Nat → Int32} {ec : Int32} {nd pa : Nat → Int32} {nc : Int32} {H : Heap} {f : Nat → Option Nat} (hf : ∀ i, i < 3 → f i = some (ad (4 + i))) (hP : va_P D cls_ ((wR cA ad ce co rw le el ec nd pa nc).set 3 (ad 3, .inl (cA 2, 3, .inr (.inr (.inr (.inr f)))))) H) : va_P D cls_ (wR cA ad ce co rw le el ec nd pa nc) H := by
  rw [wp_iff] at hP ⊢
  intro q hq
  obtain ⟨k, hk⟩ := List.getElem?_of_mem hq
  by_cases h3 : k = 3
  · subst h3
    have e3 : q = (ad 3, .inl (cA 2, 3, .inr (.inr (.inr (.inr (fun i => some (ad (4 + i)))))))) := (Option.some.inj hk).symm
    subst e3
    have h := hP (ad 3, .inl (cA 2, 3, .inr (.inr (.inr (.inr f))))) (List.mem_of_getElem? (i := 3) rfl)
    show H[ad 3]? = some (vp_cell (cA 2) _)
    have h2 : H[ad 3]? = some (vp_cell (cA 2) (3, .inr (.inr (.inr (.inr f))))) := h
    rw [h2, vp_cell_q, vp_cell_q]
    refine congrArg some ?_
    unfold arrV
    congr 2
    funext j
    show va_rf (f j.val) = va_rf (some (ad (4 + j.val)))
    rw [hf j.val j.isLt]
  · refine hP q (List.mem_of_getElem? (i := k) ?_)
    rw [List.getElem?_set_ne (fun h => h3 h.symm)]
    exact hk
theorem wR_outerD {A : Nat → Prop} {cA : Nat → ClassId} {ad : Nat → Nat} {ce : Nat → Int32} {co : Nat → Int64} {rw : Nat → Nat → Int32} {le el : Nat → Int32} {ec : Int32} {nd pa : Nat → Int32} {nc : Int32} {f : Nat → Option Nat} (hD : va_D A ((wR cA ad ce co rw le el ec nd pa nc).set 3 (ad 3, .inl (cA 2, 3, .inr (.inr (.inr (.inr f))))))) : va_D A (wR cA ad ce co rw le el ec nd pa nc) := by
  rw [wd_iff] at hD ⊢
  exact ⟨hD.1, fun q hq => by
    obtain ⟨k, hk⟩ := List.getElem?_of_mem hq
    by_cases h3 : k = 3
    · subst h3
      have e3 : q = (ad 3, .inl (cA 2, 3, .inr (.inr (.inr (.inr (fun i => some (ad (4 + i)))))))) := (Option.some.inj hk).symm
      subst e3
      exact hD.2 (ad 3, .inl (cA 2, 3, .inr (.inr (.inr (.inr f))))) (List.mem_of_getElem? (i := 3) rfl)
    · refine hD.2 q (List.mem_of_getElem? (i := k) ?_)
      rw [List.getElem?_set_ne (fun h => h3 h.symm)]
      exact hk⟩
set_option maxHeartbeats 4000000 in
set_option maxRecDepth 100000 in
theorem m_R_init (l : Launch) (D : va_G) (cA : Nat → ClassId) (sz : Nat) (h0 : Nat) : Met l y_R_init (.code y_R_init c_R_init 1 none :: G_) ({ frames := 1, cells := 10, slots := 658, locals := 12 }) (va_Pc [.ref h0] (pm_ D cA [(h0, .inr (0, [.null, .null, .null, .null, .null, .int 0, .null, .null, .int 0]))] sz)) (va_Qv (fun (u : (Nat → Nat) × rs_T) => u.1 0 = h0 ∧ cq_ m0_ u.2) (bw_ D (va_A [(h0, .inr (0, [.null, .null, .null, .null, .null, .int 0, .null, .null, .int 0]))] sz) (fun u => wq_ cA u.1 u.2)) (va_A [(h0, .inr (0, [.null, .null, .null, .null, .null, .int 0, .null, .null, .int 0]))] sz)) 10 658 (va_A [(h0, .inr (0, [.null, .null, .null, .null, .null, .int 0, .null, .null, .int 0]))] sz) := by
  refine Met.ofW (cc := c_R_init) (maxL := 1) (ret := none) (by decide) rfl ?_
  intro p e s m args below meth c s₁ B hml hv
  obtain ⟨rfl, hsz, hP, ⟨hK, hN⟩, hD0⟩ := hv
  have hx := B.exec
  have hb := B.bytes
  have hr := B.returns
  have hts := atoms_spec (ws := (.code y_R_init c_R_init 1 none :: G_)) B.pre
  have hg : ∀ w ∈ G_, w.before ([.ref h0] : List Value).toArray s = true := fun w h => hts w (List.mem_cons_of_mem _ h)
  have hown : s.vm.findClass RR = some m.cls := findClass_of_methodNamed B.named
  have hlocks := B.notSynchronized
  have hin : meth.name = "<init>" := (name_of_methodNamed B.named B.method).1
  subst hsz
  have hD := hD0.self (sz := s.heap.size)
  generalize hAe : va_A [(h0, .inr (0, [.null, .null, .null, .null, .null, .int 0, .null, .null, .int 0]))] s.heap.size = A at hD ⊢
  have hA : ∀ q : Nat, s.heap.size ≤ q → A q := fun q h => by rw [← hAe]; exact Or.inr h
  have hS : va_S A s.heap s.heap [] := va_S.rf
  have hl := lv_entry ([.ref h0]) (n := 1) (Nat.le_of_ble_eq_true rfl)
  rw [lg_entry_eq]
  generalize (lg_sl ([.ref h0]) ++ List.replicate (1 - (lg_sl ([.ref h0])).length) Slot.unset).toArray = ls at hl ⊢
  have hl : lv_has ls 1 [(0, .ref h0)] := hl
  refine lv_aload_n hx hb d_R_init_0 rfl (lv_at hl 0 rfl) ?_
  refine W.objInit hx hb hown (hg _ ml_R_3) (hg _ im_O_init) (hg _ cd_O_init) rfl (by rw [hml]; exact hl.1) rfl d_R_init_1 (Nat.le_of_ble_eq_true rfl) (Nat.le_of_ble_eq_true rfl) ?_
  refine W.eq (g2 := F0 m 4 ls []) rfl ?_
  refine lv_aload_n hx hb d_R_init_4 rfl (lv_at hl 0 rfl) ?_
  refine lv_bipush (v := 8) hx hb d_R_init_5 (by decide) ?_
  refine va_newa (atype := .int) (ty := .int) (N' := 8) (a0 := (8, .inl (fun _ => 0))) hx hb (hg _ ac_int) rfl hK hP hD hS hA (fun _ => rfl) (by decide) (by decide) (by decide) (show 1 ≤ 10 by decide) (show 8 ≤ 658 by decide) d_R_init_7 (fun q1 c9 H hK9 hP hD hS => ?_)
  obtain rfl := cn_I hK9
  have hP : va_P D cls_ [(h0, .inr (0, [.null, .null, .null, .null, .null, .int 0, .null, .null, .int 0])), (q1, .inl (cA 0, 8, .inl (fun _ => 0)))] H := hP
  have hD : va_D A [(h0, .inr (0, [.null, .null, .null, .null, .null, .int 0, .null, .null, .int 0])), (q1, .inl (cA 0, 8, .inl (fun _ => 0)))] := hD
  refine W.widen (k := 1) (n := 8) (by decide) (by decide) ?_
  refine va_putF (D := D) (ci := 0) (v := .ref q1) (ty := (.array .int)) (C := RR) (T := TR) (N := 9) hx hb hg inR tyR okR nmR hown hK hP hD hS 0 rfl rfl 0 (by decide) (hg _ fl_R_9) (fun _ h9 => h9) rfl hin rfl (by decide +kernel) rfl rfl (Nat.le_of_ble_eq_true rfl) d_R_init_9 (fun H locs hP hD hS => ?_)
  have hP : va_P D cls_ [(h0, .inr (0, [.ref q1, .null, .null, .null, .null, .int 0, .null, .null, .int 0])), (q1, .inl (cA 0, 8, .inl (fun _ => 0)))] H := hP
  have hD : va_D A [(h0, .inr (0, [.ref q1, .null, .null, .null, .null, .int 0, .null, .null, .int 0])), (q1, .inl (cA 0, 8, .inl (fun _ => 0)))] := hD
  refine lv_aload_n hx hb d_R_init_12 rfl (lv_at hl 0 rfl) ?_
  refine lv_iconst (v := 4) hx hb d_R_init_13 (by decide) ?_
  refine va_newa (atype := .long) (ty := .long) (N' := 4) (a0 := (4, .inr (.inl (fun _ => 0)))) hx hb (hg _ ac_long) rfl hK hP hD hS hA (fun _ => rfl) (by decide) (by decide) (by decide) (show 2 ≤ 10 by decide) (show 12 ≤ 658 by decide) d_R_init_14 (fun q2 c9 H hK9 hP hD hS => ?_)
  obtain rfl := cn_J hK9
  have hP : va_P D cls_ [(h0, .inr (0, [.ref q1, .null, .null, .null, .null, .int 0, .null, .null, .int 0])), (q1, .inl (cA 0, 8, .inl (fun _ => 0))), (q2, .inl (cA 1, 4, .inr (.inl (fun _ => 0))))] H := hP
  have hD : va_D A [(h0, .inr (0, [.ref q1, .null, .null, .null, .null, .int 0, .null, .null, .int 0])), (q1, .inl (cA 0, 8, .inl (fun _ => 0))), (q2, .inl (cA 1, 4, .inr (.inl (fun _ => 0))))] := hD
  refine W.widen (k := 2) (n := 12) (by decide) (by decide) ?_
  refine va_putF (D := D) (ci := 0) (v := .ref q2) (ty := (.array .long)) (C := RR) (T := TR) (N := 9) hx hb hg inR tyR okR nmR hown hK hP hD hS 0 rfl rfl 1 (by decide) (hg _ fl_R_15) (fun _ h9 => h9) rfl hin rfl (by decide +kernel) rfl rfl (Nat.le_of_ble_eq_true rfl) d_R_init_16 (fun H locs hP hD hS => ?_)
  have hP : va_P D cls_ [(h0, .inr (0, [.ref q1, .ref q2, .null, .null, .null, .int 0, .null, .null, .int 0])), (q1, .inl (cA 0, 8, .inl (fun _ => 0))), (q2, .inl (cA 1, 4, .inr (.inl (fun _ => 0))))] H := hP
  have hD : va_D A [(h0, .inr (0, [.ref q1, .ref q2, .null, .null, .null, .int 0, .null, .null, .int 0])), (q1, .inl (cA 0, 8, .inl (fun _ => 0))), (q2, .inl (cA 1, 4, .inr (.inl (fun _ => 0))))] := hD
  refine lv_aload_n hx hb d_R_init_19 rfl (lv_at hl 0 rfl) ?_
  refine lv_iconst (v := 3) hx hb d_R_init_20 (by decide) ?_
  refine lv_bipush (v := 40) hx hb d_R_init_21 (by decide) ?_
  refine va_mna (X := [(h0, .inr (0, [.ref q1, .ref q2, .null, .null, .null, .int 0, .null, .null, .int 0])), (q1, .inl (cA 0, 8, .inl (fun _ => 0))), (q2, .inl (cA 1, 4, .inr (.inl (fun _ => 0))))]) (L := []) (f := fun _ => .inr (0, [])) (ty := .int) (cy := cA 0) (N' := 3) (K' := 40) (z := (40, .inl (fun _ => 0))) hx hb hown (hg _ cl_R_19) hN.2.2 (hg _ ac_int) ((hK.2 0 _ rfl).2) hK (by rw [show va_pl [] (fun _ => (.inr (0, []) : va_E)) = [] from rfl, List.append_nil]; exact hP) (by rw [show va_pl [] (fun _ => (.inr (0, []) : va_E)) = [] from rfl, List.append_nil]; exact hD) hS hA (by decide) (by decide) (by decide) (by decide) (by decide) (by decide) (by decide) rfl rfl (show 6 ≤ 10 by decide) (show 135 ≤ 658 by decide) (fun _ => rfl) d_R_init_23 (fun q3 r c9 H hri hrn hK9 hP hD hS => ?_)
  obtain rfl := cn_G hK9
  rw [mn_3] at hP hD
  have hP : va_P D cls_ [(h0, .inr (0, [.ref q1, .ref q2, .null, .null, .null, .int 0, .null, .null, .int 0])), (q1, .inl (cA 0, 8, .inl (fun _ => 0))), (q2, .inl (cA 1, 4, .inr (.inl (fun _ => 0)))), (q3, .inl (cA 2, 3, .inr (.inr (.inr (.inr (fun i => if i < 3 then some (r i) else none)))))), (r 0, .inl (cA 0, 40, .inl (fun _ => 0))), (r 1, .inl (cA 0, 40, .inl (fun _ => 0))), (r 2, .inl (cA 0, 40, .inl (fun _ => 0)))] H := hP
  have hD : va_D A [(h0, .inr (0, [.ref q1, .ref q2, .null, .null, .null, .int 0, .null, .null, .int 0])), (q1, .inl (cA 0, 8, .inl (fun _ => 0))), (q2, .inl (cA 1, 4, .inr (.inl (fun _ => 0)))), (q3, .inl (cA 2, 3, .inr (.inr (.inr (.inr (fun i => if i < 3 then some (r i) else none)))))), (r 0, .inl (cA 0, 40, .inl (fun _ => 0))), (r 1, .inl (cA 0, 40, .inl (fun _ => 0))), (r 2, .inl (cA 0, 40, .inl (fun _ => 0)))] := hD
  refine W.widen (k := 6) (n := 135) (by decide) (by decide) ?_
  refine va_putF (D := D) (ci := 0) (v := .ref q3) (ty := (.array (.array .int))) (C := RR) (T := TR) (N := 9) hx hb hg inR tyR okR nmR hown hK hP hD hS 0 rfl rfl 2 (by decide) (hg _ fl_R_21) (fun _ h9 => h9) rfl hin rfl (by decide +kernel) rfl rfl (Nat.le_of_ble_eq_true rfl) d_R_init_27 (fun H locs hP hD hS => ?_)
  have hP : va_P D cls_ [(h0, .inr (0, [.ref q1, .ref q2, .ref q3, .null, .null, .int 0, .null, .null, .int 0])), (q1, .inl (cA 0, 8, .inl (fun _ => 0))), (q2, .inl (cA 1, 4, .inr (.inl (fun _ => 0)))), (q3, .inl (cA 2, 3, .inr (.inr (.inr (.inr (fun i => if i < 3 then some (r i) else none)))))), (r 0, .inl (cA 0, 40, .inl (fun _ => 0))), (r 1, .inl (cA 0, 40, .inl (fun _ => 0))), (r 2, .inl (cA 0, 40, .inl (fun _ => 0)))] H := hP
  have hD : va_D A [(h0, .inr (0, [.ref q1, .ref q2, .ref q3, .null, .null, .int 0, .null, .null, .int 0])), (q1, .inl (cA 0, 8, .inl (fun _ => 0))), (q2, .inl (cA 1, 4, .inr (.inl (fun _ => 0)))), (q3, .inl (cA 2, 3, .inr (.inr (.inr (.inr (fun i => if i < 3 then some (r i) else none)))))), (r 0, .inl (cA 0, 40, .inl (fun _ => 0))), (r 1, .inl (cA 0, 40, .inl (fun _ => 0))), (r 2, .inl (cA 0, 40, .inl (fun _ => 0)))] := hD
  refine lv_aload_n hx hb d_R_init_30 rfl (lv_at hl 0 rfl) ?_
  refine lv_iconst (v := 3) hx hb d_R_init_31 (by decide) ?_
  refine va_newa (atype := .int) (ty := .int) (N' := 3) (a0 := (3, .inl (fun _ => 0))) hx hb (hg _ ac_int) rfl hK hP hD hS hA (fun _ => rfl) (by decide) (by decide) (by decide) (show 7 ≤ 10 by decide) (show 138 ≤ 658 by decide) d_R_init_32 (fun q7 c9 H hK9 hP hD hS => ?_)
  obtain rfl := cn_I hK9
  have hP : va_P D cls_ [(h0, .inr (0, [.ref q1, .ref q2, .ref q3, .null, .null, .int 0, .null, .null, .int 0])), (q1, .inl (cA 0, 8, .inl (fun _ => 0))), (q2, .inl (cA 1, 4, .inr (.inl (fun _ => 0)))), (q3, .inl (cA 2, 3, .inr (.inr (.inr (.inr (fun i => if i < 3 then some (r i) else none)))))), (r 0, .inl (cA 0, 40, .inl (fun _ => 0))), (r 1, .inl (cA 0, 40, .inl (fun _ => 0))), (r 2, .inl (cA 0, 40, .inl (fun _ => 0))), (q7, .inl (cA 0, 3, .inl (fun _ => 0)))] H := hP
  have hD : va_D A [(h0, .inr (0, [.ref q1, .ref q2, .ref q3, .null, .null, .int 0, .null, .null, .int 0])), (q1, .inl (cA 0, 8, .inl (fun _ => 0))), (q2, .inl (cA 1, 4, .inr (.inl (fun _ => 0)))), (q3, .inl (cA 2, 3, .inr (.inr (.inr (.inr (fun i => if i < 3 then some (r i) else none)))))), (r 0, .inl (cA 0, 40, .inl (fun _ => 0))), (r 1, .inl (cA 0, 40, .inl (fun _ => 0))), (r 2, .inl (cA 0, 40, .inl (fun _ => 0))), (q7, .inl (cA 0, 3, .inl (fun _ => 0)))] := hD
  refine W.widen (k := 7) (n := 138) (by decide) (by decide) ?_
  refine va_putF (D := D) (ci := 0) (v := .ref q7) (ty := (.array .int)) (C := RR) (T := TR) (N := 9) hx hb hg inR tyR okR nmR hown hK hP hD hS 0 rfl rfl 3 (by decide) (hg _ fl_R_24) (fun _ h9 => h9) rfl hin rfl (by decide +kernel) rfl rfl (Nat.le_of_ble_eq_true rfl) d_R_init_34 (fun H locs hP hD hS => ?_)
  have hP : va_P D cls_ [(h0, .inr (0, [.ref q1, .ref q2, .ref q3, .ref q7, .null, .int 0, .null, .null, .int 0])), (q1, .inl (cA 0, 8, .inl (fun _ => 0))), (q2, .inl (cA 1, 4, .inr (.inl (fun _ => 0)))), (q3, .inl (cA 2, 3, .inr (.inr (.inr (.inr (fun i => if i < 3 then some (r i) else none)))))), (r 0, .inl (cA 0, 40, .inl (fun _ => 0))), (r 1, .inl (cA 0, 40, .inl (fun _ => 0))), (r 2, .inl (cA 0, 40, .inl (fun _ => 0))), (q7, .inl (cA 0, 3, .inl (fun _ => 0)))] H := hP
  have hD : va_D A [(h0, .inr (0, [.ref q1, .ref q2, .ref q3, .ref q7, .null, .int 0, .null, .null, .int 0])), (q1, .inl (cA 0, 8, .inl (fun _ => 0))), (q2, .inl (cA 1, 4, .inr (.inl (fun _ => 0)))), (q3, .inl (cA 2, 3, .inr (.inr (.inr (.inr (fun i => if i < 3 then some (r i) else none)))))), (r 0, .inl (cA 0, 40, .inl (fun _ => 0))), (r 1, .inl (cA 0, 40, .inl (fun _ => 0))), (r 2, .inl (cA 0, 40, .inl (fun _ => 0))), (q7, .inl (cA 0, 3, .inl (fun _ => 0)))] := hD
  refine lv_aload_n hx hb d_R_init_37 rfl (lv_at hl 0 rfl) ?_
  refine lv_bipush (v := 120) hx hb d_R_init_38 (by decide) ?_
  refine va_newa (atype := .int) (ty := .int) (N' := 120) (a0 := (120, .inl (fun _ => 0))) hx hb (hg _ ac_int) rfl hK hP hD hS hA (fun _ => rfl) (by decide) (by decide) (by decide) (show 8 ≤ 10 by decide) (show 258 ≤ 658 by decide) d_R_init_40 (fun q8 c9 H hK9 hP hD hS => ?_)
  obtain rfl := cn_I hK9
  have hP : va_P D cls_ [(h0, .inr (0, [.ref q1, .ref q2, .ref q3, .ref q7, .null, .int 0, .null, .null, .int 0])), (q1, .inl (cA 0, 8, .inl (fun _ => 0))), (q2, .inl (cA 1, 4, .inr (.inl (fun _ => 0)))), (q3, .inl (cA 2, 3, .inr (.inr (.inr (.inr (fun i => if i < 3 then some (r i) else none)))))), (r 0, .inl (cA 0, 40, .inl (fun _ => 0))), (r 1, .inl (cA 0, 40, .inl (fun _ => 0))), (r 2, .inl (cA 0, 40, .inl (fun _ => 0))), (q7, .inl (cA 0, 3, .inl (fun _ => 0))), (q8, .inl (cA 0, 120, .inl (fun _ => 0)))] H := hP
  have hD : va_D A [(h0, .inr (0, [.ref q1, .ref q2, .ref q3, .ref q7, .null, .int 0, .null, .null, .int 0])), (q1, .inl (cA 0, 8, .inl (fun _ => 0))), (q2, .inl (cA 1, 4, .inr (.inl (fun _ => 0)))), (q3, .inl (cA 2, 3, .inr (.inr (.inr (.inr (fun i => if i < 3 then some (r i) else none)))))), (r 0, .inl (cA 0, 40, .inl (fun _ => 0))), (r 1, .inl (cA 0, 40, .inl (fun _ => 0))), (r 2, .inl (cA 0, 40, .inl (fun _ => 0))), (q7, .inl (cA 0, 3, .inl (fun _ => 0))), (q8, .inl (cA 0, 120, .inl (fun _ => 0)))] := hD
  refine W.widen (k := 8) (n := 258) (by decide) (by decide) ?_
  refine va_putF (D := D) (ci := 0) (v := .ref q8) (ty := (.array .int)) (C := RR) (T := TR) (N := 9) hx hb hg inR tyR okR nmR hown hK hP hD hS 0 rfl rfl 4 (by decide) (hg _ fl_R_27) (fun _ h9 => h9) rfl hin rfl (by decide +kernel) rfl rfl (Nat.le_of_ble_eq_true rfl) d_R_init_42 (fun H locs hP hD hS => ?_)
  have hP : va_P D cls_ [(h0, .inr (0, [.ref q1, .ref q2, .ref q3, .ref q7, .ref q8, .int 0, .null, .null, .int 0])), (q1, .inl (cA 0, 8, .inl (fun _ => 0))), (q2, .inl (cA 1, 4, .inr (.inl (fun _ => 0)))), (q3, .inl (cA 2, 3, .inr (.inr (.inr (.inr (fun i => if i < 3 then some (r i) else none)))))), (r 0, .inl (cA 0, 40, .inl (fun _ => 0))), (r 1, .inl (cA 0, 40, .inl (fun _ => 0))), (r 2, .inl (cA 0, 40, .inl (fun _ => 0))), (q7, .inl (cA 0, 3, .inl (fun _ => 0))), (q8, .inl (cA 0, 120, .inl (fun _ => 0)))] H := hP
  have hD : va_D A [(h0, .inr (0, [.ref q1, .ref q2, .ref q3, .ref q7, .ref q8, .int 0, .null, .null, .int 0])), (q1, .inl (cA 0, 8, .inl (fun _ => 0))), (q2, .inl (cA 1, 4, .inr (.inl (fun _ => 0)))), (q3, .inl (cA 2, 3, .inr (.inr (.inr (.inr (fun i => if i < 3 then some (r i) else none)))))), (r 0, .inl (cA 0, 40, .inl (fun _ => 0))), (r 1, .inl (cA 0, 40, .inl (fun _ => 0))), (r 2, .inl (cA 0, 40, .inl (fun _ => 0))), (q7, .inl (cA 0, 3, .inl (fun _ => 0))), (q8, .inl (cA 0, 120, .inl (fun _ => 0)))] := hD
  refine lv_aload_n hx hb d_R_init_45 rfl (lv_at hl 0 rfl) ?_
  refine lv_sipush (v := 200) hx hb d_R_init_46 (by decide) ?_
  refine va_newa (atype := .int) (ty := .int) (N' := 200) (a0 := (200, .inl (fun _ => 0))) hx hb (hg _ ac_int) rfl hK hP hD hS hA (fun _ => rfl) (by decide) (by decide) (by decide) (show 9 ≤ 10 by decide) (show 458 ≤ 658 by decide) d_R_init_49 (fun q9 c9 H hK9 hP hD hS => ?_)
  obtain rfl := cn_I hK9
  have hP : va_P D cls_ [(h0, .inr (0, [.ref q1, .ref q2, .ref q3, .ref q7, .ref q8, .int 0, .null, .null, .int 0])), (q1, .inl (cA 0, 8, .inl (fun _ => 0))), (q2, .inl (cA 1, 4, .inr (.inl (fun _ => 0)))), (q3, .inl (cA 2, 3, .inr (.inr (.inr (.inr (fun i => if i < 3 then some (r i) else none)))))), (r 0, .inl (cA 0, 40, .inl (fun _ => 0))), (r 1, .inl (cA 0, 40, .inl (fun _ => 0))), (r 2, .inl (cA 0, 40, .inl (fun _ => 0))), (q7, .inl (cA 0, 3, .inl (fun _ => 0))), (q8, .inl (cA 0, 120, .inl (fun _ => 0))), (q9, .inl (cA 0, 200, .inl (fun _ => 0)))] H := hP
  have hD : va_D A [(h0, .inr (0, [.ref q1, .ref q2, .ref q3, .ref q7, .ref q8, .int 0, .null, .null, .int 0])), (q1, .inl (cA 0, 8, .inl (fun _ => 0))), (q2, .inl (cA 1, 4, .inr (.inl (fun _ => 0)))), (q3, .inl (cA 2, 3, .inr (.inr (.inr (.inr (fun i => if i < 3 then some (r i) else none)))))), (r 0, .inl (cA 0, 40, .inl (fun _ => 0))), (r 1, .inl (cA 0, 40, .inl (fun _ => 0))), (r 2, .inl (cA 0, 40, .inl (fun _ => 0))), (q7, .inl (cA 0, 3, .inl (fun _ => 0))), (q8, .inl (cA 0, 120, .inl (fun _ => 0))), (q9, .inl (cA 0, 200, .inl (fun _ => 0)))] := hD
  refine W.widen (k := 9) (n := 458) (by decide) (by decide) ?_
  refine va_putF (D := D) (ci := 0) (v := .ref q9) (ty := (.array .int)) (C := RR) (T := TR) (N := 9) hx hb hg inR tyR okR nmR hown hK hP hD hS 0 rfl rfl 6 (by decide) (hg _ fl_R_30) (fun _ h9 => h9) rfl hin rfl (by decide +kernel) rfl rfl (Nat.le_of_ble_eq_true rfl) d_R_init_51 (fun H locs hP hD hS => ?_)
  have hP : va_P D cls_ [(h0, .inr (0, [.ref q1, .ref q2, .ref q3, .ref q7, .ref q8, .int 0, .ref q9, .null, .int 0])), (q1, .inl (cA 0, 8, .inl (fun _ => 0))), (q2, .inl (cA 1, 4, .inr (.inl (fun _ => 0)))), (q3, .inl (cA 2, 3, .inr (.inr (.inr (.inr (fun i => if i < 3 then some (r i) else none)))))), (r 0, .inl (cA 0, 40, .inl (fun _ => 0))), (r 1, .inl (cA 0, 40, .inl (fun _ => 0))), (r 2, .inl (cA 0, 40, .inl (fun _ => 0))), (q7, .inl (cA 0, 3, .inl (fun _ => 0))), (q8, .inl (cA 0, 120, .inl (fun _ => 0))), (q9, .inl (cA 0, 200, .inl (fun _ => 0)))] H := hP
  have hD : va_D A [(h0, .inr (0, [.ref q1, .ref q2, .ref q3, .ref q7, .ref q8, .int 0, .ref q9, .null, .int 0])), (q1, .inl (cA 0, 8, .inl (fun _ => 0))), (q2, .inl (cA 1, 4, .inr (.inl (fun _ => 0)))), (q3, .inl (cA 2, 3, .inr (.inr (.inr (.inr (fun i => if i < 3 then some (r i) else none)))))), (r 0, .inl (cA 0, 40, .inl (fun _ => 0))), (r 1, .inl (cA 0, 40, .inl (fun _ => 0))), (r 2, .inl (cA 0, 40, .inl (fun _ => 0))), (q7, .inl (cA 0, 3, .inl (fun _ => 0))), (q8, .inl (cA 0, 120, .inl (fun _ => 0))), (q9, .inl (cA 0, 200, .inl (fun _ => 0)))] := hD
  refine lv_aload_n hx hb d_R_init_54 rfl (lv_at hl 0 rfl) ?_
  refine lv_sipush (v := 200) hx hb d_R_init_55 (by decide) ?_
  refine va_newa (atype := .int) (ty := .int) (N' := 200) (a0 := (200, .inl (fun _ => 0))) hx hb (hg _ ac_int) rfl hK hP hD hS hA (fun _ => rfl) (by decide) (by decide) (by decide) (show 10 ≤ 10 by decide) (show 658 ≤ 658 by decide) d_R_init_58 (fun q10 c9 H hK9 hP hD hS => ?_)
  obtain rfl := cn_I hK9
  have hP : va_P D cls_ [(h0, .inr (0, [.ref q1, .ref q2, .ref q3, .ref q7, .ref q8, .int 0, .ref q9, .null, .int 0])), (q1, .inl (cA 0, 8, .inl (fun _ => 0))), (q2, .inl (cA 1, 4, .inr (.inl (fun _ => 0)))), (q3, .inl (cA 2, 3, .inr (.inr (.inr (.inr (fun i => if i < 3 then some (r i) else none)))))), (r 0, .inl (cA 0, 40, .inl (fun _ => 0))), (r 1, .inl (cA 0, 40, .inl (fun _ => 0))), (r 2, .inl (cA 0, 40, .inl (fun _ => 0))), (q7, .inl (cA 0, 3, .inl (fun _ => 0))), (q8, .inl (cA 0, 120, .inl (fun _ => 0))), (q9, .inl (cA 0, 200, .inl (fun _ => 0))), (q10, .inl (cA 0, 200, .inl (fun _ => 0)))] H := hP
  have hD : va_D A [(h0, .inr (0, [.ref q1, .ref q2, .ref q3, .ref q7, .ref q8, .int 0, .ref q9, .null, .int 0])), (q1, .inl (cA 0, 8, .inl (fun _ => 0))), (q2, .inl (cA 1, 4, .inr (.inl (fun _ => 0)))), (q3, .inl (cA 2, 3, .inr (.inr (.inr (.inr (fun i => if i < 3 then some (r i) else none)))))), (r 0, .inl (cA 0, 40, .inl (fun _ => 0))), (r 1, .inl (cA 0, 40, .inl (fun _ => 0))), (r 2, .inl (cA 0, 40, .inl (fun _ => 0))), (q7, .inl (cA 0, 3, .inl (fun _ => 0))), (q8, .inl (cA 0, 120, .inl (fun _ => 0))), (q9, .inl (cA 0, 200, .inl (fun _ => 0))), (q10, .inl (cA 0, 200, .inl (fun _ => 0)))] := hD
  refine W.widen (k := 10) (n := 658) (by decide) (by decide) ?_
  refine va_putF (D := D) (ci := 0) (v := .ref q10) (ty := (.array .int)) (C := RR) (T := TR) (N := 9) hx hb hg inR tyR okR nmR hown hK hP hD hS 0 rfl rfl 7 (by decide) (hg _ fl_R_33) (fun _ h9 => h9) rfl hin rfl (by decide +kernel) rfl rfl (Nat.le_of_ble_eq_true rfl) d_R_init_60 (fun H locs hP hD hS => ?_)
  have hP : va_P D cls_ [(h0, .inr (0, [.ref q1, .ref q2, .ref q3, .ref q7, .ref q8, .int 0, .ref q9, .ref q10, .int 0])), (q1, .inl (cA 0, 8, .inl (fun _ => 0))), (q2, .inl (cA 1, 4, .inr (.inl (fun _ => 0)))), (q3, .inl (cA 2, 3, .inr (.inr (.inr (.inr (fun i => if i < 3 then some (r i) else none)))))), (r 0, .inl (cA 0, 40, .inl (fun _ => 0))), (r 1, .inl (cA 0, 40, .inl (fun _ => 0))), (r 2, .inl (cA 0, 40, .inl (fun _ => 0))), (q7, .inl (cA 0, 3, .inl (fun _ => 0))), (q8, .inl (cA 0, 120, .inl (fun _ => 0))), (q9, .inl (cA 0, 200, .inl (fun _ => 0))), (q10, .inl (cA 0, 200, .inl (fun _ => 0)))] H := hP
  have hD : va_D A [(h0, .inr (0, [.ref q1, .ref q2, .ref q3, .ref q7, .ref q8, .int 0, .ref q9, .ref q10, .int 0])), (q1, .inl (cA 0, 8, .inl (fun _ => 0))), (q2, .inl (cA 1, 4, .inr (.inl (fun _ => 0)))), (q3, .inl (cA 2, 3, .inr (.inr (.inr (.inr (fun i => if i < 3 then some (r i) else none)))))), (r 0, .inl (cA 0, 40, .inl (fun _ => 0))), (r 1, .inl (cA 0, 40, .inl (fun _ => 0))), (r 2, .inl (cA 0, 40, .inl (fun _ => 0))), (q7, .inl (cA 0, 3, .inl (fun _ => 0))), (q8, .inl (cA 0, 120, .inl (fun _ => 0))), (q9, .inl (cA 0, 200, .inl (fun _ => 0))), (q10, .inl (cA 0, 200, .inl (fun _ => 0)))] := hD
  have hq : cq_ m0_ (fun _ => 0, fun _ => 0, fun _ _ => 0, fun _ => 0, fun _ => 0, 0, fun _ => 0, fun _ => 0, 0) := ⟨fun _ _ => rfl, fun _ _ => rfl, fun r hr3 => ⟨nI_0.symm, fun i hi => absurd hi (Nat.not_lt_zero _)⟩, nI_0.symm, fun i hi => absurd hi (Nat.not_lt_zero _), nI_0.symm, fun i hi => absurd hi (Nat.not_lt_zero _), fun i hi => absurd hi (Nat.not_lt_zero _)⟩
  have hou : (fun i => if i < 3 then some (r i) else none : Nat → Option Nat) = fun i => if i < 3 then some (r i) else none := rfl
  have hP : va_P D cls_ (wR cA (fun i => [h0, q1, q2, q3, r 0, r 1, r 2, q7, q8, q9, q10].getD i 0) (fun _ => 0) (fun _ => 0) (fun _ _ => 0) (fun _ => 0) (fun _ => 0) 0 (fun _ => 0) (fun _ => 0) 0) H := wR_outer (f := fun i => if i < 3 then some (r i) else none) (fun i hi => by rcases (show i = 0 ∨ i = 1 ∨ i = 2 by omega) with rfl | rfl | rfl <;> rfl) hP
  have hD : va_D A (wR cA (fun i => [h0, q1, q2, q3, r 0, r 1, r 2, q7, q8, q9, q10].getD i 0) (fun _ => 0) (fun _ => 0) (fun _ _ => 0) (fun _ => 0) (fun _ => 0) 0 (fun _ => 0) (fun _ => 0) 0) := wR_outerD (f := fun i => if i < 3 then some (r i) else none) hD
  exact W.vret hx hb hr (fun t ht hW => ⟨⟨(fun i => [h0, q1, q2, q3, r 0, r 1, r 2, q7, q8, q9, q10].getD i 0, fun _ => 0, fun _ => 0, fun _ _ => 0, fun _ => 0, fun _ => 0, 0, fun _ => 0, fun _ => 0, 0), rfl, ⟨rfl, hq⟩, by rw [ht]; exact hP, hD⟩, hS.F ht⟩) hS.2.2 d_R_init_63
