/-! Replay.placeBefore -/
theorem pa_stop {L : List Int32} {x : Int32} {k i : Nat} (h : k ≤ (pa_ L x k i).length) : pa_ L x k L.length = pa_ L x k i := by
  rw [pa_len] at h
  unfold pa_
  rw [List.take_length]
  have e : L.filter (fun y => decide (y ≠ x)) = (L.take i).filter (fun y => decide (y ≠ x)) ++ (L.drop i).filter (fun y => decide (y ≠ x)) := by
    rw [← List.filter_append, List.take_append_drop]
  rw [e, List.take_append_of_le_length (by omega)]
theorem pb_step {f : Nat → Int32} {L : List Int32} {lf : Nat} {y : Int32} (h0 : 0 < lf) (h : rl_ (fun j => f (lf + j)) L.reverse) : rl_ (fun j => upd f (lf - 1) y (lf - 1 + j)) (L ++ [y]).reverse := by
  intro j hj
  rw [List.reverse_append] at hj ⊢
  cases j with
  | zero =>
    show some y = some (upd f (lf - 1) y (lf - 1 + 0))
    rw [Nat.add_zero, pk_us]
  | succ j =>
    show L.reverse[j]? = some (upd f (lf - 1) y (lf - 1 + (j + 1)))
    rw [pk_un (by omega), show lf - 1 + (j + 1) = lf + j by omega]
    exact h j (by simpa using hj)
theorem wR_rowA {cA : Nat → ClassId} {ad : Nat → Nat} {ce : Nat → Int32} {co : Nat → Int64} {rw : Nat → Nat → Int32} {le el : Nat → Int32} {ec : Int32} {nd pa : Nat → Int32} {nc : Int32} {X : va_W} {r : Nat} (hr : r < 3) : (wR cA ad ce co rw le el ec nd pa nc ++ X)[4 + r]? = some (ad (4 + r), .inl (cA 0, 40, .inl (rw r))) := by
  rw [List.getElem?_append_left (show 4 + r < 11 by omega)]
  exact wR_row hr
theorem pl_len {L : List Int32} {x : Int32} {k : Nat} (hk : k ≤ (L.filter (fun y => decide (y ≠ x))).length) : (pl_ L k x).length = k := by
  unfold pl_
  rw [List.length_reverse, pa_len, List.take_length]
  omega
set_option maxHeartbeats 4000000 in
set_option maxRecDepth 100000 in
theorem m_R_placeBefore (l : Launch) (D : va_G) (cA : Nat → ClassId) (sz : Nat) (ad : Nat → Nat) (ce : Nat → Int32) (co : Nat → Int64) (rw : Nat → Nat → Int32) (le el : Nat → Int32) (ec : Int32) (nd pa : Nat → Int32) (nc : Int32) (r k : Nat) (x : Int32) (hr3 : r < 3) (mm : me_T) (hc : cr_ mm ce co rw le el ec nd pa nc) (hw : mw_ mm) (hk40 : k ≤ 40) (hk : k ≤ ((m_r mm r).filter (fun y => decide (y ≠ x))).length) : Met l y_R_placeBefore (.code y_R_placeBefore c_R_placeBefore 7 (some (.array .int)) :: G_) ({ frames := 0, cells := 1, slots := 40, locals := 0 }) (va_Pc [.ref (ad 0), .int (nI r), .int (nI k), .int x] (pm_ D cA (wR cA ad ce co rw le el ec nd pa nc) sz)) (va_Qr (fun (u : Nat → Int32) => rl_ u (pl_ (m_r mm r) k x)) (fun u q => bw_ D (va_A (wR cA ad ce co rw le el ec nd pa nc) sz) (fun u => (wR cA ad ce co rw le el ec nd pa nc) ++ [(q, .inl (cA 0, k, .inl u))]) u) (va_A (wR cA ad ce co rw le el ec nd pa nc) sz)) 1 40 (va_A (wR cA ad ce co rw le el ec nd pa nc) sz) := by
  refine Met.ofW (cc := c_R_placeBefore) (maxL := 7) (ret := (some (.array .int))) (by decide) rfl ?_
  intro p e s m args below meth c s₁ B hml hv
  obtain ⟨rfl, hsz, hP, ⟨hK, hN⟩, hD0⟩ := hv
  have hx := B.exec
  have hb := B.bytes
  have hr := B.returns
  have hts := atoms_spec (ws := (.code y_R_placeBefore c_R_placeBefore 7 (some (.array .int)) :: G_)) B.pre
  have hg : ∀ w ∈ G_, w.before ([.ref (ad 0), .int (nI r), .int (nI k), .int x] : List Value).toArray s = true := fun w h => hts w (List.mem_cons_of_mem _ h)
  have hown : s.vm.findClass RR = some m.cls := findClass_of_methodNamed B.named
  have hlocks := B.notSynchronized
  subst hsz
  have hD := hD0.self (sz := s.heap.size)
  generalize hAe : va_A (wR cA ad ce co rw le el ec nd pa nc) s.heap.size = A at hD ⊢
  have hA : ∀ q : Nat, s.heap.size ≤ q → A q := fun q h => by rw [← hAe]; exact Or.inr h
  have hS : va_S A s.heap s.heap [] := va_S.rf
  have hl := lv_entry ([.ref (ad 0), .int (nI r), .int (nI k), .int x]) (n := 7) (Nat.le_of_ble_eq_true rfl)
  rw [lg_entry_eq]
  generalize (lg_sl ([.ref (ad 0), .int (nI r), .int (nI k), .int x]) ++ List.replicate (7 - (lg_sl ([.ref (ad 0), .int (nI r), .int (nI k), .int x])).length) Slot.unset).toArray = ls at hl ⊢
  have hl : lv_has ls 7 [(0, .ref (ad 0)), (1, .int (nI r)), (2, .int (nI k)), (3, .int x)] := hl
  have hle := (hc.2.2.1 r hr3).1
  have hrl := (hc.2.2.1 r hr3).2
  have h40 := hw.1 r hr3
  refine lv_iload_n hx hb d_R_placeBefore_0 rfl (lv_at hl 2 rfl) ?_
  refine va_newa (atype := .int) (ty := .int) (N' := k) (a0 := (k, .inl (fun _ => 0))) hx hb (hg _ ac_int) rfl hK hP hD hS hA (fun _ => rfl) (nI_pos (by omega)) (nI_clamp (by omega)) (by show k * 4 ≤ 536870912; omega) (show 0 + 1 ≤ 1 by decide) (show 0 + k ≤ 40 by omega) d_R_placeBefore_1 (fun q c9 H hK9 hP hD hS => ?_)
  obtain rfl := cn_I hK9
  have hP : va_P D cls_ ((wR cA ad ce co rw le el ec nd pa nc) ++ [(q, .inl (cA 0, k, .inl (fun _ => 0)))]) H := hP
  have hD : va_D A ((wR cA ad ce co rw le el ec nd pa nc) ++ [(q, .inl (cA 0, k, .inl (fun _ => 0)))]) := hD
  refine W.widen (k := 1) (n := 40) (by omega) (by omega) ?_
  refine lv_astore (lv' := [(4, .ref q), (0, .ref (ad 0)), (1, .int (nI r)), (2, .int (nI k)), (3, .int x)]) hx hb d_R_placeBefore_3 hl (by decide) rfl (fun ls hl => ?_)
  refine lv_iload_n hx hb d_R_placeBefore_5 rfl (lv_at hl 3 rfl) ?_
  refine lv_istore (lv' := [(5, .int (nI k)), (4, .ref q), (0, .ref (ad 0)), (1, .int (nI r)), (2, .int (nI k)), (3, .int x)]) hx hb d_R_placeBefore_6 hl (by decide) rfl (fun ls hl => ?_)
  refine lv_iconst (v := 0) hx hb d_R_placeBefore_8 (by decide) ?_
  refine lv_istore (lv' := [(6, .int 0), (5, .int (nI k)), (4, .ref q), (0, .ref (ad 0)), (1, .int (nI r)), (2, .int (nI k)), (3, .int x)]) hx hb d_R_placeBefore_9 hl (by decide) rfl (fun ls hl => ?_)
  have hl := lv_sub hl [0, 1, 2, 3, 4, 5, 6] (l' := [(6, .int (nI 0)), (5, .int (nI k)), (4, .ref q), (0, .ref (ad 0)), (1, .int (nI r)), (2, .int (nI k)), (3, .int x)]) rfl
  have loop : ∀ (d i lf : Nat) (f : Nat → Int32) (H : Heap) (locs : List Loc) (ls : Array Slot), i + d = (m_r mm r).length → lf + (pa_ (m_r mm r) x k i).length = k → rl_ (fun j => f (lf + j)) (pa_ (m_r mm r) x k i).reverse → va_P D cls_ ((wR cA ad ce co rw le el ec nd pa nc) ++ [(q, .inl (cA 0, k, .inl f))]) H → va_D A ((wR cA ad ce co rw le el ec nd pa nc) ++ [(q, .inl (cA 0, k, .inl f))]) → va_S A s.heap H locs → lv_has ls 7 [(6, .int (nI i)), (5, .int (nI lf)), (4, .ref q), (0, .ref (ad 0)), (1, .int (nI r)), (2, .int (nI k)), (3, .int x)] → W p l e (headSpec (.code y_R_placeBefore c_R_placeBefore 7 (some (.array .int)) :: G_) ({ frames := 0, cells := 1, slots := 40, locals := 0 })).room s m ([.ref (ad 0), .int (nI r), .int (nI k), .int x] : List Value).toArray below meth c H locs 1 40 (MQ below (va_Qr (fun (u : Nat → Int32) => rl_ u (pl_ (m_r mm r) k x)) (fun u q => bw_ D A (fun u => (wR cA ad ce co rw le el ec nd pa nc) ++ [(q, .inl (cA 0, k, .inl u))]) u) A) ([.ref (ad 0), .int (nI r), .int (nI k), .int x] : List Value).toArray s 1 40 A) (F0 m 11 ls []) := by
    intro d
    induction d with
    | zero =>
      intro i lf f H locs ls hid hlf hf hP hD hS hl
      have hi2 : i = (m_r mm r).length := by omega
      subst hi2
      have hpl := pa_len (m_r mm r) x k (m_r mm r).length
      rw [List.take_length] at hpl
      have hlf0 : lf = 0 := by omega
      subst hlf0
      have hfin : rl_ f (pl_ (m_r mm r) k x) := by
        simp only [Nat.zero_add] at hf
        exact hf
      refine lv_iload hx hb d_R_placeBefore_11 (lv_at hl 0 rfl) ?_
      refine lv_aload_n hx hb d_R_placeBefore_13 rfl (lv_at hl 3 rfl) ?_
      refine va_get (D := D) (ci := 0) (v := .ref (ad 7)) (C := RR) (T := TR) (N := 9) hx hb hg inR hown hK hP 0 rfl rfl 3 (by decide) (hg _ fl_R_24) (fun _ h9 => h9) rfl d_R_placeBefore_14 ?_
      refine lv_iload_n hx hb d_R_placeBefore_17 rfl (lv_at hl 4 rfl) ?_
      refine va_iald hx hb hK hP 7 0 rfl rfl (vp_in_nI (n := r) (N := 3) (by omega) (by omega)) d_R_placeBefore_18 ?_
      refine toi_ (y := le r) (by rw [nI_clamp (by omega)]) ?_
      refine toi_ (y := nI (m_r mm r).length) (hle) ?_
      refine lv_icmp_ge (tgt := 63) hx hb d_R_placeBefore_19 (by decide) (fun h19 => ?_) (fun h19 => ?_)
      · skip
        refine lv_aload hx hb d_R_placeBefore_63 (lv_at hl 2 rfl) ?_
        exact W.aret hx hb hr (Or.inr ⟨_, rfl⟩) (Or.inr ⟨_, rfl⟩) (fun t ht hW => ⟨⟨f, _, rfl, hfin, by rw [ht]; exact hP, hD⟩, hS.F ht⟩) hS.2.2 d_R_placeBefore_65
      · skip
        exact absurd (Int32.le_refl _) h19
    | succ d ih =>
      intro i lf f H locs ls hid hlf hf hP hD hS hl
      have hgi := hrl i (by omega)
      refine lv_iload hx hb d_R_placeBefore_11 (lv_at hl 0 rfl) ?_
      refine lv_aload_n hx hb d_R_placeBefore_13 rfl (lv_at hl 3 rfl) ?_
      refine va_get (D := D) (ci := 0) (v := .ref (ad 7)) (C := RR) (T := TR) (N := 9) hx hb hg inR hown hK hP 0 rfl rfl 3 (by decide) (hg _ fl_R_24) (fun _ h9 => h9) rfl d_R_placeBefore_14 ?_
      refine lv_iload_n hx hb d_R_placeBefore_17 rfl (lv_at hl 4 rfl) ?_
      refine va_iald hx hb hK hP 7 0 rfl rfl (vp_in_nI (n := r) (N := 3) (by omega) (by omega)) d_R_placeBefore_18 ?_
      refine toi_ (y := le r) (by rw [nI_clamp (by omega)]) ?_
      refine toi_ (y := nI (m_r mm r).length) (hle) ?_
      refine lv_icmp_ge (tgt := 63) hx hb d_R_placeBefore_19 (by decide) (fun h19 => ?_) (fun h19 => ?_)
      · skip
        exact absurd h19 (nI_ge (by omega) (by omega))
      · skip
        refine lv_iload hx hb d_R_placeBefore_22 (lv_at hl 1 rfl) ?_
        refine lv_if_le (tgt := 63) hx hb d_R_placeBefore_24 (by decide) (fun h24 => ?_) (fun h24 => ?_)
        · skip
          have hlf0 : lf = 0 := by
            rcases Nat.eq_zero_or_pos lf with h | h
            · exact h
            · exact absurd h24 (nI_nle h (by omega))
          subst hlf0
          have hfin : rl_ f (pl_ (m_r mm r) k x) := by
            simp only [Nat.zero_add] at hf
            unfold pl_
            rw [pa_stop (i := i) (by omega)]
            exact hf
          refine lv_aload hx hb d_R_placeBefore_63 (lv_at hl 2 rfl) ?_
          exact W.aret hx hb hr (Or.inr ⟨_, rfl⟩) (Or.inr ⟨_, rfl⟩) (fun t ht hW => ⟨⟨f, _, rfl, hfin, by rw [ht]; exact hP, hD⟩, hS.F ht⟩) hS.2.2 d_R_placeBefore_65
        · skip
          have hlf0 : 0 < lf := by
            rcases Nat.eq_zero_or_pos lf with h | h
            · exact absurd (by rw [h, nI_0]; exact Int32.le_refl 0) h24
            · exact h
          have hpl := pa_len (m_r mm r) x k i
          refine lv_aload_n hx hb d_R_placeBefore_27 rfl (lv_at hl 3 rfl) ?_
          refine va_get (D := D) (ci := 0) (v := .ref (ad 3)) (C := RR) (T := TR) (N := 9) hx hb hg inR hown hK hP 0 rfl rfl 2 (by decide) (hg _ fl_R_21) (fun _ h9 => h9) rfl d_R_placeBefore_28 ?_
          refine lv_iload_n hx hb d_R_placeBefore_31 rfl (lv_at hl 4 rfl) ?_
          refine va_aldg hx hb hK hP 3 2 rfl rfl (vp_in_nI (n := r) (N := 3) (by omega) (by omega)) d_R_placeBefore_32 ?_
          refine tov_ (y := .ref (ad (4 + r))) (by show va_rf (some (ad (4 + (nI r).toNatClampNeg))) = _; rw [nI_clamp (by omega)]; rfl) ?_
          refine lv_iload hx hb d_R_placeBefore_33 (lv_at hl 0 rfl) ?_
          refine va_iald hx hb hK hP (4 + r) 0 (wR_rowA hr3) rfl (vp_in_nI (n := i) (N := 40) (by omega) (by omega)) d_R_placeBefore_35 ?_
          refine toi_ (y := (rw r) i) (by rw [nI_clamp (by omega)]) ?_
          refine lv_iload_n hx hb d_R_placeBefore_36 rfl (lv_at hl 6 rfl) ?_
          refine lv_icmp_eq (tgt := 57) hx hb d_R_placeBefore_37 (by decide) (fun h37 => ?_) (fun h37 => ?_)
          · skip
            have hpa := pa_off (at' := k) hgi h37
            refine lv_iinc (k := 0) (v := nI (i + 1)) (lv' := [(6, .int (nI (i + 1))), (5, .int (nI lf)), (4, .ref q), (0, .ref (ad 0)), (1, .int (nI r)), (2, .int (nI k)), (3, .int x)]) hx hb d_R_placeBefore_57 hl rfl (inc_ _) (by decide) rfl (fun ls hl => ?_)
            refine lv_goto (tgt := 11) hx hb d_R_placeBefore_60 (by decide) ?_
            have hl := lv_sub hl [0, 1, 2, 3, 4, 5, 6] (l' := [(6, .int (nI (i + 1))), (5, .int (nI lf)), (4, .ref q), (0, .ref (ad 0)), (1, .int (nI r)), (2, .int (nI k)), (3, .int x)]) rfl
            exact ih (i + 1) lf f H locs ls (by omega) (by rw [hpa]; exact hlf) (by rw [hpa]; exact hf) hP hD hS hl
          · skip
            have hpa := pa_on (at' := k) hgi h37 (by omega)
            refine lv_iinc (k := 1) (v := nI (lf - 1)) (lv' := [(5, .int (nI (lf - 1))), (6, .int (nI i)), (4, .ref q), (0, .ref (ad 0)), (1, .int (nI r)), (2, .int (nI k)), (3, .int x)]) hx hb d_R_placeBefore_40 hl rfl (sb_m1 hlf0) (by decide) rfl (fun ls hl => ?_)
            refine lv_aload hx hb d_R_placeBefore_43 (lv_at hl 2 rfl) ?_
            refine lv_iload hx hb d_R_placeBefore_45 (lv_at hl 0 rfl) ?_
            refine lv_aload_n hx hb d_R_placeBefore_47 rfl (lv_at hl 3 rfl) ?_
            refine va_get (D := D) (ci := 0) (v := .ref (ad 3)) (C := RR) (T := TR) (N := 9) hx hb hg inR hown hK hP 0 rfl rfl 2 (by decide) (hg _ fl_R_21) (fun _ h9 => h9) rfl d_R_placeBefore_48 ?_
            refine lv_iload_n hx hb d_R_placeBefore_51 rfl (lv_at hl 4 rfl) ?_
            refine va_aldg hx hb hK hP 3 2 rfl rfl (vp_in_nI (n := r) (N := 3) (by omega) (by omega)) d_R_placeBefore_52 ?_
            refine tov_ (y := .ref (ad (4 + r))) (by show va_rf (some (ad (4 + (nI r).toNatClampNeg))) = _; rw [nI_clamp (by omega)]; rfl) ?_
            refine lv_iload hx hb d_R_placeBefore_53 (lv_at hl 1 rfl) ?_
            refine va_iald hx hb hK hP (4 + r) 0 (wR_rowA hr3) rfl (vp_in_nI (n := i) (N := 40) (by omega) (by omega)) d_R_placeBefore_55 ?_
            refine toi_ (y := (rw r) i) (by rw [nI_clamp (by omega)]) ?_
            refine va_iast hx hb hK hP hD hS 11 0 rfl rfl (vp_in_nI (n := lf - 1) (N := k) (by omega) (by omega)) d_R_placeBefore_56 (fun H locs hP hD hS => ?_)
            rw [nI_clamp (by omega)] at hP hD
            have hP : va_P D cls_ ((wR cA ad ce co rw le el ec nd pa nc) ++ [(q, .inl (cA 0, k, .inl (upd f (lf - 1) ((rw r) i))))]) H := hP
            have hD : va_D A ((wR cA ad ce co rw le el ec nd pa nc) ++ [(q, .inl (cA 0, k, .inl (upd f (lf - 1) ((rw r) i))))]) := hD
            refine lv_iinc (k := 1) (v := nI (i + 1)) (lv' := [(6, .int (nI (i + 1))), (5, .int (nI (lf - 1))), (4, .ref q), (0, .ref (ad 0)), (1, .int (nI r)), (2, .int (nI k)), (3, .int x)]) hx hb d_R_placeBefore_57 hl rfl (inc_ _) (by decide) rfl (fun ls hl => ?_)
            refine lv_goto (tgt := 11) hx hb d_R_placeBefore_60 (by decide) ?_
            have hl := lv_sub hl [0, 1, 2, 3, 4, 5, 6] (l' := [(6, .int (nI (i + 1))), (5, .int (nI (lf - 1))), (4, .ref q), (0, .ref (ad 0)), (1, .int (nI r)), (2, .int (nI k)), (3, .int x)]) rfl
            exact ih (i + 1) (lf - 1) _ H locs ls (by omega) (by rw [hpa, List.length_append, List.length_singleton]; omega) (by rw [hpa]; exact pb_step hlf0 hf) hP hD hS hl
  exact loop (m_r mm r).length 0 k _ H _ ls (by omega) (by rw [pa_0]; rfl) (fun j hj => by rw [pa_0] at hj; exact absurd hj (Nat.not_lt_zero _)) hP hD hS hl
