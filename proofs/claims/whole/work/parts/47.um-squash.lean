/-! UndoMemory: squash, the constructor -/
set_option maxHeartbeats 4000000 in
set_option maxRecDepth 100000 in
theorem m_U_squash (l : Launch) (D : va_G) (cA : Nat → ClassId) (sz : Nat) (au am at2 : Nat → Nat) (ic : Int32) (sa : Nat → Option Nat) (ip tk : Nat → Int32) (um ut : rs_T) (L : List Nat) (f : Nat → va_E) (hs : Nat → st_T) (ac : Nat → Bool) (n la : Nat) (T : List Int32) (hI : uI_ cA (hs, ac, n, la, T) (am, at2, ic, sa, ip, tk, um, ut, L, f)) (hla9 : la + 1 < 100000) : Met l y_U_squash (.code y_U_squash c_U_squash 3 (some .int) :: G_) ({ frames := 0, cells := 0, slots := 0, locals := 0 }) (va_Pc [.ref (au 0)] (pm_ D cA ((wU cA au (am 0) (at2 0) (nI n) (nI la) ic (nI T.length) sa ip tk) ++ ((wq_ cA am um) ++ ((wq_ cA at2 ut) ++ (va_pl L f)))) sz)) (va_Qi (fun (r : Int32) (u : uc_T) => r = (sp_squash (hs, ac, n, la, T)).1 ∧ uI_ cA (sp_squash (hs, ac, n, la, T)).2 u) (bw_ D (va_A ((wU cA au (am 0) (at2 0) (nI n) (nI la) ic (nI T.length) sa ip tk) ++ ((wq_ cA am um) ++ ((wq_ cA at2 ut) ++ (va_pl L f)))) sz) (fun u => wX cA au (sp_squash (hs, ac, n, la, T)).2 u)) (va_A ((wU cA au (am 0) (at2 0) (nI n) (nI la) ic (nI T.length) sa ip tk) ++ ((wq_ cA am um) ++ ((wq_ cA at2 ut) ++ (va_pl L f)))) sz)) 0 0 (va_A ((wU cA au (am 0) (at2 0) (nI n) (nI la) ic (nI T.length) sa ip tk) ++ ((wq_ cA am um) ++ ((wq_ cA at2 ut) ++ (va_pl L f)))) sz) := by
  refine Met.ofW (cc := c_U_squash) (maxL := 3) (ret := (some .int)) (by decide) rfl ?_
  intro p e s m args below meth c s₁ B hml hv
  obtain ⟨rfl, hsz, hP, ⟨hK, hN⟩, hD0⟩ := hv
  have hx := B.exec
  have hb := B.bytes
  have hr := B.returns
  have hts := atoms_spec (ws := (.code y_U_squash c_U_squash 3 (some .int) :: G_)) B.pre
  have hg : ∀ w ∈ G_, w.before ([.ref (au 0)] : List Value).toArray s = true := fun w h => hts w (List.mem_cons_of_mem _ h)
  have hown : s.vm.findClass RU = some m.cls := findClass_of_methodNamed B.named
  have hlocks := B.notSynchronized
  subst hsz
  have hD := hD0.self (sz := s.heap.size)
  generalize hAe : va_A ((wU cA au (am 0) (at2 0) (nI n) (nI la) ic (nI T.length) sa ip tk) ++ ((wq_ cA am um) ++ ((wq_ cA at2 ut) ++ (va_pl L f)))) s.heap.size = A at hD ⊢
  have hA : ∀ q : Nat, s.heap.size ≤ q → A q := fun q h => by rw [← hAe]; exact Or.inr h
  have hS : va_S A s.heap s.heap [] := va_S.rf
  have hl := lv_entry ([.ref (au 0)]) (n := 3) (Nat.le_of_ble_eq_true rfl)
  rw [lg_entry_eq]
  generalize (lg_sl ([.ref (au 0)]) ++ List.replicate (3 - (lg_sl ([.ref (au 0)])).length) Slot.unset).toArray = ls at hl ⊢
  have hl : lv_has ls 3 [(0, .ref (au 0))] := hl
  have hH : hi_ hs n la := hI.1.1
  have hU : ui_ cA hs ac n sa L f := hI.2.1
  have h200 := hH.1
  have loop2 : ∀ (d i : Nat) (sa1 : Nat → Option Nat) (H : Heap) (locs : List Loc) (ls : Array Slot), i + d = n → (al_ ac n).length ≤ i → (∀ j, j < (al_ ac n).length → sa1 j = sa ((al_ ac n).getD j 0)) → va_P D cls_ ((wU cA au (am 0) (at2 0) (nI n) (nI la) ic (nI T.length) sa1 ip tk) ++ ((wq_ cA am um) ++ ((wq_ cA at2 ut) ++ (va_pl L f)))) H → va_D A ((wU cA au (am 0) (at2 0) (nI n) (nI la) ic (nI T.length) sa1 ip tk) ++ ((wq_ cA am um) ++ ((wq_ cA at2 ut) ++ (va_pl L f)))) → va_S A s.heap H locs → lv_has ls 3 [(2, .int (nI i)), (1, .int (nI ((al_ ac n).length))), (0, .ref (au 0))] → W p l e (headSpec (.code y_U_squash c_U_squash 3 (some .int) :: G_) ({ frames := 0, cells := 0, slots := 0, locals := 0 })).room s m ([.ref (au 0)] : List Value).toArray below meth c H locs 0 0 (MQ below (va_Qi (fun (r : Int32) (u : uc_T) => r = (sp_squash (hs, ac, n, la, T)).1 ∧ uI_ cA (sp_squash (hs, ac, n, la, T)).2 u) (bw_ D A (fun u => wX cA au (sp_squash (hs, ac, n, la, T)).2 u)) A) ([.ref (au 0)] : List Value).toArray s 0 0 A) (F0 m 47 ls []) := by
    intro d
    induction d with
    | zero =>
      intro i sa1 H locs ls hid hle hsa hP hD hS hl
      have hi2 : i = n := by omega
      subst hi2
      refine lv_iload_n hx hb d_U_squash_47 rfl (lv_at hl 0 rfl) ?_
      refine lv_aload_n hx hb d_U_squash_48 rfl (lv_at hl 2 rfl) ?_
      refine va_get (D := D) (ci := 2) (v := .int (nI i)) (C := RU) (T := TU) (N := 9) hx hb hg inU hown hK hP 0 rfl rfl 1 (by decide) (hg _ fl_U_106) (fun _ h9 => h9) rfl d_U_squash_49 ?_
      refine lv_icmp_ge (tgt := 68) hx hb d_U_squash_52 (by decide) (fun h52 => ?_) (fun h52 => ?_)
      · skip
        refine lv_aload_n hx hb d_U_squash_68 rfl (lv_at hl 2 rfl) ?_
        refine lv_iload_n hx hb d_U_squash_69 rfl (lv_at hl 1 rfl) ?_
        refine va_put (D := D) (ci := 2) (v := .int (nI ((al_ ac i).length))) (ty := .int) (C := RU) (T := TU) (N := 9) hx hb hg inU tyU okU nmU hown hK hP hD hS 0 rfl rfl 1 (by decide) (hg _ fl_U_106) (fun _ h9 => h9) rfl (by decide +kernel) rfl rfl (Nat.le_of_ble_eq_true rfl) d_U_squash_70 (fun H locs hP hD hS => ?_)
        have hP : va_P D cls_ ((wU cA au (am 0) (at2 0) (nI ((al_ ac i).length)) (nI la) ic (nI T.length) sa1 ip tk) ++ ((wq_ cA am um) ++ ((wq_ cA at2 ut) ++ (va_pl L f)))) H := hP
        have hD : va_D A ((wU cA au (am 0) (at2 0) (nI ((al_ ac i).length)) (nI la) ic (nI T.length) sa1 ip tk) ++ ((wq_ cA am um) ++ ((wq_ cA at2 ut) ++ (va_pl L f)))) := hD
        refine lv_iload_n hx hb d_U_squash_73 rfl (lv_at hl 1 rfl) ?_
        have hui : ui_ cA (hq_ hs ac i) on_ (al_ ac i).length sa1 L f := by
          intro j hj
          obtain ⟨h1, h2⟩ := al_at hj
          obtain ⟨a, p, k1, k2, k3, k4⟩ := hU _ h1
          exact ⟨a, p, by rw [hsa j hj]; exact k1, k2, by rw [k3, h2]; rfl, k4⟩
        have hsp : sp_squash (hs, ac, i, la, T) = (nI (al_ ac i).length, (hq_ hs ac i, on_, (al_ ac i).length, la, T)) := rfl
        have hnew : uI_ cA (hq_ hs ac i, on_, (al_ ac i).length, la, T) (am, at2, ic, sa1, ip, tk, um, ut, L, f) := ⟨⟨hi_q hH, il_q hI.1.2.1 (Nat.le_refl i), hI.1.2.2⟩, hui, by show cq_ (rp_ (hq_ hs ac i) on_ (al_ ac i).length) um; rw [rp_q (Nat.le_refl i)]; exact hI.2.2.1, hI.2.2.2⟩
        exact W.iret hx hb hr (fun t ht9 hW => ⟨⟨_, (am, at2, ic, sa1, ip, tk, um, ut, L, f), rfl, ⟨by rw [hsp], by rw [hsp]; exact hnew⟩, by rw [ht9, hsp]; exact hP, by rw [hsp]; exact hD⟩, hS.F ht9⟩) hS.2.2 d_U_squash_74
      · skip
        exact absurd (Int32.le_refl _) h52
    | succ d ih =>
      intro i sa1 H locs ls hid hle hsa hP hD hS hl
      refine lv_iload_n hx hb d_U_squash_47 rfl (lv_at hl 0 rfl) ?_
      refine lv_aload_n hx hb d_U_squash_48 rfl (lv_at hl 2 rfl) ?_
      refine va_get (D := D) (ci := 2) (v := .int (nI n)) (C := RU) (T := TU) (N := 9) hx hb hg inU hown hK hP 0 rfl rfl 1 (by decide) (hg _ fl_U_106) (fun _ h9 => h9) rfl d_U_squash_49 ?_
      refine lv_icmp_ge (tgt := 68) hx hb d_U_squash_52 (by decide) (fun h52 => ?_) (fun h52 => ?_)
      · skip
        exact absurd h52 (nI_ge (by omega) (by omega))
      · skip
        refine lv_aload_n hx hb d_U_squash_55 rfl (lv_at hl 2 rfl) ?_
        refine va_get (D := D) (ci := 2) (v := .ref (au 1)) (C := RU) (T := TU) (N := 9) hx hb hg inU hown hK hP 0 rfl rfl 0 (by decide) (hg _ fl_U_11) (fun _ h9 => h9) rfl d_U_squash_56 ?_
        refine lv_iload_n hx hb d_U_squash_59 rfl (lv_at hl 0 rfl) ?_
        refine lv_null hx hb d_U_squash_60 ?_
        refine va_astqN hx hb hK hP hD hS 1 3 rfl rfl (vp_in_nI (n := i) (N := 200) (by omega) (by omega)) d_U_squash_61 (fun H locs hP hD hS => ?_)
        rw [nI_clamp (by omega)] at hP hD
        have hP : va_P D cls_ ((wU cA au (am 0) (at2 0) (nI n) (nI la) ic (nI T.length) (va_up sa1 i none) ip tk) ++ ((wq_ cA am um) ++ ((wq_ cA at2 ut) ++ (va_pl L f)))) H := hP
        have hD : va_D A ((wU cA au (am 0) (at2 0) (nI n) (nI la) ic (nI T.length) (va_up sa1 i none) ip tk) ++ ((wq_ cA am um) ++ ((wq_ cA at2 ut) ++ (va_pl L f)))) := hD
        refine lv_iinc (k := 0) (v := nI (i + 1)) (lv' := [(2, .int (nI (i + 1))), (1, .int (nI ((al_ ac n).length))), (0, .ref (au 0))]) hx hb d_U_squash_62 hl rfl (inc_ _) (by decide) rfl (fun ls hl => ?_)
        refine lv_goto (tgt := 47) hx hb d_U_squash_65 (by decide) ?_
        have hl := lv_sub hl [0, 1, 2] (l' := [(2, .int (nI (i + 1))), (1, .int (nI ((al_ ac n).length))), (0, .ref (au 0))]) rfl
        exact ih (i + 1) _ H locs ls (by omega) (by omega) (fun j hj => by rw [vu_ne (by omega)]; exact hsa j hj) hP hD hS hl
  have loop : ∀ (d i : Nat) (sa1 : Nat → Option Nat) (H : Heap) (locs : List Loc) (ls : Array Slot), i + d = n → (∀ j, j < (al_ ac i).length → sa1 j = sa ((al_ ac i).getD j 0)) → (∀ j, i ≤ j → sa1 j = sa j) → va_P D cls_ ((wU cA au (am 0) (at2 0) (nI n) (nI la) ic (nI T.length) sa1 ip tk) ++ ((wq_ cA am um) ++ ((wq_ cA at2 ut) ++ (va_pl L f)))) H → va_D A ((wU cA au (am 0) (at2 0) (nI n) (nI la) ic (nI T.length) sa1 ip tk) ++ ((wq_ cA am um) ++ ((wq_ cA at2 ut) ++ (va_pl L f)))) → va_S A s.heap H locs → lv_has ls 3 [(2, .int (nI i)), (1, .int (nI ((al_ ac i).length))), (0, .ref (au 0))] → W p l e (headSpec (.code y_U_squash c_U_squash 3 (some .int) :: G_) ({ frames := 0, cells := 0, slots := 0, locals := 0 })).room s m ([.ref (au 0)] : List Value).toArray below meth c H locs 0 0 (MQ below (va_Qi (fun (r : Int32) (u : uc_T) => r = (sp_squash (hs, ac, n, la, T)).1 ∧ uI_ cA (sp_squash (hs, ac, n, la, T)).2 u) (bw_ D A (fun u => wX cA au (sp_squash (hs, ac, n, la, T)).2 u)) A) ([.ref (au 0)] : List Value).toArray s 0 0 A) (F0 m 4 ls []) := by
    intro d
    induction d with
    | zero =>
      intro i sa1 H locs ls hid hsa hge hP hD hS hl
      have hi2 : i = n := by omega
      subst hi2
      refine lv_iload_n hx hb d_U_squash_4 rfl (lv_at hl 0 rfl) ?_
      refine lv_aload_n hx hb d_U_squash_5 rfl (lv_at hl 2 rfl) ?_
      refine va_get (D := D) (ci := 2) (v := .int (nI i)) (C := RU) (T := TU) (N := 9) hx hb hg inU hown hK hP 0 rfl rfl 1 (by decide) (hg _ fl_U_106) (fun _ h9 => h9) rfl d_U_squash_6 ?_
      refine lv_icmp_ge (tgt := 45) hx hb d_U_squash_9 (by decide) (fun h9 => ?_) (fun h9 => ?_)
      · skip
        refine lv_iload_n hx hb d_U_squash_45 rfl (lv_at hl 1 rfl) ?_
        refine lv_istore_n (lv' := [(2, .int (nI ((al_ ac i).length))), (1, .int (nI ((al_ ac i).length))), (0, .ref (au 0))]) hx hb d_U_squash_46 rfl hl (by decide) rfl (fun ls hl => ?_)
        have hl := lv_sub hl [0, 1, 2] (l' := [(2, .int (nI ((al_ ac i).length))), (1, .int (nI ((al_ ac i).length))), (0, .ref (au 0))]) rfl
        have hle9 := al_le ac i
        exact loop2 (i - (al_ ac i).length) (al_ ac i).length sa1 H locs ls (by omega) (Nat.le_refl _) hsa hP hD hS hl
      · skip
        exact absurd (Int32.le_refl _) h9
    | succ d ih =>
      intro i sa1 H locs ls hid hsa hge hP hD hS hl
      have hle9 := al_le ac i
      refine lv_iload_n hx hb d_U_squash_4 rfl (lv_at hl 0 rfl) ?_
      refine lv_aload_n hx hb d_U_squash_5 rfl (lv_at hl 2 rfl) ?_
      refine va_get (D := D) (ci := 2) (v := .int (nI n)) (C := RU) (T := TU) (N := 9) hx hb hg inU hown hK hP 0 rfl rfl 1 (by decide) (hg _ fl_U_106) (fun _ h9 => h9) rfl d_U_squash_6 ?_
      refine lv_icmp_ge (tgt := 45) hx hb d_U_squash_9 (by decide) (fun h9 => ?_) (fun h9 => ?_)
      · skip
        exact absurd h9 (nI_ge (by omega) (by omega))
      · skip
        refine lv_aload_n hx hb d_U_squash_12 rfl (lv_at hl 2 rfl) ?_
        refine va_get (D := D) (ci := 2) (v := .ref (au 1)) (C := RU) (T := TU) (N := 9) hx hb hg inU hown hK hP 0 rfl rfl 0 (by decide) (hg _ fl_U_11) (fun _ h9 => h9) rfl d_U_squash_13 ?_
        refine lv_iload_n hx hb d_U_squash_16 rfl (lv_at hl 0 rfl) ?_
        obtain ⟨a17, p17, hsa17, haL17, hfa17, hst17⟩ := ui_at hU (i := i) (by omega) (wp_r (wp_r (wp_r hP)))
        refine va_aldq hx hb hK hP 1 3 rfl rfl (vp_in_nI (n := i) (N := 200) (by omega) (by omega)) d_U_squash_17 ?_
        refine tov_ (y := .ref a17) (by rw [nI_clamp (by omega), hge i (Nat.le_refl i), hsa17]; rfl) ?_
        refine va_getN (D := D) (ci := 1) (v := .int (b2_ (ac i))) (C := RS) (T := TS) (N := 7) hx hb hg inS hown hK hst17 0 rfl rfl 6 (by decide) (va_Nw.use rfl (hN.1 _ fn_U_65)) (fun _ h9 => h9) rfl d_U_squash_18 ?_
        refine lv_if_eq (tgt := 39) hx hb d_U_squash_21 (by decide) (fun h21 => ?_) (fun h21 => ?_)
        · skip
          have hq : ac i = false := b2_0.mp h21
          have hal : al_ ac (i + 1) = al_ ac i := by rw [al_s, hq]; rfl
          refine lv_iinc (k := 0) (v := nI (i + 1)) (lv' := [(2, .int (nI (i + 1))), (1, .int (nI ((al_ ac i).length))), (0, .ref (au 0))]) hx hb d_U_squash_39 hl rfl (inc_ _) (by decide) rfl (fun ls hl => ?_)
          refine lv_goto (tgt := 4) hx hb d_U_squash_42 (by decide) ?_
          have hl := lv_sub hl [0, 1, 2] (l' := [(2, .int (nI (i + 1))), (1, .int (nI ((al_ ac i).length))), (0, .ref (au 0))]) rfl
          rw [← hal] at hl
          exact ih (i + 1) sa1 H locs ls (by omega) (by rw [hal]; exact hsa) (fun j hj => hge j (by omega)) hP hD hS hl
        · skip
          have hq : ac i = true := b2_n.mp h21
          have hal : al_ ac (i + 1) = al_ ac i ++ [i] := by rw [al_s, if_pos hq]
          refine lv_aload_n hx hb d_U_squash_24 rfl (lv_at hl 2 rfl) ?_
          refine va_get (D := D) (ci := 2) (v := .ref (au 1)) (C := RU) (T := TU) (N := 9) hx hb hg inU hown hK hP 0 rfl rfl 0 (by decide) (hg _ fl_U_11) (fun _ h9 => h9) rfl d_U_squash_25 ?_
          refine lv_iload_n hx hb d_U_squash_28 rfl (lv_at hl 1 rfl) ?_
          refine lv_aload_n hx hb d_U_squash_29 rfl (lv_at hl 2 rfl) ?_
          refine va_get (D := D) (ci := 2) (v := .ref (au 1)) (C := RU) (T := TU) (N := 9) hx hb hg inU hown hK hP 0 rfl rfl 0 (by decide) (hg _ fl_U_11) (fun _ h9 => h9) rfl d_U_squash_30 ?_
          refine lv_iload_n hx hb d_U_squash_33 rfl (lv_at hl 0 rfl) ?_
          obtain ⟨a34, p34, hsa34, haL34, hfa34, hst34⟩ := ui_at hU (i := i) (by omega) (wp_r (wp_r (wp_r hP)))
          refine va_aldq hx hb hK hP 1 3 rfl rfl (vp_in_nI (n := i) (N := 200) (by omega) (by omega)) d_U_squash_34 ?_
          refine tov_ (y := .ref a34) (by rw [nI_clamp (by omega), hge i (Nat.le_refl i), hsa34]; rfl) ?_
          obtain ⟨k9, hk9⟩ := cell_in (w1 := (wU cA au (am 0) (at2 0) (nI n) (nI la) ic (nI T.length) sa1 ip tk)) (w2 := (wq_ cA am um)) (w3 := (wq_ cA at2 ut)) haL34 hfa34
          refine va_astq (r := (RS, TS, 7)) hx hb hK hP hD hS 1 3 k9 1 rfl rfl hk9 rfl (vp_in_nI (n := (al_ ac i).length) (N := 200) (by omega) (by omega)) d_U_squash_35 (fun H locs hP hD hS => ?_)
          rw [nI_clamp (by omega)] at hP hD
          have hP : va_P D cls_ ((wU cA au (am 0) (at2 0) (nI n) (nI la) ic (nI T.length) (va_up sa1 (al_ ac i).length (some a34)) ip tk) ++ ((wq_ cA am um) ++ ((wq_ cA at2 ut) ++ (va_pl L f)))) H := hP
          have hD : va_D A ((wU cA au (am 0) (at2 0) (nI n) (nI la) ic (nI T.length) (va_up sa1 (al_ ac i).length (some a34)) ip tk) ++ ((wq_ cA am um) ++ ((wq_ cA at2 ut) ++ (va_pl L f)))) := hD
          refine lv_iinc (k := 1) (v := nI ((al_ ac i).length + 1)) (lv' := [(1, .int (nI ((al_ ac i).length + 1))), (2, .int (nI i)), (0, .ref (au 0))]) hx hb d_U_squash_36 hl rfl (inc_ _) (by decide) rfl (fun ls hl => ?_)
          refine lv_iinc (k := 1) (v := nI (i + 1)) (lv' := [(2, .int (nI (i + 1))), (1, .int (nI ((al_ ac i).length + 1))), (0, .ref (au 0))]) hx hb d_U_squash_39 hl rfl (inc_ _) (by decide) rfl (fun ls hl => ?_)
          refine lv_goto (tgt := 4) hx hb d_U_squash_42 (by decide) ?_
          have hlen : (al_ ac (i + 1)).length = (al_ ac i).length + 1 := by rw [hal, List.length_append, List.length_singleton]
          have hl := lv_sub hl [0, 1, 2] (l' := [(2, .int (nI (i + 1))), (1, .int (nI ((al_ ac i).length + 1))), (0, .ref (au 0))]) rfl
          rw [← hlen] at hl
          refine ih (i + 1) _ H locs ls (by omega) (fun j hj => ?_) (fun j hj => by rw [vu_ne (by omega)]; exact hge j (by omega)) hP hD hS hl
          by_cases hje : j = (al_ ac i).length
          · rw [hje, vu_eq, al_top hq (Nat.lt_succ_self i), hsa34]
          · rw [vu_ne hje, hsa j (by omega), al_get (Nat.le_succ i) (by omega)]
  refine lv_iconst (v := 0) hx hb d_U_squash_0 (by decide) ?_
  refine lv_istore_n (lv' := [(1, .int 0), (0, .ref (au 0))]) hx hb d_U_squash_1 rfl hl (by decide) rfl (fun ls hl => ?_)
  refine lv_iconst (v := 0) hx hb d_U_squash_2 (by decide) ?_
  refine lv_istore_n (lv' := [(2, .int 0), (1, .int 0), (0, .ref (au 0))]) hx hb d_U_squash_3 rfl hl (by decide) rfl (fun ls hl => ?_)
  have hl := lv_sub hl [0, 1, 2] (l' := [(2, .int (nI 0)), (1, .int (nI 0)), (0, .ref (au 0))]) rfl
  exact loop n 0 sa _ _ ls (by omega) (fun j h => absurd h (Nat.not_lt_zero _)) (fun j _ => rfl) hP hD hS hl

/-- no steps -/
def a0_ : ab_T := (fun _ => (0, 0, 0, 0, 0, []), fun _ => false, 0, 0, [])
theorem pm_in {α : Type} (a x : List α) (c : α) : ((a ++ x) ++ [c]).Perm ((a ++ [c]) ++ x) := by
  rw [List.append_assoc, List.append_assoc]
  exact List.Perm.append_left a List.perm_append_comm
theorem aI_0 : aI_ a0_ := ⟨⟨Nat.zero_le _, by decide, fun k h => absurd h (Nat.not_lt_zero _), fun i j _ h => absurd h (Nat.not_lt_zero _), fun k h => absurd h (Nat.not_lt_zero _), fun r _ => Nat.zero_le _⟩, rfl, Nat.zero_le _⟩

set_option maxHeartbeats 4000000 in
set_option maxRecDepth 100000 in
theorem m_U_init (l : Launch) (D : va_G) (cA : Nat → ClassId) (sz : Nat) (h0 : Nat) : Met l y_U_init (.code y_U_init c_U_init 1 none :: G_) ({ frames := 2, cells := 25, slots := 1934, locals := 32 }) (va_Pc [.ref h0] (pm_ D cA [(h0, .inr (2, [.null, .int 0, .int 0, .null, .null, .null, .int 0, .null, .int 0]))] sz)) (va_Qv (fun (u : (Nat → Nat) × uc_T) => u.1 0 = h0 ∧ uI_ cA a0_ u.2) (bw_ D (va_A [(h0, .inr (2, [.null, .int 0, .int 0, .null, .null, .null, .int 0, .null, .int 0]))] sz) (fun u => wX cA u.1 a0_ u.2)) (va_A [(h0, .inr (2, [.null, .int 0, .int 0, .null, .null, .null, .int 0, .null, .int 0]))] sz)) 25 1934 (va_A [(h0, .inr (2, [.null, .int 0, .int 0, .null, .null, .null, .int 0, .null, .int 0]))] sz) := by
  refine Met.ofW (cc := c_U_init) (maxL := 1) (ret := none) (by decide) rfl ?_
  intro p e s m args below meth c s₁ B hml hv
  obtain ⟨rfl, hsz, hP, ⟨hK, hN⟩, hD0⟩ := hv
  have hx := B.exec
  have hb := B.bytes
  have hr := B.returns
  have hts := atoms_spec (ws := (.code y_U_init c_U_init 1 none :: G_)) B.pre
  have hg : ∀ w ∈ G_, w.before ([.ref h0] : List Value).toArray s = true := fun w h => hts w (List.mem_cons_of_mem _ h)
  have hown : s.vm.findClass RU = some m.cls := findClass_of_methodNamed B.named
  have hlocks := B.notSynchronized
  have hin : meth.name = "<init>" := (name_of_methodNamed B.named B.method).1
  subst hsz
  have hD := hD0.self (sz := s.heap.size)
  generalize hAe : va_A [(h0, .inr (2, [.null, .int 0, .int 0, .null, .null, .null, .int 0, .null, .int 0]))] s.heap.size = A at hD ⊢
  have hA : ∀ q : Nat, s.heap.size ≤ q → A q := fun q h => by rw [← hAe]; exact Or.inr h
  have hS : va_S A s.heap s.heap [] := va_S.rf
  have hl := lv_entry ([.ref h0]) (n := 1) (Nat.le_of_ble_eq_true rfl)
  rw [lg_entry_eq]
  generalize (lg_sl ([.ref h0]) ++ List.replicate (1 - (lg_sl ([.ref h0])).length) Slot.unset).toArray = ls at hl ⊢
  have hl : lv_has ls 1 [(0, .ref h0)] := hl
  refine lv_aload_n hx hb d_U_init_0 rfl (lv_at hl 0 rfl) ?_
  refine W.objInit hx hb hown (hg _ ml_U_1) (hg _ im_O_init) (hg _ cd_O_init) rfl (by rw [hml]; exact hl.1) rfl d_U_init_1 (Nat.le_of_ble_eq_true rfl) (Nat.le_of_ble_eq_true rfl) ?_
  refine W.eq (g2 := F0 m 4 ls []) rfl ?_
  refine lv_aload_n hx hb d_U_init_4 rfl (lv_at hl 0 rfl) ?_
  refine lv_sipush (v := 200) hx hb d_U_init_5 (by decide) ?_
  refine va_newq (N' := 200) hx hb hown (hg _ cl_U_9) hN.2.1 hK hP hD hS hA (by decide) (by decide) (by decide) (show 1 ≤ 25 by decide) (show 200 ≤ 1934 by decide) d_U_init_8 (fun q1 c9 H hK9 hP hD hS => ?_)
  obtain rfl := cn_S hK9
  have hP : va_P D cls_ [(h0, .inr (2, [.null, .int 0, .int 0, .null, .null, .null, .int 0, .null, .int 0])), (q1, .inl (cA 3, 200, .inr (.inr (.inr (.inr (fun _ => none))))))] H := hP
  have hD : va_D A [(h0, .inr (2, [.null, .int 0, .int 0, .null, .null, .null, .int 0, .null, .int 0])), (q1, .inl (cA 3, 200, .inr (.inr (.inr (.inr (fun _ => none))))))] := hD
  refine W.widen (k := 1) (n := 200) (by decide) (by decide) ?_
  refine va_putF (D := D) (ci := 2) (v := .ref q1) (ty := (.array (.object "UndoMemory$Step"))) (C := RU) (T := TU) (N := 9) hx hb hg inU tyU okU nmU hown hK hP hD hS 0 rfl rfl 0 (by decide) (hg _ fl_U_11) (fun _ h9 => h9) rfl hin rfl (by decide +kernel) rfl rfl (Nat.le_of_ble_eq_true rfl) d_U_init_11 (fun H locs hP hD hS => ?_)
  have hP : va_P D cls_ [(h0, .inr (2, [.ref q1, .int 0, .int 0, .null, .null, .null, .int 0, .null, .int 0])), (q1, .inl (cA 3, 200, .inr (.inr (.inr (.inr (fun _ => none))))))] H := hP
  have hD : va_D A [(h0, .inr (2, [.ref q1, .int 0, .int 0, .null, .null, .null, .int 0, .null, .int 0])), (q1, .inl (cA 3, 200, .inr (.inr (.inr (.inr (fun _ => none))))))] := hD
  refine lv_aload_n hx hb d_U_init_14 rfl (lv_at hl 0 rfl) ?_
  refine va_new (ci := 0) (fs := [.null, .null, .null, .null, .null, .int 0, .null, .null, .int 0]) (C := RR) (T := TR) (N := 9) hx hb hg inR tyR okR hown (hg _ cl_U_15) (hg _ ins_R) (hg _ ini_R) hK hP hD hS hA rfl (fun j hj => by rcases (show j = 0 ∨ j = 1 ∨ j = 2 ∨ j = 3 ∨ j = 4 ∨ j = 5 ∨ j = 6 ∨ j = 7 ∨ j = 8 by omega) with rfl | rfl | rfl | rfl | rfl | rfl | rfl | rfl | rfl <;> rfl) (show 2 ≤ 25 by decide) (show 209 ≤ 1934 by decide) d_U_init_15 (fun q2 H hP hD hS => ?_)
  refine W.widen (k := 2) (n := 209) (by decide) (by decide) ?_
  have hP := wp_pm List.perm_append_comm hP
  have hD := wd_pm List.perm_append_comm hD
  have hP : va_P D cls_ ([(q2, .inr (0, [.null, .null, .null, .null, .null, .int 0, .null, .null, .int 0]))] ++ [(h0, .inr (2, [.ref q1, .int 0, .int 0, .null, .null, .null, .int 0, .null, .int 0])), (q1, .inl (cA 3, 200, .inr (.inr (.inr (.inr (fun _ => none))))))]) H := hP
  have hD : va_D A ([(q2, .inr (0, [.null, .null, .null, .null, .null, .int 0, .null, .null, .int 0]))] ++ [(h0, .inr (2, [.ref q1, .int 0, .int 0, .null, .null, .null, .int 0, .null, .int 0])), (q1, .inl (cA 3, 200, .inr (.inr (.inr (.inr (fun _ => none))))))]) := hD
  refine lv_dup hx hb d_U_init_18 rfl ?_
  refine mu_v (w := [(q2, .inr (0, [.null, .null, .null, .null, .null, .int 0, .null, .null, .int 0]))]) (wr := [(h0, .inr (2, [.ref q1, .int 0, .int 0, .null, .null, .null, .int 0, .null, .int 0])), (q1, .inl (cA 3, 200, .inr (.inr (.inr (.inr (fun _ => none))))))]) (va_runI (As := []) (rest := [.ref q2, .ref h0]) ⟨hx, hb, hml, hown, hg⟩ (m_R_init l D cA H.size q2) (cwI 0 hg (gd_ cd_R_init) rfl rfl rfl (hg _ ini_R) (hg _ ml_U_17) (hg _ im_R_init) rfl (by decide +kernel) ⟨Nat.le_of_ble_eq_true rfl, Nat.le_of_ble_eq_true rfl⟩) (ps_m (wp_l hP) hK hN (wd_l hD)) rfl rfl hl.1 rfl (lv_room (Nat.le_of_ble_eq_true rfl)) d_U_init_19 ⟨Nat.le_of_ble_eq_true rfl, Nat.le_of_ble_eq_true rfl⟩) hP hD hS hA (fun u9 H locs hp9 hPn hDn hS => ?_)
  obtain ⟨am, um⟩ := u9
  obtain ⟨hq0, hc1⟩ := hp9
  change am 0 = q2 at hq0
  subst hq0
  have hP := wp_pm List.perm_append_comm hPn
  have hD := wd_pm List.perm_append_comm hDn
  refine W.widen (k := 12) (n := 867) (by decide) (by decide) ?_
  have hP : va_P D cls_ ([(h0, .inr (2, [.ref q1, .int 0, .int 0, .null, .null, .null, .int 0, .null, .int 0])), (q1, .inl (cA 3, 200, .inr (.inr (.inr (.inr (fun _ => none))))))] ++ (wq_ cA am um)) H := hP
  have hD : va_D A ([(h0, .inr (2, [.ref q1, .int 0, .int 0, .null, .null, .null, .int 0, .null, .int 0])), (q1, .inl (cA 3, 200, .inr (.inr (.inr (.inr (fun _ => none))))))] ++ (wq_ cA am um)) := hD
  refine va_put (D := D) (ci := 2) (v := .ref (am 0)) (ty := (.object "UndoMemory$Replay")) (C := RU) (T := TU) (N := 9) hx hb hg inU tyU okU nmU hown hK hP hD hS 0 rfl rfl 3 (by decide) (hg _ fl_U_18) (fun _ h9 => h9) rfl (by decide +kernel) rfl rfl (Nat.le_of_ble_eq_true rfl) d_U_init_22 (fun H locs hP hD hS => ?_)
  have hP : va_P D cls_ ([(h0, .inr (2, [.ref q1, .int 0, .int 0, .ref (am 0), .null, .null, .int 0, .null, .int 0])), (q1, .inl (cA 3, 200, .inr (.inr (.inr (.inr (fun _ => none))))))] ++ (wq_ cA am um)) H := hP
  have hD : va_D A ([(h0, .inr (2, [.ref q1, .int 0, .int 0, .ref (am 0), .null, .null, .int 0, .null, .int 0])), (q1, .inl (cA 3, 200, .inr (.inr (.inr (.inr (fun _ => none))))))] ++ (wq_ cA am um)) := hD
  refine lv_aload_n hx hb d_U_init_25 rfl (lv_at hl 0 rfl) ?_
  refine va_new (ci := 0) (fs := [.null, .null, .null, .null, .null, .int 0, .null, .null, .int 0]) (C := RR) (T := TR) (N := 9) hx hb hg inR tyR okR hown (hg _ cl_U_15) (hg _ ins_R) (hg _ ini_R) hK hP hD hS hA rfl (fun j hj => by rcases (show j = 0 ∨ j = 1 ∨ j = 2 ∨ j = 3 ∨ j = 4 ∨ j = 5 ∨ j = 6 ∨ j = 7 ∨ j = 8 by omega) with rfl | rfl | rfl | rfl | rfl | rfl | rfl | rfl | rfl <;> rfl) (show 13 ≤ 25 by decide) (show 876 ≤ 1934 by decide) d_U_init_26 (fun q3 H hP hD hS => ?_)
  refine W.widen (k := 13) (n := 876) (by decide) (by decide) ?_
  have hP := wp_pm List.perm_append_comm hP
  have hD := wd_pm List.perm_append_comm hD
  have hP : va_P D cls_ ([(q3, .inr (0, [.null, .null, .null, .null, .null, .int 0, .null, .null, .int 0]))] ++ ([(h0, .inr (2, [.ref q1, .int 0, .int 0, .ref (am 0), .null, .null, .int 0, .null, .int 0])), (q1, .inl (cA 3, 200, .inr (.inr (.inr (.inr (fun _ => none))))))] ++ (wq_ cA am um))) H := hP
  have hD : va_D A ([(q3, .inr (0, [.null, .null, .null, .null, .null, .int 0, .null, .null, .int 0]))] ++ ([(h0, .inr (2, [.ref q1, .int 0, .int 0, .ref (am 0), .null, .null, .int 0, .null, .int 0])), (q1, .inl (cA 3, 200, .inr (.inr (.inr (.inr (fun _ => none))))))] ++ (wq_ cA am um))) := hD
  refine lv_dup hx hb d_U_init_29 rfl ?_
  refine mu_v (w := [(q3, .inr (0, [.null, .null, .null, .null, .null, .int 0, .null, .null, .int 0]))]) (wr := ([(h0, .inr (2, [.ref q1, .int 0, .int 0, .ref (am 0), .null, .null, .int 0, .null, .int 0])), (q1, .inl (cA 3, 200, .inr (.inr (.inr (.inr (fun _ => none))))))] ++ (wq_ cA am um))) (va_runI (As := []) (rest := [.ref q3, .ref h0]) ⟨hx, hb, hml, hown, hg⟩ (m_R_init l D cA H.size q3) (cwI 0 hg (gd_ cd_R_init) rfl rfl rfl (hg _ ini_R) (hg _ ml_U_17) (hg _ im_R_init) rfl (by decide +kernel) ⟨Nat.le_of_ble_eq_true rfl, Nat.le_of_ble_eq_true rfl⟩) (ps_m (wp_l hP) hK hN (wd_l hD)) rfl rfl hl.1 rfl (lv_room (Nat.le_of_ble_eq_true rfl)) d_U_init_30 ⟨Nat.le_of_ble_eq_true rfl, Nat.le_of_ble_eq_true rfl⟩) hP hD hS hA (fun u9 H locs hp9 hPn hDn hS => ?_)
  obtain ⟨at2, ut⟩ := u9
  obtain ⟨hq0, hc2⟩ := hp9
  change at2 0 = q3 at hq0
  subst hq0
  have hP := wp_pm List.perm_append_comm hPn
  have hD := wd_pm List.perm_append_comm hDn
  refine W.widen (k := 23) (n := 1534) (by decide) (by decide) ?_
  rw [List.append_assoc] at hP hD
  have hP : va_P D cls_ ([(h0, .inr (2, [.ref q1, .int 0, .int 0, .ref (am 0), .null, .null, .int 0, .null, .int 0])), (q1, .inl (cA 3, 200, .inr (.inr (.inr (.inr (fun _ => none))))))] ++ ((wq_ cA am um) ++ (wq_ cA at2 ut))) H := hP
  have hD : va_D A ([(h0, .inr (2, [.ref q1, .int 0, .int 0, .ref (am 0), .null, .null, .int 0, .null, .int 0])), (q1, .inl (cA 3, 200, .inr (.inr (.inr (.inr (fun _ => none))))))] ++ ((wq_ cA am um) ++ (wq_ cA at2 ut))) := hD
  refine va_put (D := D) (ci := 2) (v := .ref (at2 0)) (ty := (.object "UndoMemory$Replay")) (C := RU) (T := TU) (N := 9) hx hb hg inU tyU okU nmU hown hK hP hD hS 0 rfl rfl 4 (by decide) (hg _ fl_U_22) (fun _ h9 => h9) rfl (by decide +kernel) rfl rfl (Nat.le_of_ble_eq_true rfl) d_U_init_33 (fun H locs hP hD hS => ?_)
  have hP : va_P D cls_ ([(h0, .inr (2, [.ref q1, .int 0, .int 0, .ref (am 0), .ref (at2 0), .null, .int 0, .null, .int 0])), (q1, .inl (cA 3, 200, .inr (.inr (.inr (.inr (fun _ => none))))))] ++ ((wq_ cA am um) ++ (wq_ cA at2 ut))) H := hP
  have hD : va_D A ([(h0, .inr (2, [.ref q1, .int 0, .int 0, .ref (am 0), .ref (at2 0), .null, .int 0, .null, .int 0])), (q1, .inl (cA 3, 200, .inr (.inr (.inr (.inr (fun _ => none))))))] ++ ((wq_ cA am um) ++ (wq_ cA at2 ut))) := hD
  refine lv_aload_n hx hb d_U_init_36 rfl (lv_at hl 0 rfl) ?_
  refine lv_sipush (v := 200) hx hb d_U_init_37 (by decide) ?_
  refine va_newa (atype := .int) (ty := .int) (N' := 200) (a0 := (200, .inl (fun _ => 0))) hx hb (hg _ ac_int) rfl hK hP hD hS hA (fun _ => rfl) (by decide) (by decide) (by decide) (show 24 ≤ 25 by decide) (show 1734 ≤ 1934 by decide) d_U_init_40 (fun q5 c9 H hK9 hP hD hS => ?_)
  obtain rfl := cn_I hK9
  have hP := wp_pm (pm_in _ _ _) hP
  have hD := wd_pm (pm_in _ _ _) hD
  have hP : va_P D cls_ ([(h0, .inr (2, [.ref q1, .int 0, .int 0, .ref (am 0), .ref (at2 0), .null, .int 0, .null, .int 0])), (q1, .inl (cA 3, 200, .inr (.inr (.inr (.inr (fun _ => none)))))), (q5, .inl (cA 0, 200, .inl (fun _ => 0)))] ++ ((wq_ cA am um) ++ (wq_ cA at2 ut))) H := hP
  have hD : va_D A ([(h0, .inr (2, [.ref q1, .int 0, .int 0, .ref (am 0), .ref (at2 0), .null, .int 0, .null, .int 0])), (q1, .inl (cA 3, 200, .inr (.inr (.inr (.inr (fun _ => none)))))), (q5, .inl (cA 0, 200, .inl (fun _ => 0)))] ++ ((wq_ cA am um) ++ (wq_ cA at2 ut))) := hD
  refine W.widen (k := 24) (n := 1734) (by decide) (by decide) ?_
  refine va_putF (D := D) (ci := 2) (v := .ref q5) (ty := (.array .int)) (C := RU) (T := TU) (N := 9) hx hb hg inU tyU okU nmU hown hK hP hD hS 0 rfl rfl 5 (by decide) (hg _ fl_U_25) (fun _ h9 => h9) rfl hin rfl (by decide +kernel) rfl rfl (Nat.le_of_ble_eq_true rfl) d_U_init_42 (fun H locs hP hD hS => ?_)
  have hP : va_P D cls_ ([(h0, .inr (2, [.ref q1, .int 0, .int 0, .ref (am 0), .ref (at2 0), .ref q5, .int 0, .null, .int 0])), (q1, .inl (cA 3, 200, .inr (.inr (.inr (.inr (fun _ => none)))))), (q5, .inl (cA 0, 200, .inl (fun _ => 0)))] ++ ((wq_ cA am um) ++ (wq_ cA at2 ut))) H := hP
  have hD : va_D A ([(h0, .inr (2, [.ref q1, .int 0, .int 0, .ref (am 0), .ref (at2 0), .ref q5, .int 0, .null, .int 0])), (q1, .inl (cA 3, 200, .inr (.inr (.inr (.inr (fun _ => none)))))), (q5, .inl (cA 0, 200, .inl (fun _ => 0)))] ++ ((wq_ cA am um) ++ (wq_ cA at2 ut))) := hD
  refine lv_aload_n hx hb d_U_init_45 rfl (lv_at hl 0 rfl) ?_
  refine lv_sipush (v := 200) hx hb d_U_init_46 (by decide) ?_
  refine va_newa (atype := .int) (ty := .int) (N' := 200) (a0 := (200, .inl (fun _ => 0))) hx hb (hg _ ac_int) rfl hK hP hD hS hA (fun _ => rfl) (by decide) (by decide) (by decide) (show 25 ≤ 25 by decide) (show 1934 ≤ 1934 by decide) d_U_init_49 (fun q6 c9 H hK9 hP hD hS => ?_)
  obtain rfl := cn_I hK9
  have hP := wp_pm (pm_in _ _ _) hP
  have hD := wd_pm (pm_in _ _ _) hD
  have hP : va_P D cls_ ([(h0, .inr (2, [.ref q1, .int 0, .int 0, .ref (am 0), .ref (at2 0), .ref q5, .int 0, .null, .int 0])), (q1, .inl (cA 3, 200, .inr (.inr (.inr (.inr (fun _ => none)))))), (q5, .inl (cA 0, 200, .inl (fun _ => 0))), (q6, .inl (cA 0, 200, .inl (fun _ => 0)))] ++ ((wq_ cA am um) ++ (wq_ cA at2 ut))) H := hP
  have hD : va_D A ([(h0, .inr (2, [.ref q1, .int 0, .int 0, .ref (am 0), .ref (at2 0), .ref q5, .int 0, .null, .int 0])), (q1, .inl (cA 3, 200, .inr (.inr (.inr (.inr (fun _ => none)))))), (q5, .inl (cA 0, 200, .inl (fun _ => 0))), (q6, .inl (cA 0, 200, .inl (fun _ => 0)))] ++ ((wq_ cA am um) ++ (wq_ cA at2 ut))) := hD
  refine W.widen (k := 25) (n := 1934) (by decide) (by decide) ?_
  refine va_putF (D := D) (ci := 2) (v := .ref q6) (ty := (.array .int)) (C := RU) (T := TU) (N := 9) hx hb hg inU tyU okU nmU hown hK hP hD hS 0 rfl rfl 7 (by decide) (hg _ fl_U_29) (fun _ h9 => h9) rfl hin rfl (by decide +kernel) rfl rfl (Nat.le_of_ble_eq_true rfl) d_U_init_51 (fun H locs hP hD hS => ?_)
  have hP : va_P D cls_ ([(h0, .inr (2, [.ref q1, .int 0, .int 0, .ref (am 0), .ref (at2 0), .ref q5, .int 0, .ref q6, .int 0])), (q1, .inl (cA 3, 200, .inr (.inr (.inr (.inr (fun _ => none)))))), (q5, .inl (cA 0, 200, .inl (fun _ => 0))), (q6, .inl (cA 0, 200, .inl (fun _ => 0)))] ++ ((wq_ cA am um) ++ (wq_ cA at2 ut))) H := hP
  have hD : va_D A ([(h0, .inr (2, [.ref q1, .int 0, .int 0, .ref (am 0), .ref (at2 0), .ref q5, .int 0, .ref q6, .int 0])), (q1, .inl (cA 3, 200, .inr (.inr (.inr (.inr (fun _ => none)))))), (q5, .inl (cA 0, 200, .inl (fun _ => 0))), (q6, .inl (cA 0, 200, .inl (fun _ => 0)))] ++ ((wq_ cA am um) ++ (wq_ cA at2 ut))) := hD
  have hnil : va_pl [] (fun _ => (.inr (0, []) : va_E)) = [] := rfl
  have hx9 : (wX cA (fun i => [h0, q1, q5, q6].getD i 0) a0_ (am, at2, 0, fun _ => none, fun _ => 0, fun _ => 0, um, ut, [], fun _ => .inr (0, []))) = ([(h0, .inr (2, [.ref q1, .int 0, .int 0, .ref (am 0), .ref (at2 0), .ref q5, .int 0, .ref q6, .int 0])), (q1, .inl (cA 3, 200, .inr (.inr (.inr (.inr (fun _ => none)))))), (q5, .inl (cA 0, 200, .inl (fun _ => 0))), (q6, .inl (cA 0, 200, .inl (fun _ => 0)))] ++ ((wq_ cA am um) ++ (wq_ cA at2 ut))) := by
    show _ ++ (_ ++ (wq_ cA at2 ut ++ [])) = _
    rw [List.append_nil]
    rfl
  rw [← hx9] at hP hD
  exact W.vret hx hb hr (fun t ht9 hW => ⟨⟨(fun i => [h0, q1, q5, q6].getD i 0, am, at2, 0, fun _ => none, fun _ => 0, fun _ => 0, um, ut, [], fun _ => .inr (0, [])), rfl, ⟨rfl, aI_0, fun i h => absurd h (Nat.not_lt_zero _), hc1, fun i h => absurd h (Nat.not_lt_zero _)⟩, by rw [ht9]; exact hP, hD⟩, hS.F ht9⟩) hS.2.2 d_U_init_54
