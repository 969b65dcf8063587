/-! The reference: indexWithout, tellPlace, put -/
set_option maxHeartbeats 4000000 in
set_option maxRecDepth 100000 in
theorem m_M_indexWithout (l : Launch) (D : va_G) (cA : Nat → ClassId) (am : Nat → Nat) (vz la : Int32) (nu ki th ot : Nat → Int32) (vs : Nat → Int64) (av pl ps : Nat → Int32) (tz : Int32) (ts : Nat → Int32) (fr bk : Int32) (ce : Nat → Int32) (co : Nat → Int64) (ro le dn un : Nat → Int32) (r x7 : Nat) (wo : Int32) (Lr : List Int32) (hr3 : r < 3) (hrl : rl_ (fun j => ro (40 * r + j)) Lr) (h40 : Lr.length ≤ 40) (hx7 : x7 ≤ Lr.length) : Met l y_M_indexWithout (.code y_M_indexWithout c_M_indexWithout 6 (some .int) :: G_) ({ frames := 0, cells := 0, slots := 0, locals := 0 }) (va_Pc [.ref (am 0), .int (nI r), .int (nI x7), .int wo] (pr_ D cA (wM cA am vz la nu ki th ot vs av pl ps tz ts fr bk ce co ro le dn un))) (vp_Si (fun q => q = nI (wl_ Lr wo x7))) 0 0 (fun _ => False) := by
  refine Met.ofW (cc := c_M_indexWithout) (maxL := 6) (ret := (some .int)) (by decide) rfl ?_
  intro p e s m args below meth c s₁ B hml hv
  obtain ⟨rfl, hP, hK, hN⟩ := hv
  have hx := B.exec
  have hb := B.bytes
  have hr := B.returns
  have hts := atoms_spec (ws := (.code y_M_indexWithout c_M_indexWithout 6 (some .int) :: G_)) B.pre
  have hg : ∀ w ∈ G_, w.before ([.ref (am 0), .int (nI r), .int (nI x7), .int wo] : List Value).toArray s = true := fun w h => hts w (List.mem_cons_of_mem _ h)
  have hown : s.vm.findClass RM = some m.cls := findClass_of_methodNamed B.named
  have hlocks := B.notSynchronized
  have hl := lv_entry ([.ref (am 0), .int (nI r), .int (nI x7), .int wo]) (n := 6) (Nat.le_of_ble_eq_true rfl)
  rw [lg_entry_eq]
  generalize (lg_sl ([.ref (am 0), .int (nI r), .int (nI x7), .int wo]) ++ List.replicate (6 - (lg_sl ([.ref (am 0), .int (nI r), .int (nI x7), .int wo])).length) Slot.unset).toArray = ls at hl ⊢
  have hl : lv_has ls 6 [(0, .ref (am 0)), (1, .int (nI r)), (2, .int (nI x7)), (3, .int wo)] := hl
  have loop : ∀ (d i : Nat) (ls : Array Slot), i + d = x7 → lv_has ls 6 [(5, .int (nI i)), (4, .int (nI (wl_ Lr wo i))), (0, .ref (am 0)), (1, .int (nI r)), (2, .int (nI x7)), (3, .int wo)] → W p l e (headSpec (.code y_M_indexWithout c_M_indexWithout 6 (some .int) :: G_) ({ frames := 0, cells := 0, slots := 0, locals := 0 })).room s m ([.ref (am 0), .int (nI r), .int (nI x7), .int wo] : List Value).toArray below meth c s.heap [] 0 0 (MQ below (vp_Si (fun q => q = nI (wl_ Lr wo x7))) ([.ref (am 0), .int (nI r), .int (nI x7), .int wo] : List Value).toArray s 0 0 (fun _ => False)) (F0 m 6 ls []) := by
    intro d
    induction d with
    | zero =>
      intro i ls hid hl
      have hi2 : i = x7 := by omega
      subst hi2
      refine lv_iload hx hb d_M_indexWithout_6 (lv_at hl 0 rfl) ?_
      refine lv_iload_n hx hb d_M_indexWithout_8 rfl (lv_at hl 4 rfl) ?_
      refine lv_icmp_ge (tgt := 44) hx hb d_M_indexWithout_9 (by decide) (fun h9 => ?_) (fun h9 => ?_)
      · skip
        refine lv_iload hx hb d_M_indexWithout_44 (lv_at hl 1 rfl) ?_
        exact W.iret hx hb hr (fun t ht hW => ⟨_, rfl, rfl, ht⟩) (fun q h => absurd h List.not_mem_nil) d_M_indexWithout_46
      · skip
        exact absurd (Int32.le_refl _) h9
    | succ d ih =>
      intro i ls hid hl
      have hil : i < Lr.length := by omega
      have hy : Lr[i]? = some (ro (40 * r + i)) := hrl i hil
      have hwl := wl_le Lr wo i
      refine lv_iload hx hb d_M_indexWithout_6 (lv_at hl 0 rfl) ?_
      refine lv_iload_n hx hb d_M_indexWithout_8 rfl (lv_at hl 4 rfl) ?_
      refine lv_icmp_ge (tgt := 44) hx hb d_M_indexWithout_9 (by decide) (fun h9 => ?_) (fun h9 => ?_)
      · skip
        exact absurd h9 (nI_ge (by omega) (by omega))
      · skip
        refine lv_iload hx hb d_M_indexWithout_12 (lv_at hl 1 rfl) ?_
        refine lv_aload_n hx hb d_M_indexWithout_14 rfl (lv_at hl 2 rfl) ?_
        refine va_get (D := D) (ci := 3) (v := .ref (am 12)) (C := RM) (T := TM) (N := 20) hx hb hg inM hown hK hP 0 rfl rfl 16 (by decide) (hg _ fl_M_53) (fun _ h9 => h9) rfl d_M_indexWithout_15 ?_
        refine lv_bipush (v := 40) hx hb d_M_indexWithout_18 (by decide) ?_
        refine lv_iload_n hx hb d_M_indexWithout_20 rfl (lv_at hl 3 rfl) ?_
        refine lv_imul hx hb d_M_indexWithout_21 ?_
        refine toi_ (y := nI (40 * r)) (pk_mul 40 r) ?_
        refine lv_iload hx hb d_M_indexWithout_22 (lv_at hl 0 rfl) ?_
        refine lv_iadd hx hb d_M_indexWithout_24 ?_
        refine toi_ (y := nI (40 * r + i)) (nI_add _ _) ?_
        refine va_iald hx hb hK hP 12 0 rfl rfl (vp_in_nI (n := 40 * r + i) (N := 120) (by omega) (by omega)) d_M_indexWithout_25 ?_
        refine toi_ (y := ro (40 * r + i)) (by rw [nI_clamp (by omega)]) ?_
        refine lv_iload_n hx hb d_M_indexWithout_26 rfl (lv_at hl 5 rfl) ?_
        refine lv_icmp_ne (tgt := 34) hx hb d_M_indexWithout_27 (by decide) (fun h27 => ?_) (fun h27 => ?_)
        · skip
          have hcn := wl_on hy h27
          refine lv_iconst (v := 1) hx hb d_M_indexWithout_34 (by decide) ?_
          refine lv_iadd hx hb d_M_indexWithout_35 ?_
          refine toi_ (y := nI (wl_ Lr wo (i + 1))) (by rw [hcn]; exact nI_1 _) ?_
          refine lv_istore (lv' := [(4, .int (nI (wl_ Lr wo (i + 1)))), (5, .int (nI i)), (0, .ref (am 0)), (1, .int (nI r)), (2, .int (nI x7)), (3, .int wo)]) hx hb d_M_indexWithout_36 hl (by decide) rfl (fun ls hl => ?_)
          refine lv_iinc (k := 1) (v := nI (i + 1)) (lv' := [(5, .int (nI (i + 1))), (4, .int (nI (wl_ Lr wo (i + 1)))), (0, .ref (am 0)), (1, .int (nI r)), (2, .int (nI x7)), (3, .int wo)]) hx hb d_M_indexWithout_38 hl rfl (inc_ _) (by decide) rfl (fun ls hl => ?_)
          refine lv_goto (tgt := 6) hx hb d_M_indexWithout_41 (by decide) ?_
          have hl := lv_sub hl [0, 1, 2, 3, 4, 5] (l' := [(5, .int (nI (i + 1))), (4, .int (nI (wl_ Lr wo (i + 1)))), (0, .ref (am 0)), (1, .int (nI r)), (2, .int (nI x7)), (3, .int wo)]) rfl
          exact ih (i + 1) ls (by omega) hl
        · skip
          have hcn := wl_off hy h27
          refine lv_iconst (v := 0) hx hb d_M_indexWithout_30 (by decide) ?_
          refine lv_goto (tgt := 35) hx hb d_M_indexWithout_31 (by decide) ?_
          refine lv_iadd hx hb d_M_indexWithout_35 ?_
          refine toi_ (y := nI (wl_ Lr wo (i + 1))) (by rw [hcn]; exact Int32.add_zero _) ?_
          refine lv_istore (lv' := [(4, .int (nI (wl_ Lr wo (i + 1)))), (5, .int (nI i)), (0, .ref (am 0)), (1, .int (nI r)), (2, .int (nI x7)), (3, .int wo)]) hx hb d_M_indexWithout_36 hl (by decide) rfl (fun ls hl => ?_)
          refine lv_iinc (k := 1) (v := nI (i + 1)) (lv' := [(5, .int (nI (i + 1))), (4, .int (nI (wl_ Lr wo (i + 1)))), (0, .ref (am 0)), (1, .int (nI r)), (2, .int (nI x7)), (3, .int wo)]) hx hb d_M_indexWithout_38 hl rfl (inc_ _) (by decide) rfl (fun ls hl => ?_)
          refine lv_goto (tgt := 6) hx hb d_M_indexWithout_41 (by decide) ?_
          have hl := lv_sub hl [0, 1, 2, 3, 4, 5] (l' := [(5, .int (nI (i + 1))), (4, .int (nI (wl_ Lr wo (i + 1)))), (0, .ref (am 0)), (1, .int (nI r)), (2, .int (nI x7)), (3, .int wo)]) rfl
          exact ih (i + 1) ls (by omega) hl
  refine lv_iconst (v := 0) hx hb d_M_indexWithout_0 (by decide) ?_
  refine lv_istore (lv' := [(4, .int 0), (0, .ref (am 0)), (1, .int (nI r)), (2, .int (nI x7)), (3, .int wo)]) hx hb d_M_indexWithout_1 hl (by decide) rfl (fun ls hl => ?_)
  refine lv_iconst (v := 0) hx hb d_M_indexWithout_3 (by decide) ?_
  refine lv_istore (lv' := [(5, .int 0), (4, .int 0), (0, .ref (am 0)), (1, .int (nI r)), (2, .int (nI x7)), (3, .int wo)]) hx hb d_M_indexWithout_4 hl (by decide) rfl (fun ls hl => ?_)
  have hl := lv_sub hl [0, 1, 2, 3, 4, 5] (l' := [(5, .int (nI 0)), (4, .int (nI 0)), (0, .ref (am 0)), (1, .int (nI r)), (2, .int (nI x7)), (3, .int wo)]) rfl
  exact loop x7 0 ls (by omega) (by rw [wl_0]; exact hl)

set_option maxHeartbeats 4000000 in
set_option maxRecDepth 100000 in
theorem m_M_tellPlace (l : Launch) (D : va_G) (cA : Nat → ClassId) (sz : Nat) (am : Nat → Nat) (la : Int32) (nu ki th ot : Nat → Int32) (vs : Nat → Int64) (av pl ps : Nat → Int32) (tz : Int32) (ts : Nat → Int32) (fr bk : Int32) (ce : Nat → Int32) (co : Nat → Int64) (ro le dn un : Nat → Int32) (n : Nat) (r at7 : Nat) (wo : Int32) (Lr : List Int32) (hn : n < 200) (hr3 : r < 3) (hle : le r = nI Lr.length) (hrl : rl_ (fun j => ro (40 * r + j)) Lr) (h40 : Lr.length ≤ 40) (hat : at7 ≤ 40) : Met l y_M_tellPlace (.code y_M_tellPlace c_M_tellPlace 6 none :: G_) ({ frames := 1, cells := 0, slots := 0, locals := 25 }) (va_Pc [.ref (am 0), .int (nI r), .int (nI at7), .int wo] (pm_ D cA (wM cA am (nI n) la nu ki th ot vs av pl ps tz ts fr bk ce co ro le dn un) sz)) (va_Qv (fun (u : Nat → Int32) => rl_ (fun j => u (40 * n + j)) (pl_ Lr at7 wo) ∧ ∀ t, t < 40 * n → u t = pl t) (bw_ D (va_A (wM cA am (nI n) la nu ki th ot vs av pl ps tz ts fr bk ce co ro le dn un) sz) (fun u => wM cA am (nI n) la nu ki th ot vs av u (upd ps n (nI (pl_ Lr at7 wo).length)) tz ts fr bk ce co ro le dn un)) (va_A (wM cA am (nI n) la nu ki th ot vs av pl ps tz ts fr bk ce co ro le dn un) sz)) 0 0 (va_A (wM cA am (nI n) la nu ki th ot vs av pl ps tz ts fr bk ce co ro le dn un) sz) := by
  refine Met.ofW (cc := c_M_tellPlace) (maxL := 6) (ret := none) (by decide) rfl ?_
  intro p e s m args below meth c s₁ B hml hv
  obtain ⟨rfl, hsz, hP, ⟨hK, hN⟩, hD0⟩ := hv
  have hx := B.exec
  have hb := B.bytes
  have hr := B.returns
  have hts := atoms_spec (ws := (.code y_M_tellPlace c_M_tellPlace 6 none :: G_)) B.pre
  have hg : ∀ w ∈ G_, w.before ([.ref (am 0), .int (nI r), .int (nI at7), .int wo] : List Value).toArray s = true := fun w h => hts w (List.mem_cons_of_mem _ h)
  have hown : s.vm.findClass RM = some m.cls := findClass_of_methodNamed B.named
  have hlocks := B.notSynchronized
  subst hsz
  have hD := hD0.self (sz := s.heap.size)
  generalize hAe : va_A (wM cA am (nI n) la nu ki th ot vs av pl ps tz ts fr bk ce co ro le dn un) s.heap.size = A at hD ⊢
  have hA : ∀ q : Nat, s.heap.size ≤ q → A q := fun q h => by rw [← hAe]; exact Or.inr h
  have hS : va_S A s.heap s.heap [] := va_S.rf
  have hl := lv_entry ([.ref (am 0), .int (nI r), .int (nI at7), .int wo]) (n := 6) (Nat.le_of_ble_eq_true rfl)
  rw [lg_entry_eq]
  generalize (lg_sl ([.ref (am 0), .int (nI r), .int (nI at7), .int wo]) ++ List.replicate (6 - (lg_sl ([.ref (am 0), .int (nI r), .int (nI at7), .int wo])).length) Slot.unset).toArray = ls at hl ⊢
  have hl : lv_has ls 6 [(0, .ref (am 0)), (1, .int (nI r)), (2, .int (nI at7)), (3, .int wo)] := hl
  have hpl := pl_lenM Lr at7 wo
  have loop : ∀ (i : Nat) (B : List Int32) (pl2 : Nat → Int32) (H : Heap) (locs : List Loc) (ls : Array Slot), i ≤ Lr.length → B ++ (pa_ Lr wo at7 i).reverse = pl_ Lr at7 wo → rl_ (fun j => pl2 (40 * n + j)) B → (∀ t, t < 40 * n → pl2 t = pl t) → va_P D cls_ (wM cA am (nI n) la nu ki th ot vs av pl2 ps tz ts fr bk ce co ro le dn un) H → va_D A (wM cA am (nI n) la nu ki th ot vs av pl2 ps tz ts fr bk ce co ro le dn un) → va_S A s.heap H locs → lv_has ls 6 [(5, .int (nI i - 1)), (4, .int (nI B.length)), (0, .ref (am 0)), (1, .int (nI r)), (2, .int (nI at7)), (3, .int wo)] → W p l e (headSpec (.code y_M_tellPlace c_M_tellPlace 6 none :: G_) ({ frames := 1, cells := 0, slots := 0, locals := 25 })).room s m ([.ref (am 0), .int (nI r), .int (nI at7), .int wo] : List Value).toArray below meth c H locs 0 0 (MQ below (va_Qv (fun (u : Nat → Int32) => rl_ (fun j => u (40 * n + j)) (pl_ Lr at7 wo) ∧ ∀ t, t < 40 * n → u t = pl t) (bw_ D A (fun u => wM cA am (nI n) la nu ki th ot vs av u (upd ps n (nI (pl_ Lr at7 wo).length)) tz ts fr bk ce co ro le dn un)) A) ([.ref (am 0), .int (nI r), .int (nI at7), .int wo] : List Value).toArray s 0 0 A) (F0 m 13 ls []) := by
    intro i
    induction i with
    | zero =>
      intro B pl2 H locs ls hil hB hBr hold hP hD hS hl
      have hl : lv_has ls 6 [(5, .int (-1)), (4, .int (nI B.length)), (0, .ref (am 0)), (1, .int (nI r)), (2, .int (nI at7)), (3, .int wo)] := hl
      rw [pa_0, List.reverse_nil, List.append_nil] at hB
      refine lv_iload hx hb d_M_tellPlace_13 (lv_at hl 0 rfl) ?_
      refine lv_if_lt (tgt := 85) hx hb d_M_tellPlace_15 (by decide) (fun h15 => ?_) (fun h15 => ?_)
      · skip
        refine lv_aload_n hx hb d_M_tellPlace_85 rfl (lv_at hl 2 rfl) ?_
        refine va_get (D := D) (ci := 3) (v := .ref (am 8)) (C := RM) (T := TM) (N := 20) hx hb hg inM hown hK hP 0 rfl rfl 9 (by decide) (hg _ fl_M_33) (fun _ h9 => h9) rfl d_M_tellPlace_86 ?_
        refine lv_aload_n hx hb d_M_tellPlace_89 rfl (lv_at hl 2 rfl) ?_
        refine va_get (D := D) (ci := 3) (v := .int (nI n)) (C := RM) (T := TM) (N := 20) hx hb hg inM hown hK hP 0 rfl rfl 0 (by decide) (hg _ fl_M_65) (fun _ h9 => h9) rfl d_M_tellPlace_90 ?_
        refine lv_iload hx hb d_M_tellPlace_93 (lv_at hl 1 rfl) ?_
        refine va_iast hx hb hK hP hD hS 8 0 rfl rfl (vp_in_nI (n := n) (N := 200) (by omega) (by omega)) d_M_tellPlace_95 (fun H locs hP hD hS => ?_)
        rw [nI_clamp (by omega)] at hP hD
        have hP : va_P D cls_ (wM cA am (nI n) la nu ki th ot vs av pl2 (upd ps n (nI B.length)) tz ts fr bk ce co ro le dn un) H := hP
        have hD : va_D A (wM cA am (nI n) la nu ki th ot vs av pl2 (upd ps n (nI B.length)) tz ts fr bk ce co ro le dn un) := hD
        rw [hB] at hP hD hBr
        exact W.vret hx hb hr (fun t ht hW => ⟨⟨pl2, rfl, ⟨hBr, hold⟩, by rw [ht]; exact hP, hD⟩, hS.F ht⟩) hS.2.2 d_M_tellPlace_96
      · skip
        exact absurd (by decide) h15
    | succ i ih =>
      intro B pl2 H locs ls hil hB hBr hold hP hD hS hl
      rw [nI_pred] at hl
      have hy : Lr[i]? = some (ro (40 * r + i)) := hrl i (by omega)
      have hwl := wl_le Lr wo i
      have hBl : B.length ≤ 40 := by
        have h9 := congrArg List.length hB
        rw [List.length_append] at h9
        omega
      refine lv_iload hx hb d_M_tellPlace_13 (lv_at hl 0 rfl) ?_
      refine lv_if_lt (tgt := 85) hx hb d_M_tellPlace_15 (by decide) (fun h15 => ?_) (fun h15 => ?_)
      · skip
        exact absurd h15 (nI_pos (by omega))
      · skip
        refine lv_aload_n hx hb d_M_tellPlace_18 rfl (lv_at hl 2 rfl) ?_
        refine lv_iload_n hx hb d_M_tellPlace_19 rfl (lv_at hl 3 rfl) ?_
        refine lv_iload hx hb d_M_tellPlace_20 (lv_at hl 0 rfl) ?_
        refine lv_iload_n hx hb d_M_tellPlace_22 rfl (lv_at hl 5 rfl) ?_
        refine vp_callSi (va_Run.run (va_runV (C := RM) (As := [.int (nI r), .int (nI i), .int wo]) (rest := []) ⟨hx, hb, hml, hown, hg⟩ (m_M_indexWithout l D cA am (nI n) la nu ki th ot vs av pl2 ps tz ts fr bk ce co ro le dn un r i wo Lr hr3 hrl h40 (by omega)) (cwV 3 hg (gd_V ml_M_71 im_M_indexWithout sl_M_indexWithout ini_M cd_M_indexWithout) rfl rfl rfl (by decide +kernel) ⟨Nat.le_of_ble_eq_true rfl, Nat.le_of_ble_eq_true rfl⟩) (pv_r (va_recv (q0 := 0) (ci := 3) hK hP rfl rfl) (hP) hK hN) rfl rfl hl.1 rfl (lv_room (Nat.le_of_ble_eq_true rfl)) d_M_tellPlace_23 ⟨Nat.zero_le _, Nat.zero_le _⟩)) (fun r23 e23 => ?_)
        subst e23
        refine lv_iload_n hx hb d_M_tellPlace_26 rfl (lv_at hl 4 rfl) ?_
        refine lv_icmp_ge (tgt := 79) hx hb d_M_tellPlace_27 (by decide) (fun h27 => ?_) (fun h27 => ?_)
        · skip
          rw [nI_lei (by omega) (by omega)] at h27
          have hB2 : B ++ (pa_ Lr wo at7 i).reverse = pl_ Lr at7 wo := by rw [← hB, pa_full hy (by unfold wl_ at h27; omega)]
          refine lv_iinc (k := 0) (v := nI i - 1) (lv' := [(5, .int (nI i - 1)), (4, .int (nI B.length)), (0, .ref (am 0)), (1, .int (nI r)), (2, .int (nI at7)), (3, .int wo)]) hx hb d_M_tellPlace_79 hl rfl (dec2_ _) (by decide) rfl (fun ls hl => ?_)
          refine lv_goto (tgt := 13) hx hb d_M_tellPlace_82 (by decide) ?_
          have hl := lv_sub hl [0, 1, 2, 3, 4, 5] (l' := [(5, .int (nI i - 1)), (4, .int (nI B.length)), (0, .ref (am 0)), (1, .int (nI r)), (2, .int (nI at7)), (3, .int wo)]) rfl
          exact ih B pl2 H locs ls (by omega) hB2 hBr hold hP hD hS hl
        · skip
          rw [nI_lei (by omega) (by omega), Nat.not_le] at h27
          refine lv_aload_n hx hb d_M_tellPlace_30 rfl (lv_at hl 2 rfl) ?_
          refine va_get (D := D) (ci := 3) (v := .ref (am 12)) (C := RM) (T := TM) (N := 20) hx hb hg inM hown hK hP 0 rfl rfl 16 (by decide) (hg _ fl_M_53) (fun _ h9 => h9) rfl d_M_tellPlace_31 ?_
          refine lv_bipush (v := 40) hx hb d_M_tellPlace_34 (by decide) ?_
          refine lv_iload_n hx hb d_M_tellPlace_36 rfl (lv_at hl 3 rfl) ?_
          refine lv_imul hx hb d_M_tellPlace_37 ?_
          refine toi_ (y := nI (40 * r)) (pk_mul 40 r) ?_
          refine lv_iload hx hb d_M_tellPlace_38 (lv_at hl 0 rfl) ?_
          refine lv_iadd hx hb d_M_tellPlace_40 ?_
          refine toi_ (y := nI (40 * r + i)) (nI_add _ _) ?_
          refine va_iald hx hb hK hP 12 0 rfl rfl (vp_in_nI (n := 40 * r + i) (N := 120) (by omega) (by omega)) d_M_tellPlace_41 ?_
          refine toi_ (y := ro (40 * r + i)) (by rw [nI_clamp (by omega)]) ?_
          refine lv_iload_n hx hb d_M_tellPlace_42 rfl (lv_at hl 5 rfl) ?_
          refine lv_icmp_ne (tgt := 49) hx hb d_M_tellPlace_43 (by decide) (fun h43 => ?_) (fun h43 => ?_)
          · skip
            have hB2 : (B ++ [ro (40 * r + i)]) ++ (pa_ Lr wo at7 i).reverse = pl_ Lr at7 wo := by
              rw [← hB, pa_on hy h43 (by unfold wl_ at h27; exact h27), List.reverse_append, List.append_assoc]
              rfl
            have hBl9 : B.length + 1 ≤ 40 := by
              have h9 := congrArg List.length hB2
              rw [List.length_append, List.length_append, List.length_singleton] at h9
              omega
            refine lv_aload_n hx hb d_M_tellPlace_49 rfl (lv_at hl 2 rfl) ?_
            refine va_get (D := D) (ci := 3) (v := .ref (am 7)) (C := RM) (T := TM) (N := 20) hx hb hg inM hown hK hP 0 rfl rfl 8 (by decide) (hg _ fl_M_30) (fun _ h9 => h9) rfl d_M_tellPlace_50 ?_
            refine lv_bipush (v := 40) hx hb d_M_tellPlace_53 (by decide) ?_
            refine lv_aload_n hx hb d_M_tellPlace_55 rfl (lv_at hl 2 rfl) ?_
            refine va_get (D := D) (ci := 3) (v := .int (nI n)) (C := RM) (T := TM) (N := 20) hx hb hg inM hown hK hP 0 rfl rfl 0 (by decide) (hg _ fl_M_65) (fun _ h9 => h9) rfl d_M_tellPlace_56 ?_
            refine lv_imul hx hb d_M_tellPlace_59 ?_
            refine toi_ (y := nI (40 * n)) (pk_mul 40 n) ?_
            refine lv_iload hx hb d_M_tellPlace_60 (lv_at hl 1 rfl) ?_
            refine lv_iadd hx hb d_M_tellPlace_62 ?_
            refine toi_ (y := nI (40 * n + B.length)) (nI_add _ _) ?_
            refine lv_aload_n hx hb d_M_tellPlace_63 rfl (lv_at hl 2 rfl) ?_
            refine va_get (D := D) (ci := 3) (v := .ref (am 12)) (C := RM) (T := TM) (N := 20) hx hb hg inM hown hK hP 0 rfl rfl 16 (by decide) (hg _ fl_M_53) (fun _ h9 => h9) rfl d_M_tellPlace_64 ?_
            refine lv_bipush (v := 40) hx hb d_M_tellPlace_67 (by decide) ?_
            refine lv_iload_n hx hb d_M_tellPlace_69 rfl (lv_at hl 3 rfl) ?_
            refine lv_imul hx hb d_M_tellPlace_70 ?_
            refine toi_ (y := nI (40 * r)) (pk_mul 40 r) ?_
            refine lv_iload hx hb d_M_tellPlace_71 (lv_at hl 0 rfl) ?_
            refine lv_iadd hx hb d_M_tellPlace_73 ?_
            refine toi_ (y := nI (40 * r + i)) (nI_add _ _) ?_
            refine va_iald hx hb hK hP 12 0 rfl rfl (vp_in_nI (n := 40 * r + i) (N := 120) (by omega) (by omega)) d_M_tellPlace_74 ?_
            refine toi_ (y := ro (40 * r + i)) (by rw [nI_clamp (by omega)]) ?_
            refine va_iast hx hb hK hP hD hS 7 0 rfl rfl (vp_in_nI (n := 40 * n + B.length) (N := 8000) (by omega) (by omega)) d_M_tellPlace_75 (fun H locs hP hD hS => ?_)
            rw [nI_clamp (by omega)] at hP hD
            have hP : va_P D cls_ (wM cA am (nI n) la nu ki th ot vs av (upd pl2 (40 * n + B.length) (ro (40 * r + i))) ps tz ts fr bk ce co ro le dn un) H := hP
            have hD : va_D A (wM cA am (nI n) la nu ki th ot vs av (upd pl2 (40 * n + B.length) (ro (40 * r + i))) ps tz ts fr bk ce co ro le dn un) := hD
            refine lv_iinc (k := 1) (v := nI (B.length + 1)) (lv' := [(4, .int (nI (B.length + 1))), (5, .int (nI i)), (0, .ref (am 0)), (1, .int (nI r)), (2, .int (nI at7)), (3, .int wo)]) hx hb d_M_tellPlace_76 hl rfl (inc_ _) (by decide) rfl (fun ls hl => ?_)
            refine lv_iinc (k := 1) (v := nI i - 1) (lv' := [(5, .int (nI i - 1)), (4, .int (nI (B.length + 1))), (0, .ref (am 0)), (1, .int (nI r)), (2, .int (nI at7)), (3, .int wo)]) hx hb d_M_tellPlace_79 hl rfl (dec2_ _) (by decide) rfl (fun ls hl => ?_)
            refine lv_goto (tgt := 13) hx hb d_M_tellPlace_82 (by decide) ?_
            have hl := lv_sub hl [0, 1, 2, 3, 4, 5] (l' := [(5, .int (nI i - 1)), (4, .int (nI (B ++ [ro (40 * r + i)]).length)), (0, .ref (am 0)), (1, .int (nI r)), (2, .int (nI at7)), (3, .int wo)]) (by rw [List.length_append]; rfl)
            exact ih (B ++ [ro (40 * r + i)]) (upd pl2 (40 * n + B.length) (ro (40 * r + i))) H locs ls (by omega) hB2 (rl_snocM (rl_cg hBr (fun j hj => pk_un (by omega))) (by exact pk_us)) (fun t ht => (pk_un (by omega)).trans (hold t ht)) hP hD hS hl
          · skip
            have hB2 : B ++ (pa_ Lr wo at7 i).reverse = pl_ Lr at7 wo := by rw [← hB, pa_off hy h43]
            refine lv_goto (tgt := 79) hx hb d_M_tellPlace_46 (by decide) ?_
            refine lv_iinc (k := 0) (v := nI i - 1) (lv' := [(5, .int (nI i - 1)), (4, .int (nI B.length)), (0, .ref (am 0)), (1, .int (nI r)), (2, .int (nI at7)), (3, .int wo)]) hx hb d_M_tellPlace_79 hl rfl (dec2_ _) (by decide) rfl (fun ls hl => ?_)
            refine lv_goto (tgt := 13) hx hb d_M_tellPlace_82 (by decide) ?_
            have hl := lv_sub hl [0, 1, 2, 3, 4, 5] (l' := [(5, .int (nI i - 1)), (4, .int (nI B.length)), (0, .ref (am 0)), (1, .int (nI r)), (2, .int (nI at7)), (3, .int wo)]) rfl
            exact ih B pl2 H locs ls (by omega) hB2 hBr hold hP hD hS hl
  refine lv_iconst (v := 0) hx hb d_M_tellPlace_0 (by decide) ?_
  refine lv_istore (lv' := [(4, .int 0), (0, .ref (am 0)), (1, .int (nI r)), (2, .int (nI at7)), (3, .int wo)]) hx hb d_M_tellPlace_1 hl (by decide) rfl (fun ls hl => ?_)
  refine lv_aload_n hx hb d_M_tellPlace_3 rfl (lv_at hl 1 rfl) ?_
  refine va_get (D := D) (ci := 3) (v := .ref (am 13)) (C := RM) (T := TM) (N := 20) hx hb hg inM hown hK hP 0 rfl rfl 17 (by decide) (hg _ fl_M_56) (fun _ h9 => h9) rfl d_M_tellPlace_4 ?_
  refine lv_iload_n hx hb d_M_tellPlace_7 rfl (lv_at hl 2 rfl) ?_
  refine va_iald hx hb hK hP 13 0 rfl rfl (vp_in_nI (n := r) (N := 3) (by omega) (by omega)) d_M_tellPlace_8 ?_
  refine toi_ (y := le r) (by rw [nI_clamp (by omega)]) ?_
  refine toi_ (y := nI Lr.length) (hle) ?_
  refine lv_iconst (v := 1) hx hb d_M_tellPlace_9 (by decide) ?_
  refine lv_isub hx hb d_M_tellPlace_10 ?_
  refine lv_istore (lv' := [(5, .int ((nI Lr.length) - 1)), (4, .int 0), (0, .ref (am 0)), (1, .int (nI r)), (2, .int (nI at7)), (3, .int wo)]) hx hb d_M_tellPlace_11 hl (by decide) rfl (fun ls hl => ?_)
  have hl := lv_sub hl [0, 1, 2, 3, 4, 5] (l' := [(5, .int (nI Lr.length - 1)), (4, .int (nI ([] : List Int32).length)), (0, .ref (am 0)), (1, .int (nI r)), (2, .int (nI at7)), (3, .int wo)]) rfl
  exact loop Lr.length [] pl _ _ ls (Nat.le_refl _) rfl (fun j hj => absurd hj (Nat.not_lt_zero _)) (fun _ _ => rfl) hP hD hS hl

set_option maxHeartbeats 4000000 in
set_option maxRecDepth 100000 in
theorem m_M_put (l : Launch) (D : va_G) (cA : Nat → ClassId) (sz : Nat) (am : Nat → Nat) (nu ki th ot : Nat → Int32) (vs : Nat → Int64) (av pl ps ts : Nat → Int32) (fr bk : Int32) (ce : Nat → Int32) (co : Nat → Int64) (ro le dn un : Nat → Int32) (hs : Nat → st_T) (ac : Nat → Bool) (n la : Nat) (T : List Int32) (k9 t9 o9 : Int32) (v9 : Int64) (hn : n < 200) : Met l y_M_put (.code y_M_put c_M_put 6 (some .int) :: G_) ({ frames := 0, cells := 0, slots := 0, locals := 0 }) (va_Pc [.ref (am 0), .int k9, .int t9, .int o9, .long v9] (pm_ D cA (wM cA am (nI n) (nI la) nu ki th ot vs av pl ps (nI T.length) ts fr bk ce co ro le dn un) sz)) (va_Qi (fun (r : Int32) (u : Unit) => r = nI (la + 1)) (bw_ D (va_A (wM cA am (nI n) (nI la) nu ki th ot vs av pl ps (nI T.length) ts fr bk ce co ro le dn un) sz) (fun _ => wM cA am (nI (n + 1)) (nI (la + 1)) (upd nu n (nI (la + 1))) (upd ki n k9) (upd th n t9) (upd ot n o9) (vp_updL vs n v9) (upd av n 1) pl ps (nI T.length) ts 0 bk ce co ro le dn un)) (va_A (wM cA am (nI n) (nI la) nu ki th ot vs av pl ps (nI T.length) ts fr bk ce co ro le dn un) sz)) 0 0 (va_A (wM cA am (nI n) (nI la) nu ki th ot vs av pl ps (nI T.length) ts fr bk ce co ro le dn un) sz) := by
  refine Met.ofW (cc := c_M_put) (maxL := 6) (ret := (some .int)) (by decide) rfl ?_
  intro p e s m args below meth c s₁ B hml hv
  obtain ⟨rfl, hsz, hP, ⟨hK, hN⟩, hD0⟩ := hv
  have hx := B.exec
  have hb := B.bytes
  have hr := B.returns
  have hts := atoms_spec (ws := (.code y_M_put c_M_put 6 (some .int) :: G_)) B.pre
  have hg : ∀ w ∈ G_, w.before ([.ref (am 0), .int k9, .int t9, .int o9, .long v9] : List Value).toArray s = true := fun w h => hts w (List.mem_cons_of_mem _ h)
  have hown : s.vm.findClass RM = some m.cls := findClass_of_methodNamed B.named
  have hlocks := B.notSynchronized
  subst hsz
  have hD := hD0.self (sz := s.heap.size)
  generalize hAe : va_A (wM cA am (nI n) (nI la) nu ki th ot vs av pl ps (nI T.length) ts fr bk ce co ro le dn un) s.heap.size = A at hD ⊢
  have hA : ∀ q : Nat, s.heap.size ≤ q → A q := fun q h => by rw [← hAe]; exact Or.inr h
  have hS : va_S A s.heap s.heap [] := va_S.rf
  have hl := lv_entry ([.ref (am 0), .int k9, .int t9, .int o9, .long v9]) (n := 6) (Nat.le_of_ble_eq_true rfl)
  rw [lg_entry_eq]
  generalize (lg_sl ([.ref (am 0), .int k9, .int t9, .int o9, .long v9]) ++ List.replicate (6 - (lg_sl ([.ref (am 0), .int k9, .int t9, .int o9, .long v9])).length) Slot.unset).toArray = ls at hl ⊢
  have hl : lv_has ls 6 [(0, .ref (am 0)), (1, .int k9), (2, .int t9), (3, .int o9), (4, .long v9)] := hl
  refine lv_aload_n hx hb d_M_put_0 rfl (lv_at hl 0 rfl) ?_
  refine lv_dup hx hb d_M_put_1 rfl ?_
  refine va_get (D := D) (ci := 3) (v := .int (nI la)) (C := RM) (T := TM) (N := 20) hx hb hg inM hown hK hP 0 rfl rfl 1 (by decide) (hg _ fl_M_68) (fun _ h9 => h9) rfl d_M_put_2 ?_
  refine lv_iconst (v := 1) hx hb d_M_put_5 (by decide) ?_
  refine lv_iadd hx hb d_M_put_6 ?_
  refine toi_ (y := nI (la + 1)) (nI_1 la) ?_
  refine va_put (D := D) (ci := 3) (v := .int (nI (la + 1))) (ty := .int) (C := RM) (T := TM) (N := 20) hx hb hg inM tyM okM nmM hown hK hP hD hS 0 rfl rfl 1 (by decide) (hg _ fl_M_68) (fun _ h9 => h9) rfl (by decide +kernel) rfl rfl (Nat.le_of_ble_eq_true rfl) d_M_put_7 (fun H locs hP hD hS => ?_)
  have hP : va_P D cls_ (wM cA am (nI n) (nI (la + 1)) nu ki th ot vs av pl ps (nI T.length) ts fr bk ce co ro le dn un) H := hP
  have hD : va_D A (wM cA am (nI n) (nI (la + 1)) nu ki th ot vs av pl ps (nI T.length) ts fr bk ce co ro le dn un) := hD
  refine lv_aload_n hx hb d_M_put_10 rfl (lv_at hl 0 rfl) ?_
  refine va_get (D := D) (ci := 3) (v := .ref (am 1)) (C := RM) (T := TM) (N := 20) hx hb hg inM hown hK hP 0 rfl rfl 2 (by decide) (hg _ fl_M_7) (fun _ h9 => h9) rfl d_M_put_11 ?_
  refine lv_aload_n hx hb d_M_put_14 rfl (lv_at hl 0 rfl) ?_
  refine va_get (D := D) (ci := 3) (v := .int (nI n)) (C := RM) (T := TM) (N := 20) hx hb hg inM hown hK hP 0 rfl rfl 0 (by decide) (hg _ fl_M_65) (fun _ h9 => h9) rfl d_M_put_15 ?_
  refine lv_aload_n hx hb d_M_put_18 rfl (lv_at hl 0 rfl) ?_
  refine va_get (D := D) (ci := 3) (v := .int (nI (la + 1))) (C := RM) (T := TM) (N := 20) hx hb hg inM hown hK hP 0 rfl rfl 1 (by decide) (hg _ fl_M_68) (fun _ h9 => h9) rfl d_M_put_19 ?_
  refine va_iast hx hb hK hP hD hS 1 0 rfl rfl (vp_in_nI (n := n) (N := 200) (by omega) (by omega)) d_M_put_22 (fun H locs hP hD hS => ?_)
  rw [nI_clamp (by omega)] at hP hD
  have hP : va_P D cls_ (wM cA am (nI n) (nI (la + 1)) (upd nu n (nI (la + 1))) ki th ot vs av pl ps (nI T.length) ts fr bk ce co ro le dn un) H := hP
  have hD : va_D A (wM cA am (nI n) (nI (la + 1)) (upd nu n (nI (la + 1))) ki th ot vs av pl ps (nI T.length) ts fr bk ce co ro le dn un) := hD
  refine lv_aload_n hx hb d_M_put_23 rfl (lv_at hl 0 rfl) ?_
  refine va_get (D := D) (ci := 3) (v := .ref (am 2)) (C := RM) (T := TM) (N := 20) hx hb hg inM hown hK hP 0 rfl rfl 3 (by decide) (hg _ fl_M_13) (fun _ h9 => h9) rfl d_M_put_24 ?_
  refine lv_aload_n hx hb d_M_put_27 rfl (lv_at hl 0 rfl) ?_
  refine va_get (D := D) (ci := 3) (v := .int (nI n)) (C := RM) (T := TM) (N := 20) hx hb hg inM hown hK hP 0 rfl rfl 0 (by decide) (hg _ fl_M_65) (fun _ h9 => h9) rfl d_M_put_28 ?_
  refine lv_iload_n hx hb d_M_put_31 rfl (lv_at hl 1 rfl) ?_
  refine va_iast hx hb hK hP hD hS 2 0 rfl rfl (vp_in_nI (n := n) (N := 200) (by omega) (by omega)) d_M_put_32 (fun H locs hP hD hS => ?_)
  rw [nI_clamp (by omega)] at hP hD
  have hP : va_P D cls_ (wM cA am (nI n) (nI (la + 1)) (upd nu n (nI (la + 1))) (upd ki n k9) th ot vs av pl ps (nI T.length) ts fr bk ce co ro le dn un) H := hP
  have hD : va_D A (wM cA am (nI n) (nI (la + 1)) (upd nu n (nI (la + 1))) (upd ki n k9) th ot vs av pl ps (nI T.length) ts fr bk ce co ro le dn un) := hD
  refine lv_aload_n hx hb d_M_put_33 rfl (lv_at hl 0 rfl) ?_
  refine va_get (D := D) (ci := 3) (v := .ref (am 3)) (C := RM) (T := TM) (N := 20) hx hb hg inM hown hK hP 0 rfl rfl 4 (by decide) (hg _ fl_M_16) (fun _ h9 => h9) rfl d_M_put_34 ?_
  refine lv_aload_n hx hb d_M_put_37 rfl (lv_at hl 0 rfl) ?_
  refine va_get (D := D) (ci := 3) (v := .int (nI n)) (C := RM) (T := TM) (N := 20) hx hb hg inM hown hK hP 0 rfl rfl 0 (by decide) (hg _ fl_M_65) (fun _ h9 => h9) rfl d_M_put_38 ?_
  refine lv_iload_n hx hb d_M_put_41 rfl (lv_at hl 2 rfl) ?_
  refine va_iast hx hb hK hP hD hS 3 0 rfl rfl (vp_in_nI (n := n) (N := 200) (by omega) (by omega)) d_M_put_42 (fun H locs hP hD hS => ?_)
  rw [nI_clamp (by omega)] at hP hD
  have hP : va_P D cls_ (wM cA am (nI n) (nI (la + 1)) (upd nu n (nI (la + 1))) (upd ki n k9) (upd th n t9) ot vs av pl ps (nI T.length) ts fr bk ce co ro le dn un) H := hP
  have hD : va_D A (wM cA am (nI n) (nI (la + 1)) (upd nu n (nI (la + 1))) (upd ki n k9) (upd th n t9) ot vs av pl ps (nI T.length) ts fr bk ce co ro le dn un) := hD
  refine lv_aload_n hx hb d_M_put_43 rfl (lv_at hl 0 rfl) ?_
  refine va_get (D := D) (ci := 3) (v := .ref (am 4)) (C := RM) (T := TM) (N := 20) hx hb hg inM hown hK hP 0 rfl rfl 5 (by decide) (hg _ fl_M_19) (fun _ h9 => h9) rfl d_M_put_44 ?_
  refine lv_aload_n hx hb d_M_put_47 rfl (lv_at hl 0 rfl) ?_
  refine va_get (D := D) (ci := 3) (v := .int (nI n)) (C := RM) (T := TM) (N := 20) hx hb hg inM hown hK hP 0 rfl rfl 0 (by decide) (hg _ fl_M_65) (fun _ h9 => h9) rfl d_M_put_48 ?_
  refine lv_iload_n hx hb d_M_put_51 rfl (lv_at hl 3 rfl) ?_
  refine va_iast hx hb hK hP hD hS 4 0 rfl rfl (vp_in_nI (n := n) (N := 200) (by omega) (by omega)) d_M_put_52 (fun H locs hP hD hS => ?_)
  rw [nI_clamp (by omega)] at hP hD
  have hP : va_P D cls_ (wM cA am (nI n) (nI (la + 1)) (upd nu n (nI (la + 1))) (upd ki n k9) (upd th n t9) (upd ot n o9) vs av pl ps (nI T.length) ts fr bk ce co ro le dn un) H := hP
  have hD : va_D A (wM cA am (nI n) (nI (la + 1)) (upd nu n (nI (la + 1))) (upd ki n k9) (upd th n t9) (upd ot n o9) vs av pl ps (nI T.length) ts fr bk ce co ro le dn un) := hD
  refine lv_aload_n hx hb d_M_put_53 rfl (lv_at hl 0 rfl) ?_
  refine va_get (D := D) (ci := 3) (v := .ref (am 5)) (C := RM) (T := TM) (N := 20) hx hb hg inM hown hK hP 0 rfl rfl 6 (by decide) (hg _ fl_M_22) (fun _ h9 => h9) rfl d_M_put_54 ?_
  refine lv_aload_n hx hb d_M_put_57 rfl (lv_at hl 0 rfl) ?_
  refine va_get (D := D) (ci := 3) (v := .int (nI n)) (C := RM) (T := TM) (N := 20) hx hb hg inM hown hK hP 0 rfl rfl 0 (by decide) (hg _ fl_M_65) (fun _ h9 => h9) rfl d_M_put_58 ?_
  refine lv_lload hx hb d_M_put_61 (lv_at hl 4 rfl) ?_
  refine va_last hx hb hK hP hD hS 5 1 rfl rfl (vp_in_nI (n := n) (N := 200) (by omega) (by omega)) d_M_put_63 (fun H locs hP hD hS => ?_)
  rw [nI_clamp (by omega)] at hP hD
  have hP : va_P D cls_ (wM cA am (nI n) (nI (la + 1)) (upd nu n (nI (la + 1))) (upd ki n k9) (upd th n t9) (upd ot n o9) (vp_updL vs n v9) av pl ps (nI T.length) ts fr bk ce co ro le dn un) H := hP
  have hD : va_D A (wM cA am (nI n) (nI (la + 1)) (upd nu n (nI (la + 1))) (upd ki n k9) (upd th n t9) (upd ot n o9) (vp_updL vs n v9) av pl ps (nI T.length) ts fr bk ce co ro le dn un) := hD
  refine lv_aload_n hx hb d_M_put_64 rfl (lv_at hl 0 rfl) ?_
  refine va_get (D := D) (ci := 3) (v := .ref (am 6)) (C := RM) (T := TM) (N := 20) hx hb hg inM hown hK hP 0 rfl rfl 7 (by decide) (hg _ fl_M_26) (fun _ h9 => h9) rfl d_M_put_65 ?_
  refine lv_aload_n hx hb d_M_put_68 rfl (lv_at hl 0 rfl) ?_
  refine va_get (D := D) (ci := 3) (v := .int (nI n)) (C := RM) (T := TM) (N := 20) hx hb hg inM hown hK hP 0 rfl rfl 0 (by decide) (hg _ fl_M_65) (fun _ h9 => h9) rfl d_M_put_69 ?_
  refine lv_iconst (v := 1) hx hb d_M_put_72 (by decide) ?_
  refine va_zast hx hb hK hP hD hS 6 4 rfl rfl (vp_in_nI (n := n) (N := 200) (by omega) (by omega)) d_M_put_73 (fun H locs hP hD hS => ?_)
  rw [nI_clamp (by omega)] at hP hD
  rw [show vp_nar .boolean 1 = 1 from rfl] at hP hD
  have hP : va_P D cls_ (wM cA am (nI n) (nI (la + 1)) (upd nu n (nI (la + 1))) (upd ki n k9) (upd th n t9) (upd ot n o9) (vp_updL vs n v9) (upd av n 1) pl ps (nI T.length) ts fr bk ce co ro le dn un) H := hP
  have hD : va_D A (wM cA am (nI n) (nI (la + 1)) (upd nu n (nI (la + 1))) (upd ki n k9) (upd th n t9) (upd ot n o9) (vp_updL vs n v9) (upd av n 1) pl ps (nI T.length) ts fr bk ce co ro le dn un) := hD
  refine lv_aload_n hx hb d_M_put_74 rfl (lv_at hl 0 rfl) ?_
  refine lv_dup hx hb d_M_put_75 rfl ?_
  refine va_get (D := D) (ci := 3) (v := .int (nI n)) (C := RM) (T := TM) (N := 20) hx hb hg inM hown hK hP 0 rfl rfl 0 (by decide) (hg _ fl_M_65) (fun _ h9 => h9) rfl d_M_put_76 ?_
  refine lv_iconst (v := 1) hx hb d_M_put_79 (by decide) ?_
  refine lv_iadd hx hb d_M_put_80 ?_
  refine toi_ (y := nI (n + 1)) (nI_1 n) ?_
  refine va_put (D := D) (ci := 3) (v := .int (nI (n + 1))) (ty := .int) (C := RM) (T := TM) (N := 20) hx hb hg inM tyM okM nmM hown hK hP hD hS 0 rfl rfl 0 (by decide) (hg _ fl_M_65) (fun _ h9 => h9) rfl (by decide +kernel) rfl rfl (Nat.le_of_ble_eq_true rfl) d_M_put_81 (fun H locs hP hD hS => ?_)
  have hP : va_P D cls_ (wM cA am (nI (n + 1)) (nI (la + 1)) (upd nu n (nI (la + 1))) (upd ki n k9) (upd th n t9) (upd ot n o9) (vp_updL vs n v9) (upd av n 1) pl ps (nI T.length) ts fr bk ce co ro le dn un) H := hP
  have hD : va_D A (wM cA am (nI (n + 1)) (nI (la + 1)) (upd nu n (nI (la + 1))) (upd ki n k9) (upd th n t9) (upd ot n o9) (vp_updL vs n v9) (upd av n 1) pl ps (nI T.length) ts fr bk ce co ro le dn un) := hD
  refine lv_aload_n hx hb d_M_put_84 rfl (lv_at hl 0 rfl) ?_
  refine lv_iconst (v := 0) hx hb d_M_put_85 (by decide) ?_
  refine va_put (D := D) (ci := 3) (v := .int 0) (ty := .boolean) (C := RM) (T := TM) (N := 20) hx hb hg inM tyM okM nmM hown hK hP hD hS 0 rfl rfl 12 (by decide) (hg _ fl_M_39) (fun _ h9 => h9) rfl (by decide +kernel) rfl rfl (Nat.le_of_ble_eq_true rfl) d_M_put_86 (fun H locs hP hD hS => ?_)
  have hP : va_P D cls_ (wM cA am (nI (n + 1)) (nI (la + 1)) (upd nu n (nI (la + 1))) (upd ki n k9) (upd th n t9) (upd ot n o9) (vp_updL vs n v9) (upd av n 1) pl ps (nI T.length) ts 0 bk ce co ro le dn un) H := hP
  have hD : va_D A (wM cA am (nI (n + 1)) (nI (la + 1)) (upd nu n (nI (la + 1))) (upd ki n k9) (upd th n t9) (upd ot n o9) (vp_updL vs n v9) (upd av n 1) pl ps (nI T.length) ts 0 bk ce co ro le dn un) := hD
  refine lv_aload_n hx hb d_M_put_89 rfl (lv_at hl 0 rfl) ?_
  refine va_get (D := D) (ci := 3) (v := .int (nI (la + 1))) (C := RM) (T := TM) (N := 20) hx hb hg inM hown hK hP 0 rfl rfl 1 (by decide) (hg _ fl_M_68) (fun _ h9 => h9) rfl d_M_put_90 ?_
  exact W.iret hx hb hr (fun t ht hW => ⟨⟨_, (), rfl, rfl, by rw [ht]; exact hP, hD⟩, hS.F ht⟩) hS.2.2 d_M_put_93
