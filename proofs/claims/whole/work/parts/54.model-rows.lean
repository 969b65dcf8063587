/-! The reference: takeOut, bringIn -/
set_option maxHeartbeats 4000000 in
set_option maxRecDepth 100000 in
theorem m_M_takeOut (l : Launch) (D : va_G) (cA : Nat → ClassId) (sz : Nat) (am : Nat → Nat) (vz la : Int32) (nu ki th ot : Nat → Int32) (vs : Nat → Int64) (av pl ps : Nat → Int32) (tz : Int32) (ts : Nat → Int32) (fr bk : Int32) (ce : Nat → Int32) (co : Nat → Int64) (ro le dn un : Nat → Int32) (r : Nat) (x : Int32) (Lr : List Int32) (hr3 : r < 3) (hle : le r = nI Lr.length) (hrl : rl_ (fun j => ro (40 * r + j)) Lr) (h40 : Lr.length ≤ 40) : Met l y_M_takeOut (.code y_M_takeOut c_M_takeOut 5 none :: G_) ({ frames := 1, cells := 0, slots := 0, locals := 23 }) (va_Pc [.ref (am 0), .int (nI r), .int x] (pm_ D cA (wM cA am vz la nu ki th ot vs av pl ps tz ts fr bk ce co ro le dn un) sz)) (va_Qv (fun (u : (Nat → Int32) × (Nat → Int32)) => rq_ r ro le u.1 u.2 (del_ Lr x)) (bw_ D (va_A (wM cA am vz la nu ki th ot vs av pl ps tz ts fr bk ce co ro le dn un) sz) (fun u => wM cA am vz la nu ki th ot vs av pl ps tz ts fr bk ce co u.1 u.2 dn un)) (va_A (wM cA am vz la nu ki th ot vs av pl ps tz ts fr bk ce co ro le dn un) sz)) 0 0 (va_A (wM cA am vz la nu ki th ot vs av pl ps tz ts fr bk ce co ro le dn un) sz) := by
  refine Met.ofW (cc := c_M_takeOut) (maxL := 5) (ret := none) (by decide) rfl ?_
  intro p e s m args below meth c s₁ B hml hv
  obtain ⟨rfl, hsz, hP, ⟨hK, hN⟩, hD0⟩ := hv
  have hx := B.exec
  have hb := B.bytes
  have hr := B.returns
  have hts := atoms_spec (ws := (.code y_M_takeOut c_M_takeOut 5 none :: G_)) B.pre
  have hg : ∀ w ∈ G_, w.before ([.ref (am 0), .int (nI r), .int x] : List Value).toArray s = true := fun w h => hts w (List.mem_cons_of_mem _ h)
  have hown : s.vm.findClass RM = some m.cls := findClass_of_methodNamed B.named
  have hlocks := B.notSynchronized
  subst hsz
  have hD := hD0.self (sz := s.heap.size)
  generalize hAe : va_A (wM cA am vz la nu ki th ot vs av pl ps tz ts fr bk ce co ro le dn un) s.heap.size = A at hD ⊢
  have hA : ∀ q : Nat, s.heap.size ≤ q → A q := fun q h => by rw [← hAe]; exact Or.inr h
  have hS : va_S A s.heap s.heap [] := va_S.rf
  have hl := lv_entry ([.ref (am 0), .int (nI r), .int x]) (n := 5) (Nat.le_of_ble_eq_true rfl)
  rw [lg_entry_eq]
  generalize (lg_sl ([.ref (am 0), .int (nI r), .int x]) ++ List.replicate (5 - (lg_sl ([.ref (am 0), .int (nI r), .int x])).length) Slot.unset).toArray = ls at hl ⊢
  have hl : lv_has ls 5 [(0, .ref (am 0)), (1, .int (nI r)), (2, .int x)] := hl
  refine lv_aload_n hx hb d_M_takeOut_0 rfl (lv_at hl 0 rfl) ?_
  refine lv_iload_n hx hb d_M_takeOut_1 rfl (lv_at hl 1 rfl) ?_
  refine lv_iload_n hx hb d_M_takeOut_2 rfl (lv_at hl 2 rfl) ?_
  refine vp_callSi (va_Run.run (va_runV (C := RM) (As := [.int (nI r), .int x]) (rest := []) ⟨hx, hb, hml, hown, hg⟩ (m_M_indexOf l D cA am vz la nu ki th ot vs av pl ps tz ts fr bk ce co ro le dn un r x Lr hr3 hle hrl (by omega)) (cwV 2 hg (gd_V ml_M_75 im_M_indexOf sl_M_indexOf ini_M cd_M_indexOf) rfl rfl rfl (by decide +kernel) ⟨Nat.le_of_ble_eq_true rfl, Nat.le_of_ble_eq_true rfl⟩) (pv_r (va_recv (q0 := 0) (ci := 3) hK hP rfl rfl) (hP) hK hN) rfl rfl hl.1 rfl (lv_room (Nat.le_of_ble_eq_true rfl)) d_M_takeOut_3 ⟨Nat.zero_le _, Nat.zero_le _⟩)) (fun r3 e3 => ?_)
  subst e3
  rcases hfi : ix_ Lr x with _ | k
  · skip
    refine toi_ (y := -1) rfl ?_
    refine lv_istore_n (lv' := [(3, .int (-1)), (0, .ref (am 0)), (1, .int (nI r)), (2, .int x)]) hx hb d_M_takeOut_6 rfl hl (by decide) rfl (fun ls hl => ?_)
    refine lv_iload_n hx hb d_M_takeOut_7 rfl (lv_at hl 0 rfl) ?_
    refine lv_if_ge (tgt := 12) hx hb d_M_takeOut_8 (by decide) (fun h8 => ?_) (fun h8 => ?_)
    · skip
      exact absurd h8 (by decide)
    · skip
      exact W.vret hx hb hr (fun t ht hW => ⟨⟨(ro, le), rfl, by rw [del_non (ix_non.mp hfi)]; exact rq_same hle hrl, by rw [ht]; exact hP, hD⟩, hS.F ht⟩) hS.2.2 d_M_takeOut_11
  · skip
    refine toi_ (y := nI k) rfl ?_
    refine lv_istore_n (lv' := [(3, .int (nI k)), (0, .ref (am 0)), (1, .int (nI r)), (2, .int x)]) hx hb d_M_takeOut_6 rfl hl (by decide) rfl (fun ls hl => ?_)
    refine lv_iload_n hx hb d_M_takeOut_7 rfl (lv_at hl 0 rfl) ?_
    refine lv_if_ge (tgt := 12) hx hb d_M_takeOut_8 (by decide) (fun h8 => ?_) (fun h8 => ?_)
    · skip
      refine lv_aload_n hx hb d_M_takeOut_12 rfl (lv_at hl 1 rfl) ?_
      refine va_get (D := D) (ci := 3) (v := .ref (am 13)) (C := RM) (T := TM) (N := 20) hx hb hg inM hown hK hP 0 rfl rfl 17 (by decide) (hg _ fl_M_56) (fun _ h9 => h9) rfl d_M_takeOut_13 ?_
      refine lv_iload_n hx hb d_M_takeOut_16 rfl (lv_at hl 2 rfl) ?_
      refine lv_dup2_11 hx hb d_M_takeOut_17 rfl rfl ?_
      refine va_iald hx hb hK hP 13 0 rfl rfl (vp_in_nI (n := r) (N := 3) (by omega) (by omega)) d_M_takeOut_18 ?_
      refine toi_ (y := le r) (by rw [nI_clamp (by omega)]) ?_
      refine toi_ (y := nI Lr.length) (hle) ?_
      refine lv_iconst (v := 1) hx hb d_M_takeOut_19 (by decide) ?_
      refine lv_isub hx hb d_M_takeOut_20 ?_
      refine toi_ (y := nI (Lr.length - 1)) (pk_sub (b := 1) (by have := ix_lt hfi; omega)) ?_
      refine va_iast hx hb hK hP hD hS 13 0 rfl rfl (vp_in_nI (n := r) (N := 3) (by omega) (by omega)) d_M_takeOut_21 (fun H locs hP hD hS => ?_)
      rw [nI_clamp (by omega)] at hP hD
      have hP : va_P D cls_ (wM cA am vz la nu ki th ot vs av pl ps tz ts fr bk ce co ro (upd le r (nI (Lr.length - 1))) dn un) H := hP
      have hD : va_D A (wM cA am vz la nu ki th ot vs av pl ps tz ts fr bk ce co ro (upd le r (nI (Lr.length - 1))) dn un) := hD
      refine lv_iload_n hx hb d_M_takeOut_22 rfl (lv_at hl 0 rfl) ?_
      refine lv_istore (lv' := [(4, .int (nI k)), (3, .int (nI k)), (0, .ref (am 0)), (1, .int (nI r)), (2, .int x)]) hx hb d_M_takeOut_23 hl (by decide) rfl (fun ls hl => ?_)
      have hklt := ix_lt hfi
      have hdl : del_ Lr x = Lr.eraseIdx k := by unfold del_; rw [hfi]
      have hl := lv_sub hl [0, 1, 2, 3, 4] (l' := [(4, .int (nI k)), (3, .int (nI k)), (0, .ref (am 0)), (1, .int (nI r)), (2, .int x)]) rfl
      have loop : ∀ (d i : Nat) (H : Heap) (locs : List Loc) (ls : Array Slot), i + d = Lr.length - 1 → k ≤ i → va_P D cls_ (wM cA am vz la nu ki th ot vs av pl ps tz ts fr bk ce co (sh_ ro (40 * r + k) (40 * r + i)) (upd le r (nI (Lr.length - 1))) dn un) H → va_D A (wM cA am vz la nu ki th ot vs av pl ps tz ts fr bk ce co (sh_ ro (40 * r + k) (40 * r + i)) (upd le r (nI (Lr.length - 1))) dn un) → va_S A s.heap H locs → lv_has ls 5 [(4, .int (nI i)), (3, .int (nI k)), (0, .ref (am 0)), (1, .int (nI r)), (2, .int x)] → W p l e (headSpec (.code y_M_takeOut c_M_takeOut 5 none :: G_) ({ frames := 1, cells := 0, slots := 0, locals := 23 })).room s m ([.ref (am 0), .int (nI r), .int x] : List Value).toArray below meth c H locs 0 0 (MQ below (va_Qv (fun (u : (Nat → Int32) × (Nat → Int32)) => rq_ r ro le u.1 u.2 (del_ Lr x)) (bw_ D A (fun u => wM cA am vz la nu ki th ot vs av pl ps tz ts fr bk ce co u.1 u.2 dn un)) A) ([.ref (am 0), .int (nI r), .int x] : List Value).toArray s 0 0 A) (F0 m 25 ls []) := by
        intro d
        induction d with
        | zero =>
          intro i H locs ls hid hki hP hD hS hl
          have hi2 : i = Lr.length - 1 := by omega
          subst hi2
          refine lv_iload hx hb d_M_takeOut_25 (lv_at hl 0 rfl) ?_
          refine lv_aload_n hx hb d_M_takeOut_27 rfl (lv_at hl 2 rfl) ?_
          refine va_get (D := D) (ci := 3) (v := .ref (am 13)) (C := RM) (T := TM) (N := 20) hx hb hg inM hown hK hP 0 rfl rfl 17 (by decide) (hg _ fl_M_56) (fun _ h9 => h9) rfl d_M_takeOut_28 ?_
          refine lv_iload_n hx hb d_M_takeOut_31 rfl (lv_at hl 3 rfl) ?_
          refine va_iald hx hb hK hP 13 0 rfl rfl (vp_in_nI (n := r) (N := 3) (by omega) (by omega)) d_M_takeOut_32 ?_
          refine toi_ (y := (upd le r (nI (Lr.length - 1))) r) (by rw [nI_clamp (by omega)]) ?_
          refine toi_ (y := nI (Lr.length - 1)) (pk_us) ?_
          refine lv_icmp_ge (tgt := 68) hx hb d_M_takeOut_33 (by decide) (fun h33 => ?_) (fun h33 => ?_)
          · skip
            exact W.vret hx hb hr (fun t ht hW => ⟨⟨((sh_ ro (40 * r + k) (40 * r + (Lr.length - 1))), (upd le r (nI (Lr.length - 1)))), rfl, by rw [hdl]; exact rq_del hrl h40 hklt, by rw [ht]; exact hP, hD⟩, hS.F ht⟩) hS.2.2 d_M_takeOut_68
          · skip
            exact absurd (Int32.le_refl _) h33
        | succ d ih =>
          intro i H locs ls hid hki hP hD hS hl
          refine lv_iload hx hb d_M_takeOut_25 (lv_at hl 0 rfl) ?_
          refine lv_aload_n hx hb d_M_takeOut_27 rfl (lv_at hl 2 rfl) ?_
          refine va_get (D := D) (ci := 3) (v := .ref (am 13)) (C := RM) (T := TM) (N := 20) hx hb hg inM hown hK hP 0 rfl rfl 17 (by decide) (hg _ fl_M_56) (fun _ h9 => h9) rfl d_M_takeOut_28 ?_
          refine lv_iload_n hx hb d_M_takeOut_31 rfl (lv_at hl 3 rfl) ?_
          refine va_iald hx hb hK hP 13 0 rfl rfl (vp_in_nI (n := r) (N := 3) (by omega) (by omega)) d_M_takeOut_32 ?_
          refine toi_ (y := (upd le r (nI (Lr.length - 1))) r) (by rw [nI_clamp (by omega)]) ?_
          refine toi_ (y := nI (Lr.length - 1)) (pk_us) ?_
          refine lv_icmp_ge (tgt := 68) hx hb d_M_takeOut_33 (by decide) (fun h33 => ?_) (fun h33 => ?_)
          · skip
            exact absurd h33 (nI_ge (by omega) (by omega))
          · skip
            refine lv_aload_n hx hb d_M_takeOut_36 rfl (lv_at hl 2 rfl) ?_
            refine va_get (D := D) (ci := 3) (v := .ref (am 12)) (C := RM) (T := TM) (N := 20) hx hb hg inM hown hK hP 0 rfl rfl 16 (by decide) (hg _ fl_M_53) (fun _ h9 => h9) rfl d_M_takeOut_37 ?_
            refine lv_bipush (v := 40) hx hb d_M_takeOut_40 (by decide) ?_
            refine lv_iload_n hx hb d_M_takeOut_42 rfl (lv_at hl 3 rfl) ?_
            refine lv_imul hx hb d_M_takeOut_43 ?_
            refine toi_ (y := nI (40 * r)) (pk_mul 40 r) ?_
            refine lv_iload hx hb d_M_takeOut_44 (lv_at hl 0 rfl) ?_
            refine lv_iadd hx hb d_M_takeOut_46 ?_
            refine toi_ (y := nI (40 * r + i)) (nI_add _ _) ?_
            refine lv_aload_n hx hb d_M_takeOut_47 rfl (lv_at hl 2 rfl) ?_
            refine va_get (D := D) (ci := 3) (v := .ref (am 12)) (C := RM) (T := TM) (N := 20) hx hb hg inM hown hK hP 0 rfl rfl 16 (by decide) (hg _ fl_M_53) (fun _ h9 => h9) rfl d_M_takeOut_48 ?_
            refine lv_bipush (v := 40) hx hb d_M_takeOut_51 (by decide) ?_
            refine lv_iload_n hx hb d_M_takeOut_53 rfl (lv_at hl 3 rfl) ?_
            refine lv_imul hx hb d_M_takeOut_54 ?_
            refine toi_ (y := nI (40 * r)) (pk_mul 40 r) ?_
            refine lv_iload hx hb d_M_takeOut_55 (lv_at hl 0 rfl) ?_
            refine lv_iadd hx hb d_M_takeOut_57 ?_
            refine toi_ (y := nI (40 * r + i)) (nI_add _ _) ?_
            refine lv_iconst (v := 1) hx hb d_M_takeOut_58 (by decide) ?_
            refine lv_iadd hx hb d_M_takeOut_59 ?_
            refine toi_ (y := nI (40 * r + i + 1)) (nI_1 _) ?_
            refine va_iald hx hb hK hP 12 0 rfl rfl (vp_in_nI (n := 40 * r + i + 1) (N := 120) (by omega) (by omega)) d_M_takeOut_60 ?_
            refine toi_ (y := (sh_ ro (40 * r + k) (40 * r + i)) (40 * r + i + 1)) (by rw [nI_clamp (by omega)]) ?_
            refine toi_ (y := ro (40 * r + i + 1)) (sh_at ro (by omega)) ?_
            refine va_iast hx hb hK hP hD hS 12 0 rfl rfl (vp_in_nI (n := 40 * r + i) (N := 120) (by omega) (by omega)) d_M_takeOut_61 (fun H locs hP hD hS => ?_)
            rw [nI_clamp (by omega)] at hP hD
            have hP : va_P D cls_ (wM cA am vz la nu ki th ot vs av pl ps tz ts fr bk ce co (upd (sh_ ro (40 * r + k) (40 * r + i)) (40 * r + i) (ro (40 * r + i + 1))) (upd le r (nI (Lr.length - 1))) dn un) H := hP
            have hD : va_D A (wM cA am vz la nu ki th ot vs av pl ps tz ts fr bk ce co (upd (sh_ ro (40 * r + k) (40 * r + i)) (40 * r + i) (ro (40 * r + i + 1))) (upd le r (nI (Lr.length - 1))) dn un) := hD
            refine lv_iinc (k := 0) (v := nI (i + 1)) (lv' := [(4, .int (nI (i + 1))), (3, .int (nI k)), (0, .ref (am 0)), (1, .int (nI r)), (2, .int x)]) hx hb d_M_takeOut_62 hl rfl (inc_ _) (by decide) rfl (fun ls hl => ?_)
            refine lv_goto (tgt := 25) hx hb d_M_takeOut_65 (by decide) ?_
            have hl := lv_sub hl [0, 1, 2, 3, 4] (l' := [(4, .int (nI (i + 1))), (3, .int (nI k)), (0, .ref (am 0)), (1, .int (nI r)), (2, .int x)]) rfl
            rw [sh_s ro (by omega)] at hP hD
            exact ih (i + 1) H locs ls (by omega) (by omega) hP hD hS hl
      rw [← sh_0 ro (40 * r + k)] at hP hD
      exact loop (Lr.length - 1 - k) k _ _ ls (by omega) (Nat.le_refl _) hP hD hS hl
    · skip
      exact absurd (nI_pos' (by have := ix_lt hfi; omega)) h8

set_option maxHeartbeats 4000000 in
set_option maxRecDepth 100000 in
theorem m_M_bringIn (l : Launch) (D : va_G) (cA : Nat → ClassId) (sz : Nat) (am : Nat → Nat) (vz la : Int32) (nu ki th ot : Nat → Int32) (vs : Nat → Int64) (av pl ps : Nat → Int32) (tz : Int32) (ts : Nat → Int32) (fr bk : Int32) (ce : Nat → Int32) (co : Nat → Int64) (ro le dn un : Nat → Int32) (r : Nat) (x : Int32) (kk : Nat) (PP : List Int32) (Lr : List Int32) (hr3 : r < 3) (hle : le r = nI Lr.length) (hrl : rl_ (fun j => ro (40 * r + j)) Lr) (h39 : Lr.length ≤ 39) (hk200 : kk < 200) (hps : ps kk = nI PP.length) (hpl : rl_ (fun j => pl (40 * kk + j)) PP) (hP40 : PP.length ≤ 40) : Met l y_M_bringIn (.code y_M_bringIn c_M_bringIn 7 none :: G_) ({ frames := 1, cells := 0, slots := 0, locals := 23 }) (va_Pc [.ref (am 0), .int (nI r), .int x, .int (nI kk)] (pm_ D cA (wM cA am vz la nu ki th ot vs av pl ps tz ts fr bk ce co ro le dn un) sz)) (va_Qv (fun (u : (Nat → Int32) × (Nat → Int32)) => rq_ r ro le u.1 u.2 (ins_ Lr PP x)) (bw_ D (va_A (wM cA am vz la nu ki th ot vs av pl ps tz ts fr bk ce co ro le dn un) sz) (fun u => wM cA am vz la nu ki th ot vs av pl ps tz ts fr bk ce co u.1 u.2 dn un)) (va_A (wM cA am vz la nu ki th ot vs av pl ps tz ts fr bk ce co ro le dn un) sz)) 0 0 (va_A (wM cA am vz la nu ki th ot vs av pl ps tz ts fr bk ce co ro le dn un) sz) := by
  refine Met.ofW (cc := c_M_bringIn) (maxL := 7) (ret := none) (by decide) rfl ?_
  intro p e s m args below meth c s₁ B hml hv
  obtain ⟨rfl, hsz, hP, ⟨hK, hN⟩, hD0⟩ := hv
  have hx := B.exec
  have hb := B.bytes
  have hr := B.returns
  have hts := atoms_spec (ws := (.code y_M_bringIn c_M_bringIn 7 none :: G_)) B.pre
  have hg : ∀ w ∈ G_, w.before ([.ref (am 0), .int (nI r), .int x, .int (nI kk)] : List Value).toArray s = true := fun w h => hts w (List.mem_cons_of_mem _ h)
  have hown : s.vm.findClass RM = some m.cls := findClass_of_methodNamed B.named
  have hlocks := B.notSynchronized
  subst hsz
  have hD := hD0.self (sz := s.heap.size)
  generalize hAe : va_A (wM cA am vz la nu ki th ot vs av pl ps tz ts fr bk ce co ro le dn un) s.heap.size = A at hD ⊢
  have hA : ∀ q : Nat, s.heap.size ≤ q → A q := fun q h => by rw [← hAe]; exact Or.inr h
  have hS : va_S A s.heap s.heap [] := va_S.rf
  have hl := lv_entry ([.ref (am 0), .int (nI r), .int x, .int (nI kk)]) (n := 7) (Nat.le_of_ble_eq_true rfl)
  rw [lg_entry_eq]
  generalize (lg_sl ([.ref (am 0), .int (nI r), .int x, .int (nI kk)]) ++ List.replicate (7 - (lg_sl ([.ref (am 0), .int (nI r), .int x, .int (nI kk)])).length) Slot.unset).toArray = ls at hl ⊢
  have hl : lv_has ls 7 [(0, .ref (am 0)), (1, .int (nI r)), (2, .int x), (3, .int (nI kk))] := hl
  have hbe := be_le Lr PP
  generalize hat : be_ Lr PP = at9 at hbe
  have rest9 : ∀ (ls : Array Slot), lv_has ls 7 [(4, .int (nI at9)), (0, .ref (am 0)), (1, .int (nI r)), (2, .int x), (3, .int (nI kk))] → W p l e (headSpec (.code y_M_bringIn c_M_bringIn 7 none :: G_) ({ frames := 1, cells := 0, slots := 0, locals := 23 })).room s m ([.ref (am 0), .int (nI r), .int x, .int (nI kk)] : List Value).toArray below meth c s.heap [] 0 0 (MQ below (va_Qv (fun (u : (Nat → Int32) × (Nat → Int32)) => rq_ r ro le u.1 u.2 (ins_ Lr PP x)) (bw_ D A (fun u => wM cA am vz la nu ki th ot vs av pl ps tz ts fr bk ce co u.1 u.2 dn un)) A) ([.ref (am 0), .int (nI r), .int x, .int (nI kk)] : List Value).toArray s 0 0 A) (F0 m 59 ls []) := by
    intro ls hl
    refine lv_aload_n hx hb d_M_bringIn_59 rfl (lv_at hl 1 rfl) ?_
    refine va_get (D := D) (ci := 3) (v := .ref (am 13)) (C := RM) (T := TM) (N := 20) hx hb hg inM hown hK hP 0 rfl rfl 17 (by decide) (hg _ fl_M_56) (fun _ h9 => h9) rfl d_M_bringIn_60 ?_
    refine lv_iload_n hx hb d_M_bringIn_63 rfl (lv_at hl 2 rfl) ?_
    refine va_iald hx hb hK hP 13 0 rfl rfl (vp_in_nI (n := r) (N := 3) (by omega) (by omega)) d_M_bringIn_64 ?_
    refine toi_ (y := le r) (by rw [nI_clamp (by omega)]) ?_
    refine toi_ (y := nI Lr.length) (hle) ?_
    refine lv_istore (lv' := [(5, .int (nI Lr.length)), (4, .int (nI at9)), (0, .ref (am 0)), (1, .int (nI r)), (2, .int x), (3, .int (nI kk))]) hx hb d_M_bringIn_65 hl (by decide) rfl (fun ls hl => ?_)
    have hl := lv_sub hl [0, 1, 2, 3, 4, 5] (l' := [(5, .int (nI Lr.length)), (4, .int (nI at9)), (0, .ref (am 0)), (1, .int (nI r)), (2, .int x), (3, .int (nI kk))]) rfl
    have loop : ∀ (d j : Nat) (H : Heap) (locs : List Loc) (ls : Array Slot), at9 + d = j → j ≤ Lr.length → va_P D cls_ (wM cA am vz la nu ki th ot vs av pl ps tz ts fr bk ce co (su_ ro (40 * r + j) (40 * r + Lr.length)) le dn un) H → va_D A (wM cA am vz la nu ki th ot vs av pl ps tz ts fr bk ce co (su_ ro (40 * r + j) (40 * r + Lr.length)) le dn un) → va_S A s.heap H locs → lv_has ls 7 [(5, .int (nI j)), (4, .int (nI at9)), (0, .ref (am 0)), (1, .int (nI r)), (2, .int x), (3, .int (nI kk))] → W p l e (headSpec (.code y_M_bringIn c_M_bringIn 7 none :: G_) ({ frames := 1, cells := 0, slots := 0, locals := 23 })).room s m ([.ref (am 0), .int (nI r), .int x, .int (nI kk)] : List Value).toArray below meth c H locs 0 0 (MQ below (va_Qv (fun (u : (Nat → Int32) × (Nat → Int32)) => rq_ r ro le u.1 u.2 (ins_ Lr PP x)) (bw_ D A (fun u => wM cA am vz la nu ki th ot vs av pl ps tz ts fr bk ce co u.1 u.2 dn un)) A) ([.ref (am 0), .int (nI r), .int x, .int (nI kk)] : List Value).toArray s 0 0 A) (F0 m 67 ls []) := by
      intro d
      induction d with
      | zero =>
        intro j H locs ls hid hjl hP hD hS hl
        have hj2 : j = at9 := by omega
        subst hj2
        refine lv_iload hx hb d_M_bringIn_67 (lv_at hl 0 rfl) ?_
        refine lv_iload hx hb d_M_bringIn_69 (lv_at hl 1 rfl) ?_
        refine lv_icmp_le (tgt := 106) hx hb d_M_bringIn_71 (by decide) (fun h71 => ?_) (fun h71 => ?_)
        · skip
          refine lv_aload_n hx hb d_M_bringIn_106 rfl (lv_at hl 2 rfl) ?_
          refine va_get (D := D) (ci := 3) (v := .ref (am 12)) (C := RM) (T := TM) (N := 20) hx hb hg inM hown hK hP 0 rfl rfl 16 (by decide) (hg _ fl_M_53) (fun _ h9 => h9) rfl d_M_bringIn_107 ?_
          refine lv_bipush (v := 40) hx hb d_M_bringIn_110 (by decide) ?_
          refine lv_iload_n hx hb d_M_bringIn_112 rfl (lv_at hl 3 rfl) ?_
          refine lv_imul hx hb d_M_bringIn_113 ?_
          refine toi_ (y := nI (40 * r)) (pk_mul 40 r) ?_
          refine lv_iload hx hb d_M_bringIn_114 (lv_at hl 1 rfl) ?_
          refine lv_iadd hx hb d_M_bringIn_116 ?_
          refine toi_ (y := nI (40 * r + j)) (nI_add _ _) ?_
          refine lv_iload_n hx hb d_M_bringIn_117 rfl (lv_at hl 4 rfl) ?_
          refine va_iast hx hb hK hP hD hS 12 0 rfl rfl (vp_in_nI (n := 40 * r + j) (N := 120) (by omega) (by omega)) d_M_bringIn_118 (fun H locs hP hD hS => ?_)
          rw [nI_clamp (by omega)] at hP hD
          have hP : va_P D cls_ (wM cA am vz la nu ki th ot vs av pl ps tz ts fr bk ce co (upd (su_ ro (40 * r + j) (40 * r + Lr.length)) (40 * r + j) x) le dn un) H := hP
          have hD : va_D A (wM cA am vz la nu ki th ot vs av pl ps tz ts fr bk ce co (upd (su_ ro (40 * r + j) (40 * r + Lr.length)) (40 * r + j) x) le dn un) := hD
          refine lv_aload_n hx hb d_M_bringIn_119 rfl (lv_at hl 2 rfl) ?_
          refine va_get (D := D) (ci := 3) (v := .ref (am 13)) (C := RM) (T := TM) (N := 20) hx hb hg inM hown hK hP 0 rfl rfl 17 (by decide) (hg _ fl_M_56) (fun _ h9 => h9) rfl d_M_bringIn_120 ?_
          refine lv_iload_n hx hb d_M_bringIn_123 rfl (lv_at hl 3 rfl) ?_
          refine lv_dup2_11 hx hb d_M_bringIn_124 rfl rfl ?_
          refine va_iald hx hb hK hP 13 0 rfl rfl (vp_in_nI (n := r) (N := 3) (by omega) (by omega)) d_M_bringIn_125 ?_
          refine toi_ (y := le r) (by rw [nI_clamp (by omega)]) ?_
          refine toi_ (y := nI Lr.length) (hle) ?_
          refine lv_iconst (v := 1) hx hb d_M_bringIn_126 (by decide) ?_
          refine lv_iadd hx hb d_M_bringIn_127 ?_
          refine toi_ (y := nI (Lr.length + 1)) (nI_1 _) ?_
          refine va_iast hx hb hK hP hD hS 13 0 rfl rfl (vp_in_nI (n := r) (N := 3) (by omega) (by omega)) d_M_bringIn_128 (fun H locs hP hD hS => ?_)
          rw [nI_clamp (by omega)] at hP hD
          have hP : va_P D cls_ (wM cA am vz la nu ki th ot vs av pl ps tz ts fr bk ce co (upd (su_ ro (40 * r + j) (40 * r + Lr.length)) (40 * r + j) x) (upd le r (nI (Lr.length + 1))) dn un) H := hP
          have hD : va_D A (wM cA am vz la nu ki th ot vs av pl ps tz ts fr bk ce co (upd (su_ ro (40 * r + j) (40 * r + Lr.length)) (40 * r + j) x) (upd le r (nI (Lr.length + 1))) dn un) := hD
          exact W.vret hx hb hr (fun t ht hW => ⟨⟨(upd (su_ ro (40 * r + j) (40 * r + Lr.length)) (40 * r + j) x, upd le r (nI (Lr.length + 1))), rfl, by unfold ins_; rw [hat]; exact rq_ins x hrl h39 hbe, by rw [ht]; exact hP, hD⟩, hS.F ht⟩) hS.2.2 d_M_bringIn_129
        · skip
          exact absurd (Int32.le_refl _) h71
      | succ d ih =>
        intro j H locs ls hid hjl hP hD hS hl
        obtain ⟨j, rfl⟩ : ∃ z, j = z + 1 := ⟨j - 1, by omega⟩
        refine lv_iload hx hb d_M_bringIn_67 (lv_at hl 0 rfl) ?_
        refine lv_iload hx hb d_M_bringIn_69 (lv_at hl 1 rfl) ?_
        refine lv_icmp_le (tgt := 106) hx hb d_M_bringIn_71 (by decide) (fun h71 => ?_) (fun h71 => ?_)
        · skip
          exact absurd h71 (nI_ge (by omega) (by omega))
        · skip
          refine lv_aload_n hx hb d_M_bringIn_74 rfl (lv_at hl 2 rfl) ?_
          refine va_get (D := D) (ci := 3) (v := .ref (am 12)) (C := RM) (T := TM) (N := 20) hx hb hg inM hown hK hP 0 rfl rfl 16 (by decide) (hg _ fl_M_53) (fun _ h9 => h9) rfl d_M_bringIn_75 ?_
          refine lv_bipush (v := 40) hx hb d_M_bringIn_78 (by decide) ?_
          refine lv_iload_n hx hb d_M_bringIn_80 rfl (lv_at hl 3 rfl) ?_
          refine lv_imul hx hb d_M_bringIn_81 ?_
          refine toi_ (y := nI (40 * r)) (pk_mul 40 r) ?_
          refine lv_iload hx hb d_M_bringIn_82 (lv_at hl 0 rfl) ?_
          refine lv_iadd hx hb d_M_bringIn_84 ?_
          refine toi_ (y := nI (40 * r + (j + 1))) (nI_add _ _) ?_
          refine lv_aload_n hx hb d_M_bringIn_85 rfl (lv_at hl 2 rfl) ?_
          refine va_get (D := D) (ci := 3) (v := .ref (am 12)) (C := RM) (T := TM) (N := 20) hx hb hg inM hown hK hP 0 rfl rfl 16 (by decide) (hg _ fl_M_53) (fun _ h9 => h9) rfl d_M_bringIn_86 ?_
          refine lv_bipush (v := 40) hx hb d_M_bringIn_89 (by decide) ?_
          refine lv_iload_n hx hb d_M_bringIn_91 rfl (lv_at hl 3 rfl) ?_
          refine lv_imul hx hb d_M_bringIn_92 ?_
          refine toi_ (y := nI (40 * r)) (pk_mul 40 r) ?_
          refine lv_iload hx hb d_M_bringIn_93 (lv_at hl 0 rfl) ?_
          refine lv_iadd hx hb d_M_bringIn_95 ?_
          refine toi_ (y := nI (40 * r + (j + 1))) (nI_add _ _) ?_
          refine lv_iconst (v := 1) hx hb d_M_bringIn_96 (by decide) ?_
          refine lv_isub hx hb d_M_bringIn_97 ?_
          refine toi_ (y := nI (40 * r + j)) ((pk_sub (a := 40 * r + (j + 1)) (b := 1) (by omega)).trans (by congr 1)) ?_
          refine va_iald hx hb hK hP 12 0 rfl rfl (vp_in_nI (n := 40 * r + j) (N := 120) (by omega) (by omega)) d_M_bringIn_98 ?_
          refine toi_ (y := (su_ ro (40 * r + (j + 1)) (40 * r + Lr.length)) (40 * r + j)) (by rw [nI_clamp (by omega)]) ?_
          refine toi_ (y := ro (40 * r + j)) (su_at ro (by omega)) ?_
          refine va_iast hx hb hK hP hD hS 12 0 rfl rfl (vp_in_nI (n := 40 * r + (j + 1)) (N := 120) (by omega) (by omega)) d_M_bringIn_99 (fun H locs hP hD hS => ?_)
          rw [nI_clamp (by omega)] at hP hD
          have hP : va_P D cls_ (wM cA am vz la nu ki th ot vs av pl ps tz ts fr bk ce co (upd (su_ ro (40 * r + (j + 1)) (40 * r + Lr.length)) (40 * r + (j + 1)) (ro (40 * r + j))) le dn un) H := hP
          have hD : va_D A (wM cA am vz la nu ki th ot vs av pl ps tz ts fr bk ce co (upd (su_ ro (40 * r + (j + 1)) (40 * r + Lr.length)) (40 * r + (j + 1)) (ro (40 * r + j))) le dn un) := hD
          refine lv_iinc (k := 0) (v := nI j) (lv' := [(5, .int (nI j)), (4, .int (nI at9)), (0, .ref (am 0)), (1, .int (nI r)), (2, .int x), (3, .int (nI kk))]) hx hb d_M_bringIn_100 hl rfl (dec_ j) (by decide) rfl (fun ls hl => ?_)
          refine lv_goto (tgt := 67) hx hb d_M_bringIn_103 (by decide) ?_
          have hl := lv_sub hl [0, 1, 2, 3, 4, 5] (l' := [(5, .int (nI j)), (4, .int (nI at9)), (0, .ref (am 0)), (1, .int (nI r)), (2, .int x), (3, .int (nI kk))]) rfl
          have e9 : 40 * r + (j + 1) = (40 * r + j) + 1 := by omega
          rw [e9, su_s ro (by omega)] at hP hD
          exact ih j H locs ls (by omega) (by omega) hP hD hS hl
    rw [← su_0 ro (40 * r + Lr.length)] at hP hD
    exact loop (Lr.length - at9) Lr.length _ _ ls (by omega) (Nat.le_refl _) hP hD hS hl
  have hdr : ∀ i, i < PP.length → PP.drop i = pl (40 * kk + i) :: PP.drop (i + 1) := fun i hi => by rw [List.drop_eq_getElem_cons hi]; congr 1; have h9 := hpl i hi; rw [List.getElem?_eq_getElem hi] at h9; exact Option.some.inj h9
  have loop1 : ∀ (d i : Nat) (ls : Array Slot), i + d = PP.length → be_ Lr (PP.drop i) = at9 → lv_has ls 7 [(5, .int (nI i)), (4, .int 0), (0, .ref (am 0)), (1, .int (nI r)), (2, .int x), (3, .int (nI kk))] → W p l e (headSpec (.code y_M_bringIn c_M_bringIn 7 none :: G_) ({ frames := 1, cells := 0, slots := 0, locals := 23 })).room s m ([.ref (am 0), .int (nI r), .int x, .int (nI kk)] : List Value).toArray below meth c s.heap [] 0 0 (MQ below (va_Qv (fun (u : (Nat → Int32) × (Nat → Int32)) => rq_ r ro le u.1 u.2 (ins_ Lr PP x)) (bw_ D A (fun u => wM cA am vz la nu ki th ot vs av pl ps tz ts fr bk ce co u.1 u.2 dn un)) A) ([.ref (am 0), .int (nI r), .int x, .int (nI kk)] : List Value).toArray s 0 0 A) (F0 m 6 ls []) := by
    intro d
    induction d with
    | zero =>
      intro i ls hid hb9 hl
      have hi2 : i = PP.length := by omega
      subst hi2
      rw [List.drop_length] at hb9
      have h09 : at9 = 0 := hb9.symm
      subst h09
      refine lv_iload hx hb d_M_bringIn_6 (lv_at hl 0 rfl) ?_
      refine lv_aload_n hx hb d_M_bringIn_8 rfl (lv_at hl 2 rfl) ?_
      refine va_get (D := D) (ci := 3) (v := .ref (am 8)) (C := RM) (T := TM) (N := 20) hx hb hg inM hown hK hP 0 rfl rfl 9 (by decide) (hg _ fl_M_33) (fun _ h9 => h9) rfl d_M_bringIn_9 ?_
      refine lv_iload_n hx hb d_M_bringIn_12 rfl (lv_at hl 5 rfl) ?_
      refine va_iald hx hb hK hP 8 0 rfl rfl (vp_in_nI (n := kk) (N := 200) (by omega) (by omega)) d_M_bringIn_13 ?_
      refine toi_ (y := ps kk) (by rw [nI_clamp (by omega)]) ?_
      refine toi_ (y := nI PP.length) (hps) ?_
      refine lv_icmp_ge (tgt := 59) hx hb d_M_bringIn_14 (by decide) (fun h14 => ?_) (fun h14 => ?_)
      · skip
        have hl := lv_sub hl [1, 2, 3, 4, 5] (l' := [(4, .int (nI 0)), (0, .ref (am 0)), (1, .int (nI r)), (2, .int x), (3, .int (nI kk))]) rfl
        exact rest9 ls hl
      · skip
        exact absurd (Int32.le_refl _) h14
    | succ d ih =>
      intro i ls hid hb9 hl
      rw [hdr i (by omega)] at hb9
      refine lv_iload hx hb d_M_bringIn_6 (lv_at hl 0 rfl) ?_
      refine lv_aload_n hx hb d_M_bringIn_8 rfl (lv_at hl 2 rfl) ?_
      refine va_get (D := D) (ci := 3) (v := .ref (am 8)) (C := RM) (T := TM) (N := 20) hx hb hg inM hown hK hP 0 rfl rfl 9 (by decide) (hg _ fl_M_33) (fun _ h9 => h9) rfl d_M_bringIn_9 ?_
      refine lv_iload_n hx hb d_M_bringIn_12 rfl (lv_at hl 5 rfl) ?_
      refine va_iald hx hb hK hP 8 0 rfl rfl (vp_in_nI (n := kk) (N := 200) (by omega) (by omega)) d_M_bringIn_13 ?_
      refine toi_ (y := ps kk) (by rw [nI_clamp (by omega)]) ?_
      refine toi_ (y := nI PP.length) (hps) ?_
      refine lv_icmp_ge (tgt := 59) hx hb d_M_bringIn_14 (by decide) (fun h14 => ?_) (fun h14 => ?_)
      · skip
        exact absurd h14 (nI_ge (by omega) (by omega))
      · skip
        refine lv_aload_n hx hb d_M_bringIn_17 rfl (lv_at hl 2 rfl) ?_
        refine lv_iload_n hx hb d_M_bringIn_18 rfl (lv_at hl 3 rfl) ?_
        refine lv_aload_n hx hb d_M_bringIn_19 rfl (lv_at hl 2 rfl) ?_
        refine va_get (D := D) (ci := 3) (v := .ref (am 7)) (C := RM) (T := TM) (N := 20) hx hb hg inM hown hK hP 0 rfl rfl 8 (by decide) (hg _ fl_M_30) (fun _ h9 => h9) rfl d_M_bringIn_20 ?_
        refine lv_bipush (v := 40) hx hb d_M_bringIn_23 (by decide) ?_
        refine lv_iload_n hx hb d_M_bringIn_25 rfl (lv_at hl 5 rfl) ?_
        refine lv_imul hx hb d_M_bringIn_26 ?_
        refine toi_ (y := nI (40 * kk)) (pk_mul 40 kk) ?_
        refine lv_iload hx hb d_M_bringIn_27 (lv_at hl 0 rfl) ?_
        refine lv_iadd hx hb d_M_bringIn_29 ?_
        refine toi_ (y := nI (40 * kk + i)) (nI_add _ _) ?_
        refine va_iald hx hb hK hP 7 0 rfl rfl (vp_in_nI (n := 40 * kk + i) (N := 8000) (by omega) (by omega)) d_M_bringIn_30 ?_
        refine toi_ (y := pl (40 * kk + i)) (by rw [nI_clamp (by omega)]) ?_
        refine vp_callSi (va_Run.run (va_runV (C := RM) (As := [.int (nI r), .int (pl (40 * kk + i))]) (rest := []) ⟨hx, hb, hml, hown, hg⟩ (m_M_indexOf l D cA am vz la nu ki th ot vs av pl ps tz ts fr bk ce co ro le dn un r (pl (40 * kk + i)) Lr hr3 hle hrl (by omega)) (cwV 2 hg (gd_V ml_M_75 im_M_indexOf sl_M_indexOf ini_M cd_M_indexOf) rfl rfl rfl (by decide +kernel) ⟨Nat.le_of_ble_eq_true rfl, Nat.le_of_ble_eq_true rfl⟩) (pv_r (va_recv (q0 := 0) (ci := 3) hK hP rfl rfl) (hP) hK hN) rfl rfl hl.1 rfl (lv_room (Nat.le_of_ble_eq_true rfl)) d_M_bringIn_31 ⟨Nat.zero_le _, Nat.zero_le _⟩)) (fun r31 e31 => ?_)
        subst e31
        rcases hfi : ix_ Lr (pl (40 * kk + i)) with _ | k
        · skip
          refine toi_ (y := -1) rfl ?_
          refine lv_istore (lv' := [(6, .int (-1)), (5, .int (nI i)), (4, .int 0), (0, .ref (am 0)), (1, .int (nI r)), (2, .int x), (3, .int (nI kk))]) hx hb d_M_bringIn_34 hl (by decide) rfl (fun ls hl => ?_)
          refine lv_iload hx hb d_M_bringIn_36 (lv_at hl 0 rfl) ?_
          refine lv_if_ge (tgt := 44) hx hb d_M_bringIn_38 (by decide) (fun h38 => ?_) (fun h38 => ?_)
          · skip
            exact absurd h38 (by decide)
          · skip
            have hb8 : be_ Lr (PP.drop (i + 1)) = at9 := by rw [← hb9, be_none hfi]
            refine lv_goto (tgt := 53) hx hb d_M_bringIn_41 (by decide) ?_
            refine lv_iinc (k := 1) (v := nI (i + 1)) (lv' := [(5, .int (nI (i + 1))), (6, .int (-1)), (4, .int 0), (0, .ref (am 0)), (1, .int (nI r)), (2, .int x), (3, .int (nI kk))]) hx hb d_M_bringIn_53 hl rfl (inc_ _) (by decide) rfl (fun ls hl => ?_)
            refine lv_goto (tgt := 6) hx hb d_M_bringIn_56 (by decide) ?_
            have hl := lv_sub hl [0, 2, 3, 4, 5, 6] (l' := [(5, .int (nI (i + 1))), (4, .int 0), (0, .ref (am 0)), (1, .int (nI r)), (2, .int x), (3, .int (nI kk))]) rfl
            exact ih (i + 1) ls (by omega) hb8 hl
        · skip
          refine toi_ (y := nI k) rfl ?_
          refine lv_istore (lv' := [(6, .int (nI k)), (5, .int (nI i)), (4, .int 0), (0, .ref (am 0)), (1, .int (nI r)), (2, .int x), (3, .int (nI kk))]) hx hb d_M_bringIn_34 hl (by decide) rfl (fun ls hl => ?_)
          refine lv_iload hx hb d_M_bringIn_36 (lv_at hl 0 rfl) ?_
          refine lv_if_ge (tgt := 44) hx hb d_M_bringIn_38 (by decide) (fun h38 => ?_) (fun h38 => ?_)
          · skip
            have hb8 : k + 1 = at9 := by rw [← hb9, be_some hfi]
            refine lv_iload hx hb d_M_bringIn_44 (lv_at hl 0 rfl) ?_
            refine lv_iconst (v := 1) hx hb d_M_bringIn_46 (by decide) ?_
            refine lv_iadd hx hb d_M_bringIn_47 ?_
            refine toi_ (y := nI (k + 1)) (nI_1 k) ?_
            refine lv_istore (lv' := [(4, .int (nI (k + 1))), (6, .int (nI k)), (5, .int (nI i)), (0, .ref (am 0)), (1, .int (nI r)), (2, .int x), (3, .int (nI kk))]) hx hb d_M_bringIn_48 hl (by decide) rfl (fun ls hl => ?_)
            refine lv_goto (tgt := 59) hx hb d_M_bringIn_50 (by decide) ?_
            subst hb8
            have hl := lv_sub hl [0, 3, 4, 5, 6] (l' := [(4, .int (nI (k + 1))), (0, .ref (am 0)), (1, .int (nI r)), (2, .int x), (3, .int (nI kk))]) rfl
            exact rest9 ls hl
          · skip
            exact absurd (nI_pos' (by have := ix_lt hfi; omega)) h38
  refine lv_iconst (v := 0) hx hb d_M_bringIn_0 (by decide) ?_
  refine lv_istore (lv' := [(4, .int 0), (0, .ref (am 0)), (1, .int (nI r)), (2, .int x), (3, .int (nI kk))]) hx hb d_M_bringIn_1 hl (by decide) rfl (fun ls hl => ?_)
  refine lv_iconst (v := 0) hx hb d_M_bringIn_3 (by decide) ?_
  refine lv_istore (lv' := [(5, .int 0), (4, .int 0), (0, .ref (am 0)), (1, .int (nI r)), (2, .int x), (3, .int (nI kk))]) hx hb d_M_bringIn_4 hl (by decide) rfl (fun ls hl => ?_)
  have hl := lv_sub hl [0, 1, 2, 3, 4, 5] (l' := [(5, .int (nI 0)), (4, .int 0), (0, .ref (am 0)), (1, .int (nI r)), (2, .int x), (3, .int (nI kk))]) rfl
  exact loop1 PP.length 0 ls (by omega) hat hl
