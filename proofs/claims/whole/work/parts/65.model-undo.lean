/-! The reference: undo, redo -/
set_option maxHeartbeats 4000000 in
set_option maxRecDepth 100000 in
theorem m_M_undo (l : Launch) (D : va_G) (cA : Nat → ClassId) (sz : Nat) (am : Nat → Nat) (nu ki th ot : Nat → Int32) (vs : Nat → Int64) (av pl ps ts : Nat → Int32) (fr bk : Int32) (ce : Nat → Int32) (co : Nat → Int64) (ro le dn un : Nat → Int32) (hs : Nat → st_T) (ac : Nat → Bool) (n la : Nat) (T : List Int32) (x9 : Int32) (al : Bool) (hI : mI_ (hs, ac, n, la, T) (nu, ki, th, ot, vs, av, pl, ps, ts, fr, bk, ce, co, ro, le, dn, un)) (haI : aI_ (hs, ac, n, la, T)) (hla9 : la + 1 < 100000) : Met l y_M_undo (.code y_M_undo c_M_undo 4 (some .int) :: G_) ({ frames := 4, cells := 0, slots := 0, locals := 95 }) (va_Pc [.ref (am 0), .int x9, .int (b2_ al)] (pm_ D cA (wM cA am (nI n) (nI la) nu ki th ot vs av pl ps (nI T.length) ts fr bk ce co ro le dn un) sz)) (va_Qi (fun (r : Int32) (u : mc_T) => r = (sp_undo (hs, ac, n, la, T) x9 al).1 ∧ mI_ ((sp_undo (hs, ac, n, la, T) x9 al).2) u) (bw_ D (va_A (wM cA am (nI n) (nI la) nu ki th ot vs av pl ps (nI T.length) ts fr bk ce co ro le dn un) sz) (fun u => wY cA am ((sp_undo (hs, ac, n, la, T) x9 al).2) u)) (va_A (wM cA am (nI n) (nI la) nu ki th ot vs av pl ps (nI T.length) ts fr bk ce co ro le dn un) sz)) 0 0 (va_A (wM cA am (nI n) (nI la) nu ki th ot vs av pl ps (nI T.length) ts fr bk ce co ro le dn un) sz) := by
  refine Met.ofW (cc := c_M_undo) (maxL := 4) (ret := (some .int)) (by decide) rfl ?_
  intro p e s m args below meth c s₁ B hml hv
  obtain ⟨rfl, hsz, hP, ⟨hK, hN⟩, hD0⟩ := hv
  have hx := B.exec
  have hb := B.bytes
  have hr := B.returns
  have hts := atoms_spec (ws := (.code y_M_undo c_M_undo 4 (some .int) :: G_)) B.pre
  have hg : ∀ w ∈ G_, w.before ([.ref (am 0), .int x9, .int (b2_ al)] : List Value).toArray s = true := fun w h => hts w (List.mem_cons_of_mem _ h)
  have hown : s.vm.findClass RM = some m.cls := findClass_of_methodNamed B.named
  have hlocks := B.notSynchronized
  subst hsz
  have hD := hD0.self (sz := s.heap.size)
  generalize hAe : va_A (wM cA am (nI n) (nI la) nu ki th ot vs av pl ps (nI T.length) ts fr bk ce co ro le dn un) s.heap.size = A at hD ⊢
  have hA : ∀ q : Nat, s.heap.size ≤ q → A q := fun q h => by rw [← hAe]; exact Or.inr h
  have hS : va_S A s.heap s.heap [] := va_S.rf
  have hl := lv_entry ([.ref (am 0), .int x9, .int (b2_ al)]) (n := 4) (Nat.le_of_ble_eq_true rfl)
  rw [lg_entry_eq]
  generalize (lg_sl ([.ref (am 0), .int x9, .int (b2_ al)]) ++ List.replicate (4 - (lg_sl ([.ref (am 0), .int x9, .int (b2_ al)])).length) Slot.unset).toArray = ls at hl ⊢
  have hl : lv_has ls 4 [(0, .ref (am 0)), (1, .int x9), (2, .int (b2_ al))] := hl
  have hmh : mh_ hs ac n nu ki th ot vs av pl ps := hI.1
  have hT : rl_ ts T := hI.2.1
  have hH : hi_ hs n la := haI.1
  have hn2 : n ≤ 200 := hH.1
  have hT200 : T.length ≤ 200 := haI.2.2
  have hla2 : la < 100000 := hH.2.1
  have hw := rp_mw hH ac (Nat.le_refl n)
  refine lv_aload_n hx hb d_M_undo_0 rfl (lv_at hl 0 rfl) ?_
  refine lv_iload_n hx hb d_M_undo_1 rfl (lv_at hl 1 rfl) ?_
  refine vp_callSi (va_Run.run (va_runV (C := RM) (As := [.int x9]) (rest := []) ⟨hx, hb, hml, hown, hg⟩ (m_M_find l D cA am (nI la) nu ki th ot vs av pl ps (nI T.length) ts fr bk ce co ro le dn un hs ac n x9 hmh hn2) (cwV 1 hg (gd_V ml_M_79 im_M_find sl_M_find ini_M cd_M_find) rfl rfl rfl (by decide +kernel) ⟨Nat.le_of_ble_eq_true rfl, Nat.le_of_ble_eq_true rfl⟩) (pv_r (va_recv (q0 := 0) (ci := 3) hK hP rfl rfl) (hP) hK hN) rfl rfl hl.1 rfl (lv_room (Nat.le_of_ble_eq_true rfl)) d_M_undo_2 ⟨Nat.zero_le _, Nat.zero_le _⟩)) (fun r2 e2 => ?_)
  subst e2
  rcases hfi : fn_ hs n x9 with _ | k
  · skip
    refine toi_ (y := -1) rfl ?_
    refine lv_istore_n (lv' := [(3, .int (-1)), (0, .ref (am 0)), (1, .int x9), (2, .int (b2_ al))]) hx hb d_M_undo_5 rfl hl (by decide) rfl (fun ls hl => ?_)
    refine lv_iload_n hx hb d_M_undo_6 rfl (lv_at hl 0 rfl) ?_
    refine lv_if_lt (tgt := 19) hx hb d_M_undo_7 (by decide) (fun h7 => ?_) (fun h7 => ?_)
    · skip
      refine lv_iconst (v := 0) hx hb d_M_undo_19 (by decide) ?_
      have hsp : sp_undo (hs, ac, n, la, T) x9 al = (0, (hs, ac, n, la, T)) := un_none hfi
      exact W.iret hx hb hr (fun t ht9 hW => ⟨⟨_, (nu, ki, th, ot, vs, av, pl, ps, ts, fr, bk, ce, co, ro, le, dn, un), rfl, ⟨by rw [hsp], by rw [hsp]; exact hI⟩, by rw [ht9, hsp]; exact hP, by rw [hsp]; exact hD⟩, hS.F ht9⟩) hS.2.2 d_M_undo_20
    · skip
      exact absurd (by decide) h7
  · skip
    refine toi_ (y := nI k) rfl ?_
    refine lv_istore_n (lv' := [(3, .int (nI k)), (0, .ref (am 0)), (1, .int x9), (2, .int (b2_ al))]) hx hb d_M_undo_5 rfl hl (by decide) rfl (fun ls hl => ?_)
    refine lv_iload_n hx hb d_M_undo_6 rfl (lv_at hl 0 rfl) ?_
    refine lv_if_lt (tgt := 19) hx hb d_M_undo_7 (by decide) (fun h7 => ?_) (fun h7 => ?_)
    · skip
      exact absurd h7 (nI_pos (by have := (fn_some hfi).1; omega))
    · skip
      have hklt := (fn_some hfi).1
      refine lv_aload_n hx hb d_M_undo_10 rfl (lv_at hl 1 rfl) ?_
      refine va_get (D := D) (ci := 3) (v := .ref (am 6)) (C := RM) (T := TM) (N := 20) hx hb hg inM hown hK hP 0 rfl rfl 7 (by decide) (hg _ fl_M_26) (fun _ h9 => h9) rfl d_M_undo_11 ?_
      refine lv_iload_n hx hb d_M_undo_14 rfl (lv_at hl 0 rfl) ?_
      refine va_zald hx hb hK hP 6 4 rfl rfl (vp_in_nI (n := k) (N := 200) (by omega) (by omega)) d_M_undo_15 ?_
      refine toi_ (y := av k) (by rw [nI_clamp (by omega)]) ?_
      refine toi_ (y := b2_ (ac k)) ((hmh k hklt).2.2.2.2.2.1) ?_
      refine lv_if_ne (tgt := 21) hx hb d_M_undo_16 (by decide) (fun h16 => ?_) (fun h16 => ?_)
      · skip
        have hq1 : ac k = true := b2_n.mp h16
        refine lv_aload_n hx hb d_M_undo_21 rfl (lv_at hl 1 rfl) ?_
        refine lv_aload_n hx hb d_M_undo_22 rfl (lv_at hl 1 rfl) ?_
        refine va_get (D := D) (ci := 3) (v := .int (nI n)) (C := RM) (T := TM) (N := 20) hx hb hg inM hown hK hP 0 rfl rfl 0 (by decide) (hg _ fl_M_65) (fun _ h9 => h9) rfl d_M_undo_23 ?_
        refine lv_iload_n hx hb d_M_undo_26 rfl (lv_at hl 0 rfl) ?_
        refine mu0_v (w := (wM cA am (nI n) (nI la) nu ki th ot vs av pl ps (nI T.length) ts fr bk ce co ro le dn un)) (va_runV (C := RM) (As := [.int (nI n), .int (nI k)]) (rest := []) ⟨hx, hb, hml, hown, hg⟩ (m_M_replay l D cA s.heap.size am (nI la) nu ki th ot vs av pl ps (nI T.length) ts fr bk ce co ro le dn un hs ac n hmh hn2 n (nI k) la (va_up ac k false) hH (Nat.le_refl n) (ac_off hklt hn2)) (cwV 2 hg (gd_V ml_M_106 im_M_replay sl_M_replay ini_M cd_M_replay) rfl rfl rfl (by decide +kernel) ⟨Nat.le_of_ble_eq_true rfl, Nat.le_of_ble_eq_true rfl⟩) (pv_m (va_recv (q0 := 0) (ci := 3) hK hP rfl rfl) hP hK hN hD) rfl rfl hl.1 rfl (lv_room (Nat.le_of_ble_eq_true rfl)) d_M_undo_27 ⟨Nat.zero_le _, Nat.zero_le _⟩) hP hD hS hA (fun u H locs hp hP hD hS => ?_)
        obtain ⟨⟨ce2, co2, ro2, le2, dn2, un2⟩, bk2⟩ := u
        have hmq2 := hp.1
        have hbk2 : bk2 = bo_ (il_ hs (va_up ac k false) n) := hp.2
        have hP : va_P D cls_ (wM cA am (nI n) (nI la) nu ki th ot vs av pl ps (nI T.length) ts 0 bk2 ce2 co2 ro2 le2 dn2 un2) H := hP
        have hD : va_D A (wM cA am (nI n) (nI la) nu ki th ot vs av pl ps (nI T.length) ts 0 bk2 ce2 co2 ro2 le2 dn2 un2) := hD
        have hlen := il_len hs (va_up ac k false) n
        have hlm : ((il_ hs (va_up ac k false) n).map (fun j => s_n (hs j))).length = (il_ hs (va_up ac k false) n).length := List.length_map _
        have loop : ∀ (d i : Nat) (av2 ts2 : Nat → Int32) (bk3 : Int32) (ce3 : Nat → Int32) (co3 : Nat → Int64) (ro3 le3 dn3 un3 : Nat → Int32) (H : Heap) (locs : List Loc) (ls : Array Slot), i + d = (il_ hs (va_up ac k false) n).length → sp_undo (hs, ac, n, la, T) x9 al = (1, (hs, off_ (va_up ac k false) (il_ hs (va_up ac k false) n), n, la, (il_ hs (va_up ac k false) n).map (fun j => s_n (hs j)))) → mh_ hs (off_ (va_up ac k false) ((il_ hs (va_up ac k false) n).take i)) n nu ki th ot vs av2 pl ps → rl_ ts2 (((il_ hs (va_up ac k false) n).take i).map (fun j => s_n (hs j))) → bk3 = bo_ ((il_ hs (va_up ac k false) n).drop i) → va_P D cls_ (wM cA am (nI n) (nI la) nu ki th ot vs av2 pl ps (nI i) ts2 0 bk3 ce3 co3 ro3 le3 dn3 un3) H → va_D A (wM cA am (nI n) (nI la) nu ki th ot vs av2 pl ps (nI i) ts2 0 bk3 ce3 co3 ro3 le3 dn3 un3) → va_S A s.heap H locs → lv_has ls 4 [(3, .int (nI k)), (0, .ref (am 0)), (1, .int x9), (2, .int (b2_ al))] → W p l e (headSpec (.code y_M_undo c_M_undo 4 (some .int) :: G_) ({ frames := 4, cells := 0, slots := 0, locals := 95 })).room s m ([.ref (am 0), .int x9, .int (b2_ al)] : List Value).toArray below meth c H locs 0 0 (MQ below (va_Qi (fun (r : Int32) (u : mc_T) => r = (sp_undo (hs, ac, n, la, T) x9 al).1 ∧ mI_ ((sp_undo (hs, ac, n, la, T) x9 al).2) u) (bw_ D A (fun u => wY cA am ((sp_undo (hs, ac, n, la, T) x9 al).2) u)) A) ([.ref (am 0), .int x9, .int (b2_ al)] : List Value).toArray s 0 0 A) (F0 m 64 ls []) := by
          intro d
          induction d with
          | zero =>
            intro i av2 ts2 bk3 ce3 co3 ro3 le3 dn3 un3 H locs ls hid hsp hm3 hts3 hbk3 hP hD hS hl
            have hi2 : i = (il_ hs (va_up ac k false) n).length := by omega
            rw [hi2, List.take_length] at hm3 hts3
            rw [hi2, List.drop_length] at hbk3
            have hneg : bk3 < 0 := by rw [hbk3]; decide
            refine lv_aload_n hx hb d_M_undo_64 rfl (lv_at hl 1 rfl) ?_
            refine va_get (D := D) (ci := 3) (v := .int bk3) (C := RM) (T := TM) (N := 20) hx hb hg inM hown hK hP 0 rfl rfl 13 (by decide) (hg _ fl_M_43) (fun _ h9 => h9) rfl d_M_undo_65 ?_
            refine lv_if_lt (tgt := 121) hx hb d_M_undo_68 (by decide) (fun h68 => ?_) (fun h68 => ?_)
            · skip
              refine lv_iconst (v := 1) hx hb d_M_undo_121 (by decide) ?_
              rw [hi2, ← hlm] at hP hD
              exact W.iret hx hb hr (fun t ht9 hW => ⟨⟨_, (nu, ki, th, ot, vs, av2, pl, ps, ts2, 0, bk3, ce3, co3, ro3, le3, dn3, un3), rfl, ⟨by rw [hsp], by rw [hsp]; exact ⟨hm3, hts3, Or.inl rfl⟩⟩, by rw [ht9, hsp]; exact hP, by rw [hsp]; exact hD⟩, hS.F ht9⟩) hS.2.2 d_M_undo_122
            · skip
              exact absurd hneg h68
          | succ d ih =>
            intro i av2 ts2 bk3 ce3 co3 ro3 le3 dn3 un3 H locs ls hid hsp hm3 hts3 hbk3 hP hD hS hl
            have hil : i < (il_ hs (va_up ac k false) n).length := by omega
            obtain ⟨hd1, hd2, hd3⟩ := dr_at hil
            have hjn : (il_ hs (va_up ac k false) n).getD i 0 < n := il_lt hd3
            generalize hje : (il_ hs (va_up ac k false) n).getD i 0 = j at hd1 hd2 hd3 hjn
            have hbj : bk3 = nI j := hbk3.trans hd1
            have hoff : va_up (off_ (va_up ac k false) ((il_ hs (va_up ac k false) n).take i)) j false = off_ (va_up ac k false) ((il_ hs (va_up ac k false) n).take (i + 1)) := by rw [off_snoc, hd2]
            have hm4 := mh_flag hm3 j false (v := 0) rfl
            rw [hoff] at hm4
            have hlt3 : (((il_ hs (va_up ac k false) n).take i).map (fun j => s_n (hs j))).length = i := by rw [List.length_map, List.length_take]; omega
            have hts4 := rl_snoc hts3 (s_n (hs j))
            rw [hlt3] at hts4
            have hts5 : rl_ (upd ts2 i (s_n (hs j))) (((il_ hs (va_up ac k false) n).take (i + 1)).map (fun j => s_n (hs j))) := by rw [hd2, List.map_append]; exact hts4
            refine lv_aload_n hx hb d_M_undo_64 rfl (lv_at hl 1 rfl) ?_
            refine va_get (D := D) (ci := 3) (v := .int bk3) (C := RM) (T := TM) (N := 20) hx hb hg inM hown hK hP 0 rfl rfl 13 (by decide) (hg _ fl_M_43) (fun _ h9 => h9) rfl d_M_undo_65 ?_
            refine lv_if_lt (tgt := 121) hx hb d_M_undo_68 (by decide) (fun h68 => ?_) (fun h68 => ?_)
            · skip
              exact absurd h68 (by rw [hbj]; exact nI_pos (by omega))
            · skip
              refine lv_aload_n hx hb d_M_undo_71 rfl (lv_at hl 1 rfl) ?_
              refine va_get (D := D) (ci := 3) (v := .ref (am 6)) (C := RM) (T := TM) (N := 20) hx hb hg inM hown hK hP 0 rfl rfl 7 (by decide) (hg _ fl_M_26) (fun _ h9 => h9) rfl d_M_undo_72 ?_
              refine lv_aload_n hx hb d_M_undo_75 rfl (lv_at hl 1 rfl) ?_
              refine va_get (D := D) (ci := 3) (v := .int bk3) (C := RM) (T := TM) (N := 20) hx hb hg inM hown hK hP 0 rfl rfl 13 (by decide) (hg _ fl_M_43) (fun _ h9 => h9) rfl d_M_undo_76 ?_
              refine toi_ (y := nI j) (hbj) ?_
              refine lv_iconst (v := 0) hx hb d_M_undo_79 (by decide) ?_
              refine va_zast hx hb hK hP hD hS 6 4 rfl rfl (vp_in_nI (n := j) (N := 200) (by omega) (by omega)) d_M_undo_80 (fun H locs hP hD hS => ?_)
              rw [nI_clamp (by omega)] at hP hD
              rw [show vp_nar .boolean 0 = 0 from rfl] at hP hD
              have hP : va_P D cls_ (wM cA am (nI n) (nI la) nu ki th ot vs (upd av2 j 0) pl ps (nI i) ts2 0 bk3 ce3 co3 ro3 le3 dn3 un3) H := hP
              have hD : va_D A (wM cA am (nI n) (nI la) nu ki th ot vs (upd av2 j 0) pl ps (nI i) ts2 0 bk3 ce3 co3 ro3 le3 dn3 un3) := hD
              refine lv_aload_n hx hb d_M_undo_81 rfl (lv_at hl 1 rfl) ?_
              refine va_get (D := D) (ci := 3) (v := .ref (am 9)) (C := RM) (T := TM) (N := 20) hx hb hg inM hown hK hP 0 rfl rfl 11 (by decide) (hg _ fl_M_36) (fun _ h9 => h9) rfl d_M_undo_82 ?_
              refine lv_aload_n hx hb d_M_undo_85 rfl (lv_at hl 1 rfl) ?_
              refine va_get (D := D) (ci := 3) (v := .int (nI i)) (C := RM) (T := TM) (N := 20) hx hb hg inM hown hK hP 0 rfl rfl 10 (by decide) (hg _ fl_M_132) (fun _ h9 => h9) rfl d_M_undo_86 ?_
              refine lv_aload_n hx hb d_M_undo_89 rfl (lv_at hl 1 rfl) ?_
              refine va_get (D := D) (ci := 3) (v := .ref (am 1)) (C := RM) (T := TM) (N := 20) hx hb hg inM hown hK hP 0 rfl rfl 2 (by decide) (hg _ fl_M_7) (fun _ h9 => h9) rfl d_M_undo_90 ?_
              refine lv_aload_n hx hb d_M_undo_93 rfl (lv_at hl 1 rfl) ?_
              refine va_get (D := D) (ci := 3) (v := .int bk3) (C := RM) (T := TM) (N := 20) hx hb hg inM hown hK hP 0 rfl rfl 13 (by decide) (hg _ fl_M_43) (fun _ h9 => h9) rfl d_M_undo_94 ?_
              refine toi_ (y := nI j) (hbj) ?_
              refine va_iald hx hb hK hP 1 0 rfl rfl (vp_in_nI (n := j) (N := 200) (by omega) (by omega)) d_M_undo_97 ?_
              refine toi_ (y := nu j) (by rw [nI_clamp (by omega)]) ?_
              refine toi_ (y := s_n (hs j)) ((hmh j hjn).1) ?_
              refine va_iast hx hb hK hP hD hS 9 0 rfl rfl (vp_in_nI (n := i) (N := 200) (by omega) (by omega)) d_M_undo_98 (fun H locs hP hD hS => ?_)
              rw [nI_clamp (by omega)] at hP hD
              have hP : va_P D cls_ (wM cA am (nI n) (nI la) nu ki th ot vs (upd av2 j 0) pl ps (nI i) (upd ts2 i (s_n (hs j))) 0 bk3 ce3 co3 ro3 le3 dn3 un3) H := hP
              have hD : va_D A (wM cA am (nI n) (nI la) nu ki th ot vs (upd av2 j 0) pl ps (nI i) (upd ts2 i (s_n (hs j))) 0 bk3 ce3 co3 ro3 le3 dn3 un3) := hD
              refine lv_aload_n hx hb d_M_undo_99 rfl (lv_at hl 1 rfl) ?_
              refine lv_dup hx hb d_M_undo_100 rfl ?_
              refine va_get (D := D) (ci := 3) (v := .int (nI i)) (C := RM) (T := TM) (N := 20) hx hb hg inM hown hK hP 0 rfl rfl 10 (by decide) (hg _ fl_M_132) (fun _ h9 => h9) rfl d_M_undo_101 ?_
              refine lv_iconst (v := 1) hx hb d_M_undo_104 (by decide) ?_
              refine lv_iadd hx hb d_M_undo_105 ?_
              refine toi_ (y := nI (i + 1)) (nI_1 i) ?_
              refine va_put (D := D) (ci := 3) (v := .int (nI (i + 1))) (ty := .int) (C := RM) (T := TM) (N := 20) hx hb hg inM tyM okM nmM hown hK hP hD hS 0 rfl rfl 10 (by decide) (hg _ fl_M_132) (fun _ h9 => h9) rfl (by decide +kernel) rfl rfl (Nat.le_of_ble_eq_true rfl) d_M_undo_106 (fun H locs hP hD hS => ?_)
              have hP : va_P D cls_ (wM cA am (nI n) (nI la) nu ki th ot vs (upd av2 j 0) pl ps (nI (i + 1)) (upd ts2 i (s_n (hs j))) 0 bk3 ce3 co3 ro3 le3 dn3 un3) H := hP
              have hD : va_D A (wM cA am (nI n) (nI la) nu ki th ot vs (upd av2 j 0) pl ps (nI (i + 1)) (upd ts2 i (s_n (hs j))) 0 bk3 ce3 co3 ro3 le3 dn3 un3) := hD
              refine lv_aload_n hx hb d_M_undo_109 rfl (lv_at hl 1 rfl) ?_
              refine lv_aload_n hx hb d_M_undo_110 rfl (lv_at hl 1 rfl) ?_
              refine va_get (D := D) (ci := 3) (v := .int (nI n)) (C := RM) (T := TM) (N := 20) hx hb hg inM hown hK hP 0 rfl rfl 0 (by decide) (hg _ fl_M_65) (fun _ h9 => h9) rfl d_M_undo_111 ?_
              refine lv_iconst (v := (-1)) hx hb d_M_undo_114 (by decide) ?_
              refine mu0_v (w := (wM cA am (nI n) (nI la) nu ki th ot vs (upd av2 j 0) pl ps (nI (i + 1)) (upd ts2 i (s_n (hs j))) 0 bk3 ce3 co3 ro3 le3 dn3 un3)) (va_runV (C := RM) (As := [.int (nI n), .int (-1)]) (rest := []) ⟨hx, hb, hml, hown, hg⟩ (m_M_replay l D cA H.size am (nI la) nu ki th ot vs (upd av2 j 0) pl ps (nI (i + 1)) (upd ts2 i (s_n (hs j))) 0 bk3 ce3 co3 ro3 le3 dn3 un3 hs (off_ (va_up ac k false) ((il_ hs (va_up ac k false) n).take (i + 1))) n hm4 hn2 n (-1) la (off_ (va_up ac k false) ((il_ hs (va_up ac k false) n).take (i + 1))) hH (Nat.le_refl n) (ac_all hn2)) (cwV 2 hg (gd_V ml_M_106 im_M_replay sl_M_replay ini_M cd_M_replay) rfl rfl rfl (by decide +kernel) ⟨Nat.le_of_ble_eq_true rfl, Nat.le_of_ble_eq_true rfl⟩) (pv_m (va_recv (q0 := 0) (ci := 3) hK hP rfl rfl) hP hK hN hD) rfl rfl hl.1 rfl (lv_room (Nat.le_of_ble_eq_true rfl)) d_M_undo_115 ⟨Nat.zero_le _, Nat.zero_le _⟩) hP hD hS hA (fun u H locs hp hP hD hS => ?_)
              obtain ⟨⟨ce4, co4, ro4, le4, dn4, un4⟩, bk4⟩ := u
              have hmq4 := hp.1
              have hbk4 : bk4 = bo_ (il_ hs (off_ (va_up ac k false) ((il_ hs (va_up ac k false) n).take (i + 1))) n) := hp.2
              have hP : va_P D cls_ (wM cA am (nI n) (nI la) nu ki th ot vs (upd av2 j 0) pl ps (nI (i + 1)) (upd ts2 i (s_n (hs j))) 0 bk4 ce4 co4 ro4 le4 dn4 un4) H := hP
              have hD : va_D A (wM cA am (nI n) (nI la) nu ki th ot vs (upd av2 j 0) pl ps (nI (i + 1)) (upd ts2 i (s_n (hs j))) 0 bk4 ce4 co4 ro4 le4 dn4 un4) := hD
              refine lv_goto (tgt := 64) hx hb d_M_undo_118 (by decide) ?_
              have hl := lv_sub hl [0, 1, 2, 3] (l' := [(3, .int (nI k)), (0, .ref (am 0)), (1, .int x9), (2, .int (b2_ al))]) rfl
              rw [il_take] at hbk4
              exact ih (i + 1) (upd av2 j 0) (upd ts2 i (s_n (hs j))) bk4 ce4 co4 ro4 le4 dn4 un4 H locs ls (by omega) hsp hm4 hts5 hbk4 hP hD hS hl
        refine lv_aload_n hx hb d_M_undo_30 rfl (lv_at hl 1 rfl) ?_
        refine va_get (D := D) (ci := 3) (v := .int bk2) (C := RM) (T := TM) (N := 20) hx hb hg inM hown hK hP 0 rfl rfl 13 (by decide) (hg _ fl_M_43) (fun _ h9 => h9) rfl d_M_undo_31 ?_
        refine lv_if_lt (tgt := 52) hx hb d_M_undo_34 (by decide) (fun h34 => ?_) (fun h34 => ?_)
        · skip
          have hnil : (il_ hs (va_up ac k false) n) = [] := (bo_neg (fun j hj => by have := il_lt hj; omega)).mp (hbk2 ▸ h34)
          have hcond : ¬ (¬ (il_ hs (va_up ac k false) n) = [] ∧ al = false) := fun h => h.1 hnil
          refine lv_aload_n hx hb d_M_undo_52 rfl (lv_at hl 1 rfl) ?_
          refine va_get (D := D) (ci := 3) (v := .ref (am 6)) (C := RM) (T := TM) (N := 20) hx hb hg inM hown hK hP 0 rfl rfl 7 (by decide) (hg _ fl_M_26) (fun _ h9 => h9) rfl d_M_undo_53 ?_
          refine lv_iload_n hx hb d_M_undo_56 rfl (lv_at hl 0 rfl) ?_
          refine lv_iconst (v := 0) hx hb d_M_undo_57 (by decide) ?_
          refine va_zast hx hb hK hP hD hS 6 4 rfl rfl (vp_in_nI (n := k) (N := 200) (by omega) (by omega)) d_M_undo_58 (fun H locs hP hD hS => ?_)
          rw [nI_clamp (by omega)] at hP hD
          rw [show vp_nar .boolean 0 = 0 from rfl] at hP hD
          have hP : va_P D cls_ (wM cA am (nI n) (nI la) nu ki th ot vs (upd av k 0) pl ps (nI T.length) ts 0 bk2 ce2 co2 ro2 le2 dn2 un2) H := hP
          have hD : va_D A (wM cA am (nI n) (nI la) nu ki th ot vs (upd av k 0) pl ps (nI T.length) ts 0 bk2 ce2 co2 ro2 le2 dn2 un2) := hD
          refine lv_aload_n hx hb d_M_undo_59 rfl (lv_at hl 1 rfl) ?_
          refine lv_iconst (v := 0) hx hb d_M_undo_60 (by decide) ?_
          refine va_put (D := D) (ci := 3) (v := .int 0) (ty := .int) (C := RM) (T := TM) (N := 20) hx hb hg inM tyM okM nmM hown hK hP hD hS 0 rfl rfl 10 (by decide) (hg _ fl_M_132) (fun _ h9 => h9) rfl (by decide +kernel) rfl rfl (Nat.le_of_ble_eq_true rfl) d_M_undo_61 (fun H locs hP hD hS => ?_)
          have hP : va_P D cls_ (wM cA am (nI n) (nI la) nu ki th ot vs (upd av k 0) pl ps 0 ts 0 bk2 ce2 co2 ro2 le2 dn2 un2) H := hP
          have hD : va_D A (wM cA am (nI n) (nI la) nu ki th ot vs (upd av k 0) pl ps 0 ts 0 bk2 ce2 co2 ro2 le2 dn2 un2) := hD
          have hl := lv_sub hl [0, 1, 2, 3] (l' := [(3, .int (nI k)), (0, .ref (am 0)), (1, .int x9), (2, .int (b2_ al))]) rfl
          have hsp : sp_undo (hs, ac, n, la, T) x9 al = (1, (hs, off_ (va_up ac k false) (il_ hs (va_up ac k false) n), n, la, (il_ hs (va_up ac k false) n).map (fun j => s_n (hs j)))) := (un_some (a := (hs, ac, n, la, T)) (k := k) hfi).trans ((if_pos hq1).trans (if_neg hcond))
          have hm2 := mh_flag hmh k false (v := 0) rfl
          rw [← off_nil (va_up ac k false)] at hm2
          exact loop (il_ hs (va_up ac k false) n).length 0 (upd av k 0) ts bk2 ce2 co2 ro2 le2 dn2 un2 H locs ls (by omega) hsp hm2 (fun i hi => absurd hi (Nat.not_lt_zero _)) hbk2 hP hD hS hl
        · skip
          have hne : ¬ (il_ hs (va_up ac k false) n) = [] := fun h => h34 (by rw [hbk2]; exact (bo_neg (fun j hj => by have := il_lt hj; omega)).mpr h)
          have hl1 : 0 < (il_ hs (va_up ac k false) n).length := List.length_pos_iff.mpr hne
          have hi0 := il_0 hl1
          refine lv_iload_n hx hb d_M_undo_37 rfl (lv_at hl 3 rfl) ?_
          refine lv_if_ne (tgt := 52) hx hb d_M_undo_38 (by decide) (fun h38 => ?_) (fun h38 => ?_)
          · skip
            have hal : al = true := b2_n.mp h38
            have hcond : ¬ (¬ (il_ hs (va_up ac k false) n) = [] ∧ al = false) := fun h => by rw [hal] at h; exact absurd h.2 (by decide)
            refine lv_aload_n hx hb d_M_undo_52 rfl (lv_at hl 1 rfl) ?_
            refine va_get (D := D) (ci := 3) (v := .ref (am 6)) (C := RM) (T := TM) (N := 20) hx hb hg inM hown hK hP 0 rfl rfl 7 (by decide) (hg _ fl_M_26) (fun _ h9 => h9) rfl d_M_undo_53 ?_
            refine lv_iload_n hx hb d_M_undo_56 rfl (lv_at hl 0 rfl) ?_
            refine lv_iconst (v := 0) hx hb d_M_undo_57 (by decide) ?_
            refine va_zast hx hb hK hP hD hS 6 4 rfl rfl (vp_in_nI (n := k) (N := 200) (by omega) (by omega)) d_M_undo_58 (fun H locs hP hD hS => ?_)
            rw [nI_clamp (by omega)] at hP hD
            rw [show vp_nar .boolean 0 = 0 from rfl] at hP hD
            have hP : va_P D cls_ (wM cA am (nI n) (nI la) nu ki th ot vs (upd av k 0) pl ps (nI T.length) ts 0 bk2 ce2 co2 ro2 le2 dn2 un2) H := hP
            have hD : va_D A (wM cA am (nI n) (nI la) nu ki th ot vs (upd av k 0) pl ps (nI T.length) ts 0 bk2 ce2 co2 ro2 le2 dn2 un2) := hD
            refine lv_aload_n hx hb d_M_undo_59 rfl (lv_at hl 1 rfl) ?_
            refine lv_iconst (v := 0) hx hb d_M_undo_60 (by decide) ?_
            refine va_put (D := D) (ci := 3) (v := .int 0) (ty := .int) (C := RM) (T := TM) (N := 20) hx hb hg inM tyM okM nmM hown hK hP hD hS 0 rfl rfl 10 (by decide) (hg _ fl_M_132) (fun _ h9 => h9) rfl (by decide +kernel) rfl rfl (Nat.le_of_ble_eq_true rfl) d_M_undo_61 (fun H locs hP hD hS => ?_)
            have hP : va_P D cls_ (wM cA am (nI n) (nI la) nu ki th ot vs (upd av k 0) pl ps 0 ts 0 bk2 ce2 co2 ro2 le2 dn2 un2) H := hP
            have hD : va_D A (wM cA am (nI n) (nI la) nu ki th ot vs (upd av k 0) pl ps 0 ts 0 bk2 ce2 co2 ro2 le2 dn2 un2) := hD
            have hl := lv_sub hl [0, 1, 2, 3] (l' := [(3, .int (nI k)), (0, .ref (am 0)), (1, .int x9), (2, .int (b2_ al))]) rfl
            have hsp : sp_undo (hs, ac, n, la, T) x9 al = (1, (hs, off_ (va_up ac k false) (il_ hs (va_up ac k false) n), n, la, (il_ hs (va_up ac k false) n).map (fun j => s_n (hs j)))) := (un_some (a := (hs, ac, n, la, T)) (k := k) hfi).trans ((if_pos hq1).trans (if_neg hcond))
            have hm2 := mh_flag hmh k false (v := 0) rfl
            rw [← off_nil (va_up ac k false)] at hm2
            exact loop (il_ hs (va_up ac k false) n).length 0 (upd av k 0) ts bk2 ce2 co2 ro2 le2 dn2 un2 H locs ls (by omega) hsp hm2 (fun i hi => absurd hi (Nat.not_lt_zero _)) hbk2 hP hD hS hl
          · skip
            have hal : al = false := b2_0.mp h38
            refine lv_aload_n hx hb d_M_undo_41 rfl (lv_at hl 1 rfl) ?_
            refine va_get (D := D) (ci := 3) (v := .ref (am 1)) (C := RM) (T := TM) (N := 20) hx hb hg inM hown hK hP 0 rfl rfl 2 (by decide) (hg _ fl_M_7) (fun _ h9 => h9) rfl d_M_undo_42 ?_
            refine lv_aload_n hx hb d_M_undo_45 rfl (lv_at hl 1 rfl) ?_
            refine va_get (D := D) (ci := 3) (v := .int bk2) (C := RM) (T := TM) (N := 20) hx hb hg inM hown hK hP 0 rfl rfl 13 (by decide) (hg _ fl_M_43) (fun _ h9 => h9) rfl d_M_undo_46 ?_
            refine toi_ (y := nI ((il_ hs (va_up ac k false) n).getD 0 0)) (hbk2.trans (bo_at hne)) ?_
            refine va_iald hx hb hK hP 1 0 rfl rfl (vp_in_nI (n := (il_ hs (va_up ac k false) n).getD 0 0) (N := 200) (by omega) (by omega)) d_M_undo_49 ?_
            refine toi_ (y := nu ((il_ hs (va_up ac k false) n).getD 0 0)) (by rw [nI_clamp (by omega)]) ?_
            refine toi_ (y := s_n (hs ((il_ hs (va_up ac k false) n).getD 0 0))) ((hmh _ hi0).1) ?_
            refine lv_ineg hx hb d_M_undo_50 ?_
            have hsp : sp_undo (hs, ac, n, la, T) x9 al = (-(s_n (hs ((il_ hs (va_up ac k false) n).getD 0 0))), (hs, ac, n, la, T)) := (un_some (a := (hs, ac, n, la, T)) (k := k) hfi).trans ((if_pos hq1).trans (if_pos ⟨hne, hal⟩))
            exact W.iret hx hb hr (fun t ht9 hW => ⟨⟨_, (nu, ki, th, ot, vs, av, pl, ps, ts, 0, bk2, ce2, co2, ro2, le2, dn2, un2), rfl, ⟨by rw [hsp], by rw [hsp]; exact ⟨hmh, hT, Or.inl rfl⟩⟩, by rw [ht9, hsp]; exact hP, by rw [hsp]; exact hD⟩, hS.F ht9⟩) hS.2.2 d_M_undo_51
      · skip
        have hq1 : ac k = false := b2_0.mp h16
        refine lv_iconst (v := 0) hx hb d_M_undo_19 (by decide) ?_
        have hsp : sp_undo (hs, ac, n, la, T) x9 al = (0, (hs, ac, n, la, T)) := (un_some (a := (hs, ac, n, la, T)) (k := k) hfi).trans (if_neg (by change ¬ ac k = true; rw [hq1]; decide))
        exact W.iret hx hb hr (fun t ht9 hW => ⟨⟨_, (nu, ki, th, ot, vs, av, pl, ps, ts, fr, bk, ce, co, ro, le, dn, un), rfl, ⟨by rw [hsp], by rw [hsp]; exact hI⟩, by rw [ht9, hsp]; exact hP, by rw [hsp]; exact hD⟩, hS.F ht9⟩) hS.2.2 d_M_undo_20

set_option maxHeartbeats 4000000 in
set_option maxRecDepth 100000 in
theorem m_M_redo (l : Launch) (D : va_G) (cA : Nat → ClassId) (sz : Nat) (am : Nat → Nat) (nu ki th ot : Nat → Int32) (vs : Nat → Int64) (av pl ps ts : Nat → Int32) (fr bk : Int32) (ce : Nat → Int32) (co : Nat → Int64) (ro le dn un : Nat → Int32) (hs : Nat → st_T) (ac : Nat → Bool) (n la : Nat) (T : List Int32) (x9 : Int32) (hI : mI_ (hs, ac, n, la, T) (nu, ki, th, ot, vs, av, pl, ps, ts, fr, bk, ce, co, ro, le, dn, un)) (haI : aI_ (hs, ac, n, la, T)) (hla9 : la + 1 < 100000) : Met l y_M_redo (.code y_M_redo c_M_redo 3 (some .int) :: G_) ({ frames := 4, cells := 0, slots := 0, locals := 95 }) (va_Pc [.ref (am 0), .int x9] (pm_ D cA (wM cA am (nI n) (nI la) nu ki th ot vs av pl ps (nI T.length) ts fr bk ce co ro le dn un) sz)) (va_Qi (fun (r : Int32) (u : mc_T) => r = (sp_redo (hs, ac, n, la, T) x9).1 ∧ mI_ ((sp_redo (hs, ac, n, la, T) x9).2) u) (bw_ D (va_A (wM cA am (nI n) (nI la) nu ki th ot vs av pl ps (nI T.length) ts fr bk ce co ro le dn un) sz) (fun u => wY cA am ((sp_redo (hs, ac, n, la, T) x9).2) u)) (va_A (wM cA am (nI n) (nI la) nu ki th ot vs av pl ps (nI T.length) ts fr bk ce co ro le dn un) sz)) 0 0 (va_A (wM cA am (nI n) (nI la) nu ki th ot vs av pl ps (nI T.length) ts fr bk ce co ro le dn un) sz) := by
  refine Met.ofW (cc := c_M_redo) (maxL := 3) (ret := (some .int)) (by decide) rfl ?_
  intro p e s m args below meth c s₁ B hml hv
  obtain ⟨rfl, hsz, hP, ⟨hK, hN⟩, hD0⟩ := hv
  have hx := B.exec
  have hb := B.bytes
  have hr := B.returns
  have hts := atoms_spec (ws := (.code y_M_redo c_M_redo 3 (some .int) :: G_)) B.pre
  have hg : ∀ w ∈ G_, w.before ([.ref (am 0), .int x9] : List Value).toArray s = true := fun w h => hts w (List.mem_cons_of_mem _ h)
  have hown : s.vm.findClass RM = some m.cls := findClass_of_methodNamed B.named
  have hlocks := B.notSynchronized
  subst hsz
  have hD := hD0.self (sz := s.heap.size)
  generalize hAe : va_A (wM cA am (nI n) (nI la) nu ki th ot vs av pl ps (nI T.length) ts fr bk ce co ro le dn un) s.heap.size = A at hD ⊢
  have hA : ∀ q : Nat, s.heap.size ≤ q → A q := fun q h => by rw [← hAe]; exact Or.inr h
  have hS : va_S A s.heap s.heap [] := va_S.rf
  have hl := lv_entry ([.ref (am 0), .int x9]) (n := 3) (Nat.le_of_ble_eq_true rfl)
  rw [lg_entry_eq]
  generalize (lg_sl ([.ref (am 0), .int x9]) ++ List.replicate (3 - (lg_sl ([.ref (am 0), .int x9])).length) Slot.unset).toArray = ls at hl ⊢
  have hl : lv_has ls 3 [(0, .ref (am 0)), (1, .int x9)] := hl
  have hmh : mh_ hs ac n nu ki th ot vs av pl ps := hI.1
  have hT : rl_ ts T := hI.2.1
  have hH : hi_ hs n la := haI.1
  have hn2 : n ≤ 200 := hH.1
  have hT200 : T.length ≤ 200 := haI.2.2
  have hla2 : la < 100000 := hH.2.1
  have hw := rp_mw hH ac (Nat.le_refl n)
  refine lv_aload_n hx hb d_M_redo_0 rfl (lv_at hl 0 rfl) ?_
  refine lv_iload_n hx hb d_M_redo_1 rfl (lv_at hl 1 rfl) ?_
  refine vp_callSi (va_Run.run (va_runV (C := RM) (As := [.int x9]) (rest := []) ⟨hx, hb, hml, hown, hg⟩ (m_M_find l D cA am (nI la) nu ki th ot vs av pl ps (nI T.length) ts fr bk ce co ro le dn un hs ac n x9 hmh hn2) (cwV 1 hg (gd_V ml_M_79 im_M_find sl_M_find ini_M cd_M_find) rfl rfl rfl (by decide +kernel) ⟨Nat.le_of_ble_eq_true rfl, Nat.le_of_ble_eq_true rfl⟩) (pv_r (va_recv (q0 := 0) (ci := 3) hK hP rfl rfl) (hP) hK hN) rfl rfl hl.1 rfl (lv_room (Nat.le_of_ble_eq_true rfl)) d_M_redo_2 ⟨Nat.zero_le _, Nat.zero_le _⟩)) (fun r2 e2 => ?_)
  subst e2
  rcases hfi : fn_ hs n x9 with _ | k
  · skip
    refine toi_ (y := -1) rfl ?_
    refine lv_istore_n (lv' := [(2, .int (-1)), (0, .ref (am 0)), (1, .int x9)]) hx hb d_M_redo_5 rfl hl (by decide) rfl (fun ls hl => ?_)
    refine lv_iload_n hx hb d_M_redo_6 rfl (lv_at hl 0 rfl) ?_
    refine lv_if_lt (tgt := 19) hx hb d_M_redo_7 (by decide) (fun h7 => ?_) (fun h7 => ?_)
    · skip
      refine lv_iconst (v := 0) hx hb d_M_redo_19 (by decide) ?_
      have hsp : sp_redo (hs, ac, n, la, T) x9 = (0, (hs, ac, n, la, T)) := re_none hfi
      exact W.iret hx hb hr (fun t ht9 hW => ⟨⟨_, (nu, ki, th, ot, vs, av, pl, ps, ts, fr, bk, ce, co, ro, le, dn, un), rfl, ⟨by rw [hsp], by rw [hsp]; exact hI⟩, by rw [ht9, hsp]; exact hP, by rw [hsp]; exact hD⟩, hS.F ht9⟩) hS.2.2 d_M_redo_20
    · skip
      exact absurd (by decide) h7
  · skip
    refine toi_ (y := nI k) rfl ?_
    refine lv_istore_n (lv' := [(2, .int (nI k)), (0, .ref (am 0)), (1, .int x9)]) hx hb d_M_redo_5 rfl hl (by decide) rfl (fun ls hl => ?_)
    refine lv_iload_n hx hb d_M_redo_6 rfl (lv_at hl 0 rfl) ?_
    refine lv_if_lt (tgt := 19) hx hb d_M_redo_7 (by decide) (fun h7 => ?_) (fun h7 => ?_)
    · skip
      exact absurd h7 (nI_pos (by have := (fn_some hfi).1; omega))
    · skip
      have hklt := (fn_some hfi).1
      refine lv_aload_n hx hb d_M_redo_10 rfl (lv_at hl 1 rfl) ?_
      refine va_get (D := D) (ci := 3) (v := .ref (am 6)) (C := RM) (T := TM) (N := 20) hx hb hg inM hown hK hP 0 rfl rfl 7 (by decide) (hg _ fl_M_26) (fun _ h9 => h9) rfl d_M_redo_11 ?_
      refine lv_iload_n hx hb d_M_redo_14 rfl (lv_at hl 0 rfl) ?_
      refine va_zald hx hb hK hP 6 4 rfl rfl (vp_in_nI (n := k) (N := 200) (by omega) (by omega)) d_M_redo_15 ?_
      refine toi_ (y := av k) (by rw [nI_clamp (by omega)]) ?_
      refine toi_ (y := b2_ (ac k)) ((hmh k hklt).2.2.2.2.2.1) ?_
      refine lv_if_eq (tgt := 21) hx hb d_M_redo_16 (by decide) (fun h16 => ?_) (fun h16 => ?_)
      · skip
        have hq1 : ac k = false := b2_0.mp h16
        have hm2 := mh_flag hmh k true (v := 1) rfl
        refine lv_aload_n hx hb d_M_redo_21 rfl (lv_at hl 1 rfl) ?_
        refine va_get (D := D) (ci := 3) (v := .ref (am 6)) (C := RM) (T := TM) (N := 20) hx hb hg inM hown hK hP 0 rfl rfl 7 (by decide) (hg _ fl_M_26) (fun _ h9 => h9) rfl d_M_redo_22 ?_
        refine lv_iload_n hx hb d_M_redo_25 rfl (lv_at hl 0 rfl) ?_
        refine lv_iconst (v := 1) hx hb d_M_redo_26 (by decide) ?_
        refine va_zast hx hb hK hP hD hS 6 4 rfl rfl (vp_in_nI (n := k) (N := 200) (by omega) (by omega)) d_M_redo_27 (fun H locs hP hD hS => ?_)
        rw [nI_clamp (by omega)] at hP hD
        rw [show vp_nar .boolean 1 = 1 from rfl] at hP hD
        have hP : va_P D cls_ (wM cA am (nI n) (nI la) nu ki th ot vs (upd av k 1) pl ps (nI T.length) ts fr bk ce co ro le dn un) H := hP
        have hD : va_D A (wM cA am (nI n) (nI la) nu ki th ot vs (upd av k 1) pl ps (nI T.length) ts fr bk ce co ro le dn un) := hD
        refine lv_aload_n hx hb d_M_redo_28 rfl (lv_at hl 1 rfl) ?_
        refine lv_aload_n hx hb d_M_redo_29 rfl (lv_at hl 1 rfl) ?_
        refine va_get (D := D) (ci := 3) (v := .int (nI n)) (C := RM) (T := TM) (N := 20) hx hb hg inM hown hK hP 0 rfl rfl 0 (by decide) (hg _ fl_M_65) (fun _ h9 => h9) rfl d_M_redo_30 ?_
        refine lv_iconst (v := (-1)) hx hb d_M_redo_33 (by decide) ?_
        refine mu0_v (w := (wM cA am (nI n) (nI la) nu ki th ot vs (upd av k 1) pl ps (nI T.length) ts fr bk ce co ro le dn un)) (va_runV (C := RM) (As := [.int (nI n), .int (-1)]) (rest := []) ⟨hx, hb, hml, hown, hg⟩ (m_M_replay l D cA H.size am (nI la) nu ki th ot vs (upd av k 1) pl ps (nI T.length) ts fr bk ce co ro le dn un hs (va_up ac k true) n hm2 hn2 n (-1) la (va_up ac k true) hH (Nat.le_refl n) (ac_all hn2)) (cwV 2 hg (gd_V ml_M_106 im_M_replay sl_M_replay ini_M cd_M_replay) rfl rfl rfl (by decide +kernel) ⟨Nat.le_of_ble_eq_true rfl, Nat.le_of_ble_eq_true rfl⟩) (pv_m (va_recv (q0 := 0) (ci := 3) hK hP rfl rfl) hP hK hN hD) rfl rfl hl.1 rfl (lv_room (Nat.le_of_ble_eq_true rfl)) d_M_redo_34 ⟨Nat.zero_le _, Nat.zero_le _⟩) hP hD hS hA (fun u H locs hp hP hD hS => ?_)
        obtain ⟨⟨ce2, co2, ro2, le2, dn2, un2⟩, bk2⟩ := u
        have hmq2 := hp.1
        have hbk2 : bk2 = bo_ (il_ hs (va_up ac k true) n) := hp.2
        have hP : va_P D cls_ (wM cA am (nI n) (nI la) nu ki th ot vs (upd av k 1) pl ps (nI T.length) ts 0 bk2 ce2 co2 ro2 le2 dn2 un2) H := hP
        have hD : va_D A (wM cA am (nI n) (nI la) nu ki th ot vs (upd av k 1) pl ps (nI T.length) ts 0 bk2 ce2 co2 ro2 le2 dn2 un2) := hD
        refine lv_aload_n hx hb d_M_redo_37 rfl (lv_at hl 1 rfl) ?_
        refine va_get (D := D) (ci := 3) (v := .int bk2) (C := RM) (T := TM) (N := 20) hx hb hg inM hown hK hP 0 rfl rfl 13 (by decide) (hg _ fl_M_43) (fun _ h9 => h9) rfl d_M_redo_38 ?_
        refine lv_if_ge (tgt := 46) hx hb d_M_redo_41 (by decide) (fun h41 => ?_) (fun h41 => ?_)
        · skip
          have hne : ¬ (il_ hs (va_up ac k true) n) = [] := fun h => by rw [hbk2, h] at h41; exact absurd h41 (by decide)
          have hl1 : 0 < (il_ hs (va_up ac k true) n).length := List.length_pos_iff.mpr hne
          have hi0 := il_0 hl1
          have hm3 := mh_flag hm2 k false (v := 0) rfl
          rw [up_back hq1] at hm3
          refine lv_aload_n hx hb d_M_redo_46 rfl (lv_at hl 1 rfl) ?_
          refine va_get (D := D) (ci := 3) (v := .ref (am 6)) (C := RM) (T := TM) (N := 20) hx hb hg inM hown hK hP 0 rfl rfl 7 (by decide) (hg _ fl_M_26) (fun _ h9 => h9) rfl d_M_redo_47 ?_
          refine lv_iload_n hx hb d_M_redo_50 rfl (lv_at hl 0 rfl) ?_
          refine lv_iconst (v := 0) hx hb d_M_redo_51 (by decide) ?_
          refine va_zast hx hb hK hP hD hS 6 4 rfl rfl (vp_in_nI (n := k) (N := 200) (by omega) (by omega)) d_M_redo_52 (fun H locs hP hD hS => ?_)
          rw [nI_clamp (by omega)] at hP hD
          rw [show vp_nar .boolean 0 = 0 from rfl] at hP hD
          have hP : va_P D cls_ (wM cA am (nI n) (nI la) nu ki th ot vs (upd (upd av k 1) k 0) pl ps (nI T.length) ts 0 bk2 ce2 co2 ro2 le2 dn2 un2) H := hP
          have hD : va_D A (wM cA am (nI n) (nI la) nu ki th ot vs (upd (upd av k 1) k 0) pl ps (nI T.length) ts 0 bk2 ce2 co2 ro2 le2 dn2 un2) := hD
          refine lv_aload_n hx hb d_M_redo_53 rfl (lv_at hl 1 rfl) ?_
          refine va_get (D := D) (ci := 3) (v := .ref (am 1)) (C := RM) (T := TM) (N := 20) hx hb hg inM hown hK hP 0 rfl rfl 2 (by decide) (hg _ fl_M_7) (fun _ h9 => h9) rfl d_M_redo_54 ?_
          refine lv_aload_n hx hb d_M_redo_57 rfl (lv_at hl 1 rfl) ?_
          refine va_get (D := D) (ci := 3) (v := .int bk2) (C := RM) (T := TM) (N := 20) hx hb hg inM hown hK hP 0 rfl rfl 13 (by decide) (hg _ fl_M_43) (fun _ h9 => h9) rfl d_M_redo_58 ?_
          refine toi_ (y := nI ((il_ hs (va_up ac k true) n).getD 0 0)) (hbk2.trans (bo_at hne)) ?_
          refine va_iald hx hb hK hP 1 0 rfl rfl (vp_in_nI (n := (il_ hs (va_up ac k true) n).getD 0 0) (N := 200) (by omega) (by omega)) d_M_redo_61 ?_
          refine toi_ (y := nu ((il_ hs (va_up ac k true) n).getD 0 0)) (by rw [nI_clamp (by omega)]) ?_
          refine toi_ (y := s_n (hs ((il_ hs (va_up ac k true) n).getD 0 0))) ((hmh _ hi0).1) ?_
          refine lv_ineg hx hb d_M_redo_62 ?_
          have hsp : sp_redo (hs, ac, n, la, T) x9 = (-(s_n (hs ((il_ hs (va_up ac k true) n).getD 0 0))), (hs, ac, n, la, T)) := (re_some (a := (hs, ac, n, la, T)) (k := k) hfi).trans ((if_neg (by change ¬ ac k = true; rw [hq1]; decide)).trans (if_neg hne))
          exact W.iret hx hb hr (fun t ht9 hW => ⟨⟨_, (nu, ki, th, ot, vs, upd (upd av k 1) k 0, pl, ps, ts, 0, bk2, ce2, co2, ro2, le2, dn2, un2), rfl, ⟨by rw [hsp], by rw [hsp]; exact ⟨hm3, hT, Or.inl rfl⟩⟩, by rw [ht9, hsp]; exact hP, by rw [hsp]; exact hD⟩, hS.F ht9⟩) hS.2.2 d_M_redo_63
        · skip
          have hnil : (il_ hs (va_up ac k true) n) = [] := by
            refine (bo_neg (fun j hj => by have := il_lt hj; omega)).mp ?_
            rw [← hbk2, Int32.lt_iff_toInt_lt]
            rw [Int32.le_iff_toInt_le] at h41
            omega
          refine lv_iconst (v := 1) hx hb d_M_redo_44 (by decide) ?_
          have hsp : sp_redo (hs, ac, n, la, T) x9 = (1, (hs, (va_up ac k true), n, la, T)) := (re_some (a := (hs, ac, n, la, T)) (k := k) hfi).trans ((if_neg (by change ¬ ac k = true; rw [hq1]; decide)).trans (if_pos hnil))
          exact W.iret hx hb hr (fun t ht9 hW => ⟨⟨_, (nu, ki, th, ot, vs, upd av k 1, pl, ps, ts, 0, bk2, ce2, co2, ro2, le2, dn2, un2), rfl, ⟨by rw [hsp], by rw [hsp]; exact ⟨hm2, hT, Or.inl rfl⟩⟩, by rw [ht9, hsp]; exact hP, by rw [hsp]; exact hD⟩, hS.F ht9⟩) hS.2.2 d_M_redo_45
      · skip
        have hq1 : ac k = true := b2_n.mp h16
        refine lv_iconst (v := 0) hx hb d_M_redo_19 (by decide) ?_
        have hsp : sp_redo (hs, ac, n, la, T) x9 = (0, (hs, ac, n, la, T)) := (re_some (a := (hs, ac, n, la, T)) (k := k) hfi).trans (if_pos hq1)
        exact W.iret hx hb hr (fun t ht9 hW => ⟨⟨_, (nu, ki, th, ot, vs, av, pl, ps, ts, fr, bk, ce, co, ro, le, dn, un), rfl, ⟨by rw [hsp], by rw [hsp]; exact hI⟩, by rw [ht9, hsp]; exact hP, by rw [hsp]; exact hD⟩, hS.F ht9⟩) hS.2.2 d_M_redo_20
