/-! The reference: squash, the constructor -/
def mrow_ (x : st_T) (b : Bool) (nu ki th ot : Nat → Int32) (vs : Nat → Int64) (av pl ps : Nat → Int32) (i : Nat) : Prop := nu i = s_n x ∧ ki i = s_k x ∧ th i = s_t x ∧ ot i = s_m x ∧ vs i = s_a x ∧ av i = b2_ b ∧ (s_k x = 3 ∨ s_k x = 5 → ps i = nI (s_p x).length ∧ rl_ (fun j => pl (40 * i + j)) (s_p x))
theorem mr_keep {x : st_T} {b : Bool} {nu ki th ot : Nat → Int32} {vs : Nat → Int64} {av pl ps : Nat → Int32} {p j : Nat} {pl2 : Nat → Int32} (h : mrow_ x b nu ki th ot vs av pl ps j) (hj : j ≠ p) (h40 : (s_p x).length ≤ 40) (hpl : ∀ t, t < 40 * p ∨ 40 * p + 40 ≤ t → pl2 t = pl t) (v1 v2 v3 v4 : Int32) (v5 : Int64) (v6 v7 : Int32) : mrow_ x b (upd nu p v1) (upd ki p v2) (upd th p v3) (upd ot p v4) (vp_updL vs p v5) (upd av p v6) pl2 (upd ps p v7) j := by
  obtain ⟨h1, h2, h3, h4, h5, h6, h7⟩ := h
  unfold mrow_
  rw [pk_un hj, pk_un hj, pk_un hj, pk_un hj, pk_uLn hj, pk_un hj, pk_un hj]
  refine ⟨h1, h2, h3, h4, h5, h6, fun hk => ⟨(h7 hk).1, fun t ht => ?_⟩⟩
  show _ = some (pl2 (40 * j + t))
  rw [hpl _ (rq_out hj (by omega))]
  exact (h7 hk).2 t ht
theorem mr_copy {x : st_T} {b : Bool} {nu ki th ot : Nat → Int32} {vs : Nat → Int64} {av pl ps : Nat → Int32} {p i : Nat} {pl2 : Nat → Int32} (h : mrow_ x b nu ki th ot vs av pl ps i) (h40 : (s_p x).length ≤ 40) (hpl : ∀ t, t < 40 → pl2 (40 * p + t) = pl (40 * i + t)) : mrow_ x true (upd nu p (nu i)) (upd ki p (ki i)) (upd th p (th i)) (upd ot p (ot i)) (vp_updL vs p (vs i)) (upd av p 1) pl2 (upd ps p (ps i)) p := by
  obtain ⟨h1, h2, h3, h4, h5, h6, h7⟩ := h
  unfold mrow_
  rw [pk_us, pk_us, pk_us, pk_us, pk_uLs, pk_us, pk_us]
  refine ⟨h1, h2, h3, h4, h5, rfl, fun hk => ⟨(h7 hk).1, fun t ht => ?_⟩⟩
  show _ = some (pl2 (40 * p + t))
  rw [hpl t (by omega)]
  exact (h7 hk).2 t ht
theorem hq_same {hs : Nat → st_T} {ac : Nat → Bool} {i j : Nat} (hj : j < (al_ ac i).length) : hq_ hs ac (i + 1) j = hq_ hs ac i j := by
  unfold hq_
  rw [al_get (Nat.le_succ i) hj]
theorem hq_top {hs : Nat → st_T} {ac : Nat → Bool} {i : Nat} (h : ac i = true) : hq_ hs ac (i + 1) (al_ ac i).length = hs i := by
  unfold hq_
  rw [al_top h (Nat.lt_succ_self i)]

set_option maxHeartbeats 4000000 in
set_option maxRecDepth 100000 in
theorem m_M_squash (l : Launch) (D : va_G) (cA : Nat → ClassId) (sz : Nat) (am : Nat → Nat) (nu ki th ot : Nat → Int32) (vs : Nat → Int64) (av pl ps ts : Nat → Int32) (fr bk : Int32) (ce : Nat → Int32) (co : Nat → Int64) (ro le dn un : Nat → Int32) (hs : Nat → st_T) (ac : Nat → Bool) (n la : Nat) (T : List Int32) (hI : mI_ (hs, ac, n, la, T) (nu, ki, th, ot, vs, av, pl, ps, ts, fr, bk, ce, co, ro, le, dn, un)) (haI : aI_ (hs, ac, n, la, T)) (hla9 : la + 1 < 100000) : Met l y_M_squash (.code y_M_squash c_M_squash 4 (some .int) :: G_) ({ frames := 0, cells := 0, slots := 0, locals := 0 }) (va_Pc [.ref (am 0)] (pm_ D cA (wM cA am (nI n) (nI la) nu ki th ot vs av pl ps (nI T.length) ts fr bk ce co ro le dn un) sz)) (va_Qi (fun (r : Int32) (u : mc_T) => r = (sp_squash (hs, ac, n, la, T)).1 ∧ mI_ ((sp_squash (hs, ac, n, la, T)).2) u) (bw_ D (va_A (wM cA am (nI n) (nI la) nu ki th ot vs av pl ps (nI T.length) ts fr bk ce co ro le dn un) sz) (fun u => wY cA am ((sp_squash (hs, ac, n, la, T)).2) u)) (va_A (wM cA am (nI n) (nI la) nu ki th ot vs av pl ps (nI T.length) ts fr bk ce co ro le dn un) sz)) 0 0 (va_A (wM cA am (nI n) (nI la) nu ki th ot vs av pl ps (nI T.length) ts fr bk ce co ro le dn un) sz) := by
  refine Met.ofW (cc := c_M_squash) (maxL := 4) (ret := (some .int)) (by decide) rfl ?_
  intro p e s m args below meth c s₁ B hml hv
  obtain ⟨rfl, hsz, hP, ⟨hK, hN⟩, hD0⟩ := hv
  have hx := B.exec
  have hb := B.bytes
  have hr := B.returns
  have hts := atoms_spec (ws := (.code y_M_squash c_M_squash 4 (some .int) :: G_)) B.pre
  have hg : ∀ w ∈ G_, w.before ([.ref (am 0)] : List Value).toArray s = true := fun w h => hts w (List.mem_cons_of_mem _ h)
  have hown : s.vm.findClass RM = some m.cls := findClass_of_methodNamed B.named
  have hlocks := B.notSynchronized
  subst hsz
  have hD := hD0.self (sz := s.heap.size)
  generalize hAe : va_A (wM cA am (nI n) (nI la) nu ki th ot vs av pl ps (nI T.length) ts fr bk ce co ro le dn un) s.heap.size = A at hD ⊢
  have hA : ∀ q : Nat, s.heap.size ≤ q → A q := fun q h => by rw [← hAe]; exact Or.inr h
  have hS : va_S A s.heap s.heap [] := va_S.rf
  have hl := lv_entry ([.ref (am 0)]) (n := 4) (Nat.le_of_ble_eq_true rfl)
  rw [lg_entry_eq]
  generalize (lg_sl ([.ref (am 0)]) ++ List.replicate (4 - (lg_sl ([.ref (am 0)])).length) Slot.unset).toArray = ls at hl ⊢
  have hl : lv_has ls 4 [(0, .ref (am 0))] := hl
  have hmh : mh_ hs ac n nu ki th ot vs av pl ps := hI.1
  have hT : rl_ ts T := hI.2.1
  have hH : hi_ hs n la := haI.1
  have hn2 : n ≤ 200 := hH.1
  have hT200 : T.length ≤ 200 := haI.2.2
  have hla2 : la < 100000 := hH.2.1
  have hw := rp_mw hH ac (Nat.le_refl n)
  have loop : ∀ (d i : Nat) (nu1 ki1 th1 ot1 : Nat → Int32) (vs1 : Nat → Int64) (av1 pl1 ps1 : Nat → Int32) (H : Heap) (locs : List Loc) (ls : Array Slot), i + d = n → (∀ j, j < (al_ ac i).length → mrow_ (hq_ hs ac i j) true nu1 ki1 th1 ot1 vs1 av1 pl1 ps1 j) → (∀ j, i ≤ j → j < n → mrow_ (hs j) (ac j) nu1 ki1 th1 ot1 vs1 av1 pl1 ps1 j) → va_P D cls_ (wM cA am (nI n) (nI la) nu1 ki1 th1 ot1 vs1 av1 pl1 ps1 (nI T.length) ts fr bk ce co ro le dn un) H → va_D A (wM cA am (nI n) (nI la) nu1 ki1 th1 ot1 vs1 av1 pl1 ps1 (nI T.length) ts fr bk ce co ro le dn un) → va_S A s.heap H locs → lv_has ls 4 [(2, .int (nI i)), (1, .int (nI ((al_ ac i).length))), (0, .ref (am 0))] → W p l e (headSpec (.code y_M_squash c_M_squash 4 (some .int) :: G_) ({ frames := 0, cells := 0, slots := 0, locals := 0 })).room s m ([.ref (am 0)] : List Value).toArray below meth c H locs 0 0 (MQ below (va_Qi (fun (r : Int32) (u : mc_T) => r = (sp_squash (hs, ac, n, la, T)).1 ∧ mI_ ((sp_squash (hs, ac, n, la, T)).2) u) (bw_ D A (fun u => wY cA am ((sp_squash (hs, ac, n, la, T)).2) u)) A) ([.ref (am 0)] : List Value).toArray s 0 0 A) (F0 m 4 ls []) := by
    intro d
    induction d with
    | zero =>
      intro i nu1 ki1 th1 ot1 vs1 av1 pl1 ps1 H locs ls hid hlo hhi hP hD hS hl
      have hi2 : i = n := by omega
      rw [hi2] at hl hlo
      refine lv_iload_n hx hb d_M_squash_4 rfl (lv_at hl 0 rfl) ?_
      refine lv_aload_n hx hb d_M_squash_5 rfl (lv_at hl 2 rfl) ?_
      refine va_get (D := D) (ci := 3) (v := .int (nI n)) (C := RM) (T := TM) (N := 20) hx hb hg inM hown hK hP 0 rfl rfl 0 (by decide) (hg _ fl_M_65) (fun _ h9 => h9) rfl d_M_squash_6 ?_
      refine lv_icmp_ge (tgt := 148) hx hb d_M_squash_9 (by decide) (fun h9 => ?_) (fun h9 => ?_)
      · skip
        refine lv_aload_n hx hb d_M_squash_148 rfl (lv_at hl 2 rfl) ?_
        refine lv_iload_n hx hb d_M_squash_149 rfl (lv_at hl 1 rfl) ?_
        refine va_put (D := D) (ci := 3) (v := .int (nI ((al_ ac n).length))) (ty := .int) (C := RM) (T := TM) (N := 20) hx hb hg inM tyM okM nmM hown hK hP hD hS 0 rfl rfl 0 (by decide) (hg _ fl_M_65) (fun _ h9 => h9) rfl (by decide +kernel) rfl rfl (Nat.le_of_ble_eq_true rfl) d_M_squash_150 (fun H locs hP hD hS => ?_)
        have hP : va_P D cls_ (wM cA am (nI ((al_ ac n).length)) (nI la) nu1 ki1 th1 ot1 vs1 av1 pl1 ps1 (nI T.length) ts fr bk ce co ro le dn un) H := hP
        have hD : va_D A (wM cA am (nI ((al_ ac n).length)) (nI la) nu1 ki1 th1 ot1 vs1 av1 pl1 ps1 (nI T.length) ts fr bk ce co ro le dn un) := hD
        refine lv_aload_n hx hb d_M_squash_153 rfl (lv_at hl 2 rfl) ?_
        refine lv_iconst (v := 0) hx hb d_M_squash_154 (by decide) ?_
        refine va_put (D := D) (ci := 3) (v := .int 0) (ty := .boolean) (C := RM) (T := TM) (N := 20) hx hb hg inM tyM okM nmM hown hK hP hD hS 0 rfl rfl 12 (by decide) (hg _ fl_M_39) (fun _ h9 => h9) rfl (by decide +kernel) rfl rfl (Nat.le_of_ble_eq_true rfl) d_M_squash_155 (fun H locs hP hD hS => ?_)
        have hP : va_P D cls_ (wM cA am (nI ((al_ ac n).length)) (nI la) nu1 ki1 th1 ot1 vs1 av1 pl1 ps1 (nI T.length) ts 0 bk ce co ro le dn un) H := hP
        have hD : va_D A (wM cA am (nI ((al_ ac n).length)) (nI la) nu1 ki1 th1 ot1 vs1 av1 pl1 ps1 (nI T.length) ts 0 bk ce co ro le dn un) := hD
        refine lv_iload_n hx hb d_M_squash_158 rfl (lv_at hl 1 rfl) ?_
        have hsp : sp_squash (hs, ac, n, la, T) = (nI (al_ ac n).length, (hq_ hs ac n, on_, (al_ ac n).length, la, T)) := rfl
        exact W.iret hx hb hr (fun t ht9 hW => ⟨⟨_, (nu1, ki1, th1, ot1, vs1, av1, pl1, ps1, ts, 0, bk, ce, co, ro, le, dn, un), rfl, ⟨by rw [hsp], by rw [hsp]; exact ⟨hlo, hT, Or.inl rfl⟩⟩, by rw [ht9, hsp]; exact hP, by rw [hsp]; exact hD⟩, hS.F ht9⟩) hS.2.2 d_M_squash_159
      · skip
        exact absurd (Int32.le_refl _) h9
    | succ d ih =>
      intro i nu1 ki1 th1 ot1 vs1 av1 pl1 ps1 H locs ls hid hlo hhi hP hD hS hl
      have hin : i < n := by omega
      have hle9 := al_le ac i
      have hri := hhi i (Nat.le_refl i) hin
      have h40 : ∀ j, j < n → (s_p (hs j)).length ≤ 40 := fun j hj => (hH.2.2.1 j hj).1.2.2.2.2.2.2
      refine lv_iload_n hx hb d_M_squash_4 rfl (lv_at hl 0 rfl) ?_
      refine lv_aload_n hx hb d_M_squash_5 rfl (lv_at hl 2 rfl) ?_
      refine va_get (D := D) (ci := 3) (v := .int (nI n)) (C := RM) (T := TM) (N := 20) hx hb hg inM hown hK hP 0 rfl rfl 0 (by decide) (hg _ fl_M_65) (fun _ h9 => h9) rfl d_M_squash_6 ?_
      refine lv_icmp_ge (tgt := 148) hx hb d_M_squash_9 (by decide) (fun h9 => ?_) (fun h9 => ?_)
      · skip
        exact absurd h9 (nI_ge (by omega) (by omega))
      · skip
        refine lv_aload_n hx hb d_M_squash_12 rfl (lv_at hl 2 rfl) ?_
        refine va_get (D := D) (ci := 3) (v := .ref (am 6)) (C := RM) (T := TM) (N := 20) hx hb hg inM hown hK hP 0 rfl rfl 7 (by decide) (hg _ fl_M_26) (fun _ h9 => h9) rfl d_M_squash_13 ?_
        refine lv_iload_n hx hb d_M_squash_16 rfl (lv_at hl 0 rfl) ?_
        refine va_zald hx hb hK hP 6 4 rfl rfl (vp_in_nI (n := i) (N := 200) (by omega) (by omega)) d_M_squash_17 ?_
        refine toi_ (y := av1 i) (by rw [nI_clamp (by omega)]) ?_
        refine toi_ (y := b2_ (ac i)) (hri.2.2.2.2.2.1) ?_
        refine lv_if_ne (tgt := 24) hx hb d_M_squash_18 (by decide) (fun h18 => ?_) (fun h18 => ?_)
        · skip
          have hq : ac i = true := b2_n.mp h18
          have hal : al_ ac (i + 1) = al_ ac i ++ [i] := by rw [al_s, if_pos hq]
          refine lv_aload_n hx hb d_M_squash_24 rfl (lv_at hl 2 rfl) ?_
          refine va_get (D := D) (ci := 3) (v := .ref (am 1)) (C := RM) (T := TM) (N := 20) hx hb hg inM hown hK hP 0 rfl rfl 2 (by decide) (hg _ fl_M_7) (fun _ h9 => h9) rfl d_M_squash_25 ?_
          refine lv_iload_n hx hb d_M_squash_28 rfl (lv_at hl 1 rfl) ?_
          refine lv_aload_n hx hb d_M_squash_29 rfl (lv_at hl 2 rfl) ?_
          refine va_get (D := D) (ci := 3) (v := .ref (am 1)) (C := RM) (T := TM) (N := 20) hx hb hg inM hown hK hP 0 rfl rfl 2 (by decide) (hg _ fl_M_7) (fun _ h9 => h9) rfl d_M_squash_30 ?_
          refine lv_iload_n hx hb d_M_squash_33 rfl (lv_at hl 0 rfl) ?_
          refine va_iald hx hb hK hP 1 0 rfl rfl (vp_in_nI (n := i) (N := 200) (by omega) (by omega)) d_M_squash_34 ?_
          refine toi_ (y := nu1 i) (by rw [nI_clamp (by omega)]) ?_
          refine va_iast hx hb hK hP hD hS 1 0 rfl rfl (vp_in_nI (n := (al_ ac i).length) (N := 200) (by omega) (by omega)) d_M_squash_35 (fun H locs hP hD hS => ?_)
          rw [nI_clamp (by omega)] at hP hD
          have hP : va_P D cls_ (wM cA am (nI n) (nI la) (upd nu1 ((al_ ac i).length) (nu1 i)) ki1 th1 ot1 vs1 av1 pl1 ps1 (nI T.length) ts fr bk ce co ro le dn un) H := hP
          have hD : va_D A (wM cA am (nI n) (nI la) (upd nu1 ((al_ ac i).length) (nu1 i)) ki1 th1 ot1 vs1 av1 pl1 ps1 (nI T.length) ts fr bk ce co ro le dn un) := hD
          refine lv_aload_n hx hb d_M_squash_36 rfl (lv_at hl 2 rfl) ?_
          refine va_get (D := D) (ci := 3) (v := .ref (am 2)) (C := RM) (T := TM) (N := 20) hx hb hg inM hown hK hP 0 rfl rfl 3 (by decide) (hg _ fl_M_13) (fun _ h9 => h9) rfl d_M_squash_37 ?_
          refine lv_iload_n hx hb d_M_squash_40 rfl (lv_at hl 1 rfl) ?_
          refine lv_aload_n hx hb d_M_squash_41 rfl (lv_at hl 2 rfl) ?_
          refine va_get (D := D) (ci := 3) (v := .ref (am 2)) (C := RM) (T := TM) (N := 20) hx hb hg inM hown hK hP 0 rfl rfl 3 (by decide) (hg _ fl_M_13) (fun _ h9 => h9) rfl d_M_squash_42 ?_
          refine lv_iload_n hx hb d_M_squash_45 rfl (lv_at hl 0 rfl) ?_
          refine va_iald hx hb hK hP 2 0 rfl rfl (vp_in_nI (n := i) (N := 200) (by omega) (by omega)) d_M_squash_46 ?_
          refine toi_ (y := ki1 i) (by rw [nI_clamp (by omega)]) ?_
          refine va_iast hx hb hK hP hD hS 2 0 rfl rfl (vp_in_nI (n := (al_ ac i).length) (N := 200) (by omega) (by omega)) d_M_squash_47 (fun H locs hP hD hS => ?_)
          rw [nI_clamp (by omega)] at hP hD
          have hP : va_P D cls_ (wM cA am (nI n) (nI la) (upd nu1 ((al_ ac i).length) (nu1 i)) (upd ki1 ((al_ ac i).length) (ki1 i)) th1 ot1 vs1 av1 pl1 ps1 (nI T.length) ts fr bk ce co ro le dn un) H := hP
          have hD : va_D A (wM cA am (nI n) (nI la) (upd nu1 ((al_ ac i).length) (nu1 i)) (upd ki1 ((al_ ac i).length) (ki1 i)) th1 ot1 vs1 av1 pl1 ps1 (nI T.length) ts fr bk ce co ro le dn un) := hD
          refine lv_aload_n hx hb d_M_squash_48 rfl (lv_at hl 2 rfl) ?_
          refine va_get (D := D) (ci := 3) (v := .ref (am 3)) (C := RM) (T := TM) (N := 20) hx hb hg inM hown hK hP 0 rfl rfl 4 (by decide) (hg _ fl_M_16) (fun _ h9 => h9) rfl d_M_squash_49 ?_
          refine lv_iload_n hx hb d_M_squash_52 rfl (lv_at hl 1 rfl) ?_
          refine lv_aload_n hx hb d_M_squash_53 rfl (lv_at hl 2 rfl) ?_
          refine va_get (D := D) (ci := 3) (v := .ref (am 3)) (C := RM) (T := TM) (N := 20) hx hb hg inM hown hK hP 0 rfl rfl 4 (by decide) (hg _ fl_M_16) (fun _ h9 => h9) rfl d_M_squash_54 ?_
          refine lv_iload_n hx hb d_M_squash_57 rfl (lv_at hl 0 rfl) ?_
          refine va_iald hx hb hK hP 3 0 rfl rfl (vp_in_nI (n := i) (N := 200) (by omega) (by omega)) d_M_squash_58 ?_
          refine toi_ (y := th1 i) (by rw [nI_clamp (by omega)]) ?_
          refine va_iast hx hb hK hP hD hS 3 0 rfl rfl (vp_in_nI (n := (al_ ac i).length) (N := 200) (by omega) (by omega)) d_M_squash_59 (fun H locs hP hD hS => ?_)
          rw [nI_clamp (by omega)] at hP hD
          have hP : va_P D cls_ (wM cA am (nI n) (nI la) (upd nu1 ((al_ ac i).length) (nu1 i)) (upd ki1 ((al_ ac i).length) (ki1 i)) (upd th1 ((al_ ac i).length) (th1 i)) ot1 vs1 av1 pl1 ps1 (nI T.length) ts fr bk ce co ro le dn un) H := hP
          have hD : va_D A (wM cA am (nI n) (nI la) (upd nu1 ((al_ ac i).length) (nu1 i)) (upd ki1 ((al_ ac i).length) (ki1 i)) (upd th1 ((al_ ac i).length) (th1 i)) ot1 vs1 av1 pl1 ps1 (nI T.length) ts fr bk ce co ro le dn un) := hD
          refine lv_aload_n hx hb d_M_squash_60 rfl (lv_at hl 2 rfl) ?_
          refine va_get (D := D) (ci := 3) (v := .ref (am 4)) (C := RM) (T := TM) (N := 20) hx hb hg inM hown hK hP 0 rfl rfl 5 (by decide) (hg _ fl_M_19) (fun _ h9 => h9) rfl d_M_squash_61 ?_
          refine lv_iload_n hx hb d_M_squash_64 rfl (lv_at hl 1 rfl) ?_
          refine lv_aload_n hx hb d_M_squash_65 rfl (lv_at hl 2 rfl) ?_
          refine va_get (D := D) (ci := 3) (v := .ref (am 4)) (C := RM) (T := TM) (N := 20) hx hb hg inM hown hK hP 0 rfl rfl 5 (by decide) (hg _ fl_M_19) (fun _ h9 => h9) rfl d_M_squash_66 ?_
          refine lv_iload_n hx hb d_M_squash_69 rfl (lv_at hl 0 rfl) ?_
          refine va_iald hx hb hK hP 4 0 rfl rfl (vp_in_nI (n := i) (N := 200) (by omega) (by omega)) d_M_squash_70 ?_
          refine toi_ (y := ot1 i) (by rw [nI_clamp (by omega)]) ?_
          refine va_iast hx hb hK hP hD hS 4 0 rfl rfl (vp_in_nI (n := (al_ ac i).length) (N := 200) (by omega) (by omega)) d_M_squash_71 (fun H locs hP hD hS => ?_)
          rw [nI_clamp (by omega)] at hP hD
          have hP : va_P D cls_ (wM cA am (nI n) (nI la) (upd nu1 ((al_ ac i).length) (nu1 i)) (upd ki1 ((al_ ac i).length) (ki1 i)) (upd th1 ((al_ ac i).length) (th1 i)) (upd ot1 ((al_ ac i).length) (ot1 i)) vs1 av1 pl1 ps1 (nI T.length) ts fr bk ce co ro le dn un) H := hP
          have hD : va_D A (wM cA am (nI n) (nI la) (upd nu1 ((al_ ac i).length) (nu1 i)) (upd ki1 ((al_ ac i).length) (ki1 i)) (upd th1 ((al_ ac i).length) (th1 i)) (upd ot1 ((al_ ac i).length) (ot1 i)) vs1 av1 pl1 ps1 (nI T.length) ts fr bk ce co ro le dn un) := hD
          refine lv_aload_n hx hb d_M_squash_72 rfl (lv_at hl 2 rfl) ?_
          refine va_get (D := D) (ci := 3) (v := .ref (am 5)) (C := RM) (T := TM) (N := 20) hx hb hg inM hown hK hP 0 rfl rfl 6 (by decide) (hg _ fl_M_22) (fun _ h9 => h9) rfl d_M_squash_73 ?_
          refine lv_iload_n hx hb d_M_squash_76 rfl (lv_at hl 1 rfl) ?_
          refine lv_aload_n hx hb d_M_squash_77 rfl (lv_at hl 2 rfl) ?_
          refine va_get (D := D) (ci := 3) (v := .ref (am 5)) (C := RM) (T := TM) (N := 20) hx hb hg inM hown hK hP 0 rfl rfl 6 (by decide) (hg _ fl_M_22) (fun _ h9 => h9) rfl d_M_squash_78 ?_
          refine lv_iload_n hx hb d_M_squash_81 rfl (lv_at hl 0 rfl) ?_
          refine va_lald hx hb hK hP 5 1 rfl rfl (vp_in_nI (n := i) (N := 200) (by omega) (by omega)) d_M_squash_82 ?_
          refine tol_ (y := vs1 i) (by rw [nI_clamp (by omega)]) ?_
          refine va_last hx hb hK hP hD hS 5 1 rfl rfl (vp_in_nI (n := (al_ ac i).length) (N := 200) (by omega) (by omega)) d_M_squash_83 (fun H locs hP hD hS => ?_)
          rw [nI_clamp (by omega)] at hP hD
          have hP : va_P D cls_ (wM cA am (nI n) (nI la) (upd nu1 ((al_ ac i).length) (nu1 i)) (upd ki1 ((al_ ac i).length) (ki1 i)) (upd th1 ((al_ ac i).length) (th1 i)) (upd ot1 ((al_ ac i).length) (ot1 i)) (vp_updL vs1 ((al_ ac i).length) (vs1 i)) av1 pl1 ps1 (nI T.length) ts fr bk ce co ro le dn un) H := hP
          have hD : va_D A (wM cA am (nI n) (nI la) (upd nu1 ((al_ ac i).length) (nu1 i)) (upd ki1 ((al_ ac i).length) (ki1 i)) (upd th1 ((al_ ac i).length) (th1 i)) (upd ot1 ((al_ ac i).length) (ot1 i)) (vp_updL vs1 ((al_ ac i).length) (vs1 i)) av1 pl1 ps1 (nI T.length) ts fr bk ce co ro le dn un) := hD
          refine lv_aload_n hx hb d_M_squash_84 rfl (lv_at hl 2 rfl) ?_
          refine va_get (D := D) (ci := 3) (v := .ref (am 6)) (C := RM) (T := TM) (N := 20) hx hb hg inM hown hK hP 0 rfl rfl 7 (by decide) (hg _ fl_M_26) (fun _ h9 => h9) rfl d_M_squash_85 ?_
          refine lv_iload_n hx hb d_M_squash_88 rfl (lv_at hl 1 rfl) ?_
          refine lv_iconst (v := 1) hx hb d_M_squash_89 (by decide) ?_
          refine va_zast hx hb hK hP hD hS 6 4 rfl rfl (vp_in_nI (n := (al_ ac i).length) (N := 200) (by omega) (by omega)) d_M_squash_90 (fun H locs hP hD hS => ?_)
          rw [nI_clamp (by omega)] at hP hD
          rw [show vp_nar .boolean 1 = 1 from rfl] at hP hD
          have hP : va_P D cls_ (wM cA am (nI n) (nI la) (upd nu1 ((al_ ac i).length) (nu1 i)) (upd ki1 ((al_ ac i).length) (ki1 i)) (upd th1 ((al_ ac i).length) (th1 i)) (upd ot1 ((al_ ac i).length) (ot1 i)) (vp_updL vs1 ((al_ ac i).length) (vs1 i)) (upd av1 ((al_ ac i).length) 1) pl1 ps1 (nI T.length) ts fr bk ce co ro le dn un) H := hP
          have hD : va_D A (wM cA am (nI n) (nI la) (upd nu1 ((al_ ac i).length) (nu1 i)) (upd ki1 ((al_ ac i).length) (ki1 i)) (upd th1 ((al_ ac i).length) (th1 i)) (upd ot1 ((al_ ac i).length) (ot1 i)) (vp_updL vs1 ((al_ ac i).length) (vs1 i)) (upd av1 ((al_ ac i).length) 1) pl1 ps1 (nI T.length) ts fr bk ce co ro le dn un) := hD
          refine lv_aload_n hx hb d_M_squash_91 rfl (lv_at hl 2 rfl) ?_
          refine va_get (D := D) (ci := 3) (v := .ref (am 8)) (C := RM) (T := TM) (N := 20) hx hb hg inM hown hK hP 0 rfl rfl 9 (by decide) (hg _ fl_M_33) (fun _ h9 => h9) rfl d_M_squash_92 ?_
          refine lv_iload_n hx hb d_M_squash_95 rfl (lv_at hl 1 rfl) ?_
          refine lv_aload_n hx hb d_M_squash_96 rfl (lv_at hl 2 rfl) ?_
          refine va_get (D := D) (ci := 3) (v := .ref (am 8)) (C := RM) (T := TM) (N := 20) hx hb hg inM hown hK hP 0 rfl rfl 9 (by decide) (hg _ fl_M_33) (fun _ h9 => h9) rfl d_M_squash_97 ?_
          refine lv_iload_n hx hb d_M_squash_100 rfl (lv_at hl 0 rfl) ?_
          refine va_iald hx hb hK hP 8 0 rfl rfl (vp_in_nI (n := i) (N := 200) (by omega) (by omega)) d_M_squash_101 ?_
          refine toi_ (y := ps1 i) (by rw [nI_clamp (by omega)]) ?_
          refine va_iast hx hb hK hP hD hS 8 0 rfl rfl (vp_in_nI (n := (al_ ac i).length) (N := 200) (by omega) (by omega)) d_M_squash_102 (fun H locs hP hD hS => ?_)
          rw [nI_clamp (by omega)] at hP hD
          have hP : va_P D cls_ (wM cA am (nI n) (nI la) (upd nu1 ((al_ ac i).length) (nu1 i)) (upd ki1 ((al_ ac i).length) (ki1 i)) (upd th1 ((al_ ac i).length) (th1 i)) (upd ot1 ((al_ ac i).length) (ot1 i)) (vp_updL vs1 ((al_ ac i).length) (vs1 i)) (upd av1 ((al_ ac i).length) 1) pl1 (upd ps1 ((al_ ac i).length) (ps1 i)) (nI T.length) ts fr bk ce co ro le dn un) H := hP
          have hD : va_D A (wM cA am (nI n) (nI la) (upd nu1 ((al_ ac i).length) (nu1 i)) (upd ki1 ((al_ ac i).length) (ki1 i)) (upd th1 ((al_ ac i).length) (th1 i)) (upd ot1 ((al_ ac i).length) (ot1 i)) (vp_updL vs1 ((al_ ac i).length) (vs1 i)) (upd av1 ((al_ ac i).length) 1) pl1 (upd ps1 ((al_ ac i).length) (ps1 i)) (nI T.length) ts fr bk ce co ro le dn un) := hD
          refine lv_iconst (v := 0) hx hb d_M_squash_103 (by decide) ?_
          refine lv_istore_n (lv' := [(3, .int 0), (2, .int (nI i)), (1, .int (nI ((al_ ac i).length))), (0, .ref (am 0))]) hx hb d_M_squash_104 rfl hl (by decide) rfl (fun ls hl => ?_)
          have hl := lv_sub hl [0, 1, 2, 3] (l' := [(3, .int (nI 0)), (2, .int (nI i)), (1, .int (nI (al_ ac i).length)), (0, .ref (am 0))]) rfl
          have inner : ∀ (e9 j : Nat) (pl2 : Nat → Int32) (H : Heap) (locs : List Loc) (ls : Array Slot), j + e9 = 40 → (∀ t, t < j → pl2 (40 * (al_ ac i).length + t) = pl1 (40 * i + t)) → (∀ t, t < 40 * (al_ ac i).length ∨ 40 * (al_ ac i).length + j ≤ t → pl2 t = pl1 t) → va_P D cls_ (wM cA am (nI n) (nI la) (upd nu1 ((al_ ac i).length) (nu1 i)) (upd ki1 ((al_ ac i).length) (ki1 i)) (upd th1 ((al_ ac i).length) (th1 i)) (upd ot1 ((al_ ac i).length) (ot1 i)) (vp_updL vs1 ((al_ ac i).length) (vs1 i)) (upd av1 ((al_ ac i).length) 1) pl2 (upd ps1 ((al_ ac i).length) (ps1 i)) (nI T.length) ts fr bk ce co ro le dn un) H → va_D A (wM cA am (nI n) (nI la) (upd nu1 ((al_ ac i).length) (nu1 i)) (upd ki1 ((al_ ac i).length) (ki1 i)) (upd th1 ((al_ ac i).length) (th1 i)) (upd ot1 ((al_ ac i).length) (ot1 i)) (vp_updL vs1 ((al_ ac i).length) (vs1 i)) (upd av1 ((al_ ac i).length) 1) pl2 (upd ps1 ((al_ ac i).length) (ps1 i)) (nI T.length) ts fr bk ce co ro le dn un) → va_S A s.heap H locs → lv_has ls 4 [(3, .int (nI j)), (2, .int (nI i)), (1, .int (nI (al_ ac i).length)), (0, .ref (am 0))] → W p l e (headSpec (.code y_M_squash c_M_squash 4 (some .int) :: G_) ({ frames := 0, cells := 0, slots := 0, locals := 0 })).room s m ([.ref (am 0)] : List Value).toArray below meth c H locs 0 0 (MQ below (va_Qi (fun (r : Int32) (u : mc_T) => r = (sp_squash (hs, ac, n, la, T)).1 ∧ mI_ ((sp_squash (hs, ac, n, la, T)).2) u) (bw_ D A (fun u => wY cA am ((sp_squash (hs, ac, n, la, T)).2) u)) A) ([.ref (am 0)] : List Value).toArray s 0 0 A) (F0 m 105 ls []) := by
            intro e9
            induction e9 with
            | zero =>
              intro j pl2 H locs ls hj40 hin40 hout hP hD hS hl
              have hj2 : j = 40 := by omega
              subst hj2
              refine lv_iload_n hx hb d_M_squash_105 rfl (lv_at hl 0 rfl) ?_
              refine lv_bipush (v := 40) hx hb d_M_squash_106 (by decide) ?_
              refine toi_ (y := nI 40) (rfl) ?_
              refine lv_icmp_ge (tgt := 139) hx hb d_M_squash_108 (by decide) (fun h108 => ?_) (fun h108 => ?_)
              · skip
                refine lv_iinc (k := 2) (v := nI ((al_ ac i).length + 1)) (lv' := [(1, .int (nI ((al_ ac i).length + 1))), (3, .int (nI 40)), (2, .int (nI i)), (0, .ref (am 0))]) hx hb d_M_squash_139 hl rfl (inc_ _) (by decide) rfl (fun ls hl => ?_)
                refine lv_iinc (k := 2) (v := nI (i + 1)) (lv' := [(2, .int (nI (i + 1))), (1, .int (nI ((al_ ac i).length + 1))), (3, .int (nI 40)), (0, .ref (am 0))]) hx hb d_M_squash_142 hl rfl (inc_ _) (by decide) rfl (fun ls hl => ?_)
                refine lv_goto (tgt := 4) hx hb d_M_squash_145 (by decide) ?_
                have hlen : (al_ ac (i + 1)).length = (al_ ac i).length + 1 := by rw [hal, List.length_append, List.length_singleton]
                have hl := lv_sub hl [0, 1, 3] (l' := [(2, .int (nI (i + 1))), (1, .int (nI ((al_ ac i).length + 1))), (0, .ref (am 0))]) rfl
                rw [← hlen] at hl
                refine ih (i + 1) (upd nu1 ((al_ ac i).length) (nu1 i)) (upd ki1 ((al_ ac i).length) (ki1 i)) (upd th1 ((al_ ac i).length) (th1 i)) (upd ot1 ((al_ ac i).length) (ot1 i)) (vp_updL vs1 ((al_ ac i).length) (vs1 i)) (upd av1 ((al_ ac i).length) 1) pl2 (upd ps1 ((al_ ac i).length) (ps1 i)) H locs ls (by omega) (fun j hj => ?_) (fun j hj hjn => mr_keep (hhi j (by omega) hjn) (by omega) (h40 j hjn) hout _ _ _ _ _ _ _) hP hD hS hl
                by_cases hje : j = (al_ ac i).length
                · rw [hje, hq_top hq]
                  exact mr_copy hri (h40 i hin) hin40
                · rw [hq_same (by omega)]
                  exact mr_keep (hlo j (by omega)) hje (h40 _ (Nat.lt_trans (al_at (ac := ac) (n := i) (by omega)).1 hin)) hout _ _ _ _ _ _ _
              · skip
                exact absurd (Int32.le_refl _) h108
            | succ e9 ih2 =>
              intro j pl2 H locs ls hj40 hin40 hout hP hD hS hl
              refine lv_iload_n hx hb d_M_squash_105 rfl (lv_at hl 0 rfl) ?_
              refine lv_bipush (v := 40) hx hb d_M_squash_106 (by decide) ?_
              refine toi_ (y := nI 40) (rfl) ?_
              refine lv_icmp_ge (tgt := 139) hx hb d_M_squash_108 (by decide) (fun h108 => ?_) (fun h108 => ?_)
              · skip
                exact absurd h108 (nI_ge (by omega) (by omega))
              · skip
                refine lv_aload_n hx hb d_M_squash_111 rfl (lv_at hl 3 rfl) ?_
                refine va_get (D := D) (ci := 3) (v := .ref (am 7)) (C := RM) (T := TM) (N := 20) hx hb hg inM hown hK hP 0 rfl rfl 8 (by decide) (hg _ fl_M_30) (fun _ h9 => h9) rfl d_M_squash_112 ?_
                refine lv_bipush (v := 40) hx hb d_M_squash_115 (by decide) ?_
                refine lv_iload_n hx hb d_M_squash_117 rfl (lv_at hl 2 rfl) ?_
                refine lv_imul hx hb d_M_squash_118 ?_
                refine toi_ (y := nI (40 * (al_ ac i).length)) (pk_mul 40 _) ?_
                refine lv_iload_n hx hb d_M_squash_119 rfl (lv_at hl 0 rfl) ?_
                refine lv_iadd hx hb d_M_squash_120 ?_
                refine toi_ (y := nI (40 * (al_ ac i).length + j)) (nI_add _ _) ?_
                refine lv_aload_n hx hb d_M_squash_121 rfl (lv_at hl 3 rfl) ?_
                refine va_get (D := D) (ci := 3) (v := .ref (am 7)) (C := RM) (T := TM) (N := 20) hx hb hg inM hown hK hP 0 rfl rfl 8 (by decide) (hg _ fl_M_30) (fun _ h9 => h9) rfl d_M_squash_122 ?_
                refine lv_bipush (v := 40) hx hb d_M_squash_125 (by decide) ?_
                refine lv_iload_n hx hb d_M_squash_127 rfl (lv_at hl 1 rfl) ?_
                refine lv_imul hx hb d_M_squash_128 ?_
                refine toi_ (y := nI (40 * i)) (pk_mul 40 i) ?_
                refine lv_iload_n hx hb d_M_squash_129 rfl (lv_at hl 0 rfl) ?_
                refine lv_iadd hx hb d_M_squash_130 ?_
                refine toi_ (y := nI (40 * i + j)) (nI_add _ _) ?_
                refine va_iald hx hb hK hP 7 0 rfl rfl (vp_in_nI (n := 40 * i + j) (N := 8000) (by omega) (by omega)) d_M_squash_131 ?_
                refine toi_ (y := pl2 (40 * i + j)) (by rw [nI_clamp (by omega)]) ?_
                refine va_iast hx hb hK hP hD hS 7 0 rfl rfl (vp_in_nI (n := 40 * (al_ ac i).length + j) (N := 8000) (by omega) (by omega)) d_M_squash_132 (fun H locs hP hD hS => ?_)
                rw [nI_clamp (by omega)] at hP hD
                have hP : va_P D cls_ (wM cA am (nI n) (nI la) (upd nu1 ((al_ ac i).length) (nu1 i)) (upd ki1 ((al_ ac i).length) (ki1 i)) (upd th1 ((al_ ac i).length) (th1 i)) (upd ot1 ((al_ ac i).length) (ot1 i)) (vp_updL vs1 ((al_ ac i).length) (vs1 i)) (upd av1 ((al_ ac i).length) 1) (upd pl2 (40 * (al_ ac i).length + j) (pl2 (40 * i + j))) (upd ps1 ((al_ ac i).length) (ps1 i)) (nI T.length) ts fr bk ce co ro le dn un) H := hP
                have hD : va_D A (wM cA am (nI n) (nI la) (upd nu1 ((al_ ac i).length) (nu1 i)) (upd ki1 ((al_ ac i).length) (ki1 i)) (upd th1 ((al_ ac i).length) (th1 i)) (upd ot1 ((al_ ac i).length) (ot1 i)) (vp_updL vs1 ((al_ ac i).length) (vs1 i)) (upd av1 ((al_ ac i).length) 1) (upd pl2 (40 * (al_ ac i).length + j) (pl2 (40 * i + j))) (upd ps1 ((al_ ac i).length) (ps1 i)) (nI T.length) ts fr bk ce co ro le dn un) := hD
                refine lv_iinc (k := 0) (v := nI (j + 1)) (lv' := [(3, .int (nI (j + 1))), (2, .int (nI i)), (1, .int (nI ((al_ ac i).length))), (0, .ref (am 0))]) hx hb d_M_squash_133 hl rfl (inc_ _) (by decide) rfl (fun ls hl => ?_)
                refine lv_goto (tgt := 105) hx hb d_M_squash_136 (by decide) ?_
                have hl := lv_sub hl [0, 1, 2, 3] (l' := [(3, .int (nI (j + 1))), (2, .int (nI i)), (1, .int (nI (al_ ac i).length)), (0, .ref (am 0))]) rfl
                have hv : pl2 (40 * i + j) = pl1 (40 * i + j) := hout _ (Or.inr (by omega))
                refine ih2 (j + 1) _ H locs ls (by omega) (fun t ht => ?_) (fun t ht => ?_) hP hD hS hl
                · by_cases hte : t = j
                  · rw [hte, pk_us]; exact hv
                  · rw [pk_un (by omega)]; exact hin40 t (by omega)
                · rw [pk_un (by omega)]; exact hout t (by omega)
          exact inner 40 0 pl1 _ _ ls (by omega) (fun t ht => absurd ht (Nat.not_lt_zero _)) (fun t _ => rfl) hP hD hS hl
        · skip
          have hq : ac i = false := b2_0.mp h18
          have hal : al_ ac (i + 1) = al_ ac i := by rw [al_s, hq]; rfl
          refine lv_goto (tgt := 142) hx hb d_M_squash_21 (by decide) ?_
          refine lv_iinc (k := 0) (v := nI (i + 1)) (lv' := [(2, .int (nI (i + 1))), (1, .int (nI ((al_ ac i).length))), (0, .ref (am 0))]) hx hb d_M_squash_142 hl rfl (inc_ _) (by decide) rfl (fun ls hl => ?_)
          refine lv_goto (tgt := 4) hx hb d_M_squash_145 (by decide) ?_
          have hl := lv_sub hl [0, 1, 2] (l' := [(2, .int (nI (i + 1))), (1, .int (nI ((al_ ac i).length))), (0, .ref (am 0))]) rfl
          rw [← hal] at hl
          refine ih (i + 1) nu1 ki1 th1 ot1 vs1 av1 pl1 ps1 H locs ls (by omega) (fun j hj => ?_) (fun j hj hjn => hhi j (by omega) hjn) hP hD hS hl
          rw [hal] at hj
          rw [hq_same hj]
          exact hlo j hj
  refine lv_iconst (v := 0) hx hb d_M_squash_0 (by decide) ?_
  refine lv_istore_n (lv' := [(1, .int 0), (0, .ref (am 0))]) hx hb d_M_squash_1 rfl hl (by decide) rfl (fun ls hl => ?_)
  refine lv_iconst (v := 0) hx hb d_M_squash_2 (by decide) ?_
  refine lv_istore_n (lv' := [(2, .int 0), (1, .int 0), (0, .ref (am 0))]) hx hb d_M_squash_3 rfl hl (by decide) rfl (fun ls hl => ?_)
  have hl := lv_sub hl [0, 1, 2] (l' := [(2, .int (nI 0)), (1, .int (nI 0)), (0, .ref (am 0))]) rfl
  exact loop n 0 nu ki th ot vs av pl ps _ _ ls (by omega) (fun j h => absurd h (Nat.not_lt_zero _)) (fun j _ hj => hmh j hj) hP hD hS hl

set_option maxHeartbeats 4000000 in
set_option maxRecDepth 100000 in
theorem m_M_init (l : Launch) (D : va_G) (cA : Nat → ClassId) (sz : Nat) (h0 : Nat) : Met l y_M_init (.code y_M_init c_M_init 1 none :: G_) ({ frames := 1, cells := 15, slots := 10135, locals := 12 }) (va_Pc [.ref h0] (pm_ D cA [(h0, .inr (3, [.int 0, .int 0, .null, .null, .null, .null, .null, .null, .null, .null, .int 0, .null, .int 0, .int 0, .null, .null, .null, .null, .null, .null]))] sz)) (va_Qv (fun (u : (Nat → Nat) × mc_T) => u.1 0 = h0 ∧ mI_ a0_ u.2) (bw_ D (va_A [(h0, .inr (3, [.int 0, .int 0, .null, .null, .null, .null, .null, .null, .null, .null, .int 0, .null, .int 0, .int 0, .null, .null, .null, .null, .null, .null]))] sz) (fun u => wY cA u.1 a0_ u.2)) (va_A [(h0, .inr (3, [.int 0, .int 0, .null, .null, .null, .null, .null, .null, .null, .null, .int 0, .null, .int 0, .int 0, .null, .null, .null, .null, .null, .null]))] sz)) 15 10135 (va_A [(h0, .inr (3, [.int 0, .int 0, .null, .null, .null, .null, .null, .null, .null, .null, .int 0, .null, .int 0, .int 0, .null, .null, .null, .null, .null, .null]))] sz) := by
  refine Met.ofW (cc := c_M_init) (maxL := 1) (ret := none) (by decide) rfl ?_
  intro p e s m args below meth c s₁ B hml hv
  obtain ⟨rfl, hsz, hP, ⟨hK, hN⟩, hD0⟩ := hv
  have hx := B.exec
  have hb := B.bytes
  have hr := B.returns
  have hts := atoms_spec (ws := (.code y_M_init c_M_init 1 none :: G_)) B.pre
  have hg : ∀ w ∈ G_, w.before ([.ref h0] : List Value).toArray s = true := fun w h => hts w (List.mem_cons_of_mem _ h)
  have hown : s.vm.findClass RM = some m.cls := findClass_of_methodNamed B.named
  have hlocks := B.notSynchronized
  have hin : meth.name = "<init>" := (name_of_methodNamed B.named B.method).1
  subst hsz
  have hD := hD0.self (sz := s.heap.size)
  generalize hAe : va_A [(h0, .inr (3, [.int 0, .int 0, .null, .null, .null, .null, .null, .null, .null, .null, .int 0, .null, .int 0, .int 0, .null, .null, .null, .null, .null, .null]))] s.heap.size = A at hD ⊢
  have hA : ∀ q : Nat, s.heap.size ≤ q → A q := fun q h => by rw [← hAe]; exact Or.inr h
  have hS : va_S A s.heap s.heap [] := va_S.rf
  have hl := lv_entry ([.ref h0]) (n := 1) (Nat.le_of_ble_eq_true rfl)
  rw [lg_entry_eq]
  generalize (lg_sl ([.ref h0]) ++ List.replicate (1 - (lg_sl ([.ref h0])).length) Slot.unset).toArray = ls at hl ⊢
  have hl : lv_has ls 1 [(0, .ref h0)] := hl
  refine lv_aload_n hx hb d_M_init_0 rfl (lv_at hl 0 rfl) ?_
  refine W.objInit hx hb hown (hg _ ml_M_1) (hg _ im_O_init) (hg _ cd_O_init) rfl (by rw [hml]; exact hl.1) rfl d_M_init_1 (Nat.le_of_ble_eq_true rfl) (Nat.le_of_ble_eq_true rfl) ?_
  refine W.eq (g2 := F0 m 4 ls []) rfl ?_
  refine lv_aload_n hx hb d_M_init_4 rfl (lv_at hl 0 rfl) ?_
  refine lv_sipush (v := 200) hx hb d_M_init_5 (by decide) ?_
  refine va_newa (atype := .int) (ty := .int) (N' := 200) (a0 := (200, .inl (fun _ => 0))) hx hb (hg _ ac_int) rfl hK hP hD hS hA (fun _ => rfl) (by decide) (by decide) (by decide) (show 1 ≤ 15 by decide) (show 200 ≤ 10135 by decide) d_M_init_8 (fun q1 c9 H hK9 hP hD hS => ?_)
  obtain rfl := cn_I hK9
  have hP : va_P D cls_ [(h0, .inr (3, [.int 0, .int 0, .null, .null, .null, .null, .null, .null, .null, .null, .int 0, .null, .int 0, .int 0, .null, .null, .null, .null, .null, .null])), (q1, .inl (cA 0, 200, .inl (fun _ => 0)))] H := hP
  have hD : va_D A [(h0, .inr (3, [.int 0, .int 0, .null, .null, .null, .null, .null, .null, .null, .null, .int 0, .null, .int 0, .int 0, .null, .null, .null, .null, .null, .null])), (q1, .inl (cA 0, 200, .inl (fun _ => 0)))] := hD
  refine W.widen (k := 1) (n := 200) (by decide) (by decide) ?_
  refine va_putF (D := D) (ci := 3) (v := .ref q1) (ty := (.array .int)) (C := RM) (T := TM) (N := 20) hx hb hg inM tyM okM nmM hown hK hP hD hS 0 rfl rfl 2 (by decide) (hg _ fl_M_7) (fun _ h9 => h9) rfl hin rfl (by decide +kernel) rfl rfl (Nat.le_of_ble_eq_true rfl) d_M_init_10 (fun H locs hP hD hS => ?_)
  have hP : va_P D cls_ [(h0, .inr (3, [.int 0, .int 0, .ref q1, .null, .null, .null, .null, .null, .null, .null, .int 0, .null, .int 0, .int 0, .null, .null, .null, .null, .null, .null])), (q1, .inl (cA 0, 200, .inl (fun _ => 0)))] H := hP
  have hD : va_D A [(h0, .inr (3, [.int 0, .int 0, .ref q1, .null, .null, .null, .null, .null, .null, .null, .int 0, .null, .int 0, .int 0, .null, .null, .null, .null, .null, .null])), (q1, .inl (cA 0, 200, .inl (fun _ => 0)))] := hD
  refine lv_aload_n hx hb d_M_init_13 rfl (lv_at hl 0 rfl) ?_
  refine lv_sipush (v := 200) hx hb d_M_init_14 (by decide) ?_
  refine va_newa (atype := .int) (ty := .int) (N' := 200) (a0 := (200, .inl (fun _ => 0))) hx hb (hg _ ac_int) rfl hK hP hD hS hA (fun _ => rfl) (by decide) (by decide) (by decide) (show 2 ≤ 15 by decide) (show 400 ≤ 10135 by decide) d_M_init_17 (fun q2 c9 H hK9 hP hD hS => ?_)
  obtain rfl := cn_I hK9
  have hP : va_P D cls_ [(h0, .inr (3, [.int 0, .int 0, .ref q1, .null, .null, .null, .null, .null, .null, .null, .int 0, .null, .int 0, .int 0, .null, .null, .null, .null, .null, .null])), (q1, .inl (cA 0, 200, .inl (fun _ => 0))), (q2, .inl (cA 0, 200, .inl (fun _ => 0)))] H := hP
  have hD : va_D A [(h0, .inr (3, [.int 0, .int 0, .ref q1, .null, .null, .null, .null, .null, .null, .null, .int 0, .null, .int 0, .int 0, .null, .null, .null, .null, .null, .null])), (q1, .inl (cA 0, 200, .inl (fun _ => 0))), (q2, .inl (cA 0, 200, .inl (fun _ => 0)))] := hD
  refine W.widen (k := 2) (n := 400) (by decide) (by decide) ?_
  refine va_putF (D := D) (ci := 3) (v := .ref q2) (ty := (.array .int)) (C := RM) (T := TM) (N := 20) hx hb hg inM tyM okM nmM hown hK hP hD hS 0 rfl rfl 3 (by decide) (hg _ fl_M_13) (fun _ h9 => h9) rfl hin rfl (by decide +kernel) rfl rfl (Nat.le_of_ble_eq_true rfl) d_M_init_19 (fun H locs hP hD hS => ?_)
  have hP : va_P D cls_ [(h0, .inr (3, [.int 0, .int 0, .ref q1, .ref q2, .null, .null, .null, .null, .null, .null, .int 0, .null, .int 0, .int 0, .null, .null, .null, .null, .null, .null])), (q1, .inl (cA 0, 200, .inl (fun _ => 0))), (q2, .inl (cA 0, 200, .inl (fun _ => 0)))] H := hP
  have hD : va_D A [(h0, .inr (3, [.int 0, .int 0, .ref q1, .ref q2, .null, .null, .null, .null, .null, .null, .int 0, .null, .int 0, .int 0, .null, .null, .null, .null, .null, .null])), (q1, .inl (cA 0, 200, .inl (fun _ => 0))), (q2, .inl (cA 0, 200, .inl (fun _ => 0)))] := hD
  refine lv_aload_n hx hb d_M_init_22 rfl (lv_at hl 0 rfl) ?_
  refine lv_sipush (v := 200) hx hb d_M_init_23 (by decide) ?_
  refine va_newa (atype := .int) (ty := .int) (N' := 200) (a0 := (200, .inl (fun _ => 0))) hx hb (hg _ ac_int) rfl hK hP hD hS hA (fun _ => rfl) (by decide) (by decide) (by decide) (show 3 ≤ 15 by decide) (show 600 ≤ 10135 by decide) d_M_init_26 (fun q3 c9 H hK9 hP hD hS => ?_)
  obtain rfl := cn_I hK9
  have hP : va_P D cls_ [(h0, .inr (3, [.int 0, .int 0, .ref q1, .ref q2, .null, .null, .null, .null, .null, .null, .int 0, .null, .int 0, .int 0, .null, .null, .null, .null, .null, .null])), (q1, .inl (cA 0, 200, .inl (fun _ => 0))), (q2, .inl (cA 0, 200, .inl (fun _ => 0))), (q3, .inl (cA 0, 200, .inl (fun _ => 0)))] H := hP
  have hD : va_D A [(h0, .inr (3, [.int 0, .int 0, .ref q1, .ref q2, .null, .null, .null, .null, .null, .null, .int 0, .null, .int 0, .int 0, .null, .null, .null, .null, .null, .null])), (q1, .inl (cA 0, 200, .inl (fun _ => 0))), (q2, .inl (cA 0, 200, .inl (fun _ => 0))), (q3, .inl (cA 0, 200, .inl (fun _ => 0)))] := hD
  refine W.widen (k := 3) (n := 600) (by decide) (by decide) ?_
  refine va_putF (D := D) (ci := 3) (v := .ref q3) (ty := (.array .int)) (C := RM) (T := TM) (N := 20) hx hb hg inM tyM okM nmM hown hK hP hD hS 0 rfl rfl 4 (by decide) (hg _ fl_M_16) (fun _ h9 => h9) rfl hin rfl (by decide +kernel) rfl rfl (Nat.le_of_ble_eq_true rfl) d_M_init_28 (fun H locs hP hD hS => ?_)
  have hP : va_P D cls_ [(h0, .inr (3, [.int 0, .int 0, .ref q1, .ref q2, .ref q3, .null, .null, .null, .null, .null, .int 0, .null, .int 0, .int 0, .null, .null, .null, .null, .null, .null])), (q1, .inl (cA 0, 200, .inl (fun _ => 0))), (q2, .inl (cA 0, 200, .inl (fun _ => 0))), (q3, .inl (cA 0, 200, .inl (fun _ => 0)))] H := hP
  have hD : va_D A [(h0, .inr (3, [.int 0, .int 0, .ref q1, .ref q2, .ref q3, .null, .null, .null, .null, .null, .int 0, .null, .int 0, .int 0, .null, .null, .null, .null, .null, .null])), (q1, .inl (cA 0, 200, .inl (fun _ => 0))), (q2, .inl (cA 0, 200, .inl (fun _ => 0))), (q3, .inl (cA 0, 200, .inl (fun _ => 0)))] := hD
  refine lv_aload_n hx hb d_M_init_31 rfl (lv_at hl 0 rfl) ?_
  refine lv_sipush (v := 200) hx hb d_M_init_32 (by decide) ?_
  refine va_newa (atype := .int) (ty := .int) (N' := 200) (a0 := (200, .inl (fun _ => 0))) hx hb (hg _ ac_int) rfl hK hP hD hS hA (fun _ => rfl) (by decide) (by decide) (by decide) (show 4 ≤ 15 by decide) (show 800 ≤ 10135 by decide) d_M_init_35 (fun q4 c9 H hK9 hP hD hS => ?_)
  obtain rfl := cn_I hK9
  have hP : va_P D cls_ [(h0, .inr (3, [.int 0, .int 0, .ref q1, .ref q2, .ref q3, .null, .null, .null, .null, .null, .int 0, .null, .int 0, .int 0, .null, .null, .null, .null, .null, .null])), (q1, .inl (cA 0, 200, .inl (fun _ => 0))), (q2, .inl (cA 0, 200, .inl (fun _ => 0))), (q3, .inl (cA 0, 200, .inl (fun _ => 0))), (q4, .inl (cA 0, 200, .inl (fun _ => 0)))] H := hP
  have hD : va_D A [(h0, .inr (3, [.int 0, .int 0, .ref q1, .ref q2, .ref q3, .null, .null, .null, .null, .null, .int 0, .null, .int 0, .int 0, .null, .null, .null, .null, .null, .null])), (q1, .inl (cA 0, 200, .inl (fun _ => 0))), (q2, .inl (cA 0, 200, .inl (fun _ => 0))), (q3, .inl (cA 0, 200, .inl (fun _ => 0))), (q4, .inl (cA 0, 200, .inl (fun _ => 0)))] := hD
  refine W.widen (k := 4) (n := 800) (by decide) (by decide) ?_
  refine va_putF (D := D) (ci := 3) (v := .ref q4) (ty := (.array .int)) (C := RM) (T := TM) (N := 20) hx hb hg inM tyM okM nmM hown hK hP hD hS 0 rfl rfl 5 (by decide) (hg _ fl_M_19) (fun _ h9 => h9) rfl hin rfl (by decide +kernel) rfl rfl (Nat.le_of_ble_eq_true rfl) d_M_init_37 (fun H locs hP hD hS => ?_)
  have hP : va_P D cls_ [(h0, .inr (3, [.int 0, .int 0, .ref q1, .ref q2, .ref q3, .ref q4, .null, .null, .null, .null, .int 0, .null, .int 0, .int 0, .null, .null, .null, .null, .null, .null])), (q1, .inl (cA 0, 200, .inl (fun _ => 0))), (q2, .inl (cA 0, 200, .inl (fun _ => 0))), (q3, .inl (cA 0, 200, .inl (fun _ => 0))), (q4, .inl (cA 0, 200, .inl (fun _ => 0)))] H := hP
  have hD : va_D A [(h0, .inr (3, [.int 0, .int 0, .ref q1, .ref q2, .ref q3, .ref q4, .null, .null, .null, .null, .int 0, .null, .int 0, .int 0, .null, .null, .null, .null, .null, .null])), (q1, .inl (cA 0, 200, .inl (fun _ => 0))), (q2, .inl (cA 0, 200, .inl (fun _ => 0))), (q3, .inl (cA 0, 200, .inl (fun _ => 0))), (q4, .inl (cA 0, 200, .inl (fun _ => 0)))] := hD
  refine lv_aload_n hx hb d_M_init_40 rfl (lv_at hl 0 rfl) ?_
  refine lv_sipush (v := 200) hx hb d_M_init_41 (by decide) ?_
  refine va_newa (atype := .long) (ty := .long) (N' := 200) (a0 := (200, .inr (.inl (fun _ => 0)))) hx hb (hg _ ac_long) rfl hK hP hD hS hA (fun _ => rfl) (by decide) (by decide) (by decide) (show 5 ≤ 15 by decide) (show 1000 ≤ 10135 by decide) d_M_init_44 (fun q5 c9 H hK9 hP hD hS => ?_)
  obtain rfl := cn_J hK9
  have hP : va_P D cls_ [(h0, .inr (3, [.int 0, .int 0, .ref q1, .ref q2, .ref q3, .ref q4, .null, .null, .null, .null, .int 0, .null, .int 0, .int 0, .null, .null, .null, .null, .null, .null])), (q1, .inl (cA 0, 200, .inl (fun _ => 0))), (q2, .inl (cA 0, 200, .inl (fun _ => 0))), (q3, .inl (cA 0, 200, .inl (fun _ => 0))), (q4, .inl (cA 0, 200, .inl (fun _ => 0))), (q5, .inl (cA 1, 200, .inr (.inl (fun _ => 0))))] H := hP
  have hD : va_D A [(h0, .inr (3, [.int 0, .int 0, .ref q1, .ref q2, .ref q3, .ref q4, .null, .null, .null, .null, .int 0, .null, .int 0, .int 0, .null, .null, .null, .null, .null, .null])), (q1, .inl (cA 0, 200, .inl (fun _ => 0))), (q2, .inl (cA 0, 200, .inl (fun _ => 0))), (q3, .inl (cA 0, 200, .inl (fun _ => 0))), (q4, .inl (cA 0, 200, .inl (fun _ => 0))), (q5, .inl (cA 1, 200, .inr (.inl (fun _ => 0))))] := hD
  refine W.widen (k := 5) (n := 1000) (by decide) (by decide) ?_
  refine va_putF (D := D) (ci := 3) (v := .ref q5) (ty := (.array .long)) (C := RM) (T := TM) (N := 20) hx hb hg inM tyM okM nmM hown hK hP hD hS 0 rfl rfl 6 (by decide) (hg _ fl_M_22) (fun _ h9 => h9) rfl hin rfl (by decide +kernel) rfl rfl (Nat.le_of_ble_eq_true rfl) d_M_init_46 (fun H locs hP hD hS => ?_)
  have hP : va_P D cls_ [(h0, .inr (3, [.int 0, .int 0, .ref q1, .ref q2, .ref q3, .ref q4, .ref q5, .null, .null, .null, .int 0, .null, .int 0, .int 0, .null, .null, .null, .null, .null, .null])), (q1, .inl (cA 0, 200, .inl (fun _ => 0))), (q2, .inl (cA 0, 200, .inl (fun _ => 0))), (q3, .inl (cA 0, 200, .inl (fun _ => 0))), (q4, .inl (cA 0, 200, .inl (fun _ => 0))), (q5, .inl (cA 1, 200, .inr (.inl (fun _ => 0))))] H := hP
  have hD : va_D A [(h0, .inr (3, [.int 0, .int 0, .ref q1, .ref q2, .ref q3, .ref q4, .ref q5, .null, .null, .null, .int 0, .null, .int 0, .int 0, .null, .null, .null, .null, .null, .null])), (q1, .inl (cA 0, 200, .inl (fun _ => 0))), (q2, .inl (cA 0, 200, .inl (fun _ => 0))), (q3, .inl (cA 0, 200, .inl (fun _ => 0))), (q4, .inl (cA 0, 200, .inl (fun _ => 0))), (q5, .inl (cA 1, 200, .inr (.inl (fun _ => 0))))] := hD
  refine lv_aload_n hx hb d_M_init_49 rfl (lv_at hl 0 rfl) ?_
  refine lv_sipush (v := 200) hx hb d_M_init_50 (by decide) ?_
  refine va_newa (atype := .boolean) (ty := .boolean) (N' := 200) (a0 := (200, .inl (fun _ => 0))) hx hb (hg _ ac_boolean) rfl hK hP hD hS hA (fun _ => rfl) (by decide) (by decide) (by decide) (show 6 ≤ 15 by decide) (show 1200 ≤ 10135 by decide) d_M_init_53 (fun q6 c9 H hK9 hP hD hS => ?_)
  obtain rfl := cn_Z hK9
  have hP : va_P D cls_ [(h0, .inr (3, [.int 0, .int 0, .ref q1, .ref q2, .ref q3, .ref q4, .ref q5, .null, .null, .null, .int 0, .null, .int 0, .int 0, .null, .null, .null, .null, .null, .null])), (q1, .inl (cA 0, 200, .inl (fun _ => 0))), (q2, .inl (cA 0, 200, .inl (fun _ => 0))), (q3, .inl (cA 0, 200, .inl (fun _ => 0))), (q4, .inl (cA 0, 200, .inl (fun _ => 0))), (q5, .inl (cA 1, 200, .inr (.inl (fun _ => 0)))), (q6, .inl (cA 4, 200, .inl (fun _ => 0)))] H := hP
  have hD : va_D A [(h0, .inr (3, [.int 0, .int 0, .ref q1, .ref q2, .ref q3, .ref q4, .ref q5, .null, .null, .null, .int 0, .null, .int 0, .int 0, .null, .null, .null, .null, .null, .null])), (q1, .inl (cA 0, 200, .inl (fun _ => 0))), (q2, .inl (cA 0, 200, .inl (fun _ => 0))), (q3, .inl (cA 0, 200, .inl (fun _ => 0))), (q4, .inl (cA 0, 200, .inl (fun _ => 0))), (q5, .inl (cA 1, 200, .inr (.inl (fun _ => 0)))), (q6, .inl (cA 4, 200, .inl (fun _ => 0)))] := hD
  refine W.widen (k := 6) (n := 1200) (by decide) (by decide) ?_
  refine va_putF (D := D) (ci := 3) (v := .ref q6) (ty := (.array .boolean)) (C := RM) (T := TM) (N := 20) hx hb hg inM tyM okM nmM hown hK hP hD hS 0 rfl rfl 7 (by decide) (hg _ fl_M_26) (fun _ h9 => h9) rfl hin rfl (by decide +kernel) rfl rfl (Nat.le_of_ble_eq_true rfl) d_M_init_55 (fun H locs hP hD hS => ?_)
  have hP : va_P D cls_ [(h0, .inr (3, [.int 0, .int 0, .ref q1, .ref q2, .ref q3, .ref q4, .ref q5, .ref q6, .null, .null, .int 0, .null, .int 0, .int 0, .null, .null, .null, .null, .null, .null])), (q1, .inl (cA 0, 200, .inl (fun _ => 0))), (q2, .inl (cA 0, 200, .inl (fun _ => 0))), (q3, .inl (cA 0, 200, .inl (fun _ => 0))), (q4, .inl (cA 0, 200, .inl (fun _ => 0))), (q5, .inl (cA 1, 200, .inr (.inl (fun _ => 0)))), (q6, .inl (cA 4, 200, .inl (fun _ => 0)))] H := hP
  have hD : va_D A [(h0, .inr (3, [.int 0, .int 0, .ref q1, .ref q2, .ref q3, .ref q4, .ref q5, .ref q6, .null, .null, .int 0, .null, .int 0, .int 0, .null, .null, .null, .null, .null, .null])), (q1, .inl (cA 0, 200, .inl (fun _ => 0))), (q2, .inl (cA 0, 200, .inl (fun _ => 0))), (q3, .inl (cA 0, 200, .inl (fun _ => 0))), (q4, .inl (cA 0, 200, .inl (fun _ => 0))), (q5, .inl (cA 1, 200, .inr (.inl (fun _ => 0)))), (q6, .inl (cA 4, 200, .inl (fun _ => 0)))] := hD
  refine lv_aload_n hx hb d_M_init_58 rfl (lv_at hl 0 rfl) ?_
  refine lv_sipush (v := 8000) hx hb d_M_init_59 (by decide) ?_
  refine va_newa (atype := .int) (ty := .int) (N' := 8000) (a0 := (8000, .inl (fun _ => 0))) hx hb (hg _ ac_int) rfl hK hP hD hS hA (fun _ => rfl) (by decide) (by decide) (by decide) (show 7 ≤ 15 by decide) (show 9200 ≤ 10135 by decide) d_M_init_62 (fun q7 c9 H hK9 hP hD hS => ?_)
  obtain rfl := cn_I hK9
  have hP : va_P D cls_ [(h0, .inr (3, [.int 0, .int 0, .ref q1, .ref q2, .ref q3, .ref q4, .ref q5, .ref q6, .null, .null, .int 0, .null, .int 0, .int 0, .null, .null, .null, .null, .null, .null])), (q1, .inl (cA 0, 200, .inl (fun _ => 0))), (q2, .inl (cA 0, 200, .inl (fun _ => 0))), (q3, .inl (cA 0, 200, .inl (fun _ => 0))), (q4, .inl (cA 0, 200, .inl (fun _ => 0))), (q5, .inl (cA 1, 200, .inr (.inl (fun _ => 0)))), (q6, .inl (cA 4, 200, .inl (fun _ => 0))), (q7, .inl (cA 0, 8000, .inl (fun _ => 0)))] H := hP
  have hD : va_D A [(h0, .inr (3, [.int 0, .int 0, .ref q1, .ref q2, .ref q3, .ref q4, .ref q5, .ref q6, .null, .null, .int 0, .null, .int 0, .int 0, .null, .null, .null, .null, .null, .null])), (q1, .inl (cA 0, 200, .inl (fun _ => 0))), (q2, .inl (cA 0, 200, .inl (fun _ => 0))), (q3, .inl (cA 0, 200, .inl (fun _ => 0))), (q4, .inl (cA 0, 200, .inl (fun _ => 0))), (q5, .inl (cA 1, 200, .inr (.inl (fun _ => 0)))), (q6, .inl (cA 4, 200, .inl (fun _ => 0))), (q7, .inl (cA 0, 8000, .inl (fun _ => 0)))] := hD
  refine W.widen (k := 7) (n := 9200) (by decide) (by decide) ?_
  refine va_putF (D := D) (ci := 3) (v := .ref q7) (ty := (.array .int)) (C := RM) (T := TM) (N := 20) hx hb hg inM tyM okM nmM hown hK hP hD hS 0 rfl rfl 8 (by decide) (hg _ fl_M_30) (fun _ h9 => h9) rfl hin rfl (by decide +kernel) rfl rfl (Nat.le_of_ble_eq_true rfl) d_M_init_64 (fun H locs hP hD hS => ?_)
  have hP : va_P D cls_ [(h0, .inr (3, [.int 0, .int 0, .ref q1, .ref q2, .ref q3, .ref q4, .ref q5, .ref q6, .ref q7, .null, .int 0, .null, .int 0, .int 0, .null, .null, .null, .null, .null, .null])), (q1, .inl (cA 0, 200, .inl (fun _ => 0))), (q2, .inl (cA 0, 200, .inl (fun _ => 0))), (q3, .inl (cA 0, 200, .inl (fun _ => 0))), (q4, .inl (cA 0, 200, .inl (fun _ => 0))), (q5, .inl (cA 1, 200, .inr (.inl (fun _ => 0)))), (q6, .inl (cA 4, 200, .inl (fun _ => 0))), (q7, .inl (cA 0, 8000, .inl (fun _ => 0)))] H := hP
  have hD : va_D A [(h0, .inr (3, [.int 0, .int 0, .ref q1, .ref q2, .ref q3, .ref q4, .ref q5, .ref q6, .ref q7, .null, .int 0, .null, .int 0, .int 0, .null, .null, .null, .null, .null, .null])), (q1, .inl (cA 0, 200, .inl (fun _ => 0))), (q2, .inl (cA 0, 200, .inl (fun _ => 0))), (q3, .inl (cA 0, 200, .inl (fun _ => 0))), (q4, .inl (cA 0, 200, .inl (fun _ => 0))), (q5, .inl (cA 1, 200, .inr (.inl (fun _ => 0)))), (q6, .inl (cA 4, 200, .inl (fun _ => 0))), (q7, .inl (cA 0, 8000, .inl (fun _ => 0)))] := hD
  refine lv_aload_n hx hb d_M_init_67 rfl (lv_at hl 0 rfl) ?_
  refine lv_sipush (v := 200) hx hb d_M_init_68 (by decide) ?_
  refine va_newa (atype := .int) (ty := .int) (N' := 200) (a0 := (200, .inl (fun _ => 0))) hx hb (hg _ ac_int) rfl hK hP hD hS hA (fun _ => rfl) (by decide) (by decide) (by decide) (show 8 ≤ 15 by decide) (show 9400 ≤ 10135 by decide) d_M_init_71 (fun q8 c9 H hK9 hP hD hS => ?_)
  obtain rfl := cn_I hK9
  have hP : va_P D cls_ [(h0, .inr (3, [.int 0, .int 0, .ref q1, .ref q2, .ref q3, .ref q4, .ref q5, .ref q6, .ref q7, .null, .int 0, .null, .int 0, .int 0, .null, .null, .null, .null, .null, .null])), (q1, .inl (cA 0, 200, .inl (fun _ => 0))), (q2, .inl (cA 0, 200, .inl (fun _ => 0))), (q3, .inl (cA 0, 200, .inl (fun _ => 0))), (q4, .inl (cA 0, 200, .inl (fun _ => 0))), (q5, .inl (cA 1, 200, .inr (.inl (fun _ => 0)))), (q6, .inl (cA 4, 200, .inl (fun _ => 0))), (q7, .inl (cA 0, 8000, .inl (fun _ => 0))), (q8, .inl (cA 0, 200, .inl (fun _ => 0)))] H := hP
  have hD : va_D A [(h0, .inr (3, [.int 0, .int 0, .ref q1, .ref q2, .ref q3, .ref q4, .ref q5, .ref q6, .ref q7, .null, .int 0, .null, .int 0, .int 0, .null, .null, .null, .null, .null, .null])), (q1, .inl (cA 0, 200, .inl (fun _ => 0))), (q2, .inl (cA 0, 200, .inl (fun _ => 0))), (q3, .inl (cA 0, 200, .inl (fun _ => 0))), (q4, .inl (cA 0, 200, .inl (fun _ => 0))), (q5, .inl (cA 1, 200, .inr (.inl (fun _ => 0)))), (q6, .inl (cA 4, 200, .inl (fun _ => 0))), (q7, .inl (cA 0, 8000, .inl (fun _ => 0))), (q8, .inl (cA 0, 200, .inl (fun _ => 0)))] := hD
  refine W.widen (k := 8) (n := 9400) (by decide) (by decide) ?_
  refine va_putF (D := D) (ci := 3) (v := .ref q8) (ty := (.array .int)) (C := RM) (T := TM) (N := 20) hx hb hg inM tyM okM nmM hown hK hP hD hS 0 rfl rfl 9 (by decide) (hg _ fl_M_33) (fun _ h9 => h9) rfl hin rfl (by decide +kernel) rfl rfl (Nat.le_of_ble_eq_true rfl) d_M_init_73 (fun H locs hP hD hS => ?_)
  have hP : va_P D cls_ [(h0, .inr (3, [.int 0, .int 0, .ref q1, .ref q2, .ref q3, .ref q4, .ref q5, .ref q6, .ref q7, .ref q8, .int 0, .null, .int 0, .int 0, .null, .null, .null, .null, .null, .null])), (q1, .inl (cA 0, 200, .inl (fun _ => 0))), (q2, .inl (cA 0, 200, .inl (fun _ => 0))), (q3, .inl (cA 0, 200, .inl (fun _ => 0))), (q4, .inl (cA 0, 200, .inl (fun _ => 0))), (q5, .inl (cA 1, 200, .inr (.inl (fun _ => 0)))), (q6, .inl (cA 4, 200, .inl (fun _ => 0))), (q7, .inl (cA 0, 8000, .inl (fun _ => 0))), (q8, .inl (cA 0, 200, .inl (fun _ => 0)))] H := hP
  have hD : va_D A [(h0, .inr (3, [.int 0, .int 0, .ref q1, .ref q2, .ref q3, .ref q4, .ref q5, .ref q6, .ref q7, .ref q8, .int 0, .null, .int 0, .int 0, .null, .null, .null, .null, .null, .null])), (q1, .inl (cA 0, 200, .inl (fun _ => 0))), (q2, .inl (cA 0, 200, .inl (fun _ => 0))), (q3, .inl (cA 0, 200, .inl (fun _ => 0))), (q4, .inl (cA 0, 200, .inl (fun _ => 0))), (q5, .inl (cA 1, 200, .inr (.inl (fun _ => 0)))), (q6, .inl (cA 4, 200, .inl (fun _ => 0))), (q7, .inl (cA 0, 8000, .inl (fun _ => 0))), (q8, .inl (cA 0, 200, .inl (fun _ => 0)))] := hD
  refine lv_aload_n hx hb d_M_init_76 rfl (lv_at hl 0 rfl) ?_
  refine lv_sipush (v := 200) hx hb d_M_init_77 (by decide) ?_
  refine va_newa (atype := .int) (ty := .int) (N' := 200) (a0 := (200, .inl (fun _ => 0))) hx hb (hg _ ac_int) rfl hK hP hD hS hA (fun _ => rfl) (by decide) (by decide) (by decide) (show 9 ≤ 15 by decide) (show 9600 ≤ 10135 by decide) d_M_init_80 (fun q9 c9 H hK9 hP hD hS => ?_)
  obtain rfl := cn_I hK9
  have hP : va_P D cls_ [(h0, .inr (3, [.int 0, .int 0, .ref q1, .ref q2, .ref q3, .ref q4, .ref q5, .ref q6, .ref q7, .ref q8, .int 0, .null, .int 0, .int 0, .null, .null, .null, .null, .null, .null])), (q1, .inl (cA 0, 200, .inl (fun _ => 0))), (q2, .inl (cA 0, 200, .inl (fun _ => 0))), (q3, .inl (cA 0, 200, .inl (fun _ => 0))), (q4, .inl (cA 0, 200, .inl (fun _ => 0))), (q5, .inl (cA 1, 200, .inr (.inl (fun _ => 0)))), (q6, .inl (cA 4, 200, .inl (fun _ => 0))), (q7, .inl (cA 0, 8000, .inl (fun _ => 0))), (q8, .inl (cA 0, 200, .inl (fun _ => 0))), (q9, .inl (cA 0, 200, .inl (fun _ => 0)))] H := hP
  have hD : va_D A [(h0, .inr (3, [.int 0, .int 0, .ref q1, .ref q2, .ref q3, .ref q4, .ref q5, .ref q6, .ref q7, .ref q8, .int 0, .null, .int 0, .int 0, .null, .null, .null, .null, .null, .null])), (q1, .inl (cA 0, 200, .inl (fun _ => 0))), (q2, .inl (cA 0, 200, .inl (fun _ => 0))), (q3, .inl (cA 0, 200, .inl (fun _ => 0))), (q4, .inl (cA 0, 200, .inl (fun _ => 0))), (q5, .inl (cA 1, 200, .inr (.inl (fun _ => 0)))), (q6, .inl (cA 4, 200, .inl (fun _ => 0))), (q7, .inl (cA 0, 8000, .inl (fun _ => 0))), (q8, .inl (cA 0, 200, .inl (fun _ => 0))), (q9, .inl (cA 0, 200, .inl (fun _ => 0)))] := hD
  refine W.widen (k := 9) (n := 9600) (by decide) (by decide) ?_
  refine va_putF (D := D) (ci := 3) (v := .ref q9) (ty := (.array .int)) (C := RM) (T := TM) (N := 20) hx hb hg inM tyM okM nmM hown hK hP hD hS 0 rfl rfl 11 (by decide) (hg _ fl_M_36) (fun _ h9 => h9) rfl hin rfl (by decide +kernel) rfl rfl (Nat.le_of_ble_eq_true rfl) d_M_init_82 (fun H locs hP hD hS => ?_)
  have hP : va_P D cls_ [(h0, .inr (3, [.int 0, .int 0, .ref q1, .ref q2, .ref q3, .ref q4, .ref q5, .ref q6, .ref q7, .ref q8, .int 0, .ref q9, .int 0, .int 0, .null, .null, .null, .null, .null, .null])), (q1, .inl (cA 0, 200, .inl (fun _ => 0))), (q2, .inl (cA 0, 200, .inl (fun _ => 0))), (q3, .inl (cA 0, 200, .inl (fun _ => 0))), (q4, .inl (cA 0, 200, .inl (fun _ => 0))), (q5, .inl (cA 1, 200, .inr (.inl (fun _ => 0)))), (q6, .inl (cA 4, 200, .inl (fun _ => 0))), (q7, .inl (cA 0, 8000, .inl (fun _ => 0))), (q8, .inl (cA 0, 200, .inl (fun _ => 0))), (q9, .inl (cA 0, 200, .inl (fun _ => 0)))] H := hP
  have hD : va_D A [(h0, .inr (3, [.int 0, .int 0, .ref q1, .ref q2, .ref q3, .ref q4, .ref q5, .ref q6, .ref q7, .ref q8, .int 0, .ref q9, .int 0, .int 0, .null, .null, .null, .null, .null, .null])), (q1, .inl (cA 0, 200, .inl (fun _ => 0))), (q2, .inl (cA 0, 200, .inl (fun _ => 0))), (q3, .inl (cA 0, 200, .inl (fun _ => 0))), (q4, .inl (cA 0, 200, .inl (fun _ => 0))), (q5, .inl (cA 1, 200, .inr (.inl (fun _ => 0)))), (q6, .inl (cA 4, 200, .inl (fun _ => 0))), (q7, .inl (cA 0, 8000, .inl (fun _ => 0))), (q8, .inl (cA 0, 200, .inl (fun _ => 0))), (q9, .inl (cA 0, 200, .inl (fun _ => 0)))] := hD
  refine lv_aload_n hx hb d_M_init_85 rfl (lv_at hl 0 rfl) ?_
  refine lv_iconst (v := 1) hx hb d_M_init_86 (by decide) ?_
  refine va_put (D := D) (ci := 3) (v := .int 1) (ty := .boolean) (C := RM) (T := TM) (N := 20) hx hb hg inM tyM okM nmM hown hK hP hD hS 0 rfl rfl 12 (by decide) (hg _ fl_M_39) (fun _ h9 => h9) rfl (by decide +kernel) rfl rfl (Nat.le_of_ble_eq_true rfl) d_M_init_87 (fun H locs hP hD hS => ?_)
  have hP : va_P D cls_ [(h0, .inr (3, [.int 0, .int 0, .ref q1, .ref q2, .ref q3, .ref q4, .ref q5, .ref q6, .ref q7, .ref q8, .int 0, .ref q9, .int 1, .int 0, .null, .null, .null, .null, .null, .null])), (q1, .inl (cA 0, 200, .inl (fun _ => 0))), (q2, .inl (cA 0, 200, .inl (fun _ => 0))), (q3, .inl (cA 0, 200, .inl (fun _ => 0))), (q4, .inl (cA 0, 200, .inl (fun _ => 0))), (q5, .inl (cA 1, 200, .inr (.inl (fun _ => 0)))), (q6, .inl (cA 4, 200, .inl (fun _ => 0))), (q7, .inl (cA 0, 8000, .inl (fun _ => 0))), (q8, .inl (cA 0, 200, .inl (fun _ => 0))), (q9, .inl (cA 0, 200, .inl (fun _ => 0)))] H := hP
  have hD : va_D A [(h0, .inr (3, [.int 0, .int 0, .ref q1, .ref q2, .ref q3, .ref q4, .ref q5, .ref q6, .ref q7, .ref q8, .int 0, .ref q9, .int 1, .int 0, .null, .null, .null, .null, .null, .null])), (q1, .inl (cA 0, 200, .inl (fun _ => 0))), (q2, .inl (cA 0, 200, .inl (fun _ => 0))), (q3, .inl (cA 0, 200, .inl (fun _ => 0))), (q4, .inl (cA 0, 200, .inl (fun _ => 0))), (q5, .inl (cA 1, 200, .inr (.inl (fun _ => 0)))), (q6, .inl (cA 4, 200, .inl (fun _ => 0))), (q7, .inl (cA 0, 8000, .inl (fun _ => 0))), (q8, .inl (cA 0, 200, .inl (fun _ => 0))), (q9, .inl (cA 0, 200, .inl (fun _ => 0)))] := hD
  refine lv_aload_n hx hb d_M_init_90 rfl (lv_at hl 0 rfl) ?_
  refine lv_iconst (v := (-1)) hx hb d_M_init_91 (by decide) ?_
  refine va_put (D := D) (ci := 3) (v := .int (-1)) (ty := .int) (C := RM) (T := TM) (N := 20) hx hb hg inM tyM okM nmM hown hK hP hD hS 0 rfl rfl 13 (by decide) (hg _ fl_M_43) (fun _ h9 => h9) rfl (by decide +kernel) rfl rfl (Nat.le_of_ble_eq_true rfl) d_M_init_92 (fun H locs hP hD hS => ?_)
  have hP : va_P D cls_ [(h0, .inr (3, [.int 0, .int 0, .ref q1, .ref q2, .ref q3, .ref q4, .ref q5, .ref q6, .ref q7, .ref q8, .int 0, .ref q9, .int 1, .int (-1), .null, .null, .null, .null, .null, .null])), (q1, .inl (cA 0, 200, .inl (fun _ => 0))), (q2, .inl (cA 0, 200, .inl (fun _ => 0))), (q3, .inl (cA 0, 200, .inl (fun _ => 0))), (q4, .inl (cA 0, 200, .inl (fun _ => 0))), (q5, .inl (cA 1, 200, .inr (.inl (fun _ => 0)))), (q6, .inl (cA 4, 200, .inl (fun _ => 0))), (q7, .inl (cA 0, 8000, .inl (fun _ => 0))), (q8, .inl (cA 0, 200, .inl (fun _ => 0))), (q9, .inl (cA 0, 200, .inl (fun _ => 0)))] H := hP
  have hD : va_D A [(h0, .inr (3, [.int 0, .int 0, .ref q1, .ref q2, .ref q3, .ref q4, .ref q5, .ref q6, .ref q7, .ref q8, .int 0, .ref q9, .int 1, .int (-1), .null, .null, .null, .null, .null, .null])), (q1, .inl (cA 0, 200, .inl (fun _ => 0))), (q2, .inl (cA 0, 200, .inl (fun _ => 0))), (q3, .inl (cA 0, 200, .inl (fun _ => 0))), (q4, .inl (cA 0, 200, .inl (fun _ => 0))), (q5, .inl (cA 1, 200, .inr (.inl (fun _ => 0)))), (q6, .inl (cA 4, 200, .inl (fun _ => 0))), (q7, .inl (cA 0, 8000, .inl (fun _ => 0))), (q8, .inl (cA 0, 200, .inl (fun _ => 0))), (q9, .inl (cA 0, 200, .inl (fun _ => 0)))] := hD
  refine lv_aload_n hx hb d_M_init_95 rfl (lv_at hl 0 rfl) ?_
  refine lv_bipush (v := 8) hx hb d_M_init_96 (by decide) ?_
  refine va_newa (atype := .int) (ty := .int) (N' := 8) (a0 := (8, .inl (fun _ => 0))) hx hb (hg _ ac_int) rfl hK hP hD hS hA (fun _ => rfl) (by decide) (by decide) (by decide) (show 10 ≤ 15 by decide) (show 9608 ≤ 10135 by decide) d_M_init_98 (fun q10 c9 H hK9 hP hD hS => ?_)
  obtain rfl := cn_I hK9
  have hP : va_P D cls_ [(h0, .inr (3, [.int 0, .int 0, .ref q1, .ref q2, .ref q3, .ref q4, .ref q5, .ref q6, .ref q7, .ref q8, .int 0, .ref q9, .int 1, .int (-1), .null, .null, .null, .null, .null, .null])), (q1, .inl (cA 0, 200, .inl (fun _ => 0))), (q2, .inl (cA 0, 200, .inl (fun _ => 0))), (q3, .inl (cA 0, 200, .inl (fun _ => 0))), (q4, .inl (cA 0, 200, .inl (fun _ => 0))), (q5, .inl (cA 1, 200, .inr (.inl (fun _ => 0)))), (q6, .inl (cA 4, 200, .inl (fun _ => 0))), (q7, .inl (cA 0, 8000, .inl (fun _ => 0))), (q8, .inl (cA 0, 200, .inl (fun _ => 0))), (q9, .inl (cA 0, 200, .inl (fun _ => 0))), (q10, .inl (cA 0, 8, .inl (fun _ => 0)))] H := hP
  have hD : va_D A [(h0, .inr (3, [.int 0, .int 0, .ref q1, .ref q2, .ref q3, .ref q4, .ref q5, .ref q6, .ref q7, .ref q8, .int 0, .ref q9, .int 1, .int (-1), .null, .null, .null, .null, .null, .null])), (q1, .inl (cA 0, 200, .inl (fun _ => 0))), (q2, .inl (cA 0, 200, .inl (fun _ => 0))), (q3, .inl (cA 0, 200, .inl (fun _ => 0))), (q4, .inl (cA 0, 200, .inl (fun _ => 0))), (q5, .inl (cA 1, 200, .inr (.inl (fun _ => 0)))), (q6, .inl (cA 4, 200, .inl (fun _ => 0))), (q7, .inl (cA 0, 8000, .inl (fun _ => 0))), (q8, .inl (cA 0, 200, .inl (fun _ => 0))), (q9, .inl (cA 0, 200, .inl (fun _ => 0))), (q10, .inl (cA 0, 8, .inl (fun _ => 0)))] := hD
  refine W.widen (k := 10) (n := 9608) (by decide) (by decide) ?_
  refine va_putF (D := D) (ci := 3) (v := .ref q10) (ty := (.array .int)) (C := RM) (T := TM) (N := 20) hx hb hg inM tyM okM nmM hown hK hP hD hS 0 rfl rfl 14 (by decide) (hg _ fl_M_47) (fun _ h9 => h9) rfl hin rfl (by decide +kernel) rfl rfl (Nat.le_of_ble_eq_true rfl) d_M_init_100 (fun H locs hP hD hS => ?_)
  have hP : va_P D cls_ [(h0, .inr (3, [.int 0, .int 0, .ref q1, .ref q2, .ref q3, .ref q4, .ref q5, .ref q6, .ref q7, .ref q8, .int 0, .ref q9, .int 1, .int (-1), .ref q10, .null, .null, .null, .null, .null])), (q1, .inl (cA 0, 200, .inl (fun _ => 0))), (q2, .inl (cA 0, 200, .inl (fun _ => 0))), (q3, .inl (cA 0, 200, .inl (fun _ => 0))), (q4, .inl (cA 0, 200, .inl (fun _ => 0))), (q5, .inl (cA 1, 200, .inr (.inl (fun _ => 0)))), (q6, .inl (cA 4, 200, .inl (fun _ => 0))), (q7, .inl (cA 0, 8000, .inl (fun _ => 0))), (q8, .inl (cA 0, 200, .inl (fun _ => 0))), (q9, .inl (cA 0, 200, .inl (fun _ => 0))), (q10, .inl (cA 0, 8, .inl (fun _ => 0)))] H := hP
  have hD : va_D A [(h0, .inr (3, [.int 0, .int 0, .ref q1, .ref q2, .ref q3, .ref q4, .ref q5, .ref q6, .ref q7, .ref q8, .int 0, .ref q9, .int 1, .int (-1), .ref q10, .null, .null, .null, .null, .null])), (q1, .inl (cA 0, 200, .inl (fun _ => 0))), (q2, .inl (cA 0, 200, .inl (fun _ => 0))), (q3, .inl (cA 0, 200, .inl (fun _ => 0))), (q4, .inl (cA 0, 200, .inl (fun _ => 0))), (q5, .inl (cA 1, 200, .inr (.inl (fun _ => 0)))), (q6, .inl (cA 4, 200, .inl (fun _ => 0))), (q7, .inl (cA 0, 8000, .inl (fun _ => 0))), (q8, .inl (cA 0, 200, .inl (fun _ => 0))), (q9, .inl (cA 0, 200, .inl (fun _ => 0))), (q10, .inl (cA 0, 8, .inl (fun _ => 0)))] := hD
  refine lv_aload_n hx hb d_M_init_103 rfl (lv_at hl 0 rfl) ?_
  refine lv_iconst (v := 4) hx hb d_M_init_104 (by decide) ?_
  refine va_newa (atype := .long) (ty := .long) (N' := 4) (a0 := (4, .inr (.inl (fun _ => 0)))) hx hb (hg _ ac_long) rfl hK hP hD hS hA (fun _ => rfl) (by decide) (by decide) (by decide) (show 11 ≤ 15 by decide) (show 9612 ≤ 10135 by decide) d_M_init_105 (fun q11 c9 H hK9 hP hD hS => ?_)
  obtain rfl := cn_J hK9
  have hP : va_P D cls_ [(h0, .inr (3, [.int 0, .int 0, .ref q1, .ref q2, .ref q3, .ref q4, .ref q5, .ref q6, .ref q7, .ref q8, .int 0, .ref q9, .int 1, .int (-1), .ref q10, .null, .null, .null, .null, .null])), (q1, .inl (cA 0, 200, .inl (fun _ => 0))), (q2, .inl (cA 0, 200, .inl (fun _ => 0))), (q3, .inl (cA 0, 200, .inl (fun _ => 0))), (q4, .inl (cA 0, 200, .inl (fun _ => 0))), (q5, .inl (cA 1, 200, .inr (.inl (fun _ => 0)))), (q6, .inl (cA 4, 200, .inl (fun _ => 0))), (q7, .inl (cA 0, 8000, .inl (fun _ => 0))), (q8, .inl (cA 0, 200, .inl (fun _ => 0))), (q9, .inl (cA 0, 200, .inl (fun _ => 0))), (q10, .inl (cA 0, 8, .inl (fun _ => 0))), (q11, .inl (cA 1, 4, .inr (.inl (fun _ => 0))))] H := hP
  have hD : va_D A [(h0, .inr (3, [.int 0, .int 0, .ref q1, .ref q2, .ref q3, .ref q4, .ref q5, .ref q6, .ref q7, .ref q8, .int 0, .ref q9, .int 1, .int (-1), .ref q10, .null, .null, .null, .null, .null])), (q1, .inl (cA 0, 200, .inl (fun _ => 0))), (q2, .inl (cA 0, 200, .inl (fun _ => 0))), (q3, .inl (cA 0, 200, .inl (fun _ => 0))), (q4, .inl (cA 0, 200, .inl (fun _ => 0))), (q5, .inl (cA 1, 200, .inr (.inl (fun _ => 0)))), (q6, .inl (cA 4, 200, .inl (fun _ => 0))), (q7, .inl (cA 0, 8000, .inl (fun _ => 0))), (q8, .inl (cA 0, 200, .inl (fun _ => 0))), (q9, .inl (cA 0, 200, .inl (fun _ => 0))), (q10, .inl (cA 0, 8, .inl (fun _ => 0))), (q11, .inl (cA 1, 4, .inr (.inl (fun _ => 0))))] := hD
  refine W.widen (k := 11) (n := 9612) (by decide) (by decide) ?_
  refine va_putF (D := D) (ci := 3) (v := .ref q11) (ty := (.array .long)) (C := RM) (T := TM) (N := 20) hx hb hg inM tyM okM nmM hown hK hP hD hS 0 rfl rfl 15 (by decide) (hg _ fl_M_50) (fun _ h9 => h9) rfl hin rfl (by decide +kernel) rfl rfl (Nat.le_of_ble_eq_true rfl) d_M_init_107 (fun H locs hP hD hS => ?_)
  have hP : va_P D cls_ [(h0, .inr (3, [.int 0, .int 0, .ref q1, .ref q2, .ref q3, .ref q4, .ref q5, .ref q6, .ref q7, .ref q8, .int 0, .ref q9, .int 1, .int (-1), .ref q10, .ref q11, .null, .null, .null, .null])), (q1, .inl (cA 0, 200, .inl (fun _ => 0))), (q2, .inl (cA 0, 200, .inl (fun _ => 0))), (q3, .inl (cA 0, 200, .inl (fun _ => 0))), (q4, .inl (cA 0, 200, .inl (fun _ => 0))), (q5, .inl (cA 1, 200, .inr (.inl (fun _ => 0)))), (q6, .inl (cA 4, 200, .inl (fun _ => 0))), (q7, .inl (cA 0, 8000, .inl (fun _ => 0))), (q8, .inl (cA 0, 200, .inl (fun _ => 0))), (q9, .inl (cA 0, 200, .inl (fun _ => 0))), (q10, .inl (cA 0, 8, .inl (fun _ => 0))), (q11, .inl (cA 1, 4, .inr (.inl (fun _ => 0))))] H := hP
  have hD : va_D A [(h0, .inr (3, [.int 0, .int 0, .ref q1, .ref q2, .ref q3, .ref q4, .ref q5, .ref q6, .ref q7, .ref q8, .int 0, .ref q9, .int 1, .int (-1), .ref q10, .ref q11, .null, .null, .null, .null])), (q1, .inl (cA 0, 200, .inl (fun _ => 0))), (q2, .inl (cA 0, 200, .inl (fun _ => 0))), (q3, .inl (cA 0, 200, .inl (fun _ => 0))), (q4, .inl (cA 0, 200, .inl (fun _ => 0))), (q5, .inl (cA 1, 200, .inr (.inl (fun _ => 0)))), (q6, .inl (cA 4, 200, .inl (fun _ => 0))), (q7, .inl (cA 0, 8000, .inl (fun _ => 0))), (q8, .inl (cA 0, 200, .inl (fun _ => 0))), (q9, .inl (cA 0, 200, .inl (fun _ => 0))), (q10, .inl (cA 0, 8, .inl (fun _ => 0))), (q11, .inl (cA 1, 4, .inr (.inl (fun _ => 0))))] := hD
  refine lv_aload_n hx hb d_M_init_110 rfl (lv_at hl 0 rfl) ?_
  refine lv_bipush (v := 120) hx hb d_M_init_111 (by decide) ?_
  refine va_newa (atype := .int) (ty := .int) (N' := 120) (a0 := (120, .inl (fun _ => 0))) hx hb (hg _ ac_int) rfl hK hP hD hS hA (fun _ => rfl) (by decide) (by decide) (by decide) (show 12 ≤ 15 by decide) (show 9732 ≤ 10135 by decide) d_M_init_113 (fun q12 c9 H hK9 hP hD hS => ?_)
  obtain rfl := cn_I hK9
  have hP : va_P D cls_ [(h0, .inr (3, [.int 0, .int 0, .ref q1, .ref q2, .ref q3, .ref q4, .ref q5, .ref q6, .ref q7, .ref q8, .int 0, .ref q9, .int 1, .int (-1), .ref q10, .ref q11, .null, .null, .null, .null])), (q1, .inl (cA 0, 200, .inl (fun _ => 0))), (q2, .inl (cA 0, 200, .inl (fun _ => 0))), (q3, .inl (cA 0, 200, .inl (fun _ => 0))), (q4, .inl (cA 0, 200, .inl (fun _ => 0))), (q5, .inl (cA 1, 200, .inr (.inl (fun _ => 0)))), (q6, .inl (cA 4, 200, .inl (fun _ => 0))), (q7, .inl (cA 0, 8000, .inl (fun _ => 0))), (q8, .inl (cA 0, 200, .inl (fun _ => 0))), (q9, .inl (cA 0, 200, .inl (fun _ => 0))), (q10, .inl (cA 0, 8, .inl (fun _ => 0))), (q11, .inl (cA 1, 4, .inr (.inl (fun _ => 0)))), (q12, .inl (cA 0, 120, .inl (fun _ => 0)))] H := hP
  have hD : va_D A [(h0, .inr (3, [.int 0, .int 0, .ref q1, .ref q2, .ref q3, .ref q4, .ref q5, .ref q6, .ref q7, .ref q8, .int 0, .ref q9, .int 1, .int (-1), .ref q10, .ref q11, .null, .null, .null, .null])), (q1, .inl (cA 0, 200, .inl (fun _ => 0))), (q2, .inl (cA 0, 200, .inl (fun _ => 0))), (q3, .inl (cA 0, 200, .inl (fun _ => 0))), (q4, .inl (cA 0, 200, .inl (fun _ => 0))), (q5, .inl (cA 1, 200, .inr (.inl (fun _ => 0)))), (q6, .inl (cA 4, 200, .inl (fun _ => 0))), (q7, .inl (cA 0, 8000, .inl (fun _ => 0))), (q8, .inl (cA 0, 200, .inl (fun _ => 0))), (q9, .inl (cA 0, 200, .inl (fun _ => 0))), (q10, .inl (cA 0, 8, .inl (fun _ => 0))), (q11, .inl (cA 1, 4, .inr (.inl (fun _ => 0)))), (q12, .inl (cA 0, 120, .inl (fun _ => 0)))] := hD
  refine W.widen (k := 12) (n := 9732) (by decide) (by decide) ?_
  refine va_putF (D := D) (ci := 3) (v := .ref q12) (ty := (.array .int)) (C := RM) (T := TM) (N := 20) hx hb hg inM tyM okM nmM hown hK hP hD hS 0 rfl rfl 16 (by decide) (hg _ fl_M_53) (fun _ h9 => h9) rfl hin rfl (by decide +kernel) rfl rfl (Nat.le_of_ble_eq_true rfl) d_M_init_115 (fun H locs hP hD hS => ?_)
  have hP : va_P D cls_ [(h0, .inr (3, [.int 0, .int 0, .ref q1, .ref q2, .ref q3, .ref q4, .ref q5, .ref q6, .ref q7, .ref q8, .int 0, .ref q9, .int 1, .int (-1), .ref q10, .ref q11, .ref q12, .null, .null, .null])), (q1, .inl (cA 0, 200, .inl (fun _ => 0))), (q2, .inl (cA 0, 200, .inl (fun _ => 0))), (q3, .inl (cA 0, 200, .inl (fun _ => 0))), (q4, .inl (cA 0, 200, .inl (fun _ => 0))), (q5, .inl (cA 1, 200, .inr (.inl (fun _ => 0)))), (q6, .inl (cA 4, 200, .inl (fun _ => 0))), (q7, .inl (cA 0, 8000, .inl (fun _ => 0))), (q8, .inl (cA 0, 200, .inl (fun _ => 0))), (q9, .inl (cA 0, 200, .inl (fun _ => 0))), (q10, .inl (cA 0, 8, .inl (fun _ => 0))), (q11, .inl (cA 1, 4, .inr (.inl (fun _ => 0)))), (q12, .inl (cA 0, 120, .inl (fun _ => 0)))] H := hP
  have hD : va_D A [(h0, .inr (3, [.int 0, .int 0, .ref q1, .ref q2, .ref q3, .ref q4, .ref q5, .ref q6, .ref q7, .ref q8, .int 0, .ref q9, .int 1, .int (-1), .ref q10, .ref q11, .ref q12, .null, .null, .null])), (q1, .inl (cA 0, 200, .inl (fun _ => 0))), (q2, .inl (cA 0, 200, .inl (fun _ => 0))), (q3, .inl (cA 0, 200, .inl (fun _ => 0))), (q4, .inl (cA 0, 200, .inl (fun _ => 0))), (q5, .inl (cA 1, 200, .inr (.inl (fun _ => 0)))), (q6, .inl (cA 4, 200, .inl (fun _ => 0))), (q7, .inl (cA 0, 8000, .inl (fun _ => 0))), (q8, .inl (cA 0, 200, .inl (fun _ => 0))), (q9, .inl (cA 0, 200, .inl (fun _ => 0))), (q10, .inl (cA 0, 8, .inl (fun _ => 0))), (q11, .inl (cA 1, 4, .inr (.inl (fun _ => 0)))), (q12, .inl (cA 0, 120, .inl (fun _ => 0)))] := hD
  refine lv_aload_n hx hb d_M_init_118 rfl (lv_at hl 0 rfl) ?_
  refine lv_iconst (v := 3) hx hb d_M_init_119 (by decide) ?_
  refine va_newa (atype := .int) (ty := .int) (N' := 3) (a0 := (3, .inl (fun _ => 0))) hx hb (hg _ ac_int) rfl hK hP hD hS hA (fun _ => rfl) (by decide) (by decide) (by decide) (show 13 ≤ 15 by decide) (show 9735 ≤ 10135 by decide) d_M_init_120 (fun q13 c9 H hK9 hP hD hS => ?_)
  obtain rfl := cn_I hK9
  have hP : va_P D cls_ [(h0, .inr (3, [.int 0, .int 0, .ref q1, .ref q2, .ref q3, .ref q4, .ref q5, .ref q6, .ref q7, .ref q8, .int 0, .ref q9, .int 1, .int (-1), .ref q10, .ref q11, .ref q12, .null, .null, .null])), (q1, .inl (cA 0, 200, .inl (fun _ => 0))), (q2, .inl (cA 0, 200, .inl (fun _ => 0))), (q3, .inl (cA 0, 200, .inl (fun _ => 0))), (q4, .inl (cA 0, 200, .inl (fun _ => 0))), (q5, .inl (cA 1, 200, .inr (.inl (fun _ => 0)))), (q6, .inl (cA 4, 200, .inl (fun _ => 0))), (q7, .inl (cA 0, 8000, .inl (fun _ => 0))), (q8, .inl (cA 0, 200, .inl (fun _ => 0))), (q9, .inl (cA 0, 200, .inl (fun _ => 0))), (q10, .inl (cA 0, 8, .inl (fun _ => 0))), (q11, .inl (cA 1, 4, .inr (.inl (fun _ => 0)))), (q12, .inl (cA 0, 120, .inl (fun _ => 0))), (q13, .inl (cA 0, 3, .inl (fun _ => 0)))] H := hP
  have hD : va_D A [(h0, .inr (3, [.int 0, .int 0, .ref q1, .ref q2, .ref q3, .ref q4, .ref q5, .ref q6, .ref q7, .ref q8, .int 0, .ref q9, .int 1, .int (-1), .ref q10, .ref q11, .ref q12, .null, .null, .null])), (q1, .inl (cA 0, 200, .inl (fun _ => 0))), (q2, .inl (cA 0, 200, .inl (fun _ => 0))), (q3, .inl (cA 0, 200, .inl (fun _ => 0))), (q4, .inl (cA 0, 200, .inl (fun _ => 0))), (q5, .inl (cA 1, 200, .inr (.inl (fun _ => 0)))), (q6, .inl (cA 4, 200, .inl (fun _ => 0))), (q7, .inl (cA 0, 8000, .inl (fun _ => 0))), (q8, .inl (cA 0, 200, .inl (fun _ => 0))), (q9, .inl (cA 0, 200, .inl (fun _ => 0))), (q10, .inl (cA 0, 8, .inl (fun _ => 0))), (q11, .inl (cA 1, 4, .inr (.inl (fun _ => 0)))), (q12, .inl (cA 0, 120, .inl (fun _ => 0))), (q13, .inl (cA 0, 3, .inl (fun _ => 0)))] := hD
  refine W.widen (k := 13) (n := 9735) (by decide) (by decide) ?_
  refine va_putF (D := D) (ci := 3) (v := .ref q13) (ty := (.array .int)) (C := RM) (T := TM) (N := 20) hx hb hg inM tyM okM nmM hown hK hP hD hS 0 rfl rfl 17 (by decide) (hg _ fl_M_56) (fun _ h9 => h9) rfl hin rfl (by decide +kernel) rfl rfl (Nat.le_of_ble_eq_true rfl) d_M_init_122 (fun H locs hP hD hS => ?_)
  have hP : va_P D cls_ [(h0, .inr (3, [.int 0, .int 0, .ref q1, .ref q2, .ref q3, .ref q4, .ref q5, .ref q6, .ref q7, .ref q8, .int 0, .ref q9, .int 1, .int (-1), .ref q10, .ref q11, .ref q12, .ref q13, .null, .null])), (q1, .inl (cA 0, 200, .inl (fun _ => 0))), (q2, .inl (cA 0, 200, .inl (fun _ => 0))), (q3, .inl (cA 0, 200, .inl (fun _ => 0))), (q4, .inl (cA 0, 200, .inl (fun _ => 0))), (q5, .inl (cA 1, 200, .inr (.inl (fun _ => 0)))), (q6, .inl (cA 4, 200, .inl (fun _ => 0))), (q7, .inl (cA 0, 8000, .inl (fun _ => 0))), (q8, .inl (cA 0, 200, .inl (fun _ => 0))), (q9, .inl (cA 0, 200, .inl (fun _ => 0))), (q10, .inl (cA 0, 8, .inl (fun _ => 0))), (q11, .inl (cA 1, 4, .inr (.inl (fun _ => 0)))), (q12, .inl (cA 0, 120, .inl (fun _ => 0))), (q13, .inl (cA 0, 3, .inl (fun _ => 0)))] H := hP
  have hD : va_D A [(h0, .inr (3, [.int 0, .int 0, .ref q1, .ref q2, .ref q3, .ref q4, .ref q5, .ref q6, .ref q7, .ref q8, .int 0, .ref q9, .int 1, .int (-1), .ref q10, .ref q11, .ref q12, .ref q13, .null, .null])), (q1, .inl (cA 0, 200, .inl (fun _ => 0))), (q2, .inl (cA 0, 200, .inl (fun _ => 0))), (q3, .inl (cA 0, 200, .inl (fun _ => 0))), (q4, .inl (cA 0, 200, .inl (fun _ => 0))), (q5, .inl (cA 1, 200, .inr (.inl (fun _ => 0)))), (q6, .inl (cA 4, 200, .inl (fun _ => 0))), (q7, .inl (cA 0, 8000, .inl (fun _ => 0))), (q8, .inl (cA 0, 200, .inl (fun _ => 0))), (q9, .inl (cA 0, 200, .inl (fun _ => 0))), (q10, .inl (cA 0, 8, .inl (fun _ => 0))), (q11, .inl (cA 1, 4, .inr (.inl (fun _ => 0)))), (q12, .inl (cA 0, 120, .inl (fun _ => 0))), (q13, .inl (cA 0, 3, .inl (fun _ => 0)))] := hD
  refine lv_aload_n hx hb d_M_init_125 rfl (lv_at hl 0 rfl) ?_
  refine lv_sipush (v := 200) hx hb d_M_init_126 (by decide) ?_
  refine va_newa (atype := .boolean) (ty := .boolean) (N' := 200) (a0 := (200, .inl (fun _ => 0))) hx hb (hg _ ac_boolean) rfl hK hP hD hS hA (fun _ => rfl) (by decide) (by decide) (by decide) (show 14 ≤ 15 by decide) (show 9935 ≤ 10135 by decide) d_M_init_129 (fun q14 c9 H hK9 hP hD hS => ?_)
  obtain rfl := cn_Z hK9
  have hP : va_P D cls_ [(h0, .inr (3, [.int 0, .int 0, .ref q1, .ref q2, .ref q3, .ref q4, .ref q5, .ref q6, .ref q7, .ref q8, .int 0, .ref q9, .int 1, .int (-1), .ref q10, .ref q11, .ref q12, .ref q13, .null, .null])), (q1, .inl (cA 0, 200, .inl (fun _ => 0))), (q2, .inl (cA 0, 200, .inl (fun _ => 0))), (q3, .inl (cA 0, 200, .inl (fun _ => 0))), (q4, .inl (cA 0, 200, .inl (fun _ => 0))), (q5, .inl (cA 1, 200, .inr (.inl (fun _ => 0)))), (q6, .inl (cA 4, 200, .inl (fun _ => 0))), (q7, .inl (cA 0, 8000, .inl (fun _ => 0))), (q8, .inl (cA 0, 200, .inl (fun _ => 0))), (q9, .inl (cA 0, 200, .inl (fun _ => 0))), (q10, .inl (cA 0, 8, .inl (fun _ => 0))), (q11, .inl (cA 1, 4, .inr (.inl (fun _ => 0)))), (q12, .inl (cA 0, 120, .inl (fun _ => 0))), (q13, .inl (cA 0, 3, .inl (fun _ => 0))), (q14, .inl (cA 4, 200, .inl (fun _ => 0)))] H := hP
  have hD : va_D A [(h0, .inr (3, [.int 0, .int 0, .ref q1, .ref q2, .ref q3, .ref q4, .ref q5, .ref q6, .ref q7, .ref q8, .int 0, .ref q9, .int 1, .int (-1), .ref q10, .ref q11, .ref q12, .ref q13, .null, .null])), (q1, .inl (cA 0, 200, .inl (fun _ => 0))), (q2, .inl (cA 0, 200, .inl (fun _ => 0))), (q3, .inl (cA 0, 200, .inl (fun _ => 0))), (q4, .inl (cA 0, 200, .inl (fun _ => 0))), (q5, .inl (cA 1, 200, .inr (.inl (fun _ => 0)))), (q6, .inl (cA 4, 200, .inl (fun _ => 0))), (q7, .inl (cA 0, 8000, .inl (fun _ => 0))), (q8, .inl (cA 0, 200, .inl (fun _ => 0))), (q9, .inl (cA 0, 200, .inl (fun _ => 0))), (q10, .inl (cA 0, 8, .inl (fun _ => 0))), (q11, .inl (cA 1, 4, .inr (.inl (fun _ => 0)))), (q12, .inl (cA 0, 120, .inl (fun _ => 0))), (q13, .inl (cA 0, 3, .inl (fun _ => 0))), (q14, .inl (cA 4, 200, .inl (fun _ => 0)))] := hD
  refine W.widen (k := 14) (n := 9935) (by decide) (by decide) ?_
  refine va_putF (D := D) (ci := 3) (v := .ref q14) (ty := (.array .boolean)) (C := RM) (T := TM) (N := 20) hx hb hg inM tyM okM nmM hown hK hP hD hS 0 rfl rfl 18 (by decide) (hg _ fl_M_59) (fun _ h9 => h9) rfl hin rfl (by decide +kernel) rfl rfl (Nat.le_of_ble_eq_true rfl) d_M_init_131 (fun H locs hP hD hS => ?_)
  have hP : va_P D cls_ [(h0, .inr (3, [.int 0, .int 0, .ref q1, .ref q2, .ref q3, .ref q4, .ref q5, .ref q6, .ref q7, .ref q8, .int 0, .ref q9, .int 1, .int (-1), .ref q10, .ref q11, .ref q12, .ref q13, .ref q14, .null])), (q1, .inl (cA 0, 200, .inl (fun _ => 0))), (q2, .inl (cA 0, 200, .inl (fun _ => 0))), (q3, .inl (cA 0, 200, .inl (fun _ => 0))), (q4, .inl (cA 0, 200, .inl (fun _ => 0))), (q5, .inl (cA 1, 200, .inr (.inl (fun _ => 0)))), (q6, .inl (cA 4, 200, .inl (fun _ => 0))), (q7, .inl (cA 0, 8000, .inl (fun _ => 0))), (q8, .inl (cA 0, 200, .inl (fun _ => 0))), (q9, .inl (cA 0, 200, .inl (fun _ => 0))), (q10, .inl (cA 0, 8, .inl (fun _ => 0))), (q11, .inl (cA 1, 4, .inr (.inl (fun _ => 0)))), (q12, .inl (cA 0, 120, .inl (fun _ => 0))), (q13, .inl (cA 0, 3, .inl (fun _ => 0))), (q14, .inl (cA 4, 200, .inl (fun _ => 0)))] H := hP
  have hD : va_D A [(h0, .inr (3, [.int 0, .int 0, .ref q1, .ref q2, .ref q3, .ref q4, .ref q5, .ref q6, .ref q7, .ref q8, .int 0, .ref q9, .int 1, .int (-1), .ref q10, .ref q11, .ref q12, .ref q13, .ref q14, .null])), (q1, .inl (cA 0, 200, .inl (fun _ => 0))), (q2, .inl (cA 0, 200, .inl (fun _ => 0))), (q3, .inl (cA 0, 200, .inl (fun _ => 0))), (q4, .inl (cA 0, 200, .inl (fun _ => 0))), (q5, .inl (cA 1, 200, .inr (.inl (fun _ => 0)))), (q6, .inl (cA 4, 200, .inl (fun _ => 0))), (q7, .inl (cA 0, 8000, .inl (fun _ => 0))), (q8, .inl (cA 0, 200, .inl (fun _ => 0))), (q9, .inl (cA 0, 200, .inl (fun _ => 0))), (q10, .inl (cA 0, 8, .inl (fun _ => 0))), (q11, .inl (cA 1, 4, .inr (.inl (fun _ => 0)))), (q12, .inl (cA 0, 120, .inl (fun _ => 0))), (q13, .inl (cA 0, 3, .inl (fun _ => 0))), (q14, .inl (cA 4, 200, .inl (fun _ => 0)))] := hD
  refine lv_aload_n hx hb d_M_init_134 rfl (lv_at hl 0 rfl) ?_
  refine lv_sipush (v := 200) hx hb d_M_init_135 (by decide) ?_
  refine va_newa (atype := .int) (ty := .int) (N' := 200) (a0 := (200, .inl (fun _ => 0))) hx hb (hg _ ac_int) rfl hK hP hD hS hA (fun _ => rfl) (by decide) (by decide) (by decide) (show 15 ≤ 15 by decide) (show 10135 ≤ 10135 by decide) d_M_init_138 (fun q15 c9 H hK9 hP hD hS => ?_)
  obtain rfl := cn_I hK9
  have hP : va_P D cls_ [(h0, .inr (3, [.int 0, .int 0, .ref q1, .ref q2, .ref q3, .ref q4, .ref q5, .ref q6, .ref q7, .ref q8, .int 0, .ref q9, .int 1, .int (-1), .ref q10, .ref q11, .ref q12, .ref q13, .ref q14, .null])), (q1, .inl (cA 0, 200, .inl (fun _ => 0))), (q2, .inl (cA 0, 200, .inl (fun _ => 0))), (q3, .inl (cA 0, 200, .inl (fun _ => 0))), (q4, .inl (cA 0, 200, .inl (fun _ => 0))), (q5, .inl (cA 1, 200, .inr (.inl (fun _ => 0)))), (q6, .inl (cA 4, 200, .inl (fun _ => 0))), (q7, .inl (cA 0, 8000, .inl (fun _ => 0))), (q8, .inl (cA 0, 200, .inl (fun _ => 0))), (q9, .inl (cA 0, 200, .inl (fun _ => 0))), (q10, .inl (cA 0, 8, .inl (fun _ => 0))), (q11, .inl (cA 1, 4, .inr (.inl (fun _ => 0)))), (q12, .inl (cA 0, 120, .inl (fun _ => 0))), (q13, .inl (cA 0, 3, .inl (fun _ => 0))), (q14, .inl (cA 4, 200, .inl (fun _ => 0))), (q15, .inl (cA 0, 200, .inl (fun _ => 0)))] H := hP
  have hD : va_D A [(h0, .inr (3, [.int 0, .int 0, .ref q1, .ref q2, .ref q3, .ref q4, .ref q5, .ref q6, .ref q7, .ref q8, .int 0, .ref q9, .int 1, .int (-1), .ref q10, .ref q11, .ref q12, .ref q13, .ref q14, .null])), (q1, .inl (cA 0, 200, .inl (fun _ => 0))), (q2, .inl (cA 0, 200, .inl (fun _ => 0))), (q3, .inl (cA 0, 200, .inl (fun _ => 0))), (q4, .inl (cA 0, 200, .inl (fun _ => 0))), (q5, .inl (cA 1, 200, .inr (.inl (fun _ => 0)))), (q6, .inl (cA 4, 200, .inl (fun _ => 0))), (q7, .inl (cA 0, 8000, .inl (fun _ => 0))), (q8, .inl (cA 0, 200, .inl (fun _ => 0))), (q9, .inl (cA 0, 200, .inl (fun _ => 0))), (q10, .inl (cA 0, 8, .inl (fun _ => 0))), (q11, .inl (cA 1, 4, .inr (.inl (fun _ => 0)))), (q12, .inl (cA 0, 120, .inl (fun _ => 0))), (q13, .inl (cA 0, 3, .inl (fun _ => 0))), (q14, .inl (cA 4, 200, .inl (fun _ => 0))), (q15, .inl (cA 0, 200, .inl (fun _ => 0)))] := hD
  refine W.widen (k := 15) (n := 10135) (by decide) (by decide) ?_
  refine va_putF (D := D) (ci := 3) (v := .ref q15) (ty := (.array .int)) (C := RM) (T := TM) (N := 20) hx hb hg inM tyM okM nmM hown hK hP hD hS 0 rfl rfl 19 (by decide) (hg _ fl_M_62) (fun _ h9 => h9) rfl hin rfl (by decide +kernel) rfl rfl (Nat.le_of_ble_eq_true rfl) d_M_init_140 (fun H locs hP hD hS => ?_)
  have hP : va_P D cls_ [(h0, .inr (3, [.int 0, .int 0, .ref q1, .ref q2, .ref q3, .ref q4, .ref q5, .ref q6, .ref q7, .ref q8, .int 0, .ref q9, .int 1, .int (-1), .ref q10, .ref q11, .ref q12, .ref q13, .ref q14, .ref q15])), (q1, .inl (cA 0, 200, .inl (fun _ => 0))), (q2, .inl (cA 0, 200, .inl (fun _ => 0))), (q3, .inl (cA 0, 200, .inl (fun _ => 0))), (q4, .inl (cA 0, 200, .inl (fun _ => 0))), (q5, .inl (cA 1, 200, .inr (.inl (fun _ => 0)))), (q6, .inl (cA 4, 200, .inl (fun _ => 0))), (q7, .inl (cA 0, 8000, .inl (fun _ => 0))), (q8, .inl (cA 0, 200, .inl (fun _ => 0))), (q9, .inl (cA 0, 200, .inl (fun _ => 0))), (q10, .inl (cA 0, 8, .inl (fun _ => 0))), (q11, .inl (cA 1, 4, .inr (.inl (fun _ => 0)))), (q12, .inl (cA 0, 120, .inl (fun _ => 0))), (q13, .inl (cA 0, 3, .inl (fun _ => 0))), (q14, .inl (cA 4, 200, .inl (fun _ => 0))), (q15, .inl (cA 0, 200, .inl (fun _ => 0)))] H := hP
  have hD : va_D A [(h0, .inr (3, [.int 0, .int 0, .ref q1, .ref q2, .ref q3, .ref q4, .ref q5, .ref q6, .ref q7, .ref q8, .int 0, .ref q9, .int 1, .int (-1), .ref q10, .ref q11, .ref q12, .ref q13, .ref q14, .ref q15])), (q1, .inl (cA 0, 200, .inl (fun _ => 0))), (q2, .inl (cA 0, 200, .inl (fun _ => 0))), (q3, .inl (cA 0, 200, .inl (fun _ => 0))), (q4, .inl (cA 0, 200, .inl (fun _ => 0))), (q5, .inl (cA 1, 200, .inr (.inl (fun _ => 0)))), (q6, .inl (cA 4, 200, .inl (fun _ => 0))), (q7, .inl (cA 0, 8000, .inl (fun _ => 0))), (q8, .inl (cA 0, 200, .inl (fun _ => 0))), (q9, .inl (cA 0, 200, .inl (fun _ => 0))), (q10, .inl (cA 0, 8, .inl (fun _ => 0))), (q11, .inl (cA 1, 4, .inr (.inl (fun _ => 0)))), (q12, .inl (cA 0, 120, .inl (fun _ => 0))), (q13, .inl (cA 0, 3, .inl (fun _ => 0))), (q14, .inl (cA 4, 200, .inl (fun _ => 0))), (q15, .inl (cA 0, 200, .inl (fun _ => 0)))] := hD
  have hq0 : mq_ a0_.1 a0_.2.1 0 0 (rp_ a0_.1 a0_.2.1 0) (fun _ => 0) (fun _ => 0) (fun _ => 0) (fun _ => 0) (fun _ => 0) (fun _ => 0) := ⟨fun _ _ => rfl, fun _ _ => rfl, fun r hr3 => ⟨nI_0.symm, fun i hi => absurd hi (Nat.not_lt_zero _)⟩, fun j hj => absurd hj (Nat.not_lt_zero _), fun j hj => absurd hj (Nat.not_lt_zero _)⟩
  have hx9 : wY cA (fun i => [h0, q1, q2, q3, q4, q5, q6, q7, q8, q9, q10, q11, q12, q13, q14, q15].getD i 0) a0_ (fun _ => 0, fun _ => 0, fun _ => 0, fun _ => 0, fun _ => 0, fun _ => 0, fun _ => 0, fun _ => 0, fun _ => 0, 1, -1, fun _ => 0, fun _ => 0, fun _ => 0, fun _ => 0, fun _ => 0, fun _ => 0) = [(h0, .inr (3, [.int 0, .int 0, .ref q1, .ref q2, .ref q3, .ref q4, .ref q5, .ref q6, .ref q7, .ref q8, .int 0, .ref q9, .int 1, .int (-1), .ref q10, .ref q11, .ref q12, .ref q13, .ref q14, .ref q15])), (q1, .inl (cA 0, 200, .inl (fun _ => 0))), (q2, .inl (cA 0, 200, .inl (fun _ => 0))), (q3, .inl (cA 0, 200, .inl (fun _ => 0))), (q4, .inl (cA 0, 200, .inl (fun _ => 0))), (q5, .inl (cA 1, 200, .inr (.inl (fun _ => 0)))), (q6, .inl (cA 4, 200, .inl (fun _ => 0))), (q7, .inl (cA 0, 8000, .inl (fun _ => 0))), (q8, .inl (cA 0, 200, .inl (fun _ => 0))), (q9, .inl (cA 0, 200, .inl (fun _ => 0))), (q10, .inl (cA 0, 8, .inl (fun _ => 0))), (q11, .inl (cA 1, 4, .inr (.inl (fun _ => 0)))), (q12, .inl (cA 0, 120, .inl (fun _ => 0))), (q13, .inl (cA 0, 3, .inl (fun _ => 0))), (q14, .inl (cA 4, 200, .inl (fun _ => 0))), (q15, .inl (cA 0, 200, .inl (fun _ => 0)))] := rfl
  rw [← hx9] at hP hD
  exact W.vret hx hb hr (fun t ht9 hW => ⟨⟨((fun i => [h0, q1, q2, q3, q4, q5, q6, q7, q8, q9, q10, q11, q12, q13, q14, q15].getD i 0), (fun _ => 0, fun _ => 0, fun _ => 0, fun _ => 0, fun _ => 0, fun _ => 0, fun _ => 0, fun _ => 0, fun _ => 0, 1, -1, fun _ => 0, fun _ => 0, fun _ => 0, fun _ => 0, fun _ => 0, fun _ => 0)), rfl, ⟨rfl, fun i hi => absurd hi (Nat.not_lt_zero _), fun i hi => absurd hi (Nat.not_lt_zero _), Or.inr ⟨rfl, hq0⟩⟩, by rw [ht9]; exact hP, hD⟩, hS.F ht9⟩) hS.2.2 d_M_init_143
