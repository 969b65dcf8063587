/-! Replay.attempt; Arrays.fill -/
set_option maxHeartbeats 4000000 in
set_option maxRecDepth 100000 in
theorem m_R_attempt (l : Launch) (D : va_G) (cA : Nat → ClassId) (sz : Nat) (ad : Nat → Nat) (ce : Nat → Int32) (co : Nat → Int64) (rw : Nat → Nat → Int32) (le el : Nat → Int32) (ec : Int32) (nd pa : Nat → Int32) (nc : Int32) (sp pl : Nat) (x : st_T) (b : Bool) (wp : va_W) (mm : me_T) (hc : cr_ mm ce co rw le el ec nd pa nc) (hw : mw_ mm) (ht : tq_ x) (hca : ca_ x mm) (hpl : s_k x = 3 ∨ s_k x = 5 → ∃ f, wp = [(pl, .inl (cA 0, (s_p x).length, .inl f))] ∧ rl_ f (s_p x)) : Met l y_R_attempt (.code y_R_attempt c_R_attempt 2 (some .boolean) :: G_) ({ frames := 3, cells := 0, slots := 0, locals := 70 }) (va_Pc [.ref (ad 0), .ref sp] (pq_ D cA (wR cA ad ce co rw le el ec nd pa nc) ((sp, cS x pl b) :: wp) sz)) (va_Qi (fun (r : Int32) (u : rs_T) => r = b2_ (!(im_ x mm)) ∧ cq_ (at_ x mm) u) (bw_ D (va_A (wR cA ad ce co rw le el ec nd pa nc) sz) (wq_ cA ad)) (va_A (wR cA ad ce co rw le el ec nd pa nc) sz)) 0 0 (va_A (wR cA ad ce co rw le el ec nd pa nc) sz) := by
  refine Met.ofW (cc := c_R_attempt) (maxL := 2) (ret := (some .boolean)) (by decide) rfl ?_
  intro p e s m args below meth c s₁ B hml hv
  obtain ⟨rfl, hsz, hPq, ⟨hK, hN⟩, hDq0⟩ := hv
  have hP := wp_l hPq
  have hR := wp_r hPq
  have hD0 := wd_l hDq0
  have hx := B.exec
  have hb := B.bytes
  have hr := B.returns
  have hts := atoms_spec (ws := (.code y_R_attempt c_R_attempt 2 (some .boolean) :: G_)) B.pre
  have hg : ∀ w ∈ G_, w.before ([.ref (ad 0), .ref sp] : List Value).toArray s = true := fun w h => hts w (List.mem_cons_of_mem _ h)
  have hown : s.vm.findClass RR = some m.cls := findClass_of_methodNamed B.named
  have hlocks := B.notSynchronized
  subst hsz
  have hD := hD0.self (sz := s.heap.size)
  have hRA := ra_ hPq hDq0
  generalize hAe : va_A (wR cA ad ce co rw le el ec nd pa nc) s.heap.size = A at hD hRA ⊢
  have hA : ∀ q : Nat, s.heap.size ≤ q → A q := fun q h => by rw [← hAe]; exact Or.inr h
  have hS : va_S A s.heap s.heap [] := va_S.rf
  have hl := lv_entry ([.ref (ad 0), .ref sp]) (n := 2) (Nat.le_of_ble_eq_true rfl)
  rw [lg_entry_eq]
  generalize (lg_sl ([.ref (ad 0), .ref sp]) ++ List.replicate (2 - (lg_sl ([.ref (ad 0), .ref sp])).length) Slot.unset).toArray = ls at hl ⊢
  have hl : lv_has ls 2 [(0, .ref (ad 0)), (1, .ref sp)] := hl
  refine lv_aload_n hx hb d_R_attempt_0 rfl (lv_at hl 0 rfl) ?_
  refine lv_aload_n hx hb d_R_attempt_1 rfl (lv_at hl 1 rfl) ?_
  refine vp_callSi (va_Run.run (va_runV (C := RR) (As := [.ref sp]) (rest := []) ⟨hx, hb, hml, hown, hg⟩ (m_R_isImpossible l D cA ad ce co rw le el ec nd pa nc sp pl x b ht.1 mm hc hw) (cwV 1 hg (gd_V ml_R_52 im_R_isImpossible sl_R_isImpossible ini_R cd_R_isImpossible) rfl rfl rfl (by decide +kernel) ⟨Nat.le_of_ble_eq_true rfl, Nat.le_of_ble_eq_true rfl⟩) (pv_r (va_recv (q0 := 0) (ci := 0) hK hP rfl rfl) (va_P.app hP ((rk_ hR hRA hS).sub (ws' := [(sp, cS x pl b)]) [0] rfl)) hK hN) rfl rfl hl.1 rfl (lv_room (Nat.le_of_ble_eq_true rfl)) d_R_attempt_2 ⟨Nat.zero_le _, Nat.zero_le _⟩)) (fun r2 e2 => ?_)
  subst e2
  refine lv_if_eq (tgt := 10) hx hb d_R_attempt_5 (by decide) (fun h5 => ?_) (fun h5 => ?_)
  · skip
    have him := b2_0.mp h5
    have hDq := hDq0
    refine lv_aload_n hx hb d_R_attempt_10 rfl (lv_at hl 0 rfl) ?_
    refine lv_aload_n hx hb d_R_attempt_11 rfl (lv_at hl 1 rfl) ?_
    refine mu0_v (w := (wR cA ad ce co rw le el ec nd pa nc)) (va_runV (C := RR) (As := [.ref sp]) (rest := []) ⟨hx, hb, hml, hown, hg⟩ (m_R_perform l D cA s.heap.size ad ce co rw le el ec nd pa nc sp pl x b wp mm hc hw ht hca hpl) (cwV 1 hg (gd_V ml_R_56 im_R_perform sl_R_perform ini_R cd_R_perform) rfl rfl rfl (by decide +kernel) ⟨Nat.le_of_ble_eq_true rfl, Nat.le_of_ble_eq_true rfl⟩) (pv_q (va_recv (q0 := 0) (ci := 0) hK hP rfl rfl) hPq hK hN hDq) rfl rfl hl.1 rfl (lv_room (Nat.le_of_ble_eq_true rfl)) d_R_attempt_12 ⟨Nat.zero_le _, Nat.zero_le _⟩) hP hD hS hA (fun u H locs hp hP hD hS => ?_)
    obtain ⟨ce2, co2, rw2, le2, el2, ec2, nd2, pa2, nc2⟩ := u
    have hP : va_P D cls_ (wR cA ad ce2 co2 rw2 le2 el2 ec2 nd2 pa2 nc2) H := hP
    have hD : va_D A (wR cA ad ce2 co2 rw2 le2 el2 ec2 nd2 pa2 nc2) := hD
    refine lv_iconst (v := 1) hx hb d_R_attempt_15 (by decide) ?_
    have hat : at_ x mm = pf_ x mm := by unfold at_; rw [if_neg (by rw [him]; decide)]
    exact W.zret hx hb hr rfl (fun t ht hW => ⟨⟨_, (ce2, co2, rw2, le2, el2, ec2, nd2, pa2, nc2), rfl, ⟨by rw [him]; rfl, by rw [hat]; exact hp⟩, by rw [ht]; exact hP, hD⟩, hS.F ht⟩) hS.2.2 d_R_attempt_16
  · skip
    have him := b2_n.mp h5
    refine lv_iconst (v := 0) hx hb d_R_attempt_8 (by decide) ?_
    have hat : at_ x mm = mm := by unfold at_; rw [if_pos him]
    exact W.zret hx hb hr rfl (fun t ht hW => ⟨⟨_, (ce, co, rw, le, el, ec, nd, pa, nc), rfl, ⟨by rw [him]; rfl, by rw [hat]; exact hc⟩, by rw [ht]; exact hP, hD⟩, hS.F ht⟩) hS.2.2 d_R_attempt_9

abbrev w1I (cA : Nat → ClassId) (a N : Nat) (f : Nat → Int32) : va_W := [(a, .inl (cA 0, N, .inl f))]

set_option maxHeartbeats 4000000 in
set_option maxRecDepth 100000 in
theorem m_J_fillI (l : Launch) (D : va_G) (cA : Nat → ClassId) (sz : Nat) (a N : Nat) (f : Nat → Int32) (v : Int32) (hN200 : N ≤ 200) : Met l y_J_fillI (.code y_J_fillI c_J_fillI 4 none :: G_) ({ frames := 0, cells := 0, slots := 0, locals := 0 }) (va_Pc [.ref a, .int v] (pm_ D cA (w1I cA a N f) sz)) (va_Qv (fun (u : Nat → Int32) => ∀ i, i < N → u i = v) (bw_ D (va_A (w1I cA a N f) sz) (fun u => w1I cA a N u)) (va_A (w1I cA a N f) sz)) 0 0 (va_A (w1I cA a N f) sz) := by
  refine Met.ofW (cc := c_J_fillI) (maxL := 4) (ret := none) (by decide) rfl ?_
  intro p e s m args below meth c s₁ B hml hv
  obtain ⟨rfl, hsz, hP, ⟨hK, hN⟩, hD0⟩ := hv
  have hx := B.exec
  have hb := B.bytes
  have hr := B.returns
  have hts := atoms_spec (ws := (.code y_J_fillI c_J_fillI 4 none :: G_)) B.pre
  have hg : ∀ w ∈ G_, w.before ([.ref a, .int v] : List Value).toArray s = true := fun w h => hts w (List.mem_cons_of_mem _ h)
  have hown : s.vm.findClass "java/util/Arrays" = some m.cls := findClass_of_methodNamed B.named
  have hlocks := B.notSynchronized
  subst hsz
  have hD := hD0.self (sz := s.heap.size)
  generalize hAe : va_A (w1I cA a N f) s.heap.size = A at hD ⊢
  have hA : ∀ q : Nat, s.heap.size ≤ q → A q := fun q h => by rw [← hAe]; exact Or.inr h
  have hS : va_S A s.heap s.heap [] := va_S.rf
  have hl := lv_entry ([.ref a, .int v]) (n := 4) (Nat.le_of_ble_eq_true rfl)
  rw [lg_entry_eq]
  generalize (lg_sl ([.ref a, .int v]) ++ List.replicate (4 - (lg_sl ([.ref a, .int v])).length) Slot.unset).toArray = ls at hl ⊢
  have hl : lv_has ls 4 [(0, .ref a), (1, .int v)] := hl
  have loop : ∀ (d i : Nat) (f : Nat → Int32) (H : Heap) (locs : List Loc) (ls : Array Slot), i + d = N → (∀ j, j < i → f j = v) → va_P D cls_ (w1I cA a N f) H → va_D A (w1I cA a N f) → va_S A s.heap H locs → lv_has ls 4 [(2, .int (nI i)), (3, .int (nI N)), (0, .ref a), (1, .int v)] → W p l e (headSpec (.code y_J_fillI c_J_fillI 4 none :: G_) ({ frames := 0, cells := 0, slots := 0, locals := 0 })).room s m ([.ref a, .int v] : List Value).toArray below meth c H locs 0 0 (MQ below (va_Qv (fun (u : Nat → Int32) => ∀ i, i < N → u i = v) (bw_ D A (fun u => w1I cA a N u)) A) ([.ref a, .int v] : List Value).toArray s 0 0 A) (F0 m 5 ls []) := by
    intro d
    induction d with
    | zero =>
      intro i f H locs ls hid hf hP hD hS hl
      have hi2 : i = N := by omega
      subst hi2
      refine lv_iload_n hx hb d_J_fillI_5 rfl (lv_at hl 0 rfl) ?_
      refine lv_iload_n hx hb d_J_fillI_6 rfl (lv_at hl 1 rfl) ?_
      refine lv_icmp_ge (tgt := 20) hx hb d_J_fillI_7 (by decide) (fun h7 => ?_) (fun h7 => ?_)
      · skip
        exact W.vret hx hb hr (fun t ht hW => ⟨⟨f, rfl, hf, by rw [ht]; exact hP, hD⟩, hS.F ht⟩) hS.2.2 d_J_fillI_20
      · skip
        exact absurd (Int32.le_refl _) h7
    | succ d ih =>
      intro i f H locs ls hid hf hP hD hS hl
      refine lv_iload_n hx hb d_J_fillI_5 rfl (lv_at hl 0 rfl) ?_
      refine lv_iload_n hx hb d_J_fillI_6 rfl (lv_at hl 1 rfl) ?_
      refine lv_icmp_ge (tgt := 20) hx hb d_J_fillI_7 (by decide) (fun h7 => ?_) (fun h7 => ?_)
      · skip
        exact absurd h7 (nI_ge (by omega) (by omega))
      · skip
        refine lv_aload_n hx hb d_J_fillI_10 rfl (lv_at hl 2 rfl) ?_
        refine lv_iload_n hx hb d_J_fillI_11 rfl (lv_at hl 0 rfl) ?_
        refine lv_iload_n hx hb d_J_fillI_12 rfl (lv_at hl 3 rfl) ?_
        refine va_iast hx hb hK hP hD hS 0 0 rfl rfl (vp_in_nI (n := i) (N := N) (by omega) (by omega)) d_J_fillI_13 (fun H locs hP hD hS => ?_)
        rw [nI_clamp (by omega)] at hP hD
        have hP : va_P D cls_ (w1I cA a N (upd f i v)) H := hP
        have hD : va_D A (w1I cA a N (upd f i v)) := hD
        refine lv_iinc (k := 0) (v := nI (i + 1)) (lv' := [(2, .int (nI (i + 1))), (3, .int (nI N)), (0, .ref a), (1, .int v)]) hx hb d_J_fillI_14 hl rfl (inc_ _) (by decide) rfl (fun ls hl => ?_)
        refine lv_goto (tgt := 5) hx hb d_J_fillI_17 (by decide) ?_
        have hl := lv_sub hl [0, 1, 2, 3] (l' := [(2, .int (nI (i + 1))), (3, .int (nI N)), (0, .ref a), (1, .int v)]) rfl
        exact ih (i + 1) _ H locs ls (by omega) (fun j hj => by
          by_cases h : j = i
          · rw [h]; exact pk_us
          · exact (pk_un h).trans (hf j (by omega))) hP hD hS hl
  refine lv_iconst (v := 0) hx hb d_J_fillI_0 (by decide) ?_
  refine lv_istore_n (lv' := [(2, .int 0), (0, .ref a), (1, .int v)]) hx hb d_J_fillI_1 rfl hl (by decide) rfl (fun ls hl => ?_)
  refine lv_aload_n hx hb d_J_fillI_2 rfl (lv_at hl 1 rfl) ?_
  refine va_alen (v := nI N) hx hb hK hP 0 0 rfl rfl rfl d_J_fillI_3 ?_
  refine lv_istore_n (lv' := [(3, .int (nI N)), (2, .int 0), (0, .ref a), (1, .int v)]) hx hb d_J_fillI_4 rfl hl (by decide) rfl (fun ls hl => ?_)
  have hl := lv_sub hl [1, 0, 2, 3] (l' := [(2, .int (nI 0)), (3, .int (nI N)), (0, .ref a), (1, .int v)]) rfl
  exact loop N 0 f _ _ ls (by omega) (fun j h => absurd h (Nat.not_lt_zero _)) hP hD hS hl

abbrev w1J (cA : Nat → ClassId) (a N : Nat) (f : Nat → Int64) : va_W := [(a, .inl (cA 1, N, .inr (.inl f)))]

set_option maxHeartbeats 4000000 in
set_option maxRecDepth 100000 in
theorem m_J_fillJ (l : Launch) (D : va_G) (cA : Nat → ClassId) (sz : Nat) (a N : Nat) (f : Nat → Int64) (v : Int64) (hN200 : N ≤ 200) : Met l y_J_fillJ (.code y_J_fillJ c_J_fillJ 5 none :: G_) ({ frames := 0, cells := 0, slots := 0, locals := 0 }) (va_Pc [.ref a, .long v] (pm_ D cA (w1J cA a N f) sz)) (va_Qv (fun (u : Nat → Int64) => ∀ i, i < N → u i = v) (bw_ D (va_A (w1J cA a N f) sz) (fun u => w1J cA a N u)) (va_A (w1J cA a N f) sz)) 0 0 (va_A (w1J cA a N f) sz) := by
  refine Met.ofW (cc := c_J_fillJ) (maxL := 5) (ret := none) (by decide) rfl ?_
  intro p e s m args below meth c s₁ B hml hv
  obtain ⟨rfl, hsz, hP, ⟨hK, hN⟩, hD0⟩ := hv
  have hx := B.exec
  have hb := B.bytes
  have hr := B.returns
  have hts := atoms_spec (ws := (.code y_J_fillJ c_J_fillJ 5 none :: G_)) B.pre
  have hg : ∀ w ∈ G_, w.before ([.ref a, .long v] : List Value).toArray s = true := fun w h => hts w (List.mem_cons_of_mem _ h)
  have hown : s.vm.findClass "java/util/Arrays" = some m.cls := findClass_of_methodNamed B.named
  have hlocks := B.notSynchronized
  subst hsz
  have hD := hD0.self (sz := s.heap.size)
  generalize hAe : va_A (w1J cA a N f) s.heap.size = A at hD ⊢
  have hA : ∀ q : Nat, s.heap.size ≤ q → A q := fun q h => by rw [← hAe]; exact Or.inr h
  have hS : va_S A s.heap s.heap [] := va_S.rf
  have hl := lv_entry ([.ref a, .long v]) (n := 5) (Nat.le_of_ble_eq_true rfl)
  rw [lg_entry_eq]
  generalize (lg_sl ([.ref a, .long v]) ++ List.replicate (5 - (lg_sl ([.ref a, .long v])).length) Slot.unset).toArray = ls at hl ⊢
  have hl : lv_has ls 5 [(0, .ref a), (1, .long v)] := hl
  have loop : ∀ (d i : Nat) (f : Nat → Int64) (H : Heap) (locs : List Loc) (ls : Array Slot), i + d = N → (∀ j, j < i → f j = v) → va_P D cls_ (w1J cA a N f) H → va_D A (w1J cA a N f) → va_S A s.heap H locs → lv_has ls 5 [(3, .int (nI i)), (4, .int (nI N)), (0, .ref a), (1, .long v)] → W p l e (headSpec (.code y_J_fillJ c_J_fillJ 5 none :: G_) ({ frames := 0, cells := 0, slots := 0, locals := 0 })).room s m ([.ref a, .long v] : List Value).toArray below meth c H locs 0 0 (MQ below (va_Qv (fun (u : Nat → Int64) => ∀ i, i < N → u i = v) (bw_ D A (fun u => w1J cA a N u)) A) ([.ref a, .long v] : List Value).toArray s 0 0 A) (F0 m 6 ls []) := by
    intro d
    induction d with
    | zero =>
      intro i f H locs ls hid hf hP hD hS hl
      have hi2 : i = N := by omega
      subst hi2
      refine lv_iload_n hx hb d_J_fillJ_6 rfl (lv_at hl 0 rfl) ?_
      refine lv_iload hx hb d_J_fillJ_7 (lv_at hl 1 rfl) ?_
      refine lv_icmp_ge (tgt := 22) hx hb d_J_fillJ_9 (by decide) (fun h9 => ?_) (fun h9 => ?_)
      · skip
        exact W.vret hx hb hr (fun t ht hW => ⟨⟨f, rfl, hf, by rw [ht]; exact hP, hD⟩, hS.F ht⟩) hS.2.2 d_J_fillJ_22
      · skip
        exact absurd (Int32.le_refl _) h9
    | succ d ih =>
      intro i f H locs ls hid hf hP hD hS hl
      refine lv_iload_n hx hb d_J_fillJ_6 rfl (lv_at hl 0 rfl) ?_
      refine lv_iload hx hb d_J_fillJ_7 (lv_at hl 1 rfl) ?_
      refine lv_icmp_ge (tgt := 22) hx hb d_J_fillJ_9 (by decide) (fun h9 => ?_) (fun h9 => ?_)
      · skip
        exact absurd h9 (nI_ge (by omega) (by omega))
      · skip
        refine lv_aload_n hx hb d_J_fillJ_12 rfl (lv_at hl 2 rfl) ?_
        refine lv_iload_n hx hb d_J_fillJ_13 rfl (lv_at hl 0 rfl) ?_
        refine lv_lload_n hx hb d_J_fillJ_14 rfl (lv_at hl 3 rfl) ?_
        refine va_last hx hb hK hP hD hS 0 1 rfl rfl (vp_in_nI (n := i) (N := N) (by omega) (by omega)) d_J_fillJ_15 (fun H locs hP hD hS => ?_)
        rw [nI_clamp (by omega)] at hP hD
        have hP : va_P D cls_ (w1J cA a N (vp_updL f i v)) H := hP
        have hD : va_D A (w1J cA a N (vp_updL f i v)) := hD
        refine lv_iinc (k := 0) (v := nI (i + 1)) (lv' := [(3, .int (nI (i + 1))), (4, .int (nI N)), (0, .ref a), (1, .long v)]) hx hb d_J_fillJ_16 hl rfl (inc_ _) (by decide) rfl (fun ls hl => ?_)
        refine lv_goto (tgt := 6) hx hb d_J_fillJ_19 (by decide) ?_
        have hl := lv_sub hl [0, 1, 2, 3] (l' := [(3, .int (nI (i + 1))), (4, .int (nI N)), (0, .ref a), (1, .long v)]) rfl
        exact ih (i + 1) _ H locs ls (by omega) (fun j hj => by
          by_cases h : j = i
          · rw [h]; exact pk_uLs
          · exact (pk_uLn h).trans (hf j (by omega))) hP hD hS hl
  refine lv_iconst (v := 0) hx hb d_J_fillJ_0 (by decide) ?_
  refine lv_istore_n (lv' := [(3, .int 0), (0, .ref a), (1, .long v)]) hx hb d_J_fillJ_1 rfl hl (by decide) rfl (fun ls hl => ?_)
  refine lv_aload_n hx hb d_J_fillJ_2 rfl (lv_at hl 1 rfl) ?_
  refine va_alen (v := nI N) hx hb hK hP 0 1 rfl rfl rfl d_J_fillJ_3 ?_
  refine lv_istore (lv' := [(4, .int (nI N)), (3, .int 0), (0, .ref a), (1, .long v)]) hx hb d_J_fillJ_4 hl (by decide) rfl (fun ls hl => ?_)
  have hl := lv_sub hl [1, 0, 2, 3] (l' := [(3, .int (nI 0)), (4, .int (nI N)), (0, .ref a), (1, .long v)]) rfl
  exact loop N 0 f _ _ ls (by omega) (fun j h => absurd h (Nat.not_lt_zero _)) hP hD hS hl
