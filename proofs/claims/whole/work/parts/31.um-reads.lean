/-! UndoMemory: its own reads -/
set_option maxHeartbeats 4000000 in
set_option maxRecDepth 100000 in
theorem m_U_isIndex (l : Launch) (D : va_G) (cA : Nat → ClassId) (x : Int32) (k : Nat) (hk : k < 2 ^ 31) : Met l y_U_isIndex (.code y_U_isIndex c_U_isIndex 2 (some .boolean) :: G_) ({ frames := 0, cells := 0, slots := 0, locals := 0 }) (va_Pc [.int x, .int (nI k)] (pr_ D cA ([] : va_W))) (vp_Si (fun r => r = b2_ (inx_ x k))) 0 0 (fun _ => False) := by
  refine Met.ofW (cc := c_U_isIndex) (maxL := 2) (ret := (some .boolean)) (by decide) rfl ?_
  intro p e s m args below meth c s₁ B hml hv
  obtain ⟨rfl, hP, hK, hN⟩ := hv
  have hx := B.exec
  have hb := B.bytes
  have hr := B.returns
  have hts := atoms_spec (ws := (.code y_U_isIndex c_U_isIndex 2 (some .boolean) :: G_)) B.pre
  have hg : ∀ w ∈ G_, w.before ([.int x, .int (nI k)] : List Value).toArray s = true := fun w h => hts w (List.mem_cons_of_mem _ h)
  have hown : s.vm.findClass RU = some m.cls := findClass_of_methodNamed B.named
  have hlocks := B.notSynchronized
  have hl := lv_entry ([.int x, .int (nI k)]) (n := 2) (Nat.le_of_ble_eq_true rfl)
  rw [lg_entry_eq]
  generalize (lg_sl ([.int x, .int (nI k)]) ++ List.replicate (2 - (lg_sl ([.int x, .int (nI k)])).length) Slot.unset).toArray = ls at hl ⊢
  have hl : lv_has ls 2 [(0, .int x), (1, .int (nI k))] := hl
  have hkt := nI_toInt hk
  refine lv_iload_n hx hb d_U_isIndex_0 rfl (lv_at hl 0 rfl) ?_
  refine lv_if_lt (tgt := 13) hx hb d_U_isIndex_1 (by decide) (fun h1 => ?_) (fun h1 => ?_)
  · skip
    have hn : inx_ x k = false := by
      rw [Int32.lt_iff_toInt_lt] at h1
      have : (0 : Int32).toInt = 0 := by decide
      unfold inx_; simp; omega
    refine lv_iconst (v := 0) hx hb d_U_isIndex_13 (by decide) ?_
    exact W.zret hx hb hr rfl (fun t ht hW => ⟨_, rfl, by rw [hn]; rfl, ht⟩) (fun q h => absurd h List.not_mem_nil) d_U_isIndex_14
  · skip
    refine lv_iload_n hx hb d_U_isIndex_4 rfl (lv_at hl 0 rfl) ?_
    refine lv_iload_n hx hb d_U_isIndex_5 rfl (lv_at hl 1 rfl) ?_
    refine lv_icmp_ge (tgt := 13) hx hb d_U_isIndex_6 (by decide) (fun h6 => ?_) (fun h6 => ?_)
    · skip
      have hn : inx_ x k = false := by rw [Int32.le_iff_toInt_le, hkt] at h6; unfold inx_; simp; omega
      refine lv_iconst (v := 0) hx hb d_U_isIndex_13 (by decide) ?_
      exact W.zret hx hb hr rfl (fun t ht hW => ⟨_, rfl, by rw [hn]; rfl, ht⟩) (fun q h => absurd h List.not_mem_nil) d_U_isIndex_14
    · skip
      have hn : inx_ x k = true := by
        rw [Int32.lt_iff_toInt_lt] at h1
        rw [Int32.le_iff_toInt_le, hkt] at h6
        have : (0 : Int32).toInt = 0 := by decide
        unfold inx_; simp; omega
      refine lv_iconst (v := 1) hx hb d_U_isIndex_9 (by decide) ?_
      refine lv_goto (tgt := 14) hx hb d_U_isIndex_10 (by decide) ?_
      exact W.zret hx hb hr rfl (fun t ht hW => ⟨_, rfl, by rw [hn]; rfl, ht⟩) (fun q h => absurd h List.not_mem_nil) d_U_isIndex_14

set_option maxHeartbeats 4000000 in
set_option maxRecDepth 100000 in
theorem m_U_isFull (l : Launch) (D : va_G) (cA : Nat → ClassId) (au am at2 : Nat → Nat) (ic tc : Int32) (sa : Nat → Option Nat) (ip tk : Nat → Int32) (um ut : rs_T) (L : List Nat) (f : Nat → va_E) (hs : Nat → st_T) (ac : Nat → Bool) (n la : Nat) (hn : n ≤ 200) : Met l y_U_isFull (.code y_U_isFull c_U_isFull 1 (some .boolean) :: G_) ({ frames := 0, cells := 0, slots := 0, locals := 0 }) (va_Pc [.ref (au 0)] (pr_ D cA ((wU cA au (am 0) (at2 0) (nI n) (nI la) ic tc sa ip tk) ++ ((wq_ cA am um) ++ ((wq_ cA at2 ut) ++ (va_pl L f)))))) (vp_Si (fun r => r = b2_ (decide (n = 200)))) 0 0 (fun _ => False) := by
  refine Met.ofW (cc := c_U_isFull) (maxL := 1) (ret := (some .boolean)) (by decide) rfl ?_
  intro p e s m args below meth c s₁ B hml hv
  obtain ⟨rfl, hP, hK, hN⟩ := hv
  have hx := B.exec
  have hb := B.bytes
  have hr := B.returns
  have hts := atoms_spec (ws := (.code y_U_isFull c_U_isFull 1 (some .boolean) :: G_)) B.pre
  have hg : ∀ w ∈ G_, w.before ([.ref (au 0)] : List Value).toArray s = true := fun w h => hts w (List.mem_cons_of_mem _ h)
  have hown : s.vm.findClass RU = some m.cls := findClass_of_methodNamed B.named
  have hlocks := B.notSynchronized
  have hl := lv_entry ([.ref (au 0)]) (n := 1) (Nat.le_of_ble_eq_true rfl)
  rw [lg_entry_eq]
  generalize (lg_sl ([.ref (au 0)]) ++ List.replicate (1 - (lg_sl ([.ref (au 0)])).length) Slot.unset).toArray = ls at hl ⊢
  have hl : lv_has ls 1 [(0, .ref (au 0))] := hl
  refine lv_aload_n hx hb d_U_isFull_0 rfl (lv_at hl 0 rfl) ?_
  refine va_get (D := D) (ci := 2) (v := .int (nI n)) (C := RU) (T := TU) (N := 9) hx hb hg inU hown hK hP 0 rfl rfl 1 (by decide) (hg _ fl_U_106) (fun _ h9 => h9) rfl d_U_isFull_1 ?_
  refine lv_sipush (v := 200) hx hb d_U_isFull_4 (by decide) ?_
  refine toi_ (y := nI 200) (rfl) ?_
  refine lv_icmp_lt (tgt := 14) hx hb d_U_isFull_7 (by decide) (fun h7 => ?_) (fun h7 => ?_)
  · skip
    have hf : ¬ n = 200 := fun h => absurd h7 (nI_nlt (by omega) (by omega))
    refine lv_iconst (v := 0) hx hb d_U_isFull_14 (by decide) ?_
    exact W.zret hx hb hr rfl (fun t ht hW => ⟨_, rfl, by simp [hf, b2_], ht⟩) (fun q h => absurd h List.not_mem_nil) d_U_isFull_15
  · skip
    have hf : n = 200 := by
      rcases Nat.lt_or_eq_of_le hn with h | h
      · exact absurd (nI_lt h (by omega)) h7
      · exact h
    refine lv_iconst (v := 1) hx hb d_U_isFull_10 (by decide) ?_
    refine lv_goto (tgt := 15) hx hb d_U_isFull_11 (by decide) ?_
    exact W.zret hx hb hr rfl (fun t ht hW => ⟨_, rfl, by simp [hf, b2_], ht⟩) (fun q h => absurd h List.not_mem_nil) d_U_isFull_15

set_option maxHeartbeats 4000000 in
set_option maxRecDepth 100000 in
theorem m_U_indexOf (l : Launch) (D : va_G) (cA : Nat → ClassId) (au am at2 : Nat → Nat) (ic tc : Int32) (sa : Nat → Option Nat) (ip tk : Nat → Int32) (um ut : rs_T) (L : List Nat) (f : Nat → va_E) (hs : Nat → st_T) (ac : Nat → Bool) (n la : Nat) (x : Int32) (hu : ui_ cA hs ac n sa L f) (hn : n ≤ 200) : Met l y_U_indexOf (.code y_U_indexOf c_U_indexOf 3 (some .int) :: G_) ({ frames := 0, cells := 0, slots := 0, locals := 0 }) (va_Pc [.ref (au 0), .int x] (pr_ D cA ((wU cA au (am 0) (at2 0) (nI n) (nI la) ic tc sa ip tk) ++ ((wq_ cA am um) ++ ((wq_ cA at2 ut) ++ (va_pl L f)))))) (vp_Si (fun r => r = ov_ (fn_ hs n x))) 0 0 (fun _ => False) := by
  refine Met.ofW (cc := c_U_indexOf) (maxL := 3) (ret := (some .int)) (by decide) rfl ?_
  intro p e s m args below meth c s₁ B hml hv
  obtain ⟨rfl, hP, hK, hN⟩ := hv
  have hx := B.exec
  have hb := B.bytes
  have hr := B.returns
  have hts := atoms_spec (ws := (.code y_U_indexOf c_U_indexOf 3 (some .int) :: G_)) B.pre
  have hg : ∀ w ∈ G_, w.before ([.ref (au 0), .int x] : List Value).toArray s = true := fun w h => hts w (List.mem_cons_of_mem _ h)
  have hown : s.vm.findClass RU = some m.cls := findClass_of_methodNamed B.named
  have hlocks := B.notSynchronized
  have hl := lv_entry ([.ref (au 0), .int x]) (n := 3) (Nat.le_of_ble_eq_true rfl)
  rw [lg_entry_eq]
  generalize (lg_sl ([.ref (au 0), .int x]) ++ List.replicate (3 - (lg_sl ([.ref (au 0), .int x])).length) Slot.unset).toArray = ls at hl ⊢
  have hl : lv_has ls 3 [(0, .ref (au 0)), (1, .int x)] := hl
  have loop : ∀ (d i : Nat) (ls : Array Slot), i + d = n → (∀ j, j < i → decide (s_n (hs j) = x) = false) → lv_has ls 3 [(2, .int (nI i)), (0, .ref (au 0)), (1, .int x)] → W p l e (headSpec (.code y_U_indexOf c_U_indexOf 3 (some .int) :: G_) ({ frames := 0, cells := 0, slots := 0, locals := 0 })).room s m ([.ref (au 0), .int x] : List Value).toArray below meth c s.heap [] 0 0 (MQ below (vp_Si (fun r => r = ov_ (fn_ hs n x))) ([.ref (au 0), .int x] : List Value).toArray s 0 0 (fun _ => False)) (F0 m 2 ls []) := by
    intro d
    induction d with
    | zero =>
      intro i ls hid hno hl
      have hi2 : i = n := by omega
      subst hi2
      refine lv_iload_n hx hb d_U_indexOf_2 rfl (lv_at hl 0 rfl) ?_
      refine lv_aload_n hx hb d_U_indexOf_3 rfl (lv_at hl 1 rfl) ?_
      refine va_get (D := D) (ci := 2) (v := .int (nI i)) (C := RU) (T := TU) (N := 9) hx hb hg inU hown hK hP 0 rfl rfl 1 (by decide) (hg _ fl_U_106) (fun _ h9 => h9) rfl d_U_indexOf_4 ?_
      refine lv_icmp_ge (tgt := 31) hx hb d_U_indexOf_7 (by decide) (fun h7 => ?_) (fun h7 => ?_)
      · skip
        refine lv_iconst (v := (-1)) hx hb d_U_indexOf_31 (by decide) ?_
        exact W.iret hx hb hr (fun t ht hW => ⟨_, rfl, by unfold fn_; rw [fi_no hno]; rfl, ht⟩) (fun q h => absurd h List.not_mem_nil) d_U_indexOf_32
      · skip
        exact absurd (Int32.le_refl _) h7
    | succ d ih =>
      intro i ls hid hno hl
      refine lv_iload_n hx hb d_U_indexOf_2 rfl (lv_at hl 0 rfl) ?_
      refine lv_aload_n hx hb d_U_indexOf_3 rfl (lv_at hl 1 rfl) ?_
      refine va_get (D := D) (ci := 2) (v := .int (nI n)) (C := RU) (T := TU) (N := 9) hx hb hg inU hown hK hP 0 rfl rfl 1 (by decide) (hg _ fl_U_106) (fun _ h9 => h9) rfl d_U_indexOf_4 ?_
      refine lv_icmp_ge (tgt := 31) hx hb d_U_indexOf_7 (by decide) (fun h7 => ?_) (fun h7 => ?_)
      · skip
        exact absurd h7 (nI_ge (by omega) (by omega))
      · skip
        refine lv_aload_n hx hb d_U_indexOf_10 rfl (lv_at hl 1 rfl) ?_
        refine va_get (D := D) (ci := 2) (v := .ref (au 1)) (C := RU) (T := TU) (N := 9) hx hb hg inU hown hK hP 0 rfl rfl 0 (by decide) (hg _ fl_U_11) (fun _ h9 => h9) rfl d_U_indexOf_11 ?_
        refine lv_iload_n hx hb d_U_indexOf_14 rfl (lv_at hl 0 rfl) ?_
        obtain ⟨a15, p15, hsa15, haL15, hfa15, hst15⟩ := ui_at hu (i := i) (by omega) (wp_r (wp_r (wp_r hP)))
        refine va_aldq hx hb hK hP 1 3 rfl rfl (vp_in_nI (n := i) (N := 200) (by omega) (by omega)) d_U_indexOf_15 ?_
        refine tov_ (y := .ref a15) (by rw [nI_clamp (by omega), hsa15]; rfl) ?_
        refine va_getN (D := D) (ci := 1) (v := .int (s_n (hs i))) (C := RS) (T := TS) (N := 7) hx hb hg inS hown hK hst15 0 rfl rfl 0 (by decide) (va_Nw.use rfl (hN.1 _ fn_U_76)) (fun _ h9 => h9) rfl d_U_indexOf_16 ?_
        refine lv_iload_n hx hb d_U_indexOf_19 rfl (lv_at hl 2 rfl) ?_
        refine lv_icmp_ne (tgt := 25) hx hb d_U_indexOf_20 (by decide) (fun h20 => ?_) (fun h20 => ?_)
        · skip
          refine lv_iinc (k := 0) (v := nI (i + 1)) (lv' := [(2, .int (nI (i + 1))), (0, .ref (au 0)), (1, .int x)]) hx hb d_U_indexOf_25 hl rfl (inc_ _) (by decide) rfl (fun ls hl => ?_)
          refine lv_goto (tgt := 2) hx hb d_U_indexOf_28 (by decide) ?_
          have hl := lv_sub hl [0, 1, 2] (l' := [(2, .int (nI (i + 1))), (0, .ref (au 0)), (1, .int x)]) rfl
          exact ih (i + 1) ls (by omega) (lt_s hno (by simp [h20])) hl
        · skip
          refine lv_iload_n hx hb d_U_indexOf_23 rfl (lv_at hl 0 rfl) ?_
          exact W.iret hx hb hr (fun t ht hW => ⟨_, rfl, by unfold fn_; rw [fi_of (i := i) (by omega) (by simp [h20]) hno]; rfl, ht⟩) (fun q h => absurd h List.not_mem_nil) d_U_indexOf_24
  refine lv_iconst (v := 0) hx hb d_U_indexOf_0 (by decide) ?_
  refine lv_istore_n (lv' := [(2, .int 0), (0, .ref (au 0)), (1, .int x)]) hx hb d_U_indexOf_1 rfl hl (by decide) rfl (fun ls hl => ?_)
  have hl := lv_sub hl [0, 1, 2] (l' := [(2, .int (nI 0)), (0, .ref (au 0)), (1, .int x)]) rfl
  exact loop n 0 ls (by omega) (fun j h => absurd h (Nat.not_lt_zero _)) hl

set_option maxHeartbeats 4000000 in
set_option maxRecDepth 100000 in
theorem m_U_latestActive (l : Launch) (D : va_G) (cA : Nat → ClassId) (au am at2 : Nat → Nat) (ic tc : Int32) (sa : Nat → Option Nat) (ip tk : Nat → Int32) (um ut : rs_T) (L : List Nat) (f : Nat → va_E) (hs : Nat → st_T) (ac : Nat → Bool) (n la : Nat) (hu : ui_ cA hs ac n sa L f) (hn : n ≤ 200) : Met l y_U_latestActive (.code y_U_latestActive c_U_latestActive 2 (some .int) :: G_) ({ frames := 0, cells := 0, slots := 0, locals := 0 }) (va_Pc [.ref (au 0)] (pr_ D cA ((wU cA au (am 0) (at2 0) (nI n) (nI la) ic tc sa ip tk) ++ ((wq_ cA am um) ++ ((wq_ cA at2 ut) ++ (va_pl L f)))))) (vp_Si (fun r => r = ov_ (lt_ ac n))) 0 0 (fun _ => False) := by
  refine Met.ofW (cc := c_U_latestActive) (maxL := 2) (ret := (some .int)) (by decide) rfl ?_
  intro p e s m args below meth c s₁ B hml hv
  obtain ⟨rfl, hP, hK, hN⟩ := hv
  have hx := B.exec
  have hb := B.bytes
  have hr := B.returns
  have hts := atoms_spec (ws := (.code y_U_latestActive c_U_latestActive 2 (some .int) :: G_)) B.pre
  have hg : ∀ w ∈ G_, w.before ([.ref (au 0)] : List Value).toArray s = true := fun w h => hts w (List.mem_cons_of_mem _ h)
  have hown : s.vm.findClass RU = some m.cls := findClass_of_methodNamed B.named
  have hlocks := B.notSynchronized
  have hl := lv_entry ([.ref (au 0)]) (n := 2) (Nat.le_of_ble_eq_true rfl)
  rw [lg_entry_eq]
  generalize (lg_sl ([.ref (au 0)]) ++ List.replicate (2 - (lg_sl ([.ref (au 0)])).length) Slot.unset).toArray = ls at hl ⊢
  have hl : lv_has ls 2 [(0, .ref (au 0))] := hl
  have loop : ∀ (i : Nat) (ls : Array Slot), i ≤ n → lt_ ac i = lt_ ac n → lv_has ls 2 [(1, .int (nI i - 1)), (0, .ref (au 0))] → W p l e (headSpec (.code y_U_latestActive c_U_latestActive 2 (some .int) :: G_) ({ frames := 0, cells := 0, slots := 0, locals := 0 })).room s m ([.ref (au 0)] : List Value).toArray below meth c s.heap [] 0 0 (MQ below (vp_Si (fun r => r = ov_ (lt_ ac n))) ([.ref (au 0)] : List Value).toArray s 0 0 (fun _ => False)) (F0 m 7 ls []) := by
    intro i
    induction i with
    | zero =>
      intro ls hin hla hl
      have hl : lv_has ls 2 [(1, .int (-1)), (0, .ref (au 0))] := hl
      refine lv_iload_n hx hb d_U_latestActive_7 rfl (lv_at hl 0 rfl) ?_
      refine lv_if_lt (tgt := 31) hx hb d_U_latestActive_8 (by decide) (fun h8 => ?_) (fun h8 => ?_)
      · skip
        refine lv_iconst (v := (-1)) hx hb d_U_latestActive_31 (by decide) ?_
        exact W.iret hx hb hr (fun t ht hW => ⟨_, rfl, by rw [← hla]; rfl, ht⟩) (fun q h => absurd h List.not_mem_nil) d_U_latestActive_32
      · skip
        exact absurd (by decide) h8
    | succ i ih =>
      intro ls hin hla hl
      rw [nI_pred] at hl
      refine lv_iload_n hx hb d_U_latestActive_7 rfl (lv_at hl 0 rfl) ?_
      refine lv_if_lt (tgt := 31) hx hb d_U_latestActive_8 (by decide) (fun h8 => ?_) (fun h8 => ?_)
      · skip
        exact absurd h8 (nI_pos (by omega))
      · skip
        refine lv_aload_n hx hb d_U_latestActive_11 rfl (lv_at hl 1 rfl) ?_
        refine va_get (D := D) (ci := 2) (v := .ref (au 1)) (C := RU) (T := TU) (N := 9) hx hb hg inU hown hK hP 0 rfl rfl 0 (by decide) (hg _ fl_U_11) (fun _ h9 => h9) rfl d_U_latestActive_12 ?_
        refine lv_iload_n hx hb d_U_latestActive_15 rfl (lv_at hl 0 rfl) ?_
        obtain ⟨a16, p16, hsa16, haL16, hfa16, hst16⟩ := ui_at hu (i := i) (by omega) (wp_r (wp_r (wp_r hP)))
        refine va_aldq hx hb hK hP 1 3 rfl rfl (vp_in_nI (n := i) (N := 200) (by omega) (by omega)) d_U_latestActive_16 ?_
        refine tov_ (y := .ref a16) (by rw [nI_clamp (by omega), hsa16]; rfl) ?_
        refine va_getN (D := D) (ci := 1) (v := .int (b2_ (ac i))) (C := RS) (T := TS) (N := 7) hx hb hg inS hown hK hst16 0 rfl rfl 6 (by decide) (va_Nw.use rfl (hN.1 _ fn_U_65)) (fun _ h9 => h9) rfl d_U_latestActive_17 ?_
        refine lv_if_eq (tgt := 25) hx hb d_U_latestActive_20 (by decide) (fun h20 => ?_) (fun h20 => ?_)
        · skip
          have hq := b2_0.mp h20
          refine lv_iinc (k := 0) (v := nI i - 1) (lv' := [(1, .int (nI i - 1)), (0, .ref (au 0))]) hx hb d_U_latestActive_25 hl rfl (dec2_ _) (by decide) rfl (fun ls hl => ?_)
          refine lv_goto (tgt := 7) hx hb d_U_latestActive_28 (by decide) ?_
          have hl := lv_sub hl [0, 1] (l' := [(1, .int (nI i - 1)), (0, .ref (au 0))]) rfl
          exact ih ls (by omega) (by rw [← hla, lt_off hq]) hl
        · skip
          have hq := b2_n.mp h20
          refine lv_iload_n hx hb d_U_latestActive_23 rfl (lv_at hl 0 rfl) ?_
          exact W.iret hx hb hr (fun t ht hW => ⟨_, rfl, by rw [← hla, lt_on hq]; rfl, ht⟩) (fun q h => absurd h List.not_mem_nil) d_U_latestActive_24
  refine lv_aload_n hx hb d_U_latestActive_0 rfl (lv_at hl 0 rfl) ?_
  refine va_get (D := D) (ci := 2) (v := .int (nI n)) (C := RU) (T := TU) (N := 9) hx hb hg inU hown hK hP 0 rfl rfl 1 (by decide) (hg _ fl_U_106) (fun _ h9 => h9) rfl d_U_latestActive_1 ?_
  refine lv_iconst (v := 1) hx hb d_U_latestActive_4 (by decide) ?_
  refine lv_isub hx hb d_U_latestActive_5 ?_
  refine lv_istore_n (lv' := [(1, .int ((nI n) - 1)), (0, .ref (au 0))]) hx hb d_U_latestActive_6 rfl hl (by decide) rfl (fun ls hl => ?_)
  have hl := lv_sub hl [0, 1] (l' := [(1, .int (nI n - 1)), (0, .ref (au 0))]) rfl
  exact loop n ls (Nat.le_refl _) rfl hl

set_option maxHeartbeats 4000000 in
set_option maxRecDepth 100000 in
theorem m_U_countActive (l : Launch) (D : va_G) (cA : Nat → ClassId) (au am at2 : Nat → Nat) (ic tc : Int32) (sa : Nat → Option Nat) (ip tk : Nat → Int32) (um ut : rs_T) (L : List Nat) (f : Nat → va_E) (hs : Nat → st_T) (ac : Nat → Bool) (n la : Nat) (hu : ui_ cA hs ac n sa L f) (hn : n ≤ 200) : Met l y_U_countActive (.code y_U_countActive c_U_countActive 3 (some .int) :: G_) ({ frames := 0, cells := 0, slots := 0, locals := 0 }) (va_Pc [.ref (au 0)] (pr_ D cA ((wU cA au (am 0) (at2 0) (nI n) (nI la) ic tc sa ip tk) ++ ((wq_ cA am um) ++ ((wq_ cA at2 ut) ++ (va_pl L f)))))) (vp_Si (fun q => q = nI (na_ ac n))) 0 0 (fun _ => False) := by
  refine Met.ofW (cc := c_U_countActive) (maxL := 3) (ret := (some .int)) (by decide) rfl ?_
  intro p e s m args below meth c s₁ B hml hv
  obtain ⟨rfl, hP, hK, hN⟩ := hv
  have hx := B.exec
  have hb := B.bytes
  have hr := B.returns
  have hts := atoms_spec (ws := (.code y_U_countActive c_U_countActive 3 (some .int) :: G_)) B.pre
  have hg : ∀ w ∈ G_, w.before ([.ref (au 0)] : List Value).toArray s = true := fun w h => hts w (List.mem_cons_of_mem _ h)
  have hown : s.vm.findClass RU = some m.cls := findClass_of_methodNamed B.named
  have hlocks := B.notSynchronized
  have hl := lv_entry ([.ref (au 0)]) (n := 3) (Nat.le_of_ble_eq_true rfl)
  rw [lg_entry_eq]
  generalize (lg_sl ([.ref (au 0)]) ++ List.replicate (3 - (lg_sl ([.ref (au 0)])).length) Slot.unset).toArray = ls at hl ⊢
  have hl : lv_has ls 3 [(0, .ref (au 0))] := hl
  have loop : ∀ (d i : Nat) (ls : Array Slot), i + d = n → lv_has ls 3 [(2, .int (nI i)), (1, .int (nI (na_ ac i))), (0, .ref (au 0))] → W p l e (headSpec (.code y_U_countActive c_U_countActive 3 (some .int) :: G_) ({ frames := 0, cells := 0, slots := 0, locals := 0 })).room s m ([.ref (au 0)] : List Value).toArray below meth c s.heap [] 0 0 (MQ below (vp_Si (fun q => q = nI (na_ ac n))) ([.ref (au 0)] : List Value).toArray s 0 0 (fun _ => False)) (F0 m 4 ls []) := by
    intro d
    induction d with
    | zero =>
      intro i ls hid hl
      have hi2 : i = n := by omega
      subst hi2
      refine lv_iload_n hx hb d_U_countActive_4 rfl (lv_at hl 0 rfl) ?_
      refine lv_aload_n hx hb d_U_countActive_5 rfl (lv_at hl 2 rfl) ?_
      refine va_get (D := D) (ci := 2) (v := .int (nI i)) (C := RU) (T := TU) (N := 9) hx hb hg inU hown hK hP 0 rfl rfl 1 (by decide) (hg _ fl_U_106) (fun _ h9 => h9) rfl d_U_countActive_6 ?_
      refine lv_icmp_ge (tgt := 33) hx hb d_U_countActive_9 (by decide) (fun h9 => ?_) (fun h9 => ?_)
      · skip
        refine lv_iload_n hx hb d_U_countActive_33 rfl (lv_at hl 1 rfl) ?_
        exact W.iret hx hb hr (fun t ht hW => ⟨_, rfl, rfl, ht⟩) (fun q h => absurd h List.not_mem_nil) d_U_countActive_34
      · skip
        exact absurd (Int32.le_refl _) h9
    | succ d ih =>
      intro i ls hid hl
      refine lv_iload_n hx hb d_U_countActive_4 rfl (lv_at hl 0 rfl) ?_
      refine lv_aload_n hx hb d_U_countActive_5 rfl (lv_at hl 2 rfl) ?_
      refine va_get (D := D) (ci := 2) (v := .int (nI n)) (C := RU) (T := TU) (N := 9) hx hb hg inU hown hK hP 0 rfl rfl 1 (by decide) (hg _ fl_U_106) (fun _ h9 => h9) rfl d_U_countActive_6 ?_
      refine lv_icmp_ge (tgt := 33) hx hb d_U_countActive_9 (by decide) (fun h9 => ?_) (fun h9 => ?_)
      · skip
        exact absurd h9 (nI_ge (by omega) (by omega))
      · skip
        refine lv_aload_n hx hb d_U_countActive_12 rfl (lv_at hl 2 rfl) ?_
        refine va_get (D := D) (ci := 2) (v := .ref (au 1)) (C := RU) (T := TU) (N := 9) hx hb hg inU hown hK hP 0 rfl rfl 0 (by decide) (hg _ fl_U_11) (fun _ h9 => h9) rfl d_U_countActive_13 ?_
        refine lv_iload_n hx hb d_U_countActive_16 rfl (lv_at hl 0 rfl) ?_
        obtain ⟨a17, p17, hsa17, haL17, hfa17, hst17⟩ := ui_at hu (i := i) (by omega) (wp_r (wp_r (wp_r hP)))
        refine va_aldq hx hb hK hP 1 3 rfl rfl (vp_in_nI (n := i) (N := 200) (by omega) (by omega)) d_U_countActive_17 ?_
        refine tov_ (y := .ref a17) (by rw [nI_clamp (by omega), hsa17]; rfl) ?_
        refine va_getN (D := D) (ci := 1) (v := .int (b2_ (ac i))) (C := RS) (T := TS) (N := 7) hx hb hg inS hown hK hst17 0 rfl rfl 6 (by decide) (va_Nw.use rfl (hN.1 _ fn_U_65)) (fun _ h9 => h9) rfl d_U_countActive_18 ?_
        refine lv_if_eq (tgt := 27) hx hb d_U_countActive_21 (by decide) (fun h21 => ?_) (fun h21 => ?_)
        · skip
          have hq : ac i = false := b2_0.mp h21
          have hcn : na_ ac (i + 1) = na_ ac i := by rw [na_s, hq]; rfl
          refine lv_iinc (k := 0) (v := nI (i + 1)) (lv' := [(2, .int (nI (i + 1))), (1, .int (nI (na_ ac i))), (0, .ref (au 0))]) hx hb d_U_countActive_27 hl rfl (inc_ _) (by decide) rfl (fun ls hl => ?_)
          refine lv_goto (tgt := 4) hx hb d_U_countActive_30 (by decide) ?_
          have hl := lv_sub hl [0, 1, 2] (l' := [(2, .int (nI (i + 1))), (1, .int (nI (na_ ac i))), (0, .ref (au 0))]) rfl
          exact ih (i + 1) ls (by omega) (by rw [hcn]; exact hl)
        · skip
          have hq : ac i = true := b2_n.mp h21
          have hcn : na_ ac (i + 1) = na_ ac i + 1 := by rw [na_s, if_pos hq]
          refine lv_iinc (k := 1) (v := nI (na_ ac i + 1)) (lv' := [(1, .int (nI (na_ ac i + 1))), (2, .int (nI i)), (0, .ref (au 0))]) hx hb d_U_countActive_24 hl rfl (inc_ _) (by decide) rfl (fun ls hl => ?_)
          refine lv_iinc (k := 1) (v := nI (i + 1)) (lv' := [(2, .int (nI (i + 1))), (1, .int (nI (na_ ac i + 1))), (0, .ref (au 0))]) hx hb d_U_countActive_27 hl rfl (inc_ _) (by decide) rfl (fun ls hl => ?_)
          refine lv_goto (tgt := 4) hx hb d_U_countActive_30 (by decide) ?_
          have hl := lv_sub hl [0, 1, 2] (l' := [(2, .int (nI (i + 1))), (1, .int (nI (na_ ac i + 1))), (0, .ref (au 0))]) rfl
          exact ih (i + 1) ls (by omega) (by rw [hcn]; exact hl)
  refine lv_iconst (v := 0) hx hb d_U_countActive_0 (by decide) ?_
  refine lv_istore_n (lv' := [(1, .int 0), (0, .ref (au 0))]) hx hb d_U_countActive_1 rfl hl (by decide) rfl (fun ls hl => ?_)
  refine lv_iconst (v := 0) hx hb d_U_countActive_2 (by decide) ?_
  refine lv_istore_n (lv' := [(2, .int 0), (1, .int 0), (0, .ref (au 0))]) hx hb d_U_countActive_3 rfl hl (by decide) rfl (fun ls hl => ?_)
  have hl := lv_sub hl [0, 1, 2] (l' := [(2, .int (nI 0)), (1, .int (nI 0)), (0, .ref (au 0))]) rfl
  exact loop n 0 ls (by omega) hl

set_option maxHeartbeats 4000000 in
set_option maxRecDepth 100000 in
theorem m_U_insertsOf (l : Launch) (D : va_G) (cA : Nat → ClassId) (au am at2 : Nat → Nat) (ic tc : Int32) (sa : Nat → Option Nat) (ip tk : Nat → Int32) (um ut : rs_T) (L : List Nat) (f : Nat → va_E) (hs : Nat → st_T) (ac : Nat → Bool) (n la : Nat) (r : Nat) (hr3 : r < 3) (htr : ∀ k, k < n → tr_ (hs k)) (hu : ui_ cA hs ac n sa L f) (hn : n ≤ 200) : Met l y_U_insertsOf (.code y_U_insertsOf c_U_insertsOf 4 (some .int) :: G_) ({ frames := 0, cells := 0, slots := 0, locals := 0 }) (va_Pc [.ref (au 0), .int (nI r)] (pr_ D cA ((wU cA au (am 0) (at2 0) (nI n) (nI la) ic tc sa ip tk) ++ ((wq_ cA am um) ++ ((wq_ cA at2 ut) ++ (va_pl L f)))))) (vp_Si (fun q => q = nI (ic_ hs r n))) 0 0 (fun _ => False) := by
  refine Met.ofW (cc := c_U_insertsOf) (maxL := 4) (ret := (some .int)) (by decide) rfl ?_
  intro p e s m args below meth c s₁ B hml hv
  obtain ⟨rfl, hP, hK, hN⟩ := hv
  have hx := B.exec
  have hb := B.bytes
  have hr := B.returns
  have hts := atoms_spec (ws := (.code y_U_insertsOf c_U_insertsOf 4 (some .int) :: G_)) B.pre
  have hg : ∀ w ∈ G_, w.before ([.ref (au 0), .int (nI r)] : List Value).toArray s = true := fun w h => hts w (List.mem_cons_of_mem _ h)
  have hown : s.vm.findClass RU = some m.cls := findClass_of_methodNamed B.named
  have hlocks := B.notSynchronized
  have hl := lv_entry ([.ref (au 0), .int (nI r)]) (n := 4) (Nat.le_of_ble_eq_true rfl)
  rw [lg_entry_eq]
  generalize (lg_sl ([.ref (au 0), .int (nI r)]) ++ List.replicate (4 - (lg_sl ([.ref (au 0), .int (nI r)])).length) Slot.unset).toArray = ls at hl ⊢
  have hl : lv_has ls 4 [(0, .ref (au 0)), (1, .int (nI r))] := hl
  have loop : ∀ (d i : Nat) (ls : Array Slot), i + d = n → lv_has ls 4 [(3, .int (nI i)), (2, .int (nI (ic_ hs r i))), (0, .ref (au 0)), (1, .int (nI r))] → W p l e (headSpec (.code y_U_insertsOf c_U_insertsOf 4 (some .int) :: G_) ({ frames := 0, cells := 0, slots := 0, locals := 0 })).room s m ([.ref (au 0), .int (nI r)] : List Value).toArray below meth c s.heap [] 0 0 (MQ below (vp_Si (fun q => q = nI (ic_ hs r n))) ([.ref (au 0), .int (nI r)] : List Value).toArray s 0 0 (fun _ => False)) (F0 m 4 ls []) := by
    intro d
    induction d with
    | zero =>
      intro i ls hid hl
      have hi2 : i = n := by omega
      subst hi2
      refine lv_iload_n hx hb d_U_insertsOf_4 rfl (lv_at hl 0 rfl) ?_
      refine lv_aload_n hx hb d_U_insertsOf_5 rfl (lv_at hl 2 rfl) ?_
      refine va_get (D := D) (ci := 2) (v := .int (nI i)) (C := RU) (T := TU) (N := 9) hx hb hg inU hown hK hP 0 rfl rfl 1 (by decide) (hg _ fl_U_106) (fun _ h9 => h9) rfl d_U_insertsOf_6 ?_
      refine lv_icmp_ge (tgt := 47) hx hb d_U_insertsOf_9 (by decide) (fun h9 => ?_) (fun h9 => ?_)
      · skip
        refine lv_iload_n hx hb d_U_insertsOf_47 rfl (lv_at hl 1 rfl) ?_
        exact W.iret hx hb hr (fun t ht hW => ⟨_, rfl, rfl, ht⟩) (fun q h => absurd h List.not_mem_nil) d_U_insertsOf_48
      · skip
        exact absurd (Int32.le_refl _) h9
    | succ d ih =>
      intro i ls hid hl
      refine lv_iload_n hx hb d_U_insertsOf_4 rfl (lv_at hl 0 rfl) ?_
      refine lv_aload_n hx hb d_U_insertsOf_5 rfl (lv_at hl 2 rfl) ?_
      refine va_get (D := D) (ci := 2) (v := .int (nI n)) (C := RU) (T := TU) (N := 9) hx hb hg inU hown hK hP 0 rfl rfl 1 (by decide) (hg _ fl_U_106) (fun _ h9 => h9) rfl d_U_insertsOf_6 ?_
      refine lv_icmp_ge (tgt := 47) hx hb d_U_insertsOf_9 (by decide) (fun h9 => ?_) (fun h9 => ?_)
      · skip
        exact absurd h9 (nI_ge (by omega) (by omega))
      · skip
        refine lv_aload_n hx hb d_U_insertsOf_12 rfl (lv_at hl 2 rfl) ?_
        refine va_get (D := D) (ci := 2) (v := .ref (au 1)) (C := RU) (T := TU) (N := 9) hx hb hg inU hown hK hP 0 rfl rfl 0 (by decide) (hg _ fl_U_11) (fun _ h9 => h9) rfl d_U_insertsOf_13 ?_
        refine lv_iload_n hx hb d_U_insertsOf_16 rfl (lv_at hl 0 rfl) ?_
        obtain ⟨a17, p17, hsa17, haL17, hfa17, hst17⟩ := ui_at hu (i := i) (by omega) (wp_r (wp_r (wp_r hP)))
        refine va_aldq hx hb hK hP 1 3 rfl rfl (vp_in_nI (n := i) (N := 200) (by omega) (by omega)) d_U_insertsOf_17 ?_
        refine tov_ (y := .ref a17) (by rw [nI_clamp (by omega), hsa17]; rfl) ?_
        refine va_getN (D := D) (ci := 1) (v := .int (s_k (hs i))) (C := RS) (T := TS) (N := 7) hx hb hg inS hown hK hst17 0 rfl rfl 1 (by decide) (va_Nw.use rfl (hN.1 _ fn_U_118)) (fun _ h9 => h9) rfl d_U_insertsOf_18 ?_
        refine lv_iconst (v := 3) hx hb d_U_insertsOf_21 (by decide) ?_
        refine lv_icmp_ne (tgt := 41) hx hb d_U_insertsOf_22 (by decide) (fun h22 => ?_) (fun h22 => ?_)
        · skip
          have hcn : ic_ hs r (i + 1) = ic_ hs r i := by rw [ic_s, if_neg (fun h => h22 h.1)]; rfl
          refine lv_iinc (k := 0) (v := nI (i + 1)) (lv' := [(3, .int (nI (i + 1))), (2, .int (nI (ic_ hs r i))), (0, .ref (au 0)), (1, .int (nI r))]) hx hb d_U_insertsOf_41 hl rfl (inc_ _) (by decide) rfl (fun ls hl => ?_)
          refine lv_goto (tgt := 4) hx hb d_U_insertsOf_44 (by decide) ?_
          have hl := lv_sub hl [0, 1, 2, 3] (l' := [(3, .int (nI (i + 1))), (2, .int (nI (ic_ hs r i))), (0, .ref (au 0)), (1, .int (nI r))]) rfl
          exact ih (i + 1) ls (by omega) (by rw [hcn]; exact hl)
        · skip
          obtain ⟨c9, hc9, hct⟩ := (htr i (by omega)).2.2.2.1 (Or.inl h22)
          have hsr : s_r (hs i) = c9 := by unfold s_r; rw [hct]; exact nI_clamp (by omega)
          refine lv_aload_n hx hb d_U_insertsOf_25 rfl (lv_at hl 2 rfl) ?_
          refine va_get (D := D) (ci := 2) (v := .ref (au 1)) (C := RU) (T := TU) (N := 9) hx hb hg inU hown hK hP 0 rfl rfl 0 (by decide) (hg _ fl_U_11) (fun _ h9 => h9) rfl d_U_insertsOf_26 ?_
          refine lv_iload_n hx hb d_U_insertsOf_29 rfl (lv_at hl 0 rfl) ?_
          obtain ⟨a30, p30, hsa30, haL30, hfa30, hst30⟩ := ui_at hu (i := i) (by omega) (wp_r (wp_r (wp_r hP)))
          refine va_aldq hx hb hK hP 1 3 rfl rfl (vp_in_nI (n := i) (N := 200) (by omega) (by omega)) d_U_insertsOf_30 ?_
          refine tov_ (y := .ref a30) (by rw [nI_clamp (by omega), hsa30]; rfl) ?_
          refine va_getN (D := D) (ci := 1) (v := .int (s_t (hs i))) (C := RS) (T := TS) (N := 7) hx hb hg inS hown hK hst30 0 rfl rfl 2 (by decide) (va_Nw.use rfl (hN.1 _ fn_U_121)) (fun _ h9 => h9) rfl d_U_insertsOf_31 ?_
          refine lv_iload_n hx hb d_U_insertsOf_34 rfl (lv_at hl 3 rfl) ?_
          refine lv_icmp_ne (tgt := 41) hx hb d_U_insertsOf_35 (by decide) (fun h35 => ?_) (fun h35 => ?_)
          · skip
            have hcn : ic_ hs r (i + 1) = ic_ hs r i := by rw [ic_s, if_neg (fun h => h35 (by rw [hct, ← h.2, hsr]))]; rfl
            refine lv_iinc (k := 0) (v := nI (i + 1)) (lv' := [(3, .int (nI (i + 1))), (2, .int (nI (ic_ hs r i))), (0, .ref (au 0)), (1, .int (nI r))]) hx hb d_U_insertsOf_41 hl rfl (inc_ _) (by decide) rfl (fun ls hl => ?_)
            refine lv_goto (tgt := 4) hx hb d_U_insertsOf_44 (by decide) ?_
            have hl := lv_sub hl [0, 1, 2, 3] (l' := [(3, .int (nI (i + 1))), (2, .int (nI (ic_ hs r i))), (0, .ref (au 0)), (1, .int (nI r))]) rfl
            exact ih (i + 1) ls (by omega) (by rw [hcn]; exact hl)
          · skip
            have hcn : ic_ hs r (i + 1) = ic_ hs r i + 1 := by rw [ic_s, if_pos ⟨h22, by rw [hct] at h35; rw [hsr]; exact (nI_eq (by omega) (by omega)).mp h35⟩]
            refine lv_iinc (k := 1) (v := nI (ic_ hs r i + 1)) (lv' := [(2, .int (nI (ic_ hs r i + 1))), (3, .int (nI i)), (0, .ref (au 0)), (1, .int (nI r))]) hx hb d_U_insertsOf_38 hl rfl (inc_ _) (by decide) rfl (fun ls hl => ?_)
            refine lv_iinc (k := 1) (v := nI (i + 1)) (lv' := [(3, .int (nI (i + 1))), (2, .int (nI (ic_ hs r i + 1))), (0, .ref (au 0)), (1, .int (nI r))]) hx hb d_U_insertsOf_41 hl rfl (inc_ _) (by decide) rfl (fun ls hl => ?_)
            refine lv_goto (tgt := 4) hx hb d_U_insertsOf_44 (by decide) ?_
            have hl := lv_sub hl [0, 1, 2, 3] (l' := [(3, .int (nI (i + 1))), (2, .int (nI (ic_ hs r i + 1))), (0, .ref (au 0)), (1, .int (nI r))]) rfl
            exact ih (i + 1) ls (by omega) (by rw [hcn]; exact hl)
  refine lv_iconst (v := 0) hx hb d_U_insertsOf_0 (by decide) ?_
  refine lv_istore_n (lv' := [(2, .int 0), (0, .ref (au 0)), (1, .int (nI r))]) hx hb d_U_insertsOf_1 rfl hl (by decide) rfl (fun ls hl => ?_)
  refine lv_iconst (v := 0) hx hb d_U_insertsOf_2 (by decide) ?_
  refine lv_istore_n (lv' := [(3, .int 0), (2, .int 0), (0, .ref (au 0)), (1, .int (nI r))]) hx hb d_U_insertsOf_3 rfl hl (by decide) rfl (fun ls hl => ?_)
  have hl := lv_sub hl [0, 1, 2, 3] (l' := [(3, .int (nI 0)), (2, .int (nI 0)), (0, .ref (au 0)), (1, .int (nI r))]) rfl
  exact loop n 0 ls (by omega) hl
