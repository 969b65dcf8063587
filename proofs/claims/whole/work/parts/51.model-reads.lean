/-! The reference: its own reads -/
set_option maxHeartbeats 4000000 in
set_option maxRecDepth 100000 in
theorem m_M_find (l : Launch) (D : va_G) (cA : Nat → ClassId) (am : Nat → Nat) (la : Int32) (nu ki th ot : Nat → Int32) (vs : Nat → Int64) (av pl ps : Nat → Int32) (tz : Int32) (ts : Nat → Int32) (fr bk : Int32) (ce : Nat → Int32) (co : Nat → Int64) (ro le dn un : Nat → Int32) (hs : Nat → st_T) (ac : Nat → Bool) (n : Nat) (x : Int32) (hmh : mh_ hs ac n nu ki th ot vs av pl ps) (hn : n ≤ 200) : Met l y_M_find (.code y_M_find c_M_find 3 (some .int) :: G_) ({ frames := 0, cells := 0, slots := 0, locals := 0 }) (va_Pc [.ref (am 0), .int x] (pr_ D cA (wM cA am (nI n) la nu ki th ot vs av pl ps tz ts fr bk ce co ro le dn un))) (vp_Si (fun r => r = ov_ (fn_ hs n x))) 0 0 (fun _ => False) := by
  refine Met.ofW (cc := c_M_find) (maxL := 3) (ret := (some .int)) (by decide) rfl ?_
  intro p e s m args below meth c s₁ B hml hv
  obtain ⟨rfl, hP, hK, hN⟩ := hv
  have hx := B.exec
  have hb := B.bytes
  have hr := B.returns
  have hts := atoms_spec (ws := (.code y_M_find c_M_find 3 (some .int) :: G_)) B.pre
  have hg : ∀ w ∈ G_, w.before ([.ref (am 0), .int x] : List Value).toArray s = true := fun w h => hts w (List.mem_cons_of_mem _ h)
  have hown : s.vm.findClass RM = some m.cls := findClass_of_methodNamed B.named
  have hlocks := B.notSynchronized
  have hl := lv_entry ([.ref (am 0), .int x]) (n := 3) (Nat.le_of_ble_eq_true rfl)
  rw [lg_entry_eq]
  generalize (lg_sl ([.ref (am 0), .int x]) ++ List.replicate (3 - (lg_sl ([.ref (am 0), .int x])).length) Slot.unset).toArray = ls at hl ⊢
  have hl : lv_has ls 3 [(0, .ref (am 0)), (1, .int x)] := hl
  have loop : ∀ (d i : Nat) (ls : Array Slot), i + d = n → (∀ j, j < i → decide (s_n (hs j) = x) = false) → lv_has ls 3 [(2, .int (nI i)), (0, .ref (am 0)), (1, .int x)] → W p l e (headSpec (.code y_M_find c_M_find 3 (some .int) :: G_) ({ frames := 0, cells := 0, slots := 0, locals := 0 })).room s m ([.ref (am 0), .int x] : List Value).toArray below meth c s.heap [] 0 0 (MQ below (vp_Si (fun r => r = ov_ (fn_ hs n x))) ([.ref (am 0), .int x] : List Value).toArray s 0 0 (fun _ => False)) (F0 m 2 ls []) := by
    intro d
    induction d with
    | zero =>
      intro i ls hid hno hl
      have hi2 : i = n := by omega
      subst hi2
      refine lv_iload_n hx hb d_M_find_2 rfl (lv_at hl 0 rfl) ?_
      refine lv_aload_n hx hb d_M_find_3 rfl (lv_at hl 1 rfl) ?_
      refine va_get (D := D) (ci := 3) (v := .int (nI i)) (C := RM) (T := TM) (N := 20) hx hb hg inM hown hK hP 0 rfl rfl 0 (by decide) (hg _ fl_M_65) (fun _ h9 => h9) rfl d_M_find_4 ?_
      refine lv_icmp_ge (tgt := 28) hx hb d_M_find_7 (by decide) (fun h7 => ?_) (fun h7 => ?_)
      · skip
        refine lv_iconst (v := (-1)) hx hb d_M_find_28 (by decide) ?_
        exact W.iret hx hb hr (fun t ht hW => ⟨_, rfl, by unfold fn_; rw [fi_no hno]; rfl, ht⟩) (fun q h => absurd h List.not_mem_nil) d_M_find_29
      · skip
        exact absurd (Int32.le_refl _) h7
    | succ d ih =>
      intro i ls hid hno hl
      have hmi := hmh i (by omega)
      refine lv_iload_n hx hb d_M_find_2 rfl (lv_at hl 0 rfl) ?_
      refine lv_aload_n hx hb d_M_find_3 rfl (lv_at hl 1 rfl) ?_
      refine va_get (D := D) (ci := 3) (v := .int (nI n)) (C := RM) (T := TM) (N := 20) hx hb hg inM hown hK hP 0 rfl rfl 0 (by decide) (hg _ fl_M_65) (fun _ h9 => h9) rfl d_M_find_4 ?_
      refine lv_icmp_ge (tgt := 28) hx hb d_M_find_7 (by decide) (fun h7 => ?_) (fun h7 => ?_)
      · skip
        exact absurd h7 (nI_ge (by omega) (by omega))
      · skip
        refine lv_aload_n hx hb d_M_find_10 rfl (lv_at hl 1 rfl) ?_
        refine va_get (D := D) (ci := 3) (v := .ref (am 1)) (C := RM) (T := TM) (N := 20) hx hb hg inM hown hK hP 0 rfl rfl 2 (by decide) (hg _ fl_M_7) (fun _ h9 => h9) rfl d_M_find_11 ?_
        refine lv_iload_n hx hb d_M_find_14 rfl (lv_at hl 0 rfl) ?_
        refine va_iald hx hb hK hP 1 0 rfl rfl (vp_in_nI (n := i) (N := 200) (by omega) (by omega)) d_M_find_15 ?_
        refine toi_ (y := nu i) (by rw [nI_clamp (by omega)]) ?_
        refine toi_ (y := s_n (hs i)) (hmi.1) ?_
        refine lv_iload_n hx hb d_M_find_16 rfl (lv_at hl 2 rfl) ?_
        refine lv_icmp_ne (tgt := 22) hx hb d_M_find_17 (by decide) (fun h17 => ?_) (fun h17 => ?_)
        · skip
          refine lv_iinc (k := 0) (v := nI (i + 1)) (lv' := [(2, .int (nI (i + 1))), (0, .ref (am 0)), (1, .int x)]) hx hb d_M_find_22 hl rfl (inc_ _) (by decide) rfl (fun ls hl => ?_)
          refine lv_goto (tgt := 2) hx hb d_M_find_25 (by decide) ?_
          have hl := lv_sub hl [0, 1, 2] (l' := [(2, .int (nI (i + 1))), (0, .ref (am 0)), (1, .int x)]) rfl
          exact ih (i + 1) ls (by omega) (lt_s hno (by simp [h17])) hl
        · skip
          refine lv_iload_n hx hb d_M_find_20 rfl (lv_at hl 0 rfl) ?_
          exact W.iret hx hb hr (fun t ht hW => ⟨_, rfl, by unfold fn_; rw [fi_of (i := i) (by omega) (by simp [h17]) hno]; rfl, ht⟩) (fun q h => absurd h List.not_mem_nil) d_M_find_21
  refine lv_iconst (v := 0) hx hb d_M_find_0 (by decide) ?_
  refine lv_istore_n (lv' := [(2, .int 0), (0, .ref (am 0)), (1, .int x)]) hx hb d_M_find_1 rfl hl (by decide) rfl (fun ls hl => ?_)
  have hl := lv_sub hl [0, 1, 2] (l' := [(2, .int (nI 0)), (0, .ref (am 0)), (1, .int x)]) rfl
  exact loop n 0 ls (by omega) (fun j h => absurd h (Nat.not_lt_zero _)) hl

set_option maxHeartbeats 4000000 in
set_option maxRecDepth 100000 in
theorem m_M_isFull (l : Launch) (D : va_G) (cA : Nat → ClassId) (am : Nat → Nat) (la : Int32) (nu ki th ot : Nat → Int32) (vs : Nat → Int64) (av pl ps : Nat → Int32) (tz : Int32) (ts : Nat → Int32) (fr bk : Int32) (ce : Nat → Int32) (co : Nat → Int64) (ro le dn un : Nat → Int32) (n : Nat) (hn : n ≤ 200) : Met l y_M_isFull (.code y_M_isFull c_M_isFull 1 (some .boolean) :: G_) ({ frames := 0, cells := 0, slots := 0, locals := 0 }) (va_Pc [.ref (am 0)] (pr_ D cA (wM cA am (nI n) la nu ki th ot vs av pl ps tz ts fr bk ce co ro le dn un))) (vp_Si (fun r => r = b2_ (decide (n = 200)))) 0 0 (fun _ => False) := by
  refine Met.ofW (cc := c_M_isFull) (maxL := 1) (ret := (some .boolean)) (by decide) rfl ?_
  intro p e s m args below meth c s₁ B hml hv
  obtain ⟨rfl, hP, hK, hN⟩ := hv
  have hx := B.exec
  have hb := B.bytes
  have hr := B.returns
  have hts := atoms_spec (ws := (.code y_M_isFull c_M_isFull 1 (some .boolean) :: G_)) B.pre
  have hg : ∀ w ∈ G_, w.before ([.ref (am 0)] : List Value).toArray s = true := fun w h => hts w (List.mem_cons_of_mem _ h)
  have hown : s.vm.findClass RM = some m.cls := findClass_of_methodNamed B.named
  have hlocks := B.notSynchronized
  have hl := lv_entry ([.ref (am 0)]) (n := 1) (Nat.le_of_ble_eq_true rfl)
  rw [lg_entry_eq]
  generalize (lg_sl ([.ref (am 0)]) ++ List.replicate (1 - (lg_sl ([.ref (am 0)])).length) Slot.unset).toArray = ls at hl ⊢
  have hl : lv_has ls 1 [(0, .ref (am 0))] := hl
  refine lv_aload_n hx hb d_M_isFull_0 rfl (lv_at hl 0 rfl) ?_
  refine va_get (D := D) (ci := 3) (v := .int (nI n)) (C := RM) (T := TM) (N := 20) hx hb hg inM hown hK hP 0 rfl rfl 0 (by decide) (hg _ fl_M_65) (fun _ h9 => h9) rfl d_M_isFull_1 ?_
  refine lv_sipush (v := 200) hx hb d_M_isFull_4 (by decide) ?_
  refine toi_ (y := nI 200) (rfl) ?_
  refine lv_icmp_ne (tgt := 14) hx hb d_M_isFull_7 (by decide) (fun h7 => ?_) (fun h7 => ?_)
  · skip
    have hf : ¬ n = 200 := fun h => h7 (by rw [h])
    refine lv_iconst (v := 0) hx hb d_M_isFull_14 (by decide) ?_
    exact W.zret hx hb hr rfl (fun t ht hW => ⟨_, rfl, by simp [hf, b2_], ht⟩) (fun q h => absurd h List.not_mem_nil) d_M_isFull_15
  · skip
    have hf : n = 200 := (nI_eq (by omega) (by omega)).mp h7
    refine lv_iconst (v := 1) hx hb d_M_isFull_10 (by decide) ?_
    refine lv_goto (tgt := 15) hx hb d_M_isFull_11 (by decide) ?_
    exact W.zret hx hb hr rfl (fun t ht hW => ⟨_, rfl, by simp [hf, b2_], ht⟩) (fun q h => absurd h List.not_mem_nil) d_M_isFull_15

set_option maxHeartbeats 4000000 in
set_option maxRecDepth 100000 in
theorem m_M_isRow (l : Launch) (D : va_G) (cA : Nat → ClassId) (x : Int32) : Met l y_M_isRow (.code y_M_isRow c_M_isRow 1 (some .boolean) :: G_) ({ frames := 0, cells := 0, slots := 0, locals := 0 }) (va_Pc [.int x] (pr_ D cA ([] : va_W))) (vp_Si (fun r => r = b2_ (inx_ x 3))) 0 0 (fun _ => False) := by
  refine Met.ofW (cc := c_M_isRow) (maxL := 1) (ret := (some .boolean)) (by decide) rfl ?_
  intro p e s m args below meth c s₁ B hml hv
  obtain ⟨rfl, hP, hK, hN⟩ := hv
  have hx := B.exec
  have hb := B.bytes
  have hr := B.returns
  have hts := atoms_spec (ws := (.code y_M_isRow c_M_isRow 1 (some .boolean) :: G_)) B.pre
  have hg : ∀ w ∈ G_, w.before ([.int x] : List Value).toArray s = true := fun w h => hts w (List.mem_cons_of_mem _ h)
  have hown : s.vm.findClass RM = some m.cls := findClass_of_methodNamed B.named
  have hlocks := B.notSynchronized
  have hl := lv_entry ([.int x]) (n := 1) (Nat.le_of_ble_eq_true rfl)
  rw [lg_entry_eq]
  generalize (lg_sl ([.int x]) ++ List.replicate (1 - (lg_sl ([.int x])).length) Slot.unset).toArray = ls at hl ⊢
  have hl : lv_has ls 1 [(0, .int x)] := hl
  refine lv_iload_n hx hb d_M_isRow_0 rfl (lv_at hl 0 rfl) ?_
  refine lv_if_lt (tgt := 13) hx hb d_M_isRow_1 (by decide) (fun h1 => ?_) (fun h1 => ?_)
  · skip
    have hn : inx_ x 3 = false := by
      rw [Int32.lt_iff_toInt_lt] at h1
      have : (0 : Int32).toInt = 0 := by decide
      unfold inx_; simp; omega
    refine lv_iconst (v := 0) hx hb d_M_isRow_13 (by decide) ?_
    exact W.zret hx hb hr rfl (fun t ht hW => ⟨_, rfl, by rw [hn]; rfl, ht⟩) (fun q h => absurd h List.not_mem_nil) d_M_isRow_14
  · skip
    refine lv_iload_n hx hb d_M_isRow_4 rfl (lv_at hl 0 rfl) ?_
    refine lv_iconst (v := 3) hx hb d_M_isRow_5 (by decide) ?_
    refine lv_icmp_ge (tgt := 13) hx hb d_M_isRow_6 (by decide) (fun h6 => ?_) (fun h6 => ?_)
    · skip
      have hn : inx_ x 3 = false := by
        rw [Int32.le_iff_toInt_le] at h6
        have : (3 : Int32).toInt = 3 := by decide
        unfold inx_; simp; omega
      refine lv_iconst (v := 0) hx hb d_M_isRow_13 (by decide) ?_
      exact W.zret hx hb hr rfl (fun t ht hW => ⟨_, rfl, by rw [hn]; rfl, ht⟩) (fun q h => absurd h List.not_mem_nil) d_M_isRow_14
    · skip
      have hn : inx_ x 3 = true := by
        rw [Int32.lt_iff_toInt_lt] at h1
        rw [Int32.le_iff_toInt_le] at h6
        have : (0 : Int32).toInt = 0 := by decide
        have : (3 : Int32).toInt = 3 := by decide
        unfold inx_; simp; omega
      refine lv_iconst (v := 1) hx hb d_M_isRow_9 (by decide) ?_
      refine lv_goto (tgt := 14) hx hb d_M_isRow_10 (by decide) ?_
      exact W.zret hx hb hr rfl (fun t ht hW => ⟨_, rfl, by rw [hn]; rfl, ht⟩) (fun q h => absurd h List.not_mem_nil) d_M_isRow_14

set_option maxHeartbeats 4000000 in
set_option maxRecDepth 100000 in
theorem m_M_indexOf (l : Launch) (D : va_G) (cA : Nat → ClassId) (am : Nat → Nat) (vz la : Int32) (nu ki th ot : Nat → Int32) (vs : Nat → Int64) (av pl ps : Nat → Int32) (tz : Int32) (ts : Nat → Int32) (fr bk : Int32) (ce : Nat → Int32) (co : Nat → Int64) (ro le dn un : Nat → Int32) (r : Nat) (x : Int32) (Lr : List Int32) (hr3 : r < 3) (hle : le r = nI Lr.length) (hrl : rl_ (fun j => ro (40 * r + j)) Lr) (h40 : Lr.length ≤ 40) : Met l y_M_indexOf (.code y_M_indexOf c_M_indexOf 4 (some .int) :: G_) ({ frames := 0, cells := 0, slots := 0, locals := 0 }) (va_Pc [.ref (am 0), .int (nI r), .int x] (pr_ D cA (wM cA am vz la nu ki th ot vs av pl ps tz ts fr bk ce co ro le dn un))) (vp_Si (fun q => q = ov_ (ix_ Lr x))) 0 0 (fun _ => False) := by
  refine Met.ofW (cc := c_M_indexOf) (maxL := 4) (ret := (some .int)) (by decide) rfl ?_
  intro p e s m args below meth c s₁ B hml hv
  obtain ⟨rfl, hP, hK, hN⟩ := hv
  have hx := B.exec
  have hb := B.bytes
  have hr := B.returns
  have hts := atoms_spec (ws := (.code y_M_indexOf c_M_indexOf 4 (some .int) :: G_)) B.pre
  have hg : ∀ w ∈ G_, w.before ([.ref (am 0), .int (nI r), .int x] : List Value).toArray s = true := fun w h => hts w (List.mem_cons_of_mem _ h)
  have hown : s.vm.findClass RM = some m.cls := findClass_of_methodNamed B.named
  have hlocks := B.notSynchronized
  have hl := lv_entry ([.ref (am 0), .int (nI r), .int x]) (n := 4) (Nat.le_of_ble_eq_true rfl)
  rw [lg_entry_eq]
  generalize (lg_sl ([.ref (am 0), .int (nI r), .int x]) ++ List.replicate (4 - (lg_sl ([.ref (am 0), .int (nI r), .int x])).length) Slot.unset).toArray = ls at hl ⊢
  have hl : lv_has ls 4 [(0, .ref (am 0)), (1, .int (nI r)), (2, .int x)] := hl
  rw [ix_f hrl]
  have loop : ∀ (d i : Nat) (ls : Array Slot), i + d = Lr.length → (∀ j, j < i → decide (ro (40 * r + j) = x) = false) → lv_has ls 4 [(3, .int (nI i)), (0, .ref (am 0)), (1, .int (nI r)), (2, .int x)] → W p l e (headSpec (.code y_M_indexOf c_M_indexOf 4 (some .int) :: G_) ({ frames := 0, cells := 0, slots := 0, locals := 0 })).room s m ([.ref (am 0), .int (nI r), .int x] : List Value).toArray below meth c s.heap [] 0 0 (MQ below (vp_Si (fun q => q = ov_ (fi_ (fun i => decide (ro (40 * r + i) = x)) Lr.length))) ([.ref (am 0), .int (nI r), .int x] : List Value).toArray s 0 0 (fun _ => False)) (F0 m 2 ls []) := by
    intro d
    induction d with
    | zero =>
      intro i ls hid hno hl
      have hi2 : i = Lr.length := by omega
      subst hi2
      refine lv_iload_n hx hb d_M_indexOf_2 rfl (lv_at hl 0 rfl) ?_
      refine lv_aload_n hx hb d_M_indexOf_3 rfl (lv_at hl 1 rfl) ?_
      refine va_get (D := D) (ci := 3) (v := .ref (am 13)) (C := RM) (T := TM) (N := 20) hx hb hg inM hown hK hP 0 rfl rfl 17 (by decide) (hg _ fl_M_56) (fun _ h9 => h9) rfl d_M_indexOf_4 ?_
      refine lv_iload_n hx hb d_M_indexOf_7 rfl (lv_at hl 2 rfl) ?_
      refine va_iald hx hb hK hP 13 0 rfl rfl (vp_in_nI (n := r) (N := 3) (by omega) (by omega)) d_M_indexOf_8 ?_
      refine toi_ (y := le r) (by rw [nI_clamp (by omega)]) ?_
      refine toi_ (y := nI Lr.length) (hle) ?_
      refine lv_icmp_ge (tgt := 35) hx hb d_M_indexOf_9 (by decide) (fun h9 => ?_) (fun h9 => ?_)
      · skip
        refine lv_iconst (v := (-1)) hx hb d_M_indexOf_35 (by decide) ?_
        exact W.iret hx hb hr (fun t ht hW => ⟨_, rfl, by rw [fi_no hno]; rfl, ht⟩) (fun q h => absurd h List.not_mem_nil) d_M_indexOf_36
      · skip
        exact absurd (Int32.le_refl _) h9
    | succ d ih =>
      intro i ls hid hno hl
      refine lv_iload_n hx hb d_M_indexOf_2 rfl (lv_at hl 0 rfl) ?_
      refine lv_aload_n hx hb d_M_indexOf_3 rfl (lv_at hl 1 rfl) ?_
      refine va_get (D := D) (ci := 3) (v := .ref (am 13)) (C := RM) (T := TM) (N := 20) hx hb hg inM hown hK hP 0 rfl rfl 17 (by decide) (hg _ fl_M_56) (fun _ h9 => h9) rfl d_M_indexOf_4 ?_
      refine lv_iload_n hx hb d_M_indexOf_7 rfl (lv_at hl 2 rfl) ?_
      refine va_iald hx hb hK hP 13 0 rfl rfl (vp_in_nI (n := r) (N := 3) (by omega) (by omega)) d_M_indexOf_8 ?_
      refine toi_ (y := le r) (by rw [nI_clamp (by omega)]) ?_
      refine toi_ (y := nI Lr.length) (hle) ?_
      refine lv_icmp_ge (tgt := 35) hx hb d_M_indexOf_9 (by decide) (fun h9 => ?_) (fun h9 => ?_)
      · skip
        exact absurd h9 (nI_ge (by omega) (by omega))
      · skip
        refine lv_aload_n hx hb d_M_indexOf_12 rfl (lv_at hl 1 rfl) ?_
        refine va_get (D := D) (ci := 3) (v := .ref (am 12)) (C := RM) (T := TM) (N := 20) hx hb hg inM hown hK hP 0 rfl rfl 16 (by decide) (hg _ fl_M_53) (fun _ h9 => h9) rfl d_M_indexOf_13 ?_
        refine lv_bipush (v := 40) hx hb d_M_indexOf_16 (by decide) ?_
        refine lv_iload_n hx hb d_M_indexOf_18 rfl (lv_at hl 2 rfl) ?_
        refine lv_imul hx hb d_M_indexOf_19 ?_
        refine toi_ (y := nI (40 * r)) (pk_mul 40 r) ?_
        refine lv_iload_n hx hb d_M_indexOf_20 rfl (lv_at hl 0 rfl) ?_
        refine lv_iadd hx hb d_M_indexOf_21 ?_
        refine toi_ (y := nI (40 * r + i)) (nI_add _ _) ?_
        refine va_iald hx hb hK hP 12 0 rfl rfl (vp_in_nI (n := 40 * r + i) (N := 120) (by omega) (by omega)) d_M_indexOf_22 ?_
        refine toi_ (y := ro (40 * r + i)) (by rw [nI_clamp (by omega)]) ?_
        refine lv_iload_n hx hb d_M_indexOf_23 rfl (lv_at hl 3 rfl) ?_
        refine lv_icmp_ne (tgt := 29) hx hb d_M_indexOf_24 (by decide) (fun h24 => ?_) (fun h24 => ?_)
        · skip
          refine lv_iinc (k := 0) (v := nI (i + 1)) (lv' := [(3, .int (nI (i + 1))), (0, .ref (am 0)), (1, .int (nI r)), (2, .int x)]) hx hb d_M_indexOf_29 hl rfl (inc_ _) (by decide) rfl (fun ls hl => ?_)
          refine lv_goto (tgt := 2) hx hb d_M_indexOf_32 (by decide) ?_
          have hl := lv_sub hl [0, 1, 2, 3] (l' := [(3, .int (nI (i + 1))), (0, .ref (am 0)), (1, .int (nI r)), (2, .int x)]) rfl
          exact ih (i + 1) ls (by omega) (lt_s hno (by simp [h24])) hl
        · skip
          refine lv_iload_n hx hb d_M_indexOf_27 rfl (lv_at hl 0 rfl) ?_
          exact W.iret hx hb hr (fun t ht hW => ⟨_, rfl, by rw [fi_of (i := i) (by omega) (by simp [h24]) hno]; rfl, ht⟩) (fun q h => absurd h List.not_mem_nil) d_M_indexOf_28
  refine lv_iconst (v := 0) hx hb d_M_indexOf_0 (by decide) ?_
  refine lv_istore_n (lv' := [(3, .int 0), (0, .ref (am 0)), (1, .int (nI r)), (2, .int x)]) hx hb d_M_indexOf_1 rfl hl (by decide) rfl (fun ls hl => ?_)
  have hl := lv_sub hl [0, 1, 2, 3] (l' := [(3, .int (nI 0)), (0, .ref (am 0)), (1, .int (nI r)), (2, .int x)]) rfl
  exact loop Lr.length 0 ls (by omega) (fun j h => absurd h (Nat.not_lt_zero _)) hl

set_option maxHeartbeats 4000000 in
set_option maxRecDepth 100000 in
theorem m_M_isThere (l : Launch) (D : va_G) (cA : Nat → ClassId) (am : Nat → Nat) (la : Int32) (nu ki th ot : Nat → Int32) (vs : Nat → Int64) (av pl ps : Nat → Int32) (tz : Int32) (ts : Nat → Int32) (fr bk : Int32) (ce : Nat → Int32) (co : Nat → Int64) (ro le dn un : Nat → Int32) (hs : Nat → st_T) (ac : Nat → Bool) (n : Nat) (x : Int32) (hmh : mh_ hs ac n nu ki th ot vs av pl ps) (hn : n ≤ 200) (ac2 : Nat → Bool) (k : Nat) (mm : me_T) (hq : mq_ hs ac2 n k mm ce co ro le dn un) : Met l y_M_isThere (.code y_M_isThere c_M_isThere 3 (some .boolean) :: G_) ({ frames := 1, cells := 0, slots := 0, locals := 22 }) (va_Pc [.ref (am 0), .int x] (pr_ D cA (wM cA am (nI n) la nu ki th ot vs av pl ps tz ts fr bk ce co ro le dn un))) (vp_Si (fun r => r = b2_ (decide (x = 0) || th_ hs ac2 n k x))) 0 0 (fun _ => False) := by
  refine Met.ofW (cc := c_M_isThere) (maxL := 3) (ret := (some .boolean)) (by decide) rfl ?_
  intro p e s m args below meth c s₁ B hml hv
  obtain ⟨rfl, hP, hK, hN⟩ := hv
  have hx := B.exec
  have hb := B.bytes
  have hr := B.returns
  have hts := atoms_spec (ws := (.code y_M_isThere c_M_isThere 3 (some .boolean) :: G_)) B.pre
  have hg : ∀ w ∈ G_, w.before ([.ref (am 0), .int x] : List Value).toArray s = true := fun w h => hts w (List.mem_cons_of_mem _ h)
  have hown : s.vm.findClass RM = some m.cls := findClass_of_methodNamed B.named
  have hlocks := B.notSynchronized
  have hl := lv_entry ([.ref (am 0), .int x]) (n := 3) (Nat.le_of_ble_eq_true rfl)
  rw [lg_entry_eq]
  generalize (lg_sl ([.ref (am 0), .int x]) ++ List.replicate (3 - (lg_sl ([.ref (am 0), .int x])).length) Slot.unset).toArray = ls at hl ⊢
  have hl : lv_has ls 3 [(0, .ref (am 0)), (1, .int x)] := hl
  refine lv_aload_n hx hb d_M_isThere_0 rfl (lv_at hl 0 rfl) ?_
  refine lv_iload_n hx hb d_M_isThere_1 rfl (lv_at hl 1 rfl) ?_
  refine vp_callSi (va_Run.run (va_runV (C := RM) (As := [.int x]) (rest := []) ⟨hx, hb, hml, hown, hg⟩ (m_M_find l D cA am la nu ki th ot vs av pl ps tz ts fr bk ce co ro le dn un hs ac n x hmh hn) (cwV 1 hg (gd_V ml_M_79 im_M_find sl_M_find ini_M cd_M_find) rfl rfl rfl (by decide +kernel) ⟨Nat.le_of_ble_eq_true rfl, Nat.le_of_ble_eq_true rfl⟩) (pv_r (va_recv (q0 := 0) (ci := 3) hK hP rfl rfl) (hP) hK hN) rfl rfl hl.1 rfl (lv_room (Nat.le_of_ble_eq_true rfl)) d_M_isThere_2 ⟨Nat.zero_le _, Nat.zero_le _⟩)) (fun r2 e2 => ?_)
  subst e2
  rcases hfi : fn_ hs n x with _ | j
  · skip
    refine toi_ (y := -1) rfl ?_
    refine lv_istore_n (lv' := [(2, .int (-1)), (0, .ref (am 0)), (1, .int x)]) hx hb d_M_isThere_5 rfl hl (by decide) rfl (fun ls hl => ?_)
    refine lv_iload_n hx hb d_M_isThere_6 rfl (lv_at hl 2 rfl) ?_
    refine lv_if_eq (tgt := 23) hx hb d_M_isThere_7 (by decide) (fun h7 => ?_) (fun h7 => ?_)
    · skip
      refine lv_iconst (v := 1) hx hb d_M_isThere_23 (by decide) ?_
      refine lv_goto (tgt := 28) hx hb d_M_isThere_24 (by decide) ?_
      exact W.zret hx hb hr rfl (fun t ht hW => ⟨_, rfl, by first | (rw [h7]; simp [b2_]; done) | (rw [decide_eq_false h7, th_none hfi]; rfl) | (rw [decide_eq_false h7, th_some hfi, q20]; rfl), ht⟩) (fun q h => absurd h List.not_mem_nil) d_M_isThere_28
    · skip
      refine lv_iload_n hx hb d_M_isThere_10 rfl (lv_at hl 0 rfl) ?_
      refine lv_if_lt (tgt := 27) hx hb d_M_isThere_11 (by decide) (fun h11 => ?_) (fun h11 => ?_)
      · skip
        refine lv_iconst (v := 0) hx hb d_M_isThere_27 (by decide) ?_
        exact W.zret hx hb hr rfl (fun t ht hW => ⟨_, rfl, by first | (rw [h7]; simp [b2_]; done) | (rw [decide_eq_false h7, th_none hfi]; rfl) | (rw [decide_eq_false h7, th_some hfi, q20]; rfl), ht⟩) (fun q h => absurd h List.not_mem_nil) d_M_isThere_28
      · skip
        exact absurd (by decide) h11
  · skip
    refine toi_ (y := nI j) rfl ?_
    refine lv_istore_n (lv' := [(2, .int (nI j)), (0, .ref (am 0)), (1, .int x)]) hx hb d_M_isThere_5 rfl hl (by decide) rfl (fun ls hl => ?_)
    refine lv_iload_n hx hb d_M_isThere_6 rfl (lv_at hl 2 rfl) ?_
    refine lv_if_eq (tgt := 23) hx hb d_M_isThere_7 (by decide) (fun h7 => ?_) (fun h7 => ?_)
    · skip
      refine lv_iconst (v := 1) hx hb d_M_isThere_23 (by decide) ?_
      refine lv_goto (tgt := 28) hx hb d_M_isThere_24 (by decide) ?_
      exact W.zret hx hb hr rfl (fun t ht hW => ⟨_, rfl, by first | (rw [h7]; simp [b2_]; done) | (rw [decide_eq_false h7, th_none hfi]; rfl) | (rw [decide_eq_false h7, th_some hfi, q20]; rfl), ht⟩) (fun q h => absurd h List.not_mem_nil) d_M_isThere_28
    · skip
      refine lv_iload_n hx hb d_M_isThere_10 rfl (lv_at hl 0 rfl) ?_
      refine lv_if_lt (tgt := 27) hx hb d_M_isThere_11 (by decide) (fun h11 => ?_) (fun h11 => ?_)
      · skip
        exact absurd h11 (nI_pos (by have := (fn_some hfi).1; omega))
      · skip
        have hjn := (fn_some hfi).1
        refine lv_aload_n hx hb d_M_isThere_14 rfl (lv_at hl 1 rfl) ?_
        refine va_get (D := D) (ci := 3) (v := .ref (am 14)) (C := RM) (T := TM) (N := 20) hx hb hg inM hown hK hP 0 rfl rfl 18 (by decide) (hg _ fl_M_59) (fun _ h9 => h9) rfl d_M_isThere_15 ?_
        refine lv_iload_n hx hb d_M_isThere_18 rfl (lv_at hl 0 rfl) ?_
        refine va_zald hx hb hK hP 14 4 rfl rfl (vp_in_nI (n := j) (N := 200) (by omega) (by omega)) d_M_isThere_19 ?_
        refine toi_ (y := dn j) (by rw [nI_clamp (by omega)]) ?_
        refine toi_ (y := b2_ (dn_ hs ac2 k j)) (hq.2.2.2.1 j hjn) ?_
        refine lv_if_eq (tgt := 27) hx hb d_M_isThere_20 (by decide) (fun h20 => ?_) (fun h20 => ?_)
        · skip
          have q20 := b2_0.mp h20
          refine lv_iconst (v := 0) hx hb d_M_isThere_27 (by decide) ?_
          exact W.zret hx hb hr rfl (fun t ht hW => ⟨_, rfl, by first | (rw [h7]; simp [b2_]; done) | (rw [decide_eq_false h7, th_none hfi]; rfl) | (rw [decide_eq_false h7, th_some hfi, q20]; rfl), ht⟩) (fun q h => absurd h List.not_mem_nil) d_M_isThere_28
        · skip
          have q20 := b2_n.mp h20
          refine lv_iconst (v := 1) hx hb d_M_isThere_23 (by decide) ?_
          refine lv_goto (tgt := 28) hx hb d_M_isThere_24 (by decide) ?_
          exact W.zret hx hb hr rfl (fun t ht hW => ⟨_, rfl, by first | (rw [h7]; simp [b2_]; done) | (rw [decide_eq_false h7, th_none hfi]; rfl) | (rw [decide_eq_false h7, th_some hfi, q20]; rfl), ht⟩) (fun q h => absurd h List.not_mem_nil) d_M_isThere_28

set_option maxHeartbeats 4000000 in
set_option maxRecDepth 100000 in
theorem m_M_isNode (l : Launch) (D : va_G) (cA : Nat → ClassId) (am : Nat → Nat) (la : Int32) (nu ki th ot : Nat → Int32) (vs : Nat → Int64) (av pl ps : Nat → Int32) (tz : Int32) (ts : Nat → Int32) (fr bk : Int32) (ce : Nat → Int32) (co : Nat → Int64) (ro le dn un : Nat → Int32) (hs : Nat → st_T) (ac : Nat → Bool) (n : Nat) (x : Int32) (hmh : mh_ hs ac n nu ki th ot vs av pl ps) (hn : n ≤ 200) (ac2 : Nat → Bool) (k : Nat) (mm : me_T) (hq : mq_ hs ac2 n k mm ce co ro le dn un) : Met l y_M_isNode (.code y_M_isNode c_M_isNode 3 (some .boolean) :: G_) ({ frames := 1, cells := 0, slots := 0, locals := 22 }) (va_Pc [.ref (am 0), .int x] (pr_ D cA (wM cA am (nI n) la nu ki th ot vs av pl ps tz ts fr bk ce co ro le dn un))) (vp_Si (fun r => r = b2_ (ndo_ hs ac2 n k x))) 0 0 (fun _ => False) := by
  refine Met.ofW (cc := c_M_isNode) (maxL := 3) (ret := (some .boolean)) (by decide) rfl ?_
  intro p e s m args below meth c s₁ B hml hv
  obtain ⟨rfl, hP, hK, hN⟩ := hv
  have hx := B.exec
  have hb := B.bytes
  have hr := B.returns
  have hts := atoms_spec (ws := (.code y_M_isNode c_M_isNode 3 (some .boolean) :: G_)) B.pre
  have hg : ∀ w ∈ G_, w.before ([.ref (am 0), .int x] : List Value).toArray s = true := fun w h => hts w (List.mem_cons_of_mem _ h)
  have hown : s.vm.findClass RM = some m.cls := findClass_of_methodNamed B.named
  have hlocks := B.notSynchronized
  have hl := lv_entry ([.ref (am 0), .int x]) (n := 3) (Nat.le_of_ble_eq_true rfl)
  rw [lg_entry_eq]
  generalize (lg_sl ([.ref (am 0), .int x]) ++ List.replicate (3 - (lg_sl ([.ref (am 0), .int x])).length) Slot.unset).toArray = ls at hl ⊢
  have hl : lv_has ls 3 [(0, .ref (am 0)), (1, .int x)] := hl
  refine lv_aload_n hx hb d_M_isNode_0 rfl (lv_at hl 0 rfl) ?_
  refine lv_iload_n hx hb d_M_isNode_1 rfl (lv_at hl 1 rfl) ?_
  refine vp_callSi (va_Run.run (va_runV (C := RM) (As := [.int x]) (rest := []) ⟨hx, hb, hml, hown, hg⟩ (m_M_find l D cA am la nu ki th ot vs av pl ps tz ts fr bk ce co ro le dn un hs ac n x hmh hn) (cwV 1 hg (gd_V ml_M_79 im_M_find sl_M_find ini_M cd_M_find) rfl rfl rfl (by decide +kernel) ⟨Nat.le_of_ble_eq_true rfl, Nat.le_of_ble_eq_true rfl⟩) (pv_r (va_recv (q0 := 0) (ci := 3) hK hP rfl rfl) (hP) hK hN) rfl rfl hl.1 rfl (lv_room (Nat.le_of_ble_eq_true rfl)) d_M_isNode_2 ⟨Nat.zero_le _, Nat.zero_le _⟩)) (fun r2 e2 => ?_)
  subst e2
  rcases hfi : fn_ hs n x with _ | j
  · skip
    refine toi_ (y := -1) rfl ?_
    refine lv_istore_n (lv' := [(2, .int (-1)), (0, .ref (am 0)), (1, .int x)]) hx hb d_M_isNode_5 rfl hl (by decide) rfl (fun ls hl => ?_)
    refine lv_iload_n hx hb d_M_isNode_6 rfl (lv_at hl 0 rfl) ?_
    refine lv_if_lt (tgt := 34) hx hb d_M_isNode_7 (by decide) (fun h7 => ?_) (fun h7 => ?_)
    · skip
      refine lv_iconst (v := 0) hx hb d_M_isNode_34 (by decide) ?_
      exact W.zret hx hb hr rfl (fun t ht hW => ⟨_, rfl, by first | (rw [nd_none hfi]; rfl) | (rw [nd_some hfi, decide_eq_true h18, q27]; rfl) | (rw [nd_some hfi, decide_eq_false h18]; rfl), ht⟩) (fun q h => absurd h List.not_mem_nil) d_M_isNode_35
    · skip
      exact absurd (by decide) h7
  · skip
    refine toi_ (y := nI j) rfl ?_
    refine lv_istore_n (lv' := [(2, .int (nI j)), (0, .ref (am 0)), (1, .int x)]) hx hb d_M_isNode_5 rfl hl (by decide) rfl (fun ls hl => ?_)
    refine lv_iload_n hx hb d_M_isNode_6 rfl (lv_at hl 0 rfl) ?_
    refine lv_if_lt (tgt := 34) hx hb d_M_isNode_7 (by decide) (fun h7 => ?_) (fun h7 => ?_)
    · skip
      exact absurd h7 (nI_pos (by have := (fn_some hfi).1; omega))
    · skip
      have hjn := (fn_some hfi).1
      refine lv_aload_n hx hb d_M_isNode_10 rfl (lv_at hl 1 rfl) ?_
      refine va_get (D := D) (ci := 3) (v := .ref (am 2)) (C := RM) (T := TM) (N := 20) hx hb hg inM hown hK hP 0 rfl rfl 3 (by decide) (hg _ fl_M_13) (fun _ h9 => h9) rfl d_M_isNode_11 ?_
      refine lv_iload_n hx hb d_M_isNode_14 rfl (lv_at hl 0 rfl) ?_
      refine va_iald hx hb hK hP 2 0 rfl rfl (vp_in_nI (n := j) (N := 200) (by omega) (by omega)) d_M_isNode_15 ?_
      refine toi_ (y := ki j) (by rw [nI_clamp (by omega)]) ?_
      refine toi_ (y := s_k (hs j)) ((hmh j hjn).2.1) ?_
      refine lv_bipush (v := 6) hx hb d_M_isNode_16 (by decide) ?_
      refine lv_icmp_ne (tgt := 34) hx hb d_M_isNode_18 (by decide) (fun h18 => ?_) (fun h18 => ?_)
      · skip
        refine lv_iconst (v := 0) hx hb d_M_isNode_34 (by decide) ?_
        exact W.zret hx hb hr rfl (fun t ht hW => ⟨_, rfl, by first | (rw [nd_none hfi]; rfl) | (rw [nd_some hfi, decide_eq_true h18, q27]; rfl) | (rw [nd_some hfi, decide_eq_false h18]; rfl), ht⟩) (fun q h => absurd h List.not_mem_nil) d_M_isNode_35
      · skip
        refine lv_aload_n hx hb d_M_isNode_21 rfl (lv_at hl 1 rfl) ?_
        refine va_get (D := D) (ci := 3) (v := .ref (am 14)) (C := RM) (T := TM) (N := 20) hx hb hg inM hown hK hP 0 rfl rfl 18 (by decide) (hg _ fl_M_59) (fun _ h9 => h9) rfl d_M_isNode_22 ?_
        refine lv_iload_n hx hb d_M_isNode_25 rfl (lv_at hl 0 rfl) ?_
        refine va_zald hx hb hK hP 14 4 rfl rfl (vp_in_nI (n := j) (N := 200) (by omega) (by omega)) d_M_isNode_26 ?_
        refine toi_ (y := dn j) (by rw [nI_clamp (by omega)]) ?_
        refine toi_ (y := b2_ (dn_ hs ac2 k j)) (hq.2.2.2.1 j hjn) ?_
        refine lv_if_eq (tgt := 34) hx hb d_M_isNode_27 (by decide) (fun h27 => ?_) (fun h27 => ?_)
        · skip
          have q27 := b2_0.mp h27
          refine lv_iconst (v := 0) hx hb d_M_isNode_34 (by decide) ?_
          exact W.zret hx hb hr rfl (fun t ht hW => ⟨_, rfl, by first | (rw [nd_none hfi]; rfl) | (rw [nd_some hfi, decide_eq_true h18, q27]; rfl) | (rw [nd_some hfi, decide_eq_false h18]; rfl), ht⟩) (fun q h => absurd h List.not_mem_nil) d_M_isNode_35
        · skip
          have q27 := b2_n.mp h27
          refine lv_iconst (v := 1) hx hb d_M_isNode_30 (by decide) ?_
          refine lv_goto (tgt := 35) hx hb d_M_isNode_31 (by decide) ?_
          exact W.zret hx hb hr rfl (fun t ht hW => ⟨_, rfl, by first | (rw [nd_none hfi]; rfl) | (rw [nd_some hfi, decide_eq_true h18, q27]; rfl) | (rw [nd_some hfi, decide_eq_false h18]; rfl), ht⟩) (fun q h => absurd h List.not_mem_nil) d_M_isNode_35

set_option maxHeartbeats 4000000 in
set_option maxRecDepth 100000 in
theorem m_M_insertsOf (l : Launch) (D : va_G) (cA : Nat → ClassId) (am : Nat → Nat) (la : Int32) (nu ki th ot : Nat → Int32) (vs : Nat → Int64) (av pl ps : Nat → Int32) (tz : Int32) (ts : Nat → Int32) (fr bk : Int32) (ce : Nat → Int32) (co : Nat → Int64) (ro le dn un : Nat → Int32) (hs : Nat → st_T) (ac : Nat → Bool) (n : Nat) (r : Nat) (hr3 : r < 3) (htr : ∀ k, k < n → tr_ (hs k)) (hmh : mh_ hs ac n nu ki th ot vs av pl ps) (hn : n ≤ 200) : Met l y_M_insertsOf (.code y_M_insertsOf c_M_insertsOf 4 (some .int) :: G_) ({ frames := 0, cells := 0, slots := 0, locals := 0 }) (va_Pc [.ref (am 0), .int (nI r)] (pr_ D cA (wM cA am (nI n) la nu ki th ot vs av pl ps tz ts fr bk ce co ro le dn un))) (vp_Si (fun q => q = nI (ic_ hs r n))) 0 0 (fun _ => False) := by
  refine Met.ofW (cc := c_M_insertsOf) (maxL := 4) (ret := (some .int)) (by decide) rfl ?_
  intro p e s m args below meth c s₁ B hml hv
  obtain ⟨rfl, hP, hK, hN⟩ := hv
  have hx := B.exec
  have hb := B.bytes
  have hr := B.returns
  have hts := atoms_spec (ws := (.code y_M_insertsOf c_M_insertsOf 4 (some .int) :: G_)) B.pre
  have hg : ∀ w ∈ G_, w.before ([.ref (am 0), .int (nI r)] : List Value).toArray s = true := fun w h => hts w (List.mem_cons_of_mem _ h)
  have hown : s.vm.findClass RM = some m.cls := findClass_of_methodNamed B.named
  have hlocks := B.notSynchronized
  have hl := lv_entry ([.ref (am 0), .int (nI r)]) (n := 4) (Nat.le_of_ble_eq_true rfl)
  rw [lg_entry_eq]
  generalize (lg_sl ([.ref (am 0), .int (nI r)]) ++ List.replicate (4 - (lg_sl ([.ref (am 0), .int (nI r)])).length) Slot.unset).toArray = ls at hl ⊢
  have hl : lv_has ls 4 [(0, .ref (am 0)), (1, .int (nI r))] := hl
  have loop : ∀ (d i : Nat) (ls : Array Slot), i + d = n → lv_has ls 4 [(3, .int (nI i)), (2, .int (nI (ic_ hs r i))), (0, .ref (am 0)), (1, .int (nI r))] → W p l e (headSpec (.code y_M_insertsOf c_M_insertsOf 4 (some .int) :: G_) ({ frames := 0, cells := 0, slots := 0, locals := 0 })).room s m ([.ref (am 0), .int (nI r)] : List Value).toArray below meth c s.heap [] 0 0 (MQ below (vp_Si (fun q => q = nI (ic_ hs r n))) ([.ref (am 0), .int (nI r)] : List Value).toArray s 0 0 (fun _ => False)) (F0 m 4 ls []) := by
    intro d
    induction d with
    | zero =>
      intro i ls hid hl
      have hi2 : i = n := by omega
      subst hi2
      refine lv_iload_n hx hb d_M_insertsOf_4 rfl (lv_at hl 0 rfl) ?_
      refine lv_aload_n hx hb d_M_insertsOf_5 rfl (lv_at hl 2 rfl) ?_
      refine va_get (D := D) (ci := 3) (v := .int (nI i)) (C := RM) (T := TM) (N := 20) hx hb hg inM hown hK hP 0 rfl rfl 0 (by decide) (hg _ fl_M_65) (fun _ h9 => h9) rfl d_M_insertsOf_6 ?_
      refine lv_icmp_ge (tgt := 46) hx hb d_M_insertsOf_9 (by decide) (fun h9 => ?_) (fun h9 => ?_)
      · skip
        refine lv_iload_n hx hb d_M_insertsOf_46 rfl (lv_at hl 1 rfl) ?_
        exact W.iret hx hb hr (fun t ht hW => ⟨_, rfl, rfl, ht⟩) (fun q h => absurd h List.not_mem_nil) d_M_insertsOf_47
      · skip
        exact absurd (Int32.le_refl _) h9
    | succ d ih =>
      intro i ls hid hl
      have hmi := hmh i (by omega)
      refine lv_iload_n hx hb d_M_insertsOf_4 rfl (lv_at hl 0 rfl) ?_
      refine lv_aload_n hx hb d_M_insertsOf_5 rfl (lv_at hl 2 rfl) ?_
      refine va_get (D := D) (ci := 3) (v := .int (nI n)) (C := RM) (T := TM) (N := 20) hx hb hg inM hown hK hP 0 rfl rfl 0 (by decide) (hg _ fl_M_65) (fun _ h9 => h9) rfl d_M_insertsOf_6 ?_
      refine lv_icmp_ge (tgt := 46) hx hb d_M_insertsOf_9 (by decide) (fun h9 => ?_) (fun h9 => ?_)
      · skip
        exact absurd h9 (nI_ge (by omega) (by omega))
      · skip
        refine lv_iload_n hx hb d_M_insertsOf_12 rfl (lv_at hl 1 rfl) ?_
        refine lv_aload_n hx hb d_M_insertsOf_13 rfl (lv_at hl 2 rfl) ?_
        refine va_get (D := D) (ci := 3) (v := .ref (am 2)) (C := RM) (T := TM) (N := 20) hx hb hg inM hown hK hP 0 rfl rfl 3 (by decide) (hg _ fl_M_13) (fun _ h9 => h9) rfl d_M_insertsOf_14 ?_
        refine lv_iload_n hx hb d_M_insertsOf_17 rfl (lv_at hl 0 rfl) ?_
        refine va_iald hx hb hK hP 2 0 rfl rfl (vp_in_nI (n := i) (N := 200) (by omega) (by omega)) d_M_insertsOf_18 ?_
        refine toi_ (y := ki i) (by rw [nI_clamp (by omega)]) ?_
        refine toi_ (y := s_k (hs i)) (hmi.2.1) ?_
        refine lv_iconst (v := 3) hx hb d_M_insertsOf_19 (by decide) ?_
        refine lv_icmp_ne (tgt := 37) hx hb d_M_insertsOf_20 (by decide) (fun h20 => ?_) (fun h20 => ?_)
        · skip
          have hcn : ic_ hs r (i + 1) = ic_ hs r i := by rw [ic_s, if_neg (fun h => h20 h.1)]; rfl
          refine lv_iconst (v := 0) hx hb d_M_insertsOf_37 (by decide) ?_
          refine lv_iadd hx hb d_M_insertsOf_38 ?_
          refine toi_ (y := nI (ic_ hs r (i + 1))) (by rw [hcn]; exact Int32.add_zero _) ?_
          refine lv_istore_n (lv' := [(2, .int (nI (ic_ hs r (i + 1)))), (3, .int (nI i)), (0, .ref (am 0)), (1, .int (nI r))]) hx hb d_M_insertsOf_39 rfl hl (by decide) rfl (fun ls hl => ?_)
          refine lv_iinc (k := 1) (v := nI (i + 1)) (lv' := [(3, .int (nI (i + 1))), (2, .int (nI (ic_ hs r (i + 1)))), (0, .ref (am 0)), (1, .int (nI r))]) hx hb d_M_insertsOf_40 hl rfl (inc_ _) (by decide) rfl (fun ls hl => ?_)
          refine lv_goto (tgt := 4) hx hb d_M_insertsOf_43 (by decide) ?_
          have hl := lv_sub hl [0, 1, 2, 3] (l' := [(3, .int (nI (i + 1))), (2, .int (nI (ic_ hs r (i + 1)))), (0, .ref (am 0)), (1, .int (nI r))]) rfl
          exact ih (i + 1) ls (by omega) hl
        · skip
          obtain ⟨c9, hc9, hct⟩ := (htr i (by omega)).2.2.2.1 (Or.inl h20)
          have hsr : s_r (hs i) = c9 := by unfold s_r; rw [hct]; exact nI_clamp (by omega)
          refine lv_aload_n hx hb d_M_insertsOf_23 rfl (lv_at hl 2 rfl) ?_
          refine va_get (D := D) (ci := 3) (v := .ref (am 3)) (C := RM) (T := TM) (N := 20) hx hb hg inM hown hK hP 0 rfl rfl 4 (by decide) (hg _ fl_M_16) (fun _ h9 => h9) rfl d_M_insertsOf_24 ?_
          refine lv_iload_n hx hb d_M_insertsOf_27 rfl (lv_at hl 0 rfl) ?_
          refine va_iald hx hb hK hP 3 0 rfl rfl (vp_in_nI (n := i) (N := 200) (by omega) (by omega)) d_M_insertsOf_28 ?_
          refine toi_ (y := th i) (by rw [nI_clamp (by omega)]) ?_
          refine toi_ (y := s_t (hs i)) (hmi.2.2.1) ?_
          refine lv_iload_n hx hb d_M_insertsOf_29 rfl (lv_at hl 3 rfl) ?_
          refine lv_icmp_ne (tgt := 37) hx hb d_M_insertsOf_30 (by decide) (fun h30 => ?_) (fun h30 => ?_)
          · skip
            have hcn : ic_ hs r (i + 1) = ic_ hs r i := by rw [ic_s, if_neg (fun h => h30 (by rw [hct, ← h.2, hsr]))]; rfl
            refine lv_iconst (v := 0) hx hb d_M_insertsOf_37 (by decide) ?_
            refine lv_iadd hx hb d_M_insertsOf_38 ?_
            refine toi_ (y := nI (ic_ hs r (i + 1))) (by rw [hcn]; exact Int32.add_zero _) ?_
            refine lv_istore_n (lv' := [(2, .int (nI (ic_ hs r (i + 1)))), (3, .int (nI i)), (0, .ref (am 0)), (1, .int (nI r))]) hx hb d_M_insertsOf_39 rfl hl (by decide) rfl (fun ls hl => ?_)
            refine lv_iinc (k := 1) (v := nI (i + 1)) (lv' := [(3, .int (nI (i + 1))), (2, .int (nI (ic_ hs r (i + 1)))), (0, .ref (am 0)), (1, .int (nI r))]) hx hb d_M_insertsOf_40 hl rfl (inc_ _) (by decide) rfl (fun ls hl => ?_)
            refine lv_goto (tgt := 4) hx hb d_M_insertsOf_43 (by decide) ?_
            have hl := lv_sub hl [0, 1, 2, 3] (l' := [(3, .int (nI (i + 1))), (2, .int (nI (ic_ hs r (i + 1)))), (0, .ref (am 0)), (1, .int (nI r))]) rfl
            exact ih (i + 1) ls (by omega) hl
          · skip
            have hcn : ic_ hs r (i + 1) = ic_ hs r i + 1 := by rw [ic_s, if_pos ⟨h20, by rw [hct] at h30; rw [hsr]; exact (nI_eq (by omega) (by omega)).mp h30⟩]
            refine lv_iconst (v := 1) hx hb d_M_insertsOf_33 (by decide) ?_
            refine lv_goto (tgt := 38) hx hb d_M_insertsOf_34 (by decide) ?_
            refine lv_iadd hx hb d_M_insertsOf_38 ?_
            refine toi_ (y := nI (ic_ hs r (i + 1))) (by rw [hcn]; exact nI_1 _) ?_
            refine lv_istore_n (lv' := [(2, .int (nI (ic_ hs r (i + 1)))), (3, .int (nI i)), (0, .ref (am 0)), (1, .int (nI r))]) hx hb d_M_insertsOf_39 rfl hl (by decide) rfl (fun ls hl => ?_)
            refine lv_iinc (k := 1) (v := nI (i + 1)) (lv' := [(3, .int (nI (i + 1))), (2, .int (nI (ic_ hs r (i + 1)))), (0, .ref (am 0)), (1, .int (nI r))]) hx hb d_M_insertsOf_40 hl rfl (inc_ _) (by decide) rfl (fun ls hl => ?_)
            refine lv_goto (tgt := 4) hx hb d_M_insertsOf_43 (by decide) ?_
            have hl := lv_sub hl [0, 1, 2, 3] (l' := [(3, .int (nI (i + 1))), (2, .int (nI (ic_ hs r (i + 1)))), (0, .ref (am 0)), (1, .int (nI r))]) rfl
            exact ih (i + 1) ls (by omega) hl
  refine lv_iconst (v := 0) hx hb d_M_insertsOf_0 (by decide) ?_
  refine lv_istore_n (lv' := [(2, .int 0), (0, .ref (am 0)), (1, .int (nI r))]) hx hb d_M_insertsOf_1 rfl hl (by decide) rfl (fun ls hl => ?_)
  refine lv_iconst (v := 0) hx hb d_M_insertsOf_2 (by decide) ?_
  refine lv_istore_n (lv' := [(3, .int 0), (2, .int 0), (0, .ref (am 0)), (1, .int (nI r))]) hx hb d_M_insertsOf_3 rfl hl (by decide) rfl (fun ls hl => ?_)
  have hl := lv_sub hl [0, 1, 2, 3] (l' := [(3, .int (nI 0)), (2, .int (nI 0)), (0, .ref (am 0)), (1, .int (nI r))]) rfl
  exact loop n 0 ls (by omega) hl

set_option maxHeartbeats 4000000 in
set_option maxRecDepth 100000 in
theorem m_M_latestActive (l : Launch) (D : va_G) (cA : Nat → ClassId) (am : Nat → Nat) (la : Int32) (nu ki th ot : Nat → Int32) (vs : Nat → Int64) (av pl ps : Nat → Int32) (tz : Int32) (ts : Nat → Int32) (fr bk : Int32) (ce : Nat → Int32) (co : Nat → Int64) (ro le dn un : Nat → Int32) (hs : Nat → st_T) (ac : Nat → Bool) (n : Nat) (hmh : mh_ hs ac n nu ki th ot vs av pl ps) (hn : n ≤ 200) : Met l y_M_latestActive (.code y_M_latestActive c_M_latestActive 2 (some .int) :: G_) ({ frames := 0, cells := 0, slots := 0, locals := 0 }) (va_Pc [.ref (am 0)] (pr_ D cA (wM cA am (nI n) la nu ki th ot vs av pl ps tz ts fr bk ce co ro le dn un))) (vp_Si (fun r => r = ov_ (lt_ ac n))) 0 0 (fun _ => False) := by
  refine Met.ofW (cc := c_M_latestActive) (maxL := 2) (ret := (some .int)) (by decide) rfl ?_
  intro p e s m args below meth c s₁ B hml hv
  obtain ⟨rfl, hP, hK, hN⟩ := hv
  have hx := B.exec
  have hb := B.bytes
  have hr := B.returns
  have hts := atoms_spec (ws := (.code y_M_latestActive c_M_latestActive 2 (some .int) :: G_)) B.pre
  have hg : ∀ w ∈ G_, w.before ([.ref (am 0)] : List Value).toArray s = true := fun w h => hts w (List.mem_cons_of_mem _ h)
  have hown : s.vm.findClass RM = some m.cls := findClass_of_methodNamed B.named
  have hlocks := B.notSynchronized
  have hl := lv_entry ([.ref (am 0)]) (n := 2) (Nat.le_of_ble_eq_true rfl)
  rw [lg_entry_eq]
  generalize (lg_sl ([.ref (am 0)]) ++ List.replicate (2 - (lg_sl ([.ref (am 0)])).length) Slot.unset).toArray = ls at hl ⊢
  have hl : lv_has ls 2 [(0, .ref (am 0))] := hl
  have loop : ∀ (i : Nat) (ls : Array Slot), i ≤ n → lt_ ac i = lt_ ac n → lv_has ls 2 [(1, .int (nI i - 1)), (0, .ref (am 0))] → W p l e (headSpec (.code y_M_latestActive c_M_latestActive 2 (some .int) :: G_) ({ frames := 0, cells := 0, slots := 0, locals := 0 })).room s m ([.ref (am 0)] : List Value).toArray below meth c s.heap [] 0 0 (MQ below (vp_Si (fun r => r = ov_ (lt_ ac n))) ([.ref (am 0)] : List Value).toArray s 0 0 (fun _ => False)) (F0 m 7 ls []) := by
    intro i
    induction i with
    | zero =>
      intro ls hin hla hl
      have hl : lv_has ls 2 [(1, .int (-1)), (0, .ref (am 0))] := hl
      refine lv_iload_n hx hb d_M_latestActive_7 rfl (lv_at hl 0 rfl) ?_
      refine lv_if_lt (tgt := 26) hx hb d_M_latestActive_8 (by decide) (fun h8 => ?_) (fun h8 => ?_)
      · skip
        refine lv_iload_n hx hb d_M_latestActive_26 rfl (lv_at hl 0 rfl) ?_
        exact W.iret hx hb hr (fun t ht hW => ⟨_, rfl, by rw [← hla]; rfl, ht⟩) (fun q h => absurd h List.not_mem_nil) d_M_latestActive_27
      · skip
        exact absurd (by decide) h8
    | succ i ih =>
      intro ls hin hla hl
      rw [nI_pred] at hl
      refine lv_iload_n hx hb d_M_latestActive_7 rfl (lv_at hl 0 rfl) ?_
      refine lv_if_lt (tgt := 26) hx hb d_M_latestActive_8 (by decide) (fun h8 => ?_) (fun h8 => ?_)
      · skip
        exact absurd h8 (nI_pos (by omega))
      · skip
        refine lv_aload_n hx hb d_M_latestActive_11 rfl (lv_at hl 1 rfl) ?_
        refine va_get (D := D) (ci := 3) (v := .ref (am 6)) (C := RM) (T := TM) (N := 20) hx hb hg inM hown hK hP 0 rfl rfl 7 (by decide) (hg _ fl_M_26) (fun _ h9 => h9) rfl d_M_latestActive_12 ?_
        refine lv_iload_n hx hb d_M_latestActive_15 rfl (lv_at hl 0 rfl) ?_
        refine va_zald hx hb hK hP 6 4 rfl rfl (vp_in_nI (n := i) (N := 200) (by omega) (by omega)) d_M_latestActive_16 ?_
        refine toi_ (y := av i) (by rw [nI_clamp (by omega)]) ?_
        refine toi_ (y := b2_ (ac i)) ((hmh i (by omega)).2.2.2.2.2.1) ?_
        refine lv_if_ne (tgt := 26) hx hb d_M_latestActive_17 (by decide) (fun h17 => ?_) (fun h17 => ?_)
        · skip
          have hq := b2_n.mp h17
          refine lv_iload_n hx hb d_M_latestActive_26 rfl (lv_at hl 0 rfl) ?_
          exact W.iret hx hb hr (fun t ht hW => ⟨_, rfl, by rw [← hla, lt_on hq]; rfl, ht⟩) (fun q h => absurd h List.not_mem_nil) d_M_latestActive_27
        · skip
          have hq := b2_0.mp h17
          refine lv_iinc (k := 0) (v := nI i - 1) (lv' := [(1, .int (nI i - 1)), (0, .ref (am 0))]) hx hb d_M_latestActive_20 hl rfl (dec2_ _) (by decide) rfl (fun ls hl => ?_)
          refine lv_goto (tgt := 7) hx hb d_M_latestActive_23 (by decide) ?_
          have hl := lv_sub hl [0, 1] (l' := [(1, .int (nI i - 1)), (0, .ref (am 0))]) rfl
          exact ih ls (by omega) (by rw [← hla, lt_off hq]) hl
  refine lv_aload_n hx hb d_M_latestActive_0 rfl (lv_at hl 0 rfl) ?_
  refine va_get (D := D) (ci := 3) (v := .int (nI n)) (C := RM) (T := TM) (N := 20) hx hb hg inM hown hK hP 0 rfl rfl 0 (by decide) (hg _ fl_M_65) (fun _ h9 => h9) rfl d_M_latestActive_1 ?_
  refine lv_iconst (v := 1) hx hb d_M_latestActive_4 (by decide) ?_
  refine lv_isub hx hb d_M_latestActive_5 ?_
  refine lv_istore_n (lv' := [(1, .int ((nI n) - 1)), (0, .ref (am 0))]) hx hb d_M_latestActive_6 rfl hl (by decide) rfl (fun ls hl => ?_)
  have hl := lv_sub hl [0, 1] (l' := [(1, .int (nI n - 1)), (0, .ref (am 0))]) rfl
  exact loop n ls (Nat.le_refl _) rfl hl
