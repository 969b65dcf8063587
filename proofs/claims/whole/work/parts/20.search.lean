/-! Replay.search -/
set_option maxHeartbeats 4000000 in
set_option maxRecDepth 100000 in
/-- the index of a number among the first b of an array, which rise -/
theorem m_R_search (l : Launch) (D : va_G) (cA : Nat → ClassId) (a N b : Nat) (f : Nat → Int32) (x : Int32) (hN2 : N ≤ 200) (hbN : b ≤ N) (hs : ∀ i j, i < j → j < b → f i < f j) : Met l y_R_search (.code y_R_search c_R_search 5 (some .int) :: G_) ({ frames := 0, cells := 0, slots := 0, locals := 0 }) (va_Pc [.ref a, .int (nI b), .int x] (pr_ D cA [(a, .inl (cA 0, N, .inl f))])) (vp_Si (fun r => r = ov_ (fi_ (fun i => decide (f i = x)) b))) 0 0 (fun _ => False) := by
  refine Met.ofW (cc := c_R_search) (maxL := 5) (ret := (some .int)) (by decide) rfl ?_
  intro p e s m args below meth c s₁ B hml hv
  obtain ⟨rfl, hP, hK, hN⟩ := hv
  have hx := B.exec
  have hb := B.bytes
  have hr := B.returns
  have hts := atoms_spec (ws := (.code y_R_search c_R_search 5 (some .int) :: G_)) B.pre
  have hg : ∀ w ∈ G_, w.before ([.ref a, .int (nI b), .int x] : List Value).toArray s = true := fun w h => hts w (List.mem_cons_of_mem _ h)
  have hown : s.vm.findClass RR = some m.cls := findClass_of_methodNamed B.named
  have hlocks := B.notSynchronized
  have hl := lv_entry ([.ref a, .int (nI b), .int x]) (n := 5) (Nat.le_of_ble_eq_true rfl)
  rw [lg_entry_eq]
  generalize (lg_sl ([.ref a, .int (nI b), .int x]) ++ List.replicate (5 - (lg_sl ([.ref a, .int (nI b), .int x])).length) Slot.unset).toArray = ls at hl ⊢
  have hl : lv_has ls 5 [(0, .ref a), (1, .int (nI b)), (2, .int x)] := hl
  have loop : ∀ (k : Nat), k ≤ 8 → ∀ (t s0 : Nat) (ls : Array Slot), t = 2 ^ k / 2 → s0 ≤ b → (∀ j, j < s0 → f j < x) → (∀ j, s0 + (2 ^ k - 1) ≤ j → j < b → ¬ f j < x) → lv_has ls 5 [(4, .int (nI t)), (3, .int (nI s0)), (0, .ref a), (1, .int (nI b)), (2, .int x)] → W p l e (headSpec (.code y_R_search c_R_search 5 (some .int) :: G_) ({ frames := 0, cells := 0, slots := 0, locals := 0 })).room s m ([.ref a, .int (nI b), .int x] : List Value).toArray below meth c s.heap [] 0 0 (MQ below (vp_Si (fun r => r = ov_ (fi_ (fun i => decide (f i = x)) b))) ([.ref a, .int (nI b), .int x] : List Value).toArray s 0 0 (fun _ => False)) (F0 m 7 ls []) := by
    intro k
    induction k with
    | zero =>
      intro hk t s0 ls ht hsb h1 h2 hl
      have ht0 : t = 0 := by rw [ht]
      subst ht0
      have fin := se_fin (s := s0) hs h1 (fun j hj hjb => h2 j (by omega) hjb)
      refine lv_iload hx hb d_R_search_7 (lv_at hl 0 rfl) ?_
      refine lv_if_le (tgt := 46) hx hb d_R_search_9 (by decide) (fun h9 => ?_) (fun h9 => ?_)
      · skip
        refine lv_iload_n hx hb d_R_search_46 rfl (lv_at hl 1 rfl) ?_
        refine lv_iload_n hx hb d_R_search_47 rfl (lv_at hl 3 rfl) ?_
        refine lv_icmp_ge (tgt := 62) hx hb d_R_search_48 (by decide) (fun h48 => ?_) (fun h48 => ?_)
        · skip
          have hsn : ¬ s0 < b := fun h => absurd h48 (nI_ge h (by omega))
          refine lv_iconst (v := (-1)) hx hb d_R_search_62 (by decide) ?_
          have hno : ¬ (s0 < b ∧ f s0 = x) := by first | exact fun h => hsn h.1 | exact fun h => h55 h.2
          exact W.iret hx hb hr (fun t ht hW => ⟨_, rfl, by rw [fin, if_neg hno]; rfl, ht⟩) (fun q h => absurd h List.not_mem_nil) d_R_search_63
        · skip
          have hsn : s0 < b := Nat.not_le.mp (fun h => h48 (nI_le h (by omega)))
          refine lv_aload_n hx hb d_R_search_51 rfl (lv_at hl 2 rfl) ?_
          refine lv_iload_n hx hb d_R_search_52 rfl (lv_at hl 1 rfl) ?_
          refine va_iald hx hb hK hP 0 0 rfl rfl (vp_in_nI (n := s0) (N := N) (by omega) (by omega)) d_R_search_53 ?_
          refine toi_ (y := f s0) (by rw [nI_clamp (by omega)]) ?_
          refine lv_iload_n hx hb d_R_search_54 rfl (lv_at hl 4 rfl) ?_
          refine lv_icmp_ne (tgt := 62) hx hb d_R_search_55 (by decide) (fun h55 => ?_) (fun h55 => ?_)
          · skip
            refine lv_iconst (v := (-1)) hx hb d_R_search_62 (by decide) ?_
            have hno : ¬ (s0 < b ∧ f s0 = x) := by first | exact fun h => hsn h.1 | exact fun h => h55 h.2
            exact W.iret hx hb hr (fun t ht hW => ⟨_, rfl, by rw [fin, if_neg hno]; rfl, ht⟩) (fun q h => absurd h List.not_mem_nil) d_R_search_63
          · skip
            refine lv_iload_n hx hb d_R_search_58 rfl (lv_at hl 1 rfl) ?_
            refine lv_goto (tgt := 63) hx hb d_R_search_59 (by decide) ?_
            exact W.iret hx hb hr (fun t ht hW => ⟨_, rfl, by rw [fin, if_pos ⟨hsn, h55⟩]; rfl, ht⟩) (fun q h => absurd h List.not_mem_nil) d_R_search_63
      · skip
        exact absurd (by rw [nI_0]; exact Int32.le_refl 0) h9
    | succ k ih =>
      intro hk t s0 ls ht hsb h1 h2 hl
      have ht2 : t = 2 ^ k := by rw [ht, Nat.pow_succ]; omega
      have h128 : t ≤ 128 := by rw [ht2]; exact Nat.le_trans (Nat.pow_le_pow_right (by omega) (show k ≤ 7 by omega)) (by decide)
      have h0 : 0 < t := by rw [ht2]; exact Nat.pow_pos (by omega)
      have hdiv : nI t / 2 = nI (t / 2) := pk_div (d := 2) (by omega) (by omega) (by omega)
      have h2k : 2 ^ (k + 1) = 2 * t := by rw [ht2, Nat.pow_succ]; omega
      rw [h2k] at h2
      refine lv_iload hx hb d_R_search_7 (lv_at hl 0 rfl) ?_
      refine lv_if_le (tgt := 46) hx hb d_R_search_9 (by decide) (fun h9 => ?_) (fun h9 => ?_)
      · skip
        exact absurd h9 (nI_nle h0 (by omega))
      · skip
        refine lv_iload_n hx hb d_R_search_12 rfl (lv_at hl 1 rfl) ?_
        refine lv_iload hx hb d_R_search_13 (lv_at hl 0 rfl) ?_
        refine lv_iadd hx hb d_R_search_15 ?_
        refine toi_ (y := nI (s0 + t)) (nI_add _ _) ?_
        refine lv_iload_n hx hb d_R_search_16 rfl (lv_at hl 3 rfl) ?_
        refine lv_icmp_gt (tgt := 37) hx hb d_R_search_17 (by decide) (fun h17 => ?_) (fun h17 => ?_)
        · skip
          have hse := se_f (s := s0) hs h0 (x := x) (fun h => absurd h17 (nI_nlt h.1 (by omega)))
          refine lv_iload hx hb d_R_search_37 (lv_at hl 0 rfl) ?_
          refine lv_iconst (v := 2) hx hb d_R_search_39 (by decide) ?_
          refine lv_idiv hx hb d_R_search_40 (by decide) ?_
          refine toi_ (y := nI (t / 2)) (hdiv) ?_
          refine lv_istore (lv' := [(4, .int (nI (t / 2))), (3, .int (nI s0)), (0, .ref a), (1, .int (nI b)), (2, .int x)]) hx hb d_R_search_41 hl (by decide) rfl (fun ls hl => ?_)
          refine lv_goto (tgt := 7) hx hb d_R_search_43 (by decide) ?_
          have hl := lv_sub hl [0, 1, 2, 3, 4] (l' := [(4, .int (nI (t / 2))), (3, .int (nI s0)), (0, .ref a), (1, .int (nI b)), (2, .int x)]) rfl
          exact ih (by omega) (t / 2) s0 ls (by rw [ht2]) hsb h1 (by rw [← ht2]; exact hse) hl
        · skip
          have hst : s0 + t ≤ b := Nat.not_lt.mp (fun h => h17 (nI_lt h (by omega)))
          refine lv_aload_n hx hb d_R_search_20 rfl (lv_at hl 2 rfl) ?_
          refine lv_iload_n hx hb d_R_search_21 rfl (lv_at hl 1 rfl) ?_
          refine lv_iload hx hb d_R_search_22 (lv_at hl 0 rfl) ?_
          refine lv_iadd hx hb d_R_search_24 ?_
          refine toi_ (y := nI (s0 + t)) (nI_add _ _) ?_
          refine lv_iconst (v := 1) hx hb d_R_search_25 (by decide) ?_
          refine lv_isub hx hb d_R_search_26 ?_
          refine toi_ (y := nI (s0 + t - 1)) (pk_sub (a := s0 + t) (b := 1) (by omega)) ?_
          refine va_iald hx hb hK hP 0 0 rfl rfl (vp_in_nI (n := s0 + t - 1) (N := N) (by omega) (by omega)) d_R_search_27 ?_
          refine toi_ (y := f (s0 + t - 1)) (by rw [nI_clamp (by omega)]) ?_
          refine lv_iload_n hx hb d_R_search_28 rfl (lv_at hl 4 rfl) ?_
          refine lv_icmp_ge (tgt := 37) hx hb d_R_search_29 (by decide) (fun h29 => ?_) (fun h29 => ?_)
          · skip
            have hse := se_f (s := s0) hs h0 (x := x) (fun h => by rw [Int32.le_iff_toInt_le] at h29; have := Int32.lt_iff_toInt_lt.mp h.2; omega)
            refine lv_iload hx hb d_R_search_37 (lv_at hl 0 rfl) ?_
            refine lv_iconst (v := 2) hx hb d_R_search_39 (by decide) ?_
            refine lv_idiv hx hb d_R_search_40 (by decide) ?_
            refine toi_ (y := nI (t / 2)) (hdiv) ?_
            refine lv_istore (lv' := [(4, .int (nI (t / 2))), (3, .int (nI s0)), (0, .ref a), (1, .int (nI b)), (2, .int x)]) hx hb d_R_search_41 hl (by decide) rfl (fun ls hl => ?_)
            refine lv_goto (tgt := 7) hx hb d_R_search_43 (by decide) ?_
            have hl := lv_sub hl [0, 1, 2, 3, 4] (l' := [(4, .int (nI (t / 2))), (3, .int (nI s0)), (0, .ref a), (1, .int (nI b)), (2, .int x)]) rfl
            exact ih (by omega) (t / 2) s0 ls (by rw [ht2]) hsb h1 (by rw [← ht2]; exact hse) hl
          · skip
            have hlt : f (s0 + t - 1) < x := by rw [Int32.le_iff_toInt_le] at h29; rw [Int32.lt_iff_toInt_lt]; omega
            obtain ⟨hs1, hs2⟩ := se_t hs h2 h0 hst hlt
            refine lv_iload_n hx hb d_R_search_32 rfl (lv_at hl 1 rfl) ?_
            refine lv_iload hx hb d_R_search_33 (lv_at hl 0 rfl) ?_
            refine lv_iadd hx hb d_R_search_35 ?_
            refine toi_ (y := nI (s0 + t)) (nI_add _ _) ?_
            refine lv_istore_n (lv' := [(3, .int (nI (s0 + t))), (4, .int (nI t)), (0, .ref a), (1, .int (nI b)), (2, .int x)]) hx hb d_R_search_36 rfl hl (by decide) rfl (fun ls hl => ?_)
            refine lv_iload hx hb d_R_search_37 (lv_at hl 1 rfl) ?_
            refine lv_iconst (v := 2) hx hb d_R_search_39 (by decide) ?_
            refine lv_idiv hx hb d_R_search_40 (by decide) ?_
            refine toi_ (y := nI (t / 2)) (hdiv) ?_
            refine lv_istore (lv' := [(4, .int (nI (t / 2))), (3, .int (nI (s0 + t))), (0, .ref a), (1, .int (nI b)), (2, .int x)]) hx hb d_R_search_41 hl (by decide) rfl (fun ls hl => ?_)
            refine lv_goto (tgt := 7) hx hb d_R_search_43 (by decide) ?_
            have hl := lv_sub hl [0, 1, 2, 3, 4] (l' := [(4, .int (nI (t / 2))), (3, .int (nI (s0 + t))), (0, .ref a), (1, .int (nI b)), (2, .int x)]) rfl
            exact ih (by omega) (t / 2) (s0 + t) ls (by rw [ht2]) hst hs1 (by rw [← ht2]; exact hs2) hl
  refine lv_iconst (v := 0) hx hb d_R_search_0 (by decide) ?_
  refine lv_istore_n (lv' := [(3, .int 0), (0, .ref a), (1, .int (nI b)), (2, .int x)]) hx hb d_R_search_1 rfl hl (by decide) rfl (fun ls hl => ?_)
  refine lv_sipush (v := 128) hx hb d_R_search_2 (by decide) ?_
  refine lv_istore (lv' := [(4, .int 128), (3, .int 0), (0, .ref a), (1, .int (nI b)), (2, .int x)]) hx hb d_R_search_5 hl (by decide) rfl (fun ls hl => ?_)
  have hl := lv_sub hl [0, 1, 2, 3, 4] (l' := [(4, .int (nI 128)), (3, .int (nI 0)), (0, .ref a), (1, .int (nI b)), (2, .int x)]) rfl
  exact loop 8 (Nat.le_refl _) 128 0 ls rfl (Nat.zero_le _) (fun j h => absurd h (Nat.not_lt_zero _)) (fun j h hb2 => by simp at h; omega) hl
