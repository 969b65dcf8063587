/-! The law's loop. -/
theorem sw24 (v : Int32) : v = 0 ∨ v = 1 ∨ v = 2 ∨ v = 3 ∨ v = 4 ∨ v = 5 ∨ v = 6 ∨ v = 7 ∨ v = 8 ∨ v = 9 ∨ v = 10 ∨ v = 11 ∨ v = 12 ∨ v = 13 ∨ v = 14 ∨ v = 15 ∨ v = 16 ∨ v = 17 ∨ v = 18 ∨ v = 19 ∨ v = 20 ∨ v = 21 ∨ v = 22 ∨ v = 23 ∨ (v.toInt < 0 ∨ 23 < v.toInt) := by
  by_cases h : v.toInt < 0 ∨ 23 < v.toInt
  · exact Or.inr (Or.inr (Or.inr (Or.inr (Or.inr (Or.inr (Or.inr (Or.inr (Or.inr (Or.inr (Or.inr (Or.inr (Or.inr (Or.inr (Or.inr (Or.inr (Or.inr (Or.inr (Or.inr (Or.inr (Or.inr (Or.inr (Or.inr (Or.inr (h))))))))))))))))))))))))
  · obtain ⟨j, hj, rfl⟩ := inx_n (x := v) (n := 24) (by unfold inx_; simp; omega)
    rcases (show j = 0 ∨ j = 1 ∨ j = 2 ∨ j = 3 ∨ j = 4 ∨ j = 5 ∨ j = 6 ∨ j = 7 ∨ j = 8 ∨ j = 9 ∨ j = 10 ∨ j = 11 ∨ j = 12 ∨ j = 13 ∨ j = 14 ∨ j = 15 ∨ j = 16 ∨ j = 17 ∨ j = 18 ∨ j = 19 ∨ j = 20 ∨ j = 21 ∨ j = 22 ∨ j = 23 by omega) with rfl | rfl | rfl | rfl | rfl | rfl | rfl | rfl | rfl | rfl | rfl | rfl | rfl | rfl | rfl | rfl | rfl | rfl | rfl | rfl | rfl | rfl | rfl | rfl
    · exact Or.inl (rfl)
    · exact Or.inr (Or.inl (rfl))
    · exact Or.inr (Or.inr (Or.inl (rfl)))
    · exact Or.inr (Or.inr (Or.inr (Or.inl (rfl))))
    · exact Or.inr (Or.inr (Or.inr (Or.inr (Or.inl (rfl)))))
    · exact Or.inr (Or.inr (Or.inr (Or.inr (Or.inr (Or.inl (rfl))))))
    · exact Or.inr (Or.inr (Or.inr (Or.inr (Or.inr (Or.inr (Or.inl (rfl)))))))
    · exact Or.inr (Or.inr (Or.inr (Or.inr (Or.inr (Or.inr (Or.inr (Or.inl (rfl))))))))
    · exact Or.inr (Or.inr (Or.inr (Or.inr (Or.inr (Or.inr (Or.inr (Or.inr (Or.inl (rfl)))))))))
    · exact Or.inr (Or.inr (Or.inr (Or.inr (Or.inr (Or.inr (Or.inr (Or.inr (Or.inr (Or.inl (rfl))))))))))
    · exact Or.inr (Or.inr (Or.inr (Or.inr (Or.inr (Or.inr (Or.inr (Or.inr (Or.inr (Or.inr (Or.inl (rfl)))))))))))
    · exact Or.inr (Or.inr (Or.inr (Or.inr (Or.inr (Or.inr (Or.inr (Or.inr (Or.inr (Or.inr (Or.inr (Or.inl (rfl))))))))))))
    · exact Or.inr (Or.inr (Or.inr (Or.inr (Or.inr (Or.inr (Or.inr (Or.inr (Or.inr (Or.inr (Or.inr (Or.inr (Or.inl (rfl)))))))))))))
    · exact Or.inr (Or.inr (Or.inr (Or.inr (Or.inr (Or.inr (Or.inr (Or.inr (Or.inr (Or.inr (Or.inr (Or.inr (Or.inr (Or.inl (rfl))))))))))))))
    · exact Or.inr (Or.inr (Or.inr (Or.inr (Or.inr (Or.inr (Or.inr (Or.inr (Or.inr (Or.inr (Or.inr (Or.inr (Or.inr (Or.inr (Or.inl (rfl)))))))))))))))
    · exact Or.inr (Or.inr (Or.inr (Or.inr (Or.inr (Or.inr (Or.inr (Or.inr (Or.inr (Or.inr (Or.inr (Or.inr (Or.inr (Or.inr (Or.inr (Or.inl (rfl))))))))))))))))
    · exact Or.inr (Or.inr (Or.inr (Or.inr (Or.inr (Or.inr (Or.inr (Or.inr (Or.inr (Or.inr (Or.inr (Or.inr (Or.inr (Or.inr (Or.inr (Or.inr (Or.inl (rfl)))))))))))))))))
    · exact Or.inr (Or.inr (Or.inr (Or.inr (Or.inr (Or.inr (Or.inr (Or.inr (Or.inr (Or.inr (Or.inr (Or.inr (Or.inr (Or.inr (Or.inr (Or.inr (Or.inr (Or.inl (rfl))))))))))))))))))
    · exact Or.inr (Or.inr (Or.inr (Or.inr (Or.inr (Or.inr (Or.inr (Or.inr (Or.inr (Or.inr (Or.inr (Or.inr (Or.inr (Or.inr (Or.inr (Or.inr (Or.inr (Or.inr (Or.inl (rfl)))))))))))))))))))
    · exact Or.inr (Or.inr (Or.inr (Or.inr (Or.inr (Or.inr (Or.inr (Or.inr (Or.inr (Or.inr (Or.inr (Or.inr (Or.inr (Or.inr (Or.inr (Or.inr (Or.inr (Or.inr (Or.inr (Or.inl (rfl))))))))))))))))))))
    · exact Or.inr (Or.inr (Or.inr (Or.inr (Or.inr (Or.inr (Or.inr (Or.inr (Or.inr (Or.inr (Or.inr (Or.inr (Or.inr (Or.inr (Or.inr (Or.inr (Or.inr (Or.inr (Or.inr (Or.inr (Or.inl (rfl)))))))))))))))))))))
    · exact Or.inr (Or.inr (Or.inr (Or.inr (Or.inr (Or.inr (Or.inr (Or.inr (Or.inr (Or.inr (Or.inr (Or.inr (Or.inr (Or.inr (Or.inr (Or.inr (Or.inr (Or.inr (Or.inr (Or.inr (Or.inr (Or.inl (rfl))))))))))))))))))))))
    · exact Or.inr (Or.inr (Or.inr (Or.inr (Or.inr (Or.inr (Or.inr (Or.inr (Or.inr (Or.inr (Or.inr (Or.inr (Or.inr (Or.inr (Or.inr (Or.inr (Or.inr (Or.inr (Or.inr (Or.inr (Or.inr (Or.inr (Or.inl (rfl)))))))))))))))))))))))
    · exact Or.inr (Or.inr (Or.inr (Or.inr (Or.inr (Or.inr (Or.inr (Or.inr (Or.inr (Or.inr (Or.inr (Or.inr (Or.inr (Or.inr (Or.inr (Or.inr (Or.inr (Or.inr (Or.inr (Or.inr (Or.inr (Or.inr (Or.inr (Or.inl (rfl))))))))))))))))))))))))
theorem sub4 {L t : Nat} (hL : L ≤ 2048) (ht : t ≤ 2048) : nI L - 4 < nI t ↔ ¬ t + 4 ≤ L := by
  by_cases h : 4 ≤ L
  · obtain ⟨k, rfl⟩ : ∃ k, L = k + 4 := ⟨L - 4, by omega⟩
    have e : nI (k + 4) - 4 = nI k := by rw [← nI_p4, Int32.add_sub_cancel]
    rw [e, nI_lti (by omega) (by omega)]
    omega
  · refine ⟨fun _ h9 => h (by omega), fun _ => ?_⟩
    rw [Int32.lt_iff_toInt_lt, nI_t (by omega)]
    rcases (show L = 0 ∨ L = 1 ∨ L = 2 ∨ L = 3 by omega) with rfl | rfl | rfl | rfl
    · have : (nI 0 - 4).toInt = -4 := by decide
      omega
    · have : (nI 1 - 4).toInt = -3 := by decide
      omega
    · have : (nI 2 - 4).toInt = -2 := by decide
      omega
    · have : (nI 3 - 4).toInt = -1 := by decide
      omega
set_option maxHeartbeats 4000000 in
set_option maxRecDepth 100000 in
theorem law_loop {p : Program} {l : Launch} {e : Env} {s : State} {m : MethodId} {below : List Frame} {meth : Method} {c : Code} {b L : Nat} {xs : Nat → Int32} {D : va_G} {cA : Nat → ClassId} {np : Nat} {au ay : Nat → Nat} {Q : State → Prop} (C : LC p s m c b L xs D cA np) (hL : L ≤ 2048) (hend : ∀ (t : Nat) (H : Heap) (locs : List Loc) (ls : Array Slot), t ≤ 512 → va_S (fun q => s.heap.size ≤ q) s.heap H locs → W p l e room_1 s m #[Value.ref b] below meth c H locs (42 + 2 * t) (12098 + 47 * t) Q (F0 m 839 ls [])) : ∀ (d t : Nat) (a : ab_T) (cu : uc_T) (cm : mc_T) (H : Heap) (locs : List Loc) (ls : Array Slot), L ≤ 4 * (t + d) + 3 → 4 * t ≤ L → a.2.2.2.1 ≤ t → LI s D cA au ay a cu cm H locs → lv_has ls 4 [(0, .ref b), (1, .ref (au 0)), (2, .ref (ay 0)), (3, .int (nI (4 * t)))] → W p l e room_1 s m #[Value.ref b] below meth c H locs (42 + 2 * t) (12098 + 47 * t) Q (F0 m 18 ls []) := by
  have C1 := C
  obtain ⟨hx, hb, hml, hown, hg, hX, hbl, hK, hN, hZ0⟩ := C1
  intro d
  induction d with
  | zero =>
    intro t a cu cm H locs ls hd h4 hla hI hl
    refine lv_iload_n hx hb d_L_law_18 rfl (lv_at hl 3 rfl) ?_
    refine lv_aload_n hx hb d_L_law_19 rfl (lv_at hl 0 rfl) ?_
    refine va_slen hx hb hX hbl (Nat.not_le.mpr hbl) hI.2.2.1 d_L_law_20 ?_
    refine toi_ (y := nI L) rfl ?_
    refine lv_iconst (v := 4) hx hb d_L_law_21 (by decide) ?_
    refine lv_isub hx hb d_L_law_22 ?_
    refine lv_icmp_gt (tgt := 839) hx hb d_L_law_23 (by decide) (fun h23 => ?_) (fun h23 => ?_)
    · skip
      exact hend t H locs ls (by omega) hI.2.2.1
    · skip
      exact absurd ((sub4 hL (by omega)).mpr (by omega)) h23
  | succ d ih =>
    intro t a cu cm H locs ls hd h4 hla hI hl
    have next : 4 * t + 4 ≤ L → ∀ (a : ab_T) (cu : uc_T) (cm : mc_T) (H : Heap) (locs : List Loc), a.2.2.2.1 ≤ t + 1 → LI s D cA au ay a cu cm H locs → W p l e room_1 s m #[Value.ref b] below meth c H locs (42 + 2 * (t + 1)) (12098 + 47 * (t + 1)) Q (F0 m 833 ls []) := by
      intro h5 a cu cm H locs hla hI
      refine lv_iinc (k := 3) (v := nI (4 * (t + 1))) (lv' := [(3, .int (nI (4 * (t + 1)))), (0, .ref b), (1, .ref (au 0)), (2, .ref (ay 0))]) hx hb d_L_law_833 hl rfl (nI_p4 (4 * t)) (by decide) rfl (fun ls hl => ?_)
      refine lv_goto (tgt := 18) hx hb d_L_law_836 (by decide) ?_
      have hl := lv_sub hl [1, 2, 3, 0] (l' := [(0, .ref b), (1, .ref (au 0)), (2, .ref (ay 0)), (3, .int (nI (4 * (t + 1))))]) rfl
      exact ih (t + 1) a cu cm H locs ls (by omega) (by omega) hla hI hl
    refine lv_iload_n hx hb d_L_law_18 rfl (lv_at hl 3 rfl) ?_
    refine lv_aload_n hx hb d_L_law_19 rfl (lv_at hl 0 rfl) ?_
    refine va_slen hx hb hX hbl (Nat.not_le.mpr hbl) hI.2.2.1 d_L_law_20 ?_
    refine toi_ (y := nI L) rfl ?_
    refine lv_iconst (v := 4) hx hb d_L_law_21 (by decide) ?_
    refine lv_isub hx hb d_L_law_22 ?_
    refine lv_icmp_gt (tgt := 839) hx hb d_L_law_23 (by decide) (fun h23 => ?_) (fun h23 => ?_)
    · skip
      exact hend t H locs ls (by omega) hI.2.2.1
    · skip
      have h5 : 4 * t + 4 ≤ L := Classical.not_not.mp (fun h9 => h23 ((sub4 hL (by omega)).mpr h9))
      refine lv_aload_n hx hb d_L_law_26 rfl (lv_at hl 0 rfl) ?_
      refine lv_iload_n hx hb d_L_law_27 rfl (lv_at hl 3 rfl) ?_
      have hS := hI.2.2.1
      refine va_sld hx hb hX hbl (Nat.not_le.mpr hbl) hS (vp_in_nI (n := 4 * t) (N := L) (by omega) (by omega)) d_L_law_28 ?_
      refine toi_ (y := xs (4 * t)) (by rw [nI_clamp (by omega)]) ?_
      refine lv_bipush (v := 31) hx hb d_L_law_29 (by decide) ?_
      refine lv_iand hx hb d_L_law_31 ?_
      rcases sw24 ((xs (4 * t)) &&& 31) with h9 | h9 | h9 | h9 | h9 | h9 | h9 | h9 | h9 | h9 | h9 | h9 | h9 | h9 | h9 | h9 | h9 | h9 | h9 | h9 | h9 | h9 | h9 | h9 | h9
      · skip
        refine toi_ (y := 0) h9 ?_
        refine lv_tableIn (off := 112) (tgt := 144) hx hb d_L_law_32 (by decide) (by decide) rfl (by decide) ?_
        exact lc_set C hL h5 hla hI hl (next h5)
      · skip
        refine toi_ (y := 1) h9 ?_
        refine lv_tableIn (off := 145) (tgt := 177) hx hb d_L_law_32 (by decide) (by decide) rfl (by decide) ?_
        exact lc_add C hL h5 hla hI hl (next h5)
      · skip
        refine toi_ (y := 2) h9 ?_
        refine lv_tableIn (off := 208) (tgt := 240) hx hb d_L_law_32 (by decide) (by decide) rfl (by decide) ?_
        exact lc_insert C hL h5 hla hI hl (next h5)
      · skip
        refine toi_ (y := 3) h9 ?_
        refine lv_tableIn (off := 251) (tgt := 283) hx hb d_L_law_32 (by decide) (by decide) rfl (by decide) ?_
        exact lc_remove C hL h5 hla hI hl (next h5)
      · skip
        refine toi_ (y := 4) h9 ?_
        refine lv_tableIn (off := 284) (tgt := 316) hx hb d_L_law_32 (by decide) (by decide) rfl (by decide) ?_
        exact lc_move C hL h5 hla hI hl (next h5)
      · skip
        refine toi_ (y := 5) h9 ?_
        refine lv_tableIn (off := 327) (tgt := 359) hx hb d_L_law_32 (by decide) (by decide) rfl (by decide) ?_
        exact lc_node C hL h5 hla hI hl (next h5)
      · skip
        refine toi_ (y := 6) h9 ?_
        refine lv_tableIn (off := 350) (tgt := 382) hx hb d_L_law_32 (by decide) (by decide) rfl (by decide) ?_
        exact lc_unlink C hL h5 hla hI hl (next h5)
      · skip
        refine toi_ (y := 7) h9 ?_
        refine lv_tableIn (off := 373) (tgt := 405) hx hb d_L_law_32 (by decide) (by decide) rfl (by decide) ?_
        exact lc_link C hL h5 hla hI hl (next h5)
      · skip
        refine toi_ (y := 8) h9 ?_
        refine lv_tableIn (off := 406) (tgt := 438) hx hb d_L_law_32 (by decide) (by decide) rfl (by decide) ?_
        exact lc_undo C hL h5 hla hI hl (next h5)
      · skip
        refine toi_ (y := 9) h9 ?_
        refine lv_tableIn (off := 455) (tgt := 487) hx hb d_L_law_32 (by decide) (by decide) rfl (by decide) ?_
        exact lc_redo C hL h5 hla hI hl (next h5)
      · skip
        refine toi_ (y := 10) h9 ?_
        refine lv_tableIn (off := 478) (tgt := 510) hx hb d_L_law_32 (by decide) (by decide) rfl (by decide) ?_
        exact lc_taken C hL h5 hla hI hl (next h5)
      · skip
        refine toi_ (y := 11) h9 ?_
        refine lv_tableIn (off := 501) (tgt := 533) hx hb d_L_law_32 (by decide) (by decide) rfl (by decide) ?_
        exact lc_dependsOn C hL h5 hla hI hl (next h5)
      · skip
        refine toi_ (y := 12) h9 ?_
        refine lv_tableIn (off := 534) (tgt := 566) hx hb d_L_law_32 (by decide) (by decide) rfl (by decide) ?_
        exact lc_undoLast C hL h5 hla hI hl (next h5)
      · skip
        refine toi_ (y := 13) h9 ?_
        refine lv_tableIn (off := 547) (tgt := 579) hx hb d_L_law_32 (by decide) (by decide) rfl (by decide) ?_
        exact lc_redoNext C hL h5 hla hI hl (next h5)
      · skip
        refine toi_ (y := 14) h9 ?_
        refine lv_tableIn (off := 560) (tgt := 592) hx hb d_L_law_32 (by decide) (by decide) rfl (by decide) ?_
        exact lc_squash C hL h5 hla hI hl (next h5)
      · skip
        refine toi_ (y := 15) h9 ?_
        refine lv_tableIn (off := 573) (tgt := 605) hx hb d_L_law_32 (by decide) (by decide) rfl (by decide) ?_
        exact lc_active C hL h5 hla hI hl (next h5)
      · skip
        refine toi_ (y := 16) h9 ?_
        refine lv_tableIn (off := 596) (tgt := 628) hx hb d_L_law_32 (by decide) (by decide) rfl (by decide) ?_
        exact lc_count C hL h5 hla hI hl (next h5)
      · skip
        refine toi_ (y := 17) h9 ?_
        refine lv_tableIn (off := 619) (tgt := 651) hx hb d_L_law_32 (by decide) (by decide) rfl (by decide) ?_
        exact lc_history C hL h5 hla hI hl (next h5)
      · skip
        refine toi_ (y := 18) h9 ?_
        refine lv_tableIn (off := 652) (tgt := 684) hx hb d_L_law_32 (by decide) (by decide) rfl (by decide) ?_
        exact lc_cell C hL h5 hla hI hl (next h5)
      · skip
        refine toi_ (y := 19) h9 ?_
        refine lv_tableIn (off := 675) (tgt := 707) hx hb d_L_law_32 (by decide) (by decide) rfl (by decide) ?_
        exact lc_counter C hL h5 hla hI hl (next h5)
      · skip
        refine toi_ (y := 20) h9 ?_
        refine lv_tableIn (off := 699) (tgt := 731) hx hb d_L_law_32 (by decide) (by decide) rfl (by decide) ?_
        exact lc_length C hL h5 hla hI hl (next h5)
      · skip
        refine toi_ (y := 21) h9 ?_
        refine lv_tableIn (off := 722) (tgt := 754) hx hb d_L_law_32 (by decide) (by decide) rfl (by decide) ?_
        exact lc_element C hL h5 hla hI hl (next h5)
      · skip
        refine toi_ (y := 22) h9 ?_
        refine lv_tableIn (off := 755) (tgt := 787) hx hb d_L_law_32 (by decide) (by decide) rfl (by decide) ?_
        exact lc_value C hL h5 hla hI hl (next h5)
      · skip
        refine toi_ (y := 23) h9 ?_
        refine lv_tableIn (off := 778) (tgt := 810) hx hb d_L_law_32 (by decide) (by decide) rfl (by decide) ?_
        exact lc_parent C hL h5 hla hI hl (next h5)
      · skip
        refine lv_tableOut (tgt := 833) hx hb d_L_law_32 h9 (by decide) ?_
        refine W.widen (k := 42 + 2 * (t + 1)) (n := 12098 + 47 * (t + 1)) (by omega) (by omega) ?_
        exact next h5 a cu cm H locs (Nat.le_trans hla (Nat.le_succ t)) hI
