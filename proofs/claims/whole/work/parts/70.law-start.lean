/-! The law's start: what the tables say; the context of its loop. -/
def dc4_ (a b c d : ClassId) : Nat → ClassId := fun k => match k with
  | 0 => a
  | 1 => b
  | 2 => c
  | _ => d
def di4_ (a b c d : Nat → Nat) : Nat → Nat → Nat := fun k => match k with
  | 0 => a
  | 1 => b
  | 2 => c
  | _ => d
def ca5_ (a b c d e : ClassId) : Nat → ClassId := fun k => match k with
  | 0 => a
  | 1 => b
  | 2 => c
  | 3 => d
  | _ => e
theorem law_K {args : Array Value} {s : State} (hts : ∀ w ∈ lw_tbl, w.before args s = true) : ∃ (D : va_G) (cA : Nat → ClassId), va_K D cls_ (tl_ cA) s ∧ nx_ s := by
  have hg : ∀ w ∈ G_, w.before args s = true := fun w h => hts w (List.mem_filter.mp h).1
  obtain ⟨c0, i0, k0⟩ := u_known (C := RR) (T := TR) (N := 9) hg inR (hg _ ins_R)
  obtain ⟨c1, i1, k1⟩ := u_known (C := RS) (T := TS) (N := 7) hg inS (hg _ ins_S)
  obtain ⟨c2, i2, k2⟩ := u_known (C := RU) (T := TU) (N := 9) hg inU (hg _ ins_U)
  obtain ⟨c3, i3, k3⟩ := u_known (C := RM) (T := TM) (N := 20) hg inM (hg _ ins_M)
  obtain ⟨aI, kI, mI, hI1, hI2, hI3⟩ := Cond.arrayClass_spec (hg _ ac_int)
  obtain ⟨aJ, kJ, mJ, hJ1, hJ2, hJ3⟩ := Cond.arrayClass_spec (hg _ ac_long)
  obtain ⟨aZ, kZ, mZ, hZ1, hZ2, hZ3⟩ := Cond.arrayClass_spec (hg _ ac_boolean)
  obtain ⟨mG, aG, kG, hG1, -, hG2, hG3, hG4⟩ := arrayOverA_spec (hts _ ao_24)
  obtain ⟨mS, aS, kS, hS1, -, hS2, hS3, hS4⟩ := Cond.arrayOver_spec (hts _ ao_16)
  refine ⟨(dc4_ c0 c1 c2 c3, di4_ i0 i1 i2 i3), ca5_ aI aJ aG aS aZ, ⟨?_, ?_⟩, ⟨fun w hw => va_Nw.of (ne_on (ne_all w hw)) (hts w (nw_tbl w hw)), va_AO.of (hts _ ao_16), hts _ ao_24⟩⟩
  · intro c q hq
    rcases c with _ | _ | _ | _ | c
    · cases hq; exact k0
    · cases hq; exact k1
    · cases hq; exact k2
    · cases hq; exact k3
    · simp at hq
  · intro k q hq
    rcases k with _ | _ | _ | _ | _ | k
    · cases hq; exact ⟨fun N z => ⟨(fun k h => by cases h), kI, hI2, mI, hI3⟩, hI1⟩
    · cases hq; exact ⟨fun N z => ⟨(fun k h => by cases h), kJ, hJ2, mJ, hJ3⟩, hJ1⟩
    · cases hq; exact ⟨fun N z => ⟨(fun k h => by cases h), kG, hG2, mG, hG3⟩, hG4⟩
    · cases hq; exact ⟨fun N z => ⟨(fun k h => by cases h), kS, hS2, mS, hS3⟩, kS, mS, hS2, hS3, hS1, hS4⟩
    · cases hq; exact ⟨fun N z => ⟨(fun k h => by cases h), kZ, hZ2, mZ, hZ3⟩, hZ1⟩
    · simp at hq
/-- what stands while the law runs -/
def LC (p : Program) (s : State) (m : MethodId) (c : Code) (b L : Nat) (xs : Nat → Int32) (D : va_G) (cA : Nat → ClassId) (np : Nat) : Prop := p.tables.exec = Jvm.exec ∧ c.code = code ∧ c.maxLocals = 4 ∧ s.vm.findClass "UndoMemoryLaw" = some m.cls ∧ (∀ w ∈ G_, w.before #[Value.ref b] s = true) ∧ va_X b L xs s s.heap ∧ b < s.heap.size ∧ va_K D cls_ (tl_ cA) s ∧ nx_ s ∧ va_Z RU "NO_PLACE" "[I" (.ref np) (fun q => s.heap.size ≤ q) s s.heap
/-- what stands between two calls: both objects hold one history -/
def LI (s : State) (D : va_G) (cA : Nat → ClassId) (au ay : Nat → Nat) (a : ab_T) (cu : uc_T) (cm : mc_T) (H : Heap) (locs : List Loc) : Prop := va_P D cls_ (wX cA au a cu ++ wY cA ay a cm) H ∧ va_D (fun q => s.heap.size ≤ q) (wX cA au a cu ++ wY cA ay a cm) ∧ va_S (fun q => s.heap.size ≤ q) s.heap H locs ∧ uI_ cA a cu ∧ mI_ a cm
theorem nI_p2 (i : Nat) : nI i + 2 = nI (i + 2) := nI_add i 2
theorem nI_p3 (i : Nat) : nI i + 3 = nI (i + 3) := nI_add i 3
theorem nI_p4 (i : Nat) : nI i + 4 = nI (i + 4) := nI_add i 4
theorem lg_same (x : Int64) : lg_cmp x x = 0 := by
  simp [lg_cmp]
theorem la_put (a : ab_T) (x : st_T) : (put_ a x).2.2.2.2.1 ≤ a.2.2.2.1 + 1 := by
  unfold put_
  by_cases h : im_ x (rp_ a.1 a.2.1 a.2.2.1) = true
  · rw [if_pos h]; exact Nat.le_succ _
  · rw [if_neg h]; exact Nat.le_refl _
theorem la_if {P : Prop} [Decidable P] (a : ab_T) (x : st_T) : (if P then put_ a x else (0, a)).2.2.2.2.1 ≤ a.2.2.2.1 + 1 := by
  by_cases h : P
  · rw [if_pos h]; exact la_put a x
  · rw [if_neg h]; exact Nat.le_succ _
theorem la_undo (a : ab_T) (x : Int32) (al : Bool) : (sp_undo a x al).2.2.2.2.1 ≤ a.2.2.2.1 + 1 := by
  cases h : fn_ a.1 a.2.2.1 x with
  | none => rw [un_none h]; exact Nat.le_succ _
  | some k =>
    rw [un_some h]
    split
    · split
      · exact Nat.le_succ _
      · exact Nat.le_succ _
    · exact Nat.le_succ _
theorem la_redo (a : ab_T) (x : Int32) : (sp_redo a x).2.2.2.2.1 ≤ a.2.2.2.1 + 1 := by
  obtain ⟨ac2, h⟩ := re_same a x
  rw [h]
  exact Nat.le_succ _
theorem la_redoNext (a : ab_T) : (sp_redoNext a).2.2.2.2.1 ≤ a.2.2.2.1 + 1 := by
  unfold sp_redoNext
  split
  · exact la_redo a _
  · exact Nat.le_succ _
theorem la_undoLast (a : ab_T) : (sp_undoLast a).2.2.2.2.1 ≤ a.2.2.2.1 + 1 := by
  cases h : lt_ a.2.1 a.2.2.1 with
  | none => rw [ul_none h]; exact Nat.le_succ _
  | some k => rw [ul_some h]; exact Nat.le_succ _
