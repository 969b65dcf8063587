/-! One cell of a world handed to a callee; classes of new arrays. -/
theorem pm_at {α : Type} : ∀ {l : List α} {i : Nat} {x : α}, l[i]? = some x → l.Perm (x :: l.eraseIdx i) := by
  intro l
  induction l with
  | nil => intro i x h; simp at h
  | cons a t ih =>
    intro i x h
    cases i with
    | zero => simp at h; subst h; exact List.Perm.refl _
    | succ i => exact ((ih (by simpa using h)).cons a).trans (List.Perm.swap _ _ _)
theorem pm_set {α : Type} : ∀ {l : List α} {i : Nat} (y : α), i < l.length → (y :: l.eraseIdx i).Perm (l.set i y) := by
  intro l
  induction l with
  | nil => intro i y h; exact absurd h (Nat.not_lt_zero _)
  | cons a t ih =>
    intro i y h
    cases i with
    | zero => exact List.Perm.refl _
    | succ i => exact (List.Perm.swap _ _ _).trans ((ih y (Nat.lt_of_succ_lt_succ h)).cons a)
theorem cn_I {D : va_G} {cl : List vw_C} {cA : Nat → ClassId} {c : ClassId} {s : State} (h : va_K D cl (tl_ cA ++ [(c, .int)]) s) : c = cA 0 := by
  have h1 : s.vm.findClass ("[" ++ FieldType.int.toString) = some c := (h.2 5 _ rfl).2
  have h2 : s.vm.findClass ("[" ++ FieldType.int.toString) = some (cA 0) := (h.2 0 _ rfl).2
  exact Option.some.inj (h1.symm.trans h2)
theorem cn_J {D : va_G} {cl : List vw_C} {cA : Nat → ClassId} {c : ClassId} {s : State} (h : va_K D cl (tl_ cA ++ [(c, .long)]) s) : c = cA 1 := by
  have h1 : s.vm.findClass ("[" ++ FieldType.long.toString) = some c := (h.2 5 _ rfl).2
  have h2 : s.vm.findClass ("[" ++ FieldType.long.toString) = some (cA 1) := (h.2 1 _ rfl).2
  exact Option.some.inj (h1.symm.trans h2)
theorem cn_Z {D : va_G} {cl : List vw_C} {cA : Nat → ClassId} {c : ClassId} {s : State} (h : va_K D cl (tl_ cA ++ [(c, .boolean)]) s) : c = cA 4 := by
  have h1 : s.vm.findClass ("[" ++ FieldType.boolean.toString) = some c := (h.2 5 _ rfl).2
  have h2 : s.vm.findClass ("[" ++ FieldType.boolean.toString) = some (cA 4) := (h.2 4 _ rfl).2
  exact Option.some.inj (h1.symm.trans h2)
theorem cn_G {D : va_G} {cl : List vw_C} {cA : Nat → ClassId} {c : ClassId} {s : State} (h : va_K D cl (tl_ cA ++ [(c, .array .int)]) s) : c = cA 2 := by
  have h1 : s.vm.findClass ("[" ++ (FieldType.array .int).toString) = some c := (h.2 5 _ rfl).2
  have h2 : s.vm.findClass ("[" ++ (FieldType.array .int).toString) = some (cA 2) := (h.2 2 _ rfl).2
  exact Option.some.inj (h1.symm.trans h2)
theorem cn_S {D : va_G} {cl : List vw_C} {cA : Nat → ClassId} {c : ClassId} {s : State} (h : va_K D cl (tl_ cA ++ [(c, .object RS)]) s) : c = cA 3 := by
  obtain ⟨k1, c1, -, -, -, h1⟩ := (h.2 5 _ rfl).2
  obtain ⟨k2, c2, -, -, -, h2⟩ := (h.2 3 _ rfl).2
  exact Option.some.inj (h1.symm.trans h2)
section UQ1
variable {p : Program} {l : Launch} {e : Env} {R : Room} {s : State} {m : MethodId} {args : Array Value} {below : List Frame} {meth : Method} {c : Code} {H H0 : Heap} {locs : List Loc} {cells slots mc ms : Nat} {Q : State → Prop}
variable {pc : Nat} {ls : Array Slot} {rest st0 : List Value} {a : Array Value} {A0 : Nat → Prop} {D : va_G} {ws : va_W}
theorem mu1_v {S : Type} {post : S → Prop} {k q : Nat} {en : va_E} {e' : S → va_E} (hk : ws[k]? = some (q, en)) (hr : va_Run p l e R s m args below meth c H locs cells slots mc ms (F0 m pc ls st0) rest (va_Qv post (bw_ D (va_A [(q, en)] H.size) (fun u => [(q, e' u)])) (va_A [(q, en)] H.size) a) (va_A [(q, en)] H.size)) (hP : va_P D cls_ ws H) (hD : va_D A0 ws) (hS : va_S A0 H0 H locs) (hA : ∀ q, H0.size ≤ q → A0 q)
    (kk : ∀ (u : S) (H1 : Heap) (locs1 : List Loc), post u → va_P D cls_ (ws.set k (q, e' u)) H1 → va_D A0 (ws.set k (q, e' u)) → va_S A0 H0 H1 locs1 → W p l e R s m args below meth c H1 locs1 (cells + mc) (slots + ms) Q (F0 m (pc + 3) ls rest)) : W p l e R s m args below meth c H locs cells slots Q (F0 m pc ls st0) := by
  have hlt : k < ws.length := (List.getElem?_eq_some_iff.mp hk).1
  refine mu_v (w := [(q, en)]) (wr := ws.eraseIdx k) hr (wp_pm (pm_at hk) hP) (wd_pm (pm_at hk) hD) hS hA (fun u H1 locs1 hp hP1 hD1 hS1 => ?_)
  exact kk u H1 locs1 hp (wp_pm (pm_set _ hlt) hP1) (wd_pm (pm_set _ hlt) hD1) hS1
end UQ1
