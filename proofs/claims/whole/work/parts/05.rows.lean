/-! How a caller and a callee share a world; rows that the kit has not. -/
-- the words that are carried by hand, since a call's words can't: fields of nest mates, array classes over classes
def ne_ (w : Cond) : Bool := match w with
  | .fieldLinkNest .. => true
  | _ => false
theorem ne_all : ∀ w, w ∈ NW_ → ne_ w = true := fun w hw => List.all_eq_true.mp (show NW_.all ne_ = true from rfl) w hw
theorem ne_warm {w : Cond} (h : ne_ w = true) {s U : State} (hW : s.WarmedH U.vm) (hZ : va_Nw w s) : va_Nw w U := by
  cases w <;> first | exact va_Nw.warmF hW hZ | (simp [ne_] at h; done)
theorem ne_on {w : Cond} (h : ne_ w = true) : w.onTables = true := by
  cases w <;> first | rfl | (simp [ne_] at h; done)
def nx_ (U : State) : Prop := (∀ w, w ∈ NW_ → va_Nw w U) ∧ va_AO RS U ∧ va_AOA .int U
theorem nx_warm {s U : State} (hW : s.WarmedH U.vm) (h : nx_ s) : nx_ U := ⟨fun w hw => ne_warm (ne_all w hw) hW (h.1 w hw), h.2.1.moved hW.alike, h.2.2.moved hW.alike⟩
theorem nx_same {u U : State} (hvm : u.vm = U.vm) (h : nx_ u) : nx_ U := ⟨fun w hw => (h.1 w hw).same (ne_on (ne_all w hw)) hvm, h.2.1.moved (hvm ▸ Vm.Alike.refl u.vm), h.2.2.moved (hvm ▸ Vm.Alike.refl u.vm)⟩
/-- the array classes: of int, long, int[], Step, boolean -/
abbrev tl_ (cA : Nat → ClassId) : List (ClassId × FieldType) := [(cA 0, .int), (cA 1, .long), (cA 2, .array .int), (cA 3, .object RS), (cA 4, .boolean)]
def kk_ (D : va_G) (cA : Nat → ClassId) (U : State) : Prop := va_K D cls_ (tl_ cA) U ∧ nx_ U
theorem kk_warm {D : va_G} {cA : Nat → ClassId} {s U : State} (hW : s.WarmedH U.vm) (h : kk_ D cA s) : kk_ D cA U := ⟨va_K.moved hW.alike h.1, nx_warm hW h.2⟩
theorem kk_call {D : va_G} {cA : Nat → ClassId} {U : State} (g : JFrame) (mk : MethodId) (a : Array Value) (h : kk_ D cA U) : kk_ D cA (U.calling g mk a) := ⟨va_K.moved (u := U) (U := U.calling g mk a) (Vm.Alike.refl U.vm) h.1, nx_same (u := U) (U := U.calling g mk a) rfl h.2⟩
def pr_ (D : va_G) (cA : Nat → ClassId) (w : va_W) : State → Prop := fun U => va_P D cls_ w U.heap ∧ kk_ D cA U
def pm_ (D : va_G) (cA : Nat → ClassId) (w : va_W) (sz : Nat) : State → Prop := fun U => U.heap.size = sz ∧ va_P D cls_ w U.heap ∧ kk_ D cA U ∧ va_D (fun _ => True) w
def bw_ {S : Type} (D : va_G) (A : Nat → Prop) (w : S → va_W) : S → State → Prop := fun u t => va_P D cls_ (w u) t.heap ∧ va_D A (w u)
theorem pr_blind {D : va_G} {cA : Nat → ClassId} {w : va_W} {av : List Value} : FrameBlind (va_Pc av (pr_ D cA w)) := fun a U g mk q => ⟨q.1, q.2.1, kk_call g mk a q.2.2⟩
theorem pm_blind {D : va_G} {cA : Nat → ClassId} {w : va_W} {sz : Nat} {av : List Value} : FrameBlind (va_Pc av (pm_ D cA w sz)) := fun a U g mk q => ⟨q.1, q.2.1, q.2.2.1, kk_call g mk a q.2.2.2.1, q.2.2.2.2⟩
theorem pv_r {s : State} {H : Heap} {D : va_G} {cA : Nat → ClassId} {w : va_W} {C : String} {b : Nat} {As : List Value} (hrec : ∃ cell : Cell, H[b]? = some cell ∧ cell.vm.isStatics = false ∧ s.vm.findClass C = some cell.cls) (hP : va_P D cls_ w H) (hK : va_K D cls_ (tl_ cA) s) (hN : nx_ s) : PreV s H C b (va_Pc (.ref b :: As) (pr_ D cA w)) As :=
  ⟨pr_blind, hrec, fun U hU hW => ⟨rfl, by rw [hU]; exact hP, kk_warm hW ⟨hK, hN⟩⟩⟩
theorem ps_r {s : State} {H : Heap} {D : va_G} {cA : Nat → ClassId} {w : va_W} {As : List Value} (hP : va_P D cls_ w H) (hK : va_K D cls_ (tl_ cA) s) (hN : nx_ s) : PreS s H (va_Pc As (pr_ D cA w)) As :=
  ⟨pr_blind, fun U hU hW => ⟨rfl, by rw [hU]; exact hP, kk_warm hW ⟨hK, hN⟩⟩⟩
theorem pv_m {s : State} {H : Heap} {D : va_G} {cA : Nat → ClassId} {w : va_W} {A : Nat → Prop} {C : String} {b : Nat} {As : List Value} (hrec : ∃ cell : Cell, H[b]? = some cell ∧ cell.vm.isStatics = false ∧ s.vm.findClass C = some cell.cls) (hP : va_P D cls_ w H) (hK : va_K D cls_ (tl_ cA) s) (hN : nx_ s) (hD : va_D A w) : PreV s H C b (va_Pc (.ref b :: As) (pm_ D cA w H.size)) As :=
  ⟨pm_blind, hrec, fun U hU hW => ⟨rfl, by rw [hU], by rw [hU]; exact hP, kk_warm hW ⟨hK, hN⟩, hD.weaken (fun _ _ _ _ => trivial)⟩⟩
theorem ps_m {s : State} {H : Heap} {D : va_G} {cA : Nat → ClassId} {w : va_W} {A : Nat → Prop} {As : List Value} (hP : va_P D cls_ w H) (hK : va_K D cls_ (tl_ cA) s) (hN : nx_ s) (hD : va_D A w) : PreS s H (va_Pc As (pm_ D cA w H.size)) As :=
  ⟨pm_blind, fun U hU hW => ⟨rfl, by rw [hU], by rw [hU]; exact hP, kk_warm hW ⟨hK, hN⟩, hD.weaken (fun _ _ _ _ => trivial)⟩⟩
/-- what is only read stays, while the rest is written -/
theorem rk_ {D : va_G} {cl : List vw_C} {A : Nat → Prop} {wr : va_W} {H0 H : Heap} {locs : List Loc} (hR : va_P D cl wr H0) (hn : ∀ q, q ∈ wr → ¬ A q.1) (hS : va_S A H0 H locs) : va_P D cl wr H := va_P.kept hR fun k q hq => hS.2.1 q.1 ((hR k q hq).lt) (hn q (List.mem_of_getElem? hq))
theorem inc_ (i : Nat) : nI i + Int32.ofInt 1 = nI (i + 1) := nI_1 i
theorem dec_ (i : Nat) : nI (i + 1) + Int32.ofInt (-1) = nI i := pk_m1 i
-- worlds as sets of cells
theorem wp_iff {D : va_G} {cl : List vw_C} {ws : va_W} {H : Heap} : va_P D cl ws H ↔ ∀ q, q ∈ ws → va_at D cl q H :=
  ⟨fun h q hq => by obtain ⟨k, hk⟩ := List.getElem?_of_mem hq; exact h k q hk, fun h k q hk => h q (List.mem_of_getElem? hk)⟩
theorem wd_iff {A : Nat → Prop} {ws : va_W} : va_D A ws ↔ (ws.map (fun q => q.1)).Nodup ∧ ∀ q, q ∈ ws → A q.1 := by
  constructor
  · intro h
    refine ⟨?_, fun q hq => by obtain ⟨k, hk⟩ := List.getElem?_of_mem hq; exact h.2 k q hk⟩
    unfold List.Nodup
    rw [List.pairwise_map, List.pairwise_iff_getElem]
    intro i j hi hj hij heq
    have := h.1 i j ws[i] ws[j] (List.getElem?_eq_getElem hi) (List.getElem?_eq_getElem hj) heq
    omega
  · rintro ⟨h1, h2⟩
    refine ⟨fun i j p q hi hj heq => ?_, fun k q hk => h2 q (List.mem_of_getElem? hk)⟩
    unfold List.Nodup at h1
    rw [List.pairwise_map, List.pairwise_iff_getElem] at h1
    obtain ⟨hi1, rfl⟩ := List.getElem?_eq_some_iff.mp hi
    obtain ⟨hj1, rfl⟩ := List.getElem?_eq_some_iff.mp hj
    rcases Nat.lt_trichotomy i j with h | h | h
    · exact absurd heq (h1 i j hi1 hj1 h)
    · exact h
    · exact absurd heq.symm (h1 j i hj1 hi1 h)
theorem wp_pm {D : va_G} {cl : List vw_C} {ws ws' : va_W} {H : Heap} (h : ws.Perm ws') (hP : va_P D cl ws H) : va_P D cl ws' H := wp_iff.mpr fun q hq => wp_iff.mp hP q (h.mem_iff.mpr hq)
theorem wd_pm {A : Nat → Prop} {ws ws' : va_W} (h : ws.Perm ws') (hD : va_D A ws) : va_D A ws' := wd_iff.mpr ⟨((h.map _).nodup_iff).mp (wd_iff.mp hD).1, fun q hq => (wd_iff.mp hD).2 q (h.mem_iff.mpr hq)⟩
theorem wp_l {D : va_G} {cl : List vw_C} {w wr : va_W} {H : Heap} (hP : va_P D cl (w ++ wr) H) : va_P D cl w H := wp_iff.mpr fun q hq => wp_iff.mp hP q (List.mem_append_left _ hq)
theorem wp_r {D : va_G} {cl : List vw_C} {w wr : va_W} {H : Heap} (hP : va_P D cl (w ++ wr) H) : va_P D cl wr H := wp_iff.mpr fun q hq => wp_iff.mp hP q (List.mem_append_right _ hq)
theorem wd_l {A : Nat → Prop} {w wr : va_W} (hD : va_D A (w ++ wr)) : va_D A w := by
  rw [wd_iff, List.map_append] at hD
  exact wd_iff.mpr ⟨(List.nodup_append.mp hD.1).1, fun q hq => hD.2 q (List.mem_append_left _ hq)⟩
theorem wd_r {A : Nat → Prop} {w wr : va_W} (hD : va_D A (w ++ wr)) : va_D A wr := by
  rw [wd_iff, List.map_append] at hD
  exact wd_iff.mpr ⟨(List.nodup_append.mp hD.1).2.1, fun q hq => hD.2 q (List.mem_append_right _ hq)⟩
theorem wd_ne {A : Nat → Prop} {w wr : va_W} (hD : va_D A (w ++ wr)) {p q : Nat × va_E} (hp : p ∈ w) (hq : q ∈ wr) : p.1 ≠ q.1 := by
  rw [wd_iff, List.map_append] at hD
  exact (List.nodup_append.mp hD.1).2.2 p.1 (List.mem_map.mpr ⟨p, hp, rfl⟩) q.1 (List.mem_map.mpr ⟨q, hq, rfl⟩)
theorem fr_ {A0 : Nat → Prop} {w wr : va_W} {H0 H : Heap} {locs : List Loc} (hD : va_D A0 (w ++ wr)) (hS : va_S A0 H0 H locs) (hA : ∀ q, H0.size ≤ q → A0 q) : ∀ q, va_A w H.size q → A0 q := by
  rintro q (⟨k, e, hk⟩ | h)
  · exact (wd_iff.mp hD).2 (q, e) (List.mem_append_left _ (List.mem_of_getElem? hk))
  · exact hA q (Nat.le_trans hS.1 h)
theorem jn_ {A0 : Nat → Prop} {D : va_G} {cl : List vw_C} {w wr w1 : va_W} {H H1 : Heap} (hP : va_P D cl (w ++ wr) H) (hD : va_D A0 (w ++ wr)) (hk : ∀ q : Nat, q < H.size → ¬ va_A w H.size q → H1[q]? = H[q]?) (hF : ∀ q, va_A w H.size q → A0 q) (hP1 : va_P D cl w1 H1) (hD1 : va_D (va_A w H.size) w1) : va_P D cl (w1 ++ wr) H1 ∧ va_D A0 (w1 ++ wr) := by
  have hlt : ∀ q : Nat × va_E, q ∈ wr → q.1 < H.size := fun q hq => (wp_iff.mp hP q (List.mem_append_right _ hq)).lt
  have hout : ∀ q : Nat × va_E, q ∈ wr → ¬ va_A w H.size q.1 := by
    rintro q hq (⟨k, e, hk⟩ | h)
    · exact wd_ne hD (List.mem_of_getElem? hk) hq rfl
    · have := hlt q hq; omega
  refine ⟨va_P.app hP1 (va_P.kept (wp_r hP) fun k q hq => hk q.1 (hlt q (List.mem_of_getElem? hq)) (hout q (List.mem_of_getElem? hq))), va_D.app (hD1.weaken fun _ _ _ h => hF _ h) (wd_r hD) fun i j p q hp hq heq => ?_⟩
  exact hout q (List.mem_of_getElem? hq) (heq ▸ (wd_iff.mp hD1).2 p (List.mem_of_getElem? hp))
section UQ
variable {p : Program} {l : Launch} {e : Env} {R : Room} {s : State} {m : MethodId} {args : Array Value} {below : List Frame} {meth : Method} {c : Code} {H H0 : Heap} {locs : List Loc} {cells slots mc ms : Nat} {Q : State → Prop}
variable {pc : Nat} {ls : Array Slot} {rest st0 : List Value} {a : Array Value} {A0 : Nat → Prop} {D : va_G} {cl : List vw_C} {w wr : va_W}
theorem mu_i {S : Type} {post : Int32 → S → Prop} {w' : S → va_W} (hr : va_Run p l e R s m args below meth c H locs cells slots mc ms (F0 m pc ls st0) rest (va_Qi post (bw_ D (va_A w H.size) w') (va_A w H.size) a) (va_A w H.size)) (hP : va_P D cls_ (w ++ wr) H) (hD : va_D A0 (w ++ wr)) (hS : va_S A0 H0 H locs) (hA : ∀ q, H0.size ≤ q → A0 q)
    (kk : ∀ (r : Int32) (u : S) (H1 : Heap) (locs1 : List Loc), post r u → va_P D cls_ (w' u ++ wr) H1 → va_D A0 (w' u ++ wr) → va_S A0 H0 H1 locs1 → W p l e R s m args below meth c H1 locs1 (cells + mc) (slots + ms) Q (F0 m (pc + 3) ls (.int r :: rest))) : W p l e R s m args below meth c H locs cells slots Q (F0 m pc ls st0) := by
  have hF := fr_ hD hS hA
  refine va_calli hr hS (fun q _ h => hF q h) hF (fun r u t H1 locs1 ht hvm hp hB hz hk hS1 => ?_)
  obtain ⟨hP1, hD1⟩ := hB
  rw [ht] at hP1
  obtain ⟨hP2, hD2⟩ := jn_ hP hD hk hF hP1 hD1
  exact kk r u H1 locs1 hp hP2 hD2 hS1
theorem mu_v {S : Type} {post : S → Prop} {w' : S → va_W} (hr : va_Run p l e R s m args below meth c H locs cells slots mc ms (F0 m pc ls st0) rest (va_Qv post (bw_ D (va_A w H.size) w') (va_A w H.size) a) (va_A w H.size)) (hP : va_P D cls_ (w ++ wr) H) (hD : va_D A0 (w ++ wr)) (hS : va_S A0 H0 H locs) (hA : ∀ q, H0.size ≤ q → A0 q)
    (kk : ∀ (u : S) (H1 : Heap) (locs1 : List Loc), post u → va_P D cls_ (w' u ++ wr) H1 → va_D A0 (w' u ++ wr) → va_S A0 H0 H1 locs1 → W p l e R s m args below meth c H1 locs1 (cells + mc) (slots + ms) Q (F0 m (pc + 3) ls rest)) : W p l e R s m args below meth c H locs cells slots Q (F0 m pc ls st0) := by
  have hF := fr_ hD hS hA
  refine va_callv hr hS (fun q _ h => hF q h) hF (fun u t H1 locs1 ht hvm hp hB hz hk hS1 => ?_)
  obtain ⟨hP1, hD1⟩ := hB
  rw [ht] at hP1
  obtain ⟨hP2, hD2⟩ := jn_ hP hD hk hF hP1 hD1
  exact kk u H1 locs1 hp hP2 hD2 hS1
theorem mu_l {S : Type} {post : Int64 → S → Prop} {w' : S → va_W} (hr : va_Run p l e R s m args below meth c H locs cells slots mc ms (F0 m pc ls st0) rest (va_Ql post (bw_ D (va_A w H.size) w') (va_A w H.size) a) (va_A w H.size)) (hP : va_P D cls_ (w ++ wr) H) (hD : va_D A0 (w ++ wr)) (hS : va_S A0 H0 H locs) (hA : ∀ q, H0.size ≤ q → A0 q)
    (kk : ∀ (r : Int64) (u : S) (H1 : Heap) (locs1 : List Loc), post r u → va_P D cls_ (w' u ++ wr) H1 → va_D A0 (w' u ++ wr) → va_S A0 H0 H1 locs1 → W p l e R s m args below meth c H1 locs1 (cells + mc) (slots + ms) Q (F0 m (pc + 3) ls (.long r :: rest))) : W p l e R s m args below meth c H locs cells slots Q (F0 m pc ls st0) := by
  have hF := fr_ hD hS hA
  refine va_calll hr hS (fun q _ h => hF q h) hF (fun r u t H1 locs1 ht hvm hp hB hz hk hS1 => ?_)
  obtain ⟨hP1, hD1⟩ := hB
  rw [ht] at hP1
  obtain ⟨hP2, hD2⟩ := jn_ hP hD hk hF hP1 hD1
  exact kk r u H1 locs1 hp hP2 hD2 hS1
theorem mu_r {S : Type} {post : S → Prop} {w' : Nat → S → va_W} (hr : va_Run p l e R s m args below meth c H locs cells slots mc ms (F0 m pc ls st0) rest (va_Qr post (fun u r => bw_ D (va_A w H.size) (w' r) u) (va_A w H.size) a) (va_A w H.size)) (hP : va_P D cls_ (w ++ wr) H) (hD : va_D A0 (w ++ wr)) (hS : va_S A0 H0 H locs) (hA : ∀ q, H0.size ≤ q → A0 q)
    (kk : ∀ (u : S) (r : Nat) (H1 : Heap) (locs1 : List Loc), post u → va_P D cls_ (w' r u ++ wr) H1 → va_D A0 (w' r u ++ wr) → va_S A0 H0 H1 locs1 → W p l e R s m args below meth c H1 locs1 (cells + mc) (slots + ms) Q (F0 m (pc + 3) ls (.ref r :: rest))) : W p l e R s m args below meth c H locs cells slots Q (F0 m pc ls st0) := by
  have hF := fr_ hD hS hA
  refine va_callr hr hS (fun q _ h => hF q h) hF (fun u r t H1 locs1 ht hvm hp hB hz hk hS1 => ?_)
  obtain ⟨hP1, hD1⟩ := hB
  rw [ht] at hP1
  obtain ⟨hP2, hD2⟩ := jn_ hP hD hk hF hP1 hD1
  exact kk u r H1 locs1 hp hP2 hD2 hS1
theorem toi_ {x y : Int32} (h : x = y) (k : W p l e R s m args below meth c H locs cells slots Q (F0 m pc ls (.int y :: rest))) : W p l e R s m args below meth c H locs cells slots Q (F0 m pc ls (.int x :: rest)) := h ▸ k
theorem tol_ {x y : Int64} (h : x = y) (k : W p l e R s m args below meth c H locs cells slots Q (F0 m pc ls (.long y :: rest))) : W p l e R s m args below meth c H locs cells slots Q (F0 m pc ls (.long x :: rest)) := h ▸ k
theorem tov_ {x y : Value} (h : x = y) (k : W p l e R s m args below meth c H locs cells slots Q (F0 m pc ls (y :: rest))) : W p l e R s m args below meth c H locs cells slots Q (F0 m pc ls (x :: rest)) := h ▸ k
/-- aaload of an array of arrays -/
theorem va_aldg {cc : ByteArray} {tys : List (ClassId × FieldType)} {a : Nat} (hexec : p.tables.exec = Jvm.exec) (hb : c.code = cc) (hK : va_K D cl tys s) (hP : va_P D cl w H) (q0 t0 : Nat) {cA : ClassId} {t : FieldType} {n : Nat} {f : Nat → Option Nat} (ha : w[q0]? = some (a, .inl (cA, n, .inr (.inr (.inr (.inr f)))))) (ht : tys[t0]? = some (cA, .array t)) {i : Int32} (hin : vp_in i n) (hdg : decode cc pc = .ok (.aaload, 1))
    (kk : W p l e R s m args below meth c H locs cells slots Q (F0 m (pc + 1) ls (va_rf (f i.toNatClampNeg) :: rest))) : W p l e R s m args below meth c H locs cells slots Q (F0 m pc ls (.int i :: .ref a :: rest)) := by
  have hlt : i.toNatClampNeg < n := Nat.not_le.mp fun q => hin (Or.inr q)
  exact W.aald (v := va_rf (f i.toNatClampNeg)) (ty := .array t) hexec hb (hP q0 _ ha) ((hK.2 t0 _ ht).1 n (fun j => va_rf (f j))) rfl (fun q => by cases q) (by show ¬ (i < 0 ∨ (arrV _ _ _).slots.size ≤ _); rw [arrV_size]; exact hin) (by show (arrV _ _ _).slots[_]? = _; rw [arrV_read _ _ hlt]) rfl rfl hdg kk
end UQ
