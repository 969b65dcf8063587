/-! Calls of methods that write: the caller's rows. -/
/-- what a Replay's fields and arrays hold, as one value -/
abbrev rs_T : Type := (Nat → Int32) × (Nat → Int64) × (Nat → Nat → Int32) × (Nat → Int32) × (Nat → Int32) × Int32 × (Nat → Int32) × (Nat → Int32) × Int32
def wq_ (cA : Nat → ClassId) (ad : Nat → Nat) (u : rs_T) : va_W := wR cA ad u.1 u.2.1 u.2.2.1 u.2.2.2.1 u.2.2.2.2.1 u.2.2.2.2.2.1 u.2.2.2.2.2.2.1 u.2.2.2.2.2.2.2.1 u.2.2.2.2.2.2.2.2
def cq_ (m : me_T) (u : rs_T) : Prop := cr_ m u.1 u.2.1 u.2.2.1 u.2.2.2.1 u.2.2.2.2.1 u.2.2.2.2.2.1 u.2.2.2.2.2.2.1 u.2.2.2.2.2.2.2.1 u.2.2.2.2.2.2.2.2
/-- the memory with another row; with one more element; with a node under another -/
def mr_ (m : me_T) (r : Nat) (L : List Int32) : me_T := (m.1, m.2.1, va_up (m_r m) r L, m.2.2.2)
def me_ (m : me_T) (n : Int32) : me_T := (m.1, m.2.1, m.2.2.1, m_e m ++ [n], m.2.2.2.2)
def mp_ (m : me_T) (x p : Int32) : me_T := (m.1, m.2.1, m.2.2.1, m.2.2.2.1, m_n m, upI_ (m_p m) x p)
/-- a world that is written, beside one that is only read -/
def pq_ (D : va_G) (cA : Nat → ClassId) (w wr : va_W) (sz : Nat) : State → Prop := fun U => U.heap.size = sz ∧ va_P D cls_ (w ++ wr) U.heap ∧ kk_ D cA U ∧ va_D (fun _ => True) (w ++ wr)
theorem pq_blind {D : va_G} {cA : Nat → ClassId} {w wr : va_W} {sz : Nat} {av : List Value} : FrameBlind (va_Pc av (pq_ D cA w wr sz)) := fun a U g mk q => ⟨q.1, q.2.1, q.2.2.1, kk_call g mk a q.2.2.2.1, q.2.2.2.2⟩
theorem pv_q {s : State} {H : Heap} {D : va_G} {cA : Nat → ClassId} {w wr : va_W} {A : Nat → Prop} {C : String} {b : Nat} {As : List Value} (hrec : ∃ cell : Cell, H[b]? = some cell ∧ cell.vm.isStatics = false ∧ s.vm.findClass C = some cell.cls) (hP : va_P D cls_ (w ++ wr) H) (hK : va_K D cls_ (tl_ cA) s) (hN : nx_ s) (hD : va_D A (w ++ wr)) : PreV s H C b (va_Pc (.ref b :: As) (pq_ D cA w wr H.size)) As :=
  ⟨pq_blind, hrec, fun U hU hW => ⟨rfl, by rw [hU], by rw [hU]; exact hP, kk_warm hW ⟨hK, hN⟩, hD.weaken (fun _ _ _ _ => trivial)⟩⟩
theorem ra_ {D : va_G} {cl : List vw_C} {B : Nat → Prop} {w wr : va_W} {H : Heap} (hP : va_P D cl (w ++ wr) H) (hD : va_D B (w ++ wr)) : ∀ q, q ∈ wr → ¬ va_A w H.size q.1 := by
  rintro q hq (⟨k, e, hk⟩ | h)
  · exact wd_ne hD (List.mem_of_getElem? hk) hq rfl
  · have := (wp_iff.mp hP q (List.mem_append_right _ hq)).lt
    omega
section UQ0
variable {p : Program} {l : Launch} {e : Env} {R : Room} {s : State} {m : MethodId} {args : Array Value} {below : List Frame} {meth : Method} {c : Code} {H H0 : Heap} {locs : List Loc} {cells slots mc ms : Nat} {Q : State → Prop}
variable {pc : Nat} {ls : Array Slot} {rest st0 : List Value} {a : Array Value} {A0 : Nat → Prop} {D : va_G} {w : va_W}
theorem mu0_i {S : Type} {post : Int32 → S → Prop} {w' : S → va_W} (hr : va_Run p l e R s m args below meth c H locs cells slots mc ms (F0 m pc ls st0) rest (va_Qi post (bw_ D (va_A w H.size) w') (va_A w H.size) a) (va_A w H.size)) (hP : va_P D cls_ w H) (hD : va_D A0 w) (hS : va_S A0 H0 H locs) (hA : ∀ q, H0.size ≤ q → A0 q)
    (kk : ∀ (r : Int32) (u : S) (H1 : Heap) (locs1 : List Loc), post r u → va_P D cls_ (w' u) H1 → va_D A0 (w' u) → va_S A0 H0 H1 locs1 → W p l e R s m args below meth c H1 locs1 (cells + mc) (slots + ms) Q (F0 m (pc + 3) ls (.int r :: rest))) : W p l e R s m args below meth c H locs cells slots Q (F0 m pc ls st0) :=
  mu_i (wr := []) hr (by rw [List.append_nil]; exact hP) (by rw [List.append_nil]; exact hD) hS hA (fun r u H1 locs1 hp hP1 hD1 hS1 => kk r u H1 locs1 hp (by rw [List.append_nil] at hP1; exact hP1) (by rw [List.append_nil] at hD1; exact hD1) hS1)
theorem mu0_v {S : Type} {post : S → Prop} {w' : S → va_W} (hr : va_Run p l e R s m args below meth c H locs cells slots mc ms (F0 m pc ls st0) rest (va_Qv post (bw_ D (va_A w H.size) w') (va_A w H.size) a) (va_A w H.size)) (hP : va_P D cls_ w H) (hD : va_D A0 w) (hS : va_S A0 H0 H locs) (hA : ∀ q, H0.size ≤ q → A0 q)
    (kk : ∀ (u : S) (H1 : Heap) (locs1 : List Loc), post u → va_P D cls_ (w' u) H1 → va_D A0 (w' u) → va_S A0 H0 H1 locs1 → W p l e R s m args below meth c H1 locs1 (cells + mc) (slots + ms) Q (F0 m (pc + 3) ls rest)) : W p l e R s m args below meth c H locs cells slots Q (F0 m pc ls st0) :=
  mu_v (wr := []) hr (by rw [List.append_nil]; exact hP) (by rw [List.append_nil]; exact hD) hS hA (fun u H1 locs1 hp hP1 hD1 hS1 => kk u H1 locs1 hp (by rw [List.append_nil] at hP1; exact hP1) (by rw [List.append_nil] at hD1; exact hD1) hS1)
end UQ0
/-- a row changes in the arrays as it does in the memory -/
theorem cr_row {m : me_T} {ce : Nat → Int32} {co : Nat → Int64} {rw : Nat → Nat → Int32} {le el : Nat → Int32} {ec : Int32} {nd pa : Nat → Int32} {nc : Int32} (hc : cr_ m ce co rw le el ec nd pa nc) {r : Nat} {f : Nat → Int32} {L : List Int32} (hf : rl_ f L) : cr_ (mr_ m r L) ce co (va_up rw r f) (upd le r (nI L.length)) el ec nd pa nc := by
  obtain ⟨h1, h2, h3, h4, h5, h6, h7, h8⟩ := hc
  refine ⟨h1, h2, fun q hq => ?_, h4, h5, h6, h7, h8⟩
  show upd le r (nI L.length) q = nI (va_up (m_r m) r L q).length ∧ rl_ (va_up rw r f q) (va_up (m_r m) r L q)
  by_cases h : q = r
  · subst h
    rw [vu_eq, vu_eq, pk_us]
    exact ⟨rfl, hf⟩
  · rw [vu_ne h, vu_ne h, pk_un h]
    exact h3 q hq
