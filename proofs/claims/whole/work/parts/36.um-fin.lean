/-! The static array among the premises; how a making call ends. -/
def pz_ (D : va_G) (cA : Nat → ClassId) (w : va_W) (np sz : Nat) : State → Prop := fun U => U.heap.size = sz ∧ va_P D cls_ w U.heap ∧ kk_ D cA U ∧ va_D (fun _ => True) w ∧ va_Z RU "NO_PLACE" "[I" (.ref np) (va_A w sz) U U.heap
theorem pz_blind {D : va_G} {cA : Nat → ClassId} {w : va_W} {np sz : Nat} {av : List Value} : FrameBlind (va_Pc av (pz_ D cA w np sz)) := fun a U g mk q => ⟨q.1, q.2.1, q.2.2.1, kk_call g mk a q.2.2.2.1, q.2.2.2.2.1, va_Z.moved (u := U) (U := U.calling g mk a) (Vm.Alike.refl U.vm) q.2.2.2.2.2⟩
theorem pv_z {s : State} {H : Heap} {D : va_G} {cA : Nat → ClassId} {w : va_W} {np : Nat} {A : Nat → Prop} {C : String} {b : Nat} {As : List Value} (hrec : ∃ cell : Cell, H[b]? = some cell ∧ cell.vm.isStatics = false ∧ s.vm.findClass C = some cell.cls) (hP : va_P D cls_ w H) (hK : va_K D cls_ (tl_ cA) s) (hN : nx_ s) (hD : va_D A w) (hZ : va_Z RU "NO_PLACE" "[I" (.ref np) (va_A w H.size) s H) : PreV s H C b (va_Pc (.ref b :: As) (pz_ D cA w np H.size)) As :=
  ⟨pz_blind, hrec, fun U hU hW => ⟨rfl, by rw [hU], by rw [hU]; exact hP, kk_warm hW ⟨hK, hN⟩, hD.weaken (fun _ _ _ _ => trivial), by rw [hU]; exact hZ.moved hW.alike⟩⟩
theorem mk_fin {cA : Nat → ClassId} {au am at2 : Nat → Nat} {ic : Int32} {sa : Nat → Option Nat} {ip tk : Nat → Int32} {um ut : rs_T} {L : List Nat} {f : Nat → va_E} {hs : Nat → st_T} {ac : Nat → Bool} {n la : Nat} {T : List Int32} (hI : uI_ cA (hs, ac, n, la, T) (am, at2, ic, sa, ip, tk, um, ut, L, f)) (hn : n < 200) (hla : la + 1 < 100000) {x : st_T} (hx : s_n x = nI (la + 1)) (ht : tq_ x) (hic : s_k x = 3 → ic_ hs (s_r x) n < 40) {r : Int32} {u : (Nat → Option Nat) × rs_T × List Nat × (Nat → va_E)}
    (hp : r = (if im_ x (rp_ hs ac n) = true then 0 else nI (la + 1)) ∧ cq_ (at_ x (rp_ hs ac n)) u.2.1 ∧ (im_ x (rp_ hs ac n) = true → ui_ cA hs ac n u.1 u.2.2.1 u.2.2.2) ∧ (im_ x (rp_ hs ac n) = false → ui_ cA (va_up hs n x) (va_up ac n true) (n + 1) u.1 u.2.2.1 u.2.2.2)) :
    r = (put_ (hs, ac, n, la, T) x).1 ∧ uI_ cA (put_ (hs, ac, n, la, T) x).2 (am, at2, ic, u.1, ip, tk, u.2.1, ut, u.2.2.1, u.2.2.2) ∧
    wX cA au (put_ (hs, ac, n, la, T) x).2 (am, at2, ic, u.1, ip, tk, u.2.1, ut, u.2.2.1, u.2.2.2) = wU cA au (am 0) (at2 0) (nI (mk_ (im_ x (rp_ hs ac n)) n)) (nI (mk_ (im_ x (rp_ hs ac n)) la)) ic (nI T.length) u.1 ip tk ++ (wq_ cA am u.2.1 ++ (wq_ cA at2 ut ++ va_pl u.2.2.1 u.2.2.2)) := by
  obtain ⟨h1, h2, h3, h4⟩ := hp
  obtain ⟨hA, hu, hm, hT⟩ := hI
  cases him : im_ x (rp_ hs ac n) with
  | true =>
    have e : put_ (hs, ac, n, la, T) x = (0, (hs, ac, n, la, T)) := by
      unfold put_
      exact if_pos him
    have e2 : at_ x (rp_ hs ac n) = rp_ hs ac n := by
      unfold at_
      rw [if_pos him]
    rw [e]
    rw [e2] at h2
    refine ⟨by rw [h1, if_pos him], ⟨hA, h3 him, h2, hT⟩, rfl⟩
  | false =>
    have e : put_ (hs, ac, n, la, T) x = (nI (la + 1), (va_up hs n x, va_up ac n true, n + 1, la + 1, T)) := by
      unfold put_
      exact if_neg (by change ¬ im_ x (rp_ hs ac n) = true; rw [him]; decide)
    have e2 : at_ x (rp_ hs ac n) = pf_ x (rp_ hs ac n) := by
      unfold at_
      rw [if_neg (by rw [him]; decide)]
    have hok := put_ok (a := (hs, ac, n, la, T)) (x := x) hA hn hla hx ht hic him
    rw [e] at hok ⊢
    rw [e2, ← rp_put him] at h2
    refine ⟨by rw [h1, if_neg (by rw [him]; decide)], ⟨hok, h4 him, h2, hT⟩, rfl⟩
theorem kn_ {a b : Int32} (h : a = b) (hn : ¬ a = b) {p : Prop} : p := absurd h hn
theorem tq_1 {a m : Int32} {v : Int64} {c : Nat} (hc : c < 8) : tq_ (a, 1, nI c, m, v, []) := ⟨Or.inl rfl, fun _ => ⟨c, hc, rfl⟩, fun h => kn_ (show (1 : Int32) = 2 from h) (by decide), fun h => by rcases h with h | h | h; exact kn_ (show (1 : Int32) = 3 from h) (by decide); exact kn_ (show (1 : Int32) = 4 from h) (by decide); exact kn_ (show (1 : Int32) = 5 from h) (by decide), Nat.zero_le _⟩
theorem tq_2 {a m : Int32} {v : Int64} {c : Nat} (hc : c < 4) : tq_ (a, 2, nI c, m, v, []) := ⟨Or.inr (Or.inl rfl), fun h => kn_ (show (2 : Int32) = 1 from h) (by decide), fun _ => ⟨c, hc, rfl⟩, fun h => by rcases h with h | h | h; exact kn_ (show (2 : Int32) = 3 from h) (by decide); exact kn_ (show (2 : Int32) = 4 from h) (by decide); exact kn_ (show (2 : Int32) = 5 from h) (by decide), Nat.zero_le _⟩
theorem tq_3 {a m : Int32} {v : Int64} {c : Nat} {P : List Int32} (hc : c < 3) (hP : P.length ≤ 40) : tq_ (a, 3, nI c, m, v, P) := ⟨Or.inr (Or.inr (Or.inl rfl)), fun h => kn_ (show (3 : Int32) = 1 from h) (by decide), fun h => kn_ (show (3 : Int32) = 2 from h) (by decide), fun _ => ⟨c, hc, rfl⟩, hP⟩
theorem tq_4 {a m : Int32} {v : Int64} {c : Nat} (hc : c < 3) : tq_ (a, 4, nI c, m, v, []) := ⟨Or.inr (Or.inr (Or.inr (Or.inl rfl))), fun h => kn_ (show (4 : Int32) = 1 from h) (by decide), fun h => kn_ (show (4 : Int32) = 2 from h) (by decide), fun _ => ⟨c, hc, rfl⟩, Nat.zero_le _⟩
theorem tq_5 {a m : Int32} {v : Int64} {c : Nat} {P : List Int32} (hc : c < 3) (hP : P.length ≤ 40) : tq_ (a, 5, nI c, m, v, P) := ⟨Or.inr (Or.inr (Or.inr (Or.inr (Or.inl rfl)))), fun h => kn_ (show (5 : Int32) = 1 from h) (by decide), fun h => kn_ (show (5 : Int32) = 2 from h) (by decide), fun _ => ⟨c, hc, rfl⟩, hP⟩
theorem tq_6 {a t m : Int32} {v : Int64} : tq_ (a, 6, t, m, v, []) := ⟨Or.inr (Or.inr (Or.inr (Or.inr (Or.inr (Or.inl rfl))))), fun h => kn_ (show (6 : Int32) = 1 from h) (by decide), fun h => kn_ (show (6 : Int32) = 2 from h) (by decide), fun h => by rcases h with h | h | h; exact kn_ (show (6 : Int32) = 3 from h) (by decide); exact kn_ (show (6 : Int32) = 4 from h) (by decide); exact kn_ (show (6 : Int32) = 5 from h) (by decide), Nat.zero_le _⟩
theorem tq_7 {a t m : Int32} {v : Int64} : tq_ (a, 7, t, m, v, []) := ⟨Or.inr (Or.inr (Or.inr (Or.inr (Or.inr (Or.inr (Or.inl rfl)))))), fun h => kn_ (show (7 : Int32) = 1 from h) (by decide), fun h => kn_ (show (7 : Int32) = 2 from h) (by decide), fun h => by rcases h with h | h | h; exact kn_ (show (7 : Int32) = 3 from h) (by decide); exact kn_ (show (7 : Int32) = 4 from h) (by decide); exact kn_ (show (7 : Int32) = 5 from h) (by decide), Nat.zero_le _⟩
theorem tq_8 {a t m : Int32} {v : Int64} : tq_ (a, 8, t, m, v, []) := ⟨Or.inr (Or.inr (Or.inr (Or.inr (Or.inr (Or.inr (Or.inr rfl)))))), fun h => kn_ (show (8 : Int32) = 1 from h) (by decide), fun h => kn_ (show (8 : Int32) = 2 from h) (by decide), fun h => by rcases h with h | h | h; exact kn_ (show (8 : Int32) = 3 from h) (by decide); exact kn_ (show (8 : Int32) = 4 from h) (by decide); exact kn_ (show (8 : Int32) = 5 from h) (by decide), Nat.zero_le _⟩
theorem el_row {m : me_T} (hw : mw_ m) {x y : Int32} (h : ¬ sp_elem m x y = 0) : ∃ r i : Nat, r < 3 ∧ x = nI r ∧ i < (m_r m r).length ∧ y = nI i ∧ sp_elem m x y ∈ m_r m r := by
  unfold sp_elem at h ⊢
  by_cases hc : inx_ x 3 = true ∧ inx_ y (m_r m x.toNatClampNeg).length = true
  · rw [if_pos hc] at h ⊢
    obtain ⟨r, hr, rfl⟩ := inx_n hc.1
    have hcl : (nI r).toNatClampNeg = r := nI_clamp (by omega)
    rw [hcl] at hc h ⊢
    obtain ⟨i, hi, rfl⟩ := inx_n hc.2
    have := hw.1 r hr
    have hci : (nI i).toNatClampNeg = i := nI_clamp (by omega)
    rw [hci]
    refine ⟨r, i, hr, rfl, hi, rfl, ?_⟩
    rw [List.getD_eq_getElem?_getD, List.getElem?_eq_getElem hi]
    exact List.getElem_mem hi
  · rw [if_neg hc] at h
    exact absurd rfl h
