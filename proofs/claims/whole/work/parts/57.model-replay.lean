/-! The reference: replay, recall -/
/-- the first of them, or NONE -/
def bo_ (l : List Nat) : Int32 := match l with
  | [] => -1
  | j :: _ => nI j
theorem bo_snoc {l : List Nat} {k : Nat} : bo_ (l ++ [k]) = if l = [] then nI k else bo_ l := by
  cases l <;> rfl
theorem bo_neg {l : List Nat} (h : ∀ j, j ∈ l → j < 200) : (bo_ l < 0 ↔ l = []) := by
  cases l with
  | nil => exact ⟨fun _ => rfl, fun _ => by decide⟩
  | cons a t => exact ⟨fun h9 => absurd h9 (nI_pos (by have := h a List.mem_cons_self; omega)), fun h9 => by cases h9⟩

set_option maxHeartbeats 4000000 in
set_option maxRecDepth 100000 in
theorem m_M_replay (l : Launch) (D : va_G) (cA : Nat → ClassId) (sz : Nat) (am : Nat → Nat) (la : Int32) (nu ki th ot : Nat → Int32) (vs : Nat → Int64) (av pl ps : Nat → Int32) (tz : Int32) (ts : Nat → Int32) (fr bk : Int32) (ce : Nat → Int32) (co : Nat → Int64) (ro le dn un : Nat → Int32) (hs : Nat → st_T) (ac : Nat → Bool) (n : Nat) (hmh : mh_ hs ac n nu ki th ot vs av pl ps) (hn : n ≤ 200) (ee : Nat) (wv : Int32) (la9 : Nat) (ac2 : Nat → Bool) (hh : hi_ hs n la9) (hee : ee ≤ n) (hac : ∀ t, t < n → ac2 t = (ac t && !decide (nI t = wv))) : Met l y_M_replay (.code y_M_replay c_M_replay 4 none :: G_) ({ frames := 3, cells := 0, slots := 0, locals := 72 }) (va_Pc [.ref (am 0), .int (nI ee), .int wv] (pm_ D cA (wM cA am (nI n) la nu ki th ot vs av pl ps tz ts fr bk ce co ro le dn un) sz)) (va_Qv (fun (u : mt_T × Int32) => mq_ hs ac2 n ee (rp_ hs ac2 ee) u.1.1 u.1.2.1 u.1.2.2.1 u.1.2.2.2.1 u.1.2.2.2.2.1 u.1.2.2.2.2.2 ∧ u.2 = bo_ (il_ hs ac2 ee)) (bw_ D (va_A (wM cA am (nI n) la nu ki th ot vs av pl ps tz ts fr bk ce co ro le dn un) sz) (fun u => wM cA am (nI n) la nu ki th ot vs av pl ps tz ts 0 u.2 u.1.1 u.1.2.1 u.1.2.2.1 u.1.2.2.2.1 u.1.2.2.2.2.1 u.1.2.2.2.2.2)) (va_A (wM cA am (nI n) la nu ki th ot vs av pl ps tz ts fr bk ce co ro le dn un) sz)) 0 0 (va_A (wM cA am (nI n) la nu ki th ot vs av pl ps tz ts fr bk ce co ro le dn un) sz) := by
  refine Met.ofW (cc := c_M_replay) (maxL := 4) (ret := none) (by decide) rfl ?_
  intro p e s m args below meth c s₁ B hml hv
  obtain ⟨rfl, hsz, hP, ⟨hK, hN⟩, hD0⟩ := hv
  have hx := B.exec
  have hb := B.bytes
  have hr := B.returns
  have hts := atoms_spec (ws := (.code y_M_replay c_M_replay 4 none :: G_)) B.pre
  have hg : ∀ w ∈ G_, w.before ([.ref (am 0), .int (nI ee), .int wv] : List Value).toArray s = true := fun w h => hts w (List.mem_cons_of_mem _ h)
  have hown : s.vm.findClass RM = some m.cls := findClass_of_methodNamed B.named
  have hlocks := B.notSynchronized
  subst hsz
  have hD := hD0.self (sz := s.heap.size)
  generalize hAe : va_A (wM cA am (nI n) la nu ki th ot vs av pl ps tz ts fr bk ce co ro le dn un) s.heap.size = A at hD ⊢
  have hA : ∀ q : Nat, s.heap.size ≤ q → A q := fun q h => by rw [← hAe]; exact Or.inr h
  have hS : va_S A s.heap s.heap [] := va_S.rf
  have hl := lv_entry ([.ref (am 0), .int (nI ee), .int wv]) (n := 4) (Nat.le_of_ble_eq_true rfl)
  rw [lg_entry_eq]
  generalize (lg_sl ([.ref (am 0), .int (nI ee), .int wv]) ++ List.replicate (4 - (lg_sl ([.ref (am 0), .int (nI ee), .int wv])).length) Slot.unset).toArray = ls at hl ⊢
  have hl : lv_has ls 4 [(0, .ref (am 0)), (1, .int (nI ee)), (2, .int wv)] := hl
  have loop98 : ∀ (d i : Nat) (ce : Nat → Int32) (co : Nat → Int64) (ro le dn un : Nat → Int32) (bk : Int32) (H : Heap) (locs : List Loc) (ls : Array Slot), i + d = ee → mq_ hs ac2 n i (rp_ hs ac2 i) ce co ro le dn un → bk = bo_ (il_ hs ac2 i) → va_P D cls_ (wM cA am (nI n) la nu ki th ot vs av pl ps tz ts fr bk ce co ro le dn un) H → va_D A (wM cA am (nI n) la nu ki th ot vs av pl ps tz ts fr bk ce co ro le dn un) → va_S A s.heap H locs → lv_has ls 4 [(3, .int (nI i)), (0, .ref (am 0)), (1, .int (nI ee)), (2, .int wv)] → W p l e (headSpec (.code y_M_replay c_M_replay 4 none :: G_) ({ frames := 3, cells := 0, slots := 0, locals := 72 })).room s m ([.ref (am 0), .int (nI ee), .int wv] : List Value).toArray below meth c H locs 0 0 (MQ below (va_Qv (fun (u : mt_T × Int32) => mq_ hs ac2 n ee (rp_ hs ac2 ee) u.1.1 u.1.2.1 u.1.2.2.1 u.1.2.2.2.1 u.1.2.2.2.2.1 u.1.2.2.2.2.2 ∧ u.2 = bo_ (il_ hs ac2 ee)) (bw_ D A (fun u => wM cA am (nI n) la nu ki th ot vs av pl ps tz ts 0 u.2 u.1.1 u.1.2.1 u.1.2.2.1 u.1.2.2.2.1 u.1.2.2.2.2.1 u.1.2.2.2.2.2)) A) ([.ref (am 0), .int (nI ee), .int wv] : List Value).toArray s 0 0 A) (F0 m 98 ls []) := by
    intro d
    induction d with
    | zero =>
      intro i ce co ro le dn un bk H locs ls hid hq hbk hP hD hS hl
      have hi2 : i = ee := by omega
      subst hi2
      refine lv_iload_n hx hb d_M_replay_98 rfl (lv_at hl 0 rfl) ?_
      refine lv_iload_n hx hb d_M_replay_99 rfl (lv_at hl 2 rfl) ?_
      refine lv_icmp_ge (tgt := 154) hx hb d_M_replay_100 (by decide) (fun h100 => ?_) (fun h100 => ?_)
      · skip
        refine lv_aload_n hx hb d_M_replay_154 rfl (lv_at hl 1 rfl) ?_
        refine lv_iconst (v := 0) hx hb d_M_replay_155 (by decide) ?_
        refine va_put (D := D) (ci := 3) (v := .int 0) (ty := .boolean) (C := RM) (T := TM) (N := 20) hx hb hg inM tyM okM nmM hown hK hP hD hS 0 rfl rfl 12 (by decide) (hg _ fl_M_39) (fun _ h9 => h9) rfl (by decide +kernel) rfl rfl (Nat.le_of_ble_eq_true rfl) d_M_replay_156 (fun H locs hP hD hS => ?_)
        have hP : va_P D cls_ (wM cA am (nI n) la nu ki th ot vs av pl ps tz ts 0 bk ce co ro le dn un) H := hP
        have hD : va_D A (wM cA am (nI n) la nu ki th ot vs av pl ps tz ts 0 bk ce co ro le dn un) := hD
        exact W.vret hx hb hr (fun t ht hW => ⟨⟨((ce, co, ro, le, dn, un), bk), rfl, ⟨hq, hbk⟩, by rw [ht]; exact hP, hD⟩, hS.F ht⟩) hS.2.2 d_M_replay_159
      · skip
        exact absurd (Int32.le_refl _) h100
    | succ d ih =>
      intro i ce co ro le dn un bk H locs ls hid hq hbk hP hD hS hl
      have hin : i < n := by omega
      have hmi := hmh i hin
      have hacn := hac i hin
      have hilt : ∀ j, j ∈ il_ hs ac2 i → j < 200 := fun j hj => by have := il_lt hj; omega
      refine lv_iload_n hx hb d_M_replay_98 rfl (lv_at hl 0 rfl) ?_
      refine lv_iload_n hx hb d_M_replay_99 rfl (lv_at hl 2 rfl) ?_
      refine lv_icmp_ge (tgt := 154) hx hb d_M_replay_100 (by decide) (fun h100 => ?_) (fun h100 => ?_)
      · skip
        exact absurd h100 (nI_ge (by omega) (by omega))
      · skip
        refine lv_aload_n hx hb d_M_replay_103 rfl (lv_at hl 1 rfl) ?_
        refine va_get (D := D) (ci := 3) (v := .ref (am 6)) (C := RM) (T := TM) (N := 20) hx hb hg inM hown hK hP 0 rfl rfl 7 (by decide) (hg _ fl_M_26) (fun _ h9 => h9) rfl d_M_replay_104 ?_
        refine lv_iload_n hx hb d_M_replay_107 rfl (lv_at hl 0 rfl) ?_
        refine va_zald hx hb hK hP 6 4 rfl rfl (vp_in_nI (n := i) (N := 200) (by omega) (by omega)) d_M_replay_108 ?_
        refine toi_ (y := av i) (by rw [nI_clamp (by omega)]) ?_
        refine toi_ (y := b2_ (ac i)) (hmi.2.2.2.2.2.1) ?_
        refine lv_if_eq (tgt := 148) hx hb d_M_replay_109 (by decide) (fun h109 => ?_) (fun h109 => ?_)
        · skip
          have hq9 := b2_0.mp h109
          have hof : ac2 i = false := by rw [hacn, hq9, Bool.false_and]
          have hsk : ¬ (ac2 i = true ∧ im_ (hs i) (rp_ hs ac2 i) = false) := fun h => by rw [hof] at h; exact absurd h.1 (by decide)
          have his : il_ hs ac2 (i + 1) = il_ hs ac2 i := by rw [il_s, hof]; rfl
          refine lv_iinc (k := 0) (v := nI (i + 1)) (lv' := [(3, .int (nI (i + 1))), (0, .ref (am 0)), (1, .int (nI ee)), (2, .int wv)]) hx hb d_M_replay_148 hl rfl (inc_ _) (by decide) rfl (fun ls hl => ?_)
          refine lv_goto (tgt := 98) hx hb d_M_replay_151 (by decide) ?_
          have hl := lv_sub hl [0, 1, 2, 3] (l' := [(3, .int (nI (i + 1))), (0, .ref (am 0)), (1, .int (nI ee)), (2, .int wv)]) rfl
          exact ih (i + 1) ce co ro le dn un bk H locs ls (by omega) (mq_skip hq hsk) (by first | exact hbk2 | (rw [his]; exact hbk)) hP hD hS hl
        · skip
          have hq9 := b2_n.mp h109
          refine lv_iload_n hx hb d_M_replay_112 rfl (lv_at hl 0 rfl) ?_
          refine lv_iload_n hx hb d_M_replay_113 rfl (lv_at hl 3 rfl) ?_
          refine lv_icmp_ne (tgt := 120) hx hb d_M_replay_114 (by decide) (fun h114 => ?_) (fun h114 => ?_)
          · skip
            have hac2 : ac2 i = true := by rw [hacn, hq9, decide_eq_false h114]; rfl
            refine lv_aload_n hx hb d_M_replay_120 rfl (lv_at hl 1 rfl) ?_
            refine lv_iload_n hx hb d_M_replay_121 rfl (lv_at hl 0 rfl) ?_
            refine vp_callSi (va_Run.run (va_runV (C := RM) (As := [.int (nI i)]) (rest := []) ⟨hx, hb, hml, hown, hg⟩ (m_M_isImpossible l D cA am la nu ki th ot vs av pl ps tz ts fr bk ce co ro le dn un hs ac n hmh hn i la9 ac2 hh hin hq) (cwV 1 hg (gd_V ml_M_99 im_M_isImpossible sl_M_isImpossible ini_M cd_M_isImpossible) rfl rfl rfl (by decide +kernel) ⟨Nat.le_of_ble_eq_true rfl, Nat.le_of_ble_eq_true rfl⟩) (pv_r (va_recv (q0 := 0) (ci := 3) hK hP rfl rfl) (hP) hK hN) rfl rfl hl.1 rfl (lv_room (Nat.le_of_ble_eq_true rfl)) d_M_replay_122 ⟨Nat.zero_le _, Nat.zero_le _⟩)) (fun r122 e122 => ?_)
            subst e122
            refine lv_if_ne (tgt := 136) hx hb d_M_replay_125 (by decide) (fun h125 => ?_) (fun h125 => ?_)
            · skip
              have him := b2_n.mp h125
              have hsk : ¬ (ac2 i = true ∧ im_ (hs i) (rp_ hs ac2 i) = false) := fun h => by rw [him] at h; exact absurd h.2 (by decide)
              have his : il_ hs ac2 (i + 1) = il_ hs ac2 i ++ [i] := by rw [il_s, hac2, him]; rfl
              refine lv_aload_n hx hb d_M_replay_136 rfl (lv_at hl 1 rfl) ?_
              refine va_get (D := D) (ci := 3) (v := .int bk) (C := RM) (T := TM) (N := 20) hx hb hg inM hown hK hP 0 rfl rfl 13 (by decide) (hg _ fl_M_43) (fun _ h9 => h9) rfl d_M_replay_137 ?_
              refine lv_if_ge (tgt := 148) hx hb d_M_replay_140 (by decide) (fun h140 => ?_) (fun h140 => ?_)
              · skip
                have hne : ¬ il_ hs ac2 i = [] := fun h => by rw [hbk, h] at h140; exact absurd h140 (by decide)
                have hbk2 : bk = bo_ (il_ hs ac2 (i + 1)) := by rw [his, bo_snoc, if_neg hne]; exact hbk
                refine lv_iinc (k := 0) (v := nI (i + 1)) (lv' := [(3, .int (nI (i + 1))), (0, .ref (am 0)), (1, .int (nI ee)), (2, .int wv)]) hx hb d_M_replay_148 hl rfl (inc_ _) (by decide) rfl (fun ls hl => ?_)
                refine lv_goto (tgt := 98) hx hb d_M_replay_151 (by decide) ?_
                have hl := lv_sub hl [0, 1, 2, 3] (l' := [(3, .int (nI (i + 1))), (0, .ref (am 0)), (1, .int (nI ee)), (2, .int wv)]) rfl
                exact ih (i + 1) ce co ro le dn un bk H locs ls (by omega) (mq_skip hq hsk) (by first | exact hbk2 | (rw [his]; exact hbk)) hP hD hS hl
              · skip
                have hne : il_ hs ac2 i = [] := by
                  refine (bo_neg hilt).mp ?_
                  rw [← hbk, Int32.lt_iff_toInt_lt]
                  rw [Int32.le_iff_toInt_le] at h140
                  omega
                have hbk2 : nI i = bo_ (il_ hs ac2 (i + 1)) := by rw [his, bo_snoc, if_pos hne]
                refine lv_aload_n hx hb d_M_replay_143 rfl (lv_at hl 1 rfl) ?_
                refine lv_iload_n hx hb d_M_replay_144 rfl (lv_at hl 0 rfl) ?_
                refine va_put (D := D) (ci := 3) (v := .int (nI i)) (ty := .int) (C := RM) (T := TM) (N := 20) hx hb hg inM tyM okM nmM hown hK hP hD hS 0 rfl rfl 13 (by decide) (hg _ fl_M_43) (fun _ h9 => h9) rfl (by decide +kernel) rfl rfl (Nat.le_of_ble_eq_true rfl) d_M_replay_145 (fun H locs hP hD hS => ?_)
                have hP : va_P D cls_ (wM cA am (nI n) la nu ki th ot vs av pl ps tz ts fr (nI i) ce co ro le dn un) H := hP
                have hD : va_D A (wM cA am (nI n) la nu ki th ot vs av pl ps tz ts fr (nI i) ce co ro le dn un) := hD
                refine lv_iinc (k := 0) (v := nI (i + 1)) (lv' := [(3, .int (nI (i + 1))), (0, .ref (am 0)), (1, .int (nI ee)), (2, .int wv)]) hx hb d_M_replay_148 hl rfl (inc_ _) (by decide) rfl (fun ls hl => ?_)
                refine lv_goto (tgt := 98) hx hb d_M_replay_151 (by decide) ?_
                have hl := lv_sub hl [0, 1, 2, 3] (l' := [(3, .int (nI (i + 1))), (0, .ref (am 0)), (1, .int (nI ee)), (2, .int wv)]) rfl
                exact ih (i + 1) ce co ro le dn un (nI i) H locs ls (by omega) (mq_skip hq hsk) (by first | exact hbk2 | (rw [his]; exact hbk)) hP hD hS hl
            · skip
              have him := b2_0.mp h125
              have his : il_ hs ac2 (i + 1) = il_ hs ac2 i := by rw [il_s, him, Bool.and_false]; rfl
              refine lv_aload_n hx hb d_M_replay_128 rfl (lv_at hl 1 rfl) ?_
              refine lv_iload_n hx hb d_M_replay_129 rfl (lv_at hl 0 rfl) ?_
              refine mu0_v (w := (wM cA am (nI n) la nu ki th ot vs av pl ps tz ts fr bk ce co ro le dn un)) (va_runV (C := RM) (As := [.int (nI i)]) (rest := []) ⟨hx, hb, hml, hown, hg⟩ (m_M_perform l D cA H.size am la nu ki th ot vs av pl ps tz ts fr bk ce co ro le dn un hs ac n hmh hn i la9 ac2 hh hin hq hac2 him) (cwV 1 hg (gd_V ml_M_102 im_M_perform sl_M_perform ini_M cd_M_perform) rfl rfl rfl (by decide +kernel) ⟨Nat.le_of_ble_eq_true rfl, Nat.le_of_ble_eq_true rfl⟩) (pv_m (va_recv (q0 := 0) (ci := 3) hK hP rfl rfl) hP hK hN hD) rfl rfl hl.1 rfl (lv_room (Nat.le_of_ble_eq_true rfl)) d_M_replay_130 ⟨Nat.zero_le _, Nat.zero_le _⟩) hP hD hS hA (fun u H locs hp hP hD hS => ?_)
              obtain ⟨ce2, co2, ro2, le2, dn2, un2⟩ := u
              have hP : va_P D cls_ (wM cA am (nI n) la nu ki th ot vs av pl ps tz ts fr bk ce2 co2 ro2 le2 dn2 un2) H := hP
              have hD : va_D A (wM cA am (nI n) la nu ki th ot vs av pl ps tz ts fr bk ce2 co2 ro2 le2 dn2 un2) := hD
              refine lv_goto (tgt := 148) hx hb d_M_replay_133 (by decide) ?_
              refine lv_iinc (k := 0) (v := nI (i + 1)) (lv' := [(3, .int (nI (i + 1))), (0, .ref (am 0)), (1, .int (nI ee)), (2, .int wv)]) hx hb d_M_replay_148 hl rfl (inc_ _) (by decide) rfl (fun ls hl => ?_)
              refine lv_goto (tgt := 98) hx hb d_M_replay_151 (by decide) ?_
              have hl := lv_sub hl [0, 1, 2, 3] (l' := [(3, .int (nI (i + 1))), (0, .ref (am 0)), (1, .int (nI ee)), (2, .int wv)]) rfl
              exact ih (i + 1) ce2 co2 ro2 le2 dn2 un2 bk H locs ls (by omega) (hp) (by first | exact hbk2 | (rw [his]; exact hbk)) hP hD hS hl
          · skip
            have hof : ac2 i = false := by rw [hacn, decide_eq_true h114, Bool.not_true, Bool.and_false]
            have hsk : ¬ (ac2 i = true ∧ im_ (hs i) (rp_ hs ac2 i) = false) := fun h => by rw [hof] at h; exact absurd h.1 (by decide)
            have his : il_ hs ac2 (i + 1) = il_ hs ac2 i := by rw [il_s, hof]; rfl
            refine lv_goto (tgt := 148) hx hb d_M_replay_117 (by decide) ?_
            refine lv_iinc (k := 0) (v := nI (i + 1)) (lv' := [(3, .int (nI (i + 1))), (0, .ref (am 0)), (1, .int (nI ee)), (2, .int wv)]) hx hb d_M_replay_148 hl rfl (inc_ _) (by decide) rfl (fun ls hl => ?_)
            refine lv_goto (tgt := 98) hx hb d_M_replay_151 (by decide) ?_
            have hl := lv_sub hl [0, 1, 2, 3] (l' := [(3, .int (nI (i + 1))), (0, .ref (am 0)), (1, .int (nI ee)), (2, .int wv)]) rfl
            exact ih (i + 1) ce co ro le dn un bk H locs ls (by omega) (mq_skip hq hsk) (by first | exact hbk2 | (rw [his]; exact hbk)) hP hD hS hl
  have loop63 : ∀ (d i : Nat) (ce : Nat → Int32) (co : Nat → Int64) (ro le dn un : Nat → Int32) (bk : Int32) (H : Heap) (locs : List Loc) (ls : Array Slot), i + d = n → (∀ j, j < 8 → ce j = 0) → (∀ j, j < 4 → co j = 0) → (∀ j, j < 3 → le j = 0) → (∀ j, j < i → dn j = 0) → va_P D cls_ (wM cA am (nI n) la nu ki th ot vs av pl ps tz ts fr bk ce co ro le dn un) H → va_D A (wM cA am (nI n) la nu ki th ot vs av pl ps tz ts fr bk ce co ro le dn un) → va_S A s.heap H locs → lv_has ls 4 [(3, .int (nI i)), (0, .ref (am 0)), (1, .int (nI ee)), (2, .int wv)] → W p l e (headSpec (.code y_M_replay c_M_replay 4 none :: G_) ({ frames := 3, cells := 0, slots := 0, locals := 72 })).room s m ([.ref (am 0), .int (nI ee), .int wv] : List Value).toArray below meth c H locs 0 0 (MQ below (va_Qv (fun (u : mt_T × Int32) => mq_ hs ac2 n ee (rp_ hs ac2 ee) u.1.1 u.1.2.1 u.1.2.2.1 u.1.2.2.2.1 u.1.2.2.2.2.1 u.1.2.2.2.2.2 ∧ u.2 = bo_ (il_ hs ac2 ee)) (bw_ D A (fun u => wM cA am (nI n) la nu ki th ot vs av pl ps tz ts 0 u.2 u.1.1 u.1.2.1 u.1.2.2.1 u.1.2.2.2.1 u.1.2.2.2.2.1 u.1.2.2.2.2.2)) A) ([.ref (am 0), .int (nI ee), .int wv] : List Value).toArray s 0 0 A) (F0 m 63 ls []) := by
    intro d
    induction d with
    | zero =>
      intro i ce co ro le dn un bk H locs ls hid hz1 hz2 hz3 hz4 hP hD hS hl
      have hi2 : i = n := by omega
      subst hi2
      have e0 : ∀ j, dn_ hs ac2 0 j = false := fun j => by unfold dn_; rw [decide_eq_false (Nat.not_lt_zero j)]; rfl
      have hq0 : mq_ hs ac2 i 0 (rp_ hs ac2 0) ce co ro le dn un := ⟨hz1, hz2, fun r hr3 => ⟨(hz3 r hr3).trans nI_0.symm, fun j hj => absurd hj (Nat.not_lt_zero _)⟩, fun j hj => by rw [e0 j, hz4 j hj]; rfl, fun j hj h1 _ => absurd (dn_s.mp h1).1 (Nat.not_lt_zero _)⟩
      refine lv_iload_n hx hb d_M_replay_63 rfl (lv_at hl 0 rfl) ?_
      refine lv_aload_n hx hb d_M_replay_64 rfl (lv_at hl 1 rfl) ?_
      refine va_get (D := D) (ci := 3) (v := .int (nI i)) (C := RM) (T := TM) (N := 20) hx hb hg inM hown hK hP 0 rfl rfl 0 (by decide) (hg _ fl_M_65) (fun _ h9 => h9) rfl d_M_replay_65 ?_
      refine lv_icmp_ge (tgt := 91) hx hb d_M_replay_68 (by decide) (fun h68 => ?_) (fun h68 => ?_)
      · skip
        refine lv_aload_n hx hb d_M_replay_91 rfl (lv_at hl 1 rfl) ?_
        refine lv_iconst (v := (-1)) hx hb d_M_replay_92 (by decide) ?_
        refine va_put (D := D) (ci := 3) (v := .int (-1)) (ty := .int) (C := RM) (T := TM) (N := 20) hx hb hg inM tyM okM nmM hown hK hP hD hS 0 rfl rfl 13 (by decide) (hg _ fl_M_43) (fun _ h9 => h9) rfl (by decide +kernel) rfl rfl (Nat.le_of_ble_eq_true rfl) d_M_replay_93 (fun H locs hP hD hS => ?_)
        have hP : va_P D cls_ (wM cA am (nI i) la nu ki th ot vs av pl ps tz ts fr (-1) ce co ro le dn un) H := hP
        have hD : va_D A (wM cA am (nI i) la nu ki th ot vs av pl ps tz ts fr (-1) ce co ro le dn un) := hD
        refine lv_iconst (v := 0) hx hb d_M_replay_96 (by decide) ?_
        refine lv_istore_n (lv' := [(3, .int 0), (0, .ref (am 0)), (1, .int (nI ee)), (2, .int wv)]) hx hb d_M_replay_97 rfl hl (by decide) rfl (fun ls hl => ?_)
        have hl := lv_sub hl [0, 1, 2, 3] (l' := [(3, .int (nI 0)), (0, .ref (am 0)), (1, .int (nI ee)), (2, .int wv)]) rfl
        exact loop98 ee 0 ce co ro le dn un (-1) H locs ls (by omega) hq0 rfl hP hD hS hl
      · skip
        exact absurd (Int32.le_refl _) h68
    | succ d ih =>
      intro i ce co ro le dn un bk H locs ls hid hz1 hz2 hz3 hz4 hP hD hS hl
      refine lv_iload_n hx hb d_M_replay_63 rfl (lv_at hl 0 rfl) ?_
      refine lv_aload_n hx hb d_M_replay_64 rfl (lv_at hl 1 rfl) ?_
      refine va_get (D := D) (ci := 3) (v := .int (nI n)) (C := RM) (T := TM) (N := 20) hx hb hg inM hown hK hP 0 rfl rfl 0 (by decide) (hg _ fl_M_65) (fun _ h9 => h9) rfl d_M_replay_65 ?_
      refine lv_icmp_ge (tgt := 91) hx hb d_M_replay_68 (by decide) (fun h68 => ?_) (fun h68 => ?_)
      · skip
        exact absurd h68 (nI_ge (by omega) (by omega))
      · skip
        refine lv_aload_n hx hb d_M_replay_71 rfl (lv_at hl 1 rfl) ?_
        refine va_get (D := D) (ci := 3) (v := .ref (am 14)) (C := RM) (T := TM) (N := 20) hx hb hg inM hown hK hP 0 rfl rfl 18 (by decide) (hg _ fl_M_59) (fun _ h9 => h9) rfl d_M_replay_72 ?_
        refine lv_iload_n hx hb d_M_replay_75 rfl (lv_at hl 0 rfl) ?_
        refine lv_iconst (v := 0) hx hb d_M_replay_76 (by decide) ?_
        refine va_zast hx hb hK hP hD hS 14 4 rfl rfl (vp_in_nI (n := i) (N := 200) (by omega) (by omega)) d_M_replay_77 (fun H locs hP hD hS => ?_)
        rw [nI_clamp (by omega)] at hP hD
        rw [show vp_nar .boolean 0 = 0 from rfl] at hP hD
        have hP : va_P D cls_ (wM cA am (nI n) la nu ki th ot vs av pl ps tz ts fr bk ce co ro le (upd dn i 0) un) H := hP
        have hD : va_D A (wM cA am (nI n) la nu ki th ot vs av pl ps tz ts fr bk ce co ro le (upd dn i 0) un) := hD
        refine lv_aload_n hx hb d_M_replay_78 rfl (lv_at hl 1 rfl) ?_
        refine va_get (D := D) (ci := 3) (v := .ref (am 15)) (C := RM) (T := TM) (N := 20) hx hb hg inM hown hK hP 0 rfl rfl 19 (by decide) (hg _ fl_M_62) (fun _ h9 => h9) rfl d_M_replay_79 ?_
        refine lv_iload_n hx hb d_M_replay_82 rfl (lv_at hl 0 rfl) ?_
        refine lv_iconst (v := (-1)) hx hb d_M_replay_83 (by decide) ?_
        refine va_iast hx hb hK hP hD hS 15 0 rfl rfl (vp_in_nI (n := i) (N := 200) (by omega) (by omega)) d_M_replay_84 (fun H locs hP hD hS => ?_)
        rw [nI_clamp (by omega)] at hP hD
        have hP : va_P D cls_ (wM cA am (nI n) la nu ki th ot vs av pl ps tz ts fr bk ce co ro le (upd dn i 0) (upd un i (-1))) H := hP
        have hD : va_D A (wM cA am (nI n) la nu ki th ot vs av pl ps tz ts fr bk ce co ro le (upd dn i 0) (upd un i (-1))) := hD
        refine lv_iinc (k := 0) (v := nI (i + 1)) (lv' := [(3, .int (nI (i + 1))), (0, .ref (am 0)), (1, .int (nI ee)), (2, .int wv)]) hx hb d_M_replay_85 hl rfl (inc_ _) (by decide) rfl (fun ls hl => ?_)
        refine lv_goto (tgt := 63) hx hb d_M_replay_88 (by decide) ?_
        have hl := lv_sub hl [0, 1, 2, 3] (l' := [(3, .int (nI (i + 1))), (0, .ref (am 0)), (1, .int (nI ee)), (2, .int wv)]) rfl
        exact ih (i + 1) ce co ro le (upd dn i 0) (upd un i (-1)) bk H locs ls (by omega) hz1 hz2 hz3 (fun j hj => by
          by_cases h9 : j = i
          · rw [h9]; exact pk_us
          · exact (pk_un h9).trans (hz4 j (by omega))) hP hD hS hl
  have loop43 : ∀ (d i : Nat) (ce : Nat → Int32) (co : Nat → Int64) (ro le dn un : Nat → Int32) (bk : Int32) (H : Heap) (locs : List Loc) (ls : Array Slot), i + d = 3 → (∀ j, j < 8 → ce j = 0) → (∀ j, j < 4 → co j = 0) → (∀ j, j < i → le j = 0) → va_P D cls_ (wM cA am (nI n) la nu ki th ot vs av pl ps tz ts fr bk ce co ro le dn un) H → va_D A (wM cA am (nI n) la nu ki th ot vs av pl ps tz ts fr bk ce co ro le dn un) → va_S A s.heap H locs → lv_has ls 4 [(3, .int (nI i)), (0, .ref (am 0)), (1, .int (nI ee)), (2, .int wv)] → W p l e (headSpec (.code y_M_replay c_M_replay 4 none :: G_) ({ frames := 3, cells := 0, slots := 0, locals := 72 })).room s m ([.ref (am 0), .int (nI ee), .int wv] : List Value).toArray below meth c H locs 0 0 (MQ below (va_Qv (fun (u : mt_T × Int32) => mq_ hs ac2 n ee (rp_ hs ac2 ee) u.1.1 u.1.2.1 u.1.2.2.1 u.1.2.2.2.1 u.1.2.2.2.2.1 u.1.2.2.2.2.2 ∧ u.2 = bo_ (il_ hs ac2 ee)) (bw_ D A (fun u => wM cA am (nI n) la nu ki th ot vs av pl ps tz ts 0 u.2 u.1.1 u.1.2.1 u.1.2.2.1 u.1.2.2.2.1 u.1.2.2.2.2.1 u.1.2.2.2.2.2)) A) ([.ref (am 0), .int (nI ee), .int wv] : List Value).toArray s 0 0 A) (F0 m 43 ls []) := by
    intro d
    induction d with
    | zero =>
      intro i ce co ro le dn un bk H locs ls hid hz1 hz2 hz3 hP hD hS hl
      have hi2 : i = 3 := by omega
      subst hi2
      refine lv_iload_n hx hb d_M_replay_43 rfl (lv_at hl 0 rfl) ?_
      refine lv_iconst (v := 3) hx hb d_M_replay_44 (by decide) ?_
      refine toi_ (y := nI 3) (rfl) ?_
      refine lv_icmp_ge (tgt := 61) hx hb d_M_replay_45 (by decide) (fun h45 => ?_) (fun h45 => ?_)
      · skip
        refine lv_iconst (v := 0) hx hb d_M_replay_61 (by decide) ?_
        refine lv_istore_n (lv' := [(3, .int 0), (0, .ref (am 0)), (1, .int (nI ee)), (2, .int wv)]) hx hb d_M_replay_62 rfl hl (by decide) rfl (fun ls hl => ?_)
        have hl := lv_sub hl [0, 1, 2, 3] (l' := [(3, .int (nI 0)), (0, .ref (am 0)), (1, .int (nI ee)), (2, .int wv)]) rfl
        exact loop63 n 0 ce co ro le dn un bk H locs ls (by omega) hz1 hz2 hz3 (fun j h => absurd h (Nat.not_lt_zero _)) hP hD hS hl
      · skip
        exact absurd (Int32.le_refl _) h45
    | succ d ih =>
      intro i ce co ro le dn un bk H locs ls hid hz1 hz2 hz3 hP hD hS hl
      refine lv_iload_n hx hb d_M_replay_43 rfl (lv_at hl 0 rfl) ?_
      refine lv_iconst (v := 3) hx hb d_M_replay_44 (by decide) ?_
      refine toi_ (y := nI 3) (rfl) ?_
      refine lv_icmp_ge (tgt := 61) hx hb d_M_replay_45 (by decide) (fun h45 => ?_) (fun h45 => ?_)
      · skip
        exact absurd h45 (nI_ge (by omega) (by omega))
      · skip
        refine lv_aload_n hx hb d_M_replay_48 rfl (lv_at hl 1 rfl) ?_
        refine va_get (D := D) (ci := 3) (v := .ref (am 13)) (C := RM) (T := TM) (N := 20) hx hb hg inM hown hK hP 0 rfl rfl 17 (by decide) (hg _ fl_M_56) (fun _ h9 => h9) rfl d_M_replay_49 ?_
        refine lv_iload_n hx hb d_M_replay_52 rfl (lv_at hl 0 rfl) ?_
        refine lv_iconst (v := 0) hx hb d_M_replay_53 (by decide) ?_
        refine va_iast hx hb hK hP hD hS 13 0 rfl rfl (vp_in_nI (n := i) (N := 3) (by omega) (by omega)) d_M_replay_54 (fun H locs hP hD hS => ?_)
        rw [nI_clamp (by omega)] at hP hD
        have hP : va_P D cls_ (wM cA am (nI n) la nu ki th ot vs av pl ps tz ts fr bk ce co ro (upd le i 0) dn un) H := hP
        have hD : va_D A (wM cA am (nI n) la nu ki th ot vs av pl ps tz ts fr bk ce co ro (upd le i 0) dn un) := hD
        refine lv_iinc (k := 0) (v := nI (i + 1)) (lv' := [(3, .int (nI (i + 1))), (0, .ref (am 0)), (1, .int (nI ee)), (2, .int wv)]) hx hb d_M_replay_55 hl rfl (inc_ _) (by decide) rfl (fun ls hl => ?_)
        refine lv_goto (tgt := 43) hx hb d_M_replay_58 (by decide) ?_
        have hl := lv_sub hl [0, 1, 2, 3] (l' := [(3, .int (nI (i + 1))), (0, .ref (am 0)), (1, .int (nI ee)), (2, .int wv)]) rfl
        exact ih (i + 1) ce co ro (upd le i 0) dn un bk H locs ls (by omega) hz1 hz2 (fun j hj => by
          by_cases h9 : j = i
          · rw [h9]; exact pk_us
          · exact (pk_un h9).trans (hz3 j (by omega))) hP hD hS hl
  have loop23 : ∀ (d i : Nat) (ce : Nat → Int32) (co : Nat → Int64) (ro le dn un : Nat → Int32) (bk : Int32) (H : Heap) (locs : List Loc) (ls : Array Slot), i + d = 4 → (∀ j, j < 8 → ce j = 0) → (∀ j, j < i → co j = 0) → va_P D cls_ (wM cA am (nI n) la nu ki th ot vs av pl ps tz ts fr bk ce co ro le dn un) H → va_D A (wM cA am (nI n) la nu ki th ot vs av pl ps tz ts fr bk ce co ro le dn un) → va_S A s.heap H locs → lv_has ls 4 [(3, .int (nI i)), (0, .ref (am 0)), (1, .int (nI ee)), (2, .int wv)] → W p l e (headSpec (.code y_M_replay c_M_replay 4 none :: G_) ({ frames := 3, cells := 0, slots := 0, locals := 72 })).room s m ([.ref (am 0), .int (nI ee), .int wv] : List Value).toArray below meth c H locs 0 0 (MQ below (va_Qv (fun (u : mt_T × Int32) => mq_ hs ac2 n ee (rp_ hs ac2 ee) u.1.1 u.1.2.1 u.1.2.2.1 u.1.2.2.2.1 u.1.2.2.2.2.1 u.1.2.2.2.2.2 ∧ u.2 = bo_ (il_ hs ac2 ee)) (bw_ D A (fun u => wM cA am (nI n) la nu ki th ot vs av pl ps tz ts 0 u.2 u.1.1 u.1.2.1 u.1.2.2.1 u.1.2.2.2.1 u.1.2.2.2.2.1 u.1.2.2.2.2.2)) A) ([.ref (am 0), .int (nI ee), .int wv] : List Value).toArray s 0 0 A) (F0 m 23 ls []) := by
    intro d
    induction d with
    | zero =>
      intro i ce co ro le dn un bk H locs ls hid hz1 hz2 hP hD hS hl
      have hi2 : i = 4 := by omega
      subst hi2
      refine lv_iload_n hx hb d_M_replay_23 rfl (lv_at hl 0 rfl) ?_
      refine lv_iconst (v := 4) hx hb d_M_replay_24 (by decide) ?_
      refine toi_ (y := nI 4) (rfl) ?_
      refine lv_icmp_ge (tgt := 41) hx hb d_M_replay_25 (by decide) (fun h25 => ?_) (fun h25 => ?_)
      · skip
        refine lv_iconst (v := 0) hx hb d_M_replay_41 (by decide) ?_
        refine lv_istore_n (lv' := [(3, .int 0), (0, .ref (am 0)), (1, .int (nI ee)), (2, .int wv)]) hx hb d_M_replay_42 rfl hl (by decide) rfl (fun ls hl => ?_)
        have hl := lv_sub hl [0, 1, 2, 3] (l' := [(3, .int (nI 0)), (0, .ref (am 0)), (1, .int (nI ee)), (2, .int wv)]) rfl
        exact loop43 3 0 ce co ro le dn un bk H locs ls (by omega) hz1 hz2 (fun j h => absurd h (Nat.not_lt_zero _)) hP hD hS hl
      · skip
        exact absurd (Int32.le_refl _) h25
    | succ d ih =>
      intro i ce co ro le dn un bk H locs ls hid hz1 hz2 hP hD hS hl
      refine lv_iload_n hx hb d_M_replay_23 rfl (lv_at hl 0 rfl) ?_
      refine lv_iconst (v := 4) hx hb d_M_replay_24 (by decide) ?_
      refine toi_ (y := nI 4) (rfl) ?_
      refine lv_icmp_ge (tgt := 41) hx hb d_M_replay_25 (by decide) (fun h25 => ?_) (fun h25 => ?_)
      · skip
        exact absurd h25 (nI_ge (by omega) (by omega))
      · skip
        refine lv_aload_n hx hb d_M_replay_28 rfl (lv_at hl 1 rfl) ?_
        refine va_get (D := D) (ci := 3) (v := .ref (am 11)) (C := RM) (T := TM) (N := 20) hx hb hg inM hown hK hP 0 rfl rfl 15 (by decide) (hg _ fl_M_50) (fun _ h9 => h9) rfl d_M_replay_29 ?_
        refine lv_iload_n hx hb d_M_replay_32 rfl (lv_at hl 0 rfl) ?_
        refine lv_lconst (v := 0) hx hb d_M_replay_33 (by decide) ?_
        refine va_last hx hb hK hP hD hS 11 1 rfl rfl (vp_in_nI (n := i) (N := 4) (by omega) (by omega)) d_M_replay_34 (fun H locs hP hD hS => ?_)
        rw [nI_clamp (by omega)] at hP hD
        have hP : va_P D cls_ (wM cA am (nI n) la nu ki th ot vs av pl ps tz ts fr bk ce (vp_updL co i 0) ro le dn un) H := hP
        have hD : va_D A (wM cA am (nI n) la nu ki th ot vs av pl ps tz ts fr bk ce (vp_updL co i 0) ro le dn un) := hD
        refine lv_iinc (k := 0) (v := nI (i + 1)) (lv' := [(3, .int (nI (i + 1))), (0, .ref (am 0)), (1, .int (nI ee)), (2, .int wv)]) hx hb d_M_replay_35 hl rfl (inc_ _) (by decide) rfl (fun ls hl => ?_)
        refine lv_goto (tgt := 23) hx hb d_M_replay_38 (by decide) ?_
        have hl := lv_sub hl [0, 1, 2, 3] (l' := [(3, .int (nI (i + 1))), (0, .ref (am 0)), (1, .int (nI ee)), (2, .int wv)]) rfl
        exact ih (i + 1) ce (vp_updL co i 0) ro le dn un bk H locs ls (by omega) hz1 (fun j hj => by
          by_cases h9 : j = i
          · rw [h9]; exact pk_uLs
          · exact (pk_uLn h9).trans (hz2 j (by omega))) hP hD hS hl
  have loop2 : ∀ (d i : Nat) (ce : Nat → Int32) (co : Nat → Int64) (ro le dn un : Nat → Int32) (bk : Int32) (H : Heap) (locs : List Loc) (ls : Array Slot), i + d = 8 → (∀ j, j < i → ce j = 0) → va_P D cls_ (wM cA am (nI n) la nu ki th ot vs av pl ps tz ts fr bk ce co ro le dn un) H → va_D A (wM cA am (nI n) la nu ki th ot vs av pl ps tz ts fr bk ce co ro le dn un) → va_S A s.heap H locs → lv_has ls 4 [(3, .int (nI i)), (0, .ref (am 0)), (1, .int (nI ee)), (2, .int wv)] → W p l e (headSpec (.code y_M_replay c_M_replay 4 none :: G_) ({ frames := 3, cells := 0, slots := 0, locals := 72 })).room s m ([.ref (am 0), .int (nI ee), .int wv] : List Value).toArray below meth c H locs 0 0 (MQ below (va_Qv (fun (u : mt_T × Int32) => mq_ hs ac2 n ee (rp_ hs ac2 ee) u.1.1 u.1.2.1 u.1.2.2.1 u.1.2.2.2.1 u.1.2.2.2.2.1 u.1.2.2.2.2.2 ∧ u.2 = bo_ (il_ hs ac2 ee)) (bw_ D A (fun u => wM cA am (nI n) la nu ki th ot vs av pl ps tz ts 0 u.2 u.1.1 u.1.2.1 u.1.2.2.1 u.1.2.2.2.1 u.1.2.2.2.2.1 u.1.2.2.2.2.2)) A) ([.ref (am 0), .int (nI ee), .int wv] : List Value).toArray s 0 0 A) (F0 m 2 ls []) := by
    intro d
    induction d with
    | zero =>
      intro i ce co ro le dn un bk H locs ls hid hz1 hP hD hS hl
      have hi2 : i = 8 := by omega
      subst hi2
      refine lv_iload_n hx hb d_M_replay_2 rfl (lv_at hl 0 rfl) ?_
      refine lv_bipush (v := 8) hx hb d_M_replay_3 (by decide) ?_
      refine toi_ (y := nI 8) (rfl) ?_
      refine lv_icmp_ge (tgt := 21) hx hb d_M_replay_5 (by decide) (fun h5 => ?_) (fun h5 => ?_)
      · skip
        refine lv_iconst (v := 0) hx hb d_M_replay_21 (by decide) ?_
        refine lv_istore_n (lv' := [(3, .int 0), (0, .ref (am 0)), (1, .int (nI ee)), (2, .int wv)]) hx hb d_M_replay_22 rfl hl (by decide) rfl (fun ls hl => ?_)
        have hl := lv_sub hl [0, 1, 2, 3] (l' := [(3, .int (nI 0)), (0, .ref (am 0)), (1, .int (nI ee)), (2, .int wv)]) rfl
        exact loop23 4 0 ce co ro le dn un bk H locs ls (by omega) hz1 (fun j h => absurd h (Nat.not_lt_zero _)) hP hD hS hl
      · skip
        exact absurd (Int32.le_refl _) h5
    | succ d ih =>
      intro i ce co ro le dn un bk H locs ls hid hz1 hP hD hS hl
      refine lv_iload_n hx hb d_M_replay_2 rfl (lv_at hl 0 rfl) ?_
      refine lv_bipush (v := 8) hx hb d_M_replay_3 (by decide) ?_
      refine toi_ (y := nI 8) (rfl) ?_
      refine lv_icmp_ge (tgt := 21) hx hb d_M_replay_5 (by decide) (fun h5 => ?_) (fun h5 => ?_)
      · skip
        exact absurd h5 (nI_ge (by omega) (by omega))
      · skip
        refine lv_aload_n hx hb d_M_replay_8 rfl (lv_at hl 1 rfl) ?_
        refine va_get (D := D) (ci := 3) (v := .ref (am 10)) (C := RM) (T := TM) (N := 20) hx hb hg inM hown hK hP 0 rfl rfl 14 (by decide) (hg _ fl_M_47) (fun _ h9 => h9) rfl d_M_replay_9 ?_
        refine lv_iload_n hx hb d_M_replay_12 rfl (lv_at hl 0 rfl) ?_
        refine lv_iconst (v := 0) hx hb d_M_replay_13 (by decide) ?_
        refine va_iast hx hb hK hP hD hS 10 0 rfl rfl (vp_in_nI (n := i) (N := 8) (by omega) (by omega)) d_M_replay_14 (fun H locs hP hD hS => ?_)
        rw [nI_clamp (by omega)] at hP hD
        have hP : va_P D cls_ (wM cA am (nI n) la nu ki th ot vs av pl ps tz ts fr bk (upd ce i 0) co ro le dn un) H := hP
        have hD : va_D A (wM cA am (nI n) la nu ki th ot vs av pl ps tz ts fr bk (upd ce i 0) co ro le dn un) := hD
        refine lv_iinc (k := 0) (v := nI (i + 1)) (lv' := [(3, .int (nI (i + 1))), (0, .ref (am 0)), (1, .int (nI ee)), (2, .int wv)]) hx hb d_M_replay_15 hl rfl (inc_ _) (by decide) rfl (fun ls hl => ?_)
        refine lv_goto (tgt := 2) hx hb d_M_replay_18 (by decide) ?_
        have hl := lv_sub hl [0, 1, 2, 3] (l' := [(3, .int (nI (i + 1))), (0, .ref (am 0)), (1, .int (nI ee)), (2, .int wv)]) rfl
        exact ih (i + 1) (upd ce i 0) co ro le dn un bk H locs ls (by omega)  (fun j hj => by
          by_cases h9 : j = i
          · rw [h9]; exact pk_us
          · exact (pk_un h9).trans (hz1 j (by omega))) hP hD hS hl
  refine lv_iconst (v := 0) hx hb d_M_replay_0 (by decide) ?_
  refine lv_istore_n (lv' := [(3, .int 0), (0, .ref (am 0)), (1, .int (nI ee)), (2, .int wv)]) hx hb d_M_replay_1 rfl hl (by decide) rfl (fun ls hl => ?_)
  have hl := lv_sub hl [0, 1, 2, 3] (l' := [(3, .int (nI 0)), (0, .ref (am 0)), (1, .int (nI ee)), (2, .int wv)]) rfl
  exact loop2 8 0 ce co ro le dn un bk _ _ ls (by omega) (fun j h => absurd h (Nat.not_lt_zero _)) hP hD hS hl

set_option maxHeartbeats 4000000 in
set_option maxRecDepth 100000 in
theorem m_M_recall (l : Launch) (D : va_G) (cA : Nat → ClassId) (sz : Nat) (am : Nat → Nat) (la : Int32) (nu ki th ot : Nat → Int32) (vs : Nat → Int64) (av pl ps : Nat → Int32) (tz : Int32) (ts : Nat → Int32) (fr bk : Int32) (ce : Nat → Int32) (co : Nat → Int64) (ro le dn un : Nat → Int32) (hs : Nat → st_T) (ac : Nat → Bool) (n : Nat) (hmh : mh_ hs ac n nu ki th ot vs av pl ps) (hn : n ≤ 200) (la9 : Nat) (hh : hi_ hs n la9) (hfr : fr = 0 ∨ (fr = 1 ∧ mq_ hs ac n n (rp_ hs ac n) ce co ro le dn un)) : Met l y_M_recall (.code y_M_recall c_M_recall 1 none :: G_) ({ frames := 4, cells := 0, slots := 0, locals := 95 }) (va_Pc [.ref (am 0)] (pm_ D cA (wM cA am (nI n) la nu ki th ot vs av pl ps tz ts fr bk ce co ro le dn un) sz)) (va_Qv (fun (u : mt_T × Int32) => mq_ hs ac n n (rp_ hs ac n) u.1.1 u.1.2.1 u.1.2.2.1 u.1.2.2.2.1 u.1.2.2.2.2.1 u.1.2.2.2.2.2) (bw_ D (va_A (wM cA am (nI n) la nu ki th ot vs av pl ps tz ts fr bk ce co ro le dn un) sz) (fun u => wM cA am (nI n) la nu ki th ot vs av pl ps tz ts 1 u.2 u.1.1 u.1.2.1 u.1.2.2.1 u.1.2.2.2.1 u.1.2.2.2.2.1 u.1.2.2.2.2.2)) (va_A (wM cA am (nI n) la nu ki th ot vs av pl ps tz ts fr bk ce co ro le dn un) sz)) 0 0 (va_A (wM cA am (nI n) la nu ki th ot vs av pl ps tz ts fr bk ce co ro le dn un) sz) := by
  refine Met.ofW (cc := c_M_recall) (maxL := 1) (ret := none) (by decide) rfl ?_
  intro p e s m args below meth c s₁ B hml hv
  obtain ⟨rfl, hsz, hP, ⟨hK, hN⟩, hD0⟩ := hv
  have hx := B.exec
  have hb := B.bytes
  have hr := B.returns
  have hts := atoms_spec (ws := (.code y_M_recall c_M_recall 1 none :: G_)) B.pre
  have hg : ∀ w ∈ G_, w.before ([.ref (am 0)] : List Value).toArray s = true := fun w h => hts w (List.mem_cons_of_mem _ h)
  have hown : s.vm.findClass RM = some m.cls := findClass_of_methodNamed B.named
  have hlocks := B.notSynchronized
  subst hsz
  have hD := hD0.self (sz := s.heap.size)
  generalize hAe : va_A (wM cA am (nI n) la nu ki th ot vs av pl ps tz ts fr bk ce co ro le dn un) s.heap.size = A at hD ⊢
  have hA : ∀ q : Nat, s.heap.size ≤ q → A q := fun q h => by rw [← hAe]; exact Or.inr h
  have hS : va_S A s.heap s.heap [] := va_S.rf
  have hl := lv_entry ([.ref (am 0)]) (n := 1) (Nat.le_of_ble_eq_true rfl)
  rw [lg_entry_eq]
  generalize (lg_sl ([.ref (am 0)]) ++ List.replicate (1 - (lg_sl ([.ref (am 0)])).length) Slot.unset).toArray = ls at hl ⊢
  have hl : lv_has ls 1 [(0, .ref (am 0))] := hl
  refine lv_aload_n hx hb d_M_recall_0 rfl (lv_at hl 0 rfl) ?_
  refine va_get (D := D) (ci := 3) (v := .int fr) (C := RM) (T := TM) (N := 20) hx hb hg inM hown hK hP 0 rfl rfl 12 (by decide) (hg _ fl_M_39) (fun _ h9 => h9) rfl d_M_recall_1 ?_
  refine lv_if_eq (tgt := 8) hx hb d_M_recall_4 (by decide) (fun h4 => ?_) (fun h4 => ?_)
  · skip
    refine lv_aload_n hx hb d_M_recall_8 rfl (lv_at hl 0 rfl) ?_
    refine lv_aload_n hx hb d_M_recall_9 rfl (lv_at hl 0 rfl) ?_
    refine va_get (D := D) (ci := 3) (v := .int (nI n)) (C := RM) (T := TM) (N := 20) hx hb hg inM hown hK hP 0 rfl rfl 0 (by decide) (hg _ fl_M_65) (fun _ h9 => h9) rfl d_M_recall_10 ?_
    refine lv_iconst (v := (-1)) hx hb d_M_recall_13 (by decide) ?_
    have hac9 : ∀ t, t < n → ac t = (ac t && !decide (nI t = -1)) := fun t ht => by rw [decide_eq_false (show ¬ nI t = -1 from ov_ne (i := t) (by omega))]; simp
    refine mu0_v (w := (wM cA am (nI n) la nu ki th ot vs av pl ps tz ts fr bk ce co ro le dn un)) (va_runV (C := RM) (As := [.int (nI n), .int (-1)]) (rest := []) ⟨hx, hb, hml, hown, hg⟩ (m_M_replay l D cA s.heap.size am la nu ki th ot vs av pl ps tz ts fr bk ce co ro le dn un hs ac n hmh hn n (-1) la9 ac hh (Nat.le_refl n) hac9) (cwV 2 hg (gd_V ml_M_106 im_M_replay sl_M_replay ini_M cd_M_replay) rfl rfl rfl (by decide +kernel) ⟨Nat.le_of_ble_eq_true rfl, Nat.le_of_ble_eq_true rfl⟩) (pv_m (va_recv (q0 := 0) (ci := 3) hK hP rfl rfl) hP hK hN hD) rfl rfl hl.1 rfl (lv_room (Nat.le_of_ble_eq_true rfl)) d_M_recall_14 ⟨Nat.zero_le _, Nat.zero_le _⟩) hP hD hS hA (fun u H locs hp hP hD hS => ?_)
    obtain ⟨⟨ce2, co2, ro2, le2, dn2, un2⟩, bk2⟩ := u
    have hP : va_P D cls_ (wM cA am (nI n) la nu ki th ot vs av pl ps tz ts 0 bk2 ce2 co2 ro2 le2 dn2 un2) H := hP
    have hD : va_D A (wM cA am (nI n) la nu ki th ot vs av pl ps tz ts 0 bk2 ce2 co2 ro2 le2 dn2 un2) := hD
    refine lv_aload_n hx hb d_M_recall_17 rfl (lv_at hl 0 rfl) ?_
    refine lv_iconst (v := 1) hx hb d_M_recall_18 (by decide) ?_
    refine va_put (D := D) (ci := 3) (v := .int 1) (ty := .boolean) (C := RM) (T := TM) (N := 20) hx hb hg inM tyM okM nmM hown hK hP hD hS 0 rfl rfl 12 (by decide) (hg _ fl_M_39) (fun _ h9 => h9) rfl (by decide +kernel) rfl rfl (Nat.le_of_ble_eq_true rfl) d_M_recall_19 (fun H locs hP hD hS => ?_)
    have hP : va_P D cls_ (wM cA am (nI n) la nu ki th ot vs av pl ps tz ts 1 bk2 ce2 co2 ro2 le2 dn2 un2) H := hP
    have hD : va_D A (wM cA am (nI n) la nu ki th ot vs av pl ps tz ts 1 bk2 ce2 co2 ro2 le2 dn2 un2) := hD
    exact W.vret hx hb hr (fun t ht hW => ⟨⟨((ce2, co2, ro2, le2, dn2, un2), bk2), rfl, hp.1, by rw [ht]; exact hP, hD⟩, hS.F ht⟩) hS.2.2 d_M_recall_22
  · skip
    have hf1 : fr = 1 ∧ mq_ hs ac n n (rp_ hs ac n) ce co ro le dn un := by
      rcases hfr with h | h
      · exact absurd h h4
      · exact h
    obtain ⟨rfl, hq9⟩ := hf1
    exact W.vret hx hb hr (fun t ht hW => ⟨⟨((ce, co, ro, le, dn, un), bk), rfl, hq9, by rw [ht]; exact hP, hD⟩, hS.F ht⟩) hS.2.2 d_M_recall_7
