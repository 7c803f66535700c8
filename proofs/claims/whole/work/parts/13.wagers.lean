set_option maxHeartbeats 4000000 in
set_option maxRecDepth 100000 in
theorem M_X3_has (l : Launch) (D : va_G) (cI : ClassId) (b : Nat → Nat) (ω : St) (c0 : Int32) : Met l yX3_has wsX3_has ({ frames := 1, cells := 0, slots := 0, locals := 22 } : Room) (rdPc [.ref (b 1), .int c0] D (wWag b cI ω) [(cI, .int)]) (rdQi (bI (0 ≤ c0 ∧ c0 ≤ ω 19 0 - 1))) 0 0 (fun _ => False) := by
  refine Met.ofW (cc := cX3_has) (maxL := 2) (ret := (some .boolean)) (by decide) rfl ?_
  intro p e s m args below meth c s₁ B hml hv
  obtain ⟨hargs, hP, hK⟩ := hv
  have hx := B.exec
  have hb := B.bytes
  have hr := B.returns
  have hts := atoms_spec (ws := wsX3_has) B.pre
  have hown : s.vm.findClass RX3 = some m.cls := findClass_of_methodNamed B.named
  have hlocks := B.notSynchronized
  obtain ⟨_, hN⟩ := id hK
  have hiX3 : ∀ w ∈ wsX30, w ∈ wsX3_has := by decide +kernel
  refine my_abs (fun Q hQ => ?_)
  obtain ⟨ls, hl, hent⟩ := my_entry (m := m) (n := 2) hargs (Nat.le_of_ble_eq_true rfl)
  rw [hent]
  have hl : lv_has ls 2 [(0, .ref (b 1)), (1, .int c0)] := hl
  show W p l e ({ frames := 1, cells := 0, slots := 0, locals := 22 } : Room) s m args below meth c s.heap [] 0 0 Q (F0 m 0 ls [])
  refine lv_iload_n hx hb dX3_has_0 rfl (lv_at hl 1 rfl) ?_
  refine lv_iconst (v := 0) hx hb dX3_has_1 (by decide) ?_
  refine lv_aload_n hx hb dX3_has_2 rfl (lv_at hl 0 rfl) ?_
  refine va_get (D := D) (ci := 3) (v := .int (ω 19 0)) (C := RX3) (T := TX3) (N := 3) hx hb hts hiX3 hown hK.1 hP 0 rfl rfl 0 (by decide) (hts (.fieldLink RX3 18 "IceLanes$Wagers" "number" "I") (by decide +kernel)) (fun _ h9 => h9) rfl dX3_has_3 ?_
  refine lv_iconst (v := 1) hx hb dX3_has_6 (by decide) ?_
  refine lv_isub hx hb dX3_has_7 ?_
  refine rd_i (va_runSN (As := [.int c0, .int 0, .int ((ω 19 0) - 1)]) (rest := []) ⟨hx, hb, hml, hown, hts⟩ (M_X4_isWithin l D cI c0 0 ((ω 19 0) - 1) ) ⟨va_cnB 3 hts gX3_has_X4_isWithin_n22 rfl rfl rfl (nX3_22 hN) (hts (.initialized RX4) (by decide +kernel)) (by decide +kernel) ⟨Nat.le_of_ble_eq_true rfl, Nat.le_of_ble_eq_true rfl⟩, hts (.static yX4_isWithin) (by decide +kernel), trivial⟩ (rdS hK hP [] [0] rfl rfl) rfl rfl hl.1 rfl (lv_room (Nat.le_of_ble_eq_true rfl)) dX3_has_8 ⟨Nat.zero_le _, Nat.zero_le _⟩) ?_
  subst hQ
  exact ret_rdi hx hb hr (bI_nar) hlocks (show bI (0 ≤ c0 ∧ c0 ≤ ((ω 19 0) - 1)) = bI (0 ≤ c0 ∧ c0 ≤ ω 19 0 - 1) from rfl) dX3_has_11
set_option maxHeartbeats 4000000 in
set_option maxRecDepth 100000 in
theorem M_X3_add (l : Launch) (D : va_G) (cI : ClassId) (b : Nat → Nat) (ω : St) (dy : Int32) (sk : Int32) (nw : Nat) (sz : Nat) (hnw : ω 19 0 = nI nw) (hw12 : nw < 12) : Met l yX3_add wsX3_add ({ frames := 0, cells := 0, slots := 0, locals := 0 } : Room) (wrPc [.ref (b 1), .int dy, .int sk] D (wWag b cI ω) [(cI, .int)] sz) (wrQi (nI nw) D (wWag b cI (put (put (put ω 14 (upd (ω 14) nw dy)) 15 (upd (ω 15) nw sk)) 19 (fun _ => nI (nw + 1)))) (va_A (wWag b cI ω) sz)) 0 0 (va_A (wWag b cI ω) sz) := by
  refine Met.ofW (cc := cX3_add) (maxL := 4) (ret := (some .int)) (by decide) rfl ?_
  intro p e s m args below meth c s₁ B hml hv
  obtain ⟨hargs, hsz, hP, hK, hD0⟩ := hv
  have hx := B.exec
  have hb := B.bytes
  have hr := B.returns
  have hts := atoms_spec (ws := wsX3_add) B.pre
  have hown : s.vm.findClass RX3 = some m.cls := findClass_of_methodNamed B.named
  have hlocks := B.notSynchronized
  obtain ⟨_, hN⟩ := id hK
  have hiX3 : ∀ w ∈ wsX30, w ∈ wsX3_add := by decide +kernel
  subst hsz
  have hD := hD0.self (sz := s.heap.size)
  generalize hAe : va_A (wWag b cI ω) s.heap.size = A at hD ⊢
  have hA : ∀ q : Nat, s.heap.size ≤ q → A q := fun q h => by rw [← hAe]; exact Or.inr h
  have hS : va_S A s.heap s.heap [] := va_S.rf
  have hP : va_P D vwCl (wWag b cI ω) s.heap := hP
  refine my_abs (fun Q hQ => ?_)
  obtain ⟨ls, hl, hent⟩ := my_entry (m := m) (n := 4) hargs (Nat.le_of_ble_eq_true rfl)
  rw [hent]
  have hl : lv_has ls 4 [(0, .ref (b 1)), (1, .int dy), (2, .int sk)] := hl
  show W p l e ({ frames := 0, cells := 0, slots := 0, locals := 0 } : Room) s m args below meth c s.heap [] 0 0 Q (F0 m 0 ls [])
  refine lv_aload_n hx hb dX3_add_0 rfl (lv_at hl 0 rfl) ?_
  refine va_get (D := D) (ci := 3) (v := .int (ω 19 0)) (C := RX3) (T := TX3) (N := 3) hx hb hts hiX3 hown hK.1 hP 0 rfl rfl 0 (by decide) (hts (.fieldLink RX3 18 "IceLanes$Wagers" "number" "I") (by decide +kernel)) (fun _ h9 => h9) rfl dX3_add_1 ?_
  refine lv_bipush (v := 12) hx hb dX3_add_4 (by decide) ?_
  refine lv_icmp_lt (tgt := 11) hx hb dX3_add_6 (by decide) (fun c_1 => ?_) (fun c_1 => ?_)
  · skip
    refine lv_aload_n hx hb dX3_add_11 rfl (lv_at hl 0 rfl) ?_
    refine va_get (D := D) (ci := 3) (v := .int (ω 19 0)) (C := RX3) (T := TX3) (N := 3) hx hb hts hiX3 hown hK.1 hP 0 rfl rfl 0 (by decide) (hts (.fieldLink RX3 18 "IceLanes$Wagers" "number" "I") (by decide +kernel)) (fun _ h9 => h9) rfl dX3_add_12 ?_
    rw [hnw]
    refine lv_istore_n (lv' := [(3, .int (nI nw)), (0, .ref (b 1)), (1, .int dy), (2, .int sk)]) hx hb dX3_add_15 rfl hl (by decide) rfl (fun ls hl => ?_)
    refine lv_aload_n hx hb dX3_add_16 rfl (lv_at hl 1 rfl) ?_
    refine va_get (D := D) (ci := 3) (v := .ref (b 2)) (C := RX3) (T := TX3) (N := 3) hx hb hts hiX3 hown hK.1 hP 0 rfl rfl 1 (by decide) (hts (.fieldLink RX3 9 "IceLanes$Wagers" "day" "[I") (by decide +kernel)) (fun _ h9 => h9) rfl dX3_add_17 ?_
    refine lv_iload_n hx hb dX3_add_20 rfl (lv_at hl 0 rfl) ?_
    refine lv_iload_n hx hb dX3_add_21 rfl (lv_at hl 2 rfl) ?_
    refine va_iast hx hb hK.1 hP hD hS 1 0 rfl rfl (by first | assumption | exact vp_in_nI (by omega) (by decide)) dX3_add_22 (fun H locs hP hD hS => ?_)
    rw [nI_clamp (n := nw) (by omega)] at hP hD
    have hP : va_P D vwCl (wWagE b cI (ω 19 0) (upd (ω 14) nw dy) (ω 15)) H := hP
    have hD : va_D A (wWagE b cI (ω 19 0) (upd (ω 14) nw dy) (ω 15)) := hD
    refine lv_aload_n hx hb dX3_add_23 rfl (lv_at hl 1 rfl) ?_
    refine va_get (D := D) (ci := 3) (v := .ref (b 3)) (C := RX3) (T := TX3) (N := 3) hx hb hts hiX3 hown hK.1 hP 0 rfl rfl 2 (by decide) (hts (.fieldLink RX3 15 "IceLanes$Wagers" "stake" "[I") (by decide +kernel)) (fun _ h9 => h9) rfl dX3_add_24 ?_
    refine lv_iload_n hx hb dX3_add_27 rfl (lv_at hl 0 rfl) ?_
    refine lv_iload_n hx hb dX3_add_28 rfl (lv_at hl 3 rfl) ?_
    refine va_iast hx hb hK.1 hP hD hS 2 0 rfl rfl (by first | assumption | exact vp_in_nI (by omega) (by decide)) dX3_add_29 (fun H locs hP hD hS => ?_)
    rw [nI_clamp (n := nw) (by omega)] at hP hD
    have hP : va_P D vwCl (wWagE b cI (ω 19 0) (upd (ω 14) nw dy) (upd (ω 15) nw sk)) H := hP
    have hD : va_D A (wWagE b cI (ω 19 0) (upd (ω 14) nw dy) (upd (ω 15) nw sk)) := hD
    refine lv_aload_n hx hb dX3_add_30 rfl (lv_at hl 1 rfl) ?_
    refine lv_dup hx hb dX3_add_31 rfl ?_
    refine va_get (D := D) (ci := 3) (v := .int (ω 19 0)) (C := RX3) (T := TX3) (N := 3) hx hb hts hiX3 hown hK.1 hP 0 rfl rfl 0 (by decide) (hts (.fieldLink RX3 18 "IceLanes$Wagers" "number" "I") (by decide +kernel)) (fun _ h9 => h9) rfl dX3_add_32 ?_
    rw [hnw]
    refine lv_iconst (v := 1) hx hb dX3_add_35 (by decide) ?_
    refine lv_iadd hx hb dX3_add_36 ?_
    refine va_put (D := D) (ci := 3) (v := .int ((nI nw) + 1)) (ty := .int) (C := RX3) (T := TX3) (N := 3) hx hb hts hiX3 tyX3 tyX3_ok nmX3 hown hK.1 hP hD hS 0 rfl rfl 0 (by decide) (hts (.fieldLink RX3 18 "IceLanes$Wagers" "number" "I") (by decide +kernel)) (fun _ h9 => h9) rfl (by decide +kernel) rfl rfl (Nat.le_of_ble_eq_true rfl) dX3_add_37 (fun H locs hP hD hS => ?_)
    have hP : va_P D vwCl (wWagE b cI ((nI nw) + 1) (upd (ω 14) nw dy) (upd (ω 15) nw sk)) H := hP
    have hD : va_D A (wWagE b cI ((nI nw) + 1) (upd (ω 14) nw dy) (upd (ω 15) nw sk)) := hD
    refine lv_iload_n hx hb dX3_add_40 rfl (lv_at hl 0 rfl) ?_
    subst hQ
    have hP : va_P D vwCl (wWag b cI (put (put (put ω 14 (upd (ω 14) nw dy)) 15 (upd (ω 15) nw sk)) 19 (fun _ => (nI nw) + 1))) H := hP
    have hD : va_D A (wWag b cI (put (put (put ω 14 (upd (ω 14) nw dy)) 15 (upd (ω 15) nw sk)) 19 (fun _ => (nI nw) + 1))) := hD
    have k_19 : (fun _ => (nI nw) + 1 : Nat → Int32) = (fun _ => nI (nw + 1)) := by rw [nI_1]
    have hst_w : put (put (put ω 14 (upd (ω 14) nw dy)) 15 (upd (ω 15) nw sk)) 19 (fun _ => (nI nw) + 1) = put (put (put ω 14 (upd (ω 14) nw dy)) 15 (upd (ω 15) nw sk)) 19 (fun _ => nI (nw + 1)) := put_cg (put_cg (put_cg rfl rfl) rfl) k_19
    rw [hst_w] at hP hD
    exact ret_wri hx hb hr rfl hlocks hP hD hS (show nI nw = nI nw from rfl) dX3_add_41
  · skip
    exact absurd (by rw [hnw]; exact (nI_ltI (a := nw) (b := 12) (by omega) (by omega)).mpr hw12) c_1
set_option maxHeartbeats 4000000 in
set_option maxRecDepth 100000 in
theorem M_X3_allStakes (l : Launch) (D : va_G) (cI : ClassId) (b : Nat → Nat) (ω : St) (nw : Nat) (hnw : ω 19 0 = nI nw) (hw12 : nw ≤ 12) : Met l yX3_allStakes wsX3_allStakes ({ frames := 0, cells := 0, slots := 0, locals := 0 } : Room) (rdPc [.ref (b 1)] D (wWag b cI ω) [(cI, .int)]) (rdQi (sumF (ω 15) nw)) 0 0 (fun _ => False) := by
  refine Met.ofW (cc := cX3_allStakes) (maxL := 3) (ret := (some .int)) (by decide) rfl ?_
  intro p e s m args below meth c s₁ B hml hv
  obtain ⟨hargs, hP, hK⟩ := hv
  have hx := B.exec
  have hb := B.bytes
  have hr := B.returns
  have hts := atoms_spec (ws := wsX3_allStakes) B.pre
  have hown : s.vm.findClass RX3 = some m.cls := findClass_of_methodNamed B.named
  have hlocks := B.notSynchronized
  obtain ⟨_, hN⟩ := id hK
  have hiX3 : ∀ w ∈ wsX30, w ∈ wsX3_allStakes := by decide +kernel
  refine my_abs (fun Q hQ => ?_)
  obtain ⟨ls, hl, hent⟩ := my_entry (m := m) (n := 3) hargs (Nat.le_of_ble_eq_true rfl)
  rw [hent]
  have hl : lv_has ls 3 [(0, .ref (b 1))] := hl
  show W p l e ({ frames := 0, cells := 0, slots := 0, locals := 0 } : Room) s m args below meth c s.heap [] 0 0 Q (F0 m 0 ls [])
  refine lv_iconst (v := 0) hx hb dX3_allStakes_0 (by decide) ?_
  refine lv_istore_n (lv' := [(1, .int 0), (0, .ref (b 1))]) hx hb dX3_allStakes_1 rfl hl (by decide) rfl (fun ls hl => ?_)
  refine lv_iconst (v := 0) hx hb dX3_allStakes_2 (by decide) ?_
  refine lv_istore_n (lv' := [(2, .int 0), (1, .int 0), (0, .ref (b 1))]) hx hb dX3_allStakes_3 rfl hl (by decide) rfl (fun ls hl => ?_)
  have loop4 : ∀ (n : Nat) (k : Nat), nw - k < n → k ≤ nw → ∀ (ls : Array Slot), lv_has ls 3 [(0, .ref (b 1)), (1, .int (sumF (ω 15) k)), (2, .int (nI k))] → W p l e ({ frames := 0, cells := 0, slots := 0, locals := 0 } : Room) s m args below meth c s.heap [] 0 0 Q (F0 m 4 ls []) := by
    intro n
    induction n with
    | zero => intro k  hf; exact absurd hf (Nat.not_lt_zero _)
    | succ n ih4 =>
      intro k  hf hk ls hl
      refine lv_iload_n hx hb dX3_allStakes_4 rfl (lv_at hl 2 rfl) ?_
      refine lv_aload_n hx hb dX3_allStakes_5 rfl (lv_at hl 0 rfl) ?_
      refine va_get (D := D) (ci := 3) (v := .int (ω 19 0)) (C := RX3) (T := TX3) (N := 3) hx hb hts hiX3 hown hK.1 hP 0 rfl rfl 0 (by decide) (hts (.fieldLink RX3 18 "IceLanes$Wagers" "number" "I") (by decide +kernel)) (fun _ h9 => h9) rfl dX3_allStakes_6 ?_
      refine lv_icmp_ge (tgt := 27) hx hb dX3_allStakes_9 (by decide) (fun c_1 => ?_) (fun c_1 => ?_)
      · skip
        rw [hnw] at c_1
        have hk2 : nw ≤ k := lp_ge (N := nw) (k := k) c_1 (by omega) (by omega)
        refine lv_iload_n hx hb dX3_allStakes_27 rfl (lv_at hl 1 rfl) ?_
        subst hQ
        exact ret_rdi hx hb hr rfl hlocks (show sumF (ω 15) k = sumF (ω 15) nw from (by rw [show k = nw by omega])) dX3_allStakes_28
      · skip
        rw [hnw] at c_1
        have hk2 : k < nw := lp_nge (N := nw) (k := k) c_1 (by omega) (by omega)
        refine lv_iload_n hx hb dX3_allStakes_12 rfl (lv_at hl 1 rfl) ?_
        refine lv_aload_n hx hb dX3_allStakes_13 rfl (lv_at hl 0 rfl) ?_
        refine va_get (D := D) (ci := 3) (v := .ref (b 3)) (C := RX3) (T := TX3) (N := 3) hx hb hts hiX3 hown hK.1 hP 0 rfl rfl 2 (by decide) (hts (.fieldLink RX3 15 "IceLanes$Wagers" "stake" "[I") (by decide +kernel)) (fun _ h9 => h9) rfl dX3_allStakes_14 ?_
        refine lv_iload_n hx hb dX3_allStakes_17 rfl (lv_at hl 2 rfl) ?_
        refine va_iald hx hb hK.1 hP 2 0 rfl rfl (by first | assumption | exact vp_in_nI (by omega) (by decide)) dX3_allStakes_18 ?_
        rw [nI_clamp (n := k) (by omega)]
        refine lv_iadd hx hb dX3_allStakes_19 ?_
        refine lv_istore_n (lv' := [(1, .int ((sumF (ω 15) k) + (ω 15 k))), (0, .ref (b 1)), (2, .int (nI k))]) hx hb dX3_allStakes_20 rfl hl (by decide) rfl (fun ls hl => ?_)
        refine lv_iinc (v := nI (k + 1)) (lv' := [(2, .int (nI (k + 1))), (1, .int ((sumF (ω 15) k) + (ω 15 k))), (0, .ref (b 1))]) hx hb dX3_allStakes_21 hl (k := 2) rfl (nI_1 k) (by decide) rfl (fun ls hl => ?_)
        refine lv_goto (tgt := 4) hx hb dX3_allStakes_24 (by decide) ?_
        exact ih4 (k + 1) (by omega) (by omega) ls (lv_sub hl [2, 1, 0] rfl)
  exact loop4 (nw + 1) 0 (by omega) (by omega) ls (lv_sub hl [2, 1, 0] rfl)
set_option maxHeartbeats 4000000 in
set_option maxRecDepth 100000 in
theorem M_X3_daysBeside (l : Launch) (D : va_G) (cI : ClassId) (b : Nat → Nat) (ω : St) (td : Int32) (wg : Nat) (hwg : wg < 12) : Met l yX3_daysBeside wsX3_daysBeside ({ frames := 1, cells := 0, slots := 0, locals := 13 } : Room) (rdPc [.ref (b 1), .int td, .int (nI wg)] D (wWag b cI ω) [(cI, .int)]) (rdQi (distF ω td wg)) 0 0 (fun _ => False) := by
  refine Met.ofW (cc := cX3_daysBeside) (maxL := 3) (ret := (some .int)) (by decide) rfl ?_
  intro p e s m args below meth c s₁ B hml hv
  obtain ⟨hargs, hP, hK⟩ := hv
  have hx := B.exec
  have hb := B.bytes
  have hr := B.returns
  have hts := atoms_spec (ws := wsX3_daysBeside) B.pre
  have hown : s.vm.findClass RX3 = some m.cls := findClass_of_methodNamed B.named
  have hlocks := B.notSynchronized
  obtain ⟨_, hN⟩ := id hK
  have hiX3 : ∀ w ∈ wsX30, w ∈ wsX3_daysBeside := by decide +kernel
  refine my_abs (fun Q hQ => ?_)
  obtain ⟨ls, hl, hent⟩ := my_entry (m := m) (n := 3) hargs (Nat.le_of_ble_eq_true rfl)
  rw [hent]
  have hl : lv_has ls 3 [(0, .ref (b 1)), (1, .int td), (2, .int (nI wg))] := hl
  show W p l e ({ frames := 1, cells := 0, slots := 0, locals := 13 } : Room) s m args below meth c s.heap [] 0 0 Q (F0 m 0 ls [])
  refine lv_aload_n hx hb dX3_daysBeside_0 rfl (lv_at hl 0 rfl) ?_
  refine va_get (D := D) (ci := 3) (v := .ref (b 2)) (C := RX3) (T := TX3) (N := 3) hx hb hts hiX3 hown hK.1 hP 0 rfl rfl 1 (by decide) (hts (.fieldLink RX3 9 "IceLanes$Wagers" "day" "[I") (by decide +kernel)) (fun _ h9 => h9) rfl dX3_daysBeside_1 ?_
  refine lv_iload_n hx hb dX3_daysBeside_4 rfl (lv_at hl 2 rfl) ?_
  refine va_iald hx hb hK.1 hP 1 0 rfl rfl (by first | assumption | exact vp_in_nI (by omega) (by decide)) dX3_daysBeside_5 ?_
  rw [nI_clamp (n := wg) (by omega)]
  refine lv_iload_n hx hb dX3_daysBeside_6 rfl (lv_at hl 1 rfl) ?_
  refine lv_isub hx hb dX3_daysBeside_7 ?_
  refine va_mabs hx hb (by rw [hml]; exact hl.1.symm) hown (hts (.methodLink RX3 26 Lib.Math.abs.name) (by decide +kernel)) (hts (.static Lib.Math.abs.name) (by decide +kernel)) (hts (.initialized "java/lang/Math") (by decide +kernel)) (hts (.code Lib.Math.abs.name Lib.Math.abs.code 1 (some .int)) (by decide +kernel)) (Nat.le_of_ble_eq_true rfl) (Nat.le_of_ble_eq_true rfl) (Nat.zero_le _) (Nat.zero_le _) dX3_daysBeside_8 ?_
  refine W.eq (g2 := F0 m 11 ls [.int (ab ((ω 14 wg) - td))]) rfl ?_
  subst hQ
  exact ret_rdi hx hb hr rfl hlocks (show ab ((ω 14 wg) - td) = distF ω td wg from rfl) dX3_daysBeside_11
set_option maxHeartbeats 4000000 in
set_option maxRecDepth 100000 in
theorem M_X3_winOn (l : Launch) (D : va_G) (cI : ClassId) (b : Nat → Nat) (ω : St) (td : Int32) (wg : Nat) (nw : Nat) (hnw : ω 19 0 = nI nw) (hw12 : nw ≤ 12) (hwg : wg < nw) : Met l yX3_winOn wsX3_winOn ({ frames := 2, cells := 0, slots := 0, locals := 35 } : Room) (rdPc [.ref (b 1), .int td, .int (nI wg)] D (wWag b cI ω) [(cI, .int)]) (rdQi (winF ω nw td wg)) 0 0 (fun _ => False) := by
  refine Met.ofW (cc := cX3_winOn) (maxL := 7) (ret := (some .int)) (by decide) rfl ?_
  intro p e s m args below meth c s₁ B hml hv
  obtain ⟨hargs, hP, hK⟩ := hv
  have hx := B.exec
  have hb := B.bytes
  have hr := B.returns
  have hts := atoms_spec (ws := wsX3_winOn) B.pre
  have hown : s.vm.findClass RX3 = some m.cls := findClass_of_methodNamed B.named
  have hlocks := B.notSynchronized
  obtain ⟨_, hN⟩ := id hK
  have hiX3 : ∀ w ∈ wsX30, w ∈ wsX3_winOn := by decide +kernel
  refine my_abs (fun Q hQ => ?_)
  obtain ⟨ls, hl, hent⟩ := my_entry (m := m) (n := 7) hargs (Nat.le_of_ble_eq_true rfl)
  rw [hent]
  have hl : lv_has ls 7 [(0, .ref (b 1)), (1, .int td), (2, .int (nI wg))] := hl
  show W p l e ({ frames := 2, cells := 0, slots := 0, locals := 35 } : Room) s m args below meth c s.heap [] 0 0 Q (F0 m 0 ls [])
  refine lv_aload_n hx hb dX3_winOn_0 rfl (lv_at hl 0 rfl) ?_
  refine lv_iload_n hx hb dX3_winOn_1 rfl (lv_at hl 1 rfl) ?_
  refine lv_iload_n hx hb dX3_winOn_2 rfl (lv_at hl 2 rfl) ?_
  refine rd_i (va_runV (As := [.int td, .int (nI wg)]) (rest := []) ⟨hx, hb, hml, hown, hts⟩ (M_X3_daysBeside l D cI b ω td wg (by first | assumption | omega)) (cwV 2 hts gX3_winOn_X3_daysBeside rfl rfl rfl (by decide +kernel) ⟨Nat.le_of_ble_eq_true rfl, Nat.le_of_ble_eq_true rfl⟩) (rdV hK hP [0, 1, 2] [0] rfl rfl (ci := 3) (q0 := 0) rfl rfl) rfl rfl hl.1 rfl (lv_room (Nat.le_of_ble_eq_true rfl)) dX3_winOn_3 ⟨Nat.zero_le _, Nat.zero_le _⟩) ?_
  refine lv_istore_n (lv' := [(3, .int (distF ω td wg)), (0, .ref (b 1)), (1, .int td), (2, .int (nI wg))]) hx hb dX3_winOn_6 rfl hl (by decide) rfl (fun ls hl => ?_)
  refine lv_iconst (v := 0) hx hb dX3_winOn_7 (by decide) ?_
  refine lv_istore (lv' := [(4, .int 0), (3, .int (distF ω td wg)), (0, .ref (b 1)), (1, .int td), (2, .int (nI wg))]) hx hb dX3_winOn_8 hl (by decide) rfl (fun ls hl => ?_)
  refine lv_iconst (v := 0) hx hb dX3_winOn_10 (by decide) ?_
  refine lv_istore (lv' := [(5, .int 0), (4, .int 0), (3, .int (distF ω td wg)), (0, .ref (b 1)), (1, .int td), (2, .int (nI wg))]) hx hb dX3_winOn_11 hl (by decide) rfl (fun ls hl => ?_)
  have loop13 : ∀ (n : Nat) (k : Nat), nw - k < n → (k ≤ nw ∧ anyL (distF ω td) (distF ω td wg) k = false) → ∀ (ls : Array Slot), lv_has ls 7 [(0, .ref (b 1)), (1, .int td), (3, .int (distF ω td wg)), (4, .int (cntF (fun k => decide (distF ω td k = distF ω td wg)) k)), (5, .int (nI k))] → W p l e ({ frames := 2, cells := 0, slots := 0, locals := 35 } : Room) s m args below meth c s.heap [] 0 0 Q (F0 m 13 ls []) := by
    intro n
    induction n with
    | zero => intro k  hf; exact absurd hf (Nat.not_lt_zero _)
    | succ n ih13 =>
      intro k  hf ⟨hk, hno⟩ ls hl
      refine lv_iload hx hb dX3_winOn_13 (lv_at hl 4 rfl) ?_
      refine lv_aload_n hx hb dX3_winOn_15 rfl (lv_at hl 0 rfl) ?_
      refine va_get (D := D) (ci := 3) (v := .int (ω 19 0)) (C := RX3) (T := TX3) (N := 3) hx hb hts hiX3 hown hK.1 hP 0 rfl rfl 0 (by decide) (hts (.fieldLink RX3 18 "IceLanes$Wagers" "number" "I") (by decide +kernel)) (fun _ h9 => h9) rfl dX3_winOn_16 ?_
      refine lv_icmp_ge (tgt := 54) hx hb dX3_winOn_19 (by decide) (fun c_1 => ?_) (fun c_1 => ?_)
      · skip
        rw [hnw] at c_1
        have hk2 : nw ≤ k := lp_ge (N := nw) (k := k) c_1 (by omega) (by omega)
        have hpos : 0 < cntF (fun k => decide (distF ω td k = distF ω td wg)) k := by rw [show k = nw by omega]; exact win_pos hwg hw12
        refine lv_iload hx hb dX3_winOn_54 (lv_at hl 3 rfl) ?_
        refine lv_if_le (tgt := 69) hx hb dX3_winOn_56 (by decide) (fun c_2 => ?_) (fun c_2 => ?_)
        · skip
          exact absurd hpos (by rw [i_lt]; rw [i_le] at c_2; omega)
        · skip
          refine lv_aload_n hx hb dX3_winOn_59 rfl (lv_at hl 0 rfl) ?_
          refine rd_i (va_runV (As := []) (rest := []) ⟨hx, hb, hml, hown, hts⟩ (M_X3_allStakes l D cI b ω nw (by first | assumption | omega) (by first | assumption | omega)) (cwV 0 hts gX3_winOn_X3_allStakes rfl rfl rfl (by decide +kernel) ⟨Nat.le_of_ble_eq_true rfl, Nat.le_of_ble_eq_true rfl⟩) (rdV hK hP [0, 1, 2] [0] rfl rfl (ci := 3) (q0 := 0) rfl rfl) rfl rfl hl.1 rfl (lv_room (Nat.le_of_ble_eq_true rfl)) dX3_winOn_60 ⟨Nat.zero_le _, Nat.zero_le _⟩) ?_
          refine lv_iload hx hb dX3_winOn_63 (lv_at hl 3 rfl) ?_
          refine lv_idiv hx hb dX3_winOn_65 (ne_of_pos hpos) ?_
          refine lv_goto (tgt := 70) hx hb dX3_winOn_66 (by decide) ?_
          subst hQ
          exact ret_rdi hx hb hr rfl hlocks (show (sumF ((ω 15)) nw) / (cntF (fun k => decide (distF ω td k = distF ω td wg)) k) = winF ω nw td wg from (by show _ = winF ω nw td wg; unfold winF; rw [if_neg (by rw [show nw = k by omega, hno]; decide), show k = nw by omega])) dX3_winOn_70
      · skip
        rw [hnw] at c_1
        have hk2 : k < nw := lp_nge (N := nw) (k := k) c_1 (by omega) (by omega)
        refine lv_aload_n hx hb dX3_winOn_22 rfl (lv_at hl 0 rfl) ?_
        refine lv_iload_n hx hb dX3_winOn_23 rfl (lv_at hl 1 rfl) ?_
        refine lv_iload hx hb dX3_winOn_24 (lv_at hl 4 rfl) ?_
        refine rd_i (va_runV (As := [.int td, .int (nI k)]) (rest := []) ⟨hx, hb, hml, hown, hts⟩ (M_X3_daysBeside l D cI b ω td k (by first | assumption | omega)) (cwV 2 hts gX3_winOn_X3_daysBeside rfl rfl rfl (by decide +kernel) ⟨Nat.le_of_ble_eq_true rfl, Nat.le_of_ble_eq_true rfl⟩) (rdV hK hP [0, 1, 2] [0] rfl rfl (ci := 3) (q0 := 0) rfl rfl) rfl rfl hl.1 rfl (lv_room (Nat.le_of_ble_eq_true rfl)) dX3_winOn_26 ⟨Nat.zero_le _, Nat.zero_le _⟩) ?_
        refine lv_istore (lv' := [(6, .int (distF ω td k)), (0, .ref (b 1)), (1, .int td), (3, .int (distF ω td wg)), (4, .int (cntF (fun k => decide (distF ω td k = distF ω td wg)) k)), (5, .int (nI k))]) hx hb dX3_winOn_29 hl (by decide) rfl (fun ls hl => ?_)
        refine lv_iload hx hb dX3_winOn_31 (lv_at hl 0 rfl) ?_
        refine lv_iload_n hx hb dX3_winOn_33 rfl (lv_at hl 3 rfl) ?_
        refine lv_icmp_ge (tgt := 39) hx hb dX3_winOn_34 (by decide) (fun c_3 => ?_) (fun c_3 => ?_)
        · skip
          refine lv_iload hx hb dX3_winOn_39 (lv_at hl 0 rfl) ?_
          refine lv_iload_n hx hb dX3_winOn_41 rfl (lv_at hl 3 rfl) ?_
          refine lv_icmp_ne (tgt := 48) hx hb dX3_winOn_42 (by decide) (fun c_4 => ?_) (fun c_4 => ?_)
          · skip
            have hl : lv_has ls 7 [(6, .int (distF ω td k)), (0, .ref (b 1)), (1, .int td), (3, .int (distF ω td wg)), (4, .int (cntF (fun k => decide (distF ω td k = distF ω td wg)) (k + 1))), (5, .int (nI k))] := by rw [show cntF (fun k => decide (distF ω td k = distF ω td wg)) (k + 1) = cntF (fun k => decide (distF ω td k = distF ω td wg)) k from (cnt_f (fun z => absurd (of_decide_eq_true z) (by assumption)))]; exact hl
            refine lv_iinc (v := nI (k + 1)) (lv' := [(5, .int (nI (k + 1))), (6, .int (distF ω td k)), (0, .ref (b 1)), (1, .int td), (3, .int (distF ω td wg)), (4, .int (cntF (fun k => decide (distF ω td k = distF ω td wg)) (k + 1)))]) hx hb dX3_winOn_48 hl (k := 5) rfl (nI_1 k) (by decide) rfl (fun ls hl => ?_)
            refine lv_goto (tgt := 13) hx hb dX3_winOn_51 (by decide) ?_
            exact ih13 (k + 1) (by omega) ⟨by omega, anyL_f hno (by simp only [i_le, i_lt] at c_1 c_3 c_4 ⊢; omega)⟩ ls (lv_sub hl [2, 3, 4, 5, 0] rfl)
          · skip
            refine lv_iinc (v := cntF (fun k => decide (distF ω td k = distF ω td wg)) (k + 1)) (lv' := [(4, .int (cntF (fun k => decide (distF ω td k = distF ω td wg)) (k + 1))), (6, .int (distF ω td k)), (0, .ref (b 1)), (1, .int td), (3, .int (distF ω td wg)), (5, .int (nI k))]) hx hb dX3_winOn_45 hl (k := 4) rfl (cnt_t (decide_eq_true (by assumption))).symm (by decide) rfl (fun ls hl => ?_)
            refine lv_iinc (v := nI (k + 1)) (lv' := [(5, .int (nI (k + 1))), (4, .int (cntF (fun k => decide (distF ω td k = distF ω td wg)) (k + 1))), (6, .int (distF ω td k)), (0, .ref (b 1)), (1, .int td), (3, .int (distF ω td wg))]) hx hb dX3_winOn_48 hl (k := 5) rfl (nI_1 k) (by decide) rfl (fun ls hl => ?_)
            refine lv_goto (tgt := 13) hx hb dX3_winOn_51 (by decide) ?_
            exact ih13 (k + 1) (by omega) ⟨by omega, anyL_f hno (by simp only [i_le, i_lt] at c_1 c_3 c_4 ⊢; omega)⟩ ls (lv_sub hl [3, 4, 5, 1, 0] rfl)
        · skip
          refine lv_iconst (v := 0) hx hb dX3_winOn_37 (by decide) ?_
          subst hQ
          exact ret_rdi hx hb hr rfl hlocks (show 0 = winF ω nw td wg from (show winF ω nw td wg = 0 from if_pos (anyL_mono (n := k + 1) (by omega) (anyL_t (by first | assumption | (simp only [i_le, i_lt] at c_1 c_3 ⊢; omega))))).symm) dX3_winOn_38
  exact loop13 (nw + 1) 0 (by omega) ⟨by omega, rfl⟩ ls (lv_sub hl [3, 4, 2, 1, 0] rfl)
