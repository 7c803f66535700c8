set_option maxHeartbeats 4000000 in
set_option maxRecDepth 100000 in
theorem M_X6_thrown (l : Launch) (D : va_G) (cI : ClassId) (b : Nat → Nat) (d : Nat → Nat) (d2 : Nat → Nat) (σ : St) (σ2 : St) (ω : St) : Met l yX6_thrown wsX6_thrown ({ frames := 0, cells := 0, slots := 0, locals := 0 } : Room) (rdPc [.ref (b 0)] D (wMod b d d2 cI σ σ2 ω) [(cI, .int)]) (rdQi (ω 20 0)) 0 0 (fun _ => False) := by
  refine Met.ofW (cc := cX6_thrown) (maxL := 1) (ret := (some .int)) (by decide) rfl ?_
  intro p e s m args below meth c s₁ B hml hv
  obtain ⟨hargs, hP, hK⟩ := hv
  have hx := B.exec
  have hb := B.bytes
  have hr := B.returns
  have hts := atoms_spec (ws := wsX6_thrown) B.pre
  have hown : s.vm.findClass RX6 = some m.cls := findClass_of_methodNamed B.named
  have hlocks := B.notSynchronized
  obtain ⟨_, hN⟩ := id hK
  have hiX6 : ∀ w ∈ wsX60, w ∈ wsX6_thrown := by decide +kernel
  refine my_abs (fun Q hQ => ?_)
  obtain ⟨ls, hl, hent⟩ := my_entry (m := m) (n := 1) hargs (Nat.le_of_ble_eq_true rfl)
  rw [hent]
  have hl : lv_has ls 1 [(0, .ref (b 0))] := hl
  show W p l e ({ frames := 0, cells := 0, slots := 0, locals := 0 } : Room) s m args below meth c s.heap [] 0 0 Q (F0 m 0 ls [])
  refine lv_aload_n hx hb dX6_thrown_0 rfl (lv_at hl 0 rfl) ?_
  refine va_get (D := D) (ci := 6) (v := .int (ω 20 0)) (C := RX6) (T := TX6) (N := 8) hx hb hts hiX6 hown hK.1 hP 0 rfl rfl 0 (by decide) (hts (.fieldLink RX6 43 "IceLanesModel" "thrown" "I") (by decide +kernel)) (fun _ h9 => h9) rfl dX6_thrown_1 ?_
  subst hQ
  exact ret_rdi hx hb hr rfl hlocks (show ω 20 0 = ω 20 0 from rfl) dX6_thrown_4
set_option maxHeartbeats 4000000 in
set_option maxRecDepth 100000 in
theorem M_X6_no (l : Launch) (D : va_G) (cI : ClassId) (b : Nat → Nat) (d : Nat → Nat) (d2 : Nat → Nat) (σ : St) (σ2 : St) (ω : St) (n0 : Int32) (sz : Nat) : Met l yX6_no wsX6_no ({ frames := 0, cells := 0, slots := 0, locals := 0 } : Room) (wrPc [.ref (b 0), .int n0] D (wMod b d d2 cI σ σ2 ω) [(cI, .int)] sz) (wrQi 0 D (wMod b d d2 cI σ σ2 (put ω 20 (fun _ => n0))) (va_A (wMod b d d2 cI σ σ2 ω) sz)) 0 0 (va_A (wMod b d d2 cI σ σ2 ω) sz) := by
  refine Met.ofW (cc := cX6_no) (maxL := 2) (ret := (some .int)) (by decide) rfl ?_
  intro p e s m args below meth c s₁ B hml hv
  obtain ⟨hargs, hsz, hP, hK, hD0⟩ := hv
  have hx := B.exec
  have hb := B.bytes
  have hr := B.returns
  have hts := atoms_spec (ws := wsX6_no) B.pre
  have hown : s.vm.findClass RX6 = some m.cls := findClass_of_methodNamed B.named
  have hlocks := B.notSynchronized
  obtain ⟨_, hN⟩ := id hK
  have hiX6 : ∀ w ∈ wsX60, w ∈ wsX6_no := by decide +kernel
  subst hsz
  have hD := hD0.self (sz := s.heap.size)
  generalize hAe : va_A (wMod b d d2 cI σ σ2 ω) s.heap.size = A at hD ⊢
  have hA : ∀ q : Nat, s.heap.size ≤ q → A q := fun q h => by rw [← hAe]; exact Or.inr h
  have hS : va_S A s.heap s.heap [] := va_S.rf
  have hP : va_P D vwCl (wMod b d d2 cI σ σ2 ω) s.heap := hP
  refine my_abs (fun Q hQ => ?_)
  obtain ⟨ls, hl, hent⟩ := my_entry (m := m) (n := 2) hargs (Nat.le_of_ble_eq_true rfl)
  rw [hent]
  have hl : lv_has ls 2 [(0, .ref (b 0)), (1, .int n0)] := hl
  show W p l e ({ frames := 0, cells := 0, slots := 0, locals := 0 } : Room) s m args below meth c s.heap [] 0 0 Q (F0 m 0 ls [])
  refine lv_aload_n hx hb dX6_no_0 rfl (lv_at hl 0 rfl) ?_
  refine lv_iload_n hx hb dX6_no_1 rfl (lv_at hl 1 rfl) ?_
  refine va_put (D := D) (ci := 6) (v := .int n0) (ty := .int) (C := RX6) (T := TX6) (N := 8) hx hb hts hiX6 tyX6 tyX6_ok nmX6 hown hK.1 hP hD hS 0 rfl rfl 0 (by decide) (hts (.fieldLink RX6 43 "IceLanesModel" "thrown" "I") (by decide +kernel)) (fun _ h9 => h9) rfl (by decide +kernel) rfl rfl (Nat.le_of_ble_eq_true rfl) dX6_no_2 (fun H locs hP hD hS => ?_)
  have hP : va_P D vwCl (wOutE b d d2 cI n0 (ω 19 0) (ω 1) (ω 2) (ω 14) (ω 15) ++ (wSta d (b 0) cI σ ++ wSta d2 (b 0) cI σ2)) H := hP
  have hD : va_D A (wOutE b d d2 cI n0 (ω 19 0) (ω 1) (ω 2) (ω 14) (ω 15) ++ (wSta d (b 0) cI σ ++ wSta d2 (b 0) cI σ2)) := hD
  refine lv_iconst (v := 0) hx hb dX6_no_5 (by decide) ?_
  subst hQ
  have hP : va_P D vwCl (wMod b d d2 cI σ σ2 (put ω 20 (fun _ => n0))) H := hP
  have hD : va_D A (wMod b d d2 cI σ σ2 (put ω 20 (fun _ => n0))) := hD
  exact ret_wri hx hb hr rfl hlocks hP hD hS (show 0 = 0 from rfl) dX6_no_6
set_option maxHeartbeats 4000000 in
set_option maxRecDepth 100000 in
theorem M_X6_isCourier (l : Launch) (D : va_G) (cI : ClassId) (b : Nat → Nat) (d : Nat → Nat) (d2 : Nat → Nat) (σ : St) (σ2 : St) (ω : St) (c0 : Int32) : Met l yX6_isCourier wsX6_isCourier ({ frames := 1, cells := 0, slots := 0, locals := 22 } : Room) (rdPc [.ref (b 0), .int c0] D (wMod b d d2 cI σ σ2 ω) [(cI, .int)]) (rdQi (bI (0 ≤ c0 ∧ c0 ≤ σ 17 0 - 1))) 0 0 (fun _ => False) := by
  refine Met.ofW (cc := cX6_isCourier) (maxL := 2) (ret := (some .boolean)) (by decide) rfl ?_
  intro p e s m args below meth c s₁ B hml hv
  obtain ⟨hargs, hP, hK⟩ := hv
  have hx := B.exec
  have hb := B.bytes
  have hr := B.returns
  have hts := atoms_spec (ws := wsX6_isCourier) B.pre
  have hown : s.vm.findClass RX6 = some m.cls := findClass_of_methodNamed B.named
  have hlocks := B.notSynchronized
  obtain ⟨_, hN⟩ := id hK
  have hiX5 : ∀ w ∈ wsX50, w ∈ wsX6_isCourier := by decide +kernel
  have hiX6 : ∀ w ∈ wsX60, w ∈ wsX6_isCourier := by decide +kernel
  refine my_abs (fun Q hQ => ?_)
  obtain ⟨ls, hl, hent⟩ := my_entry (m := m) (n := 2) hargs (Nat.le_of_ble_eq_true rfl)
  rw [hent]
  have hl : lv_has ls 2 [(0, .ref (b 0)), (1, .int c0)] := hl
  show W p l e ({ frames := 1, cells := 0, slots := 0, locals := 22 } : Room) s m args below meth c s.heap [] 0 0 Q (F0 m 0 ls [])
  refine lv_iload_n hx hb dX6_isCourier_0 rfl (lv_at hl 1 rfl) ?_
  refine lv_iconst (v := 0) hx hb dX6_isCourier_1 (by decide) ?_
  refine lv_aload_n hx hb dX6_isCourier_2 rfl (lv_at hl 0 rfl) ?_
  refine va_get (D := D) (ci := 6) (v := .ref (d 0)) (C := RX6) (T := TX6) (N := 8) hx hb hts hiX6 hown hK.1 hP 0 rfl rfl 6 (by decide) (hts (.fieldLink RX6 27 "IceLanesModel" "s" "LIceLanesModel$State;") (by decide +kernel)) (fun _ h9 => h9) rfl dX6_isCourier_3 ?_
  refine va_getN (D := D) (ci := 5) (v := .int (σ 17 0)) (C := RX5) (T := TX5) (N := 8) hx hb hts hiX5 hown hK.1 hP 5 rfl rfl 1 (by decide) (va_Nw.use rfl (nX6_51 hN)) (fun _ h9 => h9) rfl dX6_isCourier_6 ?_
  refine lv_iconst (v := 1) hx hb dX6_isCourier_9 (by decide) ?_
  refine lv_isub hx hb dX6_isCourier_10 ?_
  refine rd_i (va_runS (As := [.int c0, .int 0, .int ((σ 17 0) - 1)]) (rest := []) ⟨hx, hb, hml, hown, hts⟩ (M_X6_isIn l D cI c0 0 ((σ 17 0) - 1) ) (va_cwS 3 hts gX6_isCourier_X6_isIn rfl rfl rfl (by decide +kernel) ⟨Nat.le_of_ble_eq_true rfl, Nat.le_of_ble_eq_true rfl⟩) (rdS hK hP [] [0] rfl rfl) rfl rfl hl.1 rfl (lv_room (Nat.le_of_ble_eq_true rfl)) dX6_isCourier_11 ⟨Nat.zero_le _, Nat.zero_le _⟩) ?_
  subst hQ
  exact ret_rdi hx hb hr (bI_nar) hlocks (show bI (0 ≤ c0 ∧ c0 ≤ ((σ 17 0) - 1)) = bI (0 ≤ c0 ∧ c0 ≤ σ 17 0 - 1) from rfl) dX6_isCourier_14
set_option maxHeartbeats 4000000 in
set_option maxRecDepth 100000 in
theorem M_X6_huts (l : Launch) (D : va_G) (cI : ClassId) (b : Nat → Nat) (d : Nat → Nat) (d2 : Nat → Nat) (σ : St) (σ2 : St) (ω : St) : Met l yX6_huts wsX6_huts ({ frames := 0, cells := 0, slots := 0, locals := 0 } : Room) (rdPc [.ref (b 0)] D (wMod b d d2 cI σ σ2 ω) [(cI, .int)]) (rdQi (sumF (ω 2) 12)) 0 0 (fun _ => False) := by
  refine Met.ofW (cc := cX6_huts) (maxL := 3) (ret := (some .int)) (by decide) rfl ?_
  intro p e s m args below meth c s₁ B hml hv
  obtain ⟨hargs, hP, hK⟩ := hv
  have hx := B.exec
  have hb := B.bytes
  have hr := B.returns
  have hts := atoms_spec (ws := wsX6_huts) B.pre
  have hown : s.vm.findClass RX6 = some m.cls := findClass_of_methodNamed B.named
  have hlocks := B.notSynchronized
  obtain ⟨_, hN⟩ := id hK
  have hiX6 : ∀ w ∈ wsX60, w ∈ wsX6_huts := by decide +kernel
  refine my_abs (fun Q hQ => ?_)
  obtain ⟨ls, hl, hent⟩ := my_entry (m := m) (n := 3) hargs (Nat.le_of_ble_eq_true rfl)
  rw [hent]
  have hl : lv_has ls 3 [(0, .ref (b 0))] := hl
  show W p l e ({ frames := 0, cells := 0, slots := 0, locals := 0 } : Room) s m args below meth c s.heap [] 0 0 Q (F0 m 0 ls [])
  refine lv_iconst (v := 0) hx hb dX6_huts_0 (by decide) ?_
  refine lv_istore_n (lv' := [(1, .int 0), (0, .ref (b 0))]) hx hb dX6_huts_1 rfl hl (by decide) rfl (fun ls hl => ?_)
  refine lv_iconst (v := 0) hx hb dX6_huts_2 (by decide) ?_
  refine lv_istore_n (lv' := [(2, .int 0), (1, .int 0), (0, .ref (b 0))]) hx hb dX6_huts_3 rfl hl (by decide) rfl (fun ls hl => ?_)
  have loop4 : ∀ (n : Nat) (k : Nat), 12 - k < n → k ≤ 12 → ∀ (ls : Array Slot), lv_has ls 3 [(0, .ref (b 0)), (1, .int (sumF (ω 2) k)), (2, .int (nI k))] → W p l e ({ frames := 0, cells := 0, slots := 0, locals := 0 } : Room) s m args below meth c s.heap [] 0 0 Q (F0 m 4 ls []) := by
    intro n
    induction n with
    | zero => intro k  hf; exact absurd hf (Nat.not_lt_zero _)
    | succ n ih4 =>
      intro k  hf hk ls hl
      refine lv_iload_n hx hb dX6_huts_4 rfl (lv_at hl 2 rfl) ?_
      refine lv_bipush (v := 12) hx hb dX6_huts_5 (by decide) ?_
      refine lv_icmp_ge (tgt := 25) hx hb dX6_huts_7 (by decide) (fun c_1 => ?_) (fun c_1 => ?_)
      · skip
        have hk2 : 12 ≤ k := lp_ge (N := 12) (k := k) c_1 (by omega) (by omega)
        refine lv_iload_n hx hb dX6_huts_25 rfl (lv_at hl 1 rfl) ?_
        subst hQ
        exact ret_rdi hx hb hr rfl hlocks (show sumF (ω 2) k = sumF (ω 2) 12 from (by rw [show k = 12 by omega])) dX6_huts_26
      · skip
        have hk2 : k < 12 := lp_nge (N := 12) (k := k) c_1 (by omega) (by omega)
        refine lv_iload_n hx hb dX6_huts_10 rfl (lv_at hl 1 rfl) ?_
        refine lv_aload_n hx hb dX6_huts_11 rfl (lv_at hl 0 rfl) ?_
        refine va_get (D := D) (ci := 6) (v := .ref (b 2)) (C := RX6) (T := TX6) (N := 8) hx hb hts hiX6 hown hK.1 hP 0 rfl rfl 2 (by decide) (hts (.fieldLink RX6 13 "IceLanesModel" "hut" "[I") (by decide +kernel)) (fun _ h9 => h9) rfl dX6_huts_12 ?_
        refine lv_iload_n hx hb dX6_huts_15 rfl (lv_at hl 2 rfl) ?_
        refine va_iald hx hb hK.1 hP 2 0 rfl rfl (by first | assumption | exact vp_in_nI (by omega) (by decide)) dX6_huts_16 ?_
        rw [nI_clamp (n := k) (by omega)]
        refine lv_iadd hx hb dX6_huts_17 ?_
        refine lv_istore_n (lv' := [(1, .int ((sumF (ω 2) k) + (ω 2 k))), (0, .ref (b 0)), (2, .int (nI k))]) hx hb dX6_huts_18 rfl hl (by decide) rfl (fun ls hl => ?_)
        refine lv_iinc (v := nI (k + 1)) (lv' := [(2, .int (nI (k + 1))), (1, .int ((sumF (ω 2) k) + (ω 2 k))), (0, .ref (b 0))]) hx hb dX6_huts_19 hl (k := 2) rfl (nI_1 k) (by decide) rfl (fun ls hl => ?_)
        refine lv_goto (tgt := 4) hx hb dX6_huts_22 (by decide) ?_
        exact ih4 (k + 1) (by omega) (by omega) ls (lv_sub hl [2, 1, 0] rfl)
  exact loop4 13 0 (by omega) (by omega) ls (lv_sub hl [2, 1, 0] rfl)
set_option maxHeartbeats 4000000 in
set_option maxRecDepth 100000 in
theorem M_X6_stakes (l : Launch) (D : va_G) (cI : ClassId) (b : Nat → Nat) (d : Nat → Nat) (d2 : Nat → Nat) (σ : St) (σ2 : St) (ω : St) (nw : Nat) (hnw : ω 19 0 = nI nw) (hw12 : nw ≤ 12) : Met l yX6_stakes wsX6_stakes ({ frames := 0, cells := 0, slots := 0, locals := 0 } : Room) (rdPc [.ref (b 0)] D (wMod b d d2 cI σ σ2 ω) [(cI, .int)]) (rdQi (sumF (ω 15) nw)) 0 0 (fun _ => False) := by
  refine Met.ofW (cc := cX6_stakes) (maxL := 3) (ret := (some .int)) (by decide) rfl ?_
  intro p e s m args below meth c s₁ B hml hv
  obtain ⟨hargs, hP, hK⟩ := hv
  have hx := B.exec
  have hb := B.bytes
  have hr := B.returns
  have hts := atoms_spec (ws := wsX6_stakes) B.pre
  have hown : s.vm.findClass RX6 = some m.cls := findClass_of_methodNamed B.named
  have hlocks := B.notSynchronized
  obtain ⟨_, hN⟩ := id hK
  have hiX6 : ∀ w ∈ wsX60, w ∈ wsX6_stakes := by decide +kernel
  refine my_abs (fun Q hQ => ?_)
  obtain ⟨ls, hl, hent⟩ := my_entry (m := m) (n := 3) hargs (Nat.le_of_ble_eq_true rfl)
  rw [hent]
  have hl : lv_has ls 3 [(0, .ref (b 0))] := hl
  show W p l e ({ frames := 0, cells := 0, slots := 0, locals := 0 } : Room) s m args below meth c s.heap [] 0 0 Q (F0 m 0 ls [])
  refine lv_iconst (v := 0) hx hb dX6_stakes_0 (by decide) ?_
  refine lv_istore_n (lv' := [(1, .int 0), (0, .ref (b 0))]) hx hb dX6_stakes_1 rfl hl (by decide) rfl (fun ls hl => ?_)
  refine lv_iconst (v := 0) hx hb dX6_stakes_2 (by decide) ?_
  refine lv_istore_n (lv' := [(2, .int 0), (1, .int 0), (0, .ref (b 0))]) hx hb dX6_stakes_3 rfl hl (by decide) rfl (fun ls hl => ?_)
  have loop4 : ∀ (n : Nat) (k : Nat), nw - k < n → k ≤ nw → ∀ (ls : Array Slot), lv_has ls 3 [(0, .ref (b 0)), (1, .int (sumF (ω 15) k)), (2, .int (nI k))] → W p l e ({ frames := 0, cells := 0, slots := 0, locals := 0 } : Room) s m args below meth c s.heap [] 0 0 Q (F0 m 4 ls []) := by
    intro n
    induction n with
    | zero => intro k  hf; exact absurd hf (Nat.not_lt_zero _)
    | succ n ih4 =>
      intro k  hf hk ls hl
      refine lv_iload_n hx hb dX6_stakes_4 rfl (lv_at hl 2 rfl) ?_
      refine lv_aload_n hx hb dX6_stakes_5 rfl (lv_at hl 0 rfl) ?_
      refine va_get (D := D) (ci := 6) (v := .int (ω 19 0)) (C := RX6) (T := TX6) (N := 8) hx hb hts hiX6 hown hK.1 hP 0 rfl rfl 3 (by decide) (hts (.fieldLink RX6 107 "IceLanesModel" "wagers" "I") (by decide +kernel)) (fun _ h9 => h9) rfl dX6_stakes_6 ?_
      refine lv_icmp_ge (tgt := 27) hx hb dX6_stakes_9 (by decide) (fun c_1 => ?_) (fun c_1 => ?_)
      · skip
        rw [hnw] at c_1
        have hk2 : nw ≤ k := lp_ge (N := nw) (k := k) c_1 (by omega) (by omega)
        refine lv_iload_n hx hb dX6_stakes_27 rfl (lv_at hl 1 rfl) ?_
        subst hQ
        exact ret_rdi hx hb hr rfl hlocks (show sumF (ω 15) k = sumF (ω 15) nw from (by rw [show k = nw by omega])) dX6_stakes_28
      · skip
        rw [hnw] at c_1
        have hk2 : k < nw := lp_nge (N := nw) (k := k) c_1 (by omega) (by omega)
        refine lv_iload_n hx hb dX6_stakes_12 rfl (lv_at hl 1 rfl) ?_
        refine lv_aload_n hx hb dX6_stakes_13 rfl (lv_at hl 0 rfl) ?_
        refine va_get (D := D) (ci := 6) (v := .ref (b 4)) (C := RX6) (T := TX6) (N := 8) hx hb hts hiX6 hown hK.1 hP 0 rfl rfl 5 (by decide) (hts (.fieldLink RX6 19 "IceLanesModel" "stake" "[I") (by decide +kernel)) (fun _ h9 => h9) rfl dX6_stakes_14 ?_
        refine lv_iload_n hx hb dX6_stakes_17 rfl (lv_at hl 2 rfl) ?_
        refine va_iald hx hb hK.1 hP 4 0 rfl rfl (by first | assumption | exact vp_in_nI (by omega) (by decide)) dX6_stakes_18 ?_
        rw [nI_clamp (n := k) (by omega)]
        refine lv_iadd hx hb dX6_stakes_19 ?_
        refine lv_istore_n (lv' := [(1, .int ((sumF (ω 15) k) + (ω 15 k))), (0, .ref (b 0)), (2, .int (nI k))]) hx hb dX6_stakes_20 rfl hl (by decide) rfl (fun ls hl => ?_)
        refine lv_iinc (v := nI (k + 1)) (lv' := [(2, .int (nI (k + 1))), (1, .int ((sumF (ω 15) k) + (ω 15 k))), (0, .ref (b 0))]) hx hb dX6_stakes_21 hl (k := 2) rfl (nI_1 k) (by decide) rfl (fun ls hl => ?_)
        refine lv_goto (tgt := 4) hx hb dX6_stakes_24 (by decide) ?_
        exact ih4 (k + 1) (by omega) (by omega) ls (lv_sub hl [2, 1, 0] rfl)
  exact loop4 (nw + 1) 0 (by omega) (by omega) ls (lv_sub hl [2, 1, 0] rfl)
set_option maxHeartbeats 4000000 in
set_option maxRecDepth 100000 in
theorem M_X6_borne (l : Launch) (D : va_G) (cI : ClassId) (b : Nat → Nat) (d : Nat → Nat) (d2 : Nat → Nat) (σ : St) (σ2 : St) (ω : St) (pp : Nat) (hpp : pp < 36) : Met l yX6_borne wsX6_borne ({ frames := 1, cells := 0, slots := 0, locals := 21 } : Room) (rdPc [.ref (b 0), .int (nI pp)] D (wMod b d d2 cI σ σ2 ω) [(cI, .int)]) (rdQi (mx 0 (sndP (σ 3) (σ 4) (nI pp)))) 0 0 (fun _ => False) := by
  refine Met.ofW (cc := cX6_borne) (maxL := 2) (ret := (some .int)) (by decide) rfl ?_
  intro p e s m args below meth c s₁ B hml hv
  obtain ⟨hargs, hP, hK⟩ := hv
  have hx := B.exec
  have hb := B.bytes
  have hr := B.returns
  have hts := atoms_spec (ws := wsX6_borne) B.pre
  have hown : s.vm.findClass RX6 = some m.cls := findClass_of_methodNamed B.named
  have hlocks := B.notSynchronized
  obtain ⟨_, hN⟩ := id hK
  have hiX6 : ∀ w ∈ wsX60, w ∈ wsX6_borne := by decide +kernel
  refine my_abs (fun Q hQ => ?_)
  obtain ⟨ls, hl, hent⟩ := my_entry (m := m) (n := 2) hargs (Nat.le_of_ble_eq_true rfl)
  rw [hent]
  have hl : lv_has ls 2 [(0, .ref (b 0)), (1, .int (nI pp))] := hl
  show W p l e ({ frames := 1, cells := 0, slots := 0, locals := 21 } : Room) s m args below meth c s.heap [] 0 0 Q (F0 m 0 ls [])
  refine lv_iconst (v := 0) hx hb dX6_borne_0 (by decide) ?_
  refine lv_aload_n hx hb dX6_borne_1 rfl (lv_at hl 0 rfl) ?_
  refine va_get (D := D) (ci := 6) (v := .ref (d 0)) (C := RX6) (T := TX6) (N := 8) hx hb hts hiX6 hown hK.1 hP 0 rfl rfl 6 (by decide) (hts (.fieldLink RX6 27 "IceLanesModel" "s" "LIceLanesModel$State;") (by decide +kernel)) (fun _ h9 => h9) rfl dX6_borne_2 ?_
  refine lv_iload_n hx hb dX6_borne_5 rfl (lv_at hl 1 rfl) ?_
  refine rd_i (va_runV (As := [.int (nI pp)]) (rest := [.int 0]) ⟨hx, hb, hml, hown, hts⟩ (M_X5_holds l D cI d (b 0) σ pp (by first | assumption | omega)) (cwV 1 hts gX6_borne_X5_holds rfl rfl rfl (by decide +kernel) ⟨Nat.le_of_ble_eq_true rfl, Nat.le_of_ble_eq_true rfl⟩) (rdV hK hP [5, 6, 7, 8] [0] rfl rfl (ci := 5) (q0 := 5) rfl rfl) rfl rfl hl.1 rfl (lv_room (Nat.le_of_ble_eq_true rfl)) dX6_borne_6 ⟨Nat.zero_le _, Nat.zero_le _⟩) ?_
  refine va_mmax hx hb (by rw [hml]; exact hl.1.symm) hown (hts (.methodLink RX6 69 Lib.Math.max.name) (by decide +kernel)) (hts (.static Lib.Math.max.name) (by decide +kernel)) (hts (.initialized "java/lang/Math") (by decide +kernel)) (hts (.code Lib.Math.max.name Lib.Math.max.code 2 (some .int)) (by decide +kernel)) (Nat.le_of_ble_eq_true rfl) (Nat.le_of_ble_eq_true rfl) (Nat.zero_le _) (Nat.zero_le _) dX6_borne_9 ?_
  refine W.eq (g2 := F0 m 12 ls [.int (mx 0 (sndP ((σ 3)) ((σ 4)) (nI pp)))]) rfl ?_
  subst hQ
  exact ret_rdi hx hb hr rfl hlocks (show mx 0 (sndP ((σ 3)) ((σ 4)) (nI pp)) = mx 0 (sndP (σ 3) (σ 4) (nI pp)) from rfl) dX6_borne_12
set_option maxHeartbeats 4000000 in
set_option maxRecDepth 100000 in
theorem M_X6_setWarm_e1 (l : Launch) (D : va_G) (cI : ClassId) (b : Nat → Nat) (d : Nat → Nat) (d2 : Nat → Nat) (σ : St) (σ2 : St) (ω : St) (p0 : Int32) (p1 : Int32) (sz : Nat) (h1 : ¬ (0 ≤ p0 ∧ p0 ≤ 13)) : Met l yX6_setWarm wsX6_setWarm ({ frames := 1, cells := 0, slots := 0, locals := 22 } : Room) (wrPc [.ref (b 0), .int p0, .int p1] D (wMod b d d2 cI σ σ2 ω) [(cI, .int)] sz) (wrQi 0 D (wMod b d d2 cI σ σ2 (put ω 20 (fun _ => 1))) (va_A (wMod b d d2 cI σ σ2 ω) sz)) 0 0 (va_A (wMod b d d2 cI σ σ2 ω) sz) := by
  refine Met.ofW (cc := cX6_setWarm) (maxL := 4) (ret := (some .int)) (by decide) rfl ?_
  intro p e s m args below meth c s₁ B hml hv
  obtain ⟨hargs, hsz, hP, hK, hD0⟩ := hv
  have hx := B.exec
  have hb := B.bytes
  have hr := B.returns
  have hts := atoms_spec (ws := wsX6_setWarm) B.pre
  have hown : s.vm.findClass RX6 = some m.cls := findClass_of_methodNamed B.named
  have hlocks := B.notSynchronized
  obtain ⟨_, hN⟩ := id hK
  have hiX6 : ∀ w ∈ wsX60, w ∈ wsX6_setWarm := by decide +kernel
  subst hsz
  have hD := hD0.self (sz := s.heap.size)
  generalize hAe : va_A (wMod b d d2 cI σ σ2 ω) s.heap.size = A at hD ⊢
  have hA : ∀ q : Nat, s.heap.size ≤ q → A q := fun q h => by rw [← hAe]; exact Or.inr h
  have hS : va_S A s.heap s.heap [] := va_S.rf
  have hP : va_P D vwCl (wMod b d d2 cI σ σ2 ω) s.heap := hP
  refine my_abs (fun Q hQ => ?_)
  obtain ⟨ls, hl, hent⟩ := my_entry (m := m) (n := 4) hargs (Nat.le_of_ble_eq_true rfl)
  rw [hent]
  have hl : lv_has ls 4 [(0, .ref (b 0)), (1, .int p0), (2, .int p1)] := hl
  show W p l e ({ frames := 1, cells := 0, slots := 0, locals := 22 } : Room) s m args below meth c s.heap [] 0 0 Q (F0 m 0 ls [])
  refine lv_aload_n hx hb dX6_setWarm_0 rfl (lv_at hl 0 rfl) ?_
  refine lv_iconst (v := 0) hx hb dX6_setWarm_1 (by decide) ?_
  refine va_put (D := D) (ci := 6) (v := .int 0) (ty := .int) (C := RX6) (T := TX6) (N := 8) hx hb hts hiX6 tyX6 tyX6_ok nmX6 hown hK.1 hP hD hS 0 rfl rfl 0 (by decide) (hts (.fieldLink RX6 43 "IceLanesModel" "thrown" "I") (by decide +kernel)) (fun _ h9 => h9) rfl (by decide +kernel) rfl rfl (Nat.le_of_ble_eq_true rfl) dX6_setWarm_2 (fun H locs hP hD hS => ?_)
  have hP : va_P D vwCl (wOutE b d d2 cI 0 (ω 19 0) (ω 1) (ω 2) (ω 14) (ω 15) ++ (wSta d (b 0) cI σ ++ wSta d2 (b 0) cI σ2)) H := hP
  have hD : va_D A (wOutE b d d2 cI 0 (ω 19 0) (ω 1) (ω 2) (ω 14) (ω 15) ++ (wSta d (b 0) cI σ ++ wSta d2 (b 0) cI σ2)) := hD
  refine lv_iload_n hx hb dX6_setWarm_5 rfl (lv_at hl 1 rfl) ?_
  refine lv_iconst (v := 0) hx hb dX6_setWarm_6 (by decide) ?_
  refine lv_bipush (v := 13) hx hb dX6_setWarm_7 (by decide) ?_
  refine rd_i (va_runS (As := [.int p0, .int 0, .int 13]) (rest := []) ⟨hx, hb, hml, hown, hts⟩ (M_X6_isIn l D cI p0 0 13 ) (va_cwS 3 hts gX6_setWarm_X6_isIn rfl rfl rfl (by decide +kernel) ⟨Nat.le_of_ble_eq_true rfl, Nat.le_of_ble_eq_true rfl⟩) (rdS hK hP [] [0] rfl rfl) rfl rfl hl.1 rfl (lv_room (Nat.le_of_ble_eq_true rfl)) dX6_setWarm_9 ⟨Nat.zero_le _, Nat.zero_le _⟩) ?_
  refine lv_if_ne (tgt := 21) hx hb dX6_setWarm_12 (by decide) (fun c_1 => ?_) (fun c_1 => ?_)
  · skip
    have c_1 : (0 ≤ p0 ∧ p0 ≤ 13) := bI_nz.mp c_1
    first | exact absurd c_1 (by assumption) | exact absurd (by assumption) c_1
  · skip
    have c_1 : ¬ (0 ≤ p0 ∧ p0 ≤ 13) := bI_z.mp c_1
    refine lv_aload_n hx hb dX6_setWarm_15 rfl (lv_at hl 0 rfl) ?_
    refine lv_iconst (v := 1) hx hb dX6_setWarm_16 (by decide) ?_
    refine wr_i (wn := wOutE b d d2 cI 1 (ω 19 0) (ω 1) (ω 2) (ω 14) (ω 15) ++ (wSta d (b 0) cI σ ++ wSta d2 (b 0) cI σ2)) (va_runV (As := [.int 1]) (rest := []) ⟨hx, hb, hml, hown, hts⟩ (M_X6_no l D cI b d d2 σ σ2 (put ω 20 (fun _ => 0)) 1 _ ) (cwV 1 hts gX6_setWarm_X6_no rfl rfl rfl (by decide +kernel) ⟨Nat.le_of_ble_eq_true rfl, Nat.le_of_ble_eq_true rfl⟩) (wrV hK hP hD [0, 1, 2, 3, 4, 5, 6, 7, 8, 9, 10, 11, 12] [0] rfl rfl rfl (ci := 6) (q0 := 0) rfl rfl) rfl rfl hl.1 rfl (lv_room (Nat.le_of_ble_eq_true rfl)) dX6_setWarm_17 ⟨Nat.le_of_ble_eq_true rfl, Nat.le_of_ble_eq_true rfl⟩) hP hD hS hA [0, 1, 2, 3, 4, 5, 6, 7, 8, 9, 10, 11, 12] [] [0, 1, 2, 3, 4, 5, 6, 7, 8, 9, 10, 11, 12] rfl rfl rfl rfl rfl rfl (fun H locs hP hD hS => ?_)
    refine W.eq (g2 := F0 m 20 ls [.int 0]) rfl ?_
    subst hQ
    have hP : va_P D vwCl (wMod b d d2 cI σ σ2 (put ω 20 (fun _ => 1))) H := hP
    have hD : va_D A (wMod b d d2 cI σ σ2 (put ω 20 (fun _ => 1))) := hD
    exact ret_wri hx hb hr rfl hlocks hP hD hS (show 0 = 0 from rfl) dX6_setWarm_20
set_option maxHeartbeats 4000000 in
set_option maxRecDepth 100000 in
theorem M_X6_setWarm_e2 (l : Launch) (D : va_G) (cI : ClassId) (b : Nat → Nat) (d : Nat → Nat) (d2 : Nat → Nat) (σ : St) (σ2 : St) (ω : St) (p0 : Int32) (p1 : Int32) (sz : Nat) (h1 : (0 ≤ p0 ∧ p0 ≤ 13)) (h2 : ¬ ((-9) ≤ p1 ∧ p1 ≤ 9)) : Met l yX6_setWarm wsX6_setWarm ({ frames := 1, cells := 0, slots := 0, locals := 22 } : Room) (wrPc [.ref (b 0), .int p0, .int p1] D (wMod b d d2 cI σ σ2 ω) [(cI, .int)] sz) (wrQi 0 D (wMod b d d2 cI σ σ2 (put ω 20 (fun _ => 2))) (va_A (wMod b d d2 cI σ σ2 ω) sz)) 0 0 (va_A (wMod b d d2 cI σ σ2 ω) sz) := by
  refine Met.ofW (cc := cX6_setWarm) (maxL := 4) (ret := (some .int)) (by decide) rfl ?_
  intro p e s m args below meth c s₁ B hml hv
  obtain ⟨hargs, hsz, hP, hK, hD0⟩ := hv
  have hx := B.exec
  have hb := B.bytes
  have hr := B.returns
  have hts := atoms_spec (ws := wsX6_setWarm) B.pre
  have hown : s.vm.findClass RX6 = some m.cls := findClass_of_methodNamed B.named
  have hlocks := B.notSynchronized
  obtain ⟨_, hN⟩ := id hK
  have hiX6 : ∀ w ∈ wsX60, w ∈ wsX6_setWarm := by decide +kernel
  subst hsz
  have hD := hD0.self (sz := s.heap.size)
  generalize hAe : va_A (wMod b d d2 cI σ σ2 ω) s.heap.size = A at hD ⊢
  have hA : ∀ q : Nat, s.heap.size ≤ q → A q := fun q h => by rw [← hAe]; exact Or.inr h
  have hS : va_S A s.heap s.heap [] := va_S.rf
  have hP : va_P D vwCl (wMod b d d2 cI σ σ2 ω) s.heap := hP
  refine my_abs (fun Q hQ => ?_)
  obtain ⟨ls, hl, hent⟩ := my_entry (m := m) (n := 4) hargs (Nat.le_of_ble_eq_true rfl)
  rw [hent]
  have hl : lv_has ls 4 [(0, .ref (b 0)), (1, .int p0), (2, .int p1)] := hl
  show W p l e ({ frames := 1, cells := 0, slots := 0, locals := 22 } : Room) s m args below meth c s.heap [] 0 0 Q (F0 m 0 ls [])
  refine lv_aload_n hx hb dX6_setWarm_0 rfl (lv_at hl 0 rfl) ?_
  refine lv_iconst (v := 0) hx hb dX6_setWarm_1 (by decide) ?_
  refine va_put (D := D) (ci := 6) (v := .int 0) (ty := .int) (C := RX6) (T := TX6) (N := 8) hx hb hts hiX6 tyX6 tyX6_ok nmX6 hown hK.1 hP hD hS 0 rfl rfl 0 (by decide) (hts (.fieldLink RX6 43 "IceLanesModel" "thrown" "I") (by decide +kernel)) (fun _ h9 => h9) rfl (by decide +kernel) rfl rfl (Nat.le_of_ble_eq_true rfl) dX6_setWarm_2 (fun H locs hP hD hS => ?_)
  have hP : va_P D vwCl (wOutE b d d2 cI 0 (ω 19 0) (ω 1) (ω 2) (ω 14) (ω 15) ++ (wSta d (b 0) cI σ ++ wSta d2 (b 0) cI σ2)) H := hP
  have hD : va_D A (wOutE b d d2 cI 0 (ω 19 0) (ω 1) (ω 2) (ω 14) (ω 15) ++ (wSta d (b 0) cI σ ++ wSta d2 (b 0) cI σ2)) := hD
  refine lv_iload_n hx hb dX6_setWarm_5 rfl (lv_at hl 1 rfl) ?_
  refine lv_iconst (v := 0) hx hb dX6_setWarm_6 (by decide) ?_
  refine lv_bipush (v := 13) hx hb dX6_setWarm_7 (by decide) ?_
  refine rd_i (va_runS (As := [.int p0, .int 0, .int 13]) (rest := []) ⟨hx, hb, hml, hown, hts⟩ (M_X6_isIn l D cI p0 0 13 ) (va_cwS 3 hts gX6_setWarm_X6_isIn rfl rfl rfl (by decide +kernel) ⟨Nat.le_of_ble_eq_true rfl, Nat.le_of_ble_eq_true rfl⟩) (rdS hK hP [] [0] rfl rfl) rfl rfl hl.1 rfl (lv_room (Nat.le_of_ble_eq_true rfl)) dX6_setWarm_9 ⟨Nat.zero_le _, Nat.zero_le _⟩) ?_
  refine lv_if_ne (tgt := 21) hx hb dX6_setWarm_12 (by decide) (fun c_1 => ?_) (fun c_1 => ?_)
  · skip
    have c_1 : (0 ≤ p0 ∧ p0 ≤ 13) := bI_nz.mp c_1
    refine lv_iload_n hx hb dX6_setWarm_21 rfl (lv_at hl 2 rfl) ?_
    refine lv_bipush (v := (-9)) hx hb dX6_setWarm_22 (by decide) ?_
    refine lv_bipush (v := 9) hx hb dX6_setWarm_24 (by decide) ?_
    refine rd_i (va_runS (As := [.int p1, .int (-9), .int 9]) (rest := []) ⟨hx, hb, hml, hown, hts⟩ (M_X6_isIn l D cI p1 (-9) 9 ) (va_cwS 3 hts gX6_setWarm_X6_isIn rfl rfl rfl (by decide +kernel) ⟨Nat.le_of_ble_eq_true rfl, Nat.le_of_ble_eq_true rfl⟩) (rdS hK hP [] [0] rfl rfl) rfl rfl hl.1 rfl (lv_room (Nat.le_of_ble_eq_true rfl)) dX6_setWarm_26 ⟨Nat.zero_le _, Nat.zero_le _⟩) ?_
    refine lv_if_ne (tgt := 38) hx hb dX6_setWarm_29 (by decide) (fun c_2 => ?_) (fun c_2 => ?_)
    · skip
      have c_2 : ((-9) ≤ p1 ∧ p1 ≤ 9) := bI_nz.mp c_2
      first | exact absurd c_2 (by assumption) | exact absurd (by assumption) c_2
    · skip
      have c_2 : ¬ ((-9) ≤ p1 ∧ p1 ≤ 9) := bI_z.mp c_2
      refine lv_aload_n hx hb dX6_setWarm_32 rfl (lv_at hl 0 rfl) ?_
      refine lv_iconst (v := 2) hx hb dX6_setWarm_33 (by decide) ?_
      refine wr_i (wn := wOutE b d d2 cI 2 (ω 19 0) (ω 1) (ω 2) (ω 14) (ω 15) ++ (wSta d (b 0) cI σ ++ wSta d2 (b 0) cI σ2)) (va_runV (As := [.int 2]) (rest := []) ⟨hx, hb, hml, hown, hts⟩ (M_X6_no l D cI b d d2 σ σ2 (put ω 20 (fun _ => 0)) 2 _ ) (cwV 1 hts gX6_setWarm_X6_no rfl rfl rfl (by decide +kernel) ⟨Nat.le_of_ble_eq_true rfl, Nat.le_of_ble_eq_true rfl⟩) (wrV hK hP hD [0, 1, 2, 3, 4, 5, 6, 7, 8, 9, 10, 11, 12] [0] rfl rfl rfl (ci := 6) (q0 := 0) rfl rfl) rfl rfl hl.1 rfl (lv_room (Nat.le_of_ble_eq_true rfl)) dX6_setWarm_34 ⟨Nat.le_of_ble_eq_true rfl, Nat.le_of_ble_eq_true rfl⟩) hP hD hS hA [0, 1, 2, 3, 4, 5, 6, 7, 8, 9, 10, 11, 12] [] [0, 1, 2, 3, 4, 5, 6, 7, 8, 9, 10, 11, 12] rfl rfl rfl rfl rfl rfl (fun H locs hP hD hS => ?_)
      refine W.eq (g2 := F0 m 37 ls [.int 0]) rfl ?_
      subst hQ
      have hP : va_P D vwCl (wMod b d d2 cI σ σ2 (put ω 20 (fun _ => 2))) H := hP
      have hD : va_D A (wMod b d d2 cI σ σ2 (put ω 20 (fun _ => 2))) := hD
      exact ret_wri hx hb hr rfl hlocks hP hD hS (show 0 = 0 from rfl) dX6_setWarm_37
  · skip
    have c_1 : ¬ (0 ≤ p0 ∧ p0 ≤ 13) := bI_z.mp c_1
    first | exact absurd c_1 (by assumption) | exact absurd (by assumption) c_1
set_option maxHeartbeats 4000000 in
set_option maxRecDepth 100000 in
theorem M_X6_setWarm_ok (l : Launch) (D : va_G) (cI : ClassId) (b : Nat → Nat) (d : Nat → Nat) (d2 : Nat → Nat) (σ : St) (σ2 : St) (ω : St) (dy : Nat) (p1 : Int32) (sz : Nat) (h0 : dy < 14) (h1 : (0 ≤ nI dy ∧ nI dy ≤ 13)) (h2 : ((-9) ≤ p1 ∧ p1 ≤ 9)) : Met l yX6_setWarm wsX6_setWarm ({ frames := 1, cells := 0, slots := 0, locals := 22 } : Room) (wrPc [.ref (b 0), .int (nI dy), .int p1] D (wMod b d d2 cI σ σ2 ω) [(cI, .int)] sz) (wrQi (ω 1 dy) D (wMod b d d2 cI σ σ2 (put (put ω 1 (upd (ω 1) dy p1)) 20 (fun _ => 0))) (va_A (wMod b d d2 cI σ σ2 ω) sz)) 0 0 (va_A (wMod b d d2 cI σ σ2 ω) sz) := by
  refine Met.ofW (cc := cX6_setWarm) (maxL := 4) (ret := (some .int)) (by decide) rfl ?_
  intro p e s m args below meth c s₁ B hml hv
  obtain ⟨hargs, hsz, hP, hK, hD0⟩ := hv
  have hx := B.exec
  have hb := B.bytes
  have hr := B.returns
  have hts := atoms_spec (ws := wsX6_setWarm) B.pre
  have hown : s.vm.findClass RX6 = some m.cls := findClass_of_methodNamed B.named
  have hlocks := B.notSynchronized
  obtain ⟨_, hN⟩ := id hK
  have hiX6 : ∀ w ∈ wsX60, w ∈ wsX6_setWarm := by decide +kernel
  subst hsz
  have hD := hD0.self (sz := s.heap.size)
  generalize hAe : va_A (wMod b d d2 cI σ σ2 ω) s.heap.size = A at hD ⊢
  have hA : ∀ q : Nat, s.heap.size ≤ q → A q := fun q h => by rw [← hAe]; exact Or.inr h
  have hS : va_S A s.heap s.heap [] := va_S.rf
  have hP : va_P D vwCl (wMod b d d2 cI σ σ2 ω) s.heap := hP
  refine my_abs (fun Q hQ => ?_)
  obtain ⟨ls, hl, hent⟩ := my_entry (m := m) (n := 4) hargs (Nat.le_of_ble_eq_true rfl)
  rw [hent]
  have hl : lv_has ls 4 [(0, .ref (b 0)), (1, .int (nI dy)), (2, .int p1)] := hl
  show W p l e ({ frames := 1, cells := 0, slots := 0, locals := 22 } : Room) s m args below meth c s.heap [] 0 0 Q (F0 m 0 ls [])
  refine lv_aload_n hx hb dX6_setWarm_0 rfl (lv_at hl 0 rfl) ?_
  refine lv_iconst (v := 0) hx hb dX6_setWarm_1 (by decide) ?_
  refine va_put (D := D) (ci := 6) (v := .int 0) (ty := .int) (C := RX6) (T := TX6) (N := 8) hx hb hts hiX6 tyX6 tyX6_ok nmX6 hown hK.1 hP hD hS 0 rfl rfl 0 (by decide) (hts (.fieldLink RX6 43 "IceLanesModel" "thrown" "I") (by decide +kernel)) (fun _ h9 => h9) rfl (by decide +kernel) rfl rfl (Nat.le_of_ble_eq_true rfl) dX6_setWarm_2 (fun H locs hP hD hS => ?_)
  have hP : va_P D vwCl (wOutE b d d2 cI 0 (ω 19 0) (ω 1) (ω 2) (ω 14) (ω 15) ++ (wSta d (b 0) cI σ ++ wSta d2 (b 0) cI σ2)) H := hP
  have hD : va_D A (wOutE b d d2 cI 0 (ω 19 0) (ω 1) (ω 2) (ω 14) (ω 15) ++ (wSta d (b 0) cI σ ++ wSta d2 (b 0) cI σ2)) := hD
  refine lv_iload_n hx hb dX6_setWarm_5 rfl (lv_at hl 1 rfl) ?_
  refine lv_iconst (v := 0) hx hb dX6_setWarm_6 (by decide) ?_
  refine lv_bipush (v := 13) hx hb dX6_setWarm_7 (by decide) ?_
  refine rd_i (va_runS (As := [.int (nI dy), .int 0, .int 13]) (rest := []) ⟨hx, hb, hml, hown, hts⟩ (M_X6_isIn l D cI (nI dy) 0 13 ) (va_cwS 3 hts gX6_setWarm_X6_isIn rfl rfl rfl (by decide +kernel) ⟨Nat.le_of_ble_eq_true rfl, Nat.le_of_ble_eq_true rfl⟩) (rdS hK hP [] [0] rfl rfl) rfl rfl hl.1 rfl (lv_room (Nat.le_of_ble_eq_true rfl)) dX6_setWarm_9 ⟨Nat.zero_le _, Nat.zero_le _⟩) ?_
  refine lv_if_ne (tgt := 21) hx hb dX6_setWarm_12 (by decide) (fun c_1 => ?_) (fun c_1 => ?_)
  · skip
    have c_1 : (0 ≤ (nI dy) ∧ (nI dy) ≤ 13) := bI_nz.mp c_1
    refine lv_iload_n hx hb dX6_setWarm_21 rfl (lv_at hl 2 rfl) ?_
    refine lv_bipush (v := (-9)) hx hb dX6_setWarm_22 (by decide) ?_
    refine lv_bipush (v := 9) hx hb dX6_setWarm_24 (by decide) ?_
    refine rd_i (va_runS (As := [.int p1, .int (-9), .int 9]) (rest := []) ⟨hx, hb, hml, hown, hts⟩ (M_X6_isIn l D cI p1 (-9) 9 ) (va_cwS 3 hts gX6_setWarm_X6_isIn rfl rfl rfl (by decide +kernel) ⟨Nat.le_of_ble_eq_true rfl, Nat.le_of_ble_eq_true rfl⟩) (rdS hK hP [] [0] rfl rfl) rfl rfl hl.1 rfl (lv_room (Nat.le_of_ble_eq_true rfl)) dX6_setWarm_26 ⟨Nat.zero_le _, Nat.zero_le _⟩) ?_
    refine lv_if_ne (tgt := 38) hx hb dX6_setWarm_29 (by decide) (fun c_2 => ?_) (fun c_2 => ?_)
    · skip
      have c_2 : ((-9) ≤ p1 ∧ p1 ≤ 9) := bI_nz.mp c_2
      refine lv_aload_n hx hb dX6_setWarm_38 rfl (lv_at hl 0 rfl) ?_
      refine va_get (D := D) (ci := 6) (v := .ref (b 1)) (C := RX6) (T := TX6) (N := 8) hx hb hts hiX6 hown hK.1 hP 0 rfl rfl 1 (by decide) (hts (.fieldLink RX6 9 "IceLanesModel" "warm" "[I") (by decide +kernel)) (fun _ h9 => h9) rfl dX6_setWarm_39 ?_
      refine lv_iload_n hx hb dX6_setWarm_42 rfl (lv_at hl 1 rfl) ?_
      refine va_iald hx hb hK.1 hP 1 0 rfl rfl (by first | assumption | exact vp_in_nI (by omega) (by decide)) dX6_setWarm_43 ?_
      rw [nI_clamp (n := dy) (by omega)]
      refine lv_istore_n (lv' := [(3, .int (ω 1 dy)), (0, .ref (b 0)), (1, .int (nI dy)), (2, .int p1)]) hx hb dX6_setWarm_44 rfl hl (by decide) rfl (fun ls hl => ?_)
      refine lv_aload_n hx hb dX6_setWarm_45 rfl (lv_at hl 1 rfl) ?_
      refine va_get (D := D) (ci := 6) (v := .ref (b 1)) (C := RX6) (T := TX6) (N := 8) hx hb hts hiX6 hown hK.1 hP 0 rfl rfl 1 (by decide) (hts (.fieldLink RX6 9 "IceLanesModel" "warm" "[I") (by decide +kernel)) (fun _ h9 => h9) rfl dX6_setWarm_46 ?_
      refine lv_iload_n hx hb dX6_setWarm_49 rfl (lv_at hl 2 rfl) ?_
      refine lv_iload_n hx hb dX6_setWarm_50 rfl (lv_at hl 3 rfl) ?_
      refine va_iast hx hb hK.1 hP hD hS 1 0 rfl rfl (by first | assumption | exact vp_in_nI (by omega) (by decide)) dX6_setWarm_51 (fun H locs hP hD hS => ?_)
      rw [nI_clamp (n := dy) (by omega)] at hP hD
      have hP : va_P D vwCl (wOutE b d d2 cI 0 (ω 19 0) (upd (ω 1) dy p1) (ω 2) (ω 14) (ω 15) ++ (wSta d (b 0) cI σ ++ wSta d2 (b 0) cI σ2)) H := hP
      have hD : va_D A (wOutE b d d2 cI 0 (ω 19 0) (upd (ω 1) dy p1) (ω 2) (ω 14) (ω 15) ++ (wSta d (b 0) cI σ ++ wSta d2 (b 0) cI σ2)) := hD
      refine lv_iload_n hx hb dX6_setWarm_52 rfl (lv_at hl 0 rfl) ?_
      subst hQ
      have hP : va_P D vwCl (wMod b d d2 cI σ σ2 (put (put ω 1 (upd (ω 1) dy p1)) 20 (fun _ => 0))) H := hP
      have hD : va_D A (wMod b d d2 cI σ σ2 (put (put ω 1 (upd (ω 1) dy p1)) 20 (fun _ => 0))) := hD
      exact ret_wri hx hb hr rfl hlocks hP hD hS (show ω 1 dy = ω 1 dy from rfl) dX6_setWarm_53
    · skip
      have c_2 : ¬ ((-9) ≤ p1 ∧ p1 ≤ 9) := bI_z.mp c_2
      first | exact absurd c_2 (by assumption) | exact absurd (by assumption) c_2
  · skip
    have c_1 : ¬ (0 ≤ (nI dy) ∧ (nI dy) ≤ 13) := bI_z.mp c_1
    first | exact absurd c_1 (by assumption) | exact absurd (by assumption) c_1
set_option maxHeartbeats 4000000 in
set_option maxRecDepth 100000 in
theorem M_X6_setIce_e1 (l : Launch) (D : va_G) (cI : ClassId) (b : Nat → Nat) (d : Nat → Nat) (d2 : Nat → Nat) (σ : St) (σ2 : St) (ω : St) (p0 : Int32) (p1 : Int32) (p2 : Int32) (sz : Nat) (h1 : ¬ ((0 ≤ p0 ∧ p0 ≤ 11) ∧ (0 ≤ p1 ∧ p1 ≤ 2))) : Met l yX6_setIce wsX6_setIce ({ frames := 2, cells := 0, slots := 0, locals := 43 } : Room) (wrPc [.ref (b 0), .int p0, .int p1, .int p2] D (wMod b d d2 cI σ σ2 ω) [(cI, .int)] sz) (wrQi 0 D (wMod b d d2 cI σ σ2 (put ω 20 (fun _ => 1))) (va_A (wMod b d d2 cI σ σ2 ω) sz)) 0 0 (va_A (wMod b d d2 cI σ σ2 ω) sz) := by
  refine Met.ofW (cc := cX6_setIce) (maxL := 5) (ret := (some .int)) (by decide) rfl ?_
  intro p e s m args below meth c s₁ B hml hv
  obtain ⟨hargs, hsz, hP, hK, hD0⟩ := hv
  have hx := B.exec
  have hb := B.bytes
  have hr := B.returns
  have hts := atoms_spec (ws := wsX6_setIce) B.pre
  have hown : s.vm.findClass RX6 = some m.cls := findClass_of_methodNamed B.named
  have hlocks := B.notSynchronized
  obtain ⟨_, hN⟩ := id hK
  have hiX6 : ∀ w ∈ wsX60, w ∈ wsX6_setIce := by decide +kernel
  subst hsz
  have hD := hD0.self (sz := s.heap.size)
  generalize hAe : va_A (wMod b d d2 cI σ σ2 ω) s.heap.size = A at hD ⊢
  have hA : ∀ q : Nat, s.heap.size ≤ q → A q := fun q h => by rw [← hAe]; exact Or.inr h
  have hS : va_S A s.heap s.heap [] := va_S.rf
  have hP : va_P D vwCl (wMod b d d2 cI σ σ2 ω) s.heap := hP
  refine my_abs (fun Q hQ => ?_)
  obtain ⟨ls, hl, hent⟩ := my_entry (m := m) (n := 5) hargs (Nat.le_of_ble_eq_true rfl)
  rw [hent]
  have hl : lv_has ls 5 [(0, .ref (b 0)), (1, .int p0), (2, .int p1), (3, .int p2)] := hl
  show W p l e ({ frames := 2, cells := 0, slots := 0, locals := 43 } : Room) s m args below meth c s.heap [] 0 0 Q (F0 m 0 ls [])
  refine lv_aload_n hx hb dX6_setIce_0 rfl (lv_at hl 0 rfl) ?_
  refine lv_iconst (v := 0) hx hb dX6_setIce_1 (by decide) ?_
  refine va_put (D := D) (ci := 6) (v := .int 0) (ty := .int) (C := RX6) (T := TX6) (N := 8) hx hb hts hiX6 tyX6 tyX6_ok nmX6 hown hK.1 hP hD hS 0 rfl rfl 0 (by decide) (hts (.fieldLink RX6 43 "IceLanesModel" "thrown" "I") (by decide +kernel)) (fun _ h9 => h9) rfl (by decide +kernel) rfl rfl (Nat.le_of_ble_eq_true rfl) dX6_setIce_2 (fun H locs hP hD hS => ?_)
  have hP : va_P D vwCl (wOutE b d d2 cI 0 (ω 19 0) (ω 1) (ω 2) (ω 14) (ω 15) ++ (wSta d (b 0) cI σ ++ wSta d2 (b 0) cI σ2)) H := hP
  have hD : va_D A (wOutE b d d2 cI 0 (ω 19 0) (ω 1) (ω 2) (ω 14) (ω 15) ++ (wSta d (b 0) cI σ ++ wSta d2 (b 0) cI σ2)) := hD
  refine lv_iload_n hx hb dX6_setIce_5 rfl (lv_at hl 1 rfl) ?_
  refine lv_iload_n hx hb dX6_setIce_6 rfl (lv_at hl 2 rfl) ?_
  refine rd_i (va_runS (As := [.int p0, .int p1]) (rest := []) ⟨hx, hb, hml, hown, hts⟩ (M_X6_isPlace l D cI p0 p1 ) (va_cwS 2 hts gX6_setIce_X6_isPlace rfl rfl rfl (by decide +kernel) ⟨Nat.le_of_ble_eq_true rfl, Nat.le_of_ble_eq_true rfl⟩) (rdS hK hP [] [0] rfl rfl) rfl rfl hl.1 rfl (lv_room (Nat.le_of_ble_eq_true rfl)) dX6_setIce_7 ⟨Nat.zero_le _, Nat.zero_le _⟩) ?_
  refine lv_if_ne (tgt := 19) hx hb dX6_setIce_10 (by decide) (fun c_1 => ?_) (fun c_1 => ?_)
  · skip
    have c_1 : ((0 ≤ p0 ∧ p0 ≤ 11) ∧ (0 ≤ p1 ∧ p1 ≤ 2)) := bI_nz.mp c_1
    first | exact absurd c_1 (by assumption) | exact absurd (by assumption) c_1
  · skip
    have c_1 : ¬ ((0 ≤ p0 ∧ p0 ≤ 11) ∧ (0 ≤ p1 ∧ p1 ≤ 2)) := bI_z.mp c_1
    refine lv_aload_n hx hb dX6_setIce_13 rfl (lv_at hl 0 rfl) ?_
    refine lv_iconst (v := 1) hx hb dX6_setIce_14 (by decide) ?_
    refine wr_i (wn := wOutE b d d2 cI 1 (ω 19 0) (ω 1) (ω 2) (ω 14) (ω 15) ++ (wSta d (b 0) cI σ ++ wSta d2 (b 0) cI σ2)) (va_runV (As := [.int 1]) (rest := []) ⟨hx, hb, hml, hown, hts⟩ (M_X6_no l D cI b d d2 σ σ2 (put ω 20 (fun _ => 0)) 1 _ ) (cwV 1 hts gX6_setIce_X6_no rfl rfl rfl (by decide +kernel) ⟨Nat.le_of_ble_eq_true rfl, Nat.le_of_ble_eq_true rfl⟩) (wrV hK hP hD [0, 1, 2, 3, 4, 5, 6, 7, 8, 9, 10, 11, 12] [0] rfl rfl rfl (ci := 6) (q0 := 0) rfl rfl) rfl rfl hl.1 rfl (lv_room (Nat.le_of_ble_eq_true rfl)) dX6_setIce_15 ⟨Nat.le_of_ble_eq_true rfl, Nat.le_of_ble_eq_true rfl⟩) hP hD hS hA [0, 1, 2, 3, 4, 5, 6, 7, 8, 9, 10, 11, 12] [] [0, 1, 2, 3, 4, 5, 6, 7, 8, 9, 10, 11, 12] rfl rfl rfl rfl rfl rfl (fun H locs hP hD hS => ?_)
    refine W.eq (g2 := F0 m 18 ls [.int 0]) rfl ?_
    subst hQ
    have hP : va_P D vwCl (wMod b d d2 cI σ σ2 (put ω 20 (fun _ => 1))) H := hP
    have hD : va_D A (wMod b d d2 cI σ σ2 (put ω 20 (fun _ => 1))) := hD
    exact ret_wri hx hb hr rfl hlocks hP hD hS (show 0 = 0 from rfl) dX6_setIce_18
set_option maxHeartbeats 4000000 in
set_option maxRecDepth 100000 in
theorem M_X6_setIce_e2 (l : Launch) (D : va_G) (cI : ClassId) (b : Nat → Nat) (d : Nat → Nat) (d2 : Nat → Nat) (σ : St) (σ2 : St) (ω : St) (p0 : Int32) (p1 : Int32) (p2 : Int32) (sz : Nat) (h1 : ((0 ≤ p0 ∧ p0 ≤ 11) ∧ (0 ≤ p1 ∧ p1 ≤ 2))) (h2 : ¬ (0 ≤ p2 ∧ p2 ≤ 60)) : Met l yX6_setIce wsX6_setIce ({ frames := 2, cells := 0, slots := 0, locals := 43 } : Room) (wrPc [.ref (b 0), .int p0, .int p1, .int p2] D (wMod b d d2 cI σ σ2 ω) [(cI, .int)] sz) (wrQi 0 D (wMod b d d2 cI σ σ2 (put ω 20 (fun _ => 2))) (va_A (wMod b d d2 cI σ σ2 ω) sz)) 0 0 (va_A (wMod b d d2 cI σ σ2 ω) sz) := by
  refine Met.ofW (cc := cX6_setIce) (maxL := 5) (ret := (some .int)) (by decide) rfl ?_
  intro p e s m args below meth c s₁ B hml hv
  obtain ⟨hargs, hsz, hP, hK, hD0⟩ := hv
  have hx := B.exec
  have hb := B.bytes
  have hr := B.returns
  have hts := atoms_spec (ws := wsX6_setIce) B.pre
  have hown : s.vm.findClass RX6 = some m.cls := findClass_of_methodNamed B.named
  have hlocks := B.notSynchronized
  obtain ⟨_, hN⟩ := id hK
  have hiX6 : ∀ w ∈ wsX60, w ∈ wsX6_setIce := by decide +kernel
  subst hsz
  have hD := hD0.self (sz := s.heap.size)
  generalize hAe : va_A (wMod b d d2 cI σ σ2 ω) s.heap.size = A at hD ⊢
  have hA : ∀ q : Nat, s.heap.size ≤ q → A q := fun q h => by rw [← hAe]; exact Or.inr h
  have hS : va_S A s.heap s.heap [] := va_S.rf
  have hP : va_P D vwCl (wMod b d d2 cI σ σ2 ω) s.heap := hP
  refine my_abs (fun Q hQ => ?_)
  obtain ⟨ls, hl, hent⟩ := my_entry (m := m) (n := 5) hargs (Nat.le_of_ble_eq_true rfl)
  rw [hent]
  have hl : lv_has ls 5 [(0, .ref (b 0)), (1, .int p0), (2, .int p1), (3, .int p2)] := hl
  show W p l e ({ frames := 2, cells := 0, slots := 0, locals := 43 } : Room) s m args below meth c s.heap [] 0 0 Q (F0 m 0 ls [])
  refine lv_aload_n hx hb dX6_setIce_0 rfl (lv_at hl 0 rfl) ?_
  refine lv_iconst (v := 0) hx hb dX6_setIce_1 (by decide) ?_
  refine va_put (D := D) (ci := 6) (v := .int 0) (ty := .int) (C := RX6) (T := TX6) (N := 8) hx hb hts hiX6 tyX6 tyX6_ok nmX6 hown hK.1 hP hD hS 0 rfl rfl 0 (by decide) (hts (.fieldLink RX6 43 "IceLanesModel" "thrown" "I") (by decide +kernel)) (fun _ h9 => h9) rfl (by decide +kernel) rfl rfl (Nat.le_of_ble_eq_true rfl) dX6_setIce_2 (fun H locs hP hD hS => ?_)
  have hP : va_P D vwCl (wOutE b d d2 cI 0 (ω 19 0) (ω 1) (ω 2) (ω 14) (ω 15) ++ (wSta d (b 0) cI σ ++ wSta d2 (b 0) cI σ2)) H := hP
  have hD : va_D A (wOutE b d d2 cI 0 (ω 19 0) (ω 1) (ω 2) (ω 14) (ω 15) ++ (wSta d (b 0) cI σ ++ wSta d2 (b 0) cI σ2)) := hD
  refine lv_iload_n hx hb dX6_setIce_5 rfl (lv_at hl 1 rfl) ?_
  refine lv_iload_n hx hb dX6_setIce_6 rfl (lv_at hl 2 rfl) ?_
  refine rd_i (va_runS (As := [.int p0, .int p1]) (rest := []) ⟨hx, hb, hml, hown, hts⟩ (M_X6_isPlace l D cI p0 p1 ) (va_cwS 2 hts gX6_setIce_X6_isPlace rfl rfl rfl (by decide +kernel) ⟨Nat.le_of_ble_eq_true rfl, Nat.le_of_ble_eq_true rfl⟩) (rdS hK hP [] [0] rfl rfl) rfl rfl hl.1 rfl (lv_room (Nat.le_of_ble_eq_true rfl)) dX6_setIce_7 ⟨Nat.zero_le _, Nat.zero_le _⟩) ?_
  refine lv_if_ne (tgt := 19) hx hb dX6_setIce_10 (by decide) (fun c_1 => ?_) (fun c_1 => ?_)
  · skip
    have c_1 : ((0 ≤ p0 ∧ p0 ≤ 11) ∧ (0 ≤ p1 ∧ p1 ≤ 2)) := bI_nz.mp c_1
    refine lv_iload_n hx hb dX6_setIce_19 rfl (lv_at hl 3 rfl) ?_
    refine lv_iconst (v := 0) hx hb dX6_setIce_20 (by decide) ?_
    refine lv_bipush (v := 60) hx hb dX6_setIce_21 (by decide) ?_
    refine rd_i (va_runS (As := [.int p2, .int 0, .int 60]) (rest := []) ⟨hx, hb, hml, hown, hts⟩ (M_X6_isIn l D cI p2 0 60 ) (va_cwS 3 hts gX6_setIce_X6_isIn rfl rfl rfl (by decide +kernel) ⟨Nat.le_of_ble_eq_true rfl, Nat.le_of_ble_eq_true rfl⟩) (rdS hK hP [] [0] rfl rfl) rfl rfl hl.1 rfl (lv_room (Nat.le_of_ble_eq_true rfl)) dX6_setIce_23 ⟨Nat.zero_le _, Nat.zero_le _⟩) ?_
    refine lv_if_ne (tgt := 35) hx hb dX6_setIce_26 (by decide) (fun c_2 => ?_) (fun c_2 => ?_)
    · skip
      have c_2 : (0 ≤ p2 ∧ p2 ≤ 60) := bI_nz.mp c_2
      first | exact absurd c_2 (by assumption) | exact absurd (by assumption) c_2
    · skip
      have c_2 : ¬ (0 ≤ p2 ∧ p2 ≤ 60) := bI_z.mp c_2
      refine lv_aload_n hx hb dX6_setIce_29 rfl (lv_at hl 0 rfl) ?_
      refine lv_iconst (v := 2) hx hb dX6_setIce_30 (by decide) ?_
      refine wr_i (wn := wOutE b d d2 cI 2 (ω 19 0) (ω 1) (ω 2) (ω 14) (ω 15) ++ (wSta d (b 0) cI σ ++ wSta d2 (b 0) cI σ2)) (va_runV (As := [.int 2]) (rest := []) ⟨hx, hb, hml, hown, hts⟩ (M_X6_no l D cI b d d2 σ σ2 (put ω 20 (fun _ => 0)) 2 _ ) (cwV 1 hts gX6_setIce_X6_no rfl rfl rfl (by decide +kernel) ⟨Nat.le_of_ble_eq_true rfl, Nat.le_of_ble_eq_true rfl⟩) (wrV hK hP hD [0, 1, 2, 3, 4, 5, 6, 7, 8, 9, 10, 11, 12] [0] rfl rfl rfl (ci := 6) (q0 := 0) rfl rfl) rfl rfl hl.1 rfl (lv_room (Nat.le_of_ble_eq_true rfl)) dX6_setIce_31 ⟨Nat.le_of_ble_eq_true rfl, Nat.le_of_ble_eq_true rfl⟩) hP hD hS hA [0, 1, 2, 3, 4, 5, 6, 7, 8, 9, 10, 11, 12] [] [0, 1, 2, 3, 4, 5, 6, 7, 8, 9, 10, 11, 12] rfl rfl rfl rfl rfl rfl (fun H locs hP hD hS => ?_)
      refine W.eq (g2 := F0 m 34 ls [.int 0]) rfl ?_
      subst hQ
      have hP : va_P D vwCl (wMod b d d2 cI σ σ2 (put ω 20 (fun _ => 2))) H := hP
      have hD : va_D A (wMod b d d2 cI σ σ2 (put ω 20 (fun _ => 2))) := hD
      exact ret_wri hx hb hr rfl hlocks hP hD hS (show 0 = 0 from rfl) dX6_setIce_34
  · skip
    have c_1 : ¬ ((0 ≤ p0 ∧ p0 ≤ 11) ∧ (0 ≤ p1 ∧ p1 ≤ 2)) := bI_z.mp c_1
    first | exact absurd c_1 (by assumption) | exact absurd (by assumption) c_1
set_option maxHeartbeats 4000000 in
set_option maxRecDepth 100000 in
theorem M_X6_setIce_ok (l : Launch) (D : va_G) (cI : ClassId) (b : Nat → Nat) (d : Nat → Nat) (d2 : Nat → Nat) (σ : St) (σ2 : St) (ω : St) (sn : Nat) (ln : Nat) (p2 : Int32) (sz : Nat) (hs : sn < 12) (hl9 : ln < 3) (h1 : ((0 ≤ nI sn ∧ nI sn ≤ 11) ∧ (0 ≤ nI ln ∧ nI ln ≤ 2))) (h2 : (0 ≤ p2 ∧ p2 ≤ 60)) : Met l yX6_setIce wsX6_setIce ({ frames := 2, cells := 0, slots := 0, locals := 43 } : Room) (wrPc [.ref (b 0), .int (nI sn), .int (nI ln), .int p2] D (wMod b d d2 cI σ σ2 ω) [(cI, .int)] sz) (wrQi (σ 3 (3 * sn + ln)) D (wMod b d d2 cI (put σ 3 (upd (σ 3) (3 * sn + ln) p2)) σ2 (put ω 20 (fun _ => 0))) (va_A (wMod b d d2 cI σ σ2 ω) sz)) 0 0 (va_A (wMod b d d2 cI σ σ2 ω) sz) := by
  refine Met.ofW (cc := cX6_setIce) (maxL := 5) (ret := (some .int)) (by decide) rfl ?_
  intro p e s m args below meth c s₁ B hml hv
  obtain ⟨hargs, hsz, hP, hK, hD0⟩ := hv
  have hx := B.exec
  have hb := B.bytes
  have hr := B.returns
  have hts := atoms_spec (ws := wsX6_setIce) B.pre
  have hown : s.vm.findClass RX6 = some m.cls := findClass_of_methodNamed B.named
  have hlocks := B.notSynchronized
  obtain ⟨_, hN⟩ := id hK
  have hiX5 : ∀ w ∈ wsX50, w ∈ wsX6_setIce := by decide +kernel
  have hiX6 : ∀ w ∈ wsX60, w ∈ wsX6_setIce := by decide +kernel
  subst hsz
  have hD := hD0.self (sz := s.heap.size)
  generalize hAe : va_A (wMod b d d2 cI σ σ2 ω) s.heap.size = A at hD ⊢
  have hA : ∀ q : Nat, s.heap.size ≤ q → A q := fun q h => by rw [← hAe]; exact Or.inr h
  have hS : va_S A s.heap s.heap [] := va_S.rf
  have hP : va_P D vwCl (wMod b d d2 cI σ σ2 ω) s.heap := hP
  refine my_abs (fun Q hQ => ?_)
  obtain ⟨ls, hl, hent⟩ := my_entry (m := m) (n := 5) hargs (Nat.le_of_ble_eq_true rfl)
  rw [hent]
  have hl : lv_has ls 5 [(0, .ref (b 0)), (1, .int (nI sn)), (2, .int (nI ln)), (3, .int p2)] := hl
  show W p l e ({ frames := 2, cells := 0, slots := 0, locals := 43 } : Room) s m args below meth c s.heap [] 0 0 Q (F0 m 0 ls [])
  refine lv_aload_n hx hb dX6_setIce_0 rfl (lv_at hl 0 rfl) ?_
  refine lv_iconst (v := 0) hx hb dX6_setIce_1 (by decide) ?_
  refine va_put (D := D) (ci := 6) (v := .int 0) (ty := .int) (C := RX6) (T := TX6) (N := 8) hx hb hts hiX6 tyX6 tyX6_ok nmX6 hown hK.1 hP hD hS 0 rfl rfl 0 (by decide) (hts (.fieldLink RX6 43 "IceLanesModel" "thrown" "I") (by decide +kernel)) (fun _ h9 => h9) rfl (by decide +kernel) rfl rfl (Nat.le_of_ble_eq_true rfl) dX6_setIce_2 (fun H locs hP hD hS => ?_)
  have hP : va_P D vwCl (wOutE b d d2 cI 0 (ω 19 0) (ω 1) (ω 2) (ω 14) (ω 15) ++ (wSta d (b 0) cI σ ++ wSta d2 (b 0) cI σ2)) H := hP
  have hD : va_D A (wOutE b d d2 cI 0 (ω 19 0) (ω 1) (ω 2) (ω 14) (ω 15) ++ (wSta d (b 0) cI σ ++ wSta d2 (b 0) cI σ2)) := hD
  refine lv_iload_n hx hb dX6_setIce_5 rfl (lv_at hl 1 rfl) ?_
  refine lv_iload_n hx hb dX6_setIce_6 rfl (lv_at hl 2 rfl) ?_
  refine rd_i (va_runS (As := [.int (nI sn), .int (nI ln)]) (rest := []) ⟨hx, hb, hml, hown, hts⟩ (M_X6_isPlace l D cI (nI sn) (nI ln) ) (va_cwS 2 hts gX6_setIce_X6_isPlace rfl rfl rfl (by decide +kernel) ⟨Nat.le_of_ble_eq_true rfl, Nat.le_of_ble_eq_true rfl⟩) (rdS hK hP [] [0] rfl rfl) rfl rfl hl.1 rfl (lv_room (Nat.le_of_ble_eq_true rfl)) dX6_setIce_7 ⟨Nat.zero_le _, Nat.zero_le _⟩) ?_
  refine lv_if_ne (tgt := 19) hx hb dX6_setIce_10 (by decide) (fun c_1 => ?_) (fun c_1 => ?_)
  · skip
    have c_1 : ((0 ≤ (nI sn) ∧ (nI sn) ≤ 11) ∧ (0 ≤ (nI ln) ∧ (nI ln) ≤ 2)) := bI_nz.mp c_1
    refine lv_iload_n hx hb dX6_setIce_19 rfl (lv_at hl 3 rfl) ?_
    refine lv_iconst (v := 0) hx hb dX6_setIce_20 (by decide) ?_
    refine lv_bipush (v := 60) hx hb dX6_setIce_21 (by decide) ?_
    refine rd_i (va_runS (As := [.int p2, .int 0, .int 60]) (rest := []) ⟨hx, hb, hml, hown, hts⟩ (M_X6_isIn l D cI p2 0 60 ) (va_cwS 3 hts gX6_setIce_X6_isIn rfl rfl rfl (by decide +kernel) ⟨Nat.le_of_ble_eq_true rfl, Nat.le_of_ble_eq_true rfl⟩) (rdS hK hP [] [0] rfl rfl) rfl rfl hl.1 rfl (lv_room (Nat.le_of_ble_eq_true rfl)) dX6_setIce_23 ⟨Nat.zero_le _, Nat.zero_le _⟩) ?_
    refine lv_if_ne (tgt := 35) hx hb dX6_setIce_26 (by decide) (fun c_2 => ?_) (fun c_2 => ?_)
    · skip
      have c_2 : (0 ≤ p2 ∧ p2 ≤ 60) := bI_nz.mp c_2
      refine lv_aload_n hx hb dX6_setIce_35 rfl (lv_at hl 0 rfl) ?_
      refine va_get (D := D) (ci := 6) (v := .ref (d 0)) (C := RX6) (T := TX6) (N := 8) hx hb hts hiX6 hown hK.1 hP 0 rfl rfl 6 (by decide) (hts (.fieldLink RX6 27 "IceLanesModel" "s" "LIceLanesModel$State;") (by decide +kernel)) (fun _ h9 => h9) rfl dX6_setIce_36 ?_
      refine va_getN (D := D) (ci := 5) (v := .ref (d 1)) (C := RX5) (T := TX5) (N := 8) hx hb hts hiX5 hown hK.1 hP 5 rfl rfl 4 (by decide) (va_Nw.use rfl (nX6_40 hN)) (fun _ h9 => h9) rfl dX6_setIce_39 ?_
      refine lv_iconst (v := 3) hx hb dX6_setIce_42 (by decide) ?_
      refine lv_iload_n hx hb dX6_setIce_43 rfl (lv_at hl 1 rfl) ?_
      refine lv_imul hx hb dX6_setIce_44 ?_
      refine lv_iload_n hx hb dX6_setIce_45 rfl (lv_at hl 2 rfl) ?_
      refine lv_iadd hx hb dX6_setIce_46 ?_
      rw [pl_nI2 sn ln]
      refine va_iald hx hb hK.1 hP 6 0 rfl rfl (by first | assumption | exact vp_in_nI (by omega) (by decide)) dX6_setIce_47 ?_
      rw [nI_clamp (n := (3 * sn + ln)) (by omega)]
      refine lv_istore (lv' := [(4, .int (σ 3 (3 * sn + ln))), (0, .ref (b 0)), (1, .int (nI sn)), (2, .int (nI ln)), (3, .int p2)]) hx hb dX6_setIce_48 hl (by decide) rfl (fun ls hl => ?_)
      refine lv_aload_n hx hb dX6_setIce_50 rfl (lv_at hl 1 rfl) ?_
      refine va_get (D := D) (ci := 6) (v := .ref (d 0)) (C := RX6) (T := TX6) (N := 8) hx hb hts hiX6 hown hK.1 hP 0 rfl rfl 6 (by decide) (hts (.fieldLink RX6 27 "IceLanesModel" "s" "LIceLanesModel$State;") (by decide +kernel)) (fun _ h9 => h9) rfl dX6_setIce_51 ?_
      refine va_getN (D := D) (ci := 5) (v := .ref (d 1)) (C := RX5) (T := TX5) (N := 8) hx hb hts hiX5 hown hK.1 hP 5 rfl rfl 4 (by decide) (va_Nw.use rfl (nX6_40 hN)) (fun _ h9 => h9) rfl dX6_setIce_54 ?_
      refine lv_iconst (v := 3) hx hb dX6_setIce_57 (by decide) ?_
      refine lv_iload_n hx hb dX6_setIce_58 rfl (lv_at hl 2 rfl) ?_
      refine lv_imul hx hb dX6_setIce_59 ?_
      refine lv_iload_n hx hb dX6_setIce_60 rfl (lv_at hl 3 rfl) ?_
      refine lv_iadd hx hb dX6_setIce_61 ?_
      rw [pl_nI2 sn ln]
      refine lv_iload_n hx hb dX6_setIce_62 rfl (lv_at hl 4 rfl) ?_
      refine va_iast hx hb hK.1 hP hD hS 6 0 rfl rfl (by first | assumption | exact vp_in_nI (by omega) (by decide)) dX6_setIce_63 (fun H locs hP hD hS => ?_)
      rw [nI_clamp (n := (3 * sn + ln)) (by omega)] at hP hD
      have hP : va_P D vwCl (wOutE b d d2 cI 0 (ω 19 0) (ω 1) (ω 2) (ω 14) (ω 15) ++ (wStaE d (b 0) cI (σ 0 0) (σ 17 0) (σ 16 0) (σ 18 0) (upd (σ 3) (3 * sn + ln) p2) (σ 4) (σ 5) (σ 6) (σ 7) (σ 8) (σ 9) (σ 10) (σ 11) (σ 12) (σ 13) ++ wSta d2 (b 0) cI σ2)) H := hP
      have hD : va_D A (wOutE b d d2 cI 0 (ω 19 0) (ω 1) (ω 2) (ω 14) (ω 15) ++ (wStaE d (b 0) cI (σ 0 0) (σ 17 0) (σ 16 0) (σ 18 0) (upd (σ 3) (3 * sn + ln) p2) (σ 4) (σ 5) (σ 6) (σ 7) (σ 8) (σ 9) (σ 10) (σ 11) (σ 12) (σ 13) ++ wSta d2 (b 0) cI σ2)) := hD
      refine lv_iload hx hb dX6_setIce_64 (lv_at hl 0 rfl) ?_
      subst hQ
      have hP : va_P D vwCl (wMod b d d2 cI (put σ 3 (upd (σ 3) (3 * sn + ln) p2)) σ2 (put ω 20 (fun _ => 0))) H := hP
      have hD : va_D A (wMod b d d2 cI (put σ 3 (upd (σ 3) (3 * sn + ln) p2)) σ2 (put ω 20 (fun _ => 0))) := hD
      have hP : va_P D vwCl (wMod b d d2 cI (put σ 3 (upd (σ 3) (3 * sn + ln) p2)) σ2 (put ω 20 (fun _ => 0))) H := hP
      have hD : va_D A (wMod b d d2 cI (put σ 3 (upd (σ 3) (3 * sn + ln) p2)) σ2 (put ω 20 (fun _ => 0))) := hD
      exact ret_wri hx hb hr rfl hlocks hP hD hS (show σ 3 (3 * sn + ln) = σ 3 (3 * sn + ln) from rfl) dX6_setIce_66
    · skip
      have c_2 : ¬ (0 ≤ p2 ∧ p2 ≤ 60) := bI_z.mp c_2
      first | exact absurd c_2 (by assumption) | exact absurd (by assumption) c_2
  · skip
    have c_1 : ¬ ((0 ≤ (nI sn) ∧ (nI sn) ≤ 11) ∧ (0 ≤ (nI ln) ∧ (nI ln) ≤ 2)) := bI_z.mp c_1
    first | exact absurd c_1 (by assumption) | exact absurd (by assumption) c_1
set_option maxHeartbeats 4000000 in
set_option maxRecDepth 100000 in
theorem M_X6_build_e1 (l : Launch) (D : va_G) (cI : ClassId) (b : Nat → Nat) (d : Nat → Nat) (d2 : Nat → Nat) (σ : St) (σ2 : St) (ω : St) (p0 : Int32) (sz : Nat) (h1 : ¬ (0 ≤ p0 ∧ p0 ≤ 11)) : Met l yX6_build wsX6_build ({ frames := 1, cells := 0, slots := 0, locals := 22 } : Room) (wrPc [.ref (b 0), .int p0] D (wMod b d d2 cI σ σ2 ω) [(cI, .int)] sz) (wrQi 0 D (wMod b d d2 cI σ σ2 (put ω 20 (fun _ => 1))) (va_A (wMod b d d2 cI σ σ2 ω) sz)) 0 0 (va_A (wMod b d d2 cI σ σ2 ω) sz) := by
  refine Met.ofW (cc := cX6_build) (maxL := 2) (ret := (some .int)) (by decide) rfl ?_
  intro p e s m args below meth c s₁ B hml hv
  obtain ⟨hargs, hsz, hP, hK, hD0⟩ := hv
  have hx := B.exec
  have hb := B.bytes
  have hr := B.returns
  have hts := atoms_spec (ws := wsX6_build) B.pre
  have hown : s.vm.findClass RX6 = some m.cls := findClass_of_methodNamed B.named
  have hlocks := B.notSynchronized
  obtain ⟨_, hN⟩ := id hK
  have hiX6 : ∀ w ∈ wsX60, w ∈ wsX6_build := by decide +kernel
  subst hsz
  have hD := hD0.self (sz := s.heap.size)
  generalize hAe : va_A (wMod b d d2 cI σ σ2 ω) s.heap.size = A at hD ⊢
  have hA : ∀ q : Nat, s.heap.size ≤ q → A q := fun q h => by rw [← hAe]; exact Or.inr h
  have hS : va_S A s.heap s.heap [] := va_S.rf
  have hP : va_P D vwCl (wMod b d d2 cI σ σ2 ω) s.heap := hP
  refine my_abs (fun Q hQ => ?_)
  obtain ⟨ls, hl, hent⟩ := my_entry (m := m) (n := 2) hargs (Nat.le_of_ble_eq_true rfl)
  rw [hent]
  have hl : lv_has ls 2 [(0, .ref (b 0)), (1, .int p0)] := hl
  show W p l e ({ frames := 1, cells := 0, slots := 0, locals := 22 } : Room) s m args below meth c s.heap [] 0 0 Q (F0 m 0 ls [])
  refine lv_aload_n hx hb dX6_build_0 rfl (lv_at hl 0 rfl) ?_
  refine lv_iconst (v := 0) hx hb dX6_build_1 (by decide) ?_
  refine va_put (D := D) (ci := 6) (v := .int 0) (ty := .int) (C := RX6) (T := TX6) (N := 8) hx hb hts hiX6 tyX6 tyX6_ok nmX6 hown hK.1 hP hD hS 0 rfl rfl 0 (by decide) (hts (.fieldLink RX6 43 "IceLanesModel" "thrown" "I") (by decide +kernel)) (fun _ h9 => h9) rfl (by decide +kernel) rfl rfl (Nat.le_of_ble_eq_true rfl) dX6_build_2 (fun H locs hP hD hS => ?_)
  have hP : va_P D vwCl (wOutE b d d2 cI 0 (ω 19 0) (ω 1) (ω 2) (ω 14) (ω 15) ++ (wSta d (b 0) cI σ ++ wSta d2 (b 0) cI σ2)) H := hP
  have hD : va_D A (wOutE b d d2 cI 0 (ω 19 0) (ω 1) (ω 2) (ω 14) (ω 15) ++ (wSta d (b 0) cI σ ++ wSta d2 (b 0) cI σ2)) := hD
  refine lv_iload_n hx hb dX6_build_5 rfl (lv_at hl 1 rfl) ?_
  refine lv_iconst (v := 0) hx hb dX6_build_6 (by decide) ?_
  refine lv_bipush (v := 11) hx hb dX6_build_7 (by decide) ?_
  refine rd_i (va_runS (As := [.int p0, .int 0, .int 11]) (rest := []) ⟨hx, hb, hml, hown, hts⟩ (M_X6_isIn l D cI p0 0 11 ) (va_cwS 3 hts gX6_build_X6_isIn rfl rfl rfl (by decide +kernel) ⟨Nat.le_of_ble_eq_true rfl, Nat.le_of_ble_eq_true rfl⟩) (rdS hK hP [] [0] rfl rfl) rfl rfl hl.1 rfl (lv_room (Nat.le_of_ble_eq_true rfl)) dX6_build_9 ⟨Nat.zero_le _, Nat.zero_le _⟩) ?_
  refine lv_if_ne (tgt := 21) hx hb dX6_build_12 (by decide) (fun c_1 => ?_) (fun c_1 => ?_)
  · skip
    have c_1 : (0 ≤ p0 ∧ p0 ≤ 11) := bI_nz.mp c_1
    first | exact absurd c_1 (by assumption) | exact absurd (by assumption) c_1
  · skip
    have c_1 : ¬ (0 ≤ p0 ∧ p0 ≤ 11) := bI_z.mp c_1
    refine lv_aload_n hx hb dX6_build_15 rfl (lv_at hl 0 rfl) ?_
    refine lv_iconst (v := 1) hx hb dX6_build_16 (by decide) ?_
    refine wr_i (wn := wOutE b d d2 cI 1 (ω 19 0) (ω 1) (ω 2) (ω 14) (ω 15) ++ (wSta d (b 0) cI σ ++ wSta d2 (b 0) cI σ2)) (va_runV (As := [.int 1]) (rest := []) ⟨hx, hb, hml, hown, hts⟩ (M_X6_no l D cI b d d2 σ σ2 (put ω 20 (fun _ => 0)) 1 _ ) (cwV 1 hts gX6_build_X6_no rfl rfl rfl (by decide +kernel) ⟨Nat.le_of_ble_eq_true rfl, Nat.le_of_ble_eq_true rfl⟩) (wrV hK hP hD [0, 1, 2, 3, 4, 5, 6, 7, 8, 9, 10, 11, 12] [0] rfl rfl rfl (ci := 6) (q0 := 0) rfl rfl) rfl rfl hl.1 rfl (lv_room (Nat.le_of_ble_eq_true rfl)) dX6_build_17 ⟨Nat.le_of_ble_eq_true rfl, Nat.le_of_ble_eq_true rfl⟩) hP hD hS hA [0, 1, 2, 3, 4, 5, 6, 7, 8, 9, 10, 11, 12] [] [0, 1, 2, 3, 4, 5, 6, 7, 8, 9, 10, 11, 12] rfl rfl rfl rfl rfl rfl (fun H locs hP hD hS => ?_)
    refine W.eq (g2 := F0 m 20 ls [.int 0]) rfl ?_
    subst hQ
    have hP : va_P D vwCl (wMod b d d2 cI σ σ2 (put ω 20 (fun _ => 1))) H := hP
    have hD : va_D A (wMod b d d2 cI σ σ2 (put ω 20 (fun _ => 1))) := hD
    exact ret_wri hx hb hr rfl hlocks hP hD hS (show 0 = 0 from rfl) dX6_build_20
set_option maxHeartbeats 4000000 in
set_option maxRecDepth 100000 in
theorem M_X6_build_ok (l : Launch) (D : va_G) (cI : ClassId) (b : Nat → Nat) (d : Nat → Nat) (d2 : Nat → Nat) (σ : St) (σ2 : St) (ω : St) (sn : Nat) (sz : Nat) (hs : sn < 12) (h1 : (0 ≤ nI sn ∧ nI sn ≤ 11)) : Met l yX6_build wsX6_build ({ frames := 1, cells := 0, slots := 0, locals := 22 } : Room) (wrPc [.ref (b 0), .int (nI sn)] D (wMod b d d2 cI σ σ2 ω) [(cI, .int)] sz) (wrQi (sumF (upd (ω 2) sn 1) 12) D (wMod b d d2 cI σ σ2 (put (put ω 2 (upd (ω 2) sn 1)) 20 (fun _ => 0))) (va_A (wMod b d d2 cI σ σ2 ω) sz)) 0 0 (va_A (wMod b d d2 cI σ σ2 ω) sz) := by
  refine Met.ofW (cc := cX6_build) (maxL := 2) (ret := (some .int)) (by decide) rfl ?_
  intro p e s m args below meth c s₁ B hml hv
  obtain ⟨hargs, hsz, hP, hK, hD0⟩ := hv
  have hx := B.exec
  have hb := B.bytes
  have hr := B.returns
  have hts := atoms_spec (ws := wsX6_build) B.pre
  have hown : s.vm.findClass RX6 = some m.cls := findClass_of_methodNamed B.named
  have hlocks := B.notSynchronized
  obtain ⟨_, hN⟩ := id hK
  have hiX6 : ∀ w ∈ wsX60, w ∈ wsX6_build := by decide +kernel
  subst hsz
  have hD := hD0.self (sz := s.heap.size)
  generalize hAe : va_A (wMod b d d2 cI σ σ2 ω) s.heap.size = A at hD ⊢
  have hA : ∀ q : Nat, s.heap.size ≤ q → A q := fun q h => by rw [← hAe]; exact Or.inr h
  have hS : va_S A s.heap s.heap [] := va_S.rf
  have hP : va_P D vwCl (wMod b d d2 cI σ σ2 ω) s.heap := hP
  refine my_abs (fun Q hQ => ?_)
  obtain ⟨ls, hl, hent⟩ := my_entry (m := m) (n := 2) hargs (Nat.le_of_ble_eq_true rfl)
  rw [hent]
  have hl : lv_has ls 2 [(0, .ref (b 0)), (1, .int (nI sn))] := hl
  show W p l e ({ frames := 1, cells := 0, slots := 0, locals := 22 } : Room) s m args below meth c s.heap [] 0 0 Q (F0 m 0 ls [])
  refine lv_aload_n hx hb dX6_build_0 rfl (lv_at hl 0 rfl) ?_
  refine lv_iconst (v := 0) hx hb dX6_build_1 (by decide) ?_
  refine va_put (D := D) (ci := 6) (v := .int 0) (ty := .int) (C := RX6) (T := TX6) (N := 8) hx hb hts hiX6 tyX6 tyX6_ok nmX6 hown hK.1 hP hD hS 0 rfl rfl 0 (by decide) (hts (.fieldLink RX6 43 "IceLanesModel" "thrown" "I") (by decide +kernel)) (fun _ h9 => h9) rfl (by decide +kernel) rfl rfl (Nat.le_of_ble_eq_true rfl) dX6_build_2 (fun H locs hP hD hS => ?_)
  have hP : va_P D vwCl (wOutE b d d2 cI 0 (ω 19 0) (ω 1) (ω 2) (ω 14) (ω 15) ++ (wSta d (b 0) cI σ ++ wSta d2 (b 0) cI σ2)) H := hP
  have hD : va_D A (wOutE b d d2 cI 0 (ω 19 0) (ω 1) (ω 2) (ω 14) (ω 15) ++ (wSta d (b 0) cI σ ++ wSta d2 (b 0) cI σ2)) := hD
  refine lv_iload_n hx hb dX6_build_5 rfl (lv_at hl 1 rfl) ?_
  refine lv_iconst (v := 0) hx hb dX6_build_6 (by decide) ?_
  refine lv_bipush (v := 11) hx hb dX6_build_7 (by decide) ?_
  refine rd_i (va_runS (As := [.int (nI sn), .int 0, .int 11]) (rest := []) ⟨hx, hb, hml, hown, hts⟩ (M_X6_isIn l D cI (nI sn) 0 11 ) (va_cwS 3 hts gX6_build_X6_isIn rfl rfl rfl (by decide +kernel) ⟨Nat.le_of_ble_eq_true rfl, Nat.le_of_ble_eq_true rfl⟩) (rdS hK hP [] [0] rfl rfl) rfl rfl hl.1 rfl (lv_room (Nat.le_of_ble_eq_true rfl)) dX6_build_9 ⟨Nat.zero_le _, Nat.zero_le _⟩) ?_
  refine lv_if_ne (tgt := 21) hx hb dX6_build_12 (by decide) (fun c_1 => ?_) (fun c_1 => ?_)
  · skip
    have c_1 : (0 ≤ (nI sn) ∧ (nI sn) ≤ 11) := bI_nz.mp c_1
    refine lv_aload_n hx hb dX6_build_21 rfl (lv_at hl 0 rfl) ?_
    refine va_get (D := D) (ci := 6) (v := .ref (b 2)) (C := RX6) (T := TX6) (N := 8) hx hb hts hiX6 hown hK.1 hP 0 rfl rfl 2 (by decide) (hts (.fieldLink RX6 13 "IceLanesModel" "hut" "[I") (by decide +kernel)) (fun _ h9 => h9) rfl dX6_build_22 ?_
    refine lv_iload_n hx hb dX6_build_25 rfl (lv_at hl 1 rfl) ?_
    refine lv_iconst (v := 1) hx hb dX6_build_26 (by decide) ?_
    refine va_iast hx hb hK.1 hP hD hS 2 0 rfl rfl (by first | assumption | exact vp_in_nI (by omega) (by decide)) dX6_build_27 (fun H locs hP hD hS => ?_)
    rw [nI_clamp (n := sn) (by omega)] at hP hD
    have hP : va_P D vwCl (wOutE b d d2 cI 0 (ω 19 0) (ω 1) (upd (ω 2) sn 1) (ω 14) (ω 15) ++ (wSta d (b 0) cI σ ++ wSta d2 (b 0) cI σ2)) H := hP
    have hD : va_D A (wOutE b d d2 cI 0 (ω 19 0) (ω 1) (upd (ω 2) sn 1) (ω 14) (ω 15) ++ (wSta d (b 0) cI σ ++ wSta d2 (b 0) cI σ2)) := hD
    refine lv_aload_n hx hb dX6_build_28 rfl (lv_at hl 0 rfl) ?_
    refine rd_i (va_runV (As := []) (rest := []) ⟨hx, hb, hml, hown, hts⟩ (M_X6_huts l D cI b d d2 σ σ2 (put (put ω 2 (upd (ω 2) sn 1)) 20 (fun _ => 0)) ) (cwV 0 hts gX6_build_X6_huts rfl rfl rfl (by decide +kernel) ⟨Nat.le_of_ble_eq_true rfl, Nat.le_of_ble_eq_true rfl⟩) (rdV hK hP [0, 1, 2, 3, 4, 5, 6, 7, 8, 9, 10, 11, 12] [0] rfl rfl (ci := 6) (q0 := 0) rfl rfl) rfl rfl hl.1 rfl (lv_room (Nat.le_of_ble_eq_true rfl)) dX6_build_29 ⟨Nat.zero_le _, Nat.zero_le _⟩) ?_
    refine W.eq (g2 := F0 m 32 ls [.int (sumF ((upd (ω 2) sn 1)) 12)]) rfl ?_
    subst hQ
    have hP : va_P D vwCl (wMod b d d2 cI σ σ2 (put (put ω 2 (upd (ω 2) sn 1)) 20 (fun _ => 0))) H := hP
    have hD : va_D A (wMod b d d2 cI σ σ2 (put (put ω 2 (upd (ω 2) sn 1)) 20 (fun _ => 0))) := hD
    exact ret_wri hx hb hr rfl hlocks hP hD hS (show sumF ((upd (ω 2) sn 1)) 12 = sumF (upd (ω 2) sn 1) 12 from rfl) dX6_build_32
  · skip
    have c_1 : ¬ (0 ≤ (nI sn) ∧ (nI sn) ≤ 11) := bI_z.mp c_1
    first | exact absurd c_1 (by assumption) | exact absurd (by assumption) c_1
