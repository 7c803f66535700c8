set_option maxHeartbeats 4000000 in
set_option maxRecDepth 100000 in
theorem M_X1_inAll (l : Launch) (D : va_G) (cI : ClassId) (a : Nat → Nat) (σ : St) : Met l yX1_inAll wsX1_inAll ({ frames := 0, cells := 0, slots := 0, locals := 0 } : Room) (rdPc [.ref (a 3)] D (wIce a cI σ) [(cI, .int)]) (rdQi (sumF (σ 3) 36)) 0 0 (fun _ => False) := by
  refine Met.ofW (cc := cX1_inAll) (maxL := 3) (ret := (some .int)) (by decide) rfl ?_
  intro p e s m args below meth c s₁ B hml hv
  obtain ⟨hargs, hP, hK⟩ := hv
  have hx := B.exec
  have hb := B.bytes
  have hr := B.returns
  have hts := atoms_spec (ws := wsX1_inAll) B.pre
  have hown : s.vm.findClass RX1 = some m.cls := findClass_of_methodNamed B.named
  have hlocks := B.notSynchronized
  obtain ⟨_, hN⟩ := id hK
  have hiX1 : ∀ w ∈ wsX10, w ∈ wsX1_inAll := by decide +kernel
  refine my_abs (fun Q hQ => ?_)
  obtain ⟨ls, hl, hent⟩ := my_entry (m := m) (n := 3) hargs (Nat.le_of_ble_eq_true rfl)
  rw [hent]
  have hl : lv_has ls 3 [(0, .ref (a 3))] := hl
  show W p l e ({ frames := 0, cells := 0, slots := 0, locals := 0 } : Room) s m args below meth c s.heap [] 0 0 Q (F0 m 0 ls [])
  refine lv_iconst (v := 0) hx hb dX1_inAll_0 (by decide) ?_
  refine lv_istore_n (lv' := [(1, .int 0), (0, .ref (a 3))]) hx hb dX1_inAll_1 rfl hl (by decide) rfl (fun ls hl => ?_)
  refine lv_iconst (v := 0) hx hb dX1_inAll_2 (by decide) ?_
  refine lv_istore_n (lv' := [(2, .int 0), (1, .int 0), (0, .ref (a 3))]) hx hb dX1_inAll_3 rfl hl (by decide) rfl (fun ls hl => ?_)
  have loop4 : ∀ (n : Nat) (k : Nat), 36 - k < n → k ≤ 36 → ∀ (ls : Array Slot), lv_has ls 3 [(0, .ref (a 3)), (1, .int (sumF (σ 3) k)), (2, .int (nI k))] → W p l e ({ frames := 0, cells := 0, slots := 0, locals := 0 } : Room) s m args below meth c s.heap [] 0 0 Q (F0 m 4 ls []) := by
    intro n
    induction n with
    | zero => intro k  hf; exact absurd hf (Nat.not_lt_zero _)
    | succ n ih4 =>
      intro k  hf hk ls hl
      refine lv_iload_n hx hb dX1_inAll_4 rfl (lv_at hl 2 rfl) ?_
      refine lv_bipush (v := 36) hx hb dX1_inAll_5 (by decide) ?_
      refine lv_icmp_ge (tgt := 25) hx hb dX1_inAll_7 (by decide) (fun c_1 => ?_) (fun c_1 => ?_)
      · skip
        have hk2 : 36 ≤ k := lp_ge (N := 36) (k := k) c_1 (by omega) (by omega)
        refine lv_iload_n hx hb dX1_inAll_25 rfl (lv_at hl 1 rfl) ?_
        subst hQ
        exact ret_rdi hx hb hr rfl hlocks (show sumF (σ 3) k = sumF (σ 3) 36 from (by rw [show k = 36 by omega])) dX1_inAll_26
      · skip
        have hk2 : k < 36 := lp_nge (N := 36) (k := k) c_1 (by omega) (by omega)
        refine lv_iload_n hx hb dX1_inAll_10 rfl (lv_at hl 1 rfl) ?_
        refine lv_aload_n hx hb dX1_inAll_11 rfl (lv_at hl 0 rfl) ?_
        refine va_get (D := D) (ci := 1) (v := .ref (a 4)) (C := RX1) (T := TX1) (N := 2) hx hb hts hiX1 hown hK.1 hP 0 rfl rfl 0 (by decide) (hts (.fieldLink RX1 9 "IceLanes$Ice" "thickness" "[I") (by decide +kernel)) (fun _ h9 => h9) rfl dX1_inAll_12 ?_
        refine lv_iload_n hx hb dX1_inAll_15 rfl (lv_at hl 2 rfl) ?_
        refine va_iald hx hb hK.1 hP 1 0 rfl rfl (by first | assumption | exact vp_in_nI (by omega) (by decide)) dX1_inAll_16 ?_
        rw [nI_clamp (n := k) (by omega)]
        refine lv_iadd hx hb dX1_inAll_17 ?_
        refine lv_istore_n (lv' := [(1, .int ((sumF (σ 3) k) + (σ 3 k))), (0, .ref (a 3)), (2, .int (nI k))]) hx hb dX1_inAll_18 rfl hl (by decide) rfl (fun ls hl => ?_)
        refine lv_iinc (v := nI (k + 1)) (lv' := [(2, .int (nI (k + 1))), (1, .int ((sumF (σ 3) k) + (σ 3 k))), (0, .ref (a 3))]) hx hb dX1_inAll_19 hl (k := 2) rfl (nI_1 k) (by decide) rfl (fun ls hl => ?_)
        refine lv_goto (tgt := 4) hx hb dX1_inAll_22 (by decide) ?_
        exact ih4 (k + 1) (by omega) (by omega) ls (lv_sub hl [2, 1, 0] rfl)
  exact loop4 37 0 (by omega) (by omega) ls (lv_sub hl [2, 1, 0] rfl)
set_option maxHeartbeats 4000000 in
set_option maxRecDepth 100000 in
theorem M_X1_cracksInAll (l : Launch) (D : va_G) (cI : ClassId) (a : Nat → Nat) (σ : St) : Met l yX1_cracksInAll wsX1_cracksInAll ({ frames := 0, cells := 0, slots := 0, locals := 0 } : Room) (rdPc [.ref (a 3)] D (wIce a cI σ) [(cI, .int)]) (rdQi (sumF (σ 4) 36)) 0 0 (fun _ => False) := by
  refine Met.ofW (cc := cX1_cracksInAll) (maxL := 3) (ret := (some .int)) (by decide) rfl ?_
  intro p e s m args below meth c s₁ B hml hv
  obtain ⟨hargs, hP, hK⟩ := hv
  have hx := B.exec
  have hb := B.bytes
  have hr := B.returns
  have hts := atoms_spec (ws := wsX1_cracksInAll) B.pre
  have hown : s.vm.findClass RX1 = some m.cls := findClass_of_methodNamed B.named
  have hlocks := B.notSynchronized
  obtain ⟨_, hN⟩ := id hK
  have hiX1 : ∀ w ∈ wsX10, w ∈ wsX1_cracksInAll := by decide +kernel
  refine my_abs (fun Q hQ => ?_)
  obtain ⟨ls, hl, hent⟩ := my_entry (m := m) (n := 3) hargs (Nat.le_of_ble_eq_true rfl)
  rw [hent]
  have hl : lv_has ls 3 [(0, .ref (a 3))] := hl
  show W p l e ({ frames := 0, cells := 0, slots := 0, locals := 0 } : Room) s m args below meth c s.heap [] 0 0 Q (F0 m 0 ls [])
  refine lv_iconst (v := 0) hx hb dX1_cracksInAll_0 (by decide) ?_
  refine lv_istore_n (lv' := [(1, .int 0), (0, .ref (a 3))]) hx hb dX1_cracksInAll_1 rfl hl (by decide) rfl (fun ls hl => ?_)
  refine lv_iconst (v := 0) hx hb dX1_cracksInAll_2 (by decide) ?_
  refine lv_istore_n (lv' := [(2, .int 0), (1, .int 0), (0, .ref (a 3))]) hx hb dX1_cracksInAll_3 rfl hl (by decide) rfl (fun ls hl => ?_)
  have loop4 : ∀ (n : Nat) (k : Nat), 36 - k < n → k ≤ 36 → ∀ (ls : Array Slot), lv_has ls 3 [(0, .ref (a 3)), (1, .int (sumF (σ 4) k)), (2, .int (nI k))] → W p l e ({ frames := 0, cells := 0, slots := 0, locals := 0 } : Room) s m args below meth c s.heap [] 0 0 Q (F0 m 4 ls []) := by
    intro n
    induction n with
    | zero => intro k  hf; exact absurd hf (Nat.not_lt_zero _)
    | succ n ih4 =>
      intro k  hf hk ls hl
      refine lv_iload_n hx hb dX1_cracksInAll_4 rfl (lv_at hl 2 rfl) ?_
      refine lv_bipush (v := 36) hx hb dX1_cracksInAll_5 (by decide) ?_
      refine lv_icmp_ge (tgt := 25) hx hb dX1_cracksInAll_7 (by decide) (fun c_1 => ?_) (fun c_1 => ?_)
      · skip
        have hk2 : 36 ≤ k := lp_ge (N := 36) (k := k) c_1 (by omega) (by omega)
        refine lv_iload_n hx hb dX1_cracksInAll_25 rfl (lv_at hl 1 rfl) ?_
        subst hQ
        exact ret_rdi hx hb hr rfl hlocks (show sumF (σ 4) k = sumF (σ 4) 36 from (by rw [show k = 36 by omega])) dX1_cracksInAll_26
      · skip
        have hk2 : k < 36 := lp_nge (N := 36) (k := k) c_1 (by omega) (by omega)
        refine lv_iload_n hx hb dX1_cracksInAll_10 rfl (lv_at hl 1 rfl) ?_
        refine lv_aload_n hx hb dX1_cracksInAll_11 rfl (lv_at hl 0 rfl) ?_
        refine va_get (D := D) (ci := 1) (v := .ref (a 5)) (C := RX1) (T := TX1) (N := 2) hx hb hts hiX1 hown hK.1 hP 0 rfl rfl 1 (by decide) (hts (.fieldLink RX1 15 "IceLanes$Ice" "cracks" "[I") (by decide +kernel)) (fun _ h9 => h9) rfl dX1_cracksInAll_12 ?_
        refine lv_iload_n hx hb dX1_cracksInAll_15 rfl (lv_at hl 2 rfl) ?_
        refine va_iald hx hb hK.1 hP 2 0 rfl rfl (by first | assumption | exact vp_in_nI (by omega) (by decide)) dX1_cracksInAll_16 ?_
        rw [nI_clamp (n := k) (by omega)]
        refine lv_iadd hx hb dX1_cracksInAll_17 ?_
        refine lv_istore_n (lv' := [(1, .int ((sumF (σ 4) k) + (σ 4 k))), (0, .ref (a 3)), (2, .int (nI k))]) hx hb dX1_cracksInAll_18 rfl hl (by decide) rfl (fun ls hl => ?_)
        refine lv_iinc (v := nI (k + 1)) (lv' := [(2, .int (nI (k + 1))), (1, .int ((sumF (σ 4) k) + (σ 4 k))), (0, .ref (a 3))]) hx hb dX1_cracksInAll_19 hl (k := 2) rfl (nI_1 k) (by decide) rfl (fun ls hl => ?_)
        refine lv_goto (tgt := 4) hx hb dX1_cracksInAll_22 (by decide) ?_
        exact ih4 (k + 1) (by omega) (by omega) ls (lv_sub hl [2, 1, 0] rfl)
  exact loop4 37 0 (by omega) (by omega) ls (lv_sub hl [2, 1, 0] rfl)
set_option maxHeartbeats 4000000 in
set_option maxRecDepth 100000 in
theorem M_X1_placesOfOpenWater (l : Launch) (D : va_G) (cI : ClassId) (a : Nat → Nat) (σ : St) : Met l yX1_placesOfOpenWater wsX1_placesOfOpenWater ({ frames := 0, cells := 0, slots := 0, locals := 0 } : Room) (rdPc [.ref (a 3)] D (wIce a cI σ) [(cI, .int)]) (rdQi (cntF (fun j => decide (σ 3 j = 0)) 36)) 0 0 (fun _ => False) := by
  refine Met.ofW (cc := cX1_placesOfOpenWater) (maxL := 3) (ret := (some .int)) (by decide) rfl ?_
  intro p e s m args below meth c s₁ B hml hv
  obtain ⟨hargs, hP, hK⟩ := hv
  have hx := B.exec
  have hb := B.bytes
  have hr := B.returns
  have hts := atoms_spec (ws := wsX1_placesOfOpenWater) B.pre
  have hown : s.vm.findClass RX1 = some m.cls := findClass_of_methodNamed B.named
  have hlocks := B.notSynchronized
  obtain ⟨_, hN⟩ := id hK
  have hiX1 : ∀ w ∈ wsX10, w ∈ wsX1_placesOfOpenWater := by decide +kernel
  refine my_abs (fun Q hQ => ?_)
  obtain ⟨ls, hl, hent⟩ := my_entry (m := m) (n := 3) hargs (Nat.le_of_ble_eq_true rfl)
  rw [hent]
  have hl : lv_has ls 3 [(0, .ref (a 3))] := hl
  show W p l e ({ frames := 0, cells := 0, slots := 0, locals := 0 } : Room) s m args below meth c s.heap [] 0 0 Q (F0 m 0 ls [])
  refine lv_iconst (v := 0) hx hb dX1_placesOfOpenWater_0 (by decide) ?_
  refine lv_istore_n (lv' := [(1, .int 0), (0, .ref (a 3))]) hx hb dX1_placesOfOpenWater_1 rfl hl (by decide) rfl (fun ls hl => ?_)
  refine lv_iconst (v := 0) hx hb dX1_placesOfOpenWater_2 (by decide) ?_
  refine lv_istore_n (lv' := [(2, .int 0), (1, .int 0), (0, .ref (a 3))]) hx hb dX1_placesOfOpenWater_3 rfl hl (by decide) rfl (fun ls hl => ?_)
  have loop4 : ∀ (n : Nat) (k : Nat), 36 - k < n → k ≤ 36 → ∀ (ls : Array Slot), lv_has ls 3 [(0, .ref (a 3)), (1, .int (cntF (fun j => decide (σ 3 j = 0)) k)), (2, .int (nI k))] → W p l e ({ frames := 0, cells := 0, slots := 0, locals := 0 } : Room) s m args below meth c s.heap [] 0 0 Q (F0 m 4 ls []) := by
    intro n
    induction n with
    | zero => intro k  hf; exact absurd hf (Nat.not_lt_zero _)
    | succ n ih4 =>
      intro k  hf hk ls hl
      refine lv_iload_n hx hb dX1_placesOfOpenWater_4 rfl (lv_at hl 2 rfl) ?_
      refine lv_bipush (v := 36) hx hb dX1_placesOfOpenWater_5 (by decide) ?_
      refine lv_icmp_ge (tgt := 28) hx hb dX1_placesOfOpenWater_7 (by decide) (fun c_1 => ?_) (fun c_1 => ?_)
      · skip
        have hk2 : 36 ≤ k := lp_ge (N := 36) (k := k) c_1 (by omega) (by omega)
        refine lv_iload_n hx hb dX1_placesOfOpenWater_28 rfl (lv_at hl 1 rfl) ?_
        subst hQ
        exact ret_rdi hx hb hr rfl hlocks (show cntF (fun j => decide (σ 3 j = 0)) k = cntF (fun j => decide (σ 3 j = 0)) 36 from (by rw [show k = 36 by omega])) dX1_placesOfOpenWater_29
      · skip
        have hk2 : k < 36 := lp_nge (N := 36) (k := k) c_1 (by omega) (by omega)
        refine lv_aload_n hx hb dX1_placesOfOpenWater_10 rfl (lv_at hl 0 rfl) ?_
        refine va_get (D := D) (ci := 1) (v := .ref (a 4)) (C := RX1) (T := TX1) (N := 2) hx hb hts hiX1 hown hK.1 hP 0 rfl rfl 0 (by decide) (hts (.fieldLink RX1 9 "IceLanes$Ice" "thickness" "[I") (by decide +kernel)) (fun _ h9 => h9) rfl dX1_placesOfOpenWater_11 ?_
        refine lv_iload_n hx hb dX1_placesOfOpenWater_14 rfl (lv_at hl 2 rfl) ?_
        refine va_iald hx hb hK.1 hP 1 0 rfl rfl (by first | assumption | exact vp_in_nI (by omega) (by decide)) dX1_placesOfOpenWater_15 ?_
        rw [nI_clamp (n := k) (by omega)]
        refine lv_if_ne (tgt := 22) hx hb dX1_placesOfOpenWater_16 (by decide) (fun c_2 => ?_) (fun c_2 => ?_)
        · skip
          have hl : lv_has ls 3 [(0, .ref (a 3)), (1, .int (cntF (fun j => decide (σ 3 j = 0)) (k + 1))), (2, .int (nI k))] := by rw [show cntF (fun j => decide (σ 3 j = 0)) (k + 1) = cntF (fun j => decide (σ 3 j = 0)) k from (cnt_f (fun z => absurd (of_decide_eq_true z) (by assumption)))]; exact hl
          refine lv_iinc (v := nI (k + 1)) (lv' := [(2, .int (nI (k + 1))), (0, .ref (a 3)), (1, .int (cntF (fun j => decide (σ 3 j = 0)) (k + 1)))]) hx hb dX1_placesOfOpenWater_22 hl (k := 2) rfl (nI_1 k) (by decide) rfl (fun ls hl => ?_)
          refine lv_goto (tgt := 4) hx hb dX1_placesOfOpenWater_25 (by decide) ?_
          exact ih4 (k + 1) (by omega) (by omega) ls (lv_sub hl [1, 2, 0] rfl)
        · skip
          refine lv_iinc (v := cntF (fun j => decide (σ 3 j = 0)) (k + 1)) (lv' := [(1, .int (cntF (fun j => decide (σ 3 j = 0)) (k + 1))), (0, .ref (a 3)), (2, .int (nI k))]) hx hb dX1_placesOfOpenWater_19 hl (k := 1) rfl (cnt_t (decide_eq_true (by assumption))).symm (by decide) rfl (fun ls hl => ?_)
          refine lv_iinc (v := nI (k + 1)) (lv' := [(2, .int (nI (k + 1))), (1, .int (cntF (fun j => decide (σ 3 j = 0)) (k + 1))), (0, .ref (a 3))]) hx hb dX1_placesOfOpenWater_22 hl (k := 2) rfl (nI_1 k) (by decide) rfl (fun ls hl => ?_)
          refine lv_goto (tgt := 4) hx hb dX1_placesOfOpenWater_25 (by decide) ?_
          exact ih4 (k + 1) (by omega) (by omega) ls (lv_sub hl [2, 1, 0] rfl)
  exact loop4 37 0 (by omega) (by omega) ls (lv_sub hl [2, 1, 0] rfl)
set_option maxHeartbeats 4000000 in
set_option maxRecDepth 100000 in
theorem M_X0_numberWhose (l : Launch) (D : va_G) (cI : ClassId) (a : Nat → Nat) (σ : St) (q0 : Int32) (nc : Nat) (hnc : σ 17 0 = nI nc) (hn8 : nc ≤ 8) : Met l yX0_numberWhose wsX0_numberWhose ({ frames := 0, cells := 0, slots := 0, locals := 0 } : Room) (rdPc [.ref (a 6), .int q0] D (wCou a cI σ) [(cI, .int)]) (rdQi (cntF (fun j => decide (σ 11 j = q0)) nc)) 0 0 (fun _ => False) := by
  refine Met.ofW (cc := cX0_numberWhose) (maxL := 4) (ret := (some .int)) (by decide) rfl ?_
  intro p e s m args below meth c s₁ B hml hv
  obtain ⟨hargs, hP, hK⟩ := hv
  have hx := B.exec
  have hb := B.bytes
  have hr := B.returns
  have hts := atoms_spec (ws := wsX0_numberWhose) B.pre
  have hown : s.vm.findClass RX0 = some m.cls := findClass_of_methodNamed B.named
  have hlocks := B.notSynchronized
  obtain ⟨_, hN⟩ := id hK
  have hiX0 : ∀ w ∈ wsX00, w ∈ wsX0_numberWhose := by decide +kernel
  refine my_abs (fun Q hQ => ?_)
  obtain ⟨ls, hl, hent⟩ := my_entry (m := m) (n := 4) hargs (Nat.le_of_ble_eq_true rfl)
  rw [hent]
  have hl : lv_has ls 4 [(0, .ref (a 6)), (1, .int q0)] := hl
  show W p l e ({ frames := 0, cells := 0, slots := 0, locals := 0 } : Room) s m args below meth c s.heap [] 0 0 Q (F0 m 0 ls [])
  refine lv_iconst (v := 0) hx hb dX0_numberWhose_0 (by decide) ?_
  refine lv_istore_n (lv' := [(2, .int 0), (0, .ref (a 6)), (1, .int q0)]) hx hb dX0_numberWhose_1 rfl hl (by decide) rfl (fun ls hl => ?_)
  refine lv_iconst (v := 0) hx hb dX0_numberWhose_2 (by decide) ?_
  refine lv_istore_n (lv' := [(3, .int 0), (2, .int 0), (0, .ref (a 6)), (1, .int q0)]) hx hb dX0_numberWhose_3 rfl hl (by decide) rfl (fun ls hl => ?_)
  have loop4 : ∀ (n : Nat) (k : Nat), nc - k < n → k ≤ nc → ∀ (ls : Array Slot), lv_has ls 4 [(0, .ref (a 6)), (1, .int q0), (2, .int (cntF (fun j => decide (σ 11 j = q0)) k)), (3, .int (nI k))] → W p l e ({ frames := 0, cells := 0, slots := 0, locals := 0 } : Room) s m args below meth c s.heap [] 0 0 Q (F0 m 4 ls []) := by
    intro n
    induction n with
    | zero => intro k  hf; exact absurd hf (Nat.not_lt_zero _)
    | succ n ih4 =>
      intro k  hf hk ls hl
      refine lv_iload_n hx hb dX0_numberWhose_4 rfl (lv_at hl 3 rfl) ?_
      refine lv_aload_n hx hb dX0_numberWhose_5 rfl (lv_at hl 0 rfl) ?_
      refine va_get (D := D) (ci := 0) (v := .int (σ 17 0)) (C := RX0) (T := TX0) (N := 10) hx hb hts hiX0 hown hK.1 hP 0 rfl rfl 0 (by decide) (hts (.fieldLink RX0 39 "IceLanes$Couriers" "number" "I") (by decide +kernel)) (fun _ h9 => h9) rfl dX0_numberWhose_6 ?_
      refine lv_icmp_ge (tgt := 31) hx hb dX0_numberWhose_9 (by decide) (fun c_1 => ?_) (fun c_1 => ?_)
      · skip
        rw [hnc] at c_1
        have hk2 : nc ≤ k := lp_ge (N := nc) (k := k) c_1 (by omega) (by omega)
        refine lv_iload_n hx hb dX0_numberWhose_31 rfl (lv_at hl 2 rfl) ?_
        subst hQ
        exact ret_rdi hx hb hr rfl hlocks (show cntF (fun j => decide (σ 11 j = q0)) k = cntF (fun j => decide (σ 11 j = q0)) nc from (by rw [show k = nc by omega])) dX0_numberWhose_32
      · skip
        rw [hnc] at c_1
        have hk2 : k < nc := lp_nge (N := nc) (k := k) c_1 (by omega) (by omega)
        refine lv_aload_n hx hb dX0_numberWhose_12 rfl (lv_at hl 0 rfl) ?_
        refine va_get (D := D) (ci := 0) (v := .ref (a 13)) (C := RX0) (T := TX0) (N := 10) hx hb hts hiX0 hown hK.1 hP 0 rfl rfl 7 (by decide) (hts (.fieldLink RX0 30 "IceLanes$Couriers" "state" "[I") (by decide +kernel)) (fun _ h9 => h9) rfl dX0_numberWhose_13 ?_
        refine lv_iload_n hx hb dX0_numberWhose_16 rfl (lv_at hl 3 rfl) ?_
        refine va_iald hx hb hK.1 hP 7 0 rfl rfl (by first | assumption | exact vp_in_nI (by omega) (by decide)) dX0_numberWhose_17 ?_
        rw [nI_clamp (n := k) (by omega)]
        refine lv_iload_n hx hb dX0_numberWhose_18 rfl (lv_at hl 1 rfl) ?_
        refine lv_icmp_ne (tgt := 25) hx hb dX0_numberWhose_19 (by decide) (fun c_2 => ?_) (fun c_2 => ?_)
        · skip
          have hl : lv_has ls 4 [(0, .ref (a 6)), (1, .int q0), (2, .int (cntF (fun j => decide (σ 11 j = q0)) (k + 1))), (3, .int (nI k))] := by rw [show cntF (fun j => decide (σ 11 j = q0)) (k + 1) = cntF (fun j => decide (σ 11 j = q0)) k from (cnt_f (fun z => absurd (of_decide_eq_true z) (by assumption)))]; exact hl
          refine lv_iinc (v := nI (k + 1)) (lv' := [(3, .int (nI (k + 1))), (0, .ref (a 6)), (1, .int q0), (2, .int (cntF (fun j => decide (σ 11 j = q0)) (k + 1)))]) hx hb dX0_numberWhose_25 hl (k := 3) rfl (nI_1 k) (by decide) rfl (fun ls hl => ?_)
          refine lv_goto (tgt := 4) hx hb dX0_numberWhose_28 (by decide) ?_
          exact ih4 (k + 1) (by omega) (by omega) ls (lv_sub hl [1, 2, 3, 0] rfl)
        · skip
          refine lv_iinc (v := cntF (fun j => decide (σ 11 j = q0)) (k + 1)) (lv' := [(2, .int (cntF (fun j => decide (σ 11 j = q0)) (k + 1))), (0, .ref (a 6)), (1, .int q0), (3, .int (nI k))]) hx hb dX0_numberWhose_22 hl (k := 2) rfl (cnt_t (decide_eq_true (by assumption))).symm (by decide) rfl (fun ls hl => ?_)
          refine lv_iinc (v := nI (k + 1)) (lv' := [(3, .int (nI (k + 1))), (2, .int (cntF (fun j => decide (σ 11 j = q0)) (k + 1))), (0, .ref (a 6)), (1, .int q0)]) hx hb dX0_numberWhose_25 hl (k := 3) rfl (nI_1 k) (by decide) rfl (fun ls hl => ?_)
          refine lv_goto (tgt := 4) hx hb dX0_numberWhose_28 (by decide) ?_
          exact ih4 (k + 1) (by omega) (by omega) ls (lv_sub hl [2, 3, 1, 0] rfl)
  exact loop4 (nc + 1) 0 (by omega) (by omega) ls (lv_sub hl [2, 3, 1, 0] rfl)
set_option maxHeartbeats 4000000 in
set_option maxRecDepth 100000 in
theorem M_X0_notOutAt (l : Launch) (D : va_G) (cI : ClassId) (a : Nat → Nat) (σ : St) (s1 : Int32) (s2 : Int32) (nc : Nat) (hnc : σ 17 0 = nI nc) (hn8 : nc ≤ 8) : Met l yX0_notOutAt wsX0_notOutAt ({ frames := 0, cells := 0, slots := 0, locals := 0 } : Room) (rdPc [.ref (a 6), .int s1, .int s2] D (wCou a cI σ) [(cI, .int)]) (rdQi (cntF (fun j => decide ((σ 8 j = s1 ∧ σ 9 j = s2) ∧ ¬ σ 11 j = 3)) nc)) 0 0 (fun _ => False) := by
  refine Met.ofW (cc := cX0_notOutAt) (maxL := 6) (ret := (some .int)) (by decide) rfl ?_
  intro p e s m args below meth c s₁ B hml hv
  obtain ⟨hargs, hP, hK⟩ := hv
  have hx := B.exec
  have hb := B.bytes
  have hr := B.returns
  have hts := atoms_spec (ws := wsX0_notOutAt) B.pre
  have hown : s.vm.findClass RX0 = some m.cls := findClass_of_methodNamed B.named
  have hlocks := B.notSynchronized
  obtain ⟨_, hN⟩ := id hK
  have hiX0 : ∀ w ∈ wsX00, w ∈ wsX0_notOutAt := by decide +kernel
  refine my_abs (fun Q hQ => ?_)
  obtain ⟨ls, hl, hent⟩ := my_entry (m := m) (n := 6) hargs (Nat.le_of_ble_eq_true rfl)
  rw [hent]
  have hl : lv_has ls 6 [(0, .ref (a 6)), (1, .int s1), (2, .int s2)] := hl
  show W p l e ({ frames := 0, cells := 0, slots := 0, locals := 0 } : Room) s m args below meth c s.heap [] 0 0 Q (F0 m 0 ls [])
  refine lv_iconst (v := 0) hx hb dX0_notOutAt_0 (by decide) ?_
  refine lv_istore_n (lv' := [(3, .int 0), (0, .ref (a 6)), (1, .int s1), (2, .int s2)]) hx hb dX0_notOutAt_1 rfl hl (by decide) rfl (fun ls hl => ?_)
  refine lv_iconst (v := 0) hx hb dX0_notOutAt_2 (by decide) ?_
  refine lv_istore (lv' := [(4, .int 0), (3, .int 0), (0, .ref (a 6)), (1, .int s1), (2, .int s2)]) hx hb dX0_notOutAt_3 hl (by decide) rfl (fun ls hl => ?_)
  have loop5 : ∀ (n : Nat) (k : Nat), nc - k < n → k ≤ nc → ∀ (ls : Array Slot), lv_has ls 6 [(0, .ref (a 6)), (1, .int s1), (2, .int s2), (3, .int (cntF (fun j => decide ((σ 8 j = s1 ∧ σ 9 j = s2) ∧ ¬ σ 11 j = 3)) k)), (4, .int (nI k))] → W p l e ({ frames := 0, cells := 0, slots := 0, locals := 0 } : Room) s m args below meth c s.heap [] 0 0 Q (F0 m 5 ls []) := by
    intro n
    induction n with
    | zero => intro k  hf; exact absurd hf (Nat.not_lt_zero _)
    | succ n ih5 =>
      intro k  hf hk ls hl
      refine lv_iload hx hb dX0_notOutAt_5 (lv_at hl 4 rfl) ?_
      refine lv_aload_n hx hb dX0_notOutAt_7 rfl (lv_at hl 0 rfl) ?_
      refine va_get (D := D) (ci := 0) (v := .int (σ 17 0)) (C := RX0) (T := TX0) (N := 10) hx hb hts hiX0 hown hK.1 hP 0 rfl rfl 0 (by decide) (hts (.fieldLink RX0 39 "IceLanes$Couriers" "number" "I") (by decide +kernel)) (fun _ h9 => h9) rfl dX0_notOutAt_8 ?_
      refine lv_icmp_ge (tgt := 68) hx hb dX0_notOutAt_11 (by decide) (fun c_1 => ?_) (fun c_1 => ?_)
      · skip
        rw [hnc] at c_1
        have hk2 : nc ≤ k := lp_ge (N := nc) (k := k) c_1 (by omega) (by omega)
        refine lv_iload_n hx hb dX0_notOutAt_68 rfl (lv_at hl 3 rfl) ?_
        subst hQ
        exact ret_rdi hx hb hr rfl hlocks (show cntF (fun j => decide ((σ 8 j = s1 ∧ σ 9 j = s2) ∧ ¬ σ 11 j = 3)) k = cntF (fun j => decide ((σ 8 j = s1 ∧ σ 9 j = s2) ∧ ¬ σ 11 j = 3)) nc from (by rw [show k = nc by omega])) dX0_notOutAt_69
      · skip
        rw [hnc] at c_1
        have hk2 : k < nc := lp_nge (N := nc) (k := k) c_1 (by omega) (by omega)
        refine lv_aload_n hx hb dX0_notOutAt_14 rfl (lv_at hl 0 rfl) ?_
        refine va_get (D := D) (ci := 0) (v := .ref (a 10)) (C := RX0) (T := TX0) (N := 10) hx hb hts hiX0 hown hK.1 hP 0 rfl rfl 4 (by decide) (hts (.fieldLink RX0 21 "IceLanes$Couriers" "section" "[I") (by decide +kernel)) (fun _ h9 => h9) rfl dX0_notOutAt_15 ?_
        refine lv_iload hx hb dX0_notOutAt_18 (lv_at hl 4 rfl) ?_
        refine va_iald hx hb hK.1 hP 4 0 rfl rfl (by first | assumption | exact vp_in_nI (by omega) (by decide)) dX0_notOutAt_20 ?_
        rw [nI_clamp (n := k) (by omega)]
        refine lv_iload_n hx hb dX0_notOutAt_21 rfl (lv_at hl 1 rfl) ?_
        refine lv_icmp_ne (tgt := 40) hx hb dX0_notOutAt_22 (by decide) (fun c_2 => ?_) (fun c_2 => ?_)
        · skip
          refine lv_iconst (v := 0) hx hb dX0_notOutAt_40 (by decide) ?_
          refine lv_istore (lv' := [(5, .int 0), (0, .ref (a 6)), (1, .int s1), (2, .int s2), (3, .int (cntF (fun j => decide ((σ 8 j = s1 ∧ σ 9 j = s2) ∧ ¬ σ 11 j = 3)) k)), (4, .int (nI k))]) hx hb dX0_notOutAt_41 hl (by decide) rfl (fun ls hl => ?_)
          refine lv_iload hx hb dX0_notOutAt_43 (lv_at hl 0 rfl) ?_
          refine lv_if_eq (tgt := 62) hx hb dX0_notOutAt_45 (by decide) (fun c_3 => ?_) (fun c_3 => ?_)
          · skip
            have hl : lv_has ls 6 [(5, .int 0), (0, .ref (a 6)), (1, .int s1), (2, .int s2), (3, .int (cntF (fun j => decide ((σ 8 j = s1 ∧ σ 9 j = s2) ∧ ¬ σ 11 j = 3)) (k + 1))), (4, .int (nI k))] := by rw [show cntF (fun j => decide ((σ 8 j = s1 ∧ σ 9 j = s2) ∧ ¬ σ 11 j = 3)) (k + 1) = cntF (fun j => decide ((σ 8 j = s1 ∧ σ 9 j = s2) ∧ ¬ σ 11 j = 3)) k from (cnt_f (fun z => by have z := of_decide_eq_true z; simp_all))]; exact hl
            refine lv_iinc (v := nI (k + 1)) (lv' := [(4, .int (nI (k + 1))), (5, .int 0), (0, .ref (a 6)), (1, .int s1), (2, .int s2), (3, .int (cntF (fun j => decide ((σ 8 j = s1 ∧ σ 9 j = s2) ∧ ¬ σ 11 j = 3)) (k + 1)))]) hx hb dX0_notOutAt_62 hl (k := 5) rfl (nI_1 k) (by decide) rfl (fun ls hl => ?_)
            refine lv_goto (tgt := 5) hx hb dX0_notOutAt_65 (by decide) ?_
            exact ih5 (k + 1) (by omega) (by omega) ls (lv_sub hl [2, 3, 4, 5, 0] rfl)
          · skip
            exact absurd c_3 (by decide)
        · skip
          refine lv_aload_n hx hb dX0_notOutAt_25 rfl (lv_at hl 0 rfl) ?_
          refine va_get (D := D) (ci := 0) (v := .ref (a 11)) (C := RX0) (T := TX0) (N := 10) hx hb hts hiX0 hown hK.1 hP 0 rfl rfl 5 (by decide) (hts (.fieldLink RX0 24 "IceLanes$Couriers" "lane" "[I") (by decide +kernel)) (fun _ h9 => h9) rfl dX0_notOutAt_26 ?_
          refine lv_iload hx hb dX0_notOutAt_29 (lv_at hl 4 rfl) ?_
          refine va_iald hx hb hK.1 hP 5 0 rfl rfl (by first | assumption | exact vp_in_nI (by omega) (by decide)) dX0_notOutAt_31 ?_
          rw [nI_clamp (n := k) (by omega)]
          refine lv_iload_n hx hb dX0_notOutAt_32 rfl (lv_at hl 2 rfl) ?_
          refine lv_icmp_ne (tgt := 40) hx hb dX0_notOutAt_33 (by decide) (fun c_4 => ?_) (fun c_4 => ?_)
          · skip
            refine lv_iconst (v := 0) hx hb dX0_notOutAt_40 (by decide) ?_
            refine lv_istore (lv' := [(5, .int 0), (0, .ref (a 6)), (1, .int s1), (2, .int s2), (3, .int (cntF (fun j => decide ((σ 8 j = s1 ∧ σ 9 j = s2) ∧ ¬ σ 11 j = 3)) k)), (4, .int (nI k))]) hx hb dX0_notOutAt_41 hl (by decide) rfl (fun ls hl => ?_)
            refine lv_iload hx hb dX0_notOutAt_43 (lv_at hl 0 rfl) ?_
            refine lv_if_eq (tgt := 62) hx hb dX0_notOutAt_45 (by decide) (fun c_5 => ?_) (fun c_5 => ?_)
            · skip
              have hl : lv_has ls 6 [(5, .int 0), (0, .ref (a 6)), (1, .int s1), (2, .int s2), (3, .int (cntF (fun j => decide ((σ 8 j = s1 ∧ σ 9 j = s2) ∧ ¬ σ 11 j = 3)) (k + 1))), (4, .int (nI k))] := by rw [show cntF (fun j => decide ((σ 8 j = s1 ∧ σ 9 j = s2) ∧ ¬ σ 11 j = 3)) (k + 1) = cntF (fun j => decide ((σ 8 j = s1 ∧ σ 9 j = s2) ∧ ¬ σ 11 j = 3)) k from (cnt_f (fun z => by have z := of_decide_eq_true z; simp_all))]; exact hl
              refine lv_iinc (v := nI (k + 1)) (lv' := [(4, .int (nI (k + 1))), (5, .int 0), (0, .ref (a 6)), (1, .int s1), (2, .int s2), (3, .int (cntF (fun j => decide ((σ 8 j = s1 ∧ σ 9 j = s2) ∧ ¬ σ 11 j = 3)) (k + 1)))]) hx hb dX0_notOutAt_62 hl (k := 5) rfl (nI_1 k) (by decide) rfl (fun ls hl => ?_)
              refine lv_goto (tgt := 5) hx hb dX0_notOutAt_65 (by decide) ?_
              exact ih5 (k + 1) (by omega) (by omega) ls (lv_sub hl [2, 3, 4, 5, 0] rfl)
            · skip
              exact absurd c_5 (by decide)
          · skip
            refine lv_iconst (v := 1) hx hb dX0_notOutAt_36 (by decide) ?_
            refine lv_goto (tgt := 41) hx hb dX0_notOutAt_37 (by decide) ?_
            refine lv_istore (lv' := [(5, .int 1), (0, .ref (a 6)), (1, .int s1), (2, .int s2), (3, .int (cntF (fun j => decide ((σ 8 j = s1 ∧ σ 9 j = s2) ∧ ¬ σ 11 j = 3)) k)), (4, .int (nI k))]) hx hb dX0_notOutAt_41 hl (by decide) rfl (fun ls hl => ?_)
            refine lv_iload hx hb dX0_notOutAt_43 (lv_at hl 0 rfl) ?_
            refine lv_if_eq (tgt := 62) hx hb dX0_notOutAt_45 (by decide) (fun c_6 => ?_) (fun c_6 => ?_)
            · skip
              exact absurd c_6 (by decide)
            · skip
              refine lv_aload_n hx hb dX0_notOutAt_48 rfl (lv_at hl 1 rfl) ?_
              refine va_get (D := D) (ci := 0) (v := .ref (a 13)) (C := RX0) (T := TX0) (N := 10) hx hb hts hiX0 hown hK.1 hP 0 rfl rfl 7 (by decide) (hts (.fieldLink RX0 30 "IceLanes$Couriers" "state" "[I") (by decide +kernel)) (fun _ h9 => h9) rfl dX0_notOutAt_49 ?_
              refine lv_iload hx hb dX0_notOutAt_52 (lv_at hl 5 rfl) ?_
              refine va_iald hx hb hK.1 hP 7 0 rfl rfl (by first | assumption | exact vp_in_nI (by omega) (by decide)) dX0_notOutAt_54 ?_
              rw [nI_clamp (n := k) (by omega)]
              refine lv_iconst (v := 3) hx hb dX0_notOutAt_55 (by decide) ?_
              refine lv_icmp_eq (tgt := 62) hx hb dX0_notOutAt_56 (by decide) (fun c_7 => ?_) (fun c_7 => ?_)
              · skip
                have hl : lv_has ls 6 [(5, .int 1), (0, .ref (a 6)), (1, .int s1), (2, .int s2), (3, .int (cntF (fun j => decide ((σ 8 j = s1 ∧ σ 9 j = s2) ∧ ¬ σ 11 j = 3)) (k + 1))), (4, .int (nI k))] := by rw [show cntF (fun j => decide ((σ 8 j = s1 ∧ σ 9 j = s2) ∧ ¬ σ 11 j = 3)) (k + 1) = cntF (fun j => decide ((σ 8 j = s1 ∧ σ 9 j = s2) ∧ ¬ σ 11 j = 3)) k from (cnt_f (fun z => by have z := of_decide_eq_true z; simp_all))]; exact hl
                refine lv_iinc (v := nI (k + 1)) (lv' := [(4, .int (nI (k + 1))), (5, .int 1), (0, .ref (a 6)), (1, .int s1), (2, .int s2), (3, .int (cntF (fun j => decide ((σ 8 j = s1 ∧ σ 9 j = s2) ∧ ¬ σ 11 j = 3)) (k + 1)))]) hx hb dX0_notOutAt_62 hl (k := 5) rfl (nI_1 k) (by decide) rfl (fun ls hl => ?_)
                refine lv_goto (tgt := 5) hx hb dX0_notOutAt_65 (by decide) ?_
                exact ih5 (k + 1) (by omega) (by omega) ls (lv_sub hl [2, 3, 4, 5, 0] rfl)
              · skip
                refine lv_iinc (v := cntF (fun j => decide ((σ 8 j = s1 ∧ σ 9 j = s2) ∧ ¬ σ 11 j = 3)) (k + 1)) (lv' := [(3, .int (cntF (fun j => decide ((σ 8 j = s1 ∧ σ 9 j = s2) ∧ ¬ σ 11 j = 3)) (k + 1))), (5, .int 1), (0, .ref (a 6)), (1, .int s1), (2, .int s2), (4, .int (nI k))]) hx hb dX0_notOutAt_59 hl (k := 4) rfl (cnt_t (decide_eq_true ⟨⟨by assumption, by assumption⟩, by assumption⟩)).symm (by decide) rfl (fun ls hl => ?_)
                refine lv_iinc (v := nI (k + 1)) (lv' := [(4, .int (nI (k + 1))), (3, .int (cntF (fun j => decide ((σ 8 j = s1 ∧ σ 9 j = s2) ∧ ¬ σ 11 j = 3)) (k + 1))), (5, .int 1), (0, .ref (a 6)), (1, .int s1), (2, .int s2)]) hx hb dX0_notOutAt_62 hl (k := 5) rfl (nI_1 k) (by decide) rfl (fun ls hl => ?_)
                refine lv_goto (tgt := 5) hx hb dX0_notOutAt_65 (by decide) ?_
                exact ih5 (k + 1) (by omega) (by omega) ls (lv_sub hl [3, 4, 5, 1, 0] rfl)
  exact loop5 (nc + 1) 0 (by omega) (by omega) ls (lv_sub hl [2, 3, 4, 1, 0] rfl)
set_option maxHeartbeats 4000000 in
set_option maxRecDepth 100000 in
theorem M_X0_tell (l : Launch) (D : va_G) (cI : ClassId) (a : Nat → Nat) (σ : St) (cu : Nat) (w : Nat) (hcu : cu < 8) (hw : w < 9) : Met l yX0_tell wsX0_tell ({ frames := 0, cells := 0, slots := 0, locals := 0 } : Room) (rdPc [.ref (a 6), .int (nI cu), .int (nI w)] D (wCou a cI σ) [(cI, .int)]) (rdQi (tellF σ cu w)) 0 0 (fun _ => False) := by
  refine Met.ofW (cc := cX0_tell) (maxL := 3) (ret := (some .int)) (by decide) rfl ?_
  intro p e s m args below meth c s₁ B hml hv
  obtain ⟨hargs, hP, hK⟩ := hv
  have hx := B.exec
  have hb := B.bytes
  have hr := B.returns
  have hts := atoms_spec (ws := wsX0_tell) B.pre
  have hown : s.vm.findClass RX0 = some m.cls := findClass_of_methodNamed B.named
  have hlocks := B.notSynchronized
  obtain ⟨_, hN⟩ := id hK
  have hiX0 : ∀ w ∈ wsX00, w ∈ wsX0_tell := by decide +kernel
  refine my_abs (fun Q hQ => ?_)
  obtain ⟨ls, hl, hent⟩ := my_entry (m := m) (n := 3) hargs (Nat.le_of_ble_eq_true rfl)
  rw [hent]
  have hl : lv_has ls 3 [(0, .ref (a 6)), (1, .int (nI cu)), (2, .int (nI w))] := hl
  show W p l e ({ frames := 0, cells := 0, slots := 0, locals := 0 } : Room) s m args below meth c s.heap [] 0 0 Q (F0 m 0 ls [])
  refine lv_iload_n hx hb dX0_tell_0 rfl (lv_at hl 2 rfl) ?_
  rcases (show w = 0 ∨ w = 1 ∨ w = 2 ∨ w = 3 ∨ w = 4 ∨ w = 5 ∨ w = 6 ∨ w = 7 ∨ w = 8 by omega) with rfl | rfl | rfl | rfl | rfl | rfl | rfl | rfl | rfl
  · skip
    refine lv_tableIn (tgt := 48) hx hb dX0_tell_1 (by decide) (by decide) (by rfl) (by decide) ?_
    refine lv_aload_n hx hb dX0_tell_48 rfl (lv_at hl 0 rfl) ?_
    refine va_get (D := D) (ci := 0) (v := .ref (a 7)) (C := RX0) (T := TX0) (N := 10) hx hb hts hiX0 hown hK.1 hP 0 rfl rfl 1 (by decide) (hts (.fieldLink RX0 9 "IceLanes$Couriers" "weight" "[I") (by decide +kernel)) (fun _ h9 => h9) rfl dX0_tell_49 ?_
    refine lv_iload_n hx hb dX0_tell_52 rfl (lv_at hl 1 rfl) ?_
    refine va_iald hx hb hK.1 hP 1 0 rfl rfl (by first | assumption | exact vp_in_nI (by omega) (by decide)) dX0_tell_53 ?_
    rw [nI_clamp (n := cu) (by omega)]
    subst hQ
    exact ret_rdi hx hb hr rfl hlocks (show σ 5 cu = tellF σ cu 0 from rfl) dX0_tell_54
  · skip
    refine lv_tableIn (tgt := 55) hx hb dX0_tell_1 (by decide) (by decide) (by rfl) (by decide) ?_
    refine lv_aload_n hx hb dX0_tell_55 rfl (lv_at hl 0 rfl) ?_
    refine va_get (D := D) (ci := 0) (v := .ref (a 8)) (C := RX0) (T := TX0) (N := 10) hx hb hts hiX0 hown hK.1 hP 0 rfl rfl 2 (by decide) (hts (.fieldLink RX0 15 "IceLanes$Couriers" "letters" "[I") (by decide +kernel)) (fun _ h9 => h9) rfl dX0_tell_56 ?_
    refine lv_iload_n hx hb dX0_tell_59 rfl (lv_at hl 1 rfl) ?_
    refine va_iald hx hb hK.1 hP 2 0 rfl rfl (by first | assumption | exact vp_in_nI (by omega) (by decide)) dX0_tell_60 ?_
    rw [nI_clamp (n := cu) (by omega)]
    subst hQ
    exact ret_rdi hx hb hr rfl hlocks (show σ 6 cu = tellF σ cu 1 from rfl) dX0_tell_61
  · skip
    refine lv_tableIn (tgt := 62) hx hb dX0_tell_1 (by decide) (by decide) (by rfl) (by decide) ?_
    refine lv_aload_n hx hb dX0_tell_62 rfl (lv_at hl 0 rfl) ?_
    refine va_get (D := D) (ci := 0) (v := .ref (a 9)) (C := RX0) (T := TX0) (N := 10) hx hb hts hiX0 hown hK.1 hP 0 rfl rfl 3 (by decide) (hts (.fieldLink RX0 18 "IceLanes$Couriers" "strength" "[I") (by decide +kernel)) (fun _ h9 => h9) rfl dX0_tell_63 ?_
    refine lv_iload_n hx hb dX0_tell_66 rfl (lv_at hl 1 rfl) ?_
    refine va_iald hx hb hK.1 hP 3 0 rfl rfl (by first | assumption | exact vp_in_nI (by omega) (by decide)) dX0_tell_67 ?_
    rw [nI_clamp (n := cu) (by omega)]
    subst hQ
    exact ret_rdi hx hb hr rfl hlocks (show σ 7 cu = tellF σ cu 2 from rfl) dX0_tell_68
  · skip
    refine lv_tableIn (tgt := 69) hx hb dX0_tell_1 (by decide) (by decide) (by rfl) (by decide) ?_
    refine lv_aload_n hx hb dX0_tell_69 rfl (lv_at hl 0 rfl) ?_
    refine va_get (D := D) (ci := 0) (v := .ref (a 10)) (C := RX0) (T := TX0) (N := 10) hx hb hts hiX0 hown hK.1 hP 0 rfl rfl 4 (by decide) (hts (.fieldLink RX0 21 "IceLanes$Couriers" "section" "[I") (by decide +kernel)) (fun _ h9 => h9) rfl dX0_tell_70 ?_
    refine lv_iload_n hx hb dX0_tell_73 rfl (lv_at hl 1 rfl) ?_
    refine va_iald hx hb hK.1 hP 4 0 rfl rfl (by first | assumption | exact vp_in_nI (by omega) (by decide)) dX0_tell_74 ?_
    rw [nI_clamp (n := cu) (by omega)]
    subst hQ
    exact ret_rdi hx hb hr rfl hlocks (show σ 8 cu = tellF σ cu 3 from rfl) dX0_tell_75
  · skip
    refine lv_tableIn (tgt := 76) hx hb dX0_tell_1 (by decide) (by decide) (by rfl) (by decide) ?_
    refine lv_aload_n hx hb dX0_tell_76 rfl (lv_at hl 0 rfl) ?_
    refine va_get (D := D) (ci := 0) (v := .ref (a 11)) (C := RX0) (T := TX0) (N := 10) hx hb hts hiX0 hown hK.1 hP 0 rfl rfl 5 (by decide) (hts (.fieldLink RX0 24 "IceLanes$Couriers" "lane" "[I") (by decide +kernel)) (fun _ h9 => h9) rfl dX0_tell_77 ?_
    refine lv_iload_n hx hb dX0_tell_80 rfl (lv_at hl 1 rfl) ?_
    refine va_iald hx hb hK.1 hP 5 0 rfl rfl (by first | assumption | exact vp_in_nI (by omega) (by decide)) dX0_tell_81 ?_
    rw [nI_clamp (n := cu) (by omega)]
    subst hQ
    exact ret_rdi hx hb hr rfl hlocks (show σ 9 cu = tellF σ cu 4 from rfl) dX0_tell_82
  · skip
    refine lv_tableIn (tgt := 83) hx hb dX0_tell_1 (by decide) (by decide) (by rfl) (by decide) ?_
    refine lv_aload_n hx hb dX0_tell_83 rfl (lv_at hl 0 rfl) ?_
    refine va_get (D := D) (ci := 0) (v := .ref (a 12)) (C := RX0) (T := TX0) (N := 10) hx hb hts hiX0 hown hK.1 hP 0 rfl rfl 6 (by decide) (hts (.fieldLink RX0 27 "IceLanes$Couriers" "goal" "[I") (by decide +kernel)) (fun _ h9 => h9) rfl dX0_tell_84 ?_
    refine lv_iload_n hx hb dX0_tell_87 rfl (lv_at hl 1 rfl) ?_
    refine va_iald hx hb hK.1 hP 6 0 rfl rfl (by first | assumption | exact vp_in_nI (by omega) (by decide)) dX0_tell_88 ?_
    rw [nI_clamp (n := cu) (by omega)]
    subst hQ
    exact ret_rdi hx hb hr rfl hlocks (show σ 10 cu = tellF σ cu 5 from rfl) dX0_tell_89
  · skip
    refine lv_tableIn (tgt := 90) hx hb dX0_tell_1 (by decide) (by decide) (by rfl) (by decide) ?_
    refine lv_aload_n hx hb dX0_tell_90 rfl (lv_at hl 0 rfl) ?_
    refine va_get (D := D) (ci := 0) (v := .ref (a 13)) (C := RX0) (T := TX0) (N := 10) hx hb hts hiX0 hown hK.1 hP 0 rfl rfl 7 (by decide) (hts (.fieldLink RX0 30 "IceLanes$Couriers" "state" "[I") (by decide +kernel)) (fun _ h9 => h9) rfl dX0_tell_91 ?_
    refine lv_iload_n hx hb dX0_tell_94 rfl (lv_at hl 1 rfl) ?_
    refine va_iald hx hb hK.1 hP 7 0 rfl rfl (by first | assumption | exact vp_in_nI (by omega) (by decide)) dX0_tell_95 ?_
    rw [nI_clamp (n := cu) (by omega)]
    subst hQ
    exact ret_rdi hx hb hr rfl hlocks (show σ 11 cu = tellF σ cu 6 from rfl) dX0_tell_96
  · skip
    refine lv_tableIn (tgt := 97) hx hb dX0_tell_1 (by decide) (by decide) (by rfl) (by decide) ?_
    refine lv_aload_n hx hb dX0_tell_97 rfl (lv_at hl 0 rfl) ?_
    refine va_get (D := D) (ci := 0) (v := .ref (a 14)) (C := RX0) (T := TX0) (N := 10) hx hb hts hiX0 hown hK.1 hP 0 rfl rfl 8 (by decide) (hts (.fieldLink RX0 33 "IceLanes$Couriers" "steps" "[I") (by decide +kernel)) (fun _ h9 => h9) rfl dX0_tell_98 ?_
    refine lv_iload_n hx hb dX0_tell_101 rfl (lv_at hl 1 rfl) ?_
    refine va_iald hx hb hK.1 hP 8 0 rfl rfl (by first | assumption | exact vp_in_nI (by omega) (by decide)) dX0_tell_102 ?_
    rw [nI_clamp (n := cu) (by omega)]
    subst hQ
    exact ret_rdi hx hb hr rfl hlocks (show σ 12 cu = tellF σ cu 7 from rfl) dX0_tell_103
  · skip
    refine lv_tableOut (tgt := 104) hx hb dX0_tell_1 (by decide) (by decide) ?_
    refine lv_aload_n hx hb dX0_tell_104 rfl (lv_at hl 0 rfl) ?_
    refine va_get (D := D) (ci := 0) (v := .ref (a 15)) (C := RX0) (T := TX0) (N := 10) hx hb hts hiX0 hown hK.1 hP 0 rfl rfl 9 (by decide) (hts (.fieldLink RX0 36 "IceLanes$Couriers" "pace" "[I") (by decide +kernel)) (fun _ h9 => h9) rfl dX0_tell_105 ?_
    refine lv_iload_n hx hb dX0_tell_108 rfl (lv_at hl 1 rfl) ?_
    refine va_iald hx hb hK.1 hP 9 0 rfl rfl (by first | assumption | exact vp_in_nI (by omega) (by decide)) dX0_tell_109 ?_
    rw [nI_clamp (n := cu) (by omega)]
    refine lv_iconst (v := 2) hx hb dX0_tell_110 (by decide) ?_
    refine lv_icmp_ne (tgt := 118) hx hb dX0_tell_111 (by decide) (fun c_1 => ?_) (fun c_1 => ?_)
    · skip
      refine lv_iconst (v := 0) hx hb dX0_tell_118 (by decide) ?_
      subst hQ
      exact ret_rdi hx hb hr rfl hlocks (show 0 = tellF σ cu 8 from (by first | exact bI_t (by assumption) | exact bI_f (by assumption))) dX0_tell_119
    · skip
      refine lv_iconst (v := 1) hx hb dX0_tell_114 (by decide) ?_
      refine lv_goto (tgt := 119) hx hb dX0_tell_115 (by decide) ?_
      subst hQ
      exact ret_rdi hx hb hr rfl hlocks (show 1 = tellF σ cu 8 from (by first | exact bI_t (by assumption) | exact bI_f (by assumption))) dX0_tell_119
set_option maxHeartbeats 4000000 in
set_option maxRecDepth 100000 in
theorem M_X0_nextSection (l : Launch) (D : va_G) (cI : ClassId) (a : Nat → Nat) (σ : St) (cu : Nat) (hcu : cu < 8) : Met l yX0_nextSection wsX0_nextSection ({ frames := 1, cells := 0, slots := 0, locals := 21 } : Room) (rdPc [.ref (a 6), .int (nI cu)] D (wCou a cI σ) [(cI, .int)]) (rdQi (nsec σ cu)) 0 0 (fun _ => False) := by
  refine Met.ofW (cc := cX0_nextSection) (maxL := 2) (ret := (some .int)) (by decide) rfl ?_
  intro p e s m args below meth c s₁ B hml hv
  obtain ⟨hargs, hP, hK⟩ := hv
  have hx := B.exec
  have hb := B.bytes
  have hr := B.returns
  have hts := atoms_spec (ws := wsX0_nextSection) B.pre
  have hown : s.vm.findClass RX0 = some m.cls := findClass_of_methodNamed B.named
  have hlocks := B.notSynchronized
  obtain ⟨_, hN⟩ := id hK
  have hiX0 : ∀ w ∈ wsX00, w ∈ wsX0_nextSection := by decide +kernel
  refine my_abs (fun Q hQ => ?_)
  obtain ⟨ls, hl, hent⟩ := my_entry (m := m) (n := 2) hargs (Nat.le_of_ble_eq_true rfl)
  rw [hent]
  have hl : lv_has ls 2 [(0, .ref (a 6)), (1, .int (nI cu))] := hl
  show W p l e ({ frames := 1, cells := 0, slots := 0, locals := 21 } : Room) s m args below meth c s.heap [] 0 0 Q (F0 m 0 ls [])
  refine lv_aload_n hx hb dX0_nextSection_0 rfl (lv_at hl 0 rfl) ?_
  refine va_get (D := D) (ci := 0) (v := .ref (a 10)) (C := RX0) (T := TX0) (N := 10) hx hb hts hiX0 hown hK.1 hP 0 rfl rfl 4 (by decide) (hts (.fieldLink RX0 21 "IceLanes$Couriers" "section" "[I") (by decide +kernel)) (fun _ h9 => h9) rfl dX0_nextSection_1 ?_
  refine lv_iload_n hx hb dX0_nextSection_4 rfl (lv_at hl 1 rfl) ?_
  refine va_iald hx hb hK.1 hP 4 0 rfl rfl (by first | assumption | exact vp_in_nI (by omega) (by decide)) dX0_nextSection_5 ?_
  rw [nI_clamp (n := cu) (by omega)]
  refine lv_aload_n hx hb dX0_nextSection_6 rfl (lv_at hl 0 rfl) ?_
  refine va_get (D := D) (ci := 0) (v := .ref (a 12)) (C := RX0) (T := TX0) (N := 10) hx hb hts hiX0 hown hK.1 hP 0 rfl rfl 6 (by decide) (hts (.fieldLink RX0 27 "IceLanes$Couriers" "goal" "[I") (by decide +kernel)) (fun _ h9 => h9) rfl dX0_nextSection_7 ?_
  refine lv_iload_n hx hb dX0_nextSection_10 rfl (lv_at hl 1 rfl) ?_
  refine va_iald hx hb hK.1 hP 6 0 rfl rfl (by first | assumption | exact vp_in_nI (by omega) (by decide)) dX0_nextSection_11 ?_
  rw [nI_clamp (n := cu) (by omega)]
  refine lv_icmp_ge (tgt := 24) hx hb dX0_nextSection_12 (by decide) (fun c_1 => ?_) (fun c_1 => ?_)
  · skip
    refine lv_aload_n hx hb dX0_nextSection_24 rfl (lv_at hl 0 rfl) ?_
    refine lv_iload_n hx hb dX0_nextSection_25 rfl (lv_at hl 1 rfl) ?_
    refine rd_i (va_runV (As := [.int (nI cu)]) (rest := []) ⟨hx, hb, hml, hown, hts⟩ (M_X0_isAtGoal l D cI a σ cu (by first | assumption | omega)) (cwV 1 hts gX0_nextSection_X0_isAtGoal rfl rfl rfl (by decide +kernel) ⟨Nat.le_of_ble_eq_true rfl, Nat.le_of_ble_eq_true rfl⟩) (rdV hK hP [0, 1, 2, 3, 4, 5, 6, 7, 8, 9] [0] rfl rfl (ci := 0) (q0 := 0) rfl rfl) rfl rfl hl.1 rfl (lv_room (Nat.le_of_ble_eq_true rfl)) dX0_nextSection_26 ⟨Nat.zero_le _, Nat.zero_le _⟩) ?_
    refine lv_if_eq (tgt := 41) hx hb dX0_nextSection_29 (by decide) (fun c_2 => ?_) (fun c_2 => ?_)
    · skip
      have c_2 : ¬ ((σ 8) cu = (σ 10) cu) := bI_z.mp c_2
      refine lv_aload_n hx hb dX0_nextSection_41 rfl (lv_at hl 0 rfl) ?_
      refine va_get (D := D) (ci := 0) (v := .ref (a 10)) (C := RX0) (T := TX0) (N := 10) hx hb hts hiX0 hown hK.1 hP 0 rfl rfl 4 (by decide) (hts (.fieldLink RX0 21 "IceLanes$Couriers" "section" "[I") (by decide +kernel)) (fun _ h9 => h9) rfl dX0_nextSection_42 ?_
      refine lv_iload_n hx hb dX0_nextSection_45 rfl (lv_at hl 1 rfl) ?_
      refine va_iald hx hb hK.1 hP 4 0 rfl rfl (by first | assumption | exact vp_in_nI (by omega) (by decide)) dX0_nextSection_46 ?_
      rw [nI_clamp (n := cu) (by omega)]
      refine lv_iconst (v := 1) hx hb dX0_nextSection_47 (by decide) ?_
      refine lv_isub hx hb dX0_nextSection_48 ?_
      subst hQ
      exact ret_rdi hx hb hr rfl hlocks (show (σ 8 cu) - 1 = nsec σ cu from (by unfold nsec; first | rw [if_pos (by simp only [i_le, i_lt] at c_1 c_2 ⊢; omega)] | rw [if_neg (by simp only [i_le, i_lt] at c_1 c_2 ⊢; omega), if_pos (by assumption)] | rw [if_neg (by simp only [i_le, i_lt] at c_1 c_2 ⊢; omega), if_neg (by assumption)])) dX0_nextSection_49
    · skip
      have c_2 : ((σ 8) cu = (σ 10) cu) := bI_nz.mp c_2
      refine lv_aload_n hx hb dX0_nextSection_32 rfl (lv_at hl 0 rfl) ?_
      refine va_get (D := D) (ci := 0) (v := .ref (a 12)) (C := RX0) (T := TX0) (N := 10) hx hb hts hiX0 hown hK.1 hP 0 rfl rfl 6 (by decide) (hts (.fieldLink RX0 27 "IceLanes$Couriers" "goal" "[I") (by decide +kernel)) (fun _ h9 => h9) rfl dX0_nextSection_33 ?_
      refine lv_iload_n hx hb dX0_nextSection_36 rfl (lv_at hl 1 rfl) ?_
      refine va_iald hx hb hK.1 hP 6 0 rfl rfl (by first | assumption | exact vp_in_nI (by omega) (by decide)) dX0_nextSection_37 ?_
      rw [nI_clamp (n := cu) (by omega)]
      refine lv_goto (tgt := 49) hx hb dX0_nextSection_38 (by decide) ?_
      subst hQ
      exact ret_rdi hx hb hr rfl hlocks (show σ 10 cu = nsec σ cu from (by unfold nsec; first | rw [if_pos (by simp only [i_le, i_lt] at c_1 c_2 ⊢; omega)] | rw [if_neg (by simp only [i_le, i_lt] at c_1 c_2 ⊢; omega), if_pos (by assumption)] | rw [if_neg (by simp only [i_le, i_lt] at c_1 c_2 ⊢; omega), if_neg (by assumption)])) dX0_nextSection_49
  · skip
    refine lv_aload_n hx hb dX0_nextSection_15 rfl (lv_at hl 0 rfl) ?_
    refine va_get (D := D) (ci := 0) (v := .ref (a 10)) (C := RX0) (T := TX0) (N := 10) hx hb hts hiX0 hown hK.1 hP 0 rfl rfl 4 (by decide) (hts (.fieldLink RX0 21 "IceLanes$Couriers" "section" "[I") (by decide +kernel)) (fun _ h9 => h9) rfl dX0_nextSection_16 ?_
    refine lv_iload_n hx hb dX0_nextSection_19 rfl (lv_at hl 1 rfl) ?_
    refine va_iald hx hb hK.1 hP 4 0 rfl rfl (by first | assumption | exact vp_in_nI (by omega) (by decide)) dX0_nextSection_20 ?_
    rw [nI_clamp (n := cu) (by omega)]
    refine lv_iconst (v := 1) hx hb dX0_nextSection_21 (by decide) ?_
    refine lv_iadd hx hb dX0_nextSection_22 ?_
    subst hQ
    exact ret_rdi hx hb hr rfl hlocks (show (σ 8 cu) + 1 = nsec σ cu from (by unfold nsec; first | rw [if_pos (by simp only [i_le, i_lt] at c_1 ⊢; omega)] | rw [if_neg (by simp only [i_le, i_lt] at c_1 ⊢; omega), if_pos (by assumption)] | rw [if_neg (by simp only [i_le, i_lt] at c_1 ⊢; omega), if_neg (by assumption)])) dX0_nextSection_23
set_option maxHeartbeats 4000000 in
set_option maxRecDepth 100000 in
theorem M_X0_add (l : Launch) (D : va_G) (cI : ClassId) (a : Nat → Nat) (σ : St) (s1 : Int32) (s2 : Int32) (we : Int32) (le : Int32) (pa : Int32) (nc : Nat) (sz : Nat) (hnc : σ 17 0 = nI nc) (hn8 : nc < 8) : Met l yX0_add wsX0_add ({ frames := 0, cells := 0, slots := 0, locals := 0 } : Room) (wrPc [.ref (a 6), .int s1, .int s2, .int we, .int le, .int pa] D (wCou a cI σ) [(cI, .int)] sz) (wrQi (nI nc) D (wCou a cI (put (put (put (put (put (put (put (put (put (put σ 5 (upd (σ 5) nc we)) 6 (upd (σ 6) nc le)) 7 (upd (σ 7) nc 20)) 8 (upd (σ 8) nc s1)) 9 (upd (σ 9) nc s2)) 10 (upd (σ 10) nc s1)) 11 (upd (σ 11) nc 0)) 12 (upd (σ 12) nc 0)) 13 (upd (σ 13) nc pa)) 17 (fun _ => nI (nc + 1)))) (va_A (wCou a cI σ) sz)) 0 0 (va_A (wCou a cI σ) sz) := by
  refine Met.ofW (cc := cX0_add) (maxL := 7) (ret := (some .int)) (by decide) rfl ?_
  intro p e s m args below meth c s₁ B hml hv
  obtain ⟨hargs, hsz, hP, hK, hD0⟩ := hv
  have hx := B.exec
  have hb := B.bytes
  have hr := B.returns
  have hts := atoms_spec (ws := wsX0_add) B.pre
  have hown : s.vm.findClass RX0 = some m.cls := findClass_of_methodNamed B.named
  have hlocks := B.notSynchronized
  obtain ⟨_, hN⟩ := id hK
  have hiX0 : ∀ w ∈ wsX00, w ∈ wsX0_add := by decide +kernel
  subst hsz
  have hD := hD0.self (sz := s.heap.size)
  generalize hAe : va_A (wCou a cI σ) s.heap.size = A at hD ⊢
  have hA : ∀ q : Nat, s.heap.size ≤ q → A q := fun q h => by rw [← hAe]; exact Or.inr h
  have hS : va_S A s.heap s.heap [] := va_S.rf
  have hP : va_P D vwCl (wCou a cI σ) s.heap := hP
  refine my_abs (fun Q hQ => ?_)
  obtain ⟨ls, hl, hent⟩ := my_entry (m := m) (n := 7) hargs (Nat.le_of_ble_eq_true rfl)
  rw [hent]
  have hl : lv_has ls 7 [(0, .ref (a 6)), (1, .int s1), (2, .int s2), (3, .int we), (4, .int le), (5, .int pa)] := hl
  show W p l e ({ frames := 0, cells := 0, slots := 0, locals := 0 } : Room) s m args below meth c s.heap [] 0 0 Q (F0 m 0 ls [])
  refine lv_aload_n hx hb dX0_add_0 rfl (lv_at hl 0 rfl) ?_
  refine va_get (D := D) (ci := 0) (v := .int (σ 17 0)) (C := RX0) (T := TX0) (N := 10) hx hb hts hiX0 hown hK.1 hP 0 rfl rfl 0 (by decide) (hts (.fieldLink RX0 39 "IceLanes$Couriers" "number" "I") (by decide +kernel)) (fun _ h9 => h9) rfl dX0_add_1 ?_
  refine lv_bipush (v := 8) hx hb dX0_add_4 (by decide) ?_
  refine lv_icmp_lt (tgt := 11) hx hb dX0_add_6 (by decide) (fun c_1 => ?_) (fun c_1 => ?_)
  · skip
    refine lv_aload_n hx hb dX0_add_11 rfl (lv_at hl 0 rfl) ?_
    refine va_get (D := D) (ci := 0) (v := .int (σ 17 0)) (C := RX0) (T := TX0) (N := 10) hx hb hts hiX0 hown hK.1 hP 0 rfl rfl 0 (by decide) (hts (.fieldLink RX0 39 "IceLanes$Couriers" "number" "I") (by decide +kernel)) (fun _ h9 => h9) rfl dX0_add_12 ?_
    rw [hnc]
    refine lv_istore (lv' := [(6, .int (nI nc)), (0, .ref (a 6)), (1, .int s1), (2, .int s2), (3, .int we), (4, .int le), (5, .int pa)]) hx hb dX0_add_15 hl (by decide) rfl (fun ls hl => ?_)
    refine lv_aload_n hx hb dX0_add_17 rfl (lv_at hl 1 rfl) ?_
    refine va_get (D := D) (ci := 0) (v := .ref (a 7)) (C := RX0) (T := TX0) (N := 10) hx hb hts hiX0 hown hK.1 hP 0 rfl rfl 1 (by decide) (hts (.fieldLink RX0 9 "IceLanes$Couriers" "weight" "[I") (by decide +kernel)) (fun _ h9 => h9) rfl dX0_add_18 ?_
    refine lv_iload hx hb dX0_add_21 (lv_at hl 0 rfl) ?_
    refine lv_iload_n hx hb dX0_add_23 rfl (lv_at hl 4 rfl) ?_
    refine va_iast hx hb hK.1 hP hD hS 1 0 rfl rfl (by first | assumption | exact vp_in_nI (by omega) (by decide)) dX0_add_24 (fun H locs hP hD hS => ?_)
    rw [nI_clamp (n := nc) (by omega)] at hP hD
    have hP : va_P D vwCl (wCouE a cI (σ 17 0) (upd (σ 5) nc we) (σ 6) (σ 7) (σ 8) (σ 9) (σ 10) (σ 11) (σ 12) (σ 13)) H := hP
    have hD : va_D A (wCouE a cI (σ 17 0) (upd (σ 5) nc we) (σ 6) (σ 7) (σ 8) (σ 9) (σ 10) (σ 11) (σ 12) (σ 13)) := hD
    refine lv_aload_n hx hb dX0_add_25 rfl (lv_at hl 1 rfl) ?_
    refine va_get (D := D) (ci := 0) (v := .ref (a 8)) (C := RX0) (T := TX0) (N := 10) hx hb hts hiX0 hown hK.1 hP 0 rfl rfl 2 (by decide) (hts (.fieldLink RX0 15 "IceLanes$Couriers" "letters" "[I") (by decide +kernel)) (fun _ h9 => h9) rfl dX0_add_26 ?_
    refine lv_iload hx hb dX0_add_29 (lv_at hl 0 rfl) ?_
    refine lv_iload hx hb dX0_add_31 (lv_at hl 5 rfl) ?_
    refine va_iast hx hb hK.1 hP hD hS 2 0 rfl rfl (by first | assumption | exact vp_in_nI (by omega) (by decide)) dX0_add_33 (fun H locs hP hD hS => ?_)
    rw [nI_clamp (n := nc) (by omega)] at hP hD
    have hP : va_P D vwCl (wCouE a cI (σ 17 0) (upd (σ 5) nc we) (upd (σ 6) nc le) (σ 7) (σ 8) (σ 9) (σ 10) (σ 11) (σ 12) (σ 13)) H := hP
    have hD : va_D A (wCouE a cI (σ 17 0) (upd (σ 5) nc we) (upd (σ 6) nc le) (σ 7) (σ 8) (σ 9) (σ 10) (σ 11) (σ 12) (σ 13)) := hD
    refine lv_aload_n hx hb dX0_add_34 rfl (lv_at hl 1 rfl) ?_
    refine va_get (D := D) (ci := 0) (v := .ref (a 9)) (C := RX0) (T := TX0) (N := 10) hx hb hts hiX0 hown hK.1 hP 0 rfl rfl 3 (by decide) (hts (.fieldLink RX0 18 "IceLanes$Couriers" "strength" "[I") (by decide +kernel)) (fun _ h9 => h9) rfl dX0_add_35 ?_
    refine lv_iload hx hb dX0_add_38 (lv_at hl 0 rfl) ?_
    refine lv_bipush (v := 20) hx hb dX0_add_40 (by decide) ?_
    refine va_iast hx hb hK.1 hP hD hS 3 0 rfl rfl (by first | assumption | exact vp_in_nI (by omega) (by decide)) dX0_add_42 (fun H locs hP hD hS => ?_)
    rw [nI_clamp (n := nc) (by omega)] at hP hD
    have hP : va_P D vwCl (wCouE a cI (σ 17 0) (upd (σ 5) nc we) (upd (σ 6) nc le) (upd (σ 7) nc 20) (σ 8) (σ 9) (σ 10) (σ 11) (σ 12) (σ 13)) H := hP
    have hD : va_D A (wCouE a cI (σ 17 0) (upd (σ 5) nc we) (upd (σ 6) nc le) (upd (σ 7) nc 20) (σ 8) (σ 9) (σ 10) (σ 11) (σ 12) (σ 13)) := hD
    refine lv_aload_n hx hb dX0_add_43 rfl (lv_at hl 1 rfl) ?_
    refine va_get (D := D) (ci := 0) (v := .ref (a 10)) (C := RX0) (T := TX0) (N := 10) hx hb hts hiX0 hown hK.1 hP 0 rfl rfl 4 (by decide) (hts (.fieldLink RX0 21 "IceLanes$Couriers" "section" "[I") (by decide +kernel)) (fun _ h9 => h9) rfl dX0_add_44 ?_
    refine lv_iload hx hb dX0_add_47 (lv_at hl 0 rfl) ?_
    refine lv_iload_n hx hb dX0_add_49 rfl (lv_at hl 2 rfl) ?_
    refine va_iast hx hb hK.1 hP hD hS 4 0 rfl rfl (by first | assumption | exact vp_in_nI (by omega) (by decide)) dX0_add_50 (fun H locs hP hD hS => ?_)
    rw [nI_clamp (n := nc) (by omega)] at hP hD
    have hP : va_P D vwCl (wCouE a cI (σ 17 0) (upd (σ 5) nc we) (upd (σ 6) nc le) (upd (σ 7) nc 20) (upd (σ 8) nc s1) (σ 9) (σ 10) (σ 11) (σ 12) (σ 13)) H := hP
    have hD : va_D A (wCouE a cI (σ 17 0) (upd (σ 5) nc we) (upd (σ 6) nc le) (upd (σ 7) nc 20) (upd (σ 8) nc s1) (σ 9) (σ 10) (σ 11) (σ 12) (σ 13)) := hD
    refine lv_aload_n hx hb dX0_add_51 rfl (lv_at hl 1 rfl) ?_
    refine va_get (D := D) (ci := 0) (v := .ref (a 11)) (C := RX0) (T := TX0) (N := 10) hx hb hts hiX0 hown hK.1 hP 0 rfl rfl 5 (by decide) (hts (.fieldLink RX0 24 "IceLanes$Couriers" "lane" "[I") (by decide +kernel)) (fun _ h9 => h9) rfl dX0_add_52 ?_
    refine lv_iload hx hb dX0_add_55 (lv_at hl 0 rfl) ?_
    refine lv_iload_n hx hb dX0_add_57 rfl (lv_at hl 3 rfl) ?_
    refine va_iast hx hb hK.1 hP hD hS 5 0 rfl rfl (by first | assumption | exact vp_in_nI (by omega) (by decide)) dX0_add_58 (fun H locs hP hD hS => ?_)
    rw [nI_clamp (n := nc) (by omega)] at hP hD
    have hP : va_P D vwCl (wCouE a cI (σ 17 0) (upd (σ 5) nc we) (upd (σ 6) nc le) (upd (σ 7) nc 20) (upd (σ 8) nc s1) (upd (σ 9) nc s2) (σ 10) (σ 11) (σ 12) (σ 13)) H := hP
    have hD : va_D A (wCouE a cI (σ 17 0) (upd (σ 5) nc we) (upd (σ 6) nc le) (upd (σ 7) nc 20) (upd (σ 8) nc s1) (upd (σ 9) nc s2) (σ 10) (σ 11) (σ 12) (σ 13)) := hD
    refine lv_aload_n hx hb dX0_add_59 rfl (lv_at hl 1 rfl) ?_
    refine va_get (D := D) (ci := 0) (v := .ref (a 12)) (C := RX0) (T := TX0) (N := 10) hx hb hts hiX0 hown hK.1 hP 0 rfl rfl 6 (by decide) (hts (.fieldLink RX0 27 "IceLanes$Couriers" "goal" "[I") (by decide +kernel)) (fun _ h9 => h9) rfl dX0_add_60 ?_
    refine lv_iload hx hb dX0_add_63 (lv_at hl 0 rfl) ?_
    refine lv_iload_n hx hb dX0_add_65 rfl (lv_at hl 2 rfl) ?_
    refine va_iast hx hb hK.1 hP hD hS 6 0 rfl rfl (by first | assumption | exact vp_in_nI (by omega) (by decide)) dX0_add_66 (fun H locs hP hD hS => ?_)
    rw [nI_clamp (n := nc) (by omega)] at hP hD
    have hP : va_P D vwCl (wCouE a cI (σ 17 0) (upd (σ 5) nc we) (upd (σ 6) nc le) (upd (σ 7) nc 20) (upd (σ 8) nc s1) (upd (σ 9) nc s2) (upd (σ 10) nc s1) (σ 11) (σ 12) (σ 13)) H := hP
    have hD : va_D A (wCouE a cI (σ 17 0) (upd (σ 5) nc we) (upd (σ 6) nc le) (upd (σ 7) nc 20) (upd (σ 8) nc s1) (upd (σ 9) nc s2) (upd (σ 10) nc s1) (σ 11) (σ 12) (σ 13)) := hD
    refine lv_aload_n hx hb dX0_add_67 rfl (lv_at hl 1 rfl) ?_
    refine va_get (D := D) (ci := 0) (v := .ref (a 13)) (C := RX0) (T := TX0) (N := 10) hx hb hts hiX0 hown hK.1 hP 0 rfl rfl 7 (by decide) (hts (.fieldLink RX0 30 "IceLanes$Couriers" "state" "[I") (by decide +kernel)) (fun _ h9 => h9) rfl dX0_add_68 ?_
    refine lv_iload hx hb dX0_add_71 (lv_at hl 0 rfl) ?_
    refine lv_iconst (v := 0) hx hb dX0_add_73 (by decide) ?_
    refine va_iast hx hb hK.1 hP hD hS 7 0 rfl rfl (by first | assumption | exact vp_in_nI (by omega) (by decide)) dX0_add_74 (fun H locs hP hD hS => ?_)
    rw [nI_clamp (n := nc) (by omega)] at hP hD
    have hP : va_P D vwCl (wCouE a cI (σ 17 0) (upd (σ 5) nc we) (upd (σ 6) nc le) (upd (σ 7) nc 20) (upd (σ 8) nc s1) (upd (σ 9) nc s2) (upd (σ 10) nc s1) (upd (σ 11) nc 0) (σ 12) (σ 13)) H := hP
    have hD : va_D A (wCouE a cI (σ 17 0) (upd (σ 5) nc we) (upd (σ 6) nc le) (upd (σ 7) nc 20) (upd (σ 8) nc s1) (upd (σ 9) nc s2) (upd (σ 10) nc s1) (upd (σ 11) nc 0) (σ 12) (σ 13)) := hD
    refine lv_aload_n hx hb dX0_add_75 rfl (lv_at hl 1 rfl) ?_
    refine va_get (D := D) (ci := 0) (v := .ref (a 14)) (C := RX0) (T := TX0) (N := 10) hx hb hts hiX0 hown hK.1 hP 0 rfl rfl 8 (by decide) (hts (.fieldLink RX0 33 "IceLanes$Couriers" "steps" "[I") (by decide +kernel)) (fun _ h9 => h9) rfl dX0_add_76 ?_
    refine lv_iload hx hb dX0_add_79 (lv_at hl 0 rfl) ?_
    refine lv_iconst (v := 0) hx hb dX0_add_81 (by decide) ?_
    refine va_iast hx hb hK.1 hP hD hS 8 0 rfl rfl (by first | assumption | exact vp_in_nI (by omega) (by decide)) dX0_add_82 (fun H locs hP hD hS => ?_)
    rw [nI_clamp (n := nc) (by omega)] at hP hD
    have hP : va_P D vwCl (wCouE a cI (σ 17 0) (upd (σ 5) nc we) (upd (σ 6) nc le) (upd (σ 7) nc 20) (upd (σ 8) nc s1) (upd (σ 9) nc s2) (upd (σ 10) nc s1) (upd (σ 11) nc 0) (upd (σ 12) nc 0) (σ 13)) H := hP
    have hD : va_D A (wCouE a cI (σ 17 0) (upd (σ 5) nc we) (upd (σ 6) nc le) (upd (σ 7) nc 20) (upd (σ 8) nc s1) (upd (σ 9) nc s2) (upd (σ 10) nc s1) (upd (σ 11) nc 0) (upd (σ 12) nc 0) (σ 13)) := hD
    refine lv_aload_n hx hb dX0_add_83 rfl (lv_at hl 1 rfl) ?_
    refine va_get (D := D) (ci := 0) (v := .ref (a 15)) (C := RX0) (T := TX0) (N := 10) hx hb hts hiX0 hown hK.1 hP 0 rfl rfl 9 (by decide) (hts (.fieldLink RX0 36 "IceLanes$Couriers" "pace" "[I") (by decide +kernel)) (fun _ h9 => h9) rfl dX0_add_84 ?_
    refine lv_iload hx hb dX0_add_87 (lv_at hl 0 rfl) ?_
    refine lv_iload hx hb dX0_add_89 (lv_at hl 6 rfl) ?_
    refine va_iast hx hb hK.1 hP hD hS 9 0 rfl rfl (by first | assumption | exact vp_in_nI (by omega) (by decide)) dX0_add_91 (fun H locs hP hD hS => ?_)
    rw [nI_clamp (n := nc) (by omega)] at hP hD
    have hP : va_P D vwCl (wCouE a cI (σ 17 0) (upd (σ 5) nc we) (upd (σ 6) nc le) (upd (σ 7) nc 20) (upd (σ 8) nc s1) (upd (σ 9) nc s2) (upd (σ 10) nc s1) (upd (σ 11) nc 0) (upd (σ 12) nc 0) (upd (σ 13) nc pa)) H := hP
    have hD : va_D A (wCouE a cI (σ 17 0) (upd (σ 5) nc we) (upd (σ 6) nc le) (upd (σ 7) nc 20) (upd (σ 8) nc s1) (upd (σ 9) nc s2) (upd (σ 10) nc s1) (upd (σ 11) nc 0) (upd (σ 12) nc 0) (upd (σ 13) nc pa)) := hD
    refine lv_aload_n hx hb dX0_add_92 rfl (lv_at hl 1 rfl) ?_
    refine lv_dup hx hb dX0_add_93 rfl ?_
    refine va_get (D := D) (ci := 0) (v := .int (σ 17 0)) (C := RX0) (T := TX0) (N := 10) hx hb hts hiX0 hown hK.1 hP 0 rfl rfl 0 (by decide) (hts (.fieldLink RX0 39 "IceLanes$Couriers" "number" "I") (by decide +kernel)) (fun _ h9 => h9) rfl dX0_add_94 ?_
    rw [hnc]
    refine lv_iconst (v := 1) hx hb dX0_add_97 (by decide) ?_
    refine lv_iadd hx hb dX0_add_98 ?_
    refine va_put (D := D) (ci := 0) (v := .int ((nI nc) + 1)) (ty := .int) (C := RX0) (T := TX0) (N := 10) hx hb hts hiX0 tyX0 tyX0_ok nmX0 hown hK.1 hP hD hS 0 rfl rfl 0 (by decide) (hts (.fieldLink RX0 39 "IceLanes$Couriers" "number" "I") (by decide +kernel)) (fun _ h9 => h9) rfl (by decide +kernel) rfl rfl (Nat.le_of_ble_eq_true rfl) dX0_add_99 (fun H locs hP hD hS => ?_)
    have hP : va_P D vwCl (wCouE a cI ((nI nc) + 1) (upd (σ 5) nc we) (upd (σ 6) nc le) (upd (σ 7) nc 20) (upd (σ 8) nc s1) (upd (σ 9) nc s2) (upd (σ 10) nc s1) (upd (σ 11) nc 0) (upd (σ 12) nc 0) (upd (σ 13) nc pa)) H := hP
    have hD : va_D A (wCouE a cI ((nI nc) + 1) (upd (σ 5) nc we) (upd (σ 6) nc le) (upd (σ 7) nc 20) (upd (σ 8) nc s1) (upd (σ 9) nc s2) (upd (σ 10) nc s1) (upd (σ 11) nc 0) (upd (σ 12) nc 0) (upd (σ 13) nc pa)) := hD
    refine lv_iload hx hb dX0_add_102 (lv_at hl 0 rfl) ?_
    subst hQ
    have hP : va_P D vwCl (wCou a cI (put (put (put (put (put (put (put (put (put (put σ 5 (upd (σ 5) nc we)) 6 (upd (σ 6) nc le)) 7 (upd (σ 7) nc 20)) 8 (upd (σ 8) nc s1)) 9 (upd (σ 9) nc s2)) 10 (upd (σ 10) nc s1)) 11 (upd (σ 11) nc 0)) 12 (upd (σ 12) nc 0)) 13 (upd (σ 13) nc pa)) 17 (fun _ => (nI nc) + 1))) H := hP
    have hD : va_D A (wCou a cI (put (put (put (put (put (put (put (put (put (put σ 5 (upd (σ 5) nc we)) 6 (upd (σ 6) nc le)) 7 (upd (σ 7) nc 20)) 8 (upd (σ 8) nc s1)) 9 (upd (σ 9) nc s2)) 10 (upd (σ 10) nc s1)) 11 (upd (σ 11) nc 0)) 12 (upd (σ 12) nc 0)) 13 (upd (σ 13) nc pa)) 17 (fun _ => (nI nc) + 1))) := hD
    have k_17 : (fun _ => (nI nc) + 1 : Nat → Int32) = (fun _ => nI (nc + 1)) := by rw [nI_1]
    have hst_s : put (put (put (put (put (put (put (put (put (put σ 5 (upd (σ 5) nc we)) 6 (upd (σ 6) nc le)) 7 (upd (σ 7) nc 20)) 8 (upd (σ 8) nc s1)) 9 (upd (σ 9) nc s2)) 10 (upd (σ 10) nc s1)) 11 (upd (σ 11) nc 0)) 12 (upd (σ 12) nc 0)) 13 (upd (σ 13) nc pa)) 17 (fun _ => (nI nc) + 1) = put (put (put (put (put (put (put (put (put (put σ 5 (upd (σ 5) nc we)) 6 (upd (σ 6) nc le)) 7 (upd (σ 7) nc 20)) 8 (upd (σ 8) nc s1)) 9 (upd (σ 9) nc s2)) 10 (upd (σ 10) nc s1)) 11 (upd (σ 11) nc 0)) 12 (upd (σ 12) nc 0)) 13 (upd (σ 13) nc pa)) 17 (fun _ => nI (nc + 1)) := put_cg (put_cg (put_cg (put_cg (put_cg (put_cg (put_cg (put_cg (put_cg (put_cg rfl rfl) rfl) rfl) rfl) rfl) rfl) rfl) rfl) rfl) k_17
    rw [hst_s] at hP hD
    exact ret_wri hx hb hr rfl hlocks hP hD hS (show nI nc = nI nc from rfl) dX0_add_104
  · skip
    exact absurd (by rw [hnc]; exact (nI_ltI (a := nc) (b := 8) (by omega) (by omega)).mpr hn8) c_1
