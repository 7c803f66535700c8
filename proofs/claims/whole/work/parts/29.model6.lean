set_option maxHeartbeats 4000000 in
set_option maxRecDepth 100000 in
theorem M_X6_bears_e1 (l : Launch) (D : va_G) (cI : ClassId) (b : Nat → Nat) (d : Nat → Nat) (d2 : Nat → Nat) (σ : St) (σ2 : St) (ω : St) (p0 : Int32) (p1 : Int32) (sz : Nat) (h1 : ¬ ((0 ≤ p0 ∧ p0 ≤ 11) ∧ (0 ≤ p1 ∧ p1 ≤ 11))) : Met l yX6_bears wsX6_bears ({ frames := 1, cells := 0, slots := 0, locals := 22 } : Room) (wrPc [.ref (b 0), .int p0, .int p1] D (wMod b d d2 cI σ σ2 ω) [(cI, .int)] sz) (wrQi 0 D (wMod b d d2 cI σ σ2 (put ω 20 (fun _ => 1))) (va_A (wMod b d d2 cI σ σ2 ω) sz)) 0 0 (va_A (wMod b d d2 cI σ σ2 ω) sz) := by
  refine Met.ofW (cc := cX6_bears) (maxL := 9) (ret := (some .int)) (by decide) rfl ?_
  intro p e s m args below meth c s₁ B hml hv
  obtain ⟨hargs, hsz, hP, hK, hD0⟩ := hv
  have hx := B.exec
  have hb := B.bytes
  have hr := B.returns
  have hts := atoms_spec (ws := wsX6_bears) B.pre
  have hown : s.vm.findClass RX6 = some m.cls := findClass_of_methodNamed B.named
  have hlocks := B.notSynchronized
  obtain ⟨_, hN⟩ := id hK
  have hiX6 : ∀ w ∈ wsX60, w ∈ wsX6_bears := by decide +kernel
  subst hsz
  have hD := hD0.self (sz := s.heap.size)
  generalize hAe : va_A (wMod b d d2 cI σ σ2 ω) s.heap.size = A at hD ⊢
  have hA : ∀ q : Nat, s.heap.size ≤ q → A q := fun q h => by rw [← hAe]; exact Or.inr h
  have hS : va_S A s.heap s.heap [] := va_S.rf
  have hP : va_P D vwCl (wMod b d d2 cI σ σ2 ω) s.heap := hP
  refine my_abs (fun Q hQ => ?_)
  obtain ⟨ls, hl, hent⟩ := my_entry (m := m) (n := 9) hargs (Nat.le_of_ble_eq_true rfl)
  rw [hent]
  have hl : lv_has ls 9 [(0, .ref (b 0)), (1, .int p0), (2, .int p1)] := hl
  show W p l e ({ frames := 1, cells := 0, slots := 0, locals := 22 } : Room) s m args below meth c s.heap [] 0 0 Q (F0 m 0 ls [])
  refine lv_aload_n hx hb dX6_bears_0 rfl (lv_at hl 0 rfl) ?_
  refine lv_iconst (v := 0) hx hb dX6_bears_1 (by decide) ?_
  refine va_put (D := D) (ci := 6) (v := .int 0) (ty := .int) (C := RX6) (T := TX6) (N := 8) hx hb hts hiX6 tyX6 tyX6_ok nmX6 hown hK.1 hP hD hS 0 rfl rfl 0 (by decide) (hts (.fieldLink RX6 43 "IceLanesModel" "thrown" "I") (by decide +kernel)) (fun _ h9 => h9) rfl (by decide +kernel) rfl rfl (Nat.le_of_ble_eq_true rfl) dX6_bears_2 (fun H locs hP hD hS => ?_)
  have hP : va_P D vwCl (wOutE b d d2 cI 0 (ω 19 0) (ω 1) (ω 2) (ω 14) (ω 15) ++ (wSta d (b 0) cI σ ++ wSta d2 (b 0) cI σ2)) H := hP
  have hD : va_D A (wOutE b d d2 cI 0 (ω 19 0) (ω 1) (ω 2) (ω 14) (ω 15) ++ (wSta d (b 0) cI σ ++ wSta d2 (b 0) cI σ2)) := hD
  refine lv_iload_n hx hb dX6_bears_5 rfl (lv_at hl 1 rfl) ?_
  refine lv_iconst (v := 0) hx hb dX6_bears_6 (by decide) ?_
  refine lv_bipush (v := 11) hx hb dX6_bears_7 (by decide) ?_
  refine rd_i (va_runS (As := [.int p0, .int 0, .int 11]) (rest := []) ⟨hx, hb, hml, hown, hts⟩ (M_X6_isIn l D cI p0 0 11 ) (va_cwS 3 hts gX6_bears_X6_isIn rfl rfl rfl (by decide +kernel) ⟨Nat.le_of_ble_eq_true rfl, Nat.le_of_ble_eq_true rfl⟩) (rdS hK hP [] [0] rfl rfl) rfl rfl hl.1 rfl (lv_room (Nat.le_of_ble_eq_true rfl)) dX6_bears_9 ⟨Nat.zero_le _, Nat.zero_le _⟩) ?_
  refine lv_if_eq (tgt := 25) hx hb dX6_bears_12 (by decide) (fun c_1 => ?_) (fun c_1 => ?_)
  · skip
    have c_1 : ¬ (0 ≤ p0 ∧ p0 ≤ 11) := bI_z.mp c_1
    refine lv_aload_n hx hb dX6_bears_25 rfl (lv_at hl 0 rfl) ?_
    refine lv_iconst (v := 1) hx hb dX6_bears_26 (by decide) ?_
    refine wr_i (wn := wOutE b d d2 cI 1 (ω 19 0) (ω 1) (ω 2) (ω 14) (ω 15) ++ (wSta d (b 0) cI σ ++ wSta d2 (b 0) cI σ2)) (va_runV (As := [.int 1]) (rest := []) ⟨hx, hb, hml, hown, hts⟩ (M_X6_no l D cI b d d2 σ σ2 (put ω 20 (fun _ => 0)) 1 _ ) (cwV 1 hts gX6_bears_X6_no rfl rfl rfl (by decide +kernel) ⟨Nat.le_of_ble_eq_true rfl, Nat.le_of_ble_eq_true rfl⟩) (wrV hK hP hD [0, 1, 2, 3, 4, 5, 6, 7, 8, 9, 10, 11, 12] [0] rfl rfl rfl (ci := 6) (q0 := 0) rfl rfl) rfl rfl hl.1 rfl (lv_room (Nat.le_of_ble_eq_true rfl)) dX6_bears_27 ⟨Nat.le_of_ble_eq_true rfl, Nat.le_of_ble_eq_true rfl⟩) hP hD hS hA [0, 1, 2, 3, 4, 5, 6, 7, 8, 9, 10, 11, 12] [] [0, 1, 2, 3, 4, 5, 6, 7, 8, 9, 10, 11, 12] rfl rfl rfl rfl rfl rfl (fun H locs hP hD hS => ?_)
    refine W.eq (g2 := F0 m 30 ls [.int 0]) rfl ?_
    subst hQ
    have hP : va_P D vwCl (wMod b d d2 cI σ σ2 (put ω 20 (fun _ => 1))) H := hP
    have hD : va_D A (wMod b d d2 cI σ σ2 (put ω 20 (fun _ => 1))) := hD
    exact ret_wri hx hb hr rfl hlocks hP hD hS (show 0 = 0 from rfl) dX6_bears_30
  · skip
    have c_1 : (0 ≤ p0 ∧ p0 ≤ 11) := bI_nz.mp c_1
    refine lv_iload_n hx hb dX6_bears_15 rfl (lv_at hl 2 rfl) ?_
    refine lv_iconst (v := 0) hx hb dX6_bears_16 (by decide) ?_
    refine lv_bipush (v := 11) hx hb dX6_bears_17 (by decide) ?_
    refine rd_i (va_runS (As := [.int p1, .int 0, .int 11]) (rest := []) ⟨hx, hb, hml, hown, hts⟩ (M_X6_isIn l D cI p1 0 11 ) (va_cwS 3 hts gX6_bears_X6_isIn rfl rfl rfl (by decide +kernel) ⟨Nat.le_of_ble_eq_true rfl, Nat.le_of_ble_eq_true rfl⟩) (rdS hK hP [] [0] rfl rfl) rfl rfl hl.1 rfl (lv_room (Nat.le_of_ble_eq_true rfl)) dX6_bears_19 ⟨Nat.zero_le _, Nat.zero_le _⟩) ?_
    refine lv_if_ne (tgt := 31) hx hb dX6_bears_22 (by decide) (fun c_2 => ?_) (fun c_2 => ?_)
    · skip
      have c_2 : (0 ≤ p1 ∧ p1 ≤ 11) := bI_nz.mp c_2
      exact absurd ⟨by assumption, c_2⟩ h1
    · skip
      have c_2 : ¬ (0 ≤ p1 ∧ p1 ≤ 11) := bI_z.mp c_2
      refine lv_aload_n hx hb dX6_bears_25 rfl (lv_at hl 0 rfl) ?_
      refine lv_iconst (v := 1) hx hb dX6_bears_26 (by decide) ?_
      refine wr_i (wn := wOutE b d d2 cI 1 (ω 19 0) (ω 1) (ω 2) (ω 14) (ω 15) ++ (wSta d (b 0) cI σ ++ wSta d2 (b 0) cI σ2)) (va_runV (As := [.int 1]) (rest := []) ⟨hx, hb, hml, hown, hts⟩ (M_X6_no l D cI b d d2 σ σ2 (put ω 20 (fun _ => 0)) 1 _ ) (cwV 1 hts gX6_bears_X6_no rfl rfl rfl (by decide +kernel) ⟨Nat.le_of_ble_eq_true rfl, Nat.le_of_ble_eq_true rfl⟩) (wrV hK hP hD [0, 1, 2, 3, 4, 5, 6, 7, 8, 9, 10, 11, 12] [0] rfl rfl rfl (ci := 6) (q0 := 0) rfl rfl) rfl rfl hl.1 rfl (lv_room (Nat.le_of_ble_eq_true rfl)) dX6_bears_27 ⟨Nat.le_of_ble_eq_true rfl, Nat.le_of_ble_eq_true rfl⟩) hP hD hS hA [0, 1, 2, 3, 4, 5, 6, 7, 8, 9, 10, 11, 12] [] [0, 1, 2, 3, 4, 5, 6, 7, 8, 9, 10, 11, 12] rfl rfl rfl rfl rfl rfl (fun H locs hP hD hS => ?_)
      refine W.eq (g2 := F0 m 30 ls [.int 0]) rfl ?_
      subst hQ
      have hP : va_P D vwCl (wMod b d d2 cI σ σ2 (put ω 20 (fun _ => 1))) H := hP
      have hD : va_D A (wMod b d d2 cI σ σ2 (put ω 20 (fun _ => 1))) := hD
      exact ret_wri hx hb hr rfl hlocks hP hD hS (show 0 = 0 from rfl) dX6_bears_30
set_option maxHeartbeats 4000000 in
set_option maxRecDepth 100000 in
theorem M_X6_bears_ok (l : Launch) (D : va_G) (cI : ClassId) (b : Nat → Nat) (d : Nat → Nat) (d2 : Nat → Nat) (σ : St) (σ2 : St) (ω : St) (f0 : Nat) (t0 : Nat) (sz : Nat) (h1 : (0 ≤ nI f0 ∧ nI f0 ≤ 11)) (h2 : (0 ≤ nI t0 ∧ nI t0 ≤ 11)) (hf : f0 < 12) (ht : t0 < 12) : Met l yX6_bears wsX6_bears ({ frames := 2, cells := 12, slots := 36, locals := 42 } : Room) (wrPc [.ref (b 0), .int (nI f0), .int (nI t0)] D (wMod b d d2 cI σ σ2 ω) [(cI, .int)] sz) (wrQi (brF (σ 3) (σ 4) f0 t0) D (wMod b d d2 cI σ σ2 (put ω 20 (fun _ => 0))) (va_A (wMod b d d2 cI σ σ2 ω) sz)) 12 36 (va_A (wMod b d d2 cI σ σ2 ω) sz) := by
  refine Met.ofW (cc := cX6_bears) (maxL := 9) (ret := (some .int)) (by decide) rfl ?_
  intro p e s m args below meth c s₁ B hml hv
  obtain ⟨hargs, hsz, hP, hK, hD0⟩ := hv
  have hx := B.exec
  have hb := B.bytes
  have hr := B.returns
  have hts := atoms_spec (ws := wsX6_bears) B.pre
  have hown : s.vm.findClass RX6 = some m.cls := findClass_of_methodNamed B.named
  have hlocks := B.notSynchronized
  obtain ⟨_, hN⟩ := id hK
  have hiX6 : ∀ w ∈ wsX60, w ∈ wsX6_bears := by decide +kernel
  subst hsz
  have hD := hD0.self (sz := s.heap.size)
  generalize hAe : va_A (wMod b d d2 cI σ σ2 ω) s.heap.size = A at hD ⊢
  have hA : ∀ q : Nat, s.heap.size ≤ q → A q := fun q h => by rw [← hAe]; exact Or.inr h
  have hS : va_S A s.heap s.heap [] := va_S.rf
  have hP : va_P D vwCl (wMod b d d2 cI σ σ2 ω) s.heap := hP
  refine my_abs (fun Q hQ => ?_)
  obtain ⟨ls, hl, hent⟩ := my_entry (m := m) (n := 9) hargs (Nat.le_of_ble_eq_true rfl)
  rw [hent]
  have hl : lv_has ls 9 [(0, .ref (b 0)), (1, .int (nI f0)), (2, .int (nI t0))] := hl
  show W p l e ({ frames := 2, cells := 12, slots := 36, locals := 42 } : Room) s m args below meth c s.heap [] 0 0 Q (F0 m 0 ls [])
  refine lv_aload_n hx hb dX6_bears_0 rfl (lv_at hl 0 rfl) ?_
  refine lv_iconst (v := 0) hx hb dX6_bears_1 (by decide) ?_
  refine va_put (D := D) (ci := 6) (v := .int 0) (ty := .int) (C := RX6) (T := TX6) (N := 8) hx hb hts hiX6 tyX6 tyX6_ok nmX6 hown hK.1 hP hD hS 0 rfl rfl 0 (by decide) (hts (.fieldLink RX6 43 "IceLanesModel" "thrown" "I") (by decide +kernel)) (fun _ h9 => h9) rfl (by decide +kernel) rfl rfl (Nat.le_of_ble_eq_true rfl) dX6_bears_2 (fun H locs hP hD hS => ?_)
  have hP : va_P D vwCl (wOutE b d d2 cI 0 (ω 19 0) (ω 1) (ω 2) (ω 14) (ω 15) ++ (wSta d (b 0) cI σ ++ wSta d2 (b 0) cI σ2)) H := hP
  have hD : va_D A (wOutE b d d2 cI 0 (ω 19 0) (ω 1) (ω 2) (ω 14) (ω 15) ++ (wSta d (b 0) cI σ ++ wSta d2 (b 0) cI σ2)) := hD
  refine lv_iload_n hx hb dX6_bears_5 rfl (lv_at hl 1 rfl) ?_
  refine lv_iconst (v := 0) hx hb dX6_bears_6 (by decide) ?_
  refine lv_bipush (v := 11) hx hb dX6_bears_7 (by decide) ?_
  refine rd_i (va_runS (As := [.int (nI f0), .int 0, .int 11]) (rest := []) ⟨hx, hb, hml, hown, hts⟩ (M_X6_isIn l D cI (nI f0) 0 11 ) (va_cwS 3 hts gX6_bears_X6_isIn rfl rfl rfl (by decide +kernel) ⟨Nat.le_of_ble_eq_true rfl, Nat.le_of_ble_eq_true rfl⟩) (rdS hK hP [] [0] rfl rfl) rfl rfl hl.1 rfl (lv_room (Nat.le_of_ble_eq_true rfl)) dX6_bears_9 ⟨Nat.le_of_ble_eq_true rfl, Nat.le_of_ble_eq_true rfl⟩) ?_
  refine lv_if_eq (tgt := 25) hx hb dX6_bears_12 (by decide) (fun c_1 => ?_) (fun c_1 => ?_)
  · skip
    have c_1 : ¬ (0 ≤ (nI f0) ∧ (nI f0) ≤ 11) := bI_z.mp c_1
    first | exact absurd c_1 (by assumption) | exact absurd (by assumption) c_1
  · skip
    have c_1 : (0 ≤ (nI f0) ∧ (nI f0) ≤ 11) := bI_nz.mp c_1
    refine lv_iload_n hx hb dX6_bears_15 rfl (lv_at hl 2 rfl) ?_
    refine lv_iconst (v := 0) hx hb dX6_bears_16 (by decide) ?_
    refine lv_bipush (v := 11) hx hb dX6_bears_17 (by decide) ?_
    refine rd_i (va_runS (As := [.int (nI t0), .int 0, .int 11]) (rest := []) ⟨hx, hb, hml, hown, hts⟩ (M_X6_isIn l D cI (nI t0) 0 11 ) (va_cwS 3 hts gX6_bears_X6_isIn rfl rfl rfl (by decide +kernel) ⟨Nat.le_of_ble_eq_true rfl, Nat.le_of_ble_eq_true rfl⟩) (rdS hK hP [] [0] rfl rfl) rfl rfl hl.1 rfl (lv_room (Nat.le_of_ble_eq_true rfl)) dX6_bears_19 ⟨Nat.le_of_ble_eq_true rfl, Nat.le_of_ble_eq_true rfl⟩) ?_
    refine lv_if_ne (tgt := 31) hx hb dX6_bears_22 (by decide) (fun c_2 => ?_) (fun c_2 => ?_)
    · skip
      have c_2 : (0 ≤ (nI t0) ∧ (nI t0) ≤ 11) := bI_nz.mp c_2
      refine lv_iload_n hx hb dX6_bears_31 rfl (lv_at hl 1 rfl) ?_
      refine lv_iload_n hx hb dX6_bears_32 rfl (lv_at hl 2 rfl) ?_
      refine lv_icmp_ge (tgt := 40) hx hb dX6_bears_33 (by decide) (fun c_3 => ?_) (fun c_3 => ?_)
      · skip
        have hft : t0 ≤ f0 := (nI_leI (by omega) (by omega)).mp c_3
        refine lv_iconst (v := (-1)) hx hb dX6_bears_40 (by decide) ?_
        refine lv_istore_n (lv' := [(3, .int (-1)), (0, .ref (b 0)), (1, .int (nI f0)), (2, .int (nI t0))]) hx hb dX6_bears_41 rfl hl (by decide) rfl (fun ls hl => ?_)
        refine lv_iconst (v := 3) hx hb dX6_bears_42 (by decide) ?_
        refine my_newi (N := 3) hx hb (hts (.arrayClass .int) (by decide +kernel)) hK.1 hP hD hS hA (by decide) rfl (Nat.le_of_ble_eq_true rfl) (Nat.le_of_ble_eq_true rfl) (Nat.le_of_ble_eq_true rfl) dX6_bears_43 (fun q_4 H hP hD hS => ?_)
        have hP : va_P D vwCl ((wOutE b d d2 cI 0 (ω 19 0) (ω 1) (ω 2) (ω 14) (ω 15) ++ (wSta d (b 0) cI σ ++ wSta d2 (b 0) cI σ2)) ++ [(q_4, .inl (cI, 3, .inl (fun _ => 0)))]) H := hP
        have hD : va_D A ((wOutE b d d2 cI 0 (ω 19 0) (ω 1) (ω 2) (ω 14) (ω 15) ++ (wSta d (b 0) cI σ ++ wSta d2 (b 0) cI σ2)) ++ [(q_4, .inl (cI, 3, .inl (fun _ => 0)))]) := hD
        refine lv_dup hx hb dX6_bears_45 rfl ?_
        refine lv_iconst (v := 0) hx hb dX6_bears_46 (by decide) ?_
        refine lv_aload_n hx hb dX6_bears_47 rfl (lv_at hl 1 rfl) ?_
        refine lv_iconst (v := 3) hx hb dX6_bears_48 (by decide) ?_
        refine lv_iload_n hx hb dX6_bears_49 rfl (lv_at hl 2 rfl) ?_
        refine lv_imul hx hb dX6_bears_50 ?_
        rw [show 3 * nI f0 = nI (3 * f0) from pk_mul 3 f0]
        refine rd_i (va_runV (As := [.int (nI (3 * f0))]) (rest := [.int 0, .ref q_4, .ref q_4]) ⟨hx, hb, hml, hown, hts⟩ (M_X6_borne l D cI b d d2 σ σ2 (put ω 20 (fun _ => 0)) (3 * f0) (by omega)) (cwV 1 hts gX6_bears_X6_borne rfl rfl rfl (by decide +kernel) ⟨Nat.le_of_ble_eq_true rfl, Nat.le_of_ble_eq_true rfl⟩) (rdV hK hP [0, 1, 2, 3, 4, 5, 6, 7, 8, 9, 10, 11, 12] [0] rfl rfl (ci := 6) (q0 := 0) rfl rfl) rfl rfl hl.1 rfl (lv_room (Nat.le_of_ble_eq_true rfl)) dX6_bears_51 ⟨Nat.le_of_ble_eq_true rfl, Nat.le_of_ble_eq_true rfl⟩) ?_
        refine W.eq (g2 := F0 m 54 ls [.int (mx 0 (sndP ((σ 3)) ((σ 4)) (nI (3 * f0)))), .int 0, .ref q_4, .ref q_4]) rfl ?_
        refine va_iast hx hb hK.1 hP hD hS 13 0 rfl rfl (by unfold vp_in; decide) dX6_bears_54 (fun H locs hP hD hS => ?_)
        have hP : va_P D vwCl ((wOutE b d d2 cI 0 (ω 19 0) (ω 1) (ω 2) (ω 14) (ω 15) ++ (wSta d (b 0) cI σ ++ wSta d2 (b 0) cI σ2)) ++ [(q_4, .inl (cI, 3, .inl (upd (fun _ => 0) 0 (mx 0 (sndP ((σ 3)) ((σ 4)) (nI (3 * f0)))))))]) H := hP
        have hD : va_D A ((wOutE b d d2 cI 0 (ω 19 0) (ω 1) (ω 2) (ω 14) (ω 15) ++ (wSta d (b 0) cI σ ++ wSta d2 (b 0) cI σ2)) ++ [(q_4, .inl (cI, 3, .inl (upd (fun _ => 0) 0 (mx 0 (sndP ((σ 3)) ((σ 4)) (nI (3 * f0)))))))]) := hD
        refine lv_dup hx hb dX6_bears_55 rfl ?_
        refine lv_iconst (v := 1) hx hb dX6_bears_56 (by decide) ?_
        refine lv_aload_n hx hb dX6_bears_57 rfl (lv_at hl 1 rfl) ?_
        refine lv_iconst (v := 3) hx hb dX6_bears_58 (by decide) ?_
        refine lv_iload_n hx hb dX6_bears_59 rfl (lv_at hl 2 rfl) ?_
        refine lv_imul hx hb dX6_bears_60 ?_
        rw [show 3 * nI f0 = nI (3 * f0) from pk_mul 3 f0]
        refine lv_iconst (v := 1) hx hb dX6_bears_61 (by decide) ?_
        refine lv_iadd hx hb dX6_bears_62 ?_
        rw [show nI (3 * f0) + 1 = nI (3 * f0 + 1) from nI_1 _]
        refine rd_i (va_runV (As := [.int (nI (3 * f0 + 1))]) (rest := [.int 1, .ref q_4, .ref q_4]) ⟨hx, hb, hml, hown, hts⟩ (M_X6_borne l D cI b d d2 σ σ2 (put ω 20 (fun _ => 0)) (3 * f0 + 1) (by omega)) (cwV 1 hts gX6_bears_X6_borne rfl rfl rfl (by decide +kernel) ⟨Nat.le_of_ble_eq_true rfl, Nat.le_of_ble_eq_true rfl⟩) (rdV hK hP [0, 1, 2, 3, 4, 5, 6, 7, 8, 9, 10, 11, 12] [0] rfl rfl (ci := 6) (q0 := 0) rfl rfl) rfl rfl hl.1 rfl (lv_room (Nat.le_of_ble_eq_true rfl)) dX6_bears_63 ⟨Nat.le_of_ble_eq_true rfl, Nat.le_of_ble_eq_true rfl⟩) ?_
        refine W.eq (g2 := F0 m 66 ls [.int (mx 0 (sndP ((σ 3)) ((σ 4)) (nI (3 * f0 + 1)))), .int 1, .ref q_4, .ref q_4]) rfl ?_
        refine va_iast hx hb hK.1 hP hD hS 13 0 rfl rfl (by unfold vp_in; decide) dX6_bears_66 (fun H locs hP hD hS => ?_)
        have hP : va_P D vwCl ((wOutE b d d2 cI 0 (ω 19 0) (ω 1) (ω 2) (ω 14) (ω 15) ++ (wSta d (b 0) cI σ ++ wSta d2 (b 0) cI σ2)) ++ [(q_4, .inl (cI, 3, .inl (upd (upd (fun _ => 0) 0 (mx 0 (sndP ((σ 3)) ((σ 4)) (nI (3 * f0))))) 1 (mx 0 (sndP ((σ 3)) ((σ 4)) (nI (3 * f0 + 1)))))))]) H := hP
        have hD : va_D A ((wOutE b d d2 cI 0 (ω 19 0) (ω 1) (ω 2) (ω 14) (ω 15) ++ (wSta d (b 0) cI σ ++ wSta d2 (b 0) cI σ2)) ++ [(q_4, .inl (cI, 3, .inl (upd (upd (fun _ => 0) 0 (mx 0 (sndP ((σ 3)) ((σ 4)) (nI (3 * f0))))) 1 (mx 0 (sndP ((σ 3)) ((σ 4)) (nI (3 * f0 + 1)))))))]) := hD
        refine lv_dup hx hb dX6_bears_67 rfl ?_
        refine lv_iconst (v := 2) hx hb dX6_bears_68 (by decide) ?_
        refine lv_aload_n hx hb dX6_bears_69 rfl (lv_at hl 1 rfl) ?_
        refine lv_iconst (v := 3) hx hb dX6_bears_70 (by decide) ?_
        refine lv_iload_n hx hb dX6_bears_71 rfl (lv_at hl 2 rfl) ?_
        refine lv_imul hx hb dX6_bears_72 ?_
        rw [show 3 * nI f0 = nI (3 * f0) from pk_mul 3 f0]
        refine lv_iconst (v := 2) hx hb dX6_bears_73 (by decide) ?_
        refine lv_iadd hx hb dX6_bears_74 ?_
        rw [show nI (3 * f0) + 2 = nI (3 * f0 + 2) from nI_add _ 2]
        refine rd_i (va_runV (As := [.int (nI (3 * f0 + 2))]) (rest := [.int 2, .ref q_4, .ref q_4]) ⟨hx, hb, hml, hown, hts⟩ (M_X6_borne l D cI b d d2 σ σ2 (put ω 20 (fun _ => 0)) (3 * f0 + 2) (by omega)) (cwV 1 hts gX6_bears_X6_borne rfl rfl rfl (by decide +kernel) ⟨Nat.le_of_ble_eq_true rfl, Nat.le_of_ble_eq_true rfl⟩) (rdV hK hP [0, 1, 2, 3, 4, 5, 6, 7, 8, 9, 10, 11, 12] [0] rfl rfl (ci := 6) (q0 := 0) rfl rfl) rfl rfl hl.1 rfl (lv_room (Nat.le_of_ble_eq_true rfl)) dX6_bears_75 ⟨Nat.le_of_ble_eq_true rfl, Nat.le_of_ble_eq_true rfl⟩) ?_
        refine W.eq (g2 := F0 m 78 ls [.int (mx 0 (sndP ((σ 3)) ((σ 4)) (nI (3 * f0 + 2)))), .int 2, .ref q_4, .ref q_4]) rfl ?_
        refine va_iast hx hb hK.1 hP hD hS 13 0 rfl rfl (by unfold vp_in; decide) dX6_bears_78 (fun H locs hP hD hS => ?_)
        have hP : va_P D vwCl ((wOutE b d d2 cI 0 (ω 19 0) (ω 1) (ω 2) (ω 14) (ω 15) ++ (wSta d (b 0) cI σ ++ wSta d2 (b 0) cI σ2)) ++ [(q_4, .inl (cI, 3, .inl (upd (upd (upd (fun _ => 0) 0 (mx 0 (sndP ((σ 3)) ((σ 4)) (nI (3 * f0))))) 1 (mx 0 (sndP ((σ 3)) ((σ 4)) (nI (3 * f0 + 1))))) 2 (mx 0 (sndP ((σ 3)) ((σ 4)) (nI (3 * f0 + 2)))))))]) H := hP
        have hD : va_D A ((wOutE b d d2 cI 0 (ω 19 0) (ω 1) (ω 2) (ω 14) (ω 15) ++ (wSta d (b 0) cI σ ++ wSta d2 (b 0) cI σ2)) ++ [(q_4, .inl (cI, 3, .inl (upd (upd (upd (fun _ => 0) 0 (mx 0 (sndP ((σ 3)) ((σ 4)) (nI (3 * f0))))) 1 (mx 0 (sndP ((σ 3)) ((σ 4)) (nI (3 * f0 + 1))))) 2 (mx 0 (sndP ((σ 3)) ((σ 4)) (nI (3 * f0 + 2)))))))]) := hD
        refine lv_astore (lv' := [(4, .ref q_4), (3, .int (-1)), (0, .ref (b 0)), (1, .int (nI f0)), (2, .int (nI t0))]) hx hb dX6_bears_79 hl (by decide) rfl (fun ls hl => ?_)
        refine lv_iload_n hx hb dX6_bears_81 rfl (lv_at hl 3 rfl) ?_
        refine lv_istore (lv' := [(5, .int (nI f0)), (4, .ref q_4), (3, .int (-1)), (0, .ref (b 0)), (1, .int (nI f0)), (2, .int (nI t0))]) hx hb dX6_bears_82 hl (by decide) rfl (fun ls hl => ?_)
        have hl : lv_has ls 9 [(5, .int (nI (f0 - 0))), (4, .ref q_4), (3, .int (-1)), (0, .ref (b 0)), (1, .int (nI f0)), (2, .int (nI t0))] := by rw [show nI (f0 - 0) = nI f0 from rfl]; exact hl
        have loop84 : ∀ (n : Nat) (n1 : Nat) (qa : Nat) (fa : Nat → Int32), 12 - n1 < n → (n1 ≤ f0 - t0 ∧ (fa 0, fa 1, fa 2) = mdD (σ 3) (σ 4) f0 n1) → ∀ (H : Heap) (locs : List Loc), va_P D vwCl ((wOutE b d d2 cI 0 (ω 19 0) (ω 1) (ω 2) (ω 14) (ω 15) ++ (wSta d (b 0) cI σ ++ wSta d2 (b 0) cI σ2)) ++ [(qa, .inl (cI, 3, .inl fa))]) H → va_D A ((wOutE b d d2 cI 0 (ω 19 0) (ω 1) (ω 2) (ω 14) (ω 15) ++ (wSta d (b 0) cI σ ++ wSta d2 (b 0) cI σ2)) ++ [(qa, .inl (cI, 3, .inl fa))]) → va_S A s.heap H locs → ∀ (ls : Array Slot), lv_has ls 9 [(0, .ref (b 0)), (2, .int (nI t0)), (3, .int (-1)), (4, .ref qa), (5, .int (nI (f0 - n1)))] → W p l e ({ frames := 2, cells := 12, slots := 36, locals := 42 } : Room) s m args below meth c H locs (1 + n1) (3 + 3 * n1) Q (F0 m 84 ls []) := by
          intro n
          induction n with
          | zero => intro n1  qa  fa  hf; exact absurd hf (Nat.not_lt_zero _)
          | succ n ih84 =>
            intro n1  qa  fa  hf ⟨hn1, hv⟩ H locs hP hD hS ls hl
            refine lv_iload hx hb dX6_bears_84 (lv_at hl 4 rfl) ?_
            refine lv_iload_n hx hb dX6_bears_86 rfl (lv_at hl 1 rfl) ?_
            refine lv_icmp_eq (tgt := 192) hx hb dX6_bears_87 (by decide) (fun c_5 => ?_) (fun c_5 => ?_)
            · skip
              have hk2 := (nI_eq (by omega) (by omega)).mp c_5
              refine lv_aload hx hb dX6_bears_192 (lv_at hl 3 rfl) ?_
              refine lv_iconst (v := 0) hx hb dX6_bears_194 (by decide) ?_
              refine va_iald hx hb hK.1 hP 13 0 rfl rfl (by unfold vp_in; decide) dX6_bears_195 ?_
              refine W.eq (g2 := F0 m 196 ls [.int (fa 0)]) rfl ?_
              refine lv_aload hx hb dX6_bears_196 (lv_at hl 3 rfl) ?_
              refine lv_iconst (v := 1) hx hb dX6_bears_198 (by decide) ?_
              refine va_iald hx hb hK.1 hP 13 0 rfl rfl (by unfold vp_in; decide) dX6_bears_199 ?_
              refine W.eq (g2 := F0 m 200 ls [.int (fa 1), .int (fa 0)]) rfl ?_
              refine lv_aload hx hb dX6_bears_200 (lv_at hl 3 rfl) ?_
              refine lv_iconst (v := 2) hx hb dX6_bears_202 (by decide) ?_
              refine va_iald hx hb hK.1 hP 13 0 rfl rfl (by unfold vp_in; decide) dX6_bears_203 ?_
              refine W.eq (g2 := F0 m 204 ls [.int (fa 2), .int (fa 1), .int (fa 0)]) rfl ?_
              refine va_mmax hx hb (by rw [hml]; exact hl.1.symm) hown (hts (.methodLink RX6 69 Lib.Math.max.name) (by decide +kernel)) (hts (.static Lib.Math.max.name) (by decide +kernel)) (hts (.initialized "java/lang/Math") (by decide +kernel)) (hts (.code Lib.Math.max.name Lib.Math.max.code 2 (some .int)) (by decide +kernel)) (Nat.le_of_ble_eq_true rfl) (Nat.le_of_ble_eq_true rfl) (by show 1 + n1 ≤ 12; omega) (by show 3 + 3 * n1 ≤ 36; omega) dX6_bears_204 ?_
              refine W.eq (g2 := F0 m 207 ls [.int (mx (fa 1) (fa 2)), .int (fa 0)]) rfl ?_
              refine va_mmax hx hb (by rw [hml]; exact hl.1.symm) hown (hts (.methodLink RX6 69 Lib.Math.max.name) (by decide +kernel)) (hts (.static Lib.Math.max.name) (by decide +kernel)) (hts (.initialized "java/lang/Math") (by decide +kernel)) (hts (.code Lib.Math.max.name Lib.Math.max.code 2 (some .int)) (by decide +kernel)) (Nat.le_of_ble_eq_true rfl) (Nat.le_of_ble_eq_true rfl) (by show 1 + n1 ≤ 12; omega) (by show 3 + 3 * n1 ≤ 36; omega) dX6_bears_207 ?_
              refine W.eq (g2 := F0 m 210 ls [.int (mx (fa 0) (mx (fa 1) (fa 2)))]) rfl ?_
              subst hQ
              have hP := hP.sub (ws' := wMod b d d2 cI σ σ2 (put ω 20 (fun _ => 0))) [0, 1, 2, 3, 4, 5, 6, 7, 8, 9, 10, 11, 12] rfl
              have hD := hD.sub (ws' := wMod b d d2 cI σ σ2 (put ω 20 (fun _ => 0))) [0, 1, 2, 3, 4, 5, 6, 7, 8, 9, 10, 11, 12] (by decide) rfl
              refine W.widen (k := 12) (n := 36) (by omega) (by omega) ?_
              exact ret_wri hx hb hr rfl hlocks hP hD hS (show mx (fa 0) (mx (fa 1) (fa 2)) = brF (σ 3) (σ 4) f0 t0 from (by unfold brF; rw [if_neg (by omega), show f0 - t0 = n1 by omega, ← hv]; rfl)) dX6_bears_210
            · skip
              have hk2 := mt (nI_eq (by omega) (by omega)).mpr c_5
              refine lv_aload hx hb dX6_bears_90 (lv_at hl 3 rfl) ?_
              refine lv_astore (lv' := [(6, .ref qa), (0, .ref (b 0)), (2, .int (nI t0)), (3, .int (-1)), (4, .ref qa), (5, .int (nI (f0 - n1)))]) hx hb dX6_bears_92 hl (by decide) rfl (fun ls hl => ?_)
              refine lv_iconst (v := 3) hx hb dX6_bears_94 (by decide) ?_
              refine my_newi (N := 3) hx hb (hts (.arrayClass .int) (by decide +kernel)) hK.1 hP hD hS hA (by decide) rfl (Nat.le_of_ble_eq_true rfl) (by show (1 + n1) + 1 ≤ 12; omega) (by show (3 + 3 * n1) + 3 ≤ 36; omega) dX6_bears_95 (fun q_6 H hP hD hS => ?_)
              have hP : va_P D vwCl ((wOutE b d d2 cI 0 (ω 19 0) (ω 1) (ω 2) (ω 14) (ω 15) ++ (wSta d (b 0) cI σ ++ wSta d2 (b 0) cI σ2)) ++ [(qa, .inl (cI, 3, .inl fa)), (q_6, .inl (cI, 3, .inl (fun _ => 0)))]) H := hP
              have hD : va_D A ((wOutE b d d2 cI 0 (ω 19 0) (ω 1) (ω 2) (ω 14) (ω 15) ++ (wSta d (b 0) cI σ ++ wSta d2 (b 0) cI σ2)) ++ [(qa, .inl (cI, 3, .inl fa)), (q_6, .inl (cI, 3, .inl (fun _ => 0)))]) := hD
              refine lv_astore (lv' := [(4, .ref q_6), (6, .ref qa), (0, .ref (b 0)), (2, .int (nI t0)), (3, .int (-1)), (5, .int (nI (f0 - n1)))]) hx hb dX6_bears_97 hl (by decide) rfl (fun ls hl => ?_)
              refine lv_iconst (v := 0) hx hb dX6_bears_99 (by decide) ?_
              refine lv_istore (lv' := [(7, .int 0), (4, .ref q_6), (6, .ref qa), (0, .ref (b 0)), (2, .int (nI t0)), (3, .int (-1)), (5, .int (nI (f0 - n1)))]) hx hb dX6_bears_100 hl (by decide) rfl (fun ls hl => ?_)
              refine lv_iload hx hb dX6_bears_102 (lv_at hl 0 rfl) ?_
              refine lv_iconst (v := 3) hx hb dX6_bears_104 (by decide) ?_
              refine lv_icmp_ge (tgt := 183) hx hb dX6_bears_105 (by decide) (fun c_7 => ?_) (fun c_7 => ?_)
              · skip
                exact absurd c_7 (by decide)
              · skip
                refine lv_aload hx hb dX6_bears_108 (lv_at hl 2 rfl) ?_
                refine lv_iload hx hb dX6_bears_110 (lv_at hl 0 rfl) ?_
                refine va_iald hx hb hK.1 hP 13 0 rfl rfl (by unfold vp_in; decide) dX6_bears_112 ?_
                refine W.eq (g2 := F0 m 113 ls [.int (fa 0)]) rfl ?_
                refine lv_istore (lv' := [(8, .int (fa 0)), (7, .int 0), (4, .ref q_6), (6, .ref qa), (0, .ref (b 0)), (2, .int (nI t0)), (3, .int (-1)), (5, .int (nI (f0 - n1)))]) hx hb dX6_bears_113 hl (by decide) rfl (fun ls hl => ?_)
                refine lv_iload hx hb dX6_bears_115 (lv_at hl 1 rfl) ?_
                refine lv_if_le (tgt := 134) hx hb dX6_bears_117 (by decide) (fun c_8 => ?_) (fun c_8 => ?_)
                · skip
                  refine lv_iload hx hb dX6_bears_134 (lv_at hl 1 rfl) ?_
                  refine lv_iconst (v := 2) hx hb dX6_bears_136 (by decide) ?_
                  refine lv_icmp_ge (tgt := 154) hx hb dX6_bears_137 (by decide) (fun c_9 => ?_) (fun c_9 => ?_)
                  · skip
                    exact absurd c_9 (by decide)
                  · skip
                    refine lv_iload hx hb dX6_bears_140 (lv_at hl 0 rfl) ?_
                    refine lv_aload hx hb dX6_bears_142 (lv_at hl 3 rfl) ?_
                    refine lv_iload hx hb dX6_bears_144 (lv_at hl 1 rfl) ?_
                    refine lv_iconst (v := 1) hx hb dX6_bears_146 (by decide) ?_
                    refine lv_iadd hx hb dX6_bears_147 ?_
                    rw [show ((0 + 1 : Int32)) = 1 from by decide]
                    refine va_iald hx hb hK.1 hP 13 0 rfl rfl (by unfold vp_in; decide) dX6_bears_148 ?_
                    refine W.eq (g2 := F0 m 149 ls [.int (fa 1), .int (fa 0)]) rfl ?_
                    refine va_mmax hx hb (by rw [hml]; exact hl.1.symm) hown (hts (.methodLink RX6 69 Lib.Math.max.name) (by decide +kernel)) (hts (.static Lib.Math.max.name) (by decide +kernel)) (hts (.initialized "java/lang/Math") (by decide +kernel)) (hts (.code Lib.Math.max.name Lib.Math.max.code 2 (some .int)) (by decide +kernel)) (Nat.le_of_ble_eq_true rfl) (Nat.le_of_ble_eq_true rfl) (by show (1 + n1) + 1 ≤ 12; omega) (by show (3 + 3 * n1) + 3 ≤ 36; omega) dX6_bears_149 ?_
                    refine W.eq (g2 := F0 m 152 ls [.int (mx (fa 0) (fa 1))]) rfl ?_
                    refine lv_istore (lv' := [(8, .int (mx (fa 0) (fa 1))), (7, .int 0), (4, .ref q_6), (6, .ref qa), (0, .ref (b 0)), (2, .int (nI t0)), (3, .int (-1)), (5, .int (nI (f0 - n1)))]) hx hb dX6_bears_152 hl (by decide) rfl (fun ls hl => ?_)
                    refine lv_aload hx hb dX6_bears_154 (lv_at hl 2 rfl) ?_
                    refine lv_iload hx hb dX6_bears_156 (lv_at hl 1 rfl) ?_
                    refine lv_iload hx hb dX6_bears_158 (lv_at hl 0 rfl) ?_
                    refine lv_aload_n hx hb dX6_bears_160 rfl (lv_at hl 4 rfl) ?_
                    refine lv_iconst (v := 3) hx hb dX6_bears_161 (by decide) ?_
                    refine lv_iload hx hb dX6_bears_162 (lv_at hl 7 rfl) ?_
                    refine lv_iload_n hx hb dX6_bears_164 rfl (lv_at hl 6 rfl) ?_
                    refine lv_iadd hx hb dX6_bears_165 ?_
                    rw [show nI (f0 - n1) + (-1) = nI (f0 - (n1 + 1)) from nI_dn (by omega)]
                    refine lv_imul hx hb dX6_bears_166 ?_
                    refine lv_iload hx hb dX6_bears_167 (lv_at hl 1 rfl) ?_
                    refine lv_iadd hx hb dX6_bears_169 ?_
                    rw [show 3 * nI (f0 - (n1 + 1)) + 0 = nI (3 * (f0 - (n1 + 1)) + 0) from pl_nI2 _ 0]
                    refine rd_i (va_runV (As := [.int (nI (3 * (f0 - (n1 + 1)) + 0))]) (rest := [.int (mx (fa 0) (fa 1)), .int 0, .ref q_6]) ⟨hx, hb, hml, hown, hts⟩ (M_X6_borne l D cI b d d2 σ σ2 (put ω 20 (fun _ => 0)) (3 * (f0 - (n1 + 1)) + 0) (by omega)) (cwV 1 hts gX6_bears_X6_borne rfl rfl rfl (by decide +kernel) ⟨Nat.le_of_ble_eq_true rfl, Nat.le_of_ble_eq_true rfl⟩) (rdV hK hP [0, 1, 2, 3, 4, 5, 6, 7, 8, 9, 10, 11, 12] [0] rfl rfl (ci := 6) (q0 := 0) rfl rfl) rfl rfl hl.1 rfl (lv_room (Nat.le_of_ble_eq_true rfl)) dX6_bears_170 ⟨(by show (1 + n1) + 1 + 0 ≤ 12; omega), (by show (3 + 3 * n1) + 3 + 0 ≤ 36; omega)⟩) ?_
                    refine W.eq (g2 := F0 m 173 ls [.int (mx 0 (sndP ((σ 3)) ((σ 4)) (nI (3 * (f0 - (n1 + 1)) + 0)))), .int (mx (fa 0) (fa 1)), .int 0, .ref q_6]) rfl ?_
                    refine va_mmin hx hb (by rw [hml]; exact hl.1.symm) hown (hts (.methodLink RX6 131 Lib.Math.min.name) (by decide +kernel)) (hts (.static Lib.Math.min.name) (by decide +kernel)) (hts (.initialized "java/lang/Math") (by decide +kernel)) (hts (.code Lib.Math.min.name Lib.Math.min.code 2 (some .int)) (by decide +kernel)) (Nat.le_of_ble_eq_true rfl) (Nat.le_of_ble_eq_true rfl) (by show (1 + n1) + 1 ≤ 12; omega) (by show (3 + 3 * n1) + 3 ≤ 36; omega) dX6_bears_173 ?_
                    refine W.eq (g2 := F0 m 176 ls [.int (mn (mx (fa 0) (fa 1)) (mx 0 (sndP ((σ 3)) ((σ 4)) (nI (3 * (f0 - (n1 + 1)) + 0))))), .int 0, .ref q_6]) rfl ?_
                    refine va_iast hx hb hK.1 hP hD hS 14 0 rfl rfl (by unfold vp_in; decide) dX6_bears_176 (fun H locs hP hD hS => ?_)
                    have hP : va_P D vwCl ((wOutE b d d2 cI 0 (ω 19 0) (ω 1) (ω 2) (ω 14) (ω 15) ++ (wSta d (b 0) cI σ ++ wSta d2 (b 0) cI σ2)) ++ [(qa, .inl (cI, 3, .inl fa)), (q_6, .inl (cI, 3, .inl (upd (fun _ => 0) 0 (mn (mx (fa 0) (fa 1)) (mx 0 (sndP ((σ 3)) ((σ 4)) (nI (3 * (f0 - (n1 + 1)) + 0))))))))]) H := hP
                    have hD : va_D A ((wOutE b d d2 cI 0 (ω 19 0) (ω 1) (ω 2) (ω 14) (ω 15) ++ (wSta d (b 0) cI σ ++ wSta d2 (b 0) cI σ2)) ++ [(qa, .inl (cI, 3, .inl fa)), (q_6, .inl (cI, 3, .inl (upd (fun _ => 0) 0 (mn (mx (fa 0) (fa 1)) (mx 0 (sndP ((σ 3)) ((σ 4)) (nI (3 * (f0 - (n1 + 1)) + 0))))))))]) := hD
                    refine lv_iinc (v := 1) (lv' := [(7, .int 1), (8, .int (mx (fa 0) (fa 1))), (4, .ref q_6), (6, .ref qa), (0, .ref (b 0)), (2, .int (nI t0)), (3, .int (-1)), (5, .int (nI (f0 - n1)))]) hx hb dX6_bears_177 hl (k := 1) rfl (by decide) (by decide) rfl (fun ls hl => ?_)
                    refine lv_goto (tgt := 102) hx hb dX6_bears_180 (by decide) ?_
                    refine lv_iload hx hb dX6_bears_102 (lv_at hl 0 rfl) ?_
                    refine lv_iconst (v := 3) hx hb dX6_bears_104 (by decide) ?_
                    refine lv_icmp_ge (tgt := 183) hx hb dX6_bears_105 (by decide) (fun c_10 => ?_) (fun c_10 => ?_)
                    · skip
                      exact absurd c_10 (by decide)
                    · skip
                      refine lv_aload hx hb dX6_bears_108 (lv_at hl 3 rfl) ?_
                      refine lv_iload hx hb dX6_bears_110 (lv_at hl 0 rfl) ?_
                      refine va_iald hx hb hK.1 hP 13 0 rfl rfl (by unfold vp_in; decide) dX6_bears_112 ?_
                      refine W.eq (g2 := F0 m 113 ls [.int (fa 1)]) rfl ?_
                      refine lv_istore (lv' := [(8, .int (fa 1)), (7, .int 1), (4, .ref q_6), (6, .ref qa), (0, .ref (b 0)), (2, .int (nI t0)), (3, .int (-1)), (5, .int (nI (f0 - n1)))]) hx hb dX6_bears_113 hl (by decide) rfl (fun ls hl => ?_)
                      refine lv_iload hx hb dX6_bears_115 (lv_at hl 1 rfl) ?_
                      refine lv_if_le (tgt := 134) hx hb dX6_bears_117 (by decide) (fun c_11 => ?_) (fun c_11 => ?_)
                      · skip
                        exact absurd c_11 (by decide)
                      · skip
                        refine lv_iload hx hb dX6_bears_120 (lv_at hl 0 rfl) ?_
                        refine lv_aload hx hb dX6_bears_122 (lv_at hl 3 rfl) ?_
                        refine lv_iload hx hb dX6_bears_124 (lv_at hl 1 rfl) ?_
                        refine lv_iconst (v := 1) hx hb dX6_bears_126 (by decide) ?_
                        refine lv_isub hx hb dX6_bears_127 ?_
                        rw [show ((1 - 1 : Int32)) = 0 from by decide]
                        refine va_iald hx hb hK.1 hP 13 0 rfl rfl (by unfold vp_in; decide) dX6_bears_128 ?_
                        refine W.eq (g2 := F0 m 129 ls [.int (fa 0), .int (fa 1)]) rfl ?_
                        refine va_mmax hx hb (by rw [hml]; exact hl.1.symm) hown (hts (.methodLink RX6 69 Lib.Math.max.name) (by decide +kernel)) (hts (.static Lib.Math.max.name) (by decide +kernel)) (hts (.initialized "java/lang/Math") (by decide +kernel)) (hts (.code Lib.Math.max.name Lib.Math.max.code 2 (some .int)) (by decide +kernel)) (Nat.le_of_ble_eq_true rfl) (Nat.le_of_ble_eq_true rfl) (by show (1 + n1) + 1 ≤ 12; omega) (by show (3 + 3 * n1) + 3 ≤ 36; omega) dX6_bears_129 ?_
                        refine W.eq (g2 := F0 m 132 ls [.int (mx (fa 1) (fa 0))]) rfl ?_
                        refine lv_istore (lv' := [(8, .int (mx (fa 1) (fa 0))), (7, .int 1), (4, .ref q_6), (6, .ref qa), (0, .ref (b 0)), (2, .int (nI t0)), (3, .int (-1)), (5, .int (nI (f0 - n1)))]) hx hb dX6_bears_132 hl (by decide) rfl (fun ls hl => ?_)
                        refine lv_iload hx hb dX6_bears_134 (lv_at hl 1 rfl) ?_
                        refine lv_iconst (v := 2) hx hb dX6_bears_136 (by decide) ?_
                        refine lv_icmp_ge (tgt := 154) hx hb dX6_bears_137 (by decide) (fun c_12 => ?_) (fun c_12 => ?_)
                        · skip
                          exact absurd c_12 (by decide)
                        · skip
                          refine lv_iload hx hb dX6_bears_140 (lv_at hl 0 rfl) ?_
                          refine lv_aload hx hb dX6_bears_142 (lv_at hl 3 rfl) ?_
                          refine lv_iload hx hb dX6_bears_144 (lv_at hl 1 rfl) ?_
                          refine lv_iconst (v := 1) hx hb dX6_bears_146 (by decide) ?_
                          refine lv_iadd hx hb dX6_bears_147 ?_
                          rw [show ((1 + 1 : Int32)) = 2 from by decide]
                          refine va_iald hx hb hK.1 hP 13 0 rfl rfl (by unfold vp_in; decide) dX6_bears_148 ?_
                          refine W.eq (g2 := F0 m 149 ls [.int (fa 2), .int (mx (fa 1) (fa 0))]) rfl ?_
                          refine va_mmax hx hb (by rw [hml]; exact hl.1.symm) hown (hts (.methodLink RX6 69 Lib.Math.max.name) (by decide +kernel)) (hts (.static Lib.Math.max.name) (by decide +kernel)) (hts (.initialized "java/lang/Math") (by decide +kernel)) (hts (.code Lib.Math.max.name Lib.Math.max.code 2 (some .int)) (by decide +kernel)) (Nat.le_of_ble_eq_true rfl) (Nat.le_of_ble_eq_true rfl) (by show (1 + n1) + 1 ≤ 12; omega) (by show (3 + 3 * n1) + 3 ≤ 36; omega) dX6_bears_149 ?_
                          refine W.eq (g2 := F0 m 152 ls [.int (mx (mx (fa 1) (fa 0)) (fa 2))]) rfl ?_
                          refine lv_istore (lv' := [(8, .int (mx (mx (fa 1) (fa 0)) (fa 2))), (7, .int 1), (4, .ref q_6), (6, .ref qa), (0, .ref (b 0)), (2, .int (nI t0)), (3, .int (-1)), (5, .int (nI (f0 - n1)))]) hx hb dX6_bears_152 hl (by decide) rfl (fun ls hl => ?_)
                          refine lv_aload hx hb dX6_bears_154 (lv_at hl 2 rfl) ?_
                          refine lv_iload hx hb dX6_bears_156 (lv_at hl 1 rfl) ?_
                          refine lv_iload hx hb dX6_bears_158 (lv_at hl 0 rfl) ?_
                          refine lv_aload_n hx hb dX6_bears_160 rfl (lv_at hl 4 rfl) ?_
                          refine lv_iconst (v := 3) hx hb dX6_bears_161 (by decide) ?_
                          refine lv_iload hx hb dX6_bears_162 (lv_at hl 7 rfl) ?_
                          refine lv_iload_n hx hb dX6_bears_164 rfl (lv_at hl 6 rfl) ?_
                          refine lv_iadd hx hb dX6_bears_165 ?_
                          rw [show nI (f0 - n1) + (-1) = nI (f0 - (n1 + 1)) from nI_dn (by omega)]
                          refine lv_imul hx hb dX6_bears_166 ?_
                          refine lv_iload hx hb dX6_bears_167 (lv_at hl 1 rfl) ?_
                          refine lv_iadd hx hb dX6_bears_169 ?_
                          rw [show 3 * nI (f0 - (n1 + 1)) + 1 = nI (3 * (f0 - (n1 + 1)) + 1) from pl_nI2 _ 1]
                          refine rd_i (va_runV (As := [.int (nI (3 * (f0 - (n1 + 1)) + 1))]) (rest := [.int (mx (mx (fa 1) (fa 0)) (fa 2)), .int 1, .ref q_6]) ⟨hx, hb, hml, hown, hts⟩ (M_X6_borne l D cI b d d2 σ σ2 (put ω 20 (fun _ => 0)) (3 * (f0 - (n1 + 1)) + 1) (by omega)) (cwV 1 hts gX6_bears_X6_borne rfl rfl rfl (by decide +kernel) ⟨Nat.le_of_ble_eq_true rfl, Nat.le_of_ble_eq_true rfl⟩) (rdV hK hP [0, 1, 2, 3, 4, 5, 6, 7, 8, 9, 10, 11, 12] [0] rfl rfl (ci := 6) (q0 := 0) rfl rfl) rfl rfl hl.1 rfl (lv_room (Nat.le_of_ble_eq_true rfl)) dX6_bears_170 ⟨(by show (1 + n1) + 1 + 0 ≤ 12; omega), (by show (3 + 3 * n1) + 3 + 0 ≤ 36; omega)⟩) ?_
                          refine W.eq (g2 := F0 m 173 ls [.int (mx 0 (sndP ((σ 3)) ((σ 4)) (nI (3 * (f0 - (n1 + 1)) + 1)))), .int (mx (mx (fa 1) (fa 0)) (fa 2)), .int 1, .ref q_6]) rfl ?_
                          refine va_mmin hx hb (by rw [hml]; exact hl.1.symm) hown (hts (.methodLink RX6 131 Lib.Math.min.name) (by decide +kernel)) (hts (.static Lib.Math.min.name) (by decide +kernel)) (hts (.initialized "java/lang/Math") (by decide +kernel)) (hts (.code Lib.Math.min.name Lib.Math.min.code 2 (some .int)) (by decide +kernel)) (Nat.le_of_ble_eq_true rfl) (Nat.le_of_ble_eq_true rfl) (by show (1 + n1) + 1 ≤ 12; omega) (by show (3 + 3 * n1) + 3 ≤ 36; omega) dX6_bears_173 ?_
                          refine W.eq (g2 := F0 m 176 ls [.int (mn (mx (mx (fa 1) (fa 0)) (fa 2)) (mx 0 (sndP ((σ 3)) ((σ 4)) (nI (3 * (f0 - (n1 + 1)) + 1))))), .int 1, .ref q_6]) rfl ?_
                          refine va_iast hx hb hK.1 hP hD hS 14 0 rfl rfl (by unfold vp_in; decide) dX6_bears_176 (fun H locs hP hD hS => ?_)
                          have hP : va_P D vwCl ((wOutE b d d2 cI 0 (ω 19 0) (ω 1) (ω 2) (ω 14) (ω 15) ++ (wSta d (b 0) cI σ ++ wSta d2 (b 0) cI σ2)) ++ [(qa, .inl (cI, 3, .inl fa)), (q_6, .inl (cI, 3, .inl (upd (upd (fun _ => 0) 0 (mn (mx (fa 0) (fa 1)) (mx 0 (sndP ((σ 3)) ((σ 4)) (nI (3 * (f0 - (n1 + 1)) + 0)))))) 1 (mn (mx (mx (fa 1) (fa 0)) (fa 2)) (mx 0 (sndP ((σ 3)) ((σ 4)) (nI (3 * (f0 - (n1 + 1)) + 1))))))))]) H := hP
                          have hD : va_D A ((wOutE b d d2 cI 0 (ω 19 0) (ω 1) (ω 2) (ω 14) (ω 15) ++ (wSta d (b 0) cI σ ++ wSta d2 (b 0) cI σ2)) ++ [(qa, .inl (cI, 3, .inl fa)), (q_6, .inl (cI, 3, .inl (upd (upd (fun _ => 0) 0 (mn (mx (fa 0) (fa 1)) (mx 0 (sndP ((σ 3)) ((σ 4)) (nI (3 * (f0 - (n1 + 1)) + 0)))))) 1 (mn (mx (mx (fa 1) (fa 0)) (fa 2)) (mx 0 (sndP ((σ 3)) ((σ 4)) (nI (3 * (f0 - (n1 + 1)) + 1))))))))]) := hD
                          refine lv_iinc (v := 2) (lv' := [(7, .int 2), (8, .int (mx (mx (fa 1) (fa 0)) (fa 2))), (4, .ref q_6), (6, .ref qa), (0, .ref (b 0)), (2, .int (nI t0)), (3, .int (-1)), (5, .int (nI (f0 - n1)))]) hx hb dX6_bears_177 hl (k := 1) rfl (by decide) (by decide) rfl (fun ls hl => ?_)
                          refine lv_goto (tgt := 102) hx hb dX6_bears_180 (by decide) ?_
                          refine lv_iload hx hb dX6_bears_102 (lv_at hl 0 rfl) ?_
                          refine lv_iconst (v := 3) hx hb dX6_bears_104 (by decide) ?_
                          refine lv_icmp_ge (tgt := 183) hx hb dX6_bears_105 (by decide) (fun c_13 => ?_) (fun c_13 => ?_)
                          · skip
                            exact absurd c_13 (by decide)
                          · skip
                            refine lv_aload hx hb dX6_bears_108 (lv_at hl 3 rfl) ?_
                            refine lv_iload hx hb dX6_bears_110 (lv_at hl 0 rfl) ?_
                            refine va_iald hx hb hK.1 hP 13 0 rfl rfl (by unfold vp_in; decide) dX6_bears_112 ?_
                            refine W.eq (g2 := F0 m 113 ls [.int (fa 2)]) rfl ?_
                            refine lv_istore (lv' := [(8, .int (fa 2)), (7, .int 2), (4, .ref q_6), (6, .ref qa), (0, .ref (b 0)), (2, .int (nI t0)), (3, .int (-1)), (5, .int (nI (f0 - n1)))]) hx hb dX6_bears_113 hl (by decide) rfl (fun ls hl => ?_)
                            refine lv_iload hx hb dX6_bears_115 (lv_at hl 1 rfl) ?_
                            refine lv_if_le (tgt := 134) hx hb dX6_bears_117 (by decide) (fun c_14 => ?_) (fun c_14 => ?_)
                            · skip
                              exact absurd c_14 (by decide)
                            · skip
                              refine lv_iload hx hb dX6_bears_120 (lv_at hl 0 rfl) ?_
                              refine lv_aload hx hb dX6_bears_122 (lv_at hl 3 rfl) ?_
                              refine lv_iload hx hb dX6_bears_124 (lv_at hl 1 rfl) ?_
                              refine lv_iconst (v := 1) hx hb dX6_bears_126 (by decide) ?_
                              refine lv_isub hx hb dX6_bears_127 ?_
                              rw [show ((2 - 1 : Int32)) = 1 from by decide]
                              refine va_iald hx hb hK.1 hP 13 0 rfl rfl (by unfold vp_in; decide) dX6_bears_128 ?_
                              refine W.eq (g2 := F0 m 129 ls [.int (fa 1), .int (fa 2)]) rfl ?_
                              refine va_mmax hx hb (by rw [hml]; exact hl.1.symm) hown (hts (.methodLink RX6 69 Lib.Math.max.name) (by decide +kernel)) (hts (.static Lib.Math.max.name) (by decide +kernel)) (hts (.initialized "java/lang/Math") (by decide +kernel)) (hts (.code Lib.Math.max.name Lib.Math.max.code 2 (some .int)) (by decide +kernel)) (Nat.le_of_ble_eq_true rfl) (Nat.le_of_ble_eq_true rfl) (by show (1 + n1) + 1 ≤ 12; omega) (by show (3 + 3 * n1) + 3 ≤ 36; omega) dX6_bears_129 ?_
                              refine W.eq (g2 := F0 m 132 ls [.int (mx (fa 2) (fa 1))]) rfl ?_
                              refine lv_istore (lv' := [(8, .int (mx (fa 2) (fa 1))), (7, .int 2), (4, .ref q_6), (6, .ref qa), (0, .ref (b 0)), (2, .int (nI t0)), (3, .int (-1)), (5, .int (nI (f0 - n1)))]) hx hb dX6_bears_132 hl (by decide) rfl (fun ls hl => ?_)
                              refine lv_iload hx hb dX6_bears_134 (lv_at hl 1 rfl) ?_
                              refine lv_iconst (v := 2) hx hb dX6_bears_136 (by decide) ?_
                              refine lv_icmp_ge (tgt := 154) hx hb dX6_bears_137 (by decide) (fun c_15 => ?_) (fun c_15 => ?_)
                              · skip
                                refine lv_aload hx hb dX6_bears_154 (lv_at hl 2 rfl) ?_
                                refine lv_iload hx hb dX6_bears_156 (lv_at hl 1 rfl) ?_
                                refine lv_iload hx hb dX6_bears_158 (lv_at hl 0 rfl) ?_
                                refine lv_aload_n hx hb dX6_bears_160 rfl (lv_at hl 4 rfl) ?_
                                refine lv_iconst (v := 3) hx hb dX6_bears_161 (by decide) ?_
                                refine lv_iload hx hb dX6_bears_162 (lv_at hl 7 rfl) ?_
                                refine lv_iload_n hx hb dX6_bears_164 rfl (lv_at hl 6 rfl) ?_
                                refine lv_iadd hx hb dX6_bears_165 ?_
                                rw [show nI (f0 - n1) + (-1) = nI (f0 - (n1 + 1)) from nI_dn (by omega)]
                                refine lv_imul hx hb dX6_bears_166 ?_
                                refine lv_iload hx hb dX6_bears_167 (lv_at hl 1 rfl) ?_
                                refine lv_iadd hx hb dX6_bears_169 ?_
                                rw [show 3 * nI (f0 - (n1 + 1)) + 2 = nI (3 * (f0 - (n1 + 1)) + 2) from pl_nI2 _ 2]
                                refine rd_i (va_runV (As := [.int (nI (3 * (f0 - (n1 + 1)) + 2))]) (rest := [.int (mx (fa 2) (fa 1)), .int 2, .ref q_6]) ⟨hx, hb, hml, hown, hts⟩ (M_X6_borne l D cI b d d2 σ σ2 (put ω 20 (fun _ => 0)) (3 * (f0 - (n1 + 1)) + 2) (by omega)) (cwV 1 hts gX6_bears_X6_borne rfl rfl rfl (by decide +kernel) ⟨Nat.le_of_ble_eq_true rfl, Nat.le_of_ble_eq_true rfl⟩) (rdV hK hP [0, 1, 2, 3, 4, 5, 6, 7, 8, 9, 10, 11, 12] [0] rfl rfl (ci := 6) (q0 := 0) rfl rfl) rfl rfl hl.1 rfl (lv_room (Nat.le_of_ble_eq_true rfl)) dX6_bears_170 ⟨(by show (1 + n1) + 1 + 0 ≤ 12; omega), (by show (3 + 3 * n1) + 3 + 0 ≤ 36; omega)⟩) ?_
                                refine W.eq (g2 := F0 m 173 ls [.int (mx 0 (sndP ((σ 3)) ((σ 4)) (nI (3 * (f0 - (n1 + 1)) + 2)))), .int (mx (fa 2) (fa 1)), .int 2, .ref q_6]) rfl ?_
                                refine va_mmin hx hb (by rw [hml]; exact hl.1.symm) hown (hts (.methodLink RX6 131 Lib.Math.min.name) (by decide +kernel)) (hts (.static Lib.Math.min.name) (by decide +kernel)) (hts (.initialized "java/lang/Math") (by decide +kernel)) (hts (.code Lib.Math.min.name Lib.Math.min.code 2 (some .int)) (by decide +kernel)) (Nat.le_of_ble_eq_true rfl) (Nat.le_of_ble_eq_true rfl) (by show (1 + n1) + 1 ≤ 12; omega) (by show (3 + 3 * n1) + 3 ≤ 36; omega) dX6_bears_173 ?_
                                refine W.eq (g2 := F0 m 176 ls [.int (mn (mx (fa 2) (fa 1)) (mx 0 (sndP ((σ 3)) ((σ 4)) (nI (3 * (f0 - (n1 + 1)) + 2))))), .int 2, .ref q_6]) rfl ?_
                                refine va_iast hx hb hK.1 hP hD hS 14 0 rfl rfl (by unfold vp_in; decide) dX6_bears_176 (fun H locs hP hD hS => ?_)
                                have hP : va_P D vwCl ((wOutE b d d2 cI 0 (ω 19 0) (ω 1) (ω 2) (ω 14) (ω 15) ++ (wSta d (b 0) cI σ ++ wSta d2 (b 0) cI σ2)) ++ [(qa, .inl (cI, 3, .inl fa)), (q_6, .inl (cI, 3, .inl (upd (upd (upd (fun _ => 0) 0 (mn (mx (fa 0) (fa 1)) (mx 0 (sndP ((σ 3)) ((σ 4)) (nI (3 * (f0 - (n1 + 1)) + 0)))))) 1 (mn (mx (mx (fa 1) (fa 0)) (fa 2)) (mx 0 (sndP ((σ 3)) ((σ 4)) (nI (3 * (f0 - (n1 + 1)) + 1)))))) 2 (mn (mx (fa 2) (fa 1)) (mx 0 (sndP ((σ 3)) ((σ 4)) (nI (3 * (f0 - (n1 + 1)) + 2))))))))]) H := hP
                                have hD : va_D A ((wOutE b d d2 cI 0 (ω 19 0) (ω 1) (ω 2) (ω 14) (ω 15) ++ (wSta d (b 0) cI σ ++ wSta d2 (b 0) cI σ2)) ++ [(qa, .inl (cI, 3, .inl fa)), (q_6, .inl (cI, 3, .inl (upd (upd (upd (fun _ => 0) 0 (mn (mx (fa 0) (fa 1)) (mx 0 (sndP ((σ 3)) ((σ 4)) (nI (3 * (f0 - (n1 + 1)) + 0)))))) 1 (mn (mx (mx (fa 1) (fa 0)) (fa 2)) (mx 0 (sndP ((σ 3)) ((σ 4)) (nI (3 * (f0 - (n1 + 1)) + 1)))))) 2 (mn (mx (fa 2) (fa 1)) (mx 0 (sndP ((σ 3)) ((σ 4)) (nI (3 * (f0 - (n1 + 1)) + 2))))))))]) := hD
                                refine lv_iinc (v := 3) (lv' := [(7, .int 3), (8, .int (mx (fa 2) (fa 1))), (4, .ref q_6), (6, .ref qa), (0, .ref (b 0)), (2, .int (nI t0)), (3, .int (-1)), (5, .int (nI (f0 - n1)))]) hx hb dX6_bears_177 hl (k := 1) rfl (by decide) (by decide) rfl (fun ls hl => ?_)
                                refine lv_goto (tgt := 102) hx hb dX6_bears_180 (by decide) ?_
                                refine lv_iload hx hb dX6_bears_102 (lv_at hl 0 rfl) ?_
                                refine lv_iconst (v := 3) hx hb dX6_bears_104 (by decide) ?_
                                refine lv_icmp_ge (tgt := 183) hx hb dX6_bears_105 (by decide) (fun c_16 => ?_) (fun c_16 => ?_)
                                · skip
                                  refine lv_iload hx hb dX6_bears_183 (lv_at hl 7 rfl) ?_
                                  refine lv_iload_n hx hb dX6_bears_185 rfl (lv_at hl 6 rfl) ?_
                                  refine lv_iadd hx hb dX6_bears_186 ?_
                                  rw [show nI (f0 - n1) + (-1) = nI (f0 - (n1 + 1)) from nI_dn (by omega)]
                                  refine lv_istore (lv' := [(5, .int (nI (f0 - (n1 + 1)))), (7, .int 3), (8, .int (mx (fa 2) (fa 1))), (4, .ref q_6), (6, .ref qa), (0, .ref (b 0)), (2, .int (nI t0)), (3, .int (-1))]) hx hb dX6_bears_187 hl (by decide) rfl (fun ls hl => ?_)
                                  refine lv_goto (tgt := 84) hx hb dX6_bears_189 (by decide) ?_
                                  have hP := hP.sub (ws' := (wOutE b d d2 cI 0 (ω 19 0) (ω 1) (ω 2) (ω 14) (ω 15) ++ (wSta d (b 0) cI σ ++ wSta d2 (b 0) cI σ2)) ++ [(q_6, .inl (cI, 3, .inl (upd (upd (upd (fun _ => 0) 0 (mn (mx (fa 0) (fa 1)) (mx 0 (sndP ((σ 3)) ((σ 4)) (nI (3 * (f0 - (n1 + 1)) + 0)))))) 1 (mn (mx (mx (fa 1) (fa 0)) (fa 2)) (mx 0 (sndP ((σ 3)) ((σ 4)) (nI (3 * (f0 - (n1 + 1)) + 1)))))) 2 (mn (mx (fa 2) (fa 1)) (mx 0 (sndP ((σ 3)) ((σ 4)) (nI (3 * (f0 - (n1 + 1)) + 2))))))))]) [0, 1, 2, 3, 4, 5, 6, 7, 8, 9, 10, 11, 12, 14] rfl
                                  have hD := hD.sub (ws' := (wOutE b d d2 cI 0 (ω 19 0) (ω 1) (ω 2) (ω 14) (ω 15) ++ (wSta d (b 0) cI σ ++ wSta d2 (b 0) cI σ2)) ++ [(q_6, .inl (cI, 3, .inl (upd (upd (upd (fun _ => 0) 0 (mn (mx (fa 0) (fa 1)) (mx 0 (sndP ((σ 3)) ((σ 4)) (nI (3 * (f0 - (n1 + 1)) + 0)))))) 1 (mn (mx (mx (fa 1) (fa 0)) (fa 2)) (mx 0 (sndP ((σ 3)) ((σ 4)) (nI (3 * (f0 - (n1 + 1)) + 1)))))) 2 (mn (mx (fa 2) (fa 1)) (mx 0 (sndP ((σ 3)) ((σ 4)) (nI (3 * (f0 - (n1 + 1)) + 2))))))))]) [0, 1, 2, 3, 4, 5, 6, 7, 8, 9, 10, 11, 12, 14] (by decide) rfl
                                  exact ih84 (n1 + 1) _ _ (by omega) ⟨by omega, (by refine md_step ?_; show _ = mdS (σ 3) (σ 4) (f0 - (n1 + 1)) (mdD (σ 3) (σ 4) f0 n1); rw [← hv]; exact md_tup)⟩ _ _ hP hD hS ls (lv_sub hl [5, 6, 7, 3, 0] rfl)
                                · skip
                                  exact absurd c_16 (by decide)
                              · skip
                                exact absurd c_15 (by decide)
                · skip
                  exact absurd c_8 (by decide)
        exact loop84 13 0 _ (upd (upd (upd (fun _ => 0) 0 (mx 0 (sndP ((σ 3)) ((σ 4)) (nI (3 * f0))))) 1 (mx 0 (sndP ((σ 3)) ((σ 4)) (nI (3 * f0 + 1))))) 2 (mx 0 (sndP ((σ 3)) ((σ 4)) (nI (3 * f0 + 2))))) (by omega) ⟨by omega, md_step rfl⟩ _ _ hP hD hS ls (lv_sub hl [3, 5, 2, 1, 0] rfl)
      · skip
        have hft : f0 < t0 := by rcases Nat.lt_or_ge f0 t0 with q | q; exact q; exact absurd ((nI_leI (by omega) (by omega)).mpr q) c_3
        refine lv_iconst (v := 1) hx hb dX6_bears_36 (by decide) ?_
        refine lv_goto (tgt := 41) hx hb dX6_bears_37 (by decide) ?_
        refine lv_istore_n (lv' := [(3, .int 1), (0, .ref (b 0)), (1, .int (nI f0)), (2, .int (nI t0))]) hx hb dX6_bears_41 rfl hl (by decide) rfl (fun ls hl => ?_)
        refine lv_iconst (v := 3) hx hb dX6_bears_42 (by decide) ?_
        refine my_newi (N := 3) hx hb (hts (.arrayClass .int) (by decide +kernel)) hK.1 hP hD hS hA (by decide) rfl (Nat.le_of_ble_eq_true rfl) (Nat.le_of_ble_eq_true rfl) (Nat.le_of_ble_eq_true rfl) dX6_bears_43 (fun q_17 H hP hD hS => ?_)
        have hP : va_P D vwCl ((wOutE b d d2 cI 0 (ω 19 0) (ω 1) (ω 2) (ω 14) (ω 15) ++ (wSta d (b 0) cI σ ++ wSta d2 (b 0) cI σ2)) ++ [(q_17, .inl (cI, 3, .inl (fun _ => 0)))]) H := hP
        have hD : va_D A ((wOutE b d d2 cI 0 (ω 19 0) (ω 1) (ω 2) (ω 14) (ω 15) ++ (wSta d (b 0) cI σ ++ wSta d2 (b 0) cI σ2)) ++ [(q_17, .inl (cI, 3, .inl (fun _ => 0)))]) := hD
        refine lv_dup hx hb dX6_bears_45 rfl ?_
        refine lv_iconst (v := 0) hx hb dX6_bears_46 (by decide) ?_
        refine lv_aload_n hx hb dX6_bears_47 rfl (lv_at hl 1 rfl) ?_
        refine lv_iconst (v := 3) hx hb dX6_bears_48 (by decide) ?_
        refine lv_iload_n hx hb dX6_bears_49 rfl (lv_at hl 2 rfl) ?_
        refine lv_imul hx hb dX6_bears_50 ?_
        rw [show 3 * nI f0 = nI (3 * f0) from pk_mul 3 f0]
        refine rd_i (va_runV (As := [.int (nI (3 * f0))]) (rest := [.int 0, .ref q_17, .ref q_17]) ⟨hx, hb, hml, hown, hts⟩ (M_X6_borne l D cI b d d2 σ σ2 (put ω 20 (fun _ => 0)) (3 * f0) (by omega)) (cwV 1 hts gX6_bears_X6_borne rfl rfl rfl (by decide +kernel) ⟨Nat.le_of_ble_eq_true rfl, Nat.le_of_ble_eq_true rfl⟩) (rdV hK hP [0, 1, 2, 3, 4, 5, 6, 7, 8, 9, 10, 11, 12] [0] rfl rfl (ci := 6) (q0 := 0) rfl rfl) rfl rfl hl.1 rfl (lv_room (Nat.le_of_ble_eq_true rfl)) dX6_bears_51 ⟨Nat.le_of_ble_eq_true rfl, Nat.le_of_ble_eq_true rfl⟩) ?_
        refine W.eq (g2 := F0 m 54 ls [.int (mx 0 (sndP ((σ 3)) ((σ 4)) (nI (3 * f0)))), .int 0, .ref q_17, .ref q_17]) rfl ?_
        refine va_iast hx hb hK.1 hP hD hS 13 0 rfl rfl (by unfold vp_in; decide) dX6_bears_54 (fun H locs hP hD hS => ?_)
        have hP : va_P D vwCl ((wOutE b d d2 cI 0 (ω 19 0) (ω 1) (ω 2) (ω 14) (ω 15) ++ (wSta d (b 0) cI σ ++ wSta d2 (b 0) cI σ2)) ++ [(q_17, .inl (cI, 3, .inl (upd (fun _ => 0) 0 (mx 0 (sndP ((σ 3)) ((σ 4)) (nI (3 * f0)))))))]) H := hP
        have hD : va_D A ((wOutE b d d2 cI 0 (ω 19 0) (ω 1) (ω 2) (ω 14) (ω 15) ++ (wSta d (b 0) cI σ ++ wSta d2 (b 0) cI σ2)) ++ [(q_17, .inl (cI, 3, .inl (upd (fun _ => 0) 0 (mx 0 (sndP ((σ 3)) ((σ 4)) (nI (3 * f0)))))))]) := hD
        refine lv_dup hx hb dX6_bears_55 rfl ?_
        refine lv_iconst (v := 1) hx hb dX6_bears_56 (by decide) ?_
        refine lv_aload_n hx hb dX6_bears_57 rfl (lv_at hl 1 rfl) ?_
        refine lv_iconst (v := 3) hx hb dX6_bears_58 (by decide) ?_
        refine lv_iload_n hx hb dX6_bears_59 rfl (lv_at hl 2 rfl) ?_
        refine lv_imul hx hb dX6_bears_60 ?_
        rw [show 3 * nI f0 = nI (3 * f0) from pk_mul 3 f0]
        refine lv_iconst (v := 1) hx hb dX6_bears_61 (by decide) ?_
        refine lv_iadd hx hb dX6_bears_62 ?_
        rw [show nI (3 * f0) + 1 = nI (3 * f0 + 1) from nI_1 _]
        refine rd_i (va_runV (As := [.int (nI (3 * f0 + 1))]) (rest := [.int 1, .ref q_17, .ref q_17]) ⟨hx, hb, hml, hown, hts⟩ (M_X6_borne l D cI b d d2 σ σ2 (put ω 20 (fun _ => 0)) (3 * f0 + 1) (by omega)) (cwV 1 hts gX6_bears_X6_borne rfl rfl rfl (by decide +kernel) ⟨Nat.le_of_ble_eq_true rfl, Nat.le_of_ble_eq_true rfl⟩) (rdV hK hP [0, 1, 2, 3, 4, 5, 6, 7, 8, 9, 10, 11, 12] [0] rfl rfl (ci := 6) (q0 := 0) rfl rfl) rfl rfl hl.1 rfl (lv_room (Nat.le_of_ble_eq_true rfl)) dX6_bears_63 ⟨Nat.le_of_ble_eq_true rfl, Nat.le_of_ble_eq_true rfl⟩) ?_
        refine W.eq (g2 := F0 m 66 ls [.int (mx 0 (sndP ((σ 3)) ((σ 4)) (nI (3 * f0 + 1)))), .int 1, .ref q_17, .ref q_17]) rfl ?_
        refine va_iast hx hb hK.1 hP hD hS 13 0 rfl rfl (by unfold vp_in; decide) dX6_bears_66 (fun H locs hP hD hS => ?_)
        have hP : va_P D vwCl ((wOutE b d d2 cI 0 (ω 19 0) (ω 1) (ω 2) (ω 14) (ω 15) ++ (wSta d (b 0) cI σ ++ wSta d2 (b 0) cI σ2)) ++ [(q_17, .inl (cI, 3, .inl (upd (upd (fun _ => 0) 0 (mx 0 (sndP ((σ 3)) ((σ 4)) (nI (3 * f0))))) 1 (mx 0 (sndP ((σ 3)) ((σ 4)) (nI (3 * f0 + 1)))))))]) H := hP
        have hD : va_D A ((wOutE b d d2 cI 0 (ω 19 0) (ω 1) (ω 2) (ω 14) (ω 15) ++ (wSta d (b 0) cI σ ++ wSta d2 (b 0) cI σ2)) ++ [(q_17, .inl (cI, 3, .inl (upd (upd (fun _ => 0) 0 (mx 0 (sndP ((σ 3)) ((σ 4)) (nI (3 * f0))))) 1 (mx 0 (sndP ((σ 3)) ((σ 4)) (nI (3 * f0 + 1)))))))]) := hD
        refine lv_dup hx hb dX6_bears_67 rfl ?_
        refine lv_iconst (v := 2) hx hb dX6_bears_68 (by decide) ?_
        refine lv_aload_n hx hb dX6_bears_69 rfl (lv_at hl 1 rfl) ?_
        refine lv_iconst (v := 3) hx hb dX6_bears_70 (by decide) ?_
        refine lv_iload_n hx hb dX6_bears_71 rfl (lv_at hl 2 rfl) ?_
        refine lv_imul hx hb dX6_bears_72 ?_
        rw [show 3 * nI f0 = nI (3 * f0) from pk_mul 3 f0]
        refine lv_iconst (v := 2) hx hb dX6_bears_73 (by decide) ?_
        refine lv_iadd hx hb dX6_bears_74 ?_
        rw [show nI (3 * f0) + 2 = nI (3 * f0 + 2) from nI_add _ 2]
        refine rd_i (va_runV (As := [.int (nI (3 * f0 + 2))]) (rest := [.int 2, .ref q_17, .ref q_17]) ⟨hx, hb, hml, hown, hts⟩ (M_X6_borne l D cI b d d2 σ σ2 (put ω 20 (fun _ => 0)) (3 * f0 + 2) (by omega)) (cwV 1 hts gX6_bears_X6_borne rfl rfl rfl (by decide +kernel) ⟨Nat.le_of_ble_eq_true rfl, Nat.le_of_ble_eq_true rfl⟩) (rdV hK hP [0, 1, 2, 3, 4, 5, 6, 7, 8, 9, 10, 11, 12] [0] rfl rfl (ci := 6) (q0 := 0) rfl rfl) rfl rfl hl.1 rfl (lv_room (Nat.le_of_ble_eq_true rfl)) dX6_bears_75 ⟨Nat.le_of_ble_eq_true rfl, Nat.le_of_ble_eq_true rfl⟩) ?_
        refine W.eq (g2 := F0 m 78 ls [.int (mx 0 (sndP ((σ 3)) ((σ 4)) (nI (3 * f0 + 2)))), .int 2, .ref q_17, .ref q_17]) rfl ?_
        refine va_iast hx hb hK.1 hP hD hS 13 0 rfl rfl (by unfold vp_in; decide) dX6_bears_78 (fun H locs hP hD hS => ?_)
        have hP : va_P D vwCl ((wOutE b d d2 cI 0 (ω 19 0) (ω 1) (ω 2) (ω 14) (ω 15) ++ (wSta d (b 0) cI σ ++ wSta d2 (b 0) cI σ2)) ++ [(q_17, .inl (cI, 3, .inl (upd (upd (upd (fun _ => 0) 0 (mx 0 (sndP ((σ 3)) ((σ 4)) (nI (3 * f0))))) 1 (mx 0 (sndP ((σ 3)) ((σ 4)) (nI (3 * f0 + 1))))) 2 (mx 0 (sndP ((σ 3)) ((σ 4)) (nI (3 * f0 + 2)))))))]) H := hP
        have hD : va_D A ((wOutE b d d2 cI 0 (ω 19 0) (ω 1) (ω 2) (ω 14) (ω 15) ++ (wSta d (b 0) cI σ ++ wSta d2 (b 0) cI σ2)) ++ [(q_17, .inl (cI, 3, .inl (upd (upd (upd (fun _ => 0) 0 (mx 0 (sndP ((σ 3)) ((σ 4)) (nI (3 * f0))))) 1 (mx 0 (sndP ((σ 3)) ((σ 4)) (nI (3 * f0 + 1))))) 2 (mx 0 (sndP ((σ 3)) ((σ 4)) (nI (3 * f0 + 2)))))))]) := hD
        refine lv_astore (lv' := [(4, .ref q_17), (3, .int 1), (0, .ref (b 0)), (1, .int (nI f0)), (2, .int (nI t0))]) hx hb dX6_bears_79 hl (by decide) rfl (fun ls hl => ?_)
        refine lv_iload_n hx hb dX6_bears_81 rfl (lv_at hl 3 rfl) ?_
        refine lv_istore (lv' := [(5, .int (nI f0)), (4, .ref q_17), (3, .int 1), (0, .ref (b 0)), (1, .int (nI f0)), (2, .int (nI t0))]) hx hb dX6_bears_82 hl (by decide) rfl (fun ls hl => ?_)
        have hl : lv_has ls 9 [(5, .int (nI (f0 + 0))), (4, .ref q_17), (3, .int 1), (0, .ref (b 0)), (1, .int (nI f0)), (2, .int (nI t0))] := by rw [show nI (f0 + 0) = nI f0 from rfl]; exact hl
        have loop84 : ∀ (n : Nat) (n1 : Nat) (qa : Nat) (fa : Nat → Int32), 12 - n1 < n → (n1 ≤ t0 - f0 ∧ (fa 0, fa 1, fa 2) = md (σ 3) (σ 4) f0 n1) → ∀ (H : Heap) (locs : List Loc), va_P D vwCl ((wOutE b d d2 cI 0 (ω 19 0) (ω 1) (ω 2) (ω 14) (ω 15) ++ (wSta d (b 0) cI σ ++ wSta d2 (b 0) cI σ2)) ++ [(qa, .inl (cI, 3, .inl fa))]) H → va_D A ((wOutE b d d2 cI 0 (ω 19 0) (ω 1) (ω 2) (ω 14) (ω 15) ++ (wSta d (b 0) cI σ ++ wSta d2 (b 0) cI σ2)) ++ [(qa, .inl (cI, 3, .inl fa))]) → va_S A s.heap H locs → ∀ (ls : Array Slot), lv_has ls 9 [(0, .ref (b 0)), (2, .int (nI t0)), (3, .int 1), (4, .ref qa), (5, .int (nI (f0 + n1)))] → W p l e ({ frames := 2, cells := 12, slots := 36, locals := 42 } : Room) s m args below meth c H locs (1 + n1) (3 + 3 * n1) Q (F0 m 84 ls []) := by
          intro n
          induction n with
          | zero => intro n1  qa  fa  hf; exact absurd hf (Nat.not_lt_zero _)
          | succ n ih84 =>
            intro n1  qa  fa  hf ⟨hn1, hv⟩ H locs hP hD hS ls hl
            refine lv_iload hx hb dX6_bears_84 (lv_at hl 4 rfl) ?_
            refine lv_iload_n hx hb dX6_bears_86 rfl (lv_at hl 1 rfl) ?_
            refine lv_icmp_eq (tgt := 192) hx hb dX6_bears_87 (by decide) (fun c_18 => ?_) (fun c_18 => ?_)
            · skip
              have hk2 := (nI_eq (by omega) (by omega)).mp c_18
              refine lv_aload hx hb dX6_bears_192 (lv_at hl 3 rfl) ?_
              refine lv_iconst (v := 0) hx hb dX6_bears_194 (by decide) ?_
              refine va_iald hx hb hK.1 hP 13 0 rfl rfl (by unfold vp_in; decide) dX6_bears_195 ?_
              refine W.eq (g2 := F0 m 196 ls [.int (fa 0)]) rfl ?_
              refine lv_aload hx hb dX6_bears_196 (lv_at hl 3 rfl) ?_
              refine lv_iconst (v := 1) hx hb dX6_bears_198 (by decide) ?_
              refine va_iald hx hb hK.1 hP 13 0 rfl rfl (by unfold vp_in; decide) dX6_bears_199 ?_
              refine W.eq (g2 := F0 m 200 ls [.int (fa 1), .int (fa 0)]) rfl ?_
              refine lv_aload hx hb dX6_bears_200 (lv_at hl 3 rfl) ?_
              refine lv_iconst (v := 2) hx hb dX6_bears_202 (by decide) ?_
              refine va_iald hx hb hK.1 hP 13 0 rfl rfl (by unfold vp_in; decide) dX6_bears_203 ?_
              refine W.eq (g2 := F0 m 204 ls [.int (fa 2), .int (fa 1), .int (fa 0)]) rfl ?_
              refine va_mmax hx hb (by rw [hml]; exact hl.1.symm) hown (hts (.methodLink RX6 69 Lib.Math.max.name) (by decide +kernel)) (hts (.static Lib.Math.max.name) (by decide +kernel)) (hts (.initialized "java/lang/Math") (by decide +kernel)) (hts (.code Lib.Math.max.name Lib.Math.max.code 2 (some .int)) (by decide +kernel)) (Nat.le_of_ble_eq_true rfl) (Nat.le_of_ble_eq_true rfl) (by show 1 + n1 ≤ 12; omega) (by show 3 + 3 * n1 ≤ 36; omega) dX6_bears_204 ?_
              refine W.eq (g2 := F0 m 207 ls [.int (mx (fa 1) (fa 2)), .int (fa 0)]) rfl ?_
              refine va_mmax hx hb (by rw [hml]; exact hl.1.symm) hown (hts (.methodLink RX6 69 Lib.Math.max.name) (by decide +kernel)) (hts (.static Lib.Math.max.name) (by decide +kernel)) (hts (.initialized "java/lang/Math") (by decide +kernel)) (hts (.code Lib.Math.max.name Lib.Math.max.code 2 (some .int)) (by decide +kernel)) (Nat.le_of_ble_eq_true rfl) (Nat.le_of_ble_eq_true rfl) (by show 1 + n1 ≤ 12; omega) (by show 3 + 3 * n1 ≤ 36; omega) dX6_bears_207 ?_
              refine W.eq (g2 := F0 m 210 ls [.int (mx (fa 0) (mx (fa 1) (fa 2)))]) rfl ?_
              subst hQ
              have hP := hP.sub (ws' := wMod b d d2 cI σ σ2 (put ω 20 (fun _ => 0))) [0, 1, 2, 3, 4, 5, 6, 7, 8, 9, 10, 11, 12] rfl
              have hD := hD.sub (ws' := wMod b d d2 cI σ σ2 (put ω 20 (fun _ => 0))) [0, 1, 2, 3, 4, 5, 6, 7, 8, 9, 10, 11, 12] (by decide) rfl
              refine W.widen (k := 12) (n := 36) (by omega) (by omega) ?_
              exact ret_wri hx hb hr rfl hlocks hP hD hS (show mx (fa 0) (mx (fa 1) (fa 2)) = brF (σ 3) (σ 4) f0 t0 from (by unfold brF; rw [if_pos hft, show t0 - f0 = n1 by omega, ← hv]; rfl)) dX6_bears_210
            · skip
              have hk2 := mt (nI_eq (by omega) (by omega)).mpr c_18
              refine lv_aload hx hb dX6_bears_90 (lv_at hl 3 rfl) ?_
              refine lv_astore (lv' := [(6, .ref qa), (0, .ref (b 0)), (2, .int (nI t0)), (3, .int 1), (4, .ref qa), (5, .int (nI (f0 + n1)))]) hx hb dX6_bears_92 hl (by decide) rfl (fun ls hl => ?_)
              refine lv_iconst (v := 3) hx hb dX6_bears_94 (by decide) ?_
              refine my_newi (N := 3) hx hb (hts (.arrayClass .int) (by decide +kernel)) hK.1 hP hD hS hA (by decide) rfl (Nat.le_of_ble_eq_true rfl) (by show (1 + n1) + 1 ≤ 12; omega) (by show (3 + 3 * n1) + 3 ≤ 36; omega) dX6_bears_95 (fun q_19 H hP hD hS => ?_)
              have hP : va_P D vwCl ((wOutE b d d2 cI 0 (ω 19 0) (ω 1) (ω 2) (ω 14) (ω 15) ++ (wSta d (b 0) cI σ ++ wSta d2 (b 0) cI σ2)) ++ [(qa, .inl (cI, 3, .inl fa)), (q_19, .inl (cI, 3, .inl (fun _ => 0)))]) H := hP
              have hD : va_D A ((wOutE b d d2 cI 0 (ω 19 0) (ω 1) (ω 2) (ω 14) (ω 15) ++ (wSta d (b 0) cI σ ++ wSta d2 (b 0) cI σ2)) ++ [(qa, .inl (cI, 3, .inl fa)), (q_19, .inl (cI, 3, .inl (fun _ => 0)))]) := hD
              refine lv_astore (lv' := [(4, .ref q_19), (6, .ref qa), (0, .ref (b 0)), (2, .int (nI t0)), (3, .int 1), (5, .int (nI (f0 + n1)))]) hx hb dX6_bears_97 hl (by decide) rfl (fun ls hl => ?_)
              refine lv_iconst (v := 0) hx hb dX6_bears_99 (by decide) ?_
              refine lv_istore (lv' := [(7, .int 0), (4, .ref q_19), (6, .ref qa), (0, .ref (b 0)), (2, .int (nI t0)), (3, .int 1), (5, .int (nI (f0 + n1)))]) hx hb dX6_bears_100 hl (by decide) rfl (fun ls hl => ?_)
              refine lv_iload hx hb dX6_bears_102 (lv_at hl 0 rfl) ?_
              refine lv_iconst (v := 3) hx hb dX6_bears_104 (by decide) ?_
              refine lv_icmp_ge (tgt := 183) hx hb dX6_bears_105 (by decide) (fun c_20 => ?_) (fun c_20 => ?_)
              · skip
                exact absurd c_20 (by decide)
              · skip
                refine lv_aload hx hb dX6_bears_108 (lv_at hl 2 rfl) ?_
                refine lv_iload hx hb dX6_bears_110 (lv_at hl 0 rfl) ?_
                refine va_iald hx hb hK.1 hP 13 0 rfl rfl (by unfold vp_in; decide) dX6_bears_112 ?_
                refine W.eq (g2 := F0 m 113 ls [.int (fa 0)]) rfl ?_
                refine lv_istore (lv' := [(8, .int (fa 0)), (7, .int 0), (4, .ref q_19), (6, .ref qa), (0, .ref (b 0)), (2, .int (nI t0)), (3, .int 1), (5, .int (nI (f0 + n1)))]) hx hb dX6_bears_113 hl (by decide) rfl (fun ls hl => ?_)
                refine lv_iload hx hb dX6_bears_115 (lv_at hl 1 rfl) ?_
                refine lv_if_le (tgt := 134) hx hb dX6_bears_117 (by decide) (fun c_21 => ?_) (fun c_21 => ?_)
                · skip
                  refine lv_iload hx hb dX6_bears_134 (lv_at hl 1 rfl) ?_
                  refine lv_iconst (v := 2) hx hb dX6_bears_136 (by decide) ?_
                  refine lv_icmp_ge (tgt := 154) hx hb dX6_bears_137 (by decide) (fun c_22 => ?_) (fun c_22 => ?_)
                  · skip
                    exact absurd c_22 (by decide)
                  · skip
                    refine lv_iload hx hb dX6_bears_140 (lv_at hl 0 rfl) ?_
                    refine lv_aload hx hb dX6_bears_142 (lv_at hl 3 rfl) ?_
                    refine lv_iload hx hb dX6_bears_144 (lv_at hl 1 rfl) ?_
                    refine lv_iconst (v := 1) hx hb dX6_bears_146 (by decide) ?_
                    refine lv_iadd hx hb dX6_bears_147 ?_
                    rw [show ((0 + 1 : Int32)) = 1 from by decide]
                    refine va_iald hx hb hK.1 hP 13 0 rfl rfl (by unfold vp_in; decide) dX6_bears_148 ?_
                    refine W.eq (g2 := F0 m 149 ls [.int (fa 1), .int (fa 0)]) rfl ?_
                    refine va_mmax hx hb (by rw [hml]; exact hl.1.symm) hown (hts (.methodLink RX6 69 Lib.Math.max.name) (by decide +kernel)) (hts (.static Lib.Math.max.name) (by decide +kernel)) (hts (.initialized "java/lang/Math") (by decide +kernel)) (hts (.code Lib.Math.max.name Lib.Math.max.code 2 (some .int)) (by decide +kernel)) (Nat.le_of_ble_eq_true rfl) (Nat.le_of_ble_eq_true rfl) (by show (1 + n1) + 1 ≤ 12; omega) (by show (3 + 3 * n1) + 3 ≤ 36; omega) dX6_bears_149 ?_
                    refine W.eq (g2 := F0 m 152 ls [.int (mx (fa 0) (fa 1))]) rfl ?_
                    refine lv_istore (lv' := [(8, .int (mx (fa 0) (fa 1))), (7, .int 0), (4, .ref q_19), (6, .ref qa), (0, .ref (b 0)), (2, .int (nI t0)), (3, .int 1), (5, .int (nI (f0 + n1)))]) hx hb dX6_bears_152 hl (by decide) rfl (fun ls hl => ?_)
                    refine lv_aload hx hb dX6_bears_154 (lv_at hl 2 rfl) ?_
                    refine lv_iload hx hb dX6_bears_156 (lv_at hl 1 rfl) ?_
                    refine lv_iload hx hb dX6_bears_158 (lv_at hl 0 rfl) ?_
                    refine lv_aload_n hx hb dX6_bears_160 rfl (lv_at hl 4 rfl) ?_
                    refine lv_iconst (v := 3) hx hb dX6_bears_161 (by decide) ?_
                    refine lv_iload hx hb dX6_bears_162 (lv_at hl 7 rfl) ?_
                    refine lv_iload_n hx hb dX6_bears_164 rfl (lv_at hl 6 rfl) ?_
                    refine lv_iadd hx hb dX6_bears_165 ?_
                    rw [show nI (f0 + n1) + 1 = nI (f0 + (n1 + 1)) from nI_1 _]
                    refine lv_imul hx hb dX6_bears_166 ?_
                    refine lv_iload hx hb dX6_bears_167 (lv_at hl 1 rfl) ?_
                    refine lv_iadd hx hb dX6_bears_169 ?_
                    rw [show 3 * nI (f0 + (n1 + 1)) + 0 = nI (3 * (f0 + (n1 + 1)) + 0) from pl_nI2 _ 0]
                    refine rd_i (va_runV (As := [.int (nI (3 * (f0 + (n1 + 1)) + 0))]) (rest := [.int (mx (fa 0) (fa 1)), .int 0, .ref q_19]) ⟨hx, hb, hml, hown, hts⟩ (M_X6_borne l D cI b d d2 σ σ2 (put ω 20 (fun _ => 0)) (3 * (f0 + (n1 + 1)) + 0) (by omega)) (cwV 1 hts gX6_bears_X6_borne rfl rfl rfl (by decide +kernel) ⟨Nat.le_of_ble_eq_true rfl, Nat.le_of_ble_eq_true rfl⟩) (rdV hK hP [0, 1, 2, 3, 4, 5, 6, 7, 8, 9, 10, 11, 12] [0] rfl rfl (ci := 6) (q0 := 0) rfl rfl) rfl rfl hl.1 rfl (lv_room (Nat.le_of_ble_eq_true rfl)) dX6_bears_170 ⟨(by show (1 + n1) + 1 + 0 ≤ 12; omega), (by show (3 + 3 * n1) + 3 + 0 ≤ 36; omega)⟩) ?_
                    refine W.eq (g2 := F0 m 173 ls [.int (mx 0 (sndP ((σ 3)) ((σ 4)) (nI (3 * (f0 + (n1 + 1)) + 0)))), .int (mx (fa 0) (fa 1)), .int 0, .ref q_19]) rfl ?_
                    refine va_mmin hx hb (by rw [hml]; exact hl.1.symm) hown (hts (.methodLink RX6 131 Lib.Math.min.name) (by decide +kernel)) (hts (.static Lib.Math.min.name) (by decide +kernel)) (hts (.initialized "java/lang/Math") (by decide +kernel)) (hts (.code Lib.Math.min.name Lib.Math.min.code 2 (some .int)) (by decide +kernel)) (Nat.le_of_ble_eq_true rfl) (Nat.le_of_ble_eq_true rfl) (by show (1 + n1) + 1 ≤ 12; omega) (by show (3 + 3 * n1) + 3 ≤ 36; omega) dX6_bears_173 ?_
                    refine W.eq (g2 := F0 m 176 ls [.int (mn (mx (fa 0) (fa 1)) (mx 0 (sndP ((σ 3)) ((σ 4)) (nI (3 * (f0 + (n1 + 1)) + 0))))), .int 0, .ref q_19]) rfl ?_
                    refine va_iast hx hb hK.1 hP hD hS 14 0 rfl rfl (by unfold vp_in; decide) dX6_bears_176 (fun H locs hP hD hS => ?_)
                    have hP : va_P D vwCl ((wOutE b d d2 cI 0 (ω 19 0) (ω 1) (ω 2) (ω 14) (ω 15) ++ (wSta d (b 0) cI σ ++ wSta d2 (b 0) cI σ2)) ++ [(qa, .inl (cI, 3, .inl fa)), (q_19, .inl (cI, 3, .inl (upd (fun _ => 0) 0 (mn (mx (fa 0) (fa 1)) (mx 0 (sndP ((σ 3)) ((σ 4)) (nI (3 * (f0 + (n1 + 1)) + 0))))))))]) H := hP
                    have hD : va_D A ((wOutE b d d2 cI 0 (ω 19 0) (ω 1) (ω 2) (ω 14) (ω 15) ++ (wSta d (b 0) cI σ ++ wSta d2 (b 0) cI σ2)) ++ [(qa, .inl (cI, 3, .inl fa)), (q_19, .inl (cI, 3, .inl (upd (fun _ => 0) 0 (mn (mx (fa 0) (fa 1)) (mx 0 (sndP ((σ 3)) ((σ 4)) (nI (3 * (f0 + (n1 + 1)) + 0))))))))]) := hD
                    refine lv_iinc (v := 1) (lv' := [(7, .int 1), (8, .int (mx (fa 0) (fa 1))), (4, .ref q_19), (6, .ref qa), (0, .ref (b 0)), (2, .int (nI t0)), (3, .int 1), (5, .int (nI (f0 + n1)))]) hx hb dX6_bears_177 hl (k := 1) rfl (by decide) (by decide) rfl (fun ls hl => ?_)
                    refine lv_goto (tgt := 102) hx hb dX6_bears_180 (by decide) ?_
                    refine lv_iload hx hb dX6_bears_102 (lv_at hl 0 rfl) ?_
                    refine lv_iconst (v := 3) hx hb dX6_bears_104 (by decide) ?_
                    refine lv_icmp_ge (tgt := 183) hx hb dX6_bears_105 (by decide) (fun c_23 => ?_) (fun c_23 => ?_)
                    · skip
                      exact absurd c_23 (by decide)
                    · skip
                      refine lv_aload hx hb dX6_bears_108 (lv_at hl 3 rfl) ?_
                      refine lv_iload hx hb dX6_bears_110 (lv_at hl 0 rfl) ?_
                      refine va_iald hx hb hK.1 hP 13 0 rfl rfl (by unfold vp_in; decide) dX6_bears_112 ?_
                      refine W.eq (g2 := F0 m 113 ls [.int (fa 1)]) rfl ?_
                      refine lv_istore (lv' := [(8, .int (fa 1)), (7, .int 1), (4, .ref q_19), (6, .ref qa), (0, .ref (b 0)), (2, .int (nI t0)), (3, .int 1), (5, .int (nI (f0 + n1)))]) hx hb dX6_bears_113 hl (by decide) rfl (fun ls hl => ?_)
                      refine lv_iload hx hb dX6_bears_115 (lv_at hl 1 rfl) ?_
                      refine lv_if_le (tgt := 134) hx hb dX6_bears_117 (by decide) (fun c_24 => ?_) (fun c_24 => ?_)
                      · skip
                        exact absurd c_24 (by decide)
                      · skip
                        refine lv_iload hx hb dX6_bears_120 (lv_at hl 0 rfl) ?_
                        refine lv_aload hx hb dX6_bears_122 (lv_at hl 3 rfl) ?_
                        refine lv_iload hx hb dX6_bears_124 (lv_at hl 1 rfl) ?_
                        refine lv_iconst (v := 1) hx hb dX6_bears_126 (by decide) ?_
                        refine lv_isub hx hb dX6_bears_127 ?_
                        rw [show ((1 - 1 : Int32)) = 0 from by decide]
                        refine va_iald hx hb hK.1 hP 13 0 rfl rfl (by unfold vp_in; decide) dX6_bears_128 ?_
                        refine W.eq (g2 := F0 m 129 ls [.int (fa 0), .int (fa 1)]) rfl ?_
                        refine va_mmax hx hb (by rw [hml]; exact hl.1.symm) hown (hts (.methodLink RX6 69 Lib.Math.max.name) (by decide +kernel)) (hts (.static Lib.Math.max.name) (by decide +kernel)) (hts (.initialized "java/lang/Math") (by decide +kernel)) (hts (.code Lib.Math.max.name Lib.Math.max.code 2 (some .int)) (by decide +kernel)) (Nat.le_of_ble_eq_true rfl) (Nat.le_of_ble_eq_true rfl) (by show (1 + n1) + 1 ≤ 12; omega) (by show (3 + 3 * n1) + 3 ≤ 36; omega) dX6_bears_129 ?_
                        refine W.eq (g2 := F0 m 132 ls [.int (mx (fa 1) (fa 0))]) rfl ?_
                        refine lv_istore (lv' := [(8, .int (mx (fa 1) (fa 0))), (7, .int 1), (4, .ref q_19), (6, .ref qa), (0, .ref (b 0)), (2, .int (nI t0)), (3, .int 1), (5, .int (nI (f0 + n1)))]) hx hb dX6_bears_132 hl (by decide) rfl (fun ls hl => ?_)
                        refine lv_iload hx hb dX6_bears_134 (lv_at hl 1 rfl) ?_
                        refine lv_iconst (v := 2) hx hb dX6_bears_136 (by decide) ?_
                        refine lv_icmp_ge (tgt := 154) hx hb dX6_bears_137 (by decide) (fun c_25 => ?_) (fun c_25 => ?_)
                        · skip
                          exact absurd c_25 (by decide)
                        · skip
                          refine lv_iload hx hb dX6_bears_140 (lv_at hl 0 rfl) ?_
                          refine lv_aload hx hb dX6_bears_142 (lv_at hl 3 rfl) ?_
                          refine lv_iload hx hb dX6_bears_144 (lv_at hl 1 rfl) ?_
                          refine lv_iconst (v := 1) hx hb dX6_bears_146 (by decide) ?_
                          refine lv_iadd hx hb dX6_bears_147 ?_
                          rw [show ((1 + 1 : Int32)) = 2 from by decide]
                          refine va_iald hx hb hK.1 hP 13 0 rfl rfl (by unfold vp_in; decide) dX6_bears_148 ?_
                          refine W.eq (g2 := F0 m 149 ls [.int (fa 2), .int (mx (fa 1) (fa 0))]) rfl ?_
                          refine va_mmax hx hb (by rw [hml]; exact hl.1.symm) hown (hts (.methodLink RX6 69 Lib.Math.max.name) (by decide +kernel)) (hts (.static Lib.Math.max.name) (by decide +kernel)) (hts (.initialized "java/lang/Math") (by decide +kernel)) (hts (.code Lib.Math.max.name Lib.Math.max.code 2 (some .int)) (by decide +kernel)) (Nat.le_of_ble_eq_true rfl) (Nat.le_of_ble_eq_true rfl) (by show (1 + n1) + 1 ≤ 12; omega) (by show (3 + 3 * n1) + 3 ≤ 36; omega) dX6_bears_149 ?_
                          refine W.eq (g2 := F0 m 152 ls [.int (mx (mx (fa 1) (fa 0)) (fa 2))]) rfl ?_
                          refine lv_istore (lv' := [(8, .int (mx (mx (fa 1) (fa 0)) (fa 2))), (7, .int 1), (4, .ref q_19), (6, .ref qa), (0, .ref (b 0)), (2, .int (nI t0)), (3, .int 1), (5, .int (nI (f0 + n1)))]) hx hb dX6_bears_152 hl (by decide) rfl (fun ls hl => ?_)
                          refine lv_aload hx hb dX6_bears_154 (lv_at hl 2 rfl) ?_
                          refine lv_iload hx hb dX6_bears_156 (lv_at hl 1 rfl) ?_
                          refine lv_iload hx hb dX6_bears_158 (lv_at hl 0 rfl) ?_
                          refine lv_aload_n hx hb dX6_bears_160 rfl (lv_at hl 4 rfl) ?_
                          refine lv_iconst (v := 3) hx hb dX6_bears_161 (by decide) ?_
                          refine lv_iload hx hb dX6_bears_162 (lv_at hl 7 rfl) ?_
                          refine lv_iload_n hx hb dX6_bears_164 rfl (lv_at hl 6 rfl) ?_
                          refine lv_iadd hx hb dX6_bears_165 ?_
                          rw [show nI (f0 + n1) + 1 = nI (f0 + (n1 + 1)) from nI_1 _]
                          refine lv_imul hx hb dX6_bears_166 ?_
                          refine lv_iload hx hb dX6_bears_167 (lv_at hl 1 rfl) ?_
                          refine lv_iadd hx hb dX6_bears_169 ?_
                          rw [show 3 * nI (f0 + (n1 + 1)) + 1 = nI (3 * (f0 + (n1 + 1)) + 1) from pl_nI2 _ 1]
                          refine rd_i (va_runV (As := [.int (nI (3 * (f0 + (n1 + 1)) + 1))]) (rest := [.int (mx (mx (fa 1) (fa 0)) (fa 2)), .int 1, .ref q_19]) ⟨hx, hb, hml, hown, hts⟩ (M_X6_borne l D cI b d d2 σ σ2 (put ω 20 (fun _ => 0)) (3 * (f0 + (n1 + 1)) + 1) (by omega)) (cwV 1 hts gX6_bears_X6_borne rfl rfl rfl (by decide +kernel) ⟨Nat.le_of_ble_eq_true rfl, Nat.le_of_ble_eq_true rfl⟩) (rdV hK hP [0, 1, 2, 3, 4, 5, 6, 7, 8, 9, 10, 11, 12] [0] rfl rfl (ci := 6) (q0 := 0) rfl rfl) rfl rfl hl.1 rfl (lv_room (Nat.le_of_ble_eq_true rfl)) dX6_bears_170 ⟨(by show (1 + n1) + 1 + 0 ≤ 12; omega), (by show (3 + 3 * n1) + 3 + 0 ≤ 36; omega)⟩) ?_
                          refine W.eq (g2 := F0 m 173 ls [.int (mx 0 (sndP ((σ 3)) ((σ 4)) (nI (3 * (f0 + (n1 + 1)) + 1)))), .int (mx (mx (fa 1) (fa 0)) (fa 2)), .int 1, .ref q_19]) rfl ?_
                          refine va_mmin hx hb (by rw [hml]; exact hl.1.symm) hown (hts (.methodLink RX6 131 Lib.Math.min.name) (by decide +kernel)) (hts (.static Lib.Math.min.name) (by decide +kernel)) (hts (.initialized "java/lang/Math") (by decide +kernel)) (hts (.code Lib.Math.min.name Lib.Math.min.code 2 (some .int)) (by decide +kernel)) (Nat.le_of_ble_eq_true rfl) (Nat.le_of_ble_eq_true rfl) (by show (1 + n1) + 1 ≤ 12; omega) (by show (3 + 3 * n1) + 3 ≤ 36; omega) dX6_bears_173 ?_
                          refine W.eq (g2 := F0 m 176 ls [.int (mn (mx (mx (fa 1) (fa 0)) (fa 2)) (mx 0 (sndP ((σ 3)) ((σ 4)) (nI (3 * (f0 + (n1 + 1)) + 1))))), .int 1, .ref q_19]) rfl ?_
                          refine va_iast hx hb hK.1 hP hD hS 14 0 rfl rfl (by unfold vp_in; decide) dX6_bears_176 (fun H locs hP hD hS => ?_)
                          have hP : va_P D vwCl ((wOutE b d d2 cI 0 (ω 19 0) (ω 1) (ω 2) (ω 14) (ω 15) ++ (wSta d (b 0) cI σ ++ wSta d2 (b 0) cI σ2)) ++ [(qa, .inl (cI, 3, .inl fa)), (q_19, .inl (cI, 3, .inl (upd (upd (fun _ => 0) 0 (mn (mx (fa 0) (fa 1)) (mx 0 (sndP ((σ 3)) ((σ 4)) (nI (3 * (f0 + (n1 + 1)) + 0)))))) 1 (mn (mx (mx (fa 1) (fa 0)) (fa 2)) (mx 0 (sndP ((σ 3)) ((σ 4)) (nI (3 * (f0 + (n1 + 1)) + 1))))))))]) H := hP
                          have hD : va_D A ((wOutE b d d2 cI 0 (ω 19 0) (ω 1) (ω 2) (ω 14) (ω 15) ++ (wSta d (b 0) cI σ ++ wSta d2 (b 0) cI σ2)) ++ [(qa, .inl (cI, 3, .inl fa)), (q_19, .inl (cI, 3, .inl (upd (upd (fun _ => 0) 0 (mn (mx (fa 0) (fa 1)) (mx 0 (sndP ((σ 3)) ((σ 4)) (nI (3 * (f0 + (n1 + 1)) + 0)))))) 1 (mn (mx (mx (fa 1) (fa 0)) (fa 2)) (mx 0 (sndP ((σ 3)) ((σ 4)) (nI (3 * (f0 + (n1 + 1)) + 1))))))))]) := hD
                          refine lv_iinc (v := 2) (lv' := [(7, .int 2), (8, .int (mx (mx (fa 1) (fa 0)) (fa 2))), (4, .ref q_19), (6, .ref qa), (0, .ref (b 0)), (2, .int (nI t0)), (3, .int 1), (5, .int (nI (f0 + n1)))]) hx hb dX6_bears_177 hl (k := 1) rfl (by decide) (by decide) rfl (fun ls hl => ?_)
                          refine lv_goto (tgt := 102) hx hb dX6_bears_180 (by decide) ?_
                          refine lv_iload hx hb dX6_bears_102 (lv_at hl 0 rfl) ?_
                          refine lv_iconst (v := 3) hx hb dX6_bears_104 (by decide) ?_
                          refine lv_icmp_ge (tgt := 183) hx hb dX6_bears_105 (by decide) (fun c_26 => ?_) (fun c_26 => ?_)
                          · skip
                            exact absurd c_26 (by decide)
                          · skip
                            refine lv_aload hx hb dX6_bears_108 (lv_at hl 3 rfl) ?_
                            refine lv_iload hx hb dX6_bears_110 (lv_at hl 0 rfl) ?_
                            refine va_iald hx hb hK.1 hP 13 0 rfl rfl (by unfold vp_in; decide) dX6_bears_112 ?_
                            refine W.eq (g2 := F0 m 113 ls [.int (fa 2)]) rfl ?_
                            refine lv_istore (lv' := [(8, .int (fa 2)), (7, .int 2), (4, .ref q_19), (6, .ref qa), (0, .ref (b 0)), (2, .int (nI t0)), (3, .int 1), (5, .int (nI (f0 + n1)))]) hx hb dX6_bears_113 hl (by decide) rfl (fun ls hl => ?_)
                            refine lv_iload hx hb dX6_bears_115 (lv_at hl 1 rfl) ?_
                            refine lv_if_le (tgt := 134) hx hb dX6_bears_117 (by decide) (fun c_27 => ?_) (fun c_27 => ?_)
                            · skip
                              exact absurd c_27 (by decide)
                            · skip
                              refine lv_iload hx hb dX6_bears_120 (lv_at hl 0 rfl) ?_
                              refine lv_aload hx hb dX6_bears_122 (lv_at hl 3 rfl) ?_
                              refine lv_iload hx hb dX6_bears_124 (lv_at hl 1 rfl) ?_
                              refine lv_iconst (v := 1) hx hb dX6_bears_126 (by decide) ?_
                              refine lv_isub hx hb dX6_bears_127 ?_
                              rw [show ((2 - 1 : Int32)) = 1 from by decide]
                              refine va_iald hx hb hK.1 hP 13 0 rfl rfl (by unfold vp_in; decide) dX6_bears_128 ?_
                              refine W.eq (g2 := F0 m 129 ls [.int (fa 1), .int (fa 2)]) rfl ?_
                              refine va_mmax hx hb (by rw [hml]; exact hl.1.symm) hown (hts (.methodLink RX6 69 Lib.Math.max.name) (by decide +kernel)) (hts (.static Lib.Math.max.name) (by decide +kernel)) (hts (.initialized "java/lang/Math") (by decide +kernel)) (hts (.code Lib.Math.max.name Lib.Math.max.code 2 (some .int)) (by decide +kernel)) (Nat.le_of_ble_eq_true rfl) (Nat.le_of_ble_eq_true rfl) (by show (1 + n1) + 1 ≤ 12; omega) (by show (3 + 3 * n1) + 3 ≤ 36; omega) dX6_bears_129 ?_
                              refine W.eq (g2 := F0 m 132 ls [.int (mx (fa 2) (fa 1))]) rfl ?_
                              refine lv_istore (lv' := [(8, .int (mx (fa 2) (fa 1))), (7, .int 2), (4, .ref q_19), (6, .ref qa), (0, .ref (b 0)), (2, .int (nI t0)), (3, .int 1), (5, .int (nI (f0 + n1)))]) hx hb dX6_bears_132 hl (by decide) rfl (fun ls hl => ?_)
                              refine lv_iload hx hb dX6_bears_134 (lv_at hl 1 rfl) ?_
                              refine lv_iconst (v := 2) hx hb dX6_bears_136 (by decide) ?_
                              refine lv_icmp_ge (tgt := 154) hx hb dX6_bears_137 (by decide) (fun c_28 => ?_) (fun c_28 => ?_)
                              · skip
                                refine lv_aload hx hb dX6_bears_154 (lv_at hl 2 rfl) ?_
                                refine lv_iload hx hb dX6_bears_156 (lv_at hl 1 rfl) ?_
                                refine lv_iload hx hb dX6_bears_158 (lv_at hl 0 rfl) ?_
                                refine lv_aload_n hx hb dX6_bears_160 rfl (lv_at hl 4 rfl) ?_
                                refine lv_iconst (v := 3) hx hb dX6_bears_161 (by decide) ?_
                                refine lv_iload hx hb dX6_bears_162 (lv_at hl 7 rfl) ?_
                                refine lv_iload_n hx hb dX6_bears_164 rfl (lv_at hl 6 rfl) ?_
                                refine lv_iadd hx hb dX6_bears_165 ?_
                                rw [show nI (f0 + n1) + 1 = nI (f0 + (n1 + 1)) from nI_1 _]
                                refine lv_imul hx hb dX6_bears_166 ?_
                                refine lv_iload hx hb dX6_bears_167 (lv_at hl 1 rfl) ?_
                                refine lv_iadd hx hb dX6_bears_169 ?_
                                rw [show 3 * nI (f0 + (n1 + 1)) + 2 = nI (3 * (f0 + (n1 + 1)) + 2) from pl_nI2 _ 2]
                                refine rd_i (va_runV (As := [.int (nI (3 * (f0 + (n1 + 1)) + 2))]) (rest := [.int (mx (fa 2) (fa 1)), .int 2, .ref q_19]) ⟨hx, hb, hml, hown, hts⟩ (M_X6_borne l D cI b d d2 σ σ2 (put ω 20 (fun _ => 0)) (3 * (f0 + (n1 + 1)) + 2) (by omega)) (cwV 1 hts gX6_bears_X6_borne rfl rfl rfl (by decide +kernel) ⟨Nat.le_of_ble_eq_true rfl, Nat.le_of_ble_eq_true rfl⟩) (rdV hK hP [0, 1, 2, 3, 4, 5, 6, 7, 8, 9, 10, 11, 12] [0] rfl rfl (ci := 6) (q0 := 0) rfl rfl) rfl rfl hl.1 rfl (lv_room (Nat.le_of_ble_eq_true rfl)) dX6_bears_170 ⟨(by show (1 + n1) + 1 + 0 ≤ 12; omega), (by show (3 + 3 * n1) + 3 + 0 ≤ 36; omega)⟩) ?_
                                refine W.eq (g2 := F0 m 173 ls [.int (mx 0 (sndP ((σ 3)) ((σ 4)) (nI (3 * (f0 + (n1 + 1)) + 2)))), .int (mx (fa 2) (fa 1)), .int 2, .ref q_19]) rfl ?_
                                refine va_mmin hx hb (by rw [hml]; exact hl.1.symm) hown (hts (.methodLink RX6 131 Lib.Math.min.name) (by decide +kernel)) (hts (.static Lib.Math.min.name) (by decide +kernel)) (hts (.initialized "java/lang/Math") (by decide +kernel)) (hts (.code Lib.Math.min.name Lib.Math.min.code 2 (some .int)) (by decide +kernel)) (Nat.le_of_ble_eq_true rfl) (Nat.le_of_ble_eq_true rfl) (by show (1 + n1) + 1 ≤ 12; omega) (by show (3 + 3 * n1) + 3 ≤ 36; omega) dX6_bears_173 ?_
                                refine W.eq (g2 := F0 m 176 ls [.int (mn (mx (fa 2) (fa 1)) (mx 0 (sndP ((σ 3)) ((σ 4)) (nI (3 * (f0 + (n1 + 1)) + 2))))), .int 2, .ref q_19]) rfl ?_
                                refine va_iast hx hb hK.1 hP hD hS 14 0 rfl rfl (by unfold vp_in; decide) dX6_bears_176 (fun H locs hP hD hS => ?_)
                                have hP : va_P D vwCl ((wOutE b d d2 cI 0 (ω 19 0) (ω 1) (ω 2) (ω 14) (ω 15) ++ (wSta d (b 0) cI σ ++ wSta d2 (b 0) cI σ2)) ++ [(qa, .inl (cI, 3, .inl fa)), (q_19, .inl (cI, 3, .inl (upd (upd (upd (fun _ => 0) 0 (mn (mx (fa 0) (fa 1)) (mx 0 (sndP ((σ 3)) ((σ 4)) (nI (3 * (f0 + (n1 + 1)) + 0)))))) 1 (mn (mx (mx (fa 1) (fa 0)) (fa 2)) (mx 0 (sndP ((σ 3)) ((σ 4)) (nI (3 * (f0 + (n1 + 1)) + 1)))))) 2 (mn (mx (fa 2) (fa 1)) (mx 0 (sndP ((σ 3)) ((σ 4)) (nI (3 * (f0 + (n1 + 1)) + 2))))))))]) H := hP
                                have hD : va_D A ((wOutE b d d2 cI 0 (ω 19 0) (ω 1) (ω 2) (ω 14) (ω 15) ++ (wSta d (b 0) cI σ ++ wSta d2 (b 0) cI σ2)) ++ [(qa, .inl (cI, 3, .inl fa)), (q_19, .inl (cI, 3, .inl (upd (upd (upd (fun _ => 0) 0 (mn (mx (fa 0) (fa 1)) (mx 0 (sndP ((σ 3)) ((σ 4)) (nI (3 * (f0 + (n1 + 1)) + 0)))))) 1 (mn (mx (mx (fa 1) (fa 0)) (fa 2)) (mx 0 (sndP ((σ 3)) ((σ 4)) (nI (3 * (f0 + (n1 + 1)) + 1)))))) 2 (mn (mx (fa 2) (fa 1)) (mx 0 (sndP ((σ 3)) ((σ 4)) (nI (3 * (f0 + (n1 + 1)) + 2))))))))]) := hD
                                refine lv_iinc (v := 3) (lv' := [(7, .int 3), (8, .int (mx (fa 2) (fa 1))), (4, .ref q_19), (6, .ref qa), (0, .ref (b 0)), (2, .int (nI t0)), (3, .int 1), (5, .int (nI (f0 + n1)))]) hx hb dX6_bears_177 hl (k := 1) rfl (by decide) (by decide) rfl (fun ls hl => ?_)
                                refine lv_goto (tgt := 102) hx hb dX6_bears_180 (by decide) ?_
                                refine lv_iload hx hb dX6_bears_102 (lv_at hl 0 rfl) ?_
                                refine lv_iconst (v := 3) hx hb dX6_bears_104 (by decide) ?_
                                refine lv_icmp_ge (tgt := 183) hx hb dX6_bears_105 (by decide) (fun c_29 => ?_) (fun c_29 => ?_)
                                · skip
                                  refine lv_iload hx hb dX6_bears_183 (lv_at hl 7 rfl) ?_
                                  refine lv_iload_n hx hb dX6_bears_185 rfl (lv_at hl 6 rfl) ?_
                                  refine lv_iadd hx hb dX6_bears_186 ?_
                                  rw [show nI (f0 + n1) + 1 = nI (f0 + (n1 + 1)) from nI_1 _]
                                  refine lv_istore (lv' := [(5, .int (nI (f0 + (n1 + 1)))), (7, .int 3), (8, .int (mx (fa 2) (fa 1))), (4, .ref q_19), (6, .ref qa), (0, .ref (b 0)), (2, .int (nI t0)), (3, .int 1)]) hx hb dX6_bears_187 hl (by decide) rfl (fun ls hl => ?_)
                                  refine lv_goto (tgt := 84) hx hb dX6_bears_189 (by decide) ?_
                                  have hP := hP.sub (ws' := (wOutE b d d2 cI 0 (ω 19 0) (ω 1) (ω 2) (ω 14) (ω 15) ++ (wSta d (b 0) cI σ ++ wSta d2 (b 0) cI σ2)) ++ [(q_19, .inl (cI, 3, .inl (upd (upd (upd (fun _ => 0) 0 (mn (mx (fa 0) (fa 1)) (mx 0 (sndP ((σ 3)) ((σ 4)) (nI (3 * (f0 + (n1 + 1)) + 0)))))) 1 (mn (mx (mx (fa 1) (fa 0)) (fa 2)) (mx 0 (sndP ((σ 3)) ((σ 4)) (nI (3 * (f0 + (n1 + 1)) + 1)))))) 2 (mn (mx (fa 2) (fa 1)) (mx 0 (sndP ((σ 3)) ((σ 4)) (nI (3 * (f0 + (n1 + 1)) + 2))))))))]) [0, 1, 2, 3, 4, 5, 6, 7, 8, 9, 10, 11, 12, 14] rfl
                                  have hD := hD.sub (ws' := (wOutE b d d2 cI 0 (ω 19 0) (ω 1) (ω 2) (ω 14) (ω 15) ++ (wSta d (b 0) cI σ ++ wSta d2 (b 0) cI σ2)) ++ [(q_19, .inl (cI, 3, .inl (upd (upd (upd (fun _ => 0) 0 (mn (mx (fa 0) (fa 1)) (mx 0 (sndP ((σ 3)) ((σ 4)) (nI (3 * (f0 + (n1 + 1)) + 0)))))) 1 (mn (mx (mx (fa 1) (fa 0)) (fa 2)) (mx 0 (sndP ((σ 3)) ((σ 4)) (nI (3 * (f0 + (n1 + 1)) + 1)))))) 2 (mn (mx (fa 2) (fa 1)) (mx 0 (sndP ((σ 3)) ((σ 4)) (nI (3 * (f0 + (n1 + 1)) + 2))))))))]) [0, 1, 2, 3, 4, 5, 6, 7, 8, 9, 10, 11, 12, 14] (by decide) rfl
                                  exact ih84 (n1 + 1) _ _ (by omega) ⟨by omega, (by refine md_step ?_; show _ = mdS (σ 3) (σ 4) (f0 + n1 + 1) (md (σ 3) (σ 4) f0 n1); rw [← hv]; exact md_tup)⟩ _ _ hP hD hS ls (lv_sub hl [5, 6, 7, 3, 0] rfl)
                                · skip
                                  exact absurd c_29 (by decide)
                              · skip
                                exact absurd c_28 (by decide)
                · skip
                  exact absurd c_21 (by decide)
        exact loop84 13 0 _ (upd (upd (upd (fun _ => 0) 0 (mx 0 (sndP ((σ 3)) ((σ 4)) (nI (3 * f0))))) 1 (mx 0 (sndP ((σ 3)) ((σ 4)) (nI (3 * f0 + 1))))) 2 (mx 0 (sndP ((σ 3)) ((σ 4)) (nI (3 * f0 + 2))))) (by omega) ⟨by omega, md_step rfl⟩ _ _ hP hD hS ls (lv_sub hl [3, 5, 2, 1, 0] rfl)
    · skip
      have c_2 : ¬ (0 ≤ (nI t0) ∧ (nI t0) ≤ 11) := bI_z.mp c_2
      first | exact absurd c_2 (by assumption) | exact absurd (by assumption) c_2
