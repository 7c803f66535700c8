set_option maxHeartbeats 4000000 in
set_option maxRecDepth 100000 in
theorem M_X2_hoursTillArrival (l : Launch) (D : va_G) (cI : ClassId) (a : Nat → Nat) (σ : St) (cu : Nat) (h : Nat) (nc : Nat) (sz : Nat) (hok : okR σ h nc) (hbd : h < 2 ^ 29) (hcu : cu < nc) : Met l yX2_hoursTillArrival wsX2_hoursTillArrival ({ frames := 6, cells := 0, slots := 0, locals := 141 } : Room) (wrPc [.ref (a 0), .int (nI cu)] D (wRiv a cI σ) [(cI, .int)] sz) (wrQi (arrR σ cu) D (wRiv a cI (arrE σ cu)) (va_A (wRiv a cI σ) sz)) 0 0 (va_A (wRiv a cI σ) sz) := by
  refine Met.ofW (cc := cX2_hoursTillArrival) (maxL := 3) (ret := (some .int)) (by decide) rfl ?_
  intro p e s m args below meth c s₁ B hml hv
  obtain ⟨hargs, hsz, hP, hK, hD0⟩ := hv
  have hx := B.exec
  have hb := B.bytes
  have hr := B.returns
  have hts := atoms_spec (ws := wsX2_hoursTillArrival) B.pre
  have hown : s.vm.findClass RX2 = some m.cls := findClass_of_methodNamed B.named
  have hlocks := B.notSynchronized
  obtain ⟨_, hN⟩ := id hK
  have hiX0 : ∀ w ∈ wsX00, w ∈ wsX2_hoursTillArrival := by decide +kernel
  have hiX2 : ∀ w ∈ wsX20, w ∈ wsX2_hoursTillArrival := by decide +kernel
  subst hsz
  have hD := hD0.self (sz := s.heap.size)
  generalize hAe : va_A (wRiv a cI σ) s.heap.size = A at hD ⊢
  have hA : ∀ q : Nat, s.heap.size ≤ q → A q := fun q h => by rw [← hAe]; exact Or.inr h
  have hS : va_S A s.heap s.heap [] := va_S.rf
  have hP : va_P D vwCl (wRiv a cI σ) s.heap := hP
  refine my_abs (fun Q hQ => ?_)
  obtain ⟨ls, hl, hent⟩ := my_entry (m := m) (n := 3) hargs (Nat.le_of_ble_eq_true rfl)
  rw [hent]
  have hl : lv_has ls 3 [(0, .ref (a 0)), (1, .int (nI cu))] := hl
  show W p l e ({ frames := 6, cells := 0, slots := 0, locals := 141 } : Room) s m args below meth c s.heap [] 0 0 Q (F0 m 0 ls [])
  have hcu8 : cu < 8 := Nat.lt_of_lt_of_le hcu hok.2.2.1
  refine lv_aload_n hx hb dX2_hoursTillArrival_0 rfl (lv_at hl 0 rfl) ?_
  refine va_get (D := D) (ci := 2) (v := .ref (a 6)) (C := RX2) (T := TX2) (N := 6) hx hb hts hiX2 hown hK.1 hP 0 rfl rfl 5 (by decide) (hts (.fieldLink RX2 32 "IceLanes$River" "couriers" "LIceLanes$Couriers;") (by decide +kernel)) (fun _ h9 => h9) rfl dX2_hoursTillArrival_1 ?_
  refine va_getN (D := D) (ci := 0) (v := .ref (a 13)) (C := RX0) (T := TX0) (N := 10) hx hb hts hiX0 hown hK.1 hP 6 rfl rfl 7 (by decide) (va_Nw.use rfl (nX2_92 hN)) (fun _ h9 => h9) rfl dX2_hoursTillArrival_4 ?_
  refine lv_iload_n hx hb dX2_hoursTillArrival_7 rfl (lv_at hl 1 rfl) ?_
  refine va_iald hx hb hK.1 hP 13 0 rfl rfl (by first | assumption | exact vp_in_nI (by omega) (by decide)) dX2_hoursTillArrival_8 ?_
  rw [nI_clamp (n := cu) (by omega)]
  refine lv_iconst (v := 3) hx hb dX2_hoursTillArrival_9 (by decide) ?_
  refine lv_icmp_ne (tgt := 15) hx hb dX2_hoursTillArrival_10 (by decide) (fun c_1 => ?_) (fun c_1 => ?_)
  · skip
    refine lv_aload_n hx hb dX2_hoursTillArrival_15 rfl (lv_at hl 0 rfl) ?_
    refine va_get (D := D) (ci := 2) (v := .ref (a 6)) (C := RX2) (T := TX2) (N := 6) hx hb hts hiX2 hown hK.1 hP 0 rfl rfl 5 (by decide) (hts (.fieldLink RX2 32 "IceLanes$River" "couriers" "LIceLanes$Couriers;") (by decide +kernel)) (fun _ h9 => h9) rfl dX2_hoursTillArrival_16 ?_
    refine lv_iload_n hx hb dX2_hoursTillArrival_19 rfl (lv_at hl 1 rfl) ?_
    refine rd_i (va_runVN (As := [.int (nI cu)]) (rest := []) ⟨hx, hb, hml, hown, hts⟩ (M_X0_isAtGoal l D cI a σ cu (by first | assumption | omega)) ⟨va_cnB 1 hts gX2_hoursTillArrival_X0_isAtGoal_n124 rfl rfl rfl (nX2_124 hN) (hts (.initialized RX0) (by decide +kernel)) (by decide +kernel) ⟨Nat.le_of_ble_eq_true rfl, Nat.le_of_ble_eq_true rfl⟩, hts (.instanceMethod yX0_isAtGoal) (by decide +kernel), hts (.selects RX0 yX0_isAtGoal yX0_isAtGoal) (by decide +kernel)⟩ (rdV hK hP [6, 7, 8, 9, 10, 11, 12, 13, 14, 15] [0] rfl rfl (ci := 0) (q0 := 6) rfl rfl) rfl rfl hl.1 rfl (lv_room (Nat.le_of_ble_eq_true rfl)) dX2_hoursTillArrival_20 ⟨Nat.zero_le _, Nat.zero_le _⟩) ?_
    refine lv_if_eq (tgt := 28) hx hb dX2_hoursTillArrival_23 (by decide) (fun c_2 => ?_) (fun c_2 => ?_)
    · skip
      have c_2 : ¬ ((σ 8) cu = (σ 10) cu) := bI_z.mp c_2
      have hR : arrR σ cu = tilR cu 150 1 σ := by unfold arrR; rw [if_neg (by assumption), if_neg (by assumption)]
      have hE : arrE σ cu = tilE cu 150 σ := by unfold arrE; rw [if_neg (by assumption), if_neg (by assumption)]
      refine lv_iconst (v := 1) hx hb dX2_hoursTillArrival_28 (by decide) ?_
      refine lv_istore_n (lv' := [(2, .int 1), (0, .ref (a 0)), (1, .int (nI cu))]) hx hb dX2_hoursTillArrival_29 rfl hl (by decide) rfl (fun ls hl => ?_)
      have loop30 : ∀ (n : Nat) (k : Nat) (τ : St), 152 - k < n → (1 ≤ k ∧ k ≤ 151 ∧ okR τ (h + k - 1) nc ∧ tilR cu (151 - k) k τ = tilR cu 150 1 σ ∧ tilE cu (151 - k) τ = tilE cu 150 σ) → ∀ (H : Heap) (locs : List Loc), va_P D vwCl (wRiv a cI τ) H → va_D A (wRiv a cI τ) → va_S A s.heap H locs → ∀ (ls : Array Slot), lv_has ls 3 [(0, .ref (a 0)), (1, .int (nI cu)), (2, .int (nI k))] → W p l e ({ frames := 6, cells := 0, slots := 0, locals := 141 } : Room) s m args below meth c H locs 0 0 Q (F0 m 30 ls []) := by
        intro n
        induction n with
        | zero => intro k  τ  hf; exact absurd hf (Nat.not_lt_zero _)
        | succ n ih30 =>
          intro k  τ  hf ⟨hk1, hk, hokτ, hr9, he⟩ H locs hP hD hS ls hl
          refine lv_iload_n hx hb dX2_hoursTillArrival_30 rfl (lv_at hl 2 rfl) ?_
          refine lv_sipush (v := 150) hx hb dX2_hoursTillArrival_31 (by decide) ?_
          refine lv_icmp_gt (tgt := 78) hx hb dX2_hoursTillArrival_34 (by decide) (fun c_3 => ?_) (fun c_3 => ?_)
          · skip
            have hk2 : 150 < k := lp_gt (N := 150) (k := k) c_3 (by omega) (by omega)
            refine lv_iconst (v := (-1)) hx hb dX2_hoursTillArrival_78 (by decide) ?_
            subst hQ
            have hst_s : τ = arrE σ cu := (by rw [hE, ← he, show 151 - k = 0 by omega]; rfl)
            rw [hst_s] at hP hD
            exact ret_wri hx hb hr rfl hlocks hP hD hS (show (-1) = arrR σ cu from (by rw [hR, ← hr9, show 151 - k = 0 by omega]; rfl)) dX2_hoursTillArrival_79
          · skip
            have hk2 : k ≤ 150 := lp_ngt (N := 150) (k := k) c_3 (by omega) (by omega)
            refine lv_aload_n hx hb dX2_hoursTillArrival_37 rfl (lv_at hl 0 rfl) ?_
            refine wr_i (wn := wRiv a cI (hourF τ)) (va_runV (As := []) (rest := []) ⟨hx, hb, hml, hown, hts⟩ (M_X2_spendHour l D cI a τ (h + k - 1) nc _ hokτ (by omega)) (cwV 0 hts gX2_hoursTillArrival_X2_spendHour rfl rfl rfl (by decide +kernel) ⟨Nat.le_of_ble_eq_true rfl, Nat.le_of_ble_eq_true rfl⟩) (wrV hK hP hD [0, 1, 2, 3, 4, 5, 6, 7, 8, 9, 10, 11, 12, 13, 14, 15] [0] rfl rfl rfl (ci := 2) (q0 := 0) rfl rfl) rfl rfl hl.1 rfl (lv_room (Nat.le_of_ble_eq_true rfl)) dX2_hoursTillArrival_38 ⟨Nat.le_of_ble_eq_true rfl, Nat.le_of_ble_eq_true rfl⟩) hP hD hS hA [0, 1, 2, 3, 4, 5, 6, 7, 8, 9, 10, 11, 12, 13, 14, 15] [] [0, 1, 2, 3, 4, 5, 6, 7, 8, 9, 10, 11, 12, 13, 14, 15] rfl rfl rfl rfl rfl rfl (fun H locs hP hD hS => ?_)
            generalize eσ_4 : hourF τ = σ_4 at hP hD
            refine lv_pop hx hb dX2_hoursTillArrival_41 rfl ?_
            refine lv_aload_n hx hb dX2_hoursTillArrival_42 rfl (lv_at hl 0 rfl) ?_
            refine va_get (D := D) (ci := 2) (v := .ref (a 6)) (C := RX2) (T := TX2) (N := 6) hx hb hts hiX2 hown hK.1 hP 0 rfl rfl 5 (by decide) (hts (.fieldLink RX2 32 "IceLanes$River" "couriers" "LIceLanes$Couriers;") (by decide +kernel)) (fun _ h9 => h9) rfl dX2_hoursTillArrival_43 ?_
            refine va_getN (D := D) (ci := 0) (v := .ref (a 13)) (C := RX0) (T := TX0) (N := 10) hx hb hts hiX0 hown hK.1 hP 6 rfl rfl 7 (by decide) (va_Nw.use rfl (nX2_92 hN)) (fun _ h9 => h9) rfl dX2_hoursTillArrival_46 ?_
            refine lv_iload_n hx hb dX2_hoursTillArrival_49 rfl (lv_at hl 1 rfl) ?_
            refine va_iald hx hb hK.1 hP 13 0 rfl rfl (by first | assumption | exact vp_in_nI (by omega) (by decide)) dX2_hoursTillArrival_50 ?_
            rw [nI_clamp (n := cu) (by omega)]
            refine lv_iconst (v := 2) hx hb dX2_hoursTillArrival_51 (by decide) ?_
            refine lv_icmp_ne (tgt := 57) hx hb dX2_hoursTillArrival_52 (by decide) (fun c_5 => ?_) (fun c_5 => ?_)
            · skip
              rw [← eσ_4] at c_5
              refine lv_aload_n hx hb dX2_hoursTillArrival_57 rfl (lv_at hl 0 rfl) ?_
              refine va_get (D := D) (ci := 2) (v := .ref (a 6)) (C := RX2) (T := TX2) (N := 6) hx hb hts hiX2 hown hK.1 hP 0 rfl rfl 5 (by decide) (hts (.fieldLink RX2 32 "IceLanes$River" "couriers" "LIceLanes$Couriers;") (by decide +kernel)) (fun _ h9 => h9) rfl dX2_hoursTillArrival_58 ?_
              refine va_getN (D := D) (ci := 0) (v := .ref (a 13)) (C := RX0) (T := TX0) (N := 10) hx hb hts hiX0 hown hK.1 hP 6 rfl rfl 7 (by decide) (va_Nw.use rfl (nX2_92 hN)) (fun _ h9 => h9) rfl dX2_hoursTillArrival_61 ?_
              refine lv_iload_n hx hb dX2_hoursTillArrival_64 rfl (lv_at hl 1 rfl) ?_
              refine va_iald hx hb hK.1 hP 13 0 rfl rfl (by first | assumption | exact vp_in_nI (by omega) (by decide)) dX2_hoursTillArrival_65 ?_
              rw [nI_clamp (n := cu) (by omega)]
              refine lv_iconst (v := 3) hx hb dX2_hoursTillArrival_66 (by decide) ?_
              refine lv_icmp_ne (tgt := 72) hx hb dX2_hoursTillArrival_67 (by decide) (fun c_6 => ?_) (fun c_6 => ?_)
              · skip
                rw [← eσ_4] at c_6
                refine lv_iinc (v := nI (k + 1)) (lv' := [(2, .int (nI (k + 1))), (0, .ref (a 0)), (1, .int (nI cu))]) hx hb dX2_hoursTillArrival_72 hl (k := 2) rfl (nI_1 k) (by decide) rfl (fun ls hl => ?_)
                refine lv_goto (tgt := 30) hx hb dX2_hoursTillArrival_75 (by decide) ?_
                exact ih30 (k + 1) σ_4 (by omega) ⟨by omega, by omega, (by rw [← eσ_4, show h + (k + 1) - 1 = (h + k - 1) + 1 by omega]; exact okR_hour hokτ (by omega)), (by rw [← eσ_4, ← hr9, show 151 - (k + 1) = 150 - k by omega, show 151 - k = (150 - k) + 1 by omega, tilR_s (by assumption) (by assumption)]), (by rw [← eσ_4, ← he, show 151 - (k + 1) = 150 - k by omega, show 151 - k = (150 - k) + 1 by omega, tilE_s (by assumption) (by assumption)])⟩ _ _ hP hD hS ls (lv_sub hl [1, 2, 0] rfl)
              · skip
                rw [← eσ_4] at c_6
                refine lv_iconst (v := (-1)) hx hb dX2_hoursTillArrival_70 (by decide) ?_
                subst hQ
                have hst_s : σ_4 = arrE σ cu := (by rw [← eσ_4, hE, ← he, show 151 - k = (150 - k) + 1 by omega, tilE_2 (Or.inr (by assumption))])
                rw [hst_s] at hP hD
                exact ret_wri hx hb hr rfl hlocks hP hD hS (show (-1) = arrR σ cu from (by rw [hR, ← hr9, show 151 - k = (150 - k) + 1 by omega, tilR_3 (by assumption)])) dX2_hoursTillArrival_71
            · skip
              rw [← eσ_4] at c_5
              refine lv_iload_n hx hb dX2_hoursTillArrival_55 rfl (lv_at hl 2 rfl) ?_
              subst hQ
              have hst_s : σ_4 = arrE σ cu := (by rw [← eσ_4, hE, ← he, show 151 - k = (150 - k) + 1 by omega, tilE_2 (Or.inl (by assumption))])
              rw [hst_s] at hP hD
              exact ret_wri hx hb hr rfl hlocks hP hD hS (show nI k = arrR σ cu from (by rw [hR, ← hr9, show 151 - k = (150 - k) + 1 by omega, tilR_2 (by assumption)])) dX2_hoursTillArrival_56
      exact loop30 153 1 σ (by omega) ⟨by omega, by omega, hok, rfl, rfl⟩ _ _ hP hD hS ls (lv_sub hl [1, 2, 0] rfl)
    · skip
      have c_2 : ((σ 8) cu = (σ 10) cu) := bI_nz.mp c_2
      refine lv_iconst (v := 0) hx hb dX2_hoursTillArrival_26 (by decide) ?_
      subst hQ
      have hst_s : σ = arrE σ cu := (by unfold arrE; rw [if_neg (by assumption), if_pos (by assumption)])
      rw [hst_s] at hP hD
      exact ret_wri hx hb hr rfl hlocks hP hD hS (show 0 = arrR σ cu from (by unfold arrR; rw [if_neg (by assumption), if_pos (by assumption)])) dX2_hoursTillArrival_27
  · skip
    refine lv_iconst (v := (-1)) hx hb dX2_hoursTillArrival_13 (by decide) ?_
    subst hQ
    have hst_s : σ = arrE σ cu := (if_pos (by assumption)).symm
    rw [hst_s] at hP hD
    exact ret_wri hx hb hr rfl hlocks hP hD hS (show (-1) = arrR σ cu from (if_pos (by assumption)).symm) dX2_hoursTillArrival_14
set_option maxHeartbeats 4000000 in
set_option maxRecDepth 100000 in
theorem M_X2_dayOfThaw (l : Launch) (D : va_G) (cI : ClassId) (a : Nat → Nat) (σ : St) (h : Nat) (nc : Nat) (sz : Nat) (hok : okR σ h nc) (hbd : h < 2 ^ 29) : Met l yX2_dayOfThaw wsX2_dayOfThaw ({ frames := 6, cells := 0, slots := 0, locals := 141 } : Room) (wrPc [.ref (a 0)] D (wRiv a cI σ) [(cI, .int)] sz) (wrQi (thS 720 σ 16 0) D (wRiv a cI (thS 720 σ)) (va_A (wRiv a cI σ) sz)) 0 0 (va_A (wRiv a cI σ) sz) := by
  refine Met.ofW (cc := cX2_dayOfThaw) (maxL := 2) (ret := (some .int)) (by decide) rfl ?_
  intro p e s m args below meth c s₁ B hml hv
  obtain ⟨hargs, hsz, hP, hK, hD0⟩ := hv
  have hx := B.exec
  have hb := B.bytes
  have hr := B.returns
  have hts := atoms_spec (ws := wsX2_dayOfThaw) B.pre
  have hown : s.vm.findClass RX2 = some m.cls := findClass_of_methodNamed B.named
  have hlocks := B.notSynchronized
  obtain ⟨_, hN⟩ := id hK
  have hiX2 : ∀ w ∈ wsX20, w ∈ wsX2_dayOfThaw := by decide +kernel
  subst hsz
  have hD := hD0.self (sz := s.heap.size)
  generalize hAe : va_A (wRiv a cI σ) s.heap.size = A at hD ⊢
  have hA : ∀ q : Nat, s.heap.size ≤ q → A q := fun q h => by rw [← hAe]; exact Or.inr h
  have hS : va_S A s.heap s.heap [] := va_S.rf
  have hP : va_P D vwCl (wRiv a cI σ) s.heap := hP
  refine my_abs (fun Q hQ => ?_)
  obtain ⟨ls, hl, hent⟩ := my_entry (m := m) (n := 2) hargs (Nat.le_of_ble_eq_true rfl)
  rw [hent]
  have hl : lv_has ls 2 [(0, .ref (a 0))] := hl
  show W p l e ({ frames := 6, cells := 0, slots := 0, locals := 141 } : Room) s m args below meth c s.heap [] 0 0 Q (F0 m 0 ls [])
  refine lv_iconst (v := 0) hx hb dX2_dayOfThaw_0 (by decide) ?_
  refine lv_istore_n (lv' := [(1, .int 0), (0, .ref (a 0))]) hx hb dX2_dayOfThaw_1 rfl hl (by decide) rfl (fun ls hl => ?_)
  have loop2 : ∀ (n : Nat) (k : Nat) (τ : St), 721 - k < n → (k ≤ 720 ∧ okR τ (h + k) nc ∧ thS (720 - k) τ = thS 720 σ) → ∀ (H : Heap) (locs : List Loc), va_P D vwCl (wRiv a cI τ) H → va_D A (wRiv a cI τ) → va_S A s.heap H locs → ∀ (ls : Array Slot), lv_has ls 2 [(0, .ref (a 0)), (1, .int (nI k))] → W p l e ({ frames := 6, cells := 0, slots := 0, locals := 141 } : Room) s m args below meth c H locs 0 0 Q (F0 m 2 ls []) := by
    intro n
    induction n with
    | zero => intro k  τ  hf; exact absurd hf (Nat.not_lt_zero _)
    | succ n ih2 =>
      intro k  τ  hf ⟨hk, hokτ, he⟩ H locs hP hD hS ls hl
      refine lv_iload_n hx hb dX2_dayOfThaw_2 rfl (lv_at hl 1 rfl) ?_
      refine lv_sipush (v := 720) hx hb dX2_dayOfThaw_3 (by decide) ?_
      refine lv_icmp_ge (tgt := 27) hx hb dX2_dayOfThaw_6 (by decide) (fun c_1 => ?_) (fun c_1 => ?_)
      · skip
        have hk2 : 720 ≤ k := lp_ge (N := 720) (k := k) c_1 (by omega) (by omega)
        have hfin : τ = thS 720 σ := by rw [← he, show 720 - k = 0 by omega]; rfl
        refine lv_aload_n hx hb dX2_dayOfThaw_27 rfl (lv_at hl 0 rfl) ?_
        refine va_get (D := D) (ci := 2) (v := .int (τ 16 0)) (C := RX2) (T := TX2) (N := 6) hx hb hts hiX2 hown hK.1 hP 0 rfl rfl 1 (by decide) (hts (.fieldLink RX2 9 "IceLanes$River" "thawDay" "I") (by decide +kernel)) (fun _ h9 => h9) rfl dX2_dayOfThaw_28 ?_
        subst hQ
        have hst_s : τ = thS 720 σ := hfin
        rw [hst_s] at hP hD
        exact ret_wri hx hb hr rfl hlocks hP hD hS (show τ 16 0 = thS 720 σ 16 0 from (by rw [hfin])) dX2_dayOfThaw_31
      · skip
        have hk2 : k < 720 := lp_nge (N := 720) (k := k) c_1 (by omega) (by omega)
        refine lv_aload_n hx hb dX2_dayOfThaw_9 rfl (lv_at hl 0 rfl) ?_
        refine rd_i (va_runV (As := []) (rest := []) ⟨hx, hb, hml, hown, hts⟩ (M_X2_hasThawed l D cI a τ ) (cwV 0 hts gX2_dayOfThaw_X2_hasThawed rfl rfl rfl (by decide +kernel) ⟨Nat.le_of_ble_eq_true rfl, Nat.le_of_ble_eq_true rfl⟩) (rdV hK hP [0, 1, 2, 3, 4, 5, 6, 7, 8, 9, 10, 11, 12, 13, 14, 15] [0] rfl rfl (ci := 2) (q0 := 0) rfl rfl) rfl rfl hl.1 rfl (lv_room (Nat.le_of_ble_eq_true rfl)) dX2_dayOfThaw_10 ⟨Nat.zero_le _, Nat.zero_le _⟩) ?_
        refine lv_if_ne (tgt := 27) hx hb dX2_dayOfThaw_13 (by decide) (fun c_2 => ?_) (fun c_2 => ?_)
        · skip
          have c_2 : (¬ (τ 16 0) = -1) := bI_nz.mp c_2
          have hfin : τ = thS 720 σ := by rw [← he]; exact (thS_f c_2).symm
          refine lv_aload_n hx hb dX2_dayOfThaw_27 rfl (lv_at hl 0 rfl) ?_
          refine va_get (D := D) (ci := 2) (v := .int (τ 16 0)) (C := RX2) (T := TX2) (N := 6) hx hb hts hiX2 hown hK.1 hP 0 rfl rfl 1 (by decide) (hts (.fieldLink RX2 9 "IceLanes$River" "thawDay" "I") (by decide +kernel)) (fun _ h9 => h9) rfl dX2_dayOfThaw_28 ?_
          subst hQ
          have hst_s : τ = thS 720 σ := hfin
          rw [hst_s] at hP hD
          exact ret_wri hx hb hr rfl hlocks hP hD hS (show τ 16 0 = thS 720 σ 16 0 from (by rw [hfin])) dX2_dayOfThaw_31
        · skip
          have c_2 : ¬ (¬ (τ 16 0) = -1) := bI_z.mp c_2
          have c_2 := Decidable.not_not.mp c_2
          refine lv_aload_n hx hb dX2_dayOfThaw_16 rfl (lv_at hl 0 rfl) ?_
          refine wr_i (wn := wRiv a cI (hourF τ)) (va_runV (As := []) (rest := []) ⟨hx, hb, hml, hown, hts⟩ (M_X2_spendHour l D cI a τ (h + k) nc _ hokτ (by omega)) (cwV 0 hts gX2_dayOfThaw_X2_spendHour rfl rfl rfl (by decide +kernel) ⟨Nat.le_of_ble_eq_true rfl, Nat.le_of_ble_eq_true rfl⟩) (wrV hK hP hD [0, 1, 2, 3, 4, 5, 6, 7, 8, 9, 10, 11, 12, 13, 14, 15] [0] rfl rfl rfl (ci := 2) (q0 := 0) rfl rfl) rfl rfl hl.1 rfl (lv_room (Nat.le_of_ble_eq_true rfl)) dX2_dayOfThaw_17 ⟨Nat.le_of_ble_eq_true rfl, Nat.le_of_ble_eq_true rfl⟩) hP hD hS hA [0, 1, 2, 3, 4, 5, 6, 7, 8, 9, 10, 11, 12, 13, 14, 15] [] [0, 1, 2, 3, 4, 5, 6, 7, 8, 9, 10, 11, 12, 13, 14, 15] rfl rfl rfl rfl rfl rfl (fun H locs hP hD hS => ?_)
          generalize eσ_3 : hourF τ = σ_3 at hP hD
          refine lv_pop hx hb dX2_dayOfThaw_20 rfl ?_
          refine lv_iinc (v := nI (k + 1)) (lv' := [(1, .int (nI (k + 1))), (0, .ref (a 0))]) hx hb dX2_dayOfThaw_21 hl (k := 1) rfl (nI_1 k) (by decide) rfl (fun ls hl => ?_)
          refine lv_goto (tgt := 2) hx hb dX2_dayOfThaw_24 (by decide) ?_
          exact ih2 (k + 1) σ_3 (by omega) ⟨by omega, (by rw [← eσ_3, show h + (k + 1) = (h + k) + 1 by omega]; exact okR_hour hokτ (by omega)), (by rw [← eσ_3, ← he, show 720 - k = (720 - (k + 1)) + 1 by omega, thS_t (by assumption)])⟩ _ _ hP hD hS ls (lv_sub hl [1, 0] rfl)
  exact loop2 722 0 σ (by omega) ⟨by omega, hok, rfl⟩ _ _ hP hD hS ls (lv_sub hl [1, 0] rfl)
