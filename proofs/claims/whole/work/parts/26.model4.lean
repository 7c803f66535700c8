set_option maxHeartbeats 4000000 in
set_option maxRecDepth 100000 in
theorem M_X6_pass_e1 (l : Launch) (D : va_G) (cI : ClassId) (b : Nat → Nat) (d : Nat → Nat) (d2 : Nat → Nat) (σ : St) (σ2 : St) (ω : St) (p0 : Int32) (sz : Nat) (h1 : ¬ (1 ≤ p0 ∧ p0 ≤ 200)) : Met l yX6_pass wsX6_pass ({ frames := 1, cells := 0, slots := 0, locals := 22 } : Room) (wrPc [.ref (b 0), .int p0] D (wMod b d d2 cI σ σ2 ω) [(cI, .int)] sz) (wrQi 0 D (wMod b d d2 cI σ σ2 (put ω 20 (fun _ => 1))) (va_A (wMod b d d2 cI σ σ2 ω) sz)) 0 0 (va_A (wMod b d d2 cI σ σ2 ω) sz) := by
  refine Met.ofW (cc := cX6_pass) (maxL := 4) (ret := (some .int)) (by decide) rfl ?_
  intro p e s m args below meth c s₁ B hml hv
  obtain ⟨hargs, hsz, hP, hK, hD0⟩ := hv
  have hx := B.exec
  have hb := B.bytes
  have hr := B.returns
  have hts := atoms_spec (ws := wsX6_pass) B.pre
  have hown : s.vm.findClass RX6 = some m.cls := findClass_of_methodNamed B.named
  have hlocks := B.notSynchronized
  obtain ⟨_, hN⟩ := id hK
  have hiX6 : ∀ w ∈ wsX60, w ∈ wsX6_pass := by decide +kernel
  subst hsz
  have hD := hD0.self (sz := s.heap.size)
  generalize hAe : va_A (wMod b d d2 cI σ σ2 ω) s.heap.size = A at hD ⊢
  have hA : ∀ q : Nat, s.heap.size ≤ q → A q := fun q h => by rw [← hAe]; exact Or.inr h
  have hS : va_S A s.heap s.heap [] := va_S.rf
  have hP : va_P D vwCl (wMod b d d2 cI σ σ2 ω) s.heap := hP
  refine my_abs (fun Q hQ => ?_)
  obtain ⟨ls, hl, hent⟩ := my_entry (m := m) (n := 4) hargs (Nat.le_of_ble_eq_true rfl)
  rw [hent]
  have hl : lv_has ls 4 [(0, .ref (b 0)), (1, .int p0)] := hl
  show W p l e ({ frames := 1, cells := 0, slots := 0, locals := 22 } : Room) s m args below meth c s.heap [] 0 0 Q (F0 m 0 ls [])
  refine lv_aload_n hx hb dX6_pass_0 rfl (lv_at hl 0 rfl) ?_
  refine lv_iconst (v := 0) hx hb dX6_pass_1 (by decide) ?_
  refine va_put (D := D) (ci := 6) (v := .int 0) (ty := .int) (C := RX6) (T := TX6) (N := 8) hx hb hts hiX6 tyX6 tyX6_ok nmX6 hown hK.1 hP hD hS 0 rfl rfl 0 (by decide) (hts (.fieldLink RX6 43 "IceLanesModel" "thrown" "I") (by decide +kernel)) (fun _ h9 => h9) rfl (by decide +kernel) rfl rfl (Nat.le_of_ble_eq_true rfl) dX6_pass_2 (fun H locs hP hD hS => ?_)
  have hP : va_P D vwCl (wOutE b d d2 cI 0 (ω 19 0) (ω 1) (ω 2) (ω 14) (ω 15) ++ (wSta d (b 0) cI σ ++ wSta d2 (b 0) cI σ2)) H := hP
  have hD : va_D A (wOutE b d d2 cI 0 (ω 19 0) (ω 1) (ω 2) (ω 14) (ω 15) ++ (wSta d (b 0) cI σ ++ wSta d2 (b 0) cI σ2)) := hD
  refine lv_iload_n hx hb dX6_pass_5 rfl (lv_at hl 1 rfl) ?_
  refine lv_iconst (v := 1) hx hb dX6_pass_6 (by decide) ?_
  refine lv_sipush (v := 200) hx hb dX6_pass_7 (by decide) ?_
  refine rd_i (va_runS (As := [.int p0, .int 1, .int 200]) (rest := []) ⟨hx, hb, hml, hown, hts⟩ (M_X6_isIn l D cI p0 1 200 ) (va_cwS 3 hts gX6_pass_X6_isIn rfl rfl rfl (by decide +kernel) ⟨Nat.le_of_ble_eq_true rfl, Nat.le_of_ble_eq_true rfl⟩) (rdS hK hP [] [0] rfl rfl) rfl rfl hl.1 rfl (lv_room (Nat.le_of_ble_eq_true rfl)) dX6_pass_10 ⟨Nat.zero_le _, Nat.zero_le _⟩) ?_
  refine lv_if_ne (tgt := 22) hx hb dX6_pass_13 (by decide) (fun c_1 => ?_) (fun c_1 => ?_)
  · skip
    have c_1 : (1 ≤ p0 ∧ p0 ≤ 200) := bI_nz.mp c_1
    first | exact absurd c_1 (by assumption) | exact absurd (by assumption) c_1
  · skip
    have c_1 : ¬ (1 ≤ p0 ∧ p0 ≤ 200) := bI_z.mp c_1
    refine lv_aload_n hx hb dX6_pass_16 rfl (lv_at hl 0 rfl) ?_
    refine lv_iconst (v := 1) hx hb dX6_pass_17 (by decide) ?_
    refine wr_i (wn := wOutE b d d2 cI 1 (ω 19 0) (ω 1) (ω 2) (ω 14) (ω 15) ++ (wSta d (b 0) cI σ ++ wSta d2 (b 0) cI σ2)) (va_runV (As := [.int 1]) (rest := []) ⟨hx, hb, hml, hown, hts⟩ (M_X6_no l D cI b d d2 σ σ2 (put ω 20 (fun _ => 0)) 1 _ ) (cwV 1 hts gX6_pass_X6_no rfl rfl rfl (by decide +kernel) ⟨Nat.le_of_ble_eq_true rfl, Nat.le_of_ble_eq_true rfl⟩) (wrV hK hP hD [0, 1, 2, 3, 4, 5, 6, 7, 8, 9, 10, 11, 12] [0] rfl rfl rfl (ci := 6) (q0 := 0) rfl rfl) rfl rfl hl.1 rfl (lv_room (Nat.le_of_ble_eq_true rfl)) dX6_pass_18 ⟨Nat.le_of_ble_eq_true rfl, Nat.le_of_ble_eq_true rfl⟩) hP hD hS hA [0, 1, 2, 3, 4, 5, 6, 7, 8, 9, 10, 11, 12] [] [0, 1, 2, 3, 4, 5, 6, 7, 8, 9, 10, 11, 12] rfl rfl rfl rfl rfl rfl (fun H locs hP hD hS => ?_)
    refine W.eq (g2 := F0 m 21 ls [.int 0]) rfl ?_
    subst hQ
    have hP : va_P D vwCl (wMod b d d2 cI σ σ2 (put ω 20 (fun _ => 1))) H := hP
    have hD : va_D A (wMod b d d2 cI σ σ2 (put ω 20 (fun _ => 1))) := hD
    exact ret_wri hx hb hr rfl hlocks hP hD hS (show 0 = 0 from rfl) dX6_pass_21
set_option maxHeartbeats 4000000 in
set_option maxRecDepth 100000 in
theorem M_X6_pass_ok (l : Launch) (D : va_G) (cI : ClassId) (b : Nat → Nat) (d : Nat → Nat) (d2 : Nat → Nat) (σ : St) (σ2 : St) (ω : St) (n0 : Nat) (h : Nat) (nc : Nat) (sz : Nat) (h1 : (1 ≤ nI n0 ∧ nI n0 ≤ 200)) (hn0 : n0 ≤ 200) (hok : okM σ ω h nc) (hbd : h + 200 < 2 ^ 30) : Met l yX6_pass wsX6_pass ({ frames := 5, cells := 0, slots := 0, locals := 113 } : Room) (wrPc [.ref (b 0), .int (nI n0)] D (wMod b d d2 cI σ σ2 ω) [(cI, .int)] sz) (wrQi (hoursF n0 σ 18 0 - σ 18 0) D (wMod b d d2 cI (hoursF n0 σ) σ2 (put ω 20 (fun _ => 0))) (va_A (wMod b d d2 cI σ σ2 ω) sz)) 0 0 (va_A (wMod b d d2 cI σ σ2 ω) sz) := by
  refine Met.ofW (cc := cX6_pass) (maxL := 4) (ret := (some .int)) (by decide) rfl ?_
  intro p e s m args below meth c s₁ B hml hv
  obtain ⟨hargs, hsz, hP, hK, hD0⟩ := hv
  have hx := B.exec
  have hb := B.bytes
  have hr := B.returns
  have hts := atoms_spec (ws := wsX6_pass) B.pre
  have hown : s.vm.findClass RX6 = some m.cls := findClass_of_methodNamed B.named
  have hlocks := B.notSynchronized
  obtain ⟨_, hN⟩ := id hK
  have hiX5 : ∀ w ∈ wsX50, w ∈ wsX6_pass := by decide +kernel
  have hiX6 : ∀ w ∈ wsX60, w ∈ wsX6_pass := by decide +kernel
  subst hsz
  have hD := hD0.self (sz := s.heap.size)
  generalize hAe : va_A (wMod b d d2 cI σ σ2 ω) s.heap.size = A at hD ⊢
  have hA : ∀ q : Nat, s.heap.size ≤ q → A q := fun q h => by rw [← hAe]; exact Or.inr h
  have hS : va_S A s.heap s.heap [] := va_S.rf
  have hP : va_P D vwCl (wMod b d d2 cI σ σ2 ω) s.heap := hP
  refine my_abs (fun Q hQ => ?_)
  obtain ⟨ls, hl, hent⟩ := my_entry (m := m) (n := 4) hargs (Nat.le_of_ble_eq_true rfl)
  rw [hent]
  have hl : lv_has ls 4 [(0, .ref (b 0)), (1, .int (nI n0))] := hl
  show W p l e ({ frames := 5, cells := 0, slots := 0, locals := 113 } : Room) s m args below meth c s.heap [] 0 0 Q (F0 m 0 ls [])
  refine lv_aload_n hx hb dX6_pass_0 rfl (lv_at hl 0 rfl) ?_
  refine lv_iconst (v := 0) hx hb dX6_pass_1 (by decide) ?_
  refine va_put (D := D) (ci := 6) (v := .int 0) (ty := .int) (C := RX6) (T := TX6) (N := 8) hx hb hts hiX6 tyX6 tyX6_ok nmX6 hown hK.1 hP hD hS 0 rfl rfl 0 (by decide) (hts (.fieldLink RX6 43 "IceLanesModel" "thrown" "I") (by decide +kernel)) (fun _ h9 => h9) rfl (by decide +kernel) rfl rfl (Nat.le_of_ble_eq_true rfl) dX6_pass_2 (fun H locs hP hD hS => ?_)
  have hP : va_P D vwCl (wOutE b d d2 cI 0 (ω 19 0) (ω 1) (ω 2) (ω 14) (ω 15) ++ (wSta d (b 0) cI σ ++ wSta d2 (b 0) cI σ2)) H := hP
  have hD : va_D A (wOutE b d d2 cI 0 (ω 19 0) (ω 1) (ω 2) (ω 14) (ω 15) ++ (wSta d (b 0) cI σ ++ wSta d2 (b 0) cI σ2)) := hD
  refine lv_iload_n hx hb dX6_pass_5 rfl (lv_at hl 1 rfl) ?_
  refine lv_iconst (v := 1) hx hb dX6_pass_6 (by decide) ?_
  refine lv_sipush (v := 200) hx hb dX6_pass_7 (by decide) ?_
  refine rd_i (va_runS (As := [.int (nI n0), .int 1, .int 200]) (rest := []) ⟨hx, hb, hml, hown, hts⟩ (M_X6_isIn l D cI (nI n0) 1 200 ) (va_cwS 3 hts gX6_pass_X6_isIn rfl rfl rfl (by decide +kernel) ⟨Nat.le_of_ble_eq_true rfl, Nat.le_of_ble_eq_true rfl⟩) (rdS hK hP [] [0] rfl rfl) rfl rfl hl.1 rfl (lv_room (Nat.le_of_ble_eq_true rfl)) dX6_pass_10 ⟨Nat.zero_le _, Nat.zero_le _⟩) ?_
  refine lv_if_ne (tgt := 22) hx hb dX6_pass_13 (by decide) (fun c_1 => ?_) (fun c_1 => ?_)
  · skip
    have c_1 : (1 ≤ (nI n0) ∧ (nI n0) ≤ 200) := bI_nz.mp c_1
    refine lv_aload_n hx hb dX6_pass_22 rfl (lv_at hl 0 rfl) ?_
    refine va_get (D := D) (ci := 6) (v := .ref (d 0)) (C := RX6) (T := TX6) (N := 8) hx hb hts hiX6 hown hK.1 hP 0 rfl rfl 6 (by decide) (hts (.fieldLink RX6 27 "IceLanesModel" "s" "LIceLanesModel$State;") (by decide +kernel)) (fun _ h9 => h9) rfl dX6_pass_23 ?_
    refine va_getN (D := D) (ci := 5) (v := .int (σ 18 0)) (C := RX5) (T := TX5) (N := 8) hx hb hts hiX5 hown hK.1 hP 5 rfl rfl 3 (by decide) (va_Nw.use rfl (nX6_119 hN)) (fun _ h9 => h9) rfl dX6_pass_26 ?_
    refine lv_istore_n (lv' := [(2, .int (σ 18 0)), (0, .ref (b 0)), (1, .int (nI n0))]) hx hb dX6_pass_29 rfl hl (by decide) rfl (fun ls hl => ?_)
    refine lv_iconst (v := 0) hx hb dX6_pass_30 (by decide) ?_
    refine lv_istore_n (lv' := [(3, .int 0), (2, .int (σ 18 0)), (0, .ref (b 0)), (1, .int (nI n0))]) hx hb dX6_pass_31 rfl hl (by decide) rfl (fun ls hl => ?_)
    have loop32 : ∀ (n : Nat) (k : Nat) (τ : St), 201 - k < n → (k ≤ n0 ∧ okM τ ω (h + k) nc ∧ τ = hoursF k σ) → ∀ (H : Heap) (locs : List Loc), va_P D vwCl (wOutE b d d2 cI 0 (ω 19 0) (ω 1) (ω 2) (ω 14) (ω 15) ++ (wSta d (b 0) cI τ ++ wSta d2 (b 0) cI σ2)) H → va_D A (wOutE b d d2 cI 0 (ω 19 0) (ω 1) (ω 2) (ω 14) (ω 15) ++ (wSta d (b 0) cI τ ++ wSta d2 (b 0) cI σ2)) → va_S A s.heap H locs → ∀ (ls : Array Slot), lv_has ls 4 [(0, .ref (b 0)), (1, .int (nI n0)), (2, .int (σ 18 0)), (3, .int (nI k))] → W p l e ({ frames := 5, cells := 0, slots := 0, locals := 113 } : Room) s m args below meth c H locs 0 0 Q (F0 m 32 ls []) := by
      intro n
      induction n with
      | zero => intro k  τ  hf; exact absurd hf (Nat.not_lt_zero _)
      | succ n ih32 =>
        intro k  τ  hf ⟨hk, hokτ, hτ⟩ H locs hP hD hS ls hl
        refine lv_iload_n hx hb dX6_pass_32 rfl (lv_at hl 3 rfl) ?_
        refine lv_iload_n hx hb dX6_pass_33 rfl (lv_at hl 1 rfl) ?_
        refine lv_icmp_ge (tgt := 50) hx hb dX6_pass_34 (by decide) (fun c_2 => ?_) (fun c_2 => ?_)
        · skip
          have hk2 : n0 ≤ k := lp_ge (N := n0) (k := k) c_2 (by omega) (by omega)
          have hfin : τ = hoursF n0 σ := by rw [hτ, show k = n0 by omega]
          refine lv_aload_n hx hb dX6_pass_50 rfl (lv_at hl 0 rfl) ?_
          refine va_get (D := D) (ci := 6) (v := .ref (d 0)) (C := RX6) (T := TX6) (N := 8) hx hb hts hiX6 hown hK.1 hP 0 rfl rfl 6 (by decide) (hts (.fieldLink RX6 27 "IceLanesModel" "s" "LIceLanesModel$State;") (by decide +kernel)) (fun _ h9 => h9) rfl dX6_pass_51 ?_
          refine va_getN (D := D) (ci := 5) (v := .int (τ 18 0)) (C := RX5) (T := TX5) (N := 8) hx hb hts hiX5 hown hK.1 hP 5 rfl rfl 3 (by decide) (va_Nw.use rfl (nX6_119 hN)) (fun _ h9 => h9) rfl dX6_pass_54 ?_
          refine lv_iload_n hx hb dX6_pass_57 rfl (lv_at hl 2 rfl) ?_
          refine lv_isub hx hb dX6_pass_58 ?_
          subst hQ
          have hst_s : τ = hoursF n0 σ := hfin
          rw [hst_s] at hP hD
          have hP : va_P D vwCl (wMod b d d2 cI (hoursF n0 σ) σ2 (put ω 20 (fun _ => 0))) H := hP
          have hD : va_D A (wMod b d d2 cI (hoursF n0 σ) σ2 (put ω 20 (fun _ => 0))) := hD
          exact ret_wri hx hb hr rfl hlocks hP hD hS (show (τ 18 0) - (σ 18 0) = hoursF n0 σ 18 0 - σ 18 0 from (by rw [hfin])) dX6_pass_59
        · skip
          have hk2 : k < n0 := lp_nge (N := n0) (k := k) c_2 (by omega) (by omega)
          refine lv_aload_n hx hb dX6_pass_37 rfl (lv_at hl 0 rfl) ?_
          refine va_get (D := D) (ci := 6) (v := .ref (d 0)) (C := RX6) (T := TX6) (N := 8) hx hb hts hiX6 hown hK.1 hP 0 rfl rfl 6 (by decide) (hts (.fieldLink RX6 27 "IceLanesModel" "s" "LIceLanesModel$State;") (by decide +kernel)) (fun _ h9 => h9) rfl dX6_pass_38 ?_
          refine wr_v (wn := wMod b d d2 cI (hourF τ) σ2 (put ω 20 (fun _ => 0))) (va_runV (As := []) (rest := []) ⟨hx, hb, hml, hown, hts⟩ (M_X5_pass l D cI d b d d2 τ (put ω 20 (fun _ => 0)) (h + k) nc _ hokτ.1 (by omega) hokτ.2.1 hokτ.2.2.1 hokτ.2.2.2.1 hokτ.2.2.2.2.1 hokτ.2.2.2.2.2) (cwV 0 hts gX6_pass_X5_pass rfl rfl rfl (by decide +kernel) ⟨Nat.le_of_ble_eq_true rfl, Nat.le_of_ble_eq_true rfl⟩) (wrV hK hP hD [5, 6, 7, 8, 0, 1, 2, 3, 4] [0] rfl rfl rfl (ci := 5) (q0 := 5) rfl rfl) rfl rfl hl.1 rfl (lv_room (Nat.le_of_ble_eq_true rfl)) dX6_pass_41 ⟨Nat.le_of_ble_eq_true rfl, Nat.le_of_ble_eq_true rfl⟩) hP hD hS hA [5, 6, 7, 8, 0, 1, 2, 3, 4] [9, 10, 11, 12] [8, 9, 10, 11, 12, 4, 5, 6, 7, 0, 1, 2, 3] rfl rfl rfl rfl rfl rfl (fun H locs hP hD hS => ?_)
          generalize eσ_3 : hourF τ = σ_3 at hP hD
          refine lv_iinc (v := nI (k + 1)) (lv' := [(3, .int (nI (k + 1))), (0, .ref (b 0)), (1, .int (nI n0)), (2, .int (σ 18 0))]) hx hb dX6_pass_44 hl (k := 3) rfl (nI_1 k) (by decide) rfl (fun ls hl => ?_)
          refine lv_goto (tgt := 32) hx hb dX6_pass_47 (by decide) ?_
          exact ih32 (k + 1) σ_3 (by omega) ⟨by omega, (by rw [← eσ_3, show h + (k + 1) = (h + k) + 1 by omega]; exact okM_hour hokτ (by omega)), (by rw [← eσ_3, hτ]; rfl)⟩ _ _ hP hD hS ls (lv_sub hl [1, 2, 3, 0] rfl)
    exact loop32 202 0 σ (by omega) ⟨by omega, hok, rfl⟩ _ _ hP hD hS ls (lv_sub hl [2, 3, 1, 0] rfl)
  · skip
    have c_1 : ¬ (1 ≤ (nI n0) ∧ (nI n0) ≤ 200) := bI_z.mp c_1
    first | exact absurd c_1 (by assumption) | exact absurd (by assumption) c_1
set_option maxHeartbeats 4000000 in
set_option maxRecDepth 100000 in
theorem M_X6_arrivesAhead (l : Launch) (D : va_G) (cI : ClassId) (b : Nat → Nat) (d : Nat → Nat) (d2 : Nat → Nat) (σ : St) (σ2 : St) (ω : St) (cu : Nat) (h : Nat) (nc : Nat) (sz : Nat) (hok : okM σ2 ω h nc) (hbd : h + 200 < 2 ^ 30) (hcu : cu < nc) : Met l yX6_arrivesAhead wsX6_arrivesAhead ({ frames := 5, cells := 0, slots := 0, locals := 113 } : Room) (wrPc [.ref (b 0), .int (nI cu)] D (wMod b d d2 cI σ σ2 ω) [(cI, .int)] sz) (wrQi (amR cu 151 0 σ2) D (wMod b d d2 cI σ (amE cu 151 σ2) ω) (va_A (wMod b d d2 cI σ σ2 ω) sz)) 0 0 (va_A (wMod b d d2 cI σ σ2 ω) sz) := by
  refine Met.ofW (cc := cX6_arrivesAhead) (maxL := 3) (ret := (some .int)) (by decide) rfl ?_
  intro p e s m args below meth c s₁ B hml hv
  obtain ⟨hargs, hsz, hP, hK, hD0⟩ := hv
  have hx := B.exec
  have hb := B.bytes
  have hr := B.returns
  have hts := atoms_spec (ws := wsX6_arrivesAhead) B.pre
  have hown : s.vm.findClass RX6 = some m.cls := findClass_of_methodNamed B.named
  have hlocks := B.notSynchronized
  obtain ⟨_, hN⟩ := id hK
  have hiX6 : ∀ w ∈ wsX60, w ∈ wsX6_arrivesAhead := by decide +kernel
  subst hsz
  have hD := hD0.self (sz := s.heap.size)
  generalize hAe : va_A (wMod b d d2 cI σ σ2 ω) s.heap.size = A at hD ⊢
  have hA : ∀ q : Nat, s.heap.size ≤ q → A q := fun q h => by rw [← hAe]; exact Or.inr h
  have hS : va_S A s.heap s.heap [] := va_S.rf
  have hP : va_P D vwCl (wMod b d d2 cI σ σ2 ω) s.heap := hP
  refine my_abs (fun Q hQ => ?_)
  obtain ⟨ls, hl, hent⟩ := my_entry (m := m) (n := 3) hargs (Nat.le_of_ble_eq_true rfl)
  rw [hent]
  have hl : lv_has ls 3 [(0, .ref (b 0)), (1, .int (nI cu))] := hl
  show W p l e ({ frames := 5, cells := 0, slots := 0, locals := 113 } : Room) s m args below meth c s.heap [] 0 0 Q (F0 m 0 ls [])
  have hcu8 : cu < 8 := Nat.lt_of_lt_of_le hcu hok.1.2.2.1
  refine lv_iconst (v := 0) hx hb dX6_arrivesAhead_0 (by decide) ?_
  refine lv_istore_n (lv' := [(2, .int 0), (0, .ref (b 0)), (1, .int (nI cu))]) hx hb dX6_arrivesAhead_1 rfl hl (by decide) rfl (fun ls hl => ?_)
  have loop2 : ∀ (n : Nat) (k : Nat) (τ : St), 152 - k < n → (k ≤ 151 ∧ okM τ ω (h + k) nc ∧ amR cu (151 - k) k τ = amR cu 151 0 σ2 ∧ amE cu (151 - k) τ = amE cu 151 σ2) → ∀ (H : Heap) (locs : List Loc), va_P D vwCl (wMod b d d2 cI σ τ ω) H → va_D A (wMod b d d2 cI σ τ ω) → va_S A s.heap H locs → ∀ (ls : Array Slot), lv_has ls 3 [(0, .ref (b 0)), (1, .int (nI cu)), (2, .int (nI k))] → W p l e ({ frames := 5, cells := 0, slots := 0, locals := 113 } : Room) s m args below meth c H locs 0 0 Q (F0 m 2 ls []) := by
    intro n
    induction n with
    | zero => intro k  τ  hf; exact absurd hf (Nat.not_lt_zero _)
    | succ n ih2 =>
      intro k  τ  hf ⟨hk, hokτ, hr9, he⟩ H locs hP hD hS ls hl
      refine lv_iload_n hx hb dX6_arrivesAhead_2 rfl (lv_at hl 2 rfl) ?_
      refine lv_sipush (v := 150) hx hb dX6_arrivesAhead_3 (by decide) ?_
      refine lv_icmp_gt (tgt := 61) hx hb dX6_arrivesAhead_6 (by decide) (fun c_1 => ?_) (fun c_1 => ?_)
      · skip
        have hk2 : 150 < k := lp_gt (N := 150) (k := k) c_1 (by omega) (by omega)
        refine lv_iconst (v := (-1)) hx hb dX6_arrivesAhead_61 (by decide) ?_
        subst hQ
        have hst_s2 : τ = amE cu 151 σ2 := (by rw [← he, show 151 - k = 0 by omega]; rfl)
        rw [hst_s2] at hP hD
        exact ret_wri hx hb hr rfl hlocks hP hD hS (show (-1) = amR cu 151 0 σ2 from (by rw [← hr9, show 151 - k = 0 by omega]; rfl)) dX6_arrivesAhead_62
      · skip
        have hk2 : k ≤ 150 := lp_ngt (N := 150) (k := k) c_1 (by omega) (by omega)
        have h151 : 151 - k = (150 - k) + 1 := by omega
        refine lv_aload_n hx hb dX6_arrivesAhead_9 rfl (lv_at hl 0 rfl) ?_
        refine va_get (D := D) (ci := 6) (v := .ref (d2 0)) (C := RX6) (T := TX6) (N := 8) hx hb hts hiX6 hown hK.1 hP 0 rfl rfl 7 (by decide) (hts (.fieldLink RX6 31 "IceLanesModel" "ahead" "LIceLanesModel$State;") (by decide +kernel)) (fun _ h9 => h9) rfl dX6_arrivesAhead_10 ?_
        refine lv_iload_n hx hb dX6_arrivesAhead_13 rfl (lv_at hl 1 rfl) ?_
        refine lv_bipush (v := 6) hx hb dX6_arrivesAhead_14 (by decide) ?_
        refine rd_i (va_runV (As := [.int (nI cu), .int 6]) (rest := []) ⟨hx, hb, hml, hown, hts⟩ (M_X5_get l D cI d2 (b 0) τ cu 6 (by first | assumption | omega) (by first | assumption | omega)) (cwV 2 hts gX6_arrivesAhead_X5_get rfl rfl rfl (by decide +kernel) ⟨Nat.le_of_ble_eq_true rfl, Nat.le_of_ble_eq_true rfl⟩) (rdV hK hP [9, 10, 11, 12] [0] rfl rfl (ci := 5) (q0 := 9) rfl rfl) rfl rfl hl.1 rfl (lv_room (Nat.le_of_ble_eq_true rfl)) dX6_arrivesAhead_16 ⟨Nat.zero_le _, Nat.zero_le _⟩) ?_
        refine W.eq (g2 := F0 m 19 ls [.int (τ 11 cu)]) rfl ?_
        refine lv_iconst (v := 3) hx hb dX6_arrivesAhead_19 (by decide) ?_
        refine lv_icmp_ne (tgt := 25) hx hb dX6_arrivesAhead_20 (by decide) (fun c_2 => ?_) (fun c_2 => ?_)
        · skip
          refine lv_aload_n hx hb dX6_arrivesAhead_25 rfl (lv_at hl 0 rfl) ?_
          refine va_get (D := D) (ci := 6) (v := .ref (d2 0)) (C := RX6) (T := TX6) (N := 8) hx hb hts hiX6 hown hK.1 hP 0 rfl rfl 7 (by decide) (hts (.fieldLink RX6 31 "IceLanesModel" "ahead" "LIceLanesModel$State;") (by decide +kernel)) (fun _ h9 => h9) rfl dX6_arrivesAhead_26 ?_
          refine lv_iload_n hx hb dX6_arrivesAhead_29 rfl (lv_at hl 1 rfl) ?_
          refine lv_iconst (v := 3) hx hb dX6_arrivesAhead_30 (by decide) ?_
          refine rd_i (va_runV (As := [.int (nI cu), .int 3]) (rest := []) ⟨hx, hb, hml, hown, hts⟩ (M_X5_get l D cI d2 (b 0) τ cu 3 (by first | assumption | omega) (by first | assumption | omega)) (cwV 2 hts gX6_arrivesAhead_X5_get rfl rfl rfl (by decide +kernel) ⟨Nat.le_of_ble_eq_true rfl, Nat.le_of_ble_eq_true rfl⟩) (rdV hK hP [9, 10, 11, 12] [0] rfl rfl (ci := 5) (q0 := 9) rfl rfl) rfl rfl hl.1 rfl (lv_room (Nat.le_of_ble_eq_true rfl)) dX6_arrivesAhead_31 ⟨Nat.zero_le _, Nat.zero_le _⟩) ?_
          refine W.eq (g2 := F0 m 34 ls [.int (τ 8 cu)]) rfl ?_
          refine lv_aload_n hx hb dX6_arrivesAhead_34 rfl (lv_at hl 0 rfl) ?_
          refine va_get (D := D) (ci := 6) (v := .ref (d2 0)) (C := RX6) (T := TX6) (N := 8) hx hb hts hiX6 hown hK.1 hP 0 rfl rfl 7 (by decide) (hts (.fieldLink RX6 31 "IceLanesModel" "ahead" "LIceLanesModel$State;") (by decide +kernel)) (fun _ h9 => h9) rfl dX6_arrivesAhead_35 ?_
          refine lv_iload_n hx hb dX6_arrivesAhead_38 rfl (lv_at hl 1 rfl) ?_
          refine lv_iconst (v := 5) hx hb dX6_arrivesAhead_39 (by decide) ?_
          refine rd_i (va_runV (As := [.int (nI cu), .int 5]) (rest := [.int (τ 8 cu)]) ⟨hx, hb, hml, hown, hts⟩ (M_X5_get l D cI d2 (b 0) τ cu 5 (by first | assumption | omega) (by first | assumption | omega)) (cwV 2 hts gX6_arrivesAhead_X5_get rfl rfl rfl (by decide +kernel) ⟨Nat.le_of_ble_eq_true rfl, Nat.le_of_ble_eq_true rfl⟩) (rdV hK hP [9, 10, 11, 12] [0] rfl rfl (ci := 5) (q0 := 9) rfl rfl) rfl rfl hl.1 rfl (lv_room (Nat.le_of_ble_eq_true rfl)) dX6_arrivesAhead_40 ⟨Nat.zero_le _, Nat.zero_le _⟩) ?_
          refine W.eq (g2 := F0 m 43 ls [.int (τ 10 cu), .int (τ 8 cu)]) rfl ?_
          refine lv_icmp_ne (tgt := 48) hx hb dX6_arrivesAhead_43 (by decide) (fun c_3 => ?_) (fun c_3 => ?_)
          · skip
            refine lv_aload_n hx hb dX6_arrivesAhead_48 rfl (lv_at hl 0 rfl) ?_
            refine va_get (D := D) (ci := 6) (v := .ref (d2 0)) (C := RX6) (T := TX6) (N := 8) hx hb hts hiX6 hown hK.1 hP 0 rfl rfl 7 (by decide) (hts (.fieldLink RX6 31 "IceLanesModel" "ahead" "LIceLanesModel$State;") (by decide +kernel)) (fun _ h9 => h9) rfl dX6_arrivesAhead_49 ?_
            refine wr_v (wn := wMod b d d2 cI σ (hourF τ) ω) (va_runV (As := []) (rest := []) ⟨hx, hb, hml, hown, hts⟩ (M_X5_pass l D cI d2 b d d2 τ ω (h + k) nc _ hokτ.1 (by omega) hokτ.2.1 hokτ.2.2.1 hokτ.2.2.2.1 hokτ.2.2.2.2.1 hokτ.2.2.2.2.2) (cwV 0 hts gX6_arrivesAhead_X5_pass rfl rfl rfl (by decide +kernel) ⟨Nat.le_of_ble_eq_true rfl, Nat.le_of_ble_eq_true rfl⟩) (wrV hK hP hD [9, 10, 11, 12, 0, 1, 2, 3, 4] [0] rfl rfl rfl (ci := 5) (q0 := 9) rfl rfl) rfl rfl hl.1 rfl (lv_room (Nat.le_of_ble_eq_true rfl)) dX6_arrivesAhead_52 ⟨Nat.le_of_ble_eq_true rfl, Nat.le_of_ble_eq_true rfl⟩) hP hD hS hA [9, 10, 11, 12, 0, 1, 2, 3, 4] [5, 6, 7, 8] [8, 9, 10, 11, 12, 0, 1, 2, 3, 4, 5, 6, 7] rfl rfl rfl rfl rfl rfl (fun H locs hP hD hS => ?_)
            generalize eσ_4 : hourF τ = σ_4 at hP hD
            refine lv_iinc (v := nI (k + 1)) (lv' := [(2, .int (nI (k + 1))), (0, .ref (b 0)), (1, .int (nI cu))]) hx hb dX6_arrivesAhead_55 hl (k := 2) rfl (nI_1 k) (by decide) rfl (fun ls hl => ?_)
            refine lv_goto (tgt := 2) hx hb dX6_arrivesAhead_58 (by decide) ?_
            exact ih2 (k + 1) σ_4 (by omega) ⟨by omega, (by rw [← eσ_4, show h + (k + 1) = (h + k) + 1 by omega]; exact okM_hour hokτ (by omega)), (by rw [← eσ_4, ← hr9, h151, show 151 - (k + 1) = 150 - k by omega, amR_s (by assumption) (by assumption)]), (by rw [← eσ_4, ← he, h151, show 151 - (k + 1) = 150 - k by omega, amE_s (by assumption) (by assumption)])⟩ _ _ hP hD hS ls (lv_sub hl [1, 2, 0] rfl)
          · skip
            refine lv_iload_n hx hb dX6_arrivesAhead_46 rfl (lv_at hl 2 rfl) ?_
            subst hQ
            have hst_s2 : τ = amE cu 151 σ2 := (by rw [← he, h151, amE_g (by assumption) (by assumption)])
            rw [hst_s2] at hP hD
            exact ret_wri hx hb hr rfl hlocks hP hD hS (show nI k = amR cu 151 0 σ2 from (by rw [← hr9, h151, amR_g (by assumption) (by assumption)])) dX6_arrivesAhead_47
        · skip
          refine lv_iconst (v := (-1)) hx hb dX6_arrivesAhead_23 (by decide) ?_
          subst hQ
          have hst_s2 : τ = amE cu 151 σ2 := (by rw [← he, h151, amE_3 (by assumption)])
          rw [hst_s2] at hP hD
          exact ret_wri hx hb hr rfl hlocks hP hD hS (show (-1) = amR cu 151 0 σ2 from (by rw [← hr9, h151, amR_3 (by assumption)])) dX6_arrivesAhead_24
  exact loop2 153 0 σ2 (by omega) ⟨by omega, hok, rfl, rfl⟩ _ _ hP hD hS ls (lv_sub hl [1, 2, 0] rfl)
set_option maxHeartbeats 4000000 in
set_option maxRecDepth 100000 in
theorem M_X6_arrives_e1 (l : Launch) (D : va_G) (cI : ClassId) (b : Nat → Nat) (d : Nat → Nat) (d2 : Nat → Nat) (σ : St) (σ2 : St) (ω : St) (p0 : Int32) (sz : Nat) (h1 : ¬ (0 ≤ p0 ∧ p0 ≤ σ 17 0 - 1)) : Met l yX6_arrives wsX6_arrives ({ frames := 2, cells := 0, slots := 0, locals := 43 } : Room) (wrPc [.ref (b 0), .int p0] D (wMod b d d2 cI σ σ2 ω) [(cI, .int)] sz) (wrQi 0 D (wMod b d d2 cI σ σ2 (put ω 20 (fun _ => 1))) (va_A (wMod b d d2 cI σ σ2 ω) sz)) 0 0 (va_A (wMod b d d2 cI σ σ2 ω) sz) := by
  refine Met.ofW (cc := cX6_arrives) (maxL := 2) (ret := (some .int)) (by decide) rfl ?_
  intro p e s m args below meth c s₁ B hml hv
  obtain ⟨hargs, hsz, hP, hK, hD0⟩ := hv
  have hx := B.exec
  have hb := B.bytes
  have hr := B.returns
  have hts := atoms_spec (ws := wsX6_arrives) B.pre
  have hown : s.vm.findClass RX6 = some m.cls := findClass_of_methodNamed B.named
  have hlocks := B.notSynchronized
  obtain ⟨_, hN⟩ := id hK
  have hiX6 : ∀ w ∈ wsX60, w ∈ wsX6_arrives := by decide +kernel
  subst hsz
  have hD := hD0.self (sz := s.heap.size)
  generalize hAe : va_A (wMod b d d2 cI σ σ2 ω) s.heap.size = A at hD ⊢
  have hA : ∀ q : Nat, s.heap.size ≤ q → A q := fun q h => by rw [← hAe]; exact Or.inr h
  have hS : va_S A s.heap s.heap [] := va_S.rf
  have hP : va_P D vwCl (wMod b d d2 cI σ σ2 ω) s.heap := hP
  refine my_abs (fun Q hQ => ?_)
  obtain ⟨ls, hl, hent⟩ := my_entry (m := m) (n := 2) hargs (Nat.le_of_ble_eq_true rfl)
  rw [hent]
  have hl : lv_has ls 2 [(0, .ref (b 0)), (1, .int p0)] := hl
  show W p l e ({ frames := 2, cells := 0, slots := 0, locals := 43 } : Room) s m args below meth c s.heap [] 0 0 Q (F0 m 0 ls [])
  refine lv_aload_n hx hb dX6_arrives_0 rfl (lv_at hl 0 rfl) ?_
  refine lv_iconst (v := 0) hx hb dX6_arrives_1 (by decide) ?_
  refine va_put (D := D) (ci := 6) (v := .int 0) (ty := .int) (C := RX6) (T := TX6) (N := 8) hx hb hts hiX6 tyX6 tyX6_ok nmX6 hown hK.1 hP hD hS 0 rfl rfl 0 (by decide) (hts (.fieldLink RX6 43 "IceLanesModel" "thrown" "I") (by decide +kernel)) (fun _ h9 => h9) rfl (by decide +kernel) rfl rfl (Nat.le_of_ble_eq_true rfl) dX6_arrives_2 (fun H locs hP hD hS => ?_)
  have hP : va_P D vwCl (wOutE b d d2 cI 0 (ω 19 0) (ω 1) (ω 2) (ω 14) (ω 15) ++ (wSta d (b 0) cI σ ++ wSta d2 (b 0) cI σ2)) H := hP
  have hD : va_D A (wOutE b d d2 cI 0 (ω 19 0) (ω 1) (ω 2) (ω 14) (ω 15) ++ (wSta d (b 0) cI σ ++ wSta d2 (b 0) cI σ2)) := hD
  refine lv_aload_n hx hb dX6_arrives_5 rfl (lv_at hl 0 rfl) ?_
  refine lv_iload_n hx hb dX6_arrives_6 rfl (lv_at hl 1 rfl) ?_
  refine rd_i (va_runV (As := [.int p0]) (rest := []) ⟨hx, hb, hml, hown, hts⟩ (M_X6_isCourier l D cI b d d2 σ σ2 (put ω 20 (fun _ => 0)) p0 ) (cwV 1 hts gX6_arrives_X6_isCourier rfl rfl rfl (by decide +kernel) ⟨Nat.le_of_ble_eq_true rfl, Nat.le_of_ble_eq_true rfl⟩) (rdV hK hP [0, 1, 2, 3, 4, 5, 6, 7, 8, 9, 10, 11, 12] [0] rfl rfl (ci := 6) (q0 := 0) rfl rfl) rfl rfl hl.1 rfl (lv_room (Nat.le_of_ble_eq_true rfl)) dX6_arrives_7 ⟨Nat.zero_le _, Nat.zero_le _⟩) ?_
  refine W.eq (g2 := F0 m 10 ls [.int (bI (0 ≤ p0 ∧ p0 ≤ (σ 17 0) - 1))]) rfl ?_
  refine lv_if_ne (tgt := 19) hx hb dX6_arrives_10 (by decide) (fun c_1 => ?_) (fun c_1 => ?_)
  · skip
    have c_1 : (0 ≤ p0 ∧ p0 ≤ (σ 17 0) - 1) := bI_nz.mp c_1
    first | exact absurd c_1 (by assumption) | exact absurd (by assumption) c_1
  · skip
    have c_1 : ¬ (0 ≤ p0 ∧ p0 ≤ (σ 17 0) - 1) := bI_z.mp c_1
    refine lv_aload_n hx hb dX6_arrives_13 rfl (lv_at hl 0 rfl) ?_
    refine lv_iconst (v := 1) hx hb dX6_arrives_14 (by decide) ?_
    refine wr_i (wn := wOutE b d d2 cI 1 (ω 19 0) (ω 1) (ω 2) (ω 14) (ω 15) ++ (wSta d (b 0) cI σ ++ wSta d2 (b 0) cI σ2)) (va_runV (As := [.int 1]) (rest := []) ⟨hx, hb, hml, hown, hts⟩ (M_X6_no l D cI b d d2 σ σ2 (put ω 20 (fun _ => 0)) 1 _ ) (cwV 1 hts gX6_arrives_X6_no rfl rfl rfl (by decide +kernel) ⟨Nat.le_of_ble_eq_true rfl, Nat.le_of_ble_eq_true rfl⟩) (wrV hK hP hD [0, 1, 2, 3, 4, 5, 6, 7, 8, 9, 10, 11, 12] [0] rfl rfl rfl (ci := 6) (q0 := 0) rfl rfl) rfl rfl hl.1 rfl (lv_room (Nat.le_of_ble_eq_true rfl)) dX6_arrives_15 ⟨Nat.le_of_ble_eq_true rfl, Nat.le_of_ble_eq_true rfl⟩) hP hD hS hA [0, 1, 2, 3, 4, 5, 6, 7, 8, 9, 10, 11, 12] [] [0, 1, 2, 3, 4, 5, 6, 7, 8, 9, 10, 11, 12] rfl rfl rfl rfl rfl rfl (fun H locs hP hD hS => ?_)
    refine W.eq (g2 := F0 m 18 ls [.int 0]) rfl ?_
    subst hQ
    have hP : va_P D vwCl (wMod b d d2 cI σ σ2 (put ω 20 (fun _ => 1))) H := hP
    have hD : va_D A (wMod b d d2 cI σ σ2 (put ω 20 (fun _ => 1))) := hD
    exact ret_wri hx hb hr rfl hlocks hP hD hS (show 0 = 0 from rfl) dX6_arrives_18
set_option maxHeartbeats 4000000 in
set_option maxRecDepth 100000 in
theorem M_X6_best_e1 (l : Launch) (D : va_G) (cI : ClassId) (b : Nat → Nat) (d : Nat → Nat) (d2 : Nat → Nat) (σ : St) (σ2 : St) (ω : St) (p0 : Int32) (sz : Nat) (h1 : ¬ (0 ≤ p0 ∧ p0 ≤ σ 17 0 - 1)) : Met l yX6_best wsX6_best ({ frames := 2, cells := 0, slots := 0, locals := 43 } : Room) (wrPc [.ref (b 0), .int p0] D (wMod b d d2 cI σ σ2 ω) [(cI, .int)] sz) (wrQi 0 D (wMod b d d2 cI σ σ2 (put ω 20 (fun _ => 1))) (va_A (wMod b d d2 cI σ σ2 ω) sz)) 0 0 (va_A (wMod b d d2 cI σ σ2 ω) sz) := by
  refine Met.ofW (cc := cX6_best) (maxL := 3) (ret := (some .int)) (by decide) rfl ?_
  intro p e s m args below meth c s₁ B hml hv
  obtain ⟨hargs, hsz, hP, hK, hD0⟩ := hv
  have hx := B.exec
  have hb := B.bytes
  have hr := B.returns
  have hts := atoms_spec (ws := wsX6_best) B.pre
  have hown : s.vm.findClass RX6 = some m.cls := findClass_of_methodNamed B.named
  have hlocks := B.notSynchronized
  obtain ⟨_, hN⟩ := id hK
  have hiX6 : ∀ w ∈ wsX60, w ∈ wsX6_best := by decide +kernel
  subst hsz
  have hD := hD0.self (sz := s.heap.size)
  generalize hAe : va_A (wMod b d d2 cI σ σ2 ω) s.heap.size = A at hD ⊢
  have hA : ∀ q : Nat, s.heap.size ≤ q → A q := fun q h => by rw [← hAe]; exact Or.inr h
  have hS : va_S A s.heap s.heap [] := va_S.rf
  have hP : va_P D vwCl (wMod b d d2 cI σ σ2 ω) s.heap := hP
  refine my_abs (fun Q hQ => ?_)
  obtain ⟨ls, hl, hent⟩ := my_entry (m := m) (n := 3) hargs (Nat.le_of_ble_eq_true rfl)
  rw [hent]
  have hl : lv_has ls 3 [(0, .ref (b 0)), (1, .int p0)] := hl
  show W p l e ({ frames := 2, cells := 0, slots := 0, locals := 43 } : Room) s m args below meth c s.heap [] 0 0 Q (F0 m 0 ls [])
  refine lv_aload_n hx hb dX6_best_0 rfl (lv_at hl 0 rfl) ?_
  refine lv_iconst (v := 0) hx hb dX6_best_1 (by decide) ?_
  refine va_put (D := D) (ci := 6) (v := .int 0) (ty := .int) (C := RX6) (T := TX6) (N := 8) hx hb hts hiX6 tyX6 tyX6_ok nmX6 hown hK.1 hP hD hS 0 rfl rfl 0 (by decide) (hts (.fieldLink RX6 43 "IceLanesModel" "thrown" "I") (by decide +kernel)) (fun _ h9 => h9) rfl (by decide +kernel) rfl rfl (Nat.le_of_ble_eq_true rfl) dX6_best_2 (fun H locs hP hD hS => ?_)
  have hP : va_P D vwCl (wOutE b d d2 cI 0 (ω 19 0) (ω 1) (ω 2) (ω 14) (ω 15) ++ (wSta d (b 0) cI σ ++ wSta d2 (b 0) cI σ2)) H := hP
  have hD : va_D A (wOutE b d d2 cI 0 (ω 19 0) (ω 1) (ω 2) (ω 14) (ω 15) ++ (wSta d (b 0) cI σ ++ wSta d2 (b 0) cI σ2)) := hD
  refine lv_aload_n hx hb dX6_best_5 rfl (lv_at hl 0 rfl) ?_
  refine lv_iload_n hx hb dX6_best_6 rfl (lv_at hl 1 rfl) ?_
  refine rd_i (va_runV (As := [.int p0]) (rest := []) ⟨hx, hb, hml, hown, hts⟩ (M_X6_isCourier l D cI b d d2 σ σ2 (put ω 20 (fun _ => 0)) p0 ) (cwV 1 hts gX6_best_X6_isCourier rfl rfl rfl (by decide +kernel) ⟨Nat.le_of_ble_eq_true rfl, Nat.le_of_ble_eq_true rfl⟩) (rdV hK hP [0, 1, 2, 3, 4, 5, 6, 7, 8, 9, 10, 11, 12] [0] rfl rfl (ci := 6) (q0 := 0) rfl rfl) rfl rfl hl.1 rfl (lv_room (Nat.le_of_ble_eq_true rfl)) dX6_best_7 ⟨Nat.zero_le _, Nat.zero_le _⟩) ?_
  refine W.eq (g2 := F0 m 10 ls [.int (bI (0 ≤ p0 ∧ p0 ≤ (σ 17 0) - 1))]) rfl ?_
  refine lv_if_ne (tgt := 19) hx hb dX6_best_10 (by decide) (fun c_1 => ?_) (fun c_1 => ?_)
  · skip
    have c_1 : (0 ≤ p0 ∧ p0 ≤ (σ 17 0) - 1) := bI_nz.mp c_1
    first | exact absurd c_1 (by assumption) | exact absurd (by assumption) c_1
  · skip
    have c_1 : ¬ (0 ≤ p0 ∧ p0 ≤ (σ 17 0) - 1) := bI_z.mp c_1
    refine lv_aload_n hx hb dX6_best_13 rfl (lv_at hl 0 rfl) ?_
    refine lv_iconst (v := 1) hx hb dX6_best_14 (by decide) ?_
    refine wr_i (wn := wOutE b d d2 cI 1 (ω 19 0) (ω 1) (ω 2) (ω 14) (ω 15) ++ (wSta d (b 0) cI σ ++ wSta d2 (b 0) cI σ2)) (va_runV (As := [.int 1]) (rest := []) ⟨hx, hb, hml, hown, hts⟩ (M_X6_no l D cI b d d2 σ σ2 (put ω 20 (fun _ => 0)) 1 _ ) (cwV 1 hts gX6_best_X6_no rfl rfl rfl (by decide +kernel) ⟨Nat.le_of_ble_eq_true rfl, Nat.le_of_ble_eq_true rfl⟩) (wrV hK hP hD [0, 1, 2, 3, 4, 5, 6, 7, 8, 9, 10, 11, 12] [0] rfl rfl rfl (ci := 6) (q0 := 0) rfl rfl) rfl rfl hl.1 rfl (lv_room (Nat.le_of_ble_eq_true rfl)) dX6_best_15 ⟨Nat.le_of_ble_eq_true rfl, Nat.le_of_ble_eq_true rfl⟩) hP hD hS hA [0, 1, 2, 3, 4, 5, 6, 7, 8, 9, 10, 11, 12] [] [0, 1, 2, 3, 4, 5, 6, 7, 8, 9, 10, 11, 12] rfl rfl rfl rfl rfl rfl (fun H locs hP hD hS => ?_)
    refine W.eq (g2 := F0 m 18 ls [.int 0]) rfl ?_
    subst hQ
    have hP : va_P D vwCl (wMod b d d2 cI σ σ2 (put ω 20 (fun _ => 1))) H := hP
    have hD : va_D A (wMod b d d2 cI σ σ2 (put ω 20 (fun _ => 1))) := hD
    exact ret_wri hx hb hr rfl hlocks hP hD hS (show 0 = 0 from rfl) dX6_best_18
set_option maxHeartbeats 4000000 in
set_option maxRecDepth 100000 in
theorem M_X6_arrives_ok (l : Launch) (D : va_G) (cI : ClassId) (b : Nat → Nat) (d : Nat → Nat) (d2 : Nat → Nat) (σ : St) (σ2 : St) (ω : St) (cu : Nat) (h : Nat) (nc : Nat) (sz : Nat) (h1 : (0 ≤ nI cu ∧ nI cu ≤ σ 17 0 - 1)) (hcu : cu < nc) (hok : okM σ ω h nc) (hbd : h + 200 < 2 ^ 30) : Met l yX6_arrives wsX6_arrives ({ frames := 6, cells := 0, slots := 0, locals := 135 } : Room) (wrPc [.ref (b 0), .int (nI cu)] D (wMod b d d2 cI σ σ2 ω) [(cI, .int)] sz) (wrQi (amR cu 151 0 σ) D (wMod b d d2 cI σ (amE cu 151 σ) (put ω 20 (fun _ => 0))) (va_A (wMod b d d2 cI σ σ2 ω) sz)) 0 0 (va_A (wMod b d d2 cI σ σ2 ω) sz) := by
  refine Met.ofW (cc := cX6_arrives) (maxL := 2) (ret := (some .int)) (by decide) rfl ?_
  intro p e s m args below meth c s₁ B hml hv
  obtain ⟨hargs, hsz, hP, hK, hD0⟩ := hv
  have hx := B.exec
  have hb := B.bytes
  have hr := B.returns
  have hts := atoms_spec (ws := wsX6_arrives) B.pre
  have hown : s.vm.findClass RX6 = some m.cls := findClass_of_methodNamed B.named
  have hlocks := B.notSynchronized
  obtain ⟨_, hN⟩ := id hK
  have hiX6 : ∀ w ∈ wsX60, w ∈ wsX6_arrives := by decide +kernel
  subst hsz
  have hD := hD0.self (sz := s.heap.size)
  generalize hAe : va_A (wMod b d d2 cI σ σ2 ω) s.heap.size = A at hD ⊢
  have hA : ∀ q : Nat, s.heap.size ≤ q → A q := fun q h => by rw [← hAe]; exact Or.inr h
  have hS : va_S A s.heap s.heap [] := va_S.rf
  have hP : va_P D vwCl (wMod b d d2 cI σ σ2 ω) s.heap := hP
  refine my_abs (fun Q hQ => ?_)
  obtain ⟨ls, hl, hent⟩ := my_entry (m := m) (n := 2) hargs (Nat.le_of_ble_eq_true rfl)
  rw [hent]
  have hl : lv_has ls 2 [(0, .ref (b 0)), (1, .int (nI cu))] := hl
  show W p l e ({ frames := 6, cells := 0, slots := 0, locals := 135 } : Room) s m args below meth c s.heap [] 0 0 Q (F0 m 0 ls [])
  refine lv_aload_n hx hb dX6_arrives_0 rfl (lv_at hl 0 rfl) ?_
  refine lv_iconst (v := 0) hx hb dX6_arrives_1 (by decide) ?_
  refine va_put (D := D) (ci := 6) (v := .int 0) (ty := .int) (C := RX6) (T := TX6) (N := 8) hx hb hts hiX6 tyX6 tyX6_ok nmX6 hown hK.1 hP hD hS 0 rfl rfl 0 (by decide) (hts (.fieldLink RX6 43 "IceLanesModel" "thrown" "I") (by decide +kernel)) (fun _ h9 => h9) rfl (by decide +kernel) rfl rfl (Nat.le_of_ble_eq_true rfl) dX6_arrives_2 (fun H locs hP hD hS => ?_)
  have hP : va_P D vwCl (wOutE b d d2 cI 0 (ω 19 0) (ω 1) (ω 2) (ω 14) (ω 15) ++ (wSta d (b 0) cI σ ++ wSta d2 (b 0) cI σ2)) H := hP
  have hD : va_D A (wOutE b d d2 cI 0 (ω 19 0) (ω 1) (ω 2) (ω 14) (ω 15) ++ (wSta d (b 0) cI σ ++ wSta d2 (b 0) cI σ2)) := hD
  refine lv_aload_n hx hb dX6_arrives_5 rfl (lv_at hl 0 rfl) ?_
  refine lv_iload_n hx hb dX6_arrives_6 rfl (lv_at hl 1 rfl) ?_
  refine rd_i (va_runV (As := [.int (nI cu)]) (rest := []) ⟨hx, hb, hml, hown, hts⟩ (M_X6_isCourier l D cI b d d2 σ σ2 (put ω 20 (fun _ => 0)) (nI cu) ) (cwV 1 hts gX6_arrives_X6_isCourier rfl rfl rfl (by decide +kernel) ⟨Nat.le_of_ble_eq_true rfl, Nat.le_of_ble_eq_true rfl⟩) (rdV hK hP [0, 1, 2, 3, 4, 5, 6, 7, 8, 9, 10, 11, 12] [0] rfl rfl (ci := 6) (q0 := 0) rfl rfl) rfl rfl hl.1 rfl (lv_room (Nat.le_of_ble_eq_true rfl)) dX6_arrives_7 ⟨Nat.zero_le _, Nat.zero_le _⟩) ?_
  refine W.eq (g2 := F0 m 10 ls [.int (bI (0 ≤ (nI cu) ∧ (nI cu) ≤ (σ 17 0) - 1))]) rfl ?_
  refine lv_if_ne (tgt := 19) hx hb dX6_arrives_10 (by decide) (fun c_1 => ?_) (fun c_1 => ?_)
  · skip
    have c_1 : (0 ≤ (nI cu) ∧ (nI cu) ≤ (σ 17 0) - 1) := bI_nz.mp c_1
    refine lv_aload_n hx hb dX6_arrives_19 rfl (lv_at hl 0 rfl) ?_
    refine va_get (D := D) (ci := 6) (v := .ref (d2 0)) (C := RX6) (T := TX6) (N := 8) hx hb hts hiX6 hown hK.1 hP 0 rfl rfl 7 (by decide) (hts (.fieldLink RX6 31 "IceLanesModel" "ahead" "LIceLanesModel$State;") (by decide +kernel)) (fun _ h9 => h9) rfl dX6_arrives_20 ?_
    refine lv_aload_n hx hb dX6_arrives_23 rfl (lv_at hl 0 rfl) ?_
    refine va_get (D := D) (ci := 6) (v := .ref (d 0)) (C := RX6) (T := TX6) (N := 8) hx hb hts hiX6 hown hK.1 hP 0 rfl rfl 6 (by decide) (hts (.fieldLink RX6 27 "IceLanesModel" "s" "LIceLanesModel$State;") (by decide +kernel)) (fun _ h9 => h9) rfl dX6_arrives_24 ?_
    refine wr_v (wn := wOutE b d d2 cI 0 (ω 19 0) (ω 1) (ω 2) (ω 14) (ω 15) ++ (wSta d (b 0) cI σ ++ wSta d2 (b 0) cI σ)) (va_runV (As := [.ref (d 0)]) (rest := []) ⟨hx, hb, hml, hown, hts⟩ (M_X5_become l D cI d2 (b 0) d (b 0) σ2 σ _ ) (cwV 1 hts gX6_arrives_X5_become rfl rfl rfl (by decide +kernel) ⟨Nat.le_of_ble_eq_true rfl, Nat.le_of_ble_eq_true rfl⟩) (wrV hK hP hD [9, 10, 11, 12, 5, 6, 7, 8] [0] rfl rfl rfl (ci := 5) (q0 := 9) rfl rfl) rfl rfl hl.1 rfl (lv_room (Nat.le_of_ble_eq_true rfl)) dX6_arrives_27 ⟨Nat.le_of_ble_eq_true rfl, Nat.le_of_ble_eq_true rfl⟩) hP hD hS hA [9, 10, 11, 12, 5, 6, 7, 8] [0, 1, 2, 3, 4] [0, 1, 2, 3, 4, 9, 10, 11, 12, 5, 6, 7, 8] rfl rfl rfl rfl rfl rfl (fun H locs hP hD hS => ?_)
    refine lv_aload_n hx hb dX6_arrives_30 rfl (lv_at hl 0 rfl) ?_
    refine lv_iload_n hx hb dX6_arrives_31 rfl (lv_at hl 1 rfl) ?_
    refine wr_i (wn := wMod b d d2 cI σ (amE cu 151 σ) (put ω 20 (fun _ => 0))) (va_runV (As := [.int (nI cu)]) (rest := []) ⟨hx, hb, hml, hown, hts⟩ (M_X6_arrivesAhead l D cI b d d2 σ σ (put ω 20 (fun _ => 0)) cu h nc _ (by exact hok) (by omega) hcu) (cwV 1 hts gX6_arrives_X6_arrivesAhead rfl rfl rfl (by decide +kernel) ⟨Nat.le_of_ble_eq_true rfl, Nat.le_of_ble_eq_true rfl⟩) (wrV hK hP hD [0, 1, 2, 3, 4, 5, 6, 7, 8, 9, 10, 11, 12] [0] rfl rfl rfl (ci := 6) (q0 := 0) rfl rfl) rfl rfl hl.1 rfl (lv_room (Nat.le_of_ble_eq_true rfl)) dX6_arrives_32 ⟨Nat.le_of_ble_eq_true rfl, Nat.le_of_ble_eq_true rfl⟩) hP hD hS hA [0, 1, 2, 3, 4, 5, 6, 7, 8, 9, 10, 11, 12] [] [0, 1, 2, 3, 4, 5, 6, 7, 8, 9, 10, 11, 12] rfl rfl rfl rfl rfl rfl (fun H locs hP hD hS => ?_)
    refine W.eq (g2 := F0 m 35 ls [.int (amR cu 151 0 σ)]) rfl ?_
    generalize eσ_2 : amE cu 151 σ = σ_2 at hP hD
    subst hQ
    have hst_s2 : σ_2 = amE cu 151 σ := by subst_vars; rfl
    rw [hst_s2] at hP hD
    have hP : va_P D vwCl (wMod b d d2 cI σ (amE cu 151 σ) (put ω 20 (fun _ => 0))) H := hP
    have hD : va_D A (wMod b d d2 cI σ (amE cu 151 σ) (put ω 20 (fun _ => 0))) := hD
    exact ret_wri hx hb hr rfl hlocks hP hD hS (show amR cu 151 0 σ = amR cu 151 0 σ from rfl) dX6_arrives_35
  · skip
    have c_1 : ¬ (0 ≤ (nI cu) ∧ (nI cu) ≤ (σ 17 0) - 1) := bI_z.mp c_1
    first | exact absurd c_1 (by assumption) | exact absurd (by assumption) c_1
set_option maxHeartbeats 4000000 in
set_option maxRecDepth 100000 in
theorem M_X6_best_ok (l : Launch) (D : va_G) (cI : ClassId) (b : Nat → Nat) (d : Nat → Nat) (d2 : Nat → Nat) (σ : St) (σ2 : St) (ω : St) (cu : Nat) (h : Nat) (nc : Nat) (sz : Nat) (h1 : (0 ≤ nI cu ∧ nI cu ≤ σ 17 0 - 1)) (hcu : cu < nc) (hok : okM σ ω h nc) (hbd : h + 200 < 2 ^ 30) : Met l yX6_best wsX6_best ({ frames := 6, cells := 0, slots := 0, locals := 135 } : Room) (wrPc [.ref (b 0), .int (nI cu)] D (wMod b d d2 cI σ σ2 ω) [(cI, .int)] sz) (wrQi (bsR σ cu 21) D (wMod b d d2 cI σ (bsE σ cu 21 σ2) (put ω 20 (fun _ => 0))) (va_A (wMod b d d2 cI σ σ2 ω) sz)) 0 0 (va_A (wMod b d d2 cI σ σ2 ω) sz) := by
  refine Met.ofW (cc := cX6_best) (maxL := 3) (ret := (some .int)) (by decide) rfl ?_
  intro p e s m args below meth c s₁ B hml hv
  obtain ⟨hargs, hsz, hP, hK, hD0⟩ := hv
  have hx := B.exec
  have hb := B.bytes
  have hr := B.returns
  have hts := atoms_spec (ws := wsX6_best) B.pre
  have hown : s.vm.findClass RX6 = some m.cls := findClass_of_methodNamed B.named
  have hlocks := B.notSynchronized
  obtain ⟨_, hN⟩ := id hK
  have hiX6 : ∀ w ∈ wsX60, w ∈ wsX6_best := by decide +kernel
  subst hsz
  have hD := hD0.self (sz := s.heap.size)
  generalize hAe : va_A (wMod b d d2 cI σ σ2 ω) s.heap.size = A at hD ⊢
  have hA : ∀ q : Nat, s.heap.size ≤ q → A q := fun q h => by rw [← hAe]; exact Or.inr h
  have hS : va_S A s.heap s.heap [] := va_S.rf
  have hP : va_P D vwCl (wMod b d d2 cI σ σ2 ω) s.heap := hP
  refine my_abs (fun Q hQ => ?_)
  obtain ⟨ls, hl, hent⟩ := my_entry (m := m) (n := 3) hargs (Nat.le_of_ble_eq_true rfl)
  rw [hent]
  have hl : lv_has ls 3 [(0, .ref (b 0)), (1, .int (nI cu))] := hl
  show W p l e ({ frames := 6, cells := 0, slots := 0, locals := 135 } : Room) s m args below meth c s.heap [] 0 0 Q (F0 m 0 ls [])
  refine lv_aload_n hx hb dX6_best_0 rfl (lv_at hl 0 rfl) ?_
  refine lv_iconst (v := 0) hx hb dX6_best_1 (by decide) ?_
  refine va_put (D := D) (ci := 6) (v := .int 0) (ty := .int) (C := RX6) (T := TX6) (N := 8) hx hb hts hiX6 tyX6 tyX6_ok nmX6 hown hK.1 hP hD hS 0 rfl rfl 0 (by decide) (hts (.fieldLink RX6 43 "IceLanesModel" "thrown" "I") (by decide +kernel)) (fun _ h9 => h9) rfl (by decide +kernel) rfl rfl (Nat.le_of_ble_eq_true rfl) dX6_best_2 (fun H locs hP hD hS => ?_)
  have hP : va_P D vwCl (wOutE b d d2 cI 0 (ω 19 0) (ω 1) (ω 2) (ω 14) (ω 15) ++ (wSta d (b 0) cI σ ++ wSta d2 (b 0) cI σ2)) H := hP
  have hD : va_D A (wOutE b d d2 cI 0 (ω 19 0) (ω 1) (ω 2) (ω 14) (ω 15) ++ (wSta d (b 0) cI σ ++ wSta d2 (b 0) cI σ2)) := hD
  refine lv_aload_n hx hb dX6_best_5 rfl (lv_at hl 0 rfl) ?_
  refine lv_iload_n hx hb dX6_best_6 rfl (lv_at hl 1 rfl) ?_
  refine rd_i (va_runV (As := [.int (nI cu)]) (rest := []) ⟨hx, hb, hml, hown, hts⟩ (M_X6_isCourier l D cI b d d2 σ σ2 (put ω 20 (fun _ => 0)) (nI cu) ) (cwV 1 hts gX6_best_X6_isCourier rfl rfl rfl (by decide +kernel) ⟨Nat.le_of_ble_eq_true rfl, Nat.le_of_ble_eq_true rfl⟩) (rdV hK hP [0, 1, 2, 3, 4, 5, 6, 7, 8, 9, 10, 11, 12] [0] rfl rfl (ci := 6) (q0 := 0) rfl rfl) rfl rfl hl.1 rfl (lv_room (Nat.le_of_ble_eq_true rfl)) dX6_best_7 ⟨Nat.zero_le _, Nat.zero_le _⟩) ?_
  refine W.eq (g2 := F0 m 10 ls [.int (bI (0 ≤ (nI cu) ∧ (nI cu) ≤ (σ 17 0) - 1))]) rfl ?_
  refine lv_if_ne (tgt := 19) hx hb dX6_best_10 (by decide) (fun c_1 => ?_) (fun c_1 => ?_)
  · skip
    have c_1 : (0 ≤ (nI cu) ∧ (nI cu) ≤ (σ 17 0) - 1) := bI_nz.mp c_1
    refine lv_bipush (v := 20) hx hb dX6_best_19 (by decide) ?_
    refine lv_istore_n (lv' := [(2, .int 20), (0, .ref (b 0)), (1, .int (nI cu))]) hx hb dX6_best_21 rfl hl (by decide) rfl (fun ls hl => ?_)
    have hl : lv_has ls 3 [(2, .int (nI 21 - 1)), (0, .ref (b 0)), (1, .int (nI cu))] := by rw [show nI 21 - 1 = 20 from (by decide)]; exact hl
    have loop22 : ∀ (n : Nat) (m1 : Nat) (α : St), m1 < n → (m1 ≤ 21 ∧ bsR σ cu m1 = bsR σ cu 21 ∧ bsE σ cu m1 α = bsE σ cu 21 σ2) → ∀ (H : Heap) (locs : List Loc), va_P D vwCl (wOutE b d d2 cI 0 (ω 19 0) (ω 1) (ω 2) (ω 14) (ω 15) ++ (wSta d (b 0) cI σ ++ wSta d2 (b 0) cI α)) H → va_D A (wOutE b d d2 cI 0 (ω 19 0) (ω 1) (ω 2) (ω 14) (ω 15) ++ (wSta d (b 0) cI σ ++ wSta d2 (b 0) cI α)) → va_S A s.heap H locs → ∀ (ls : Array Slot), lv_has ls 3 [(0, .ref (b 0)), (1, .int (nI cu)), (2, .int (nI m1 - 1))] → W p l e ({ frames := 6, cells := 0, slots := 0, locals := 135 } : Room) s m args below meth c H locs 0 0 Q (F0 m 22 ls []) := by
      intro n
      induction n with
      | zero => intro m1  α  hf; exact absurd hf (Nat.not_lt_zero _)
      | succ n ih22 =>
        intro m1  α  hf ⟨hm, hr9, he⟩ H locs hP hD hS ls hl
        refine lv_iload_n hx hb dX6_best_22 rfl (lv_at hl 2 rfl) ?_
        refine lv_if_lt (tgt := 64) hx hb dX6_best_23 (by decide) (fun c_2 => ?_) (fun c_2 => ?_)
        · skip
          have hm0 : m1 = 0 := (sub1_lt (by omega)).mp c_2
          refine lv_iconst (v := (-1)) hx hb dX6_best_64 (by decide) ?_
          subst hQ
          have hst_s2 : α = bsE σ cu 21 σ2 := (by rw [← he, hm0]; rfl)
          rw [hst_s2] at hP hD
          have hP : va_P D vwCl (wMod b d d2 cI σ (bsE σ cu 21 σ2) (put ω 20 (fun _ => 0))) H := hP
          have hD : va_D A (wMod b d d2 cI σ (bsE σ cu 21 σ2) (put ω 20 (fun _ => 0))) := hD
          exact ret_wri hx hb hr rfl hlocks hP hD hS (show (-1) = bsR σ cu 21 from (by rw [← hr9, hm0]; rfl)) dX6_best_65
        · skip
          have hm0 : ¬ m1 = 0 := fun z => c_2 ((sub1_lt (by omega)).mpr z)
          obtain ⟨m2, em⟩ : ∃ m2, m1 = m2 + 1 := ⟨m1 - 1, by omega⟩
          have hcu8 : cu < 8 := Nat.lt_of_lt_of_le hcu hok.1.2.2.1
          have hl : lv_has ls 3 [(0, .ref (b 0)), (1, .int (nI cu)), (2, .int (nI m2))] := by rw [show nI m2 = nI m1 - 1 from (by rw [em, nI_pred])]; exact hl
          refine lv_aload_n hx hb dX6_best_26 rfl (lv_at hl 0 rfl) ?_
          refine va_get (D := D) (ci := 6) (v := .ref (d2 0)) (C := RX6) (T := TX6) (N := 8) hx hb hts hiX6 hown hK.1 hP 0 rfl rfl 7 (by decide) (hts (.fieldLink RX6 31 "IceLanesModel" "ahead" "LIceLanesModel$State;") (by decide +kernel)) (fun _ h9 => h9) rfl dX6_best_27 ?_
          refine lv_aload_n hx hb dX6_best_30 rfl (lv_at hl 0 rfl) ?_
          refine va_get (D := D) (ci := 6) (v := .ref (d 0)) (C := RX6) (T := TX6) (N := 8) hx hb hts hiX6 hown hK.1 hP 0 rfl rfl 6 (by decide) (hts (.fieldLink RX6 27 "IceLanesModel" "s" "LIceLanesModel$State;") (by decide +kernel)) (fun _ h9 => h9) rfl dX6_best_31 ?_
          refine wr_v (wn := wOutE b d d2 cI 0 (ω 19 0) (ω 1) (ω 2) (ω 14) (ω 15) ++ (wSta d (b 0) cI σ ++ wSta d2 (b 0) cI σ)) (va_runV (As := [.ref (d 0)]) (rest := []) ⟨hx, hb, hml, hown, hts⟩ (M_X5_become l D cI d2 (b 0) d (b 0) α σ _ ) (cwV 1 hts gX6_best_X5_become rfl rfl rfl (by decide +kernel) ⟨Nat.le_of_ble_eq_true rfl, Nat.le_of_ble_eq_true rfl⟩) (wrV hK hP hD [9, 10, 11, 12, 5, 6, 7, 8] [0] rfl rfl rfl (ci := 5) (q0 := 9) rfl rfl) rfl rfl hl.1 rfl (lv_room (Nat.le_of_ble_eq_true rfl)) dX6_best_34 ⟨Nat.le_of_ble_eq_true rfl, Nat.le_of_ble_eq_true rfl⟩) hP hD hS hA [9, 10, 11, 12, 5, 6, 7, 8] [0, 1, 2, 3, 4] [0, 1, 2, 3, 4, 9, 10, 11, 12, 5, 6, 7, 8] rfl rfl rfl rfl rfl rfl (fun H locs hP hD hS => ?_)
          refine lv_aload_n hx hb dX6_best_37 rfl (lv_at hl 0 rfl) ?_
          refine va_get (D := D) (ci := 6) (v := .ref (d2 0)) (C := RX6) (T := TX6) (N := 8) hx hb hts hiX6 hown hK.1 hP 0 rfl rfl 7 (by decide) (hts (.fieldLink RX6 31 "IceLanesModel" "ahead" "LIceLanesModel$State;") (by decide +kernel)) (fun _ h9 => h9) rfl dX6_best_38 ?_
          refine lv_iload_n hx hb dX6_best_41 rfl (lv_at hl 1 rfl) ?_
          refine lv_iconst (v := 1) hx hb dX6_best_42 (by decide) ?_
          refine lv_iload_n hx hb dX6_best_43 rfl (lv_at hl 2 rfl) ?_
          refine wr_v (wn := wOutE b d d2 cI 0 (ω 19 0) (ω 1) (ω 2) (ω 14) (ω 15) ++ (wSta d (b 0) cI σ ++ wStaE d2 (b 0) cI (σ 0 0) (σ 17 0) (σ 16 0) (σ 18 0) (σ 3) (σ 4) (σ 5) (upd ((σ 6)) cu (nI m2)) (σ 7) (σ 8) (σ 9) (σ 10) (σ 11) (σ 12) (σ 13))) (va_runV (As := [.int (nI cu), .int 1, .int (nI m2)]) (rest := []) ⟨hx, hb, hml, hown, hts⟩ (M_X5_set_1 l D cI d2 (b 0) σ cu (nI m2) _ (by first | assumption | omega)) (cwV 3 hts gX6_best_X5_set rfl rfl rfl (by decide +kernel) ⟨Nat.le_of_ble_eq_true rfl, Nat.le_of_ble_eq_true rfl⟩) (wrV hK hP hD [9, 10, 11, 12] [0] rfl rfl rfl (ci := 5) (q0 := 9) rfl rfl) rfl rfl hl.1 rfl (lv_room (Nat.le_of_ble_eq_true rfl)) dX6_best_44 ⟨Nat.le_of_ble_eq_true rfl, Nat.le_of_ble_eq_true rfl⟩) hP hD hS hA [9, 10, 11, 12] [0, 1, 2, 3, 4, 5, 6, 7, 8] [0, 1, 2, 3, 4, 5, 6, 7, 8, 9, 10, 11, 12] rfl rfl rfl rfl rfl rfl (fun H locs hP hD hS => ?_)
          refine lv_aload_n hx hb dX6_best_47 rfl (lv_at hl 0 rfl) ?_
          refine lv_iload_n hx hb dX6_best_48 rfl (lv_at hl 1 rfl) ?_
          refine wr_i (wn := wMod b d d2 cI σ (amE cu 151 (put σ 6 (upd ((σ 6)) cu (nI m2)))) (put ω 20 (fun _ => 0))) (va_runV (As := [.int (nI cu)]) (rest := []) ⟨hx, hb, hml, hown, hts⟩ (M_X6_arrivesAhead l D cI b d d2 σ (put σ 6 (upd ((σ 6)) cu (nI m2))) (put ω 20 (fun _ => 0)) cu h nc _ (okM_lt (cu := cu) (m := m2) hok) (by omega) hcu) (cwV 1 hts gX6_best_X6_arrivesAhead rfl rfl rfl (by decide +kernel) ⟨Nat.le_of_ble_eq_true rfl, Nat.le_of_ble_eq_true rfl⟩) (wrV hK hP hD [0, 1, 2, 3, 4, 5, 6, 7, 8, 9, 10, 11, 12] [0] rfl rfl rfl (ci := 6) (q0 := 0) rfl rfl) rfl rfl hl.1 rfl (lv_room (Nat.le_of_ble_eq_true rfl)) dX6_best_49 ⟨Nat.le_of_ble_eq_true rfl, Nat.le_of_ble_eq_true rfl⟩) hP hD hS hA [0, 1, 2, 3, 4, 5, 6, 7, 8, 9, 10, 11, 12] [] [0, 1, 2, 3, 4, 5, 6, 7, 8, 9, 10, 11, 12] rfl rfl rfl rfl rfl rfl (fun H locs hP hD hS => ?_)
          refine W.eq (g2 := F0 m 52 ls [.int (amR cu 151 0 (put σ 6 (upd ((σ 6)) cu (nI m2))))]) rfl ?_
          generalize eσ_3 : amE cu 151 (put σ 6 (upd ((σ 6)) cu (nI m2))) = σ_3 at hP hD
          refine lv_iconst (v := (-1)) hx hb dX6_best_52 (by decide) ?_
          refine lv_icmp_eq (tgt := 58) hx hb dX6_best_53 (by decide) (fun c_4 => ?_) (fun c_4 => ?_)
          · skip
            have hbt : amR cu 151 0 (ltF σ cu m2) = -1 := c_4
            refine lv_iinc (v := nI m2 - 1) (lv' := [(2, .int (nI m2 - 1)), (0, .ref (b 0)), (1, .int (nI cu))]) hx hb dX6_best_58 hl (k := 2) rfl (by rw [Int32.sub_eq_add_neg]; rfl) (by decide) rfl (fun ls hl => ?_)
            refine lv_goto (tgt := 22) hx hb dX6_best_61 (by decide) ?_
            exact ih22 m2 σ_3 (by omega) ⟨by omega, (by rw [← hr9, em, bsR_t hbt]), (by rw [← eσ_3, ← he, em, bsE_t hbt]; rfl)⟩ _ _ hP hD hS ls (lv_sub hl [1, 2, 0] rfl)
          · skip
            have hbf : ¬ amR cu 151 0 (ltF σ cu m2) = -1 := c_4
            refine lv_iload_n hx hb dX6_best_56 rfl (lv_at hl 2 rfl) ?_
            subst hQ
            have hst_s2 : σ_3 = bsE σ cu 21 σ2 := (by rw [← eσ_3, ← he, em, bsE_f hbf]; rfl)
            rw [hst_s2] at hP hD
            have hP : va_P D vwCl (wMod b d d2 cI σ (bsE σ cu 21 σ2) (put ω 20 (fun _ => 0))) H := hP
            have hD : va_D A (wMod b d d2 cI σ (bsE σ cu 21 σ2) (put ω 20 (fun _ => 0))) := hD
            exact ret_wri hx hb hr rfl hlocks hP hD hS (show nI m2 = bsR σ cu 21 from (by rw [← hr9, em, bsR_f hbf])) dX6_best_57
    exact loop22 22 21 σ2 (by omega) ⟨by omega, rfl, rfl⟩ _ _ hP hD hS ls (lv_sub hl [1, 2, 0] rfl)
  · skip
    have c_1 : ¬ (0 ≤ (nI cu) ∧ (nI cu) ≤ (σ 17 0) - 1) := bI_z.mp c_1
    first | exact absurd c_1 (by assumption) | exact absurd (by assumption) c_1
set_option maxHeartbeats 4000000 in
set_option maxRecDepth 100000 in
theorem M_X6_thaw_ok (l : Launch) (D : va_G) (cI : ClassId) (b : Nat → Nat) (d : Nat → Nat) (d2 : Nat → Nat) (σ : St) (σ2 : St) (ω : St) (h : Nat) (nc : Nat) (sz : Nat) (hok : okM σ ω h nc) (hbd : h + 1000 < 2 ^ 30) : Met l yX6_thaw wsX6_thaw ({ frames := 5, cells := 0, slots := 0, locals := 113 } : Room) (wrPc [.ref (b 0)] D (wMod b d d2 cI σ σ2 ω) [(cI, .int)] sz) (wrQi (thS 720 σ 16 0) D (wMod b d d2 cI σ (thS 720 σ) (put ω 20 (fun _ => 0))) (va_A (wMod b d d2 cI σ σ2 ω) sz)) 0 0 (va_A (wMod b d d2 cI σ σ2 ω) sz) := by
  refine Met.ofW (cc := cX6_thaw) (maxL := 2) (ret := (some .int)) (by decide) rfl ?_
  intro p e s m args below meth c s₁ B hml hv
  obtain ⟨hargs, hsz, hP, hK, hD0⟩ := hv
  have hx := B.exec
  have hb := B.bytes
  have hr := B.returns
  have hts := atoms_spec (ws := wsX6_thaw) B.pre
  have hown : s.vm.findClass RX6 = some m.cls := findClass_of_methodNamed B.named
  have hlocks := B.notSynchronized
  obtain ⟨_, hN⟩ := id hK
  have hiX5 : ∀ w ∈ wsX50, w ∈ wsX6_thaw := by decide +kernel
  have hiX6 : ∀ w ∈ wsX60, w ∈ wsX6_thaw := by decide +kernel
  subst hsz
  have hD := hD0.self (sz := s.heap.size)
  generalize hAe : va_A (wMod b d d2 cI σ σ2 ω) s.heap.size = A at hD ⊢
  have hA : ∀ q : Nat, s.heap.size ≤ q → A q := fun q h => by rw [← hAe]; exact Or.inr h
  have hS : va_S A s.heap s.heap [] := va_S.rf
  have hP : va_P D vwCl (wMod b d d2 cI σ σ2 ω) s.heap := hP
  refine my_abs (fun Q hQ => ?_)
  obtain ⟨ls, hl, hent⟩ := my_entry (m := m) (n := 2) hargs (Nat.le_of_ble_eq_true rfl)
  rw [hent]
  have hl : lv_has ls 2 [(0, .ref (b 0))] := hl
  show W p l e ({ frames := 5, cells := 0, slots := 0, locals := 113 } : Room) s m args below meth c s.heap [] 0 0 Q (F0 m 0 ls [])
  refine lv_aload_n hx hb dX6_thaw_0 rfl (lv_at hl 0 rfl) ?_
  refine lv_iconst (v := 0) hx hb dX6_thaw_1 (by decide) ?_
  refine va_put (D := D) (ci := 6) (v := .int 0) (ty := .int) (C := RX6) (T := TX6) (N := 8) hx hb hts hiX6 tyX6 tyX6_ok nmX6 hown hK.1 hP hD hS 0 rfl rfl 0 (by decide) (hts (.fieldLink RX6 43 "IceLanesModel" "thrown" "I") (by decide +kernel)) (fun _ h9 => h9) rfl (by decide +kernel) rfl rfl (Nat.le_of_ble_eq_true rfl) dX6_thaw_2 (fun H locs hP hD hS => ?_)
  have hP : va_P D vwCl (wOutE b d d2 cI 0 (ω 19 0) (ω 1) (ω 2) (ω 14) (ω 15) ++ (wSta d (b 0) cI σ ++ wSta d2 (b 0) cI σ2)) H := hP
  have hD : va_D A (wOutE b d d2 cI 0 (ω 19 0) (ω 1) (ω 2) (ω 14) (ω 15) ++ (wSta d (b 0) cI σ ++ wSta d2 (b 0) cI σ2)) := hD
  refine lv_aload_n hx hb dX6_thaw_5 rfl (lv_at hl 0 rfl) ?_
  refine va_get (D := D) (ci := 6) (v := .ref (d2 0)) (C := RX6) (T := TX6) (N := 8) hx hb hts hiX6 hown hK.1 hP 0 rfl rfl 7 (by decide) (hts (.fieldLink RX6 31 "IceLanesModel" "ahead" "LIceLanesModel$State;") (by decide +kernel)) (fun _ h9 => h9) rfl dX6_thaw_6 ?_
  refine lv_aload_n hx hb dX6_thaw_9 rfl (lv_at hl 0 rfl) ?_
  refine va_get (D := D) (ci := 6) (v := .ref (d 0)) (C := RX6) (T := TX6) (N := 8) hx hb hts hiX6 hown hK.1 hP 0 rfl rfl 6 (by decide) (hts (.fieldLink RX6 27 "IceLanesModel" "s" "LIceLanesModel$State;") (by decide +kernel)) (fun _ h9 => h9) rfl dX6_thaw_10 ?_
  refine wr_v (wn := wOutE b d d2 cI 0 (ω 19 0) (ω 1) (ω 2) (ω 14) (ω 15) ++ (wSta d (b 0) cI σ ++ wSta d2 (b 0) cI σ)) (va_runV (As := [.ref (d 0)]) (rest := []) ⟨hx, hb, hml, hown, hts⟩ (M_X5_become l D cI d2 (b 0) d (b 0) σ2 σ _ ) (cwV 1 hts gX6_thaw_X5_become rfl rfl rfl (by decide +kernel) ⟨Nat.le_of_ble_eq_true rfl, Nat.le_of_ble_eq_true rfl⟩) (wrV hK hP hD [9, 10, 11, 12, 5, 6, 7, 8] [0] rfl rfl rfl (ci := 5) (q0 := 9) rfl rfl) rfl rfl hl.1 rfl (lv_room (Nat.le_of_ble_eq_true rfl)) dX6_thaw_13 ⟨Nat.le_of_ble_eq_true rfl, Nat.le_of_ble_eq_true rfl⟩) hP hD hS hA [9, 10, 11, 12, 5, 6, 7, 8] [0, 1, 2, 3, 4] [0, 1, 2, 3, 4, 9, 10, 11, 12, 5, 6, 7, 8] rfl rfl rfl rfl rfl rfl (fun H locs hP hD hS => ?_)
  refine lv_iconst (v := 0) hx hb dX6_thaw_16 (by decide) ?_
  refine lv_istore_n (lv' := [(1, .int 0), (0, .ref (b 0))]) hx hb dX6_thaw_17 rfl hl (by decide) rfl (fun ls hl => ?_)
  have loop18 : ∀ (n : Nat) (k : Nat) (τ : St), 721 - k < n → (k ≤ 720 ∧ okM τ ω (h + k) nc ∧ thS (720 - k) τ = thS 720 σ) → ∀ (H : Heap) (locs : List Loc), va_P D vwCl (wOutE b d d2 cI 0 (ω 19 0) (ω 1) (ω 2) (ω 14) (ω 15) ++ (wSta d (b 0) cI σ ++ wSta d2 (b 0) cI τ)) H → va_D A (wOutE b d d2 cI 0 (ω 19 0) (ω 1) (ω 2) (ω 14) (ω 15) ++ (wSta d (b 0) cI σ ++ wSta d2 (b 0) cI τ)) → va_S A s.heap H locs → ∀ (ls : Array Slot), lv_has ls 2 [(0, .ref (b 0)), (1, .int (nI k))] → W p l e ({ frames := 5, cells := 0, slots := 0, locals := 113 } : Room) s m args below meth c H locs 0 0 Q (F0 m 18 ls []) := by
    intro n
    induction n with
    | zero => intro k  τ  hf; exact absurd hf (Nat.not_lt_zero _)
    | succ n ih18 =>
      intro k  τ  hf ⟨hk, hokτ, he⟩ H locs hP hD hS ls hl
      refine lv_iload_n hx hb dX6_thaw_18 rfl (lv_at hl 1 rfl) ?_
      refine lv_sipush (v := 720) hx hb dX6_thaw_19 (by decide) ?_
      refine lv_icmp_ge (tgt := 49) hx hb dX6_thaw_22 (by decide) (fun c_1 => ?_) (fun c_1 => ?_)
      · skip
        have hk2 : 720 ≤ k := lp_ge (N := 720) (k := k) c_1 (by omega) (by omega)
        have hfin : τ = thS 720 σ := by rw [← he, show 720 - k = 0 by omega]; rfl
        refine lv_aload_n hx hb dX6_thaw_49 rfl (lv_at hl 0 rfl) ?_
        refine va_get (D := D) (ci := 6) (v := .ref (d2 0)) (C := RX6) (T := TX6) (N := 8) hx hb hts hiX6 hown hK.1 hP 0 rfl rfl 7 (by decide) (hts (.fieldLink RX6 31 "IceLanesModel" "ahead" "LIceLanesModel$State;") (by decide +kernel)) (fun _ h9 => h9) rfl dX6_thaw_50 ?_
        refine va_getN (D := D) (ci := 5) (v := .int (τ 16 0)) (C := RX5) (T := TX5) (N := 8) hx hb hts hiX5 hown hK.1 hP 9 rfl rfl 2 (by decide) (va_Nw.use rfl (nX6_110 hN)) (fun _ h9 => h9) rfl dX6_thaw_53 ?_
        subst hQ
        have hst_s2 : τ = thS 720 σ := hfin
        rw [hst_s2] at hP hD
        have hP : va_P D vwCl (wMod b d d2 cI σ (thS 720 σ) (put ω 20 (fun _ => 0))) H := hP
        have hD : va_D A (wMod b d d2 cI σ (thS 720 σ) (put ω 20 (fun _ => 0))) := hD
        exact ret_wri hx hb hr rfl hlocks hP hD hS (show τ 16 0 = thS 720 σ 16 0 from (by rw [hfin])) dX6_thaw_56
      · skip
        have hk2 : k < 720 := lp_nge (N := 720) (k := k) c_1 (by omega) (by omega)
        refine lv_aload_n hx hb dX6_thaw_25 rfl (lv_at hl 0 rfl) ?_
        refine va_get (D := D) (ci := 6) (v := .ref (d2 0)) (C := RX6) (T := TX6) (N := 8) hx hb hts hiX6 hown hK.1 hP 0 rfl rfl 7 (by decide) (hts (.fieldLink RX6 31 "IceLanesModel" "ahead" "LIceLanesModel$State;") (by decide +kernel)) (fun _ h9 => h9) rfl dX6_thaw_26 ?_
        refine va_getN (D := D) (ci := 5) (v := .int (τ 16 0)) (C := RX5) (T := TX5) (N := 8) hx hb hts hiX5 hown hK.1 hP 9 rfl rfl 2 (by decide) (va_Nw.use rfl (nX6_110 hN)) (fun _ h9 => h9) rfl dX6_thaw_29 ?_
        refine lv_iconst (v := (-1)) hx hb dX6_thaw_32 (by decide) ?_
        refine lv_icmp_ne (tgt := 49) hx hb dX6_thaw_33 (by decide) (fun c_2 => ?_) (fun c_2 => ?_)
        · skip
          have hfin : τ = thS 720 σ := by rw [← he]; exact (thS_f c_2).symm
          refine lv_aload_n hx hb dX6_thaw_49 rfl (lv_at hl 0 rfl) ?_
          refine va_get (D := D) (ci := 6) (v := .ref (d2 0)) (C := RX6) (T := TX6) (N := 8) hx hb hts hiX6 hown hK.1 hP 0 rfl rfl 7 (by decide) (hts (.fieldLink RX6 31 "IceLanesModel" "ahead" "LIceLanesModel$State;") (by decide +kernel)) (fun _ h9 => h9) rfl dX6_thaw_50 ?_
          refine va_getN (D := D) (ci := 5) (v := .int (τ 16 0)) (C := RX5) (T := TX5) (N := 8) hx hb hts hiX5 hown hK.1 hP 9 rfl rfl 2 (by decide) (va_Nw.use rfl (nX6_110 hN)) (fun _ h9 => h9) rfl dX6_thaw_53 ?_
          subst hQ
          have hst_s2 : τ = thS 720 σ := hfin
          rw [hst_s2] at hP hD
          have hP : va_P D vwCl (wMod b d d2 cI σ (thS 720 σ) (put ω 20 (fun _ => 0))) H := hP
          have hD : va_D A (wMod b d d2 cI σ (thS 720 σ) (put ω 20 (fun _ => 0))) := hD
          exact ret_wri hx hb hr rfl hlocks hP hD hS (show τ 16 0 = thS 720 σ 16 0 from (by rw [hfin])) dX6_thaw_56
        · skip
          refine lv_aload_n hx hb dX6_thaw_36 rfl (lv_at hl 0 rfl) ?_
          refine va_get (D := D) (ci := 6) (v := .ref (d2 0)) (C := RX6) (T := TX6) (N := 8) hx hb hts hiX6 hown hK.1 hP 0 rfl rfl 7 (by decide) (hts (.fieldLink RX6 31 "IceLanesModel" "ahead" "LIceLanesModel$State;") (by decide +kernel)) (fun _ h9 => h9) rfl dX6_thaw_37 ?_
          refine wr_v (wn := wMod b d d2 cI σ (hourF τ) (put ω 20 (fun _ => 0))) (va_runV (As := []) (rest := []) ⟨hx, hb, hml, hown, hts⟩ (M_X5_pass l D cI d2 b d d2 τ (put ω 20 (fun _ => 0)) (h + k) nc _ hokτ.1 (by omega) hokτ.2.1 hokτ.2.2.1 hokτ.2.2.2.1 hokτ.2.2.2.2.1 hokτ.2.2.2.2.2) (cwV 0 hts gX6_thaw_X5_pass rfl rfl rfl (by decide +kernel) ⟨Nat.le_of_ble_eq_true rfl, Nat.le_of_ble_eq_true rfl⟩) (wrV hK hP hD [9, 10, 11, 12, 0, 1, 2, 3, 4] [0] rfl rfl rfl (ci := 5) (q0 := 9) rfl rfl) rfl rfl hl.1 rfl (lv_room (Nat.le_of_ble_eq_true rfl)) dX6_thaw_40 ⟨Nat.le_of_ble_eq_true rfl, Nat.le_of_ble_eq_true rfl⟩) hP hD hS hA [9, 10, 11, 12, 0, 1, 2, 3, 4] [5, 6, 7, 8] [8, 9, 10, 11, 12, 0, 1, 2, 3, 4, 5, 6, 7] rfl rfl rfl rfl rfl rfl (fun H locs hP hD hS => ?_)
          generalize eσ_3 : hourF τ = σ_3 at hP hD
          refine lv_iinc (v := nI (k + 1)) (lv' := [(1, .int (nI (k + 1))), (0, .ref (b 0))]) hx hb dX6_thaw_43 hl (k := 1) rfl (nI_1 k) (by decide) rfl (fun ls hl => ?_)
          refine lv_goto (tgt := 18) hx hb dX6_thaw_46 (by decide) ?_
          exact ih18 (k + 1) σ_3 (by omega) ⟨by omega, (by rw [← eσ_3, show h + (k + 1) = (h + k) + 1 by omega]; exact okM_hour hokτ (by omega)), (by rw [← eσ_3, ← he, show 720 - k = (720 - (k + 1)) + 1 by omega, thS_t (by assumption)])⟩ _ _ hP hD hS ls (lv_sub hl [1, 0] rfl)
  exact loop18 722 0 σ (by omega) ⟨by omega, hok, rfl⟩ _ _ hP hD hS ls (lv_sub hl [1, 0] rfl)
set_option maxHeartbeats 4000000 in
set_option maxRecDepth 100000 in
theorem M_X6_mean_ok (l : Launch) (D : va_G) (cI : ClassId) (b : Nat → Nat) (d : Nat → Nat) (d2 : Nat → Nat) (σ : St) (σ2 : St) (ω : St) (sz : Nat) (hI : okI (σ 3)) : Met l yX6_mean wsX6_mean ({ frames := 0, cells := 0, slots := 0, locals := 0 } : Room) (wrPc [.ref (b 0)] D (wMod b d d2 cI σ σ2 ω) [(cI, .int)] sz) (wrQd (mnF σ) D (wMod b d d2 cI σ σ2 (put ω 20 (fun _ => 0))) (va_A (wMod b d d2 cI σ σ2 ω) sz)) 0 0 (va_A (wMod b d d2 cI σ σ2 ω) sz) := by
  refine Met.ofW (cc := cX6_mean) (maxL := 3) (ret := (some .double)) (by decide) rfl ?_
  intro p e s m args below meth c s₁ B hml hv
  obtain ⟨hargs, hsz, hP, hK, hD0⟩ := hv
  have hx := B.exec
  have hb := B.bytes
  have hr := B.returns
  have hts := atoms_spec (ws := wsX6_mean) B.pre
  have hown : s.vm.findClass RX6 = some m.cls := findClass_of_methodNamed B.named
  have hlocks := B.notSynchronized
  obtain ⟨_, hN⟩ := id hK
  have hiX5 : ∀ w ∈ wsX50, w ∈ wsX6_mean := by decide +kernel
  have hiX6 : ∀ w ∈ wsX60, w ∈ wsX6_mean := by decide +kernel
  subst hsz
  have hD := hD0.self (sz := s.heap.size)
  generalize hAe : va_A (wMod b d d2 cI σ σ2 ω) s.heap.size = A at hD ⊢
  have hA : ∀ q : Nat, s.heap.size ≤ q → A q := fun q h => by rw [← hAe]; exact Or.inr h
  have hS : va_S A s.heap s.heap [] := va_S.rf
  have hP : va_P D vwCl (wMod b d d2 cI σ σ2 ω) s.heap := hP
  refine my_abs (fun Q hQ => ?_)
  obtain ⟨ls, hl, hent⟩ := my_entry (m := m) (n := 3) hargs (Nat.le_of_ble_eq_true rfl)
  rw [hent]
  have hl : lv_has ls 3 [(0, .ref (b 0))] := hl
  show W p l e ({ frames := 0, cells := 0, slots := 0, locals := 0 } : Room) s m args below meth c s.heap [] 0 0 Q (F0 m 0 ls [])
  refine lv_aload_n hx hb dX6_mean_0 rfl (lv_at hl 0 rfl) ?_
  refine lv_iconst (v := 0) hx hb dX6_mean_1 (by decide) ?_
  refine va_put (D := D) (ci := 6) (v := .int 0) (ty := .int) (C := RX6) (T := TX6) (N := 8) hx hb hts hiX6 tyX6 tyX6_ok nmX6 hown hK.1 hP hD hS 0 rfl rfl 0 (by decide) (hts (.fieldLink RX6 43 "IceLanesModel" "thrown" "I") (by decide +kernel)) (fun _ h9 => h9) rfl (by decide +kernel) rfl rfl (Nat.le_of_ble_eq_true rfl) dX6_mean_2 (fun H locs hP hD hS => ?_)
  have hP : va_P D vwCl (wOutE b d d2 cI 0 (ω 19 0) (ω 1) (ω 2) (ω 14) (ω 15) ++ (wSta d (b 0) cI σ ++ wSta d2 (b 0) cI σ2)) H := hP
  have hD : va_D A (wOutE b d d2 cI 0 (ω 19 0) (ω 1) (ω 2) (ω 14) (ω 15) ++ (wSta d (b 0) cI σ ++ wSta d2 (b 0) cI σ2)) := hD
  refine lv_iconst (v := 0) hx hb dX6_mean_5 (by decide) ?_
  refine lv_istore_n (lv' := [(1, .int 0), (0, .ref (b 0))]) hx hb dX6_mean_6 rfl hl (by decide) rfl (fun ls hl => ?_)
  refine lv_iconst (v := 0) hx hb dX6_mean_7 (by decide) ?_
  refine lv_istore_n (lv' := [(2, .int 0), (1, .int 0), (0, .ref (b 0))]) hx hb dX6_mean_8 rfl hl (by decide) rfl (fun ls hl => ?_)
  have loop9 : ∀ (n : Nat) (k : Nat), 36 - k < n → k ≤ 36 → ∀ (H : Heap) (locs : List Loc), va_P D vwCl (wOutE b d d2 cI 0 (ω 19 0) (ω 1) (ω 2) (ω 14) (ω 15) ++ (wSta d (b 0) cI σ ++ wSta d2 (b 0) cI σ2)) H → va_D A (wOutE b d d2 cI 0 (ω 19 0) (ω 1) (ω 2) (ω 14) (ω 15) ++ (wSta d (b 0) cI σ ++ wSta d2 (b 0) cI σ2)) → va_S A s.heap H locs → ∀ (ls : Array Slot), lv_has ls 3 [(0, .ref (b 0)), (1, .int (sumF (σ 3) k)), (2, .int (nI k))] → W p l e ({ frames := 0, cells := 0, slots := 0, locals := 0 } : Room) s m args below meth c H locs 0 0 Q (F0 m 9 ls []) := by
    intro n
    induction n with
    | zero => intro k  hf; exact absurd hf (Nat.not_lt_zero _)
    | succ n ih9 =>
      intro k  hf hk H locs hP hD hS ls hl
      refine lv_iload_n hx hb dX6_mean_9 rfl (lv_at hl 2 rfl) ?_
      refine lv_bipush (v := 36) hx hb dX6_mean_10 (by decide) ?_
      refine lv_icmp_ge (tgt := 33) hx hb dX6_mean_12 (by decide) (fun c_1 => ?_) (fun c_1 => ?_)
      · skip
        have hk2 : 36 ≤ k := lp_ge (N := 36) (k := k) c_1 (by omega) (by omega)
        refine lv_iload_n hx hb dX6_mean_33 rfl (lv_at hl 1 rfl) ?_
        refine lv_i2d hx hb dX6_mean_34 ?_
        refine lv_ldc2d (v := 4630263366890291200) hx hb hown (hts (.constantDouble RX6 141 (4630263366890291200)) (by decide +kernel)) dX6_mean_35 ?_
        refine lv_ddiv hx hb dX6_mean_38 (by rw [show k = 36 by omega]; exact mean_n hI) ?_
        subst hQ
        have hP : va_P D vwCl (wMod b d d2 cI σ σ2 (put ω 20 (fun _ => 0))) H := hP
        have hD : va_D A (wMod b d d2 cI σ σ2 (put ω 20 (fun _ => 0))) := hD
        exact ret_wrd hx hb hr hlocks hP hD hS (show FP.ddiv (FP.i2d (sumF (σ 3) k)) 4630263366890291200 = mnF σ from (by unfold mnF; rw [show k = 36 by omega])) dX6_mean_39
      · skip
        have hk2 : k < 36 := lp_nge (N := 36) (k := k) c_1 (by omega) (by omega)
        refine lv_iload_n hx hb dX6_mean_15 rfl (lv_at hl 1 rfl) ?_
        refine lv_aload_n hx hb dX6_mean_16 rfl (lv_at hl 0 rfl) ?_
        refine va_get (D := D) (ci := 6) (v := .ref (d 0)) (C := RX6) (T := TX6) (N := 8) hx hb hts hiX6 hown hK.1 hP 0 rfl rfl 6 (by decide) (hts (.fieldLink RX6 27 "IceLanesModel" "s" "LIceLanesModel$State;") (by decide +kernel)) (fun _ h9 => h9) rfl dX6_mean_17 ?_
        refine va_getN (D := D) (ci := 5) (v := .ref (d 1)) (C := RX5) (T := TX5) (N := 8) hx hb hts hiX5 hown hK.1 hP 5 rfl rfl 4 (by decide) (va_Nw.use rfl (nX6_40 hN)) (fun _ h9 => h9) rfl dX6_mean_20 ?_
        refine lv_iload_n hx hb dX6_mean_23 rfl (lv_at hl 2 rfl) ?_
        refine va_iald hx hb hK.1 hP 6 0 rfl rfl (by first | assumption | exact vp_in_nI (by omega) (by decide)) dX6_mean_24 ?_
        rw [nI_clamp (n := k) (by omega)]
        refine lv_iadd hx hb dX6_mean_25 ?_
        refine lv_istore_n (lv' := [(1, .int ((sumF (σ 3) k) + (σ 3 k))), (0, .ref (b 0)), (2, .int (nI k))]) hx hb dX6_mean_26 rfl hl (by decide) rfl (fun ls hl => ?_)
        refine lv_iinc (v := nI (k + 1)) (lv' := [(2, .int (nI (k + 1))), (1, .int ((sumF (σ 3) k) + (σ 3 k))), (0, .ref (b 0))]) hx hb dX6_mean_27 hl (k := 2) rfl (nI_1 k) (by decide) rfl (fun ls hl => ?_)
        refine lv_goto (tgt := 9) hx hb dX6_mean_30 (by decide) ?_
        exact ih9 (k + 1) (by omega) (by omega) _ _ hP hD hS ls (lv_sub hl [2, 1, 0] rfl)
  exact loop9 37 0 (by omega) (by omega) _ _ hP hD hS ls (lv_sub hl [2, 1, 0] rfl)
