set_option maxHeartbeats 4000000 in
set_option maxRecDepth 100000 in
theorem M_X2_spendHour (l : Launch) (D : va_G) (cI : ClassId) (a : Nat → Nat) (σ : St) (h : Nat) (nc : Nat) (sz : Nat) (hok : okR σ h nc) (hbd : h < 2 ^ 30) : Met l yX2_spendHour wsX2_spendHour ({ frames := 5, cells := 0, slots := 0, locals := 118 } : Room) (wrPc [.ref (a 0)] D (wRiv a cI σ) [(cI, .int)] sz) (wrQi (hourA σ) D (wRiv a cI (hourF σ)) (va_A (wRiv a cI σ) sz)) 0 0 (va_A (wRiv a cI σ) sz) := by
  refine Met.ofW (cc := cX2_spendHour) (maxL := 4) (ret := (some .int)) (by decide) rfl ?_
  intro p e s m args below meth c s₁ B hml hv
  obtain ⟨hargs, hsz, hP, hK, hD0⟩ := hv
  have hx := B.exec
  have hb := B.bytes
  have hr := B.returns
  have hts := atoms_spec (ws := wsX2_spendHour) B.pre
  have hown : s.vm.findClass RX2 = some m.cls := findClass_of_methodNamed B.named
  have hlocks := B.notSynchronized
  obtain ⟨_, hN⟩ := id hK
  have hiX0 : ∀ w ∈ wsX00, w ∈ wsX2_spendHour := by decide +kernel
  have hiX2 : ∀ w ∈ wsX20, w ∈ wsX2_spendHour := by decide +kernel
  subst hsz
  have hD := hD0.self (sz := s.heap.size)
  generalize hAe : va_A (wRiv a cI σ) s.heap.size = A at hD ⊢
  have hA : ∀ q : Nat, s.heap.size ≤ q → A q := fun q h => by rw [← hAe]; exact Or.inr h
  have hS : va_S A s.heap s.heap [] := va_S.rf
  have hP : va_P D vwCl (wRiv a cI σ) s.heap := hP
  refine my_abs (fun Q hQ => ?_)
  obtain ⟨ls, hl, hent⟩ := my_entry (m := m) (n := 4) hargs (Nat.le_of_ble_eq_true rfl)
  rw [hent]
  have hl : lv_has ls 4 [(0, .ref (a 0))] := hl
  show W p l e ({ frames := 5, cells := 0, slots := 0, locals := 118 } : Room) s m args below meth c s.heap [] 0 0 Q (F0 m 0 ls [])
  obtain ⟨hh, hnc, hn8, hokj⟩ := hok
  refine lv_aload_n hx hb dX2_spendHour_0 rfl (lv_at hl 0 rfl) ?_
  refine va_get (D := D) (ci := 2) (v := .int (σ 0 0)) (C := RX2) (T := TX2) (N := 6) hx hb hts hiX2 hown hK.1 hP 0 rfl rfl 0 (by decide) (hts (.fieldLink RX2 36 "IceLanes$River" "hour" "I") (by decide +kernel)) (fun _ h9 => h9) rfl dX2_spendHour_1 ?_
  rw [hh]
  refine lv_bipush (v := 12) hx hb dX2_spendHour_4 (by decide) ?_
  refine lv_idiv hx hb dX2_spendHour_6 (by decide) ?_
  rw [show nI h / 12 = nI (h / 12) from div_nI (d := 12) rfl (by omega) (by decide) (by decide)]
  refine lv_istore_n (lv' := [(1, .int (nI (h / 12))), (0, .ref (a 0))]) hx hb dX2_spendHour_7 rfl hl (by decide) rfl (fun ls hl => ?_)
  have join36 : ∀ (σ1 : St), σ1 = hr1 σ → ∀ (H : Heap) (locs : List Loc), va_P D vwCl (wRiv a cI σ1) H → va_D A (wRiv a cI σ1) → va_S A s.heap H locs → ∀ (ls : Array Slot), lv_has ls 4 [(0, .ref (a 0)), (1, .int (nI (h / 12)))] → W p l e ({ frames := 5, cells := 0, slots := 0, locals := 118 } : Room) s m args below meth c H locs 0 0 Q (F0 m 36 ls []) := by
    intro σ1  hσ1 H locs hP hD hS ls hl
    have join58 : ∀ (σ2 : St), σ2 = hr2 (hr1 σ) → ∀ (H : Heap) (locs : List Loc), va_P D vwCl (wRiv a cI σ2) H → va_D A (wRiv a cI σ2) → va_S A s.heap H locs → ∀ (ls : Array Slot), lv_has ls 4 [(0, .ref (a 0))] → W p l e ({ frames := 5, cells := 0, slots := 0, locals := 118 } : Room) s m args below meth c H locs 0 0 Q (F0 m 58 ls []) := by
      intro σ2  hσ2 H locs hP hD hS ls hl
      have hok2 : ∀ j, j < nc → okC σ2 j := fun j hj => by rw [hσ2]; exact hr12_ok (hokj j hj)
      have hn2 : σ2 17 0 = nI nc := by rw [hσ2, hr2_k _ (by omega), hr1_k _ (by omega)]; exact hnc
      have h02 : σ2 0 0 = nI h := by rw [hσ2, hr2_k _ (by omega), hr1_k _ (by omega)]; exact hh
      refine lv_iconst (v := 0) hx hb dX2_spendHour_58 (by decide) ?_
      refine lv_istore_n (lv' := [(2, .int 0), (0, .ref (a 0))]) hx hb dX2_spendHour_59 rfl hl (by decide) rfl (fun ls hl => ?_)
      refine lv_iconst (v := 0) hx hb dX2_spendHour_60 (by decide) ?_
      refine lv_istore_n (lv' := [(3, .int 0), (2, .int 0), (0, .ref (a 0))]) hx hb dX2_spendHour_61 rfl hl (by decide) rfl (fun ls hl => ?_)
      have loop62 : ∀ (n : Nat) (k : Nat) (τ : St) (acc : Int32), 9 - k < n → (k ≤ nc ∧ τ = trA σ2 k ∧ τ 17 0 = nI nc ∧ acc = arrC σ2 k) → ∀ (H : Heap) (locs : List Loc), va_P D vwCl (wRiv a cI τ) H → va_D A (wRiv a cI τ) → va_S A s.heap H locs → ∀ (ls : Array Slot), lv_has ls 4 [(0, .ref (a 0)), (2, .int acc), (3, .int (nI k))] → W p l e ({ frames := 5, cells := 0, slots := 0, locals := 118 } : Room) s m args below meth c H locs 0 0 Q (F0 m 62 ls []) := by
        intro n
        induction n with
        | zero => intro k  τ  acc  hf; exact absurd hf (Nat.not_lt_zero _)
        | succ n ih62 =>
          intro k  τ  acc  hf ⟨hk, hτ, hτn, hacc⟩ H locs hP hD hS ls hl
          refine lv_iload_n hx hb dX2_spendHour_62 rfl (lv_at hl 2 rfl) ?_
          refine lv_aload_n hx hb dX2_spendHour_63 rfl (lv_at hl 0 rfl) ?_
          refine va_get (D := D) (ci := 2) (v := .ref (a 6)) (C := RX2) (T := TX2) (N := 6) hx hb hts hiX2 hown hK.1 hP 0 rfl rfl 5 (by decide) (hts (.fieldLink RX2 32 "IceLanes$River" "couriers" "LIceLanes$Couriers;") (by decide +kernel)) (fun _ h9 => h9) rfl dX2_spendHour_64 ?_
          refine va_getN (D := D) (ci := 0) (v := .int (τ 17 0)) (C := RX0) (T := TX0) (N := 10) hx hb hts hiX0 hown hK.1 hP 6 rfl rfl 0 (by decide) (va_Nw.use rfl (nX2_82 hN)) (fun _ h9 => h9) rfl dX2_spendHour_67 ?_
          refine lv_icmp_ge (tgt := 90) hx hb dX2_spendHour_70 (by decide) (fun c_1 => ?_) (fun c_1 => ?_)
          · skip
            rw [hτn] at c_1
            have hk2 : nc ≤ k := lp_ge (N := nc) (k := k) c_1 (by omega) (by omega)
            refine lv_iconst (v := 0) hx hb dX2_spendHour_90 (by decide) ?_
            refine lv_istore_n (lv' := [(3, .int 0), (0, .ref (a 0)), (2, .int acc)]) hx hb dX2_spendHour_91 rfl hl (by decide) rfl (fun ls hl => ?_)
            have loop92 : ∀ (n : Nat) (k2 : Nat) (τ2 : St), 9 - k2 < n → (k2 ≤ nc ∧ τ2 = rsA (trA σ2 nc) k2 ∧ τ2 17 0 = nI nc) → ∀ (H : Heap) (locs : List Loc), va_P D vwCl (wRiv a cI τ2) H → va_D A (wRiv a cI τ2) → va_S A s.heap H locs → ∀ (ls : Array Slot), lv_has ls 4 [(0, .ref (a 0)), (2, .int acc), (3, .int (nI k2))] → W p l e ({ frames := 5, cells := 0, slots := 0, locals := 118 } : Room) s m args below meth c H locs 0 0 Q (F0 m 92 ls []) := by
              intro n
              induction n with
              | zero => intro k2  τ2  hf; exact absurd hf (Nat.not_lt_zero _)
              | succ n ih92 =>
                intro k2  τ2  hf ⟨hkk, hτ2, hτn2⟩ H locs hP hD hS ls hl
                refine lv_iload_n hx hb dX2_spendHour_92 rfl (lv_at hl 2 rfl) ?_
                refine lv_aload_n hx hb dX2_spendHour_93 rfl (lv_at hl 0 rfl) ?_
                refine va_get (D := D) (ci := 2) (v := .ref (a 6)) (C := RX2) (T := TX2) (N := 6) hx hb hts hiX2 hown hK.1 hP 0 rfl rfl 5 (by decide) (hts (.fieldLink RX2 32 "IceLanes$River" "couriers" "LIceLanes$Couriers;") (by decide +kernel)) (fun _ h9 => h9) rfl dX2_spendHour_94 ?_
                refine va_getN (D := D) (ci := 0) (v := .int (τ2 17 0)) (C := RX0) (T := TX0) (N := 10) hx hb hts hiX0 hown hK.1 hP 6 rfl rfl 0 (by decide) (va_Nw.use rfl (nX2_82 hN)) (fun _ h9 => h9) rfl dX2_spendHour_97 ?_
                refine lv_icmp_ge (tgt := 114) hx hb dX2_spendHour_100 (by decide) (fun c_2 => ?_) (fun c_2 => ?_)
                · skip
                  rw [hτn2] at c_2
                  have hk3 : nc ≤ k2 := lp_ge (N := nc) (k := k2) c_2 (by omega) (by omega)
                  refine lv_aload_n hx hb dX2_spendHour_114 rfl (lv_at hl 0 rfl) ?_
                  refine lv_dup hx hb dX2_spendHour_115 rfl ?_
                  refine va_get (D := D) (ci := 2) (v := .int (τ2 0 0)) (C := RX2) (T := TX2) (N := 6) hx hb hts hiX2 hown hK.1 hP 0 rfl rfl 0 (by decide) (hts (.fieldLink RX2 36 "IceLanes$River" "hour" "I") (by decide +kernel)) (fun _ h9 => h9) rfl dX2_spendHour_116 ?_
                  rw [show τ2 0 0 = nI h from (by rw [hτ2, rsA_k _ (by omega), trA_k _ (by omega)]; exact h02)]
                  refine lv_iconst (v := 1) hx hb dX2_spendHour_119 (by decide) ?_
                  refine lv_iadd hx hb dX2_spendHour_120 ?_
                  refine va_put (D := D) (ci := 2) (v := .int ((nI h) + 1)) (ty := .int) (C := RX2) (T := TX2) (N := 6) hx hb hts hiX2 tyX2 tyX2_ok nmX2 hown hK.1 hP hD hS 0 rfl rfl 0 (by decide) (hts (.fieldLink RX2 36 "IceLanes$River" "hour" "I") (by decide +kernel)) (fun _ h9 => h9) rfl (by decide +kernel) rfl rfl (Nat.le_of_ble_eq_true rfl) dX2_spendHour_121 (fun H locs hP hD hS => ?_)
                  have hP : va_P D vwCl (wRivE a cI ((nI h) + 1) (τ2 16 0) (τ2 1) (τ2 2) (τ2 3) (τ2 4) (τ2 17 0) (τ2 5) (τ2 6) (τ2 7) (τ2 8) (τ2 9) (τ2 10) (τ2 11) (τ2 12) (τ2 13)) H := hP
                  have hD : va_D A (wRivE a cI ((nI h) + 1) (τ2 16 0) (τ2 1) (τ2 2) (τ2 3) (τ2 4) (τ2 17 0) (τ2 5) (τ2 6) (τ2 7) (τ2 8) (τ2 9) (τ2 10) (τ2 11) (τ2 12) (τ2 13)) := hD
                  refine lv_iload_n hx hb dX2_spendHour_124 rfl (lv_at hl 1 rfl) ?_
                  subst hQ
                  have hP : va_P D vwCl (wRiv a cI (put τ2 0 (fun _ => (nI h) + 1))) H := hP
                  have hD : va_D A (wRiv a cI (put τ2 0 (fun _ => (nI h) + 1))) := hD
                  have hst_s : put τ2 0 (fun _ => (nI h) + 1) = hourF σ := (by unfold hourF; rw [hnc, hh, nI_clamp (by omega), nI_clamp (by omega), ← hσ2, hτ2, show k2 = nc by omega, nI_1])
                  rw [hst_s] at hP hD
                  exact ret_wri hx hb hr rfl hlocks hP hD hS (show acc = hourA σ from (by unfold hourA; rw [hnc, nI_clamp (by omega), ← hσ2, hacc, show k = nc by omega])) dX2_spendHour_125
                · skip
                  rw [hτn2] at c_2
                  have hk3 : k2 < nc := lp_nge (N := nc) (k := k2) c_2 (by omega) (by omega)
                  refine lv_aload_n hx hb dX2_spendHour_103 rfl (lv_at hl 0 rfl) ?_
                  refine lv_iload_n hx hb dX2_spendHour_104 rfl (lv_at hl 2 rfl) ?_
                  refine wr_v (wn := wRiv a cI (restF τ2 k2)) (va_runV (As := [.int (nI k2)]) (rest := []) ⟨hx, hb, hml, hown, hts⟩ (M_X2_rest l D cI a τ2 k2 _ (by omega) (by rw [hτ2]; exact (rsA_ok (trA_ok (hok2 k2 hk3) nc) k2).1)) (cwV 1 hts gX2_spendHour_X2_rest rfl rfl rfl (by decide +kernel) ⟨Nat.le_of_ble_eq_true rfl, Nat.le_of_ble_eq_true rfl⟩) (wrV hK hP hD [0, 1, 2, 3, 4, 5, 6, 7, 8, 9, 10, 11, 12, 13, 14, 15] [0] rfl rfl rfl (ci := 2) (q0 := 0) rfl rfl) rfl rfl hl.1 rfl (lv_room (Nat.le_of_ble_eq_true rfl)) dX2_spendHour_105 ⟨Nat.le_of_ble_eq_true rfl, Nat.le_of_ble_eq_true rfl⟩) hP hD hS hA [0, 1, 2, 3, 4, 5, 6, 7, 8, 9, 10, 11, 12, 13, 14, 15] [] [0, 1, 2, 3, 4, 5, 6, 7, 8, 9, 10, 11, 12, 13, 14, 15] rfl rfl rfl rfl rfl rfl (fun H locs hP hD hS => ?_)
                  generalize eσ_3 : restF τ2 k2 = σ_3 at hP hD
                  refine lv_iinc (v := nI (k2 + 1)) (lv' := [(3, .int (nI (k2 + 1))), (0, .ref (a 0)), (2, .int acc)]) hx hb dX2_spendHour_108 hl (k := 2) rfl (nI_1 k2) (by decide) rfl (fun ls hl => ?_)
                  refine lv_goto (tgt := 92) hx hb dX2_spendHour_111 (by decide) ?_
                  exact ih92 (k2 + 1) σ_3 (by omega) ⟨by omega, (by rw [← eσ_3, hτ2]; rfl), (by rw [← eσ_3, restF_k _ _ (by omega)]; exact hτn2)⟩ _ _ hP hD hS ls (lv_sub hl [1, 2, 0] rfl)
            exact loop92 10 0 τ (by omega) ⟨by omega, (by rw [hτ, show k = nc by omega]; rfl), hτn⟩ _ _ hP hD hS ls (lv_sub hl [1, 2, 0] rfl)
          · skip
            rw [hτn] at c_1
            have hk2 : k < nc := lp_nge (N := nc) (k := k) c_1 (by omega) (by omega)
            have hokk : okC τ k := by rw [hτ]; exact trA_ok (hok2 k hk2) k
            obtain ⟨pn, hpn, hp2⟩ := okC_pace hokk
            refine lv_aload_n hx hb dX2_spendHour_73 rfl (lv_at hl 0 rfl) ?_
            refine lv_iload_n hx hb dX2_spendHour_74 rfl (lv_at hl 2 rfl) ?_
            refine wr_i (wn := wRiv a cI (trvF τ k)) (va_runV (As := [.int (nI k)]) (rest := []) ⟨hx, hb, hml, hown, hts⟩ (M_X2_travels l D cI a τ k pn _ (by omega) hokk hpn hp2) (cwV 1 hts gX2_spendHour_X2_travels rfl rfl rfl (by decide +kernel) ⟨Nat.le_of_ble_eq_true rfl, Nat.le_of_ble_eq_true rfl⟩) (wrV hK hP hD [0, 1, 2, 3, 4, 5, 6, 7, 8, 9, 10, 11, 12, 13, 14, 15] [0] rfl rfl rfl (ci := 2) (q0 := 0) rfl rfl) rfl rfl hl.1 rfl (lv_room (Nat.le_of_ble_eq_true rfl)) dX2_spendHour_75 ⟨Nat.le_of_ble_eq_true rfl, Nat.le_of_ble_eq_true rfl⟩) hP hD hS hA [0, 1, 2, 3, 4, 5, 6, 7, 8, 9, 10, 11, 12, 13, 14, 15] [] [0, 1, 2, 3, 4, 5, 6, 7, 8, 9, 10, 11, 12, 13, 14, 15] rfl rfl rfl rfl rfl rfl (fun H locs hP hD hS => ?_)
            generalize eσ_4 : trvF τ k = σ_4 at hP hD
            refine lv_if_eq (tgt := 84) hx hb dX2_spendHour_78 (by decide) (fun c_5 => ?_) (fun c_5 => ?_)
            · skip
              have c_5 : ¬ ((τ 11) k = 1 ∧ σ_4 11 k = 2) := bI_z.mp c_5
              refine lv_iinc (v := nI (k + 1)) (lv' := [(3, .int (nI (k + 1))), (0, .ref (a 0)), (2, .int acc)]) hx hb dX2_spendHour_84 hl (k := 2) rfl (nI_1 k) (by decide) rfl (fun ls hl => ?_)
              refine lv_goto (tgt := 62) hx hb dX2_spendHour_87 (by decide) ?_
              exact ih62 (k + 1) σ_4 acc (by omega) ⟨by omega, (by rw [← eσ_4, hτ]; rfl), (by rw [← eσ_4, trvF_k _ _ (by omega)]; exact hτn), (by rw [hacc]; first | rw [arrC_t (by rw [← hτ, eσ_4]; assumption)] | rw [arrC_f (by rw [← hτ, eσ_4]; assumption)])⟩ _ _ hP hD hS ls (lv_sub hl [1, 2, 0] rfl)
            · skip
              have c_5 : ((τ 11) k = 1 ∧ σ_4 11 k = 2) := bI_nz.mp c_5
              refine lv_iinc (v := acc + 1) (lv' := [(2, .int (acc + 1)), (0, .ref (a 0)), (3, .int (nI k))]) hx hb dX2_spendHour_81 hl (k := 1) rfl rfl (by decide) rfl (fun ls hl => ?_)
              refine lv_iinc (v := nI (k + 1)) (lv' := [(3, .int (nI (k + 1))), (2, .int (acc + 1)), (0, .ref (a 0))]) hx hb dX2_spendHour_84 hl (k := 2) rfl (nI_1 k) (by decide) rfl (fun ls hl => ?_)
              refine lv_goto (tgt := 62) hx hb dX2_spendHour_87 (by decide) ?_
              exact ih62 (k + 1) σ_4 (acc + 1) (by omega) ⟨by omega, (by rw [← eσ_4, hτ]; rfl), (by rw [← eσ_4, trvF_k _ _ (by omega)]; exact hτn), (by rw [hacc]; first | rw [arrC_t (by rw [← hτ, eσ_4]; assumption)] | rw [arrC_f (by rw [← hτ, eσ_4]; assumption)])⟩ _ _ hP hD hS ls (lv_sub hl [2, 1, 0] rfl)
      exact loop62 10 0 σ2 0 (by omega) ⟨by omega, rfl, hn2, rfl⟩ _ _ hP hD hS ls (lv_sub hl [2, 1, 0] rfl)
    have h16 : σ1 0 0 = nI h := by rw [hσ1, hr1_k _ (by omega)]; exact hh
    refine lv_aload_n hx hb dX2_spendHour_36 rfl (lv_at hl 0 rfl) ?_
    refine rd_i (va_runV (As := []) (rest := []) ⟨hx, hb, hml, hown, hts⟩ (M_X2_hasThawed l D cI a σ1 ) (cwV 0 hts gX2_spendHour_X2_hasThawed rfl rfl rfl (by decide +kernel) ⟨Nat.le_of_ble_eq_true rfl, Nat.le_of_ble_eq_true rfl⟩) (rdV hK hP [0, 1, 2, 3, 4, 5, 6, 7, 8, 9, 10, 11, 12, 13, 14, 15] [0] rfl rfl (ci := 2) (q0 := 0) rfl rfl) rfl rfl hl.1 rfl (lv_room (Nat.le_of_ble_eq_true rfl)) dX2_spendHour_37 ⟨Nat.zero_le _, Nat.zero_le _⟩) ?_
    refine lv_if_ne (tgt := 58) hx hb dX2_spendHour_40 (by decide) (fun c_6 => ?_) (fun c_6 => ?_)
    · skip
      have c_6 : (¬ (σ1 16 0) = -1) := bI_nz.mp c_6
      exact join58 σ1 (by rw [← hσ1]; unfold hr2; rw [h16, nI_clamp (by omega)]; first | rw [if_pos ⟨by assumption, by assumption⟩] | rw [if_neg (fun z => absurd z.1 (by assumption))] | rw [if_neg (fun z => absurd z.2 (by assumption))]) _ _ hP hD hS ls (lv_sub hl [0] rfl)
    · skip
      have c_6 : ¬ (¬ (σ1 16 0) = -1) := bI_z.mp c_6
      have c_6 := Decidable.not_not.mp c_6
      refine lv_aload_n hx hb dX2_spendHour_43 rfl (lv_at hl 0 rfl) ?_
      refine va_get (D := D) (ci := 2) (v := .ref (a 3)) (C := RX2) (T := TX2) (N := 6) hx hb hts hiX2 hown hK.1 hP 0 rfl rfl 4 (by decide) (hts (.fieldLink RX2 25 "IceLanes$River" "ice" "LIceLanes$Ice;") (by decide +kernel)) (fun _ h9 => h9) rfl dX2_spendHour_44 ?_
      refine rd_i (va_runVN (As := []) (rest := []) ⟨hx, hb, hml, hown, hts⟩ (M_X1_isOpenAcross l D cI a σ1 ) ⟨va_cnB 0 hts gX2_spendHour_X1_isOpenAcross_n79 rfl rfl rfl (nX2_79 hN) (hts (.initialized RX1) (by decide +kernel)) (by decide +kernel) ⟨Nat.le_of_ble_eq_true rfl, Nat.le_of_ble_eq_true rfl⟩, hts (.instanceMethod yX1_isOpenAcross) (by decide +kernel), hts (.selects RX1 yX1_isOpenAcross yX1_isOpenAcross) (by decide +kernel)⟩ (rdV hK hP [3, 4, 5] [0] rfl rfl (ci := 1) (q0 := 3) rfl rfl) rfl rfl hl.1 rfl (lv_room (Nat.le_of_ble_eq_true rfl)) dX2_spendHour_47 ⟨Nat.zero_le _, Nat.zero_le _⟩) ?_
      refine lv_if_eq (tgt := 58) hx hb dX2_spendHour_50 (by decide) (fun c_7 => ?_) (fun c_7 => ?_)
      · skip
        have c_7 : ¬ (opA ((σ1 3)) 12 = true) := bI_z.mp c_7
        exact join58 σ1 (by rw [← hσ1]; unfold hr2; rw [h16, nI_clamp (by omega)]; first | rw [if_pos ⟨by assumption, by assumption⟩] | rw [if_neg (fun z => absurd z.1 (by assumption))] | rw [if_neg (fun z => absurd z.2 (by assumption))]) _ _ hP hD hS ls (lv_sub hl [0] rfl)
      · skip
        have c_7 : (opA ((σ1 3)) 12 = true) := bI_nz.mp c_7
        refine lv_aload_n hx hb dX2_spendHour_53 rfl (lv_at hl 0 rfl) ?_
        refine lv_iload_n hx hb dX2_spendHour_54 rfl (lv_at hl 1 rfl) ?_
        refine va_put (D := D) (ci := 2) (v := .int (nI (h / 12))) (ty := .int) (C := RX2) (T := TX2) (N := 6) hx hb hts hiX2 tyX2 tyX2_ok nmX2 hown hK.1 hP hD hS 0 rfl rfl 1 (by decide) (hts (.fieldLink RX2 9 "IceLanes$River" "thawDay" "I") (by decide +kernel)) (fun _ h9 => h9) rfl (by decide +kernel) rfl rfl (Nat.le_of_ble_eq_true rfl) dX2_spendHour_55 (fun H locs hP hD hS => ?_)
        have hP : va_P D vwCl (wRivE a cI (σ1 0 0) (nI (h / 12)) (σ1 1) (σ1 2) (σ1 3) (σ1 4) (σ1 17 0) (σ1 5) (σ1 6) (σ1 7) (σ1 8) (σ1 9) (σ1 10) (σ1 11) (σ1 12) (σ1 13)) H := hP
        have hD : va_D A (wRivE a cI (σ1 0 0) (nI (h / 12)) (σ1 1) (σ1 2) (σ1 3) (σ1 4) (σ1 17 0) (σ1 5) (σ1 6) (σ1 7) (σ1 8) (σ1 9) (σ1 10) (σ1 11) (σ1 12) (σ1 13)) := hD
        exact join58 (put σ1 16 (fun _ => nI (h / 12))) (by rw [← hσ1]; unfold hr2; rw [h16, nI_clamp (by omega)]; first | rw [if_pos ⟨by assumption, by assumption⟩] | rw [if_neg (fun z => absurd z.1 (by assumption))] | rw [if_neg (fun z => absurd z.2 (by assumption))]) _ _ hP hD hS ls (lv_sub hl [0] rfl)
  refine lv_aload_n hx hb dX2_spendHour_8 rfl (lv_at hl 1 rfl) ?_
  refine va_get (D := D) (ci := 2) (v := .int (σ 0 0)) (C := RX2) (T := TX2) (N := 6) hx hb hts hiX2 hown hK.1 hP 0 rfl rfl 0 (by decide) (hts (.fieldLink RX2 36 "IceLanes$River" "hour" "I") (by decide +kernel)) (fun _ h9 => h9) rfl dX2_spendHour_9 ?_
  rw [hh]
  refine lv_bipush (v := 12) hx hb dX2_spendHour_12 (by decide) ?_
  refine lv_irem hx hb dX2_spendHour_14 (by decide) ?_
  rw [show nI h - nI h / 12 * 12 = nI (h % 12) from rem_nI (d := 12) rfl (by omega) (by decide) (by decide)]
  refine lv_if_ne (tgt := 36) hx hb dX2_spendHour_15 (by decide) (fun c_8 => ?_) (fun c_8 => ?_)
  · skip
    rw [nI_z (by omega)] at c_8
    exact join36 σ (by unfold hr1; rw [hh, nI_clamp (by omega)]; first | (rw [if_pos (by assumption)]; rfl) | rw [if_neg (by assumption)]) _ _ hP hD hS ls (lv_sub hl [1, 0] rfl)
  · skip
    rw [nI_z (by omega)] at c_8
    refine lv_aload_n hx hb dX2_spendHour_18 rfl (lv_at hl 1 rfl) ?_
    refine va_get (D := D) (ci := 2) (v := .ref (a 3)) (C := RX2) (T := TX2) (N := 6) hx hb hts hiX2 hown hK.1 hP 0 rfl rfl 4 (by decide) (hts (.fieldLink RX2 25 "IceLanes$River" "ice" "LIceLanes$Ice;") (by decide +kernel)) (fun _ h9 => h9) rfl dX2_spendHour_19 ?_
    refine lv_aload_n hx hb dX2_spendHour_22 rfl (lv_at hl 1 rfl) ?_
    refine va_get (D := D) (ci := 2) (v := .ref (a 1)) (C := RX2) (T := TX2) (N := 6) hx hb hts hiX2 hown hK.1 hP 0 rfl rfl 2 (by decide) (hts (.fieldLink RX2 15 "IceLanes$River" "warm" "[I") (by decide +kernel)) (fun _ h9 => h9) rfl dX2_spendHour_23 ?_
    refine lv_iload_n hx hb dX2_spendHour_26 rfl (lv_at hl 0 rfl) ?_
    refine lv_bipush (v := 14) hx hb dX2_spendHour_27 (by decide) ?_
    refine rd_i (va_runS (As := [.int (nI (h / 12)), .int 14]) (rest := [.ref (a 1), .ref (a 3)]) ⟨hx, hb, hml, hown, hts⟩ (M_J9_floorMod_7cf53 l D cI (h / 12) (by first | assumption | omega)) (va_cwS 2 hts gX2_spendHour_J9_floorMod_7cf53 rfl rfl rfl (by decide +kernel) ⟨Nat.le_of_ble_eq_true rfl, Nat.le_of_ble_eq_true rfl⟩) (rdS hK hP [] [0] rfl rfl) rfl rfl hl.1 rfl (lv_room (Nat.le_of_ble_eq_true rfl)) dX2_spendHour_29 ⟨Nat.zero_le _, Nat.zero_le _⟩) ?_
    refine va_iald hx hb hK.1 hP 1 0 rfl rfl (by exact vp_in_nI (by omega) (by decide)) dX2_spendHour_32 ?_
    rw [nI_clamp (n := ((h / 12) % 14)) (by omega)]
    refine wr_v (wn := wRivE a cI (σ 0 0) (σ 16 0) (σ 1) (σ 2) (mapTo (meetM (more (σ 1 ((h / 12) % 14)))) 36 ((σ 3))) (mapTo (meetC (σ 1 ((h / 12) % 14))) 36 ((σ 4))) (σ 17 0) (σ 5) (σ 6) (σ 7) (σ 8) (σ 9) (σ 10) (σ 11) (σ 12) (σ 13)) (va_runVN (As := [.int (σ 1 ((h / 12) % 14))]) (rest := []) ⟨hx, hb, hml, hown, hts⟩ (M_X1_meetDay l D cI a σ (σ 1 ((h / 12) % 14)) _ ) ⟨va_cnB 1 hts gX2_spendHour_X1_meetDay_n71 rfl rfl rfl (nX2_71 hN) (hts (.initialized RX1) (by decide +kernel)) (by decide +kernel) ⟨Nat.le_of_ble_eq_true rfl, Nat.le_of_ble_eq_true rfl⟩, hts (.instanceMethod yX1_meetDay) (by decide +kernel), hts (.selects RX1 yX1_meetDay yX1_meetDay) (by decide +kernel)⟩ (wrV hK hP hD [3, 4, 5] [0] rfl rfl rfl (ci := 1) (q0 := 3) rfl rfl) rfl rfl hl.1 rfl (lv_room (Nat.le_of_ble_eq_true rfl)) dX2_spendHour_33 ⟨Nat.le_of_ble_eq_true rfl, Nat.le_of_ble_eq_true rfl⟩) hP hD hS hA [3, 4, 5] [0, 1, 2, 6, 7, 8, 9, 10, 11, 12, 13, 14, 15] [0, 1, 2, 13, 14, 15, 3, 4, 5, 6, 7, 8, 9, 10, 11, 12] rfl rfl rfl rfl rfl rfl (fun H locs hP hD hS => ?_)
    exact join36 (put (put σ 3 (mapTo (meetM (more (σ 1 ((h / 12) % 14)))) 36 ((σ 3)))) 4 (mapTo (meetC (σ 1 ((h / 12) % 14))) 36 ((σ 4)))) (by unfold hr1; rw [hh, nI_clamp (by omega)]; first | (rw [if_pos (by assumption)]; rfl) | rw [if_neg (by assumption)]) _ _ hP hD hS ls (lv_sub hl [1, 0] rfl)
