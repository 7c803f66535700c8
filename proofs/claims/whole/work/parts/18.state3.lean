set_option maxHeartbeats 4000000 in
set_option maxRecDepth 100000 in
theorem M_X5_pass (l : Launch) (D : va_G) (cI : ClassId) (d : Nat → Nat) (b : Nat → Nat) (x : Nat → Nat) (y : Nat → Nat) (σ : St) (ω : St) (h : Nat) (nc : Nat) (sz : Nat) (hok : okR σ h nc) (hbd : h < 2 ^ 30) (hI : okI (σ 3)) (hw1 : σ 1 = ω 1) (hw2 : σ 2 = ω 2) (hW : okW (ω 1)) (hH : okH (ω 2)) : Met l yX5_pass wsX5_pass ({ frames := 4, cells := 0, slots := 0, locals := 91 } : Room) (wrPc [.ref (d 0)] D (wSta d (b 0) cI σ ++ wOut b x y cI ω) [(cI, .int)] sz) (wrQv D (wSta d (b 0) cI (hourF σ) ++ wOut b x y cI ω) (va_A (wSta d (b 0) cI σ ++ wOut b x y cI ω) sz)) 0 0 (va_A (wSta d (b 0) cI σ ++ wOut b x y cI ω) sz) := by
  refine Met.ofW (cc := cX5_pass) (maxL := 3) (ret := none) (by decide) rfl ?_
  intro p e s m args below meth c s₁ B hml hv
  obtain ⟨hargs, hsz, hP, hK, hD0⟩ := hv
  have hx := B.exec
  have hb := B.bytes
  have hr := B.returns
  have hts := atoms_spec (ws := wsX5_pass) B.pre
  have hown : s.vm.findClass RX5 = some m.cls := findClass_of_methodNamed B.named
  have hlocks := B.notSynchronized
  obtain ⟨_, hN⟩ := id hK
  have hiX5 : ∀ w ∈ wsX50, w ∈ wsX5_pass := by decide +kernel
  have hiX6 : ∀ w ∈ wsX60, w ∈ wsX5_pass := by decide +kernel
  subst hsz
  have hD := hD0.self (sz := s.heap.size)
  generalize hAe : va_A (wSta d (b 0) cI σ ++ wOut b x y cI ω) s.heap.size = A at hD ⊢
  have hA : ∀ q : Nat, s.heap.size ≤ q → A q := fun q h => by rw [← hAe]; exact Or.inr h
  have hS : va_S A s.heap s.heap [] := va_S.rf
  have hP : va_P D vwCl (wSta d (b 0) cI σ ++ wOut b x y cI ω) s.heap := hP
  refine my_abs (fun Q hQ => ?_)
  obtain ⟨ls, hl, hent⟩ := my_entry (m := m) (n := 3) hargs (Nat.le_of_ble_eq_true rfl)
  rw [hent]
  have hl : lv_has ls 3 [(0, .ref (d 0))] := hl
  show W p l e ({ frames := 4, cells := 0, slots := 0, locals := 91 } : Room) s m args below meth c s.heap [] 0 0 Q (F0 m 0 ls [])
  obtain ⟨hh, hnc, hn8, hokj⟩ := hok
  have join14 : ∀ (σ1 : St), σ1 = hr1 σ → ∀ (H : Heap) (locs : List Loc), va_P D vwCl (wSta d (b 0) cI σ1 ++ wOut b x y cI ω) H → va_D A (wSta d (b 0) cI σ1 ++ wOut b x y cI ω) → va_S A s.heap H locs → ∀ (ls : Array Slot), lv_has ls 3 [(0, .ref (d 0))] → W p l e ({ frames := 4, cells := 0, slots := 0, locals := 91 } : Room) s m args below meth c H locs 0 0 Q (F0 m 14 ls []) := by
    intro σ1  hσ1 H locs hP hD hS ls hl
    refine lv_aload_n hx hb dX5_pass_14 rfl (lv_at hl 0 rfl) ?_
    refine wr_v (wn := wSta d (b 0) cI (hr2 σ1) ++ wOut b x y cI ω) (va_runV (As := []) (rest := []) ⟨hx, hb, hml, hown, hts⟩ (M_X5_listen l D cI d (b 0) σ1 h _ (by rw [hσ1, hr1_k _ (by omega)]; exact hh) hbd) (cwV 0 hts gX5_pass_X5_listen rfl rfl rfl (by decide +kernel) ⟨Nat.le_of_ble_eq_true rfl, Nat.le_of_ble_eq_true rfl⟩) (wrV hK hP hD [0, 1, 2, 3] [0] rfl rfl rfl (ci := 5) (q0 := 0) rfl rfl) rfl rfl hl.1 rfl (lv_room (Nat.le_of_ble_eq_true rfl)) dX5_pass_15 ⟨Nat.le_of_ble_eq_true rfl, Nat.le_of_ble_eq_true rfl⟩) hP hD hS hA [0, 1, 2, 3] [4, 5, 6, 7, 8] [5, 6, 7, 8, 0, 1, 2, 3, 4] rfl rfl rfl rfl rfl rfl (fun H locs hP hD hS => ?_)
    generalize eσ_1 : hr2 σ1 = σ_1 at hP hD
    have hσ2 : σ_1 = hr2 (hr1 σ) := by rw [← eσ_1, hσ1]
    generalize σ_1 = σ2 at hP hD hσ2
    have hok2 : ∀ j, j < nc → okC σ2 j := fun j hj => by rw [hσ2]; exact hr12_ok (hokj j hj)
    have hn2 : σ2 17 0 = nI nc := by rw [hσ2, hr2_k _ (by omega), hr1_k _ (by omega)]; exact hnc
    have h02 : σ2 0 0 = nI h := by rw [hσ2, hr2_k _ (by omega), hr1_k _ (by omega)]; exact hh
    have h22 : σ2 2 = ω 2 := by rw [hσ2, hr2_k _ (by omega), hr1_k _ (by omega)]; exact hw2
    refine lv_iconst (v := 0) hx hb dX5_pass_18 (by decide) ?_
    refine lv_istore_n (lv' := [(1, .int 0), (0, .ref (d 0))]) hx hb dX5_pass_19 rfl hl (by decide) rfl (fun ls hl => ?_)
    have loop20 : ∀ (n : Nat) (k : Nat) (τ : St), 9 - k < n → (k ≤ nc ∧ τ = trA σ2 k ∧ τ 17 0 = nI nc) → ∀ (H : Heap) (locs : List Loc), va_P D vwCl (wSta d (b 0) cI τ ++ wOut b x y cI ω) H → va_D A (wSta d (b 0) cI τ ++ wOut b x y cI ω) → va_S A s.heap H locs → ∀ (ls : Array Slot), lv_has ls 3 [(0, .ref (d 0)), (1, .int (nI k))] → W p l e ({ frames := 4, cells := 0, slots := 0, locals := 91 } : Room) s m args below meth c H locs 0 0 Q (F0 m 20 ls []) := by
      intro n
      induction n with
      | zero => intro k  τ  hf; exact absurd hf (Nat.not_lt_zero _)
      | succ n ih20 =>
        intro k  τ  hf ⟨hk, hτ, hτn⟩ H locs hP hD hS ls hl
        refine lv_iload_n hx hb dX5_pass_20 rfl (lv_at hl 1 rfl) ?_
        refine lv_aload_n hx hb dX5_pass_21 rfl (lv_at hl 0 rfl) ?_
        refine va_get (D := D) (ci := 5) (v := .int (τ 17 0)) (C := RX5) (T := TX5) (N := 8) hx hb hts hiX5 hown hK.1 hP 0 rfl rfl 1 (by decide) (hts (.fieldLink RX5 38 "IceLanesModel$State" "couriers" "I") (by decide +kernel)) (fun _ h9 => h9) rfl dX5_pass_22 ?_
        refine lv_icmp_ge (tgt := 69) hx hb dX5_pass_25 (by decide) (fun c_2 => ?_) (fun c_2 => ?_)
        · skip
          rw [hτn] at c_2
          have hk2 : nc ≤ k := lp_ge (N := nc) (k := k) c_2 (by omega) (by omega)
          refine lv_iconst (v := 0) hx hb dX5_pass_69 (by decide) ?_
          refine lv_istore_n (lv' := [(1, .int 0), (0, .ref (d 0))]) hx hb dX5_pass_70 rfl hl (by decide) rfl (fun ls hl => ?_)
          have loop71 : ∀ (n : Nat) (k2 : Nat) (τ2 : St), 9 - k2 < n → (k2 ≤ nc ∧ τ2 = rsA (trA σ2 nc) k2 ∧ τ2 17 0 = nI nc) → ∀ (H : Heap) (locs : List Loc), va_P D vwCl (wSta d (b 0) cI τ2 ++ wOut b x y cI ω) H → va_D A (wSta d (b 0) cI τ2 ++ wOut b x y cI ω) → va_S A s.heap H locs → ∀ (ls : Array Slot), lv_has ls 3 [(0, .ref (d 0)), (1, .int (nI k2))] → W p l e ({ frames := 4, cells := 0, slots := 0, locals := 91 } : Room) s m args below meth c H locs 0 0 Q (F0 m 71 ls []) := by
            intro n
            induction n with
            | zero => intro k2  τ2  hf; exact absurd hf (Nat.not_lt_zero _)
            | succ n ih71 =>
              intro k2  τ2  hf ⟨hkk, hτ2, hτn2⟩ H locs hP hD hS ls hl
              refine lv_iload_n hx hb dX5_pass_71 rfl (lv_at hl 1 rfl) ?_
              refine lv_aload_n hx hb dX5_pass_72 rfl (lv_at hl 0 rfl) ?_
              refine va_get (D := D) (ci := 5) (v := .int (τ2 17 0)) (C := RX5) (T := TX5) (N := 8) hx hb hts hiX5 hown hK.1 hP 0 rfl rfl 1 (by decide) (hts (.fieldLink RX5 38 "IceLanesModel$State" "couriers" "I") (by decide +kernel)) (fun _ h9 => h9) rfl dX5_pass_73 ?_
              refine lv_icmp_ge (tgt := 168) hx hb dX5_pass_76 (by decide) (fun c_3 => ?_) (fun c_3 => ?_)
              · skip
                rw [hτn2] at c_3
                have hk3 : nc ≤ k2 := lp_ge (N := nc) (k := k2) c_3 (by omega) (by omega)
                refine lv_aload_n hx hb dX5_pass_168 rfl (lv_at hl 0 rfl) ?_
                refine lv_dup hx hb dX5_pass_169 rfl ?_
                refine va_get (D := D) (ci := 5) (v := .int (τ2 0 0)) (C := RX5) (T := TX5) (N := 8) hx hb hts hiX5 hown hK.1 hP 0 rfl rfl 0 (by decide) (hts (.fieldLink RX5 35 "IceLanesModel$State" "hour" "I") (by decide +kernel)) (fun _ h9 => h9) rfl dX5_pass_170 ?_
                rw [show τ2 0 0 = nI h from (by rw [hτ2, rsA_k _ (by omega), trA_k _ (by omega)]; exact h02)]
                refine lv_iconst (v := 1) hx hb dX5_pass_173 (by decide) ?_
                refine lv_iadd hx hb dX5_pass_174 ?_
                refine va_put (D := D) (ci := 5) (v := .int ((nI h) + 1)) (ty := .int) (C := RX5) (T := TX5) (N := 8) hx hb hts hiX5 tyX5 tyX5_ok nmX5 hown hK.1 hP hD hS 0 rfl rfl 0 (by decide) (hts (.fieldLink RX5 35 "IceLanesModel$State" "hour" "I") (by decide +kernel)) (fun _ h9 => h9) rfl (by decide +kernel) rfl rfl (Nat.le_of_ble_eq_true rfl) dX5_pass_175 (fun H locs hP hD hS => ?_)
                have hP : va_P D vwCl (wStaE d (b 0) cI ((nI h) + 1) (τ2 17 0) (τ2 16 0) (τ2 18 0) (τ2 3) (τ2 4) (τ2 5) (τ2 6) (τ2 7) (τ2 8) (τ2 9) (τ2 10) (τ2 11) (τ2 12) (τ2 13) ++ wOut b x y cI ω) H := hP
                have hD : va_D A (wStaE d (b 0) cI ((nI h) + 1) (τ2 17 0) (τ2 16 0) (τ2 18 0) (τ2 3) (τ2 4) (τ2 5) (τ2 6) (τ2 7) (τ2 8) (τ2 9) (τ2 10) (τ2 11) (τ2 12) (τ2 13) ++ wOut b x y cI ω) := hD
                subst hQ
                have hP : va_P D vwCl (wSta d (b 0) cI (put τ2 0 (fun _ => (nI h) + 1)) ++ wOut b x y cI ω) H := hP
                have hD : va_D A (wSta d (b 0) cI (put τ2 0 (fun _ => (nI h) + 1)) ++ wOut b x y cI ω) := hD
                have hst_s : put τ2 0 (fun _ => (nI h) + 1) = hourF σ := (by unfold hourF; rw [hnc, hh, nI_clamp (by omega), nI_clamp (by omega), ← hσ2, hτ2, show k2 = nc by omega, nI_1])
                rw [hst_s] at hP hD
                exact ret_wrv hx hb hr hlocks hP hD hS dX5_pass_178
              · skip
                rw [hτn2] at c_3
                have hk3 : k2 < nc := lp_nge (N := nc) (k := k2) c_3 (by omega) (by omega)
                have hok3 : okC τ2 k2 := by rw [hτ2]; exact rsA_ok (trA_ok (hok2 k2 hk3) nc) k2
                have h23 : τ2 2 = ω 2 := by rw [hτ2, rsA_k _ (by omega), trA_k _ (by omega)]; exact h22
                refine lv_aload_n hx hb dX5_pass_79 rfl (lv_at hl 0 rfl) ?_
                refine lv_iload_n hx hb dX5_pass_80 rfl (lv_at hl 1 rfl) ?_
                refine lv_bipush (v := 6) hx hb dX5_pass_81 (by decide) ?_
                refine rd_i (va_runV (As := [.int (nI k2), .int 6]) (rest := []) ⟨hx, hb, hml, hown, hts⟩ (M_X5_get l D cI d (b 0) τ2 k2 6 (by first | assumption | omega) (by first | assumption | omega)) (cwV 2 hts gX5_pass_X5_get rfl rfl rfl (by decide +kernel) ⟨Nat.le_of_ble_eq_true rfl, Nat.le_of_ble_eq_true rfl⟩) (rdV hK hP [0, 1, 2, 3] [0] rfl rfl (ci := 5) (q0 := 0) rfl rfl) rfl rfl hl.1 rfl (lv_room (Nat.le_of_ble_eq_true rfl)) dX5_pass_83 ⟨Nat.zero_le _, Nat.zero_le _⟩) ?_
                refine W.eq (g2 := F0 m 86 ls [.int (τ2 11 k2)]) rfl ?_
                refine lv_if_eq (tgt := 92) hx hb dX5_pass_86 (by decide) (fun c_4 => ?_) (fun c_4 => ?_)
                · skip
                  refine lv_aload_n hx hb dX5_pass_92 rfl (lv_at hl 0 rfl) ?_
                  refine lv_iload_n hx hb dX5_pass_93 rfl (lv_at hl 1 rfl) ?_
                  refine lv_iconst (v := 2) hx hb dX5_pass_94 (by decide) ?_
                  refine lv_bipush (v := 20) hx hb dX5_pass_95 (by decide) ?_
                  refine lv_aload_n hx hb dX5_pass_97 rfl (lv_at hl 0 rfl) ?_
                  refine lv_iload_n hx hb dX5_pass_98 rfl (lv_at hl 1 rfl) ?_
                  refine lv_iconst (v := 2) hx hb dX5_pass_99 (by decide) ?_
                  refine rd_i (va_runV (As := [.int (nI k2), .int 2]) (rest := [.int 20, .int 2, .int (nI k2), .ref (d 0)]) ⟨hx, hb, hml, hown, hts⟩ (M_X5_get l D cI d (b 0) τ2 k2 2 (by first | assumption | omega) (by first | assumption | omega)) (cwV 2 hts gX5_pass_X5_get rfl rfl rfl (by decide +kernel) ⟨Nat.le_of_ble_eq_true rfl, Nat.le_of_ble_eq_true rfl⟩) (rdV hK hP [0, 1, 2, 3] [0] rfl rfl (ci := 5) (q0 := 0) rfl rfl) rfl rfl hl.1 rfl (lv_room (Nat.le_of_ble_eq_true rfl)) dX5_pass_100 ⟨Nat.zero_le _, Nat.zero_le _⟩) ?_
                  refine W.eq (g2 := F0 m 103 ls [.int (τ2 7 k2), .int 20, .int 2, .int (nI k2), .ref (d 0)]) rfl ?_
                  refine lv_iconst (v := 1) hx hb dX5_pass_103 (by decide) ?_
                  refine lv_iadd hx hb dX5_pass_104 ?_
                  refine lv_iconst (v := 4) hx hb dX5_pass_105 (by decide) ?_
                  refine lv_aload_n hx hb dX5_pass_106 rfl (lv_at hl 0 rfl) ?_
                  refine va_get (D := D) (ci := 5) (v := .ref (b 0)) (C := RX5) (T := TX5) (N := 8) hx hb hts hiX5 hown hK.1 hP 0 rfl rfl 7 (by decide) (hts (.fieldLink RX5 3 "IceLanesModel$State" "this$0" "LIceLanesModel;") (by decide +kernel)) (fun _ h9 => h9) rfl dX5_pass_107 ?_
                  refine va_getN (D := D) (ci := 6) (v := .ref (b 2)) (C := RX6) (T := TX6) (N := 8) hx hb hts hiX6 hown hK.1 hP 4 rfl rfl 2 (by decide) (va_Nw.use rfl (nX5_87 hN)) (fun _ h9 => h9) rfl dX5_pass_110 ?_
                  refine lv_aload_n hx hb dX5_pass_113 rfl (lv_at hl 0 rfl) ?_
                  refine lv_iload_n hx hb dX5_pass_114 rfl (lv_at hl 1 rfl) ?_
                  refine lv_iconst (v := 3) hx hb dX5_pass_115 (by decide) ?_
                  refine rd_i (va_runV (As := [.int (nI k2), .int 3]) (rest := [.ref (b 2), .int 4, .int ((τ2 7 k2) + 1), .int 20, .int 2, .int (nI k2), .ref (d 0)]) ⟨hx, hb, hml, hown, hts⟩ (M_X5_get l D cI d (b 0) τ2 k2 3 (by first | assumption | omega) (by first | assumption | omega)) (cwV 2 hts gX5_pass_X5_get rfl rfl rfl (by decide +kernel) ⟨Nat.le_of_ble_eq_true rfl, Nat.le_of_ble_eq_true rfl⟩) (rdV hK hP [0, 1, 2, 3] [0] rfl rfl (ci := 5) (q0 := 0) rfl rfl) rfl rfl hl.1 rfl (lv_room (Nat.le_of_ble_eq_true rfl)) dX5_pass_116 ⟨Nat.zero_le _, Nat.zero_le _⟩) ?_
                  refine W.eq (g2 := F0 m 119 ls [.int (τ2 8 k2), .ref (b 2), .int 4, .int ((τ2 7 k2) + 1), .int 20, .int 2, .int (nI k2), .ref (d 0)]) rfl ?_
                  refine va_iald hx hb hK.1 hP 6 0 rfl rfl (inS_in hok3.1) dX5_pass_119 ?_
                  refine lv_imul hx hb dX5_pass_120 ?_
                  refine lv_iadd hx hb dX5_pass_121 ?_
                  refine va_mmin hx hb (by rw [hml]; exact hl.1.symm) hown (hts (.methodLink RX5 55 Lib.Math.min.name) (by decide +kernel)) (hts (.static Lib.Math.min.name) (by decide +kernel)) (hts (.initialized "java/lang/Math") (by decide +kernel)) (hts (.code Lib.Math.min.name Lib.Math.min.code 2 (some .int)) (by decide +kernel)) (Nat.le_of_ble_eq_true rfl) (Nat.le_of_ble_eq_true rfl) (Nat.zero_le _) (Nat.zero_le _) dX5_pass_122 ?_
                  refine W.eq (g2 := F0 m 125 ls [.int (mn 20 (((τ2 7 k2) + 1) + (4 * (ω 2 (τ2 8 k2).toNatClampNeg)))), .int 2, .int (nI k2), .ref (d 0)]) rfl ?_
                  rw [show mn 20 (((τ2 7 k2) + 1) + (4 * (ω 2 (τ2 8 k2).toNatClampNeg))) = rsN τ2 k2 from rs_eq h23 hH hok3.1]
                  refine wr_v (wn := wStaE d (b 0) cI (τ2 0 0) (τ2 17 0) (τ2 16 0) (τ2 18 0) (τ2 3) (τ2 4) (τ2 5) (τ2 6) (upd ((τ2 7)) k2 (rsN τ2 k2)) (τ2 8) (τ2 9) (τ2 10) (τ2 11) (τ2 12) (τ2 13) ++ wOut b x y cI ω) (va_runV (As := [.int (nI k2), .int 2, .int (rsN τ2 k2)]) (rest := []) ⟨hx, hb, hml, hown, hts⟩ (M_X5_set_2 l D cI d (b 0) τ2 k2 (rsN τ2 k2) _ (by first | assumption | omega)) (cwV 3 hts gX5_pass_X5_set rfl rfl rfl (by decide +kernel) ⟨Nat.le_of_ble_eq_true rfl, Nat.le_of_ble_eq_true rfl⟩) (wrV hK hP hD [0, 1, 2, 3] [0] rfl rfl rfl (ci := 5) (q0 := 0) rfl rfl) rfl rfl hl.1 rfl (lv_room (Nat.le_of_ble_eq_true rfl)) dX5_pass_125 ⟨Nat.le_of_ble_eq_true rfl, Nat.le_of_ble_eq_true rfl⟩) hP hD hS hA [0, 1, 2, 3] [4, 5, 6, 7, 8] [5, 6, 7, 8, 0, 1, 2, 3, 4] rfl rfl rfl rfl rfl rfl (fun H locs hP hD hS => ?_)
                  refine lv_aload_n hx hb dX5_pass_128 rfl (lv_at hl 0 rfl) ?_
                  refine lv_iload_n hx hb dX5_pass_129 rfl (lv_at hl 1 rfl) ?_
                  refine lv_iconst (v := 5) hx hb dX5_pass_130 (by decide) ?_
                  refine rd_i (va_runV (As := [.int (nI k2), .int 5]) (rest := []) ⟨hx, hb, hml, hown, hts⟩ (M_X5_get l D cI d (b 0) (put τ2 7 (upd ((τ2 7)) k2 (rsN τ2 k2))) k2 5 (by first | assumption | omega) (by first | assumption | omega)) (cwV 2 hts gX5_pass_X5_get rfl rfl rfl (by decide +kernel) ⟨Nat.le_of_ble_eq_true rfl, Nat.le_of_ble_eq_true rfl⟩) (rdV hK hP [0, 1, 2, 3] [0] rfl rfl (ci := 5) (q0 := 0) rfl rfl) rfl rfl hl.1 rfl (lv_room (Nat.le_of_ble_eq_true rfl)) dX5_pass_131 ⟨Nat.zero_le _, Nat.zero_le _⟩) ?_
                  refine W.eq (g2 := F0 m 134 ls [.int (τ2 10 k2)]) rfl ?_
                  refine lv_aload_n hx hb dX5_pass_134 rfl (lv_at hl 0 rfl) ?_
                  refine lv_iload_n hx hb dX5_pass_135 rfl (lv_at hl 1 rfl) ?_
                  refine lv_iconst (v := 3) hx hb dX5_pass_136 (by decide) ?_
                  refine rd_i (va_runV (As := [.int (nI k2), .int 3]) (rest := [.int (τ2 10 k2)]) ⟨hx, hb, hml, hown, hts⟩ (M_X5_get l D cI d (b 0) (put τ2 7 (upd ((τ2 7)) k2 (rsN τ2 k2))) k2 3 (by first | assumption | omega) (by first | assumption | omega)) (cwV 2 hts gX5_pass_X5_get rfl rfl rfl (by decide +kernel) ⟨Nat.le_of_ble_eq_true rfl, Nat.le_of_ble_eq_true rfl⟩) (rdV hK hP [0, 1, 2, 3] [0] rfl rfl (ci := 5) (q0 := 0) rfl rfl) rfl rfl hl.1 rfl (lv_room (Nat.le_of_ble_eq_true rfl)) dX5_pass_137 ⟨Nat.zero_le _, Nat.zero_le _⟩) ?_
                  refine W.eq (g2 := F0 m 140 ls [.int (τ2 8 k2), .int (τ2 10 k2)]) rfl ?_
                  refine lv_icmp_eq (tgt := 162) hx hb dX5_pass_140 (by decide) (fun c_5 => ?_) (fun c_5 => ?_)
                  · skip
                    refine lv_iinc (v := nI (k2 + 1)) (lv' := [(1, .int (nI (k2 + 1))), (0, .ref (d 0))]) hx hb dX5_pass_162 hl (k := 1) rfl (nI_1 k2) (by decide) rfl (fun ls hl => ?_)
                    refine lv_goto (tgt := 71) hx hb dX5_pass_165 (by decide) ?_
                    exact ih71 (k2 + 1) (put τ2 7 (upd ((τ2 7)) k2 (rsN τ2 k2))) (by omega) ⟨by omega, (by (show _ = restF (rsA (trA σ2 nc) k2) k2); rw [← hτ2]; unfold restF; first | rw [if_pos (by assumption)] | rw [if_neg (fun z => z (by assumption)), if_neg (fun y => y.1 (by first | assumption | exact Eq.symm (by assumption)))] | rw [if_neg (fun z => z (by assumption)), if_pos ⟨by first | assumption | exact fun z => absurd z.symm (by assumption), by have z : ¬ upd (τ2 7) k2 (rsN τ2 k2) k2 < 10 := (by assumption); rw [upd_s, i_lt] at z; rw [i_le]; omega⟩] | rw [if_neg (fun z => z (by assumption)), if_neg (fun y => by have z : upd (τ2 7) k2 (rsN τ2 k2) k2 < 10 := (by assumption); rw [upd_s, i_lt] at z; have y2 := y.2; rw [i_le] at y2; omega)]), hτn2⟩ _ _ hP hD hS ls (lv_sub hl [1, 0] rfl)
                  · skip
                    refine lv_aload_n hx hb dX5_pass_143 rfl (lv_at hl 0 rfl) ?_
                    refine lv_iload_n hx hb dX5_pass_144 rfl (lv_at hl 1 rfl) ?_
                    refine lv_iconst (v := 2) hx hb dX5_pass_145 (by decide) ?_
                    refine rd_i (va_runV (As := [.int (nI k2), .int 2]) (rest := []) ⟨hx, hb, hml, hown, hts⟩ (M_X5_get l D cI d (b 0) (put τ2 7 (upd ((τ2 7)) k2 (rsN τ2 k2))) k2 2 (by first | assumption | omega) (by first | assumption | omega)) (cwV 2 hts gX5_pass_X5_get rfl rfl rfl (by decide +kernel) ⟨Nat.le_of_ble_eq_true rfl, Nat.le_of_ble_eq_true rfl⟩) (rdV hK hP [0, 1, 2, 3] [0] rfl rfl (ci := 5) (q0 := 0) rfl rfl) rfl rfl hl.1 rfl (lv_room (Nat.le_of_ble_eq_true rfl)) dX5_pass_146 ⟨Nat.zero_le _, Nat.zero_le _⟩) ?_
                    refine W.eq (g2 := F0 m 149 ls [.int ((upd ((τ2 7)) k2 (rsN τ2 k2)) k2)]) rfl ?_
                    refine lv_bipush (v := 10) hx hb dX5_pass_149 (by decide) ?_
                    refine lv_icmp_lt (tgt := 162) hx hb dX5_pass_151 (by decide) (fun c_6 => ?_) (fun c_6 => ?_)
                    · skip
                      refine lv_iinc (v := nI (k2 + 1)) (lv' := [(1, .int (nI (k2 + 1))), (0, .ref (d 0))]) hx hb dX5_pass_162 hl (k := 1) rfl (nI_1 k2) (by decide) rfl (fun ls hl => ?_)
                      refine lv_goto (tgt := 71) hx hb dX5_pass_165 (by decide) ?_
                      exact ih71 (k2 + 1) (put τ2 7 (upd ((τ2 7)) k2 (rsN τ2 k2))) (by omega) ⟨by omega, (by (show _ = restF (rsA (trA σ2 nc) k2) k2); rw [← hτ2]; unfold restF; first | rw [if_pos (by assumption)] | rw [if_neg (fun z => z (by assumption)), if_neg (fun y => y.1 (by first | assumption | exact Eq.symm (by assumption)))] | rw [if_neg (fun z => z (by assumption)), if_pos ⟨by first | assumption | exact fun z => absurd z.symm (by assumption), by have z : ¬ upd (τ2 7) k2 (rsN τ2 k2) k2 < 10 := (by assumption); rw [upd_s, i_lt] at z; rw [i_le]; omega⟩] | rw [if_neg (fun z => z (by assumption)), if_neg (fun y => by have z : upd (τ2 7) k2 (rsN τ2 k2) k2 < 10 := (by assumption); rw [upd_s, i_lt] at z; have y2 := y.2; rw [i_le] at y2; omega)]), hτn2⟩ _ _ hP hD hS ls (lv_sub hl [1, 0] rfl)
                    · skip
                      refine lv_aload_n hx hb dX5_pass_154 rfl (lv_at hl 0 rfl) ?_
                      refine lv_iload_n hx hb dX5_pass_155 rfl (lv_at hl 1 rfl) ?_
                      refine lv_bipush (v := 6) hx hb dX5_pass_156 (by decide) ?_
                      refine lv_iconst (v := 1) hx hb dX5_pass_158 (by decide) ?_
                      refine wr_v (wn := wStaE d (b 0) cI (τ2 0 0) (τ2 17 0) (τ2 16 0) (τ2 18 0) (τ2 3) (τ2 4) (τ2 5) (τ2 6) (upd ((τ2 7)) k2 (rsN τ2 k2)) (τ2 8) (τ2 9) (τ2 10) (upd ((τ2 11)) k2 1) (τ2 12) (τ2 13) ++ wOut b x y cI ω) (va_runV (As := [.int (nI k2), .int 6, .int 1]) (rest := []) ⟨hx, hb, hml, hown, hts⟩ (M_X5_set_6 l D cI d (b 0) (put τ2 7 (upd ((τ2 7)) k2 (rsN τ2 k2))) k2 1 _ (by first | assumption | omega)) (cwV 3 hts gX5_pass_X5_set rfl rfl rfl (by decide +kernel) ⟨Nat.le_of_ble_eq_true rfl, Nat.le_of_ble_eq_true rfl⟩) (wrV hK hP hD [0, 1, 2, 3] [0] rfl rfl rfl (ci := 5) (q0 := 0) rfl rfl) rfl rfl hl.1 rfl (lv_room (Nat.le_of_ble_eq_true rfl)) dX5_pass_159 ⟨Nat.le_of_ble_eq_true rfl, Nat.le_of_ble_eq_true rfl⟩) hP hD hS hA [0, 1, 2, 3] [4, 5, 6, 7, 8] [5, 6, 7, 8, 0, 1, 2, 3, 4] rfl rfl rfl rfl rfl rfl (fun H locs hP hD hS => ?_)
                      refine lv_iinc (v := nI (k2 + 1)) (lv' := [(1, .int (nI (k2 + 1))), (0, .ref (d 0))]) hx hb dX5_pass_162 hl (k := 1) rfl (nI_1 k2) (by decide) rfl (fun ls hl => ?_)
                      refine lv_goto (tgt := 71) hx hb dX5_pass_165 (by decide) ?_
                      exact ih71 (k2 + 1) (put (put τ2 7 (upd ((τ2 7)) k2 (rsN τ2 k2))) 11 (upd ((τ2 11)) k2 1)) (by omega) ⟨by omega, (by (show _ = restF (rsA (trA σ2 nc) k2) k2); rw [← hτ2]; unfold restF; first | rw [if_pos (by assumption)] | rw [if_neg (fun z => z (by assumption)), if_neg (fun y => y.1 (by first | assumption | exact Eq.symm (by assumption)))] | rw [if_neg (fun z => z (by assumption)), if_pos ⟨by first | assumption | exact fun z => absurd z.symm (by assumption), by have z : ¬ upd (τ2 7) k2 (rsN τ2 k2) k2 < 10 := (by assumption); rw [upd_s, i_lt] at z; rw [i_le]; omega⟩] | rw [if_neg (fun z => z (by assumption)), if_neg (fun y => by have z : upd (τ2 7) k2 (rsN τ2 k2) k2 < 10 := (by assumption); rw [upd_s, i_lt] at z; have y2 := y.2; rw [i_le] at y2; omega)]), hτn2⟩ _ _ hP hD hS ls (lv_sub hl [1, 0] rfl)
                · skip
                  refine lv_goto (tgt := 162) hx hb dX5_pass_89 (by decide) ?_
                  refine lv_iinc (v := nI (k2 + 1)) (lv' := [(1, .int (nI (k2 + 1))), (0, .ref (d 0))]) hx hb dX5_pass_162 hl (k := 1) rfl (nI_1 k2) (by decide) rfl (fun ls hl => ?_)
                  refine lv_goto (tgt := 71) hx hb dX5_pass_165 (by decide) ?_
                  exact ih71 (k2 + 1) τ2 (by omega) ⟨by omega, (by (show _ = restF (rsA (trA σ2 nc) k2) k2); rw [← hτ2]; unfold restF; first | rw [if_pos (by assumption)] | rw [if_neg (fun z => z (by assumption)), if_neg (fun y => y.1 (by first | assumption | exact Eq.symm (by assumption)))] | rw [if_neg (fun z => z (by assumption)), if_pos ⟨by first | assumption | exact fun z => absurd z.symm (by assumption), by have z : ¬ upd (τ2 7) k2 (rsN τ2 k2) k2 < 10 := (by assumption); rw [upd_s, i_lt] at z; rw [i_le]; omega⟩] | rw [if_neg (fun z => z (by assumption)), if_neg (fun y => by have z : upd (τ2 7) k2 (rsN τ2 k2) k2 < 10 := (by assumption); rw [upd_s, i_lt] at z; have y2 := y.2; rw [i_le] at y2; omega)]), hτn2⟩ _ _ hP hD hS ls (lv_sub hl [1, 0] rfl)
          exact loop71 10 0 τ (by omega) ⟨by omega, (by rw [hτ, show k = nc by omega]; rfl), hτn⟩ _ _ hP hD hS ls (lv_sub hl [1, 0] rfl)
        · skip
          rw [hτn] at c_2
          have hk2 : k < nc := lp_nge (N := nc) (k := k) c_2 (by omega) (by omega)
          refine lv_iconst (v := 0) hx hb dX5_pass_28 (by decide) ?_
          refine lv_istore_n (lv' := [(2, .int 0), (0, .ref (d 0)), (1, .int (nI k))]) hx hb dX5_pass_29 rfl hl (by decide) rfl (fun ls hl => ?_)
          have hokk : okC τ k := by rw [hτ]; exact trA_ok (hok2 k hk2) k
          obtain ⟨pn, hpn, hp1, hp2⟩ := okC_pace2 hokk
          have htr : trvF τ k = itS τ k pn := by unfold trvF; rw [hpn, nI_clamp (by omega)]
          have loop30 : ∀ (n : Nat) (j : Nat) (ρ : St), 3 - j < n → (j ≤ pn ∧ ρ = itS τ k j ∧ okC ρ k ∧ ρ 13 k = nI pn) → ∀ (H : Heap) (locs : List Loc), va_P D vwCl (wSta d (b 0) cI ρ ++ wOut b x y cI ω) H → va_D A (wSta d (b 0) cI ρ ++ wOut b x y cI ω) → va_S A s.heap H locs → ∀ (ls : Array Slot), lv_has ls 3 [(0, .ref (d 0)), (1, .int (nI k)), (2, .int (nI j))] → W p l e ({ frames := 4, cells := 0, slots := 0, locals := 91 } : Room) s m args below meth c H locs 0 0 Q (F0 m 30 ls []) := by
            intro n
            induction n with
            | zero => intro j  ρ  hf; exact absurd hf (Nat.not_lt_zero _)
            | succ n ih30 =>
              intro j  ρ  hf ⟨hj, hρ, hokρ, hp13⟩ H locs hP hD hS ls hl
              refine lv_iload_n hx hb dX5_pass_30 rfl (lv_at hl 2 rfl) ?_
              refine lv_aload_n hx hb dX5_pass_31 rfl (lv_at hl 0 rfl) ?_
              refine lv_iload_n hx hb dX5_pass_32 rfl (lv_at hl 1 rfl) ?_
              refine lv_bipush (v := 8) hx hb dX5_pass_33 (by decide) ?_
              refine rd_i (va_runV (As := [.int (nI k), .int 8]) (rest := [.int (nI j)]) ⟨hx, hb, hml, hown, hts⟩ (M_X5_get l D cI d (b 0) ρ k 8 (by first | assumption | omega) (by first | assumption | omega)) (cwV 2 hts gX5_pass_X5_get rfl rfl rfl (by decide +kernel) ⟨Nat.le_of_ble_eq_true rfl, Nat.le_of_ble_eq_true rfl⟩) (rdV hK hP [0, 1, 2, 3] [0] rfl rfl (ci := 5) (q0 := 0) rfl rfl) rfl rfl hl.1 rfl (lv_room (Nat.le_of_ble_eq_true rfl)) dX5_pass_35 ⟨Nat.zero_le _, Nat.zero_le _⟩) ?_
              refine W.eq (g2 := F0 m 38 ls [.int (bI (ρ 13 k = 2)), .int (nI j)]) rfl ?_
              rw [pace_b hp13 hp1 hp2]
              refine lv_icmp_gt (tgt := 63) hx hb dX5_pass_38 (by decide) (fun c_7 => ?_) (fun c_7 => ?_)
              · skip
                have hk4 : pn - 1 < j := lp_gt (N := pn - 1) (k := j) c_7 (by omega) (by omega)
                have het : ρ = trA σ2 (k + 1) := by (show ρ = trvF (trA σ2 k) k); rw [← hτ, htr, hρ, show j = pn by omega]
                refine lv_iinc (v := nI (k + 1)) (lv' := [(1, .int (nI (k + 1))), (0, .ref (d 0)), (2, .int (nI j))]) hx hb dX5_pass_63 hl (k := 1) rfl (nI_1 k) (by decide) rfl (fun ls hl => ?_)
                refine lv_goto (tgt := 20) hx hb dX5_pass_66 (by decide) ?_
                exact ih20 (k + 1) ρ (by omega) ⟨by omega, het, (by rw [het, trA_k _ (by omega)]; exact hn2)⟩ _ _ hP hD hS ls (lv_sub hl [1, 0] rfl)
              · skip
                have hk4 : j ≤ pn - 1 := lp_ngt (N := pn - 1) (k := j) c_7 (by omega) (by omega)
                refine lv_aload_n hx hb dX5_pass_41 rfl (lv_at hl 0 rfl) ?_
                refine lv_iload_n hx hb dX5_pass_42 rfl (lv_at hl 1 rfl) ?_
                refine lv_bipush (v := 6) hx hb dX5_pass_43 (by decide) ?_
                refine rd_i (va_runV (As := [.int (nI k), .int 6]) (rest := []) ⟨hx, hb, hml, hown, hts⟩ (M_X5_get l D cI d (b 0) ρ k 6 (by first | assumption | omega) (by first | assumption | omega)) (cwV 2 hts gX5_pass_X5_get rfl rfl rfl (by decide +kernel) ⟨Nat.le_of_ble_eq_true rfl, Nat.le_of_ble_eq_true rfl⟩) (rdV hK hP [0, 1, 2, 3] [0] rfl rfl (ci := 5) (q0 := 0) rfl rfl) rfl rfl hl.1 rfl (lv_room (Nat.le_of_ble_eq_true rfl)) dX5_pass_45 ⟨Nat.zero_le _, Nat.zero_le _⟩) ?_
                refine W.eq (g2 := F0 m 48 ls [.int (ρ 11 k)]) rfl ?_
                refine lv_iconst (v := 1) hx hb dX5_pass_48 (by decide) ?_
                refine lv_icmp_ne (tgt := 63) hx hb dX5_pass_49 (by decide) (fun c_8 => ?_) (fun c_8 => ?_)
                · skip
                  have het : ρ = trA σ2 (k + 1) := by (show ρ = trvF (trA σ2 k) k); rw [← hτ, htr, hρ]; exact (itS_stop (by rw [← hρ]; assumption) pn (by omega)).symm
                  refine lv_iinc (v := nI (k + 1)) (lv' := [(1, .int (nI (k + 1))), (0, .ref (d 0)), (2, .int (nI j))]) hx hb dX5_pass_63 hl (k := 1) rfl (nI_1 k) (by decide) rfl (fun ls hl => ?_)
                  refine lv_goto (tgt := 20) hx hb dX5_pass_66 (by decide) ?_
                  exact ih20 (k + 1) ρ (by omega) ⟨by omega, het, (by rw [het, trA_k _ (by omega)]; exact hn2)⟩ _ _ hP hD hS ls (lv_sub hl [1, 0] rfl)
                · skip
                  refine lv_aload_n hx hb dX5_pass_52 rfl (lv_at hl 0 rfl) ?_
                  refine lv_iload_n hx hb dX5_pass_53 rfl (lv_at hl 1 rfl) ?_
                  refine wr_v (wn := wSta d (b 0) cI (stepF ρ k) ++ wOut b x y cI ω) (va_runV (As := [.int (nI k)]) (rest := []) ⟨hx, hb, hml, hown, hts⟩ (M_X5_step l D cI d (b 0) ρ k _ (by omega) hokρ (by assumption)) (cwV 1 hts gX5_pass_X5_step rfl rfl rfl (by decide +kernel) ⟨Nat.le_of_ble_eq_true rfl, Nat.le_of_ble_eq_true rfl⟩) (wrV hK hP hD [0, 1, 2, 3] [0] rfl rfl rfl (ci := 5) (q0 := 0) rfl rfl) rfl rfl hl.1 rfl (lv_room (Nat.le_of_ble_eq_true rfl)) dX5_pass_54 ⟨Nat.le_of_ble_eq_true rfl, Nat.le_of_ble_eq_true rfl⟩) hP hD hS hA [0, 1, 2, 3] [4, 5, 6, 7, 8] [5, 6, 7, 8, 0, 1, 2, 3, 4] rfl rfl rfl rfl rfl rfl (fun H locs hP hD hS => ?_)
                  generalize eσ_9 : stepF ρ k = σ_9 at hP hD
                  refine lv_iinc (v := nI (j + 1)) (lv' := [(2, .int (nI (j + 1))), (0, .ref (d 0)), (1, .int (nI k))]) hx hb dX5_pass_57 hl (k := 2) rfl (nI_1 j) (by decide) rfl (fun ls hl => ?_)
                  refine lv_goto (tgt := 30) hx hb dX5_pass_60 (by decide) ?_
                  exact ih30 (j + 1) σ_9 (by omega) ⟨by omega, (by rw [← eσ_9, hρ]; exact itS_succ (by rw [← hρ]; assumption)), (by rw [← eσ_9]; exact okC_step hokρ (by assumption)), (by rw [← eσ_9, stepF_k _ _ (by omega)]; exact hp13)⟩ _ _ hP hD hS ls (lv_sub hl [1, 2, 0] rfl)
          exact loop30 4 0 τ (by omega) ⟨by omega, rfl, hokk, hpn⟩ _ _ hP hD hS ls (lv_sub hl [1, 2, 0] rfl)
    exact loop20 10 0 σ2 (by omega) ⟨by omega, rfl, hn2⟩ _ _ hP hD hS ls (lv_sub hl [1, 0] rfl)
  refine lv_aload_n hx hb dX5_pass_0 rfl (lv_at hl 0 rfl) ?_
  refine va_get (D := D) (ci := 5) (v := .int (σ 0 0)) (C := RX5) (T := TX5) (N := 8) hx hb hts hiX5 hown hK.1 hP 0 rfl rfl 0 (by decide) (hts (.fieldLink RX5 35 "IceLanesModel$State" "hour" "I") (by decide +kernel)) (fun _ h9 => h9) rfl dX5_pass_1 ?_
  rw [hh]
  refine lv_bipush (v := 12) hx hb dX5_pass_4 (by decide) ?_
  refine lv_irem hx hb dX5_pass_6 (by decide) ?_
  rw [show nI h - nI h / 12 * 12 = nI (h % 12) from rem_nI (d := 12) rfl (by omega) (by decide) (by decide)]
  refine lv_if_ne (tgt := 14) hx hb dX5_pass_7 (by decide) (fun c_10 => ?_) (fun c_10 => ?_)
  · skip
    rw [nI_z (by omega)] at c_10
    exact join14 σ (by first | exact hr1_eq hh hbd (by assumption) hw1 | (unfold hr1; rw [hh, nI_clamp (by omega), if_neg (by assumption)])) _ _ hP hD hS ls (lv_sub hl [0] rfl)
  · skip
    rw [nI_z (by omega)] at c_10
    refine lv_aload_n hx hb dX5_pass_10 rfl (lv_at hl 0 rfl) ?_
    refine wr_v (wn := wStaE d (b 0) cI (σ 0 0) (σ 17 0) (σ 16 0) (σ 18 0) (mapTo (meetM (more ((ω 1) (h / 12 % 14)))) 36 ((σ 3))) (mapTo (meetC ((ω 1) (h / 12 % 14))) 36 ((σ 4))) (σ 5) (σ 6) (σ 7) (σ 8) (σ 9) (σ 10) (σ 11) (σ 12) (σ 13) ++ wOut b x y cI ω) (va_runV (As := []) (rest := []) ⟨hx, hb, hml, hown, hts⟩ (M_X5_weather l D cI d b x y σ ω h _ hh hbd hI hW) (cwV 0 hts gX5_pass_X5_weather rfl rfl rfl (by decide +kernel) ⟨Nat.le_of_ble_eq_true rfl, Nat.le_of_ble_eq_true rfl⟩) (wrV hK hP hD [0, 1, 2, 3, 4, 5, 6, 7, 8] [0] rfl rfl rfl (ci := 5) (q0 := 0) rfl rfl) rfl rfl hl.1 rfl (lv_room (Nat.le_of_ble_eq_true rfl)) dX5_pass_11 ⟨Nat.le_of_ble_eq_true rfl, Nat.le_of_ble_eq_true rfl⟩) hP hD hS hA [0, 1, 2, 3, 4, 5, 6, 7, 8] [] [0, 1, 2, 3, 4, 5, 6, 7, 8] rfl rfl rfl rfl rfl rfl (fun H locs hP hD hS => ?_)
    exact join14 (put (put σ 3 (mapTo (meetM (more ((ω 1) (h / 12 % 14)))) 36 ((σ 3)))) 4 (mapTo (meetC ((ω 1) (h / 12 % 14))) 36 ((σ 4)))) (by first | exact hr1_eq hh hbd (by assumption) hw1 | (unfold hr1; rw [hh, nI_clamp (by omega), if_neg (by assumption)])) _ _ hP hD hS ls (lv_sub hl [0] rfl)
