set_option maxHeartbeats 4000000 in
set_option maxRecDepth 100000 in
theorem M_X1_meetDay (l : Launch) (D : va_G) (cI : ClassId) (a : Nat → Nat) (σ : St) (w : Int32) (sz : Nat) : Met l yX1_meetDay wsX1_meetDay ({ frames := 1, cells := 0, slots := 0, locals := 16 } : Room) (wrPc [.ref (a 3), .int w] D (wIce a cI σ) [(cI, .int)] sz) (wrQv D (wIce a cI (put (put σ 3 (mapTo (meetM (more w)) 36 (σ 3))) 4 (mapTo (meetC w) 36 (σ 4)))) (va_A (wIce a cI σ) sz)) 0 0 (va_A (wIce a cI σ) sz) := by
  refine Met.ofW (cc := cX1_meetDay) (maxL := 4) (ret := none) (by decide) rfl ?_
  intro p e s m args below meth c s₁ B hml hv
  obtain ⟨hargs, hsz, hP, hK, hD0⟩ := hv
  have hx := B.exec
  have hb := B.bytes
  have hr := B.returns
  have hts := atoms_spec (ws := wsX1_meetDay) B.pre
  have hown : s.vm.findClass RX1 = some m.cls := findClass_of_methodNamed B.named
  have hlocks := B.notSynchronized
  obtain ⟨_, hN⟩ := id hK
  have hiX1 : ∀ w ∈ wsX10, w ∈ wsX1_meetDay := by decide +kernel
  subst hsz
  have hD := hD0.self (sz := s.heap.size)
  generalize hAe : va_A (wIce a cI σ) s.heap.size = A at hD ⊢
  have hA : ∀ q : Nat, s.heap.size ≤ q → A q := fun q h => by rw [← hAe]; exact Or.inr h
  have hS : va_S A s.heap s.heap [] := va_S.rf
  have hP : va_P D vwCl (wIce a cI σ) s.heap := hP
  refine my_abs (fun Q hQ => ?_)
  obtain ⟨ls, hl, hent⟩ := my_entry (m := m) (n := 4) hargs (Nat.le_of_ble_eq_true rfl)
  rw [hent]
  have hl : lv_has ls 4 [(0, .ref (a 3)), (1, .int w)] := hl
  show W p l e ({ frames := 1, cells := 0, slots := 0, locals := 16 } : Room) s m args below meth c s.heap [] 0 0 Q (F0 m 0 ls [])
  refine lv_iload_n hx hb dX1_meetDay_0 rfl (lv_at hl 1 rfl) ?_
  refine lv_if_ge (tgt := 9) hx hb dX1_meetDay_1 (by decide) (fun c_1 => ?_) (fun c_1 => ?_)
  · skip
    refine lv_bipush (v := (-2)) hx hb dX1_meetDay_9 (by decide) ?_
    refine lv_iload_n hx hb dX1_meetDay_11 rfl (lv_at hl 1 rfl) ?_
    refine lv_imul hx hb dX1_meetDay_12 ?_
    refine lv_topi (fun mo e_mo => ?_)
    refine lv_istore_n (lv' := [(2, .int mo), (0, .ref (a 3)), (1, .int w)]) hx hb dX1_meetDay_13 rfl hl (by decide) rfl (fun ls hl => ?_)
    refine lv_iconst (v := 0) hx hb dX1_meetDay_14 (by decide) ?_
    refine lv_istore_n (lv' := [(3, .int 0), (2, .int mo), (0, .ref (a 3)), (1, .int w)]) hx hb dX1_meetDay_15 rfl hl (by decide) rfl (fun ls hl => ?_)
    have loop16 : ∀ (n : Nat) (k : Nat) (tt cc : Nat → Int32), 36 - k < n → (k ≤ 36 ∧ tt = mapTo (meetM mo) k (σ 3) ∧ cc = mapTo (meetC w) k (σ 4)) → ∀ (H : Heap) (locs : List Loc), va_P D vwCl (wIceE a cI tt cc) H → va_D A (wIceE a cI tt cc) → va_S A s.heap H locs → ∀ (ls : Array Slot), lv_has ls 4 [(0, .ref (a 3)), (1, .int w), (2, .int mo), (3, .int (nI k))] → W p l e ({ frames := 1, cells := 0, slots := 0, locals := 16 } : Room) s m args below meth c H locs 0 0 Q (F0 m 16 ls []) := by
      intro n
      induction n with
      | zero => intro k  tt cc  hf; exact absurd hf (Nat.not_lt_zero _)
      | succ n ih16 =>
        intro k  tt cc  hf ⟨hk, ht, hcc⟩ H locs hP hD hS ls hl
        refine lv_iload_n hx hb dX1_meetDay_16 rfl (lv_at hl 3 rfl) ?_
        refine lv_bipush (v := 36) hx hb dX1_meetDay_17 (by decide) ?_
        refine lv_icmp_ge (tgt := 75) hx hb dX1_meetDay_19 (by decide) (fun c_2 => ?_) (fun c_2 => ?_)
        · skip
          have hk2 : 36 ≤ k := lp_ge (N := 36) (k := k) c_2 (by omega) (by omega)
          subst hQ
          have hP : va_P D vwCl (wIce a cI (put (put σ 3 tt) 4 cc)) H := hP
          have hD : va_D A (wIce a cI (put (put σ 3 tt) 4 cc)) := hD
          have k_3 : (tt : Nat → Int32) = (mapTo (meetM (more w)) 36 (σ 3)) := by rw [ht, show k = 36 by omega, show mo = more w from (by rw [e_mo]; first | exact more_t (by assumption) | exact more_f (by assumption))]
          have k_4 : (cc : Nat → Int32) = (mapTo (meetC w) 36 (σ 4)) := by rw [hcc, show k = 36 by omega]
          have hst_s : put (put σ 3 tt) 4 cc = put (put σ 3 (mapTo (meetM (more w)) 36 (σ 3))) 4 (mapTo (meetC w) 36 (σ 4)) := put_cg (put_cg rfl k_3) k_4
          rw [hst_s] at hP hD
          exact ret_wrv hx hb hr hlocks hP hD hS dX1_meetDay_75
        · skip
          have hk2 : k < 36 := lp_nge (N := 36) (k := k) c_2 (by omega) (by omega)
          refine lv_aload_n hx hb dX1_meetDay_22 rfl (lv_at hl 0 rfl) ?_
          refine va_get (D := D) (ci := 1) (v := .ref (a 4)) (C := RX1) (T := TX1) (N := 2) hx hb hts hiX1 hown hK.1 hP 0 rfl rfl 0 (by decide) (hts (.fieldLink RX1 9 "IceLanes$Ice" "thickness" "[I") (by decide +kernel)) (fun _ h9 => h9) rfl dX1_meetDay_23 ?_
          refine lv_iload_n hx hb dX1_meetDay_26 rfl (lv_at hl 3 rfl) ?_
          refine lv_iconst (v := 0) hx hb dX1_meetDay_27 (by decide) ?_
          refine lv_bipush (v := 60) hx hb dX1_meetDay_28 (by decide) ?_
          refine lv_aload_n hx hb dX1_meetDay_30 rfl (lv_at hl 0 rfl) ?_
          refine va_get (D := D) (ci := 1) (v := .ref (a 4)) (C := RX1) (T := TX1) (N := 2) hx hb hts hiX1 hown hK.1 hP 0 rfl rfl 0 (by decide) (hts (.fieldLink RX1 9 "IceLanes$Ice" "thickness" "[I") (by decide +kernel)) (fun _ h9 => h9) rfl dX1_meetDay_31 ?_
          refine lv_iload_n hx hb dX1_meetDay_34 rfl (lv_at hl 3 rfl) ?_
          refine va_iald hx hb hK.1 hP 1 0 rfl rfl (by first | assumption | exact vp_in_nI (by omega) (by decide)) dX1_meetDay_35 ?_
          rw [nI_clamp (n := k) (by omega)]
          refine W.eq (g2 := F0 m 36 ls [.int (tt k), .int 60, .int 0, .int (nI k), .ref (a 4)]) rfl ?_
          refine lv_iload_n hx hb dX1_meetDay_36 rfl (lv_at hl 2 rfl) ?_
          refine lv_iadd hx hb dX1_meetDay_37 ?_
          refine va_mmin hx hb (by rw [hml]; exact hl.1.symm) hown (hts (.methodLink RX1 39 Lib.Math.min.name) (by decide +kernel)) (hts (.static Lib.Math.min.name) (by decide +kernel)) (hts (.initialized "java/lang/Math") (by decide +kernel)) (hts (.code Lib.Math.min.name Lib.Math.min.code 2 (some .int)) (by decide +kernel)) (Nat.le_of_ble_eq_true rfl) (Nat.le_of_ble_eq_true rfl) (Nat.zero_le _) (Nat.zero_le _) dX1_meetDay_38 ?_
          refine W.eq (g2 := F0 m 41 ls [.int (mn 60 ((tt k) + mo)), .int 0, .int (nI k), .ref (a 4)]) rfl ?_
          refine va_mmax hx hb (by rw [hml]; exact hl.1.symm) hown (hts (.methodLink RX1 31 Lib.Math.max.name) (by decide +kernel)) (hts (.static Lib.Math.max.name) (by decide +kernel)) (hts (.initialized "java/lang/Math") (by decide +kernel)) (hts (.code Lib.Math.max.name Lib.Math.max.code 2 (some .int)) (by decide +kernel)) (Nat.le_of_ble_eq_true rfl) (Nat.le_of_ble_eq_true rfl) (Nat.zero_le _) (Nat.zero_le _) dX1_meetDay_41 ?_
          refine W.eq (g2 := F0 m 44 ls [.int (mx 0 (mn 60 ((tt k) + mo))), .int (nI k), .ref (a 4)]) rfl ?_
          refine va_iast hx hb hK.1 hP hD hS 1 0 rfl rfl (by first | assumption | exact vp_in_nI (by omega) (by decide)) dX1_meetDay_44 (fun H locs hP hD hS => ?_)
          rw [nI_clamp (n := k) (by omega)] at hP hD
          have hP : va_P D vwCl (wIceE a cI (upd tt k (mx 0 (mn 60 ((tt k) + mo)))) cc) H := hP
          have hD : va_D A (wIceE a cI (upd tt k (mx 0 (mn 60 ((tt k) + mo)))) cc) := hD
          refine lv_iload_n hx hb dX1_meetDay_45 rfl (lv_at hl 1 rfl) ?_
          refine lv_bipush (v := (-3)) hx hb dX1_meetDay_46 (by decide) ?_
          refine lv_icmp_gt (tgt := 69) hx hb dX1_meetDay_48 (by decide) (fun c_3 => ?_) (fun c_3 => ?_)
          · skip
            refine lv_iinc (v := nI (k + 1)) (lv' := [(3, .int (nI (k + 1))), (0, .ref (a 3)), (1, .int w), (2, .int mo)]) hx hb dX1_meetDay_69 hl (k := 3) rfl (nI_1 k) (by decide) rfl (fun ls hl => ?_)
            refine lv_goto (tgt := 16) hx hb dX1_meetDay_72 (by decide) ?_
            exact ih16 (k + 1) (upd tt k (mx 0 (mn 60 ((tt k) + mo)))) cc (by omega) ⟨by omega, (by rw [ht, mapTo_self]; exact mapTo_succ (meetM mo) k (σ 3)), (by rw [hcc]; first | exact mapTo_skip (meetC_f (by assumption)) | (rw [mapTo_self, ← meetC_t (w := w) (by assumption)]; exact mapTo_succ (meetC w) k (σ 4)))⟩ _ _ hP hD hS ls (lv_sub hl [1, 2, 3, 0] rfl)
          · skip
            refine lv_aload_n hx hb dX1_meetDay_51 rfl (lv_at hl 0 rfl) ?_
            refine va_get (D := D) (ci := 1) (v := .ref (a 5)) (C := RX1) (T := TX1) (N := 2) hx hb hts hiX1 hown hK.1 hP 0 rfl rfl 1 (by decide) (hts (.fieldLink RX1 15 "IceLanes$Ice" "cracks" "[I") (by decide +kernel)) (fun _ h9 => h9) rfl dX1_meetDay_52 ?_
            refine lv_iload_n hx hb dX1_meetDay_55 rfl (lv_at hl 3 rfl) ?_
            refine lv_iconst (v := 0) hx hb dX1_meetDay_56 (by decide) ?_
            refine lv_aload_n hx hb dX1_meetDay_57 rfl (lv_at hl 0 rfl) ?_
            refine va_get (D := D) (ci := 1) (v := .ref (a 5)) (C := RX1) (T := TX1) (N := 2) hx hb hts hiX1 hown hK.1 hP 0 rfl rfl 1 (by decide) (hts (.fieldLink RX1 15 "IceLanes$Ice" "cracks" "[I") (by decide +kernel)) (fun _ h9 => h9) rfl dX1_meetDay_58 ?_
            refine lv_iload_n hx hb dX1_meetDay_61 rfl (lv_at hl 3 rfl) ?_
            refine va_iald hx hb hK.1 hP 2 0 rfl rfl (by first | assumption | exact vp_in_nI (by omega) (by decide)) dX1_meetDay_62 ?_
            rw [nI_clamp (n := k) (by omega)]
            refine W.eq (g2 := F0 m 63 ls [.int (cc k), .int 0, .int (nI k), .ref (a 5)]) rfl ?_
            refine lv_iconst (v := 1) hx hb dX1_meetDay_63 (by decide) ?_
            refine lv_isub hx hb dX1_meetDay_64 ?_
            refine va_mmax hx hb (by rw [hml]; exact hl.1.symm) hown (hts (.methodLink RX1 31 Lib.Math.max.name) (by decide +kernel)) (hts (.static Lib.Math.max.name) (by decide +kernel)) (hts (.initialized "java/lang/Math") (by decide +kernel)) (hts (.code Lib.Math.max.name Lib.Math.max.code 2 (some .int)) (by decide +kernel)) (Nat.le_of_ble_eq_true rfl) (Nat.le_of_ble_eq_true rfl) (Nat.zero_le _) (Nat.zero_le _) dX1_meetDay_65 ?_
            refine W.eq (g2 := F0 m 68 ls [.int (mx 0 ((cc k) - 1)), .int (nI k), .ref (a 5)]) rfl ?_
            refine va_iast hx hb hK.1 hP hD hS 2 0 rfl rfl (by first | assumption | exact vp_in_nI (by omega) (by decide)) dX1_meetDay_68 (fun H locs hP hD hS => ?_)
            rw [nI_clamp (n := k) (by omega)] at hP hD
            have hP : va_P D vwCl (wIceE a cI (upd tt k (mx 0 (mn 60 ((tt k) + mo)))) (upd cc k (mx 0 ((cc k) - 1)))) H := hP
            have hD : va_D A (wIceE a cI (upd tt k (mx 0 (mn 60 ((tt k) + mo)))) (upd cc k (mx 0 ((cc k) - 1)))) := hD
            refine lv_iinc (v := nI (k + 1)) (lv' := [(3, .int (nI (k + 1))), (0, .ref (a 3)), (1, .int w), (2, .int mo)]) hx hb dX1_meetDay_69 hl (k := 3) rfl (nI_1 k) (by decide) rfl (fun ls hl => ?_)
            refine lv_goto (tgt := 16) hx hb dX1_meetDay_72 (by decide) ?_
            exact ih16 (k + 1) (upd tt k (mx 0 (mn 60 ((tt k) + mo)))) (upd cc k (mx 0 ((cc k) - 1))) (by omega) ⟨by omega, (by rw [ht, mapTo_self]; exact mapTo_succ (meetM mo) k (σ 3)), (by rw [hcc]; first | exact mapTo_skip (meetC_f (by assumption)) | (rw [mapTo_self, ← meetC_t (w := w) (by assumption)]; exact mapTo_succ (meetC w) k (σ 4)))⟩ _ _ hP hD hS ls (lv_sub hl [1, 2, 3, 0] rfl)
    exact loop16 37 0 (σ 3) (σ 4) (by omega) ⟨by omega, (mapTo_0 _ _).symm, (mapTo_0 _ _).symm⟩ _ _ hP hD hS ls (lv_sub hl [2, 3, 1, 0] rfl)
  · skip
    refine lv_iload_n hx hb dX1_meetDay_4 rfl (lv_at hl 1 rfl) ?_
    refine lv_ineg hx hb dX1_meetDay_5 ?_
    refine lv_goto (tgt := 13) hx hb dX1_meetDay_6 (by decide) ?_
    refine lv_topi (fun mo e_mo => ?_)
    refine lv_istore_n (lv' := [(2, .int mo), (0, .ref (a 3)), (1, .int w)]) hx hb dX1_meetDay_13 rfl hl (by decide) rfl (fun ls hl => ?_)
    refine lv_iconst (v := 0) hx hb dX1_meetDay_14 (by decide) ?_
    refine lv_istore_n (lv' := [(3, .int 0), (2, .int mo), (0, .ref (a 3)), (1, .int w)]) hx hb dX1_meetDay_15 rfl hl (by decide) rfl (fun ls hl => ?_)
    have loop16 : ∀ (n : Nat) (k : Nat) (tt cc : Nat → Int32), 36 - k < n → (k ≤ 36 ∧ tt = mapTo (meetM mo) k (σ 3) ∧ cc = mapTo (meetC w) k (σ 4)) → ∀ (H : Heap) (locs : List Loc), va_P D vwCl (wIceE a cI tt cc) H → va_D A (wIceE a cI tt cc) → va_S A s.heap H locs → ∀ (ls : Array Slot), lv_has ls 4 [(0, .ref (a 3)), (1, .int w), (2, .int mo), (3, .int (nI k))] → W p l e ({ frames := 1, cells := 0, slots := 0, locals := 16 } : Room) s m args below meth c H locs 0 0 Q (F0 m 16 ls []) := by
      intro n
      induction n with
      | zero => intro k  tt cc  hf; exact absurd hf (Nat.not_lt_zero _)
      | succ n ih16 =>
        intro k  tt cc  hf ⟨hk, ht, hcc⟩ H locs hP hD hS ls hl
        refine lv_iload_n hx hb dX1_meetDay_16 rfl (lv_at hl 3 rfl) ?_
        refine lv_bipush (v := 36) hx hb dX1_meetDay_17 (by decide) ?_
        refine lv_icmp_ge (tgt := 75) hx hb dX1_meetDay_19 (by decide) (fun c_4 => ?_) (fun c_4 => ?_)
        · skip
          have hk2 : 36 ≤ k := lp_ge (N := 36) (k := k) c_4 (by omega) (by omega)
          subst hQ
          have hP : va_P D vwCl (wIce a cI (put (put σ 3 tt) 4 cc)) H := hP
          have hD : va_D A (wIce a cI (put (put σ 3 tt) 4 cc)) := hD
          have k_3 : (tt : Nat → Int32) = (mapTo (meetM (more w)) 36 (σ 3)) := by rw [ht, show k = 36 by omega, show mo = more w from (by rw [e_mo]; first | exact more_t (by assumption) | exact more_f (by assumption))]
          have k_4 : (cc : Nat → Int32) = (mapTo (meetC w) 36 (σ 4)) := by rw [hcc, show k = 36 by omega]
          have hst_s : put (put σ 3 tt) 4 cc = put (put σ 3 (mapTo (meetM (more w)) 36 (σ 3))) 4 (mapTo (meetC w) 36 (σ 4)) := put_cg (put_cg rfl k_3) k_4
          rw [hst_s] at hP hD
          exact ret_wrv hx hb hr hlocks hP hD hS dX1_meetDay_75
        · skip
          have hk2 : k < 36 := lp_nge (N := 36) (k := k) c_4 (by omega) (by omega)
          refine lv_aload_n hx hb dX1_meetDay_22 rfl (lv_at hl 0 rfl) ?_
          refine va_get (D := D) (ci := 1) (v := .ref (a 4)) (C := RX1) (T := TX1) (N := 2) hx hb hts hiX1 hown hK.1 hP 0 rfl rfl 0 (by decide) (hts (.fieldLink RX1 9 "IceLanes$Ice" "thickness" "[I") (by decide +kernel)) (fun _ h9 => h9) rfl dX1_meetDay_23 ?_
          refine lv_iload_n hx hb dX1_meetDay_26 rfl (lv_at hl 3 rfl) ?_
          refine lv_iconst (v := 0) hx hb dX1_meetDay_27 (by decide) ?_
          refine lv_bipush (v := 60) hx hb dX1_meetDay_28 (by decide) ?_
          refine lv_aload_n hx hb dX1_meetDay_30 rfl (lv_at hl 0 rfl) ?_
          refine va_get (D := D) (ci := 1) (v := .ref (a 4)) (C := RX1) (T := TX1) (N := 2) hx hb hts hiX1 hown hK.1 hP 0 rfl rfl 0 (by decide) (hts (.fieldLink RX1 9 "IceLanes$Ice" "thickness" "[I") (by decide +kernel)) (fun _ h9 => h9) rfl dX1_meetDay_31 ?_
          refine lv_iload_n hx hb dX1_meetDay_34 rfl (lv_at hl 3 rfl) ?_
          refine va_iald hx hb hK.1 hP 1 0 rfl rfl (by first | assumption | exact vp_in_nI (by omega) (by decide)) dX1_meetDay_35 ?_
          rw [nI_clamp (n := k) (by omega)]
          refine W.eq (g2 := F0 m 36 ls [.int (tt k), .int 60, .int 0, .int (nI k), .ref (a 4)]) rfl ?_
          refine lv_iload_n hx hb dX1_meetDay_36 rfl (lv_at hl 2 rfl) ?_
          refine lv_iadd hx hb dX1_meetDay_37 ?_
          refine va_mmin hx hb (by rw [hml]; exact hl.1.symm) hown (hts (.methodLink RX1 39 Lib.Math.min.name) (by decide +kernel)) (hts (.static Lib.Math.min.name) (by decide +kernel)) (hts (.initialized "java/lang/Math") (by decide +kernel)) (hts (.code Lib.Math.min.name Lib.Math.min.code 2 (some .int)) (by decide +kernel)) (Nat.le_of_ble_eq_true rfl) (Nat.le_of_ble_eq_true rfl) (Nat.zero_le _) (Nat.zero_le _) dX1_meetDay_38 ?_
          refine W.eq (g2 := F0 m 41 ls [.int (mn 60 ((tt k) + mo)), .int 0, .int (nI k), .ref (a 4)]) rfl ?_
          refine va_mmax hx hb (by rw [hml]; exact hl.1.symm) hown (hts (.methodLink RX1 31 Lib.Math.max.name) (by decide +kernel)) (hts (.static Lib.Math.max.name) (by decide +kernel)) (hts (.initialized "java/lang/Math") (by decide +kernel)) (hts (.code Lib.Math.max.name Lib.Math.max.code 2 (some .int)) (by decide +kernel)) (Nat.le_of_ble_eq_true rfl) (Nat.le_of_ble_eq_true rfl) (Nat.zero_le _) (Nat.zero_le _) dX1_meetDay_41 ?_
          refine W.eq (g2 := F0 m 44 ls [.int (mx 0 (mn 60 ((tt k) + mo))), .int (nI k), .ref (a 4)]) rfl ?_
          refine va_iast hx hb hK.1 hP hD hS 1 0 rfl rfl (by first | assumption | exact vp_in_nI (by omega) (by decide)) dX1_meetDay_44 (fun H locs hP hD hS => ?_)
          rw [nI_clamp (n := k) (by omega)] at hP hD
          have hP : va_P D vwCl (wIceE a cI (upd tt k (mx 0 (mn 60 ((tt k) + mo)))) cc) H := hP
          have hD : va_D A (wIceE a cI (upd tt k (mx 0 (mn 60 ((tt k) + mo)))) cc) := hD
          refine lv_iload_n hx hb dX1_meetDay_45 rfl (lv_at hl 1 rfl) ?_
          refine lv_bipush (v := (-3)) hx hb dX1_meetDay_46 (by decide) ?_
          refine lv_icmp_gt (tgt := 69) hx hb dX1_meetDay_48 (by decide) (fun c_5 => ?_) (fun c_5 => ?_)
          · skip
            refine lv_iinc (v := nI (k + 1)) (lv' := [(3, .int (nI (k + 1))), (0, .ref (a 3)), (1, .int w), (2, .int mo)]) hx hb dX1_meetDay_69 hl (k := 3) rfl (nI_1 k) (by decide) rfl (fun ls hl => ?_)
            refine lv_goto (tgt := 16) hx hb dX1_meetDay_72 (by decide) ?_
            exact ih16 (k + 1) (upd tt k (mx 0 (mn 60 ((tt k) + mo)))) cc (by omega) ⟨by omega, (by rw [ht, mapTo_self]; exact mapTo_succ (meetM mo) k (σ 3)), (by rw [hcc]; first | exact mapTo_skip (meetC_f (by assumption)) | (rw [mapTo_self, ← meetC_t (w := w) (by assumption)]; exact mapTo_succ (meetC w) k (σ 4)))⟩ _ _ hP hD hS ls (lv_sub hl [1, 2, 3, 0] rfl)
          · skip
            refine lv_aload_n hx hb dX1_meetDay_51 rfl (lv_at hl 0 rfl) ?_
            refine va_get (D := D) (ci := 1) (v := .ref (a 5)) (C := RX1) (T := TX1) (N := 2) hx hb hts hiX1 hown hK.1 hP 0 rfl rfl 1 (by decide) (hts (.fieldLink RX1 15 "IceLanes$Ice" "cracks" "[I") (by decide +kernel)) (fun _ h9 => h9) rfl dX1_meetDay_52 ?_
            refine lv_iload_n hx hb dX1_meetDay_55 rfl (lv_at hl 3 rfl) ?_
            refine lv_iconst (v := 0) hx hb dX1_meetDay_56 (by decide) ?_
            refine lv_aload_n hx hb dX1_meetDay_57 rfl (lv_at hl 0 rfl) ?_
            refine va_get (D := D) (ci := 1) (v := .ref (a 5)) (C := RX1) (T := TX1) (N := 2) hx hb hts hiX1 hown hK.1 hP 0 rfl rfl 1 (by decide) (hts (.fieldLink RX1 15 "IceLanes$Ice" "cracks" "[I") (by decide +kernel)) (fun _ h9 => h9) rfl dX1_meetDay_58 ?_
            refine lv_iload_n hx hb dX1_meetDay_61 rfl (lv_at hl 3 rfl) ?_
            refine va_iald hx hb hK.1 hP 2 0 rfl rfl (by first | assumption | exact vp_in_nI (by omega) (by decide)) dX1_meetDay_62 ?_
            rw [nI_clamp (n := k) (by omega)]
            refine W.eq (g2 := F0 m 63 ls [.int (cc k), .int 0, .int (nI k), .ref (a 5)]) rfl ?_
            refine lv_iconst (v := 1) hx hb dX1_meetDay_63 (by decide) ?_
            refine lv_isub hx hb dX1_meetDay_64 ?_
            refine va_mmax hx hb (by rw [hml]; exact hl.1.symm) hown (hts (.methodLink RX1 31 Lib.Math.max.name) (by decide +kernel)) (hts (.static Lib.Math.max.name) (by decide +kernel)) (hts (.initialized "java/lang/Math") (by decide +kernel)) (hts (.code Lib.Math.max.name Lib.Math.max.code 2 (some .int)) (by decide +kernel)) (Nat.le_of_ble_eq_true rfl) (Nat.le_of_ble_eq_true rfl) (Nat.zero_le _) (Nat.zero_le _) dX1_meetDay_65 ?_
            refine W.eq (g2 := F0 m 68 ls [.int (mx 0 ((cc k) - 1)), .int (nI k), .ref (a 5)]) rfl ?_
            refine va_iast hx hb hK.1 hP hD hS 2 0 rfl rfl (by first | assumption | exact vp_in_nI (by omega) (by decide)) dX1_meetDay_68 (fun H locs hP hD hS => ?_)
            rw [nI_clamp (n := k) (by omega)] at hP hD
            have hP : va_P D vwCl (wIceE a cI (upd tt k (mx 0 (mn 60 ((tt k) + mo)))) (upd cc k (mx 0 ((cc k) - 1)))) H := hP
            have hD : va_D A (wIceE a cI (upd tt k (mx 0 (mn 60 ((tt k) + mo)))) (upd cc k (mx 0 ((cc k) - 1)))) := hD
            refine lv_iinc (v := nI (k + 1)) (lv' := [(3, .int (nI (k + 1))), (0, .ref (a 3)), (1, .int w), (2, .int mo)]) hx hb dX1_meetDay_69 hl (k := 3) rfl (nI_1 k) (by decide) rfl (fun ls hl => ?_)
            refine lv_goto (tgt := 16) hx hb dX1_meetDay_72 (by decide) ?_
            exact ih16 (k + 1) (upd tt k (mx 0 (mn 60 ((tt k) + mo)))) (upd cc k (mx 0 ((cc k) - 1))) (by omega) ⟨by omega, (by rw [ht, mapTo_self]; exact mapTo_succ (meetM mo) k (σ 3)), (by rw [hcc]; first | exact mapTo_skip (meetC_f (by assumption)) | (rw [mapTo_self, ← meetC_t (w := w) (by assumption)]; exact mapTo_succ (meetC w) k (σ 4)))⟩ _ _ hP hD hS ls (lv_sub hl [1, 2, 3, 0] rfl)
    exact loop16 37 0 (σ 3) (σ 4) (by omega) ⟨by omega, (mapTo_0 _ _).symm, (mapTo_0 _ _).symm⟩ _ _ hP hD hS ls (lv_sub hl [2, 3, 1, 0] rfl)
set_option maxHeartbeats 4000000 in
set_option maxRecDepth 100000 in
theorem M_X1_withstands (l : Launch) (D : va_G) (cI : ClassId) (a : Nat → Nat) (σ : St) (s1 : Int32) (s2 : Int32) (ld : Int32) (sz : Nat) (h1 : inS s1) (h2 : inL s2) : Met l yX1_withstands wsX1_withstands ({ frames := 2, cells := 0, slots := 0, locals := 44 } : Room) (wrPc [.ref (a 3), .int s1, .int s2, .int ld] D (wIce a cI σ) [(cI, .int)] sz) (wrQi (bI (ld ≤ snd2 (σ 3) (σ 4) s1 s2 ld)) D (wIce a cI (put (put σ 3 (wsT (σ 3) (σ 4) s1 s2 ld)) 4 (wsC (σ 3) (σ 4) s1 s2 ld))) (va_A (wIce a cI σ) sz)) 0 0 (va_A (wIce a cI σ) sz) := by
  refine Met.ofW (cc := cX1_withstands) (maxL := 5) (ret := (some .boolean)) (by decide) rfl ?_
  intro p e s m args below meth c s₁ B hml hv
  obtain ⟨hargs, hsz, hP, hK, hD0⟩ := hv
  have hx := B.exec
  have hb := B.bytes
  have hr := B.returns
  have hts := atoms_spec (ws := wsX1_withstands) B.pre
  have hown : s.vm.findClass RX1 = some m.cls := findClass_of_methodNamed B.named
  have hlocks := B.notSynchronized
  obtain ⟨_, hN⟩ := id hK
  have hiX1 : ∀ w ∈ wsX10, w ∈ wsX1_withstands := by decide +kernel
  subst hsz
  have hD := hD0.self (sz := s.heap.size)
  generalize hAe : va_A (wIce a cI σ) s.heap.size = A at hD ⊢
  have hA : ∀ q : Nat, s.heap.size ≤ q → A q := fun q h => by rw [← hAe]; exact Or.inr h
  have hS : va_S A s.heap s.heap [] := va_S.rf
  have hP : va_P D vwCl (wIce a cI σ) s.heap := hP
  refine my_abs (fun Q hQ => ?_)
  obtain ⟨ls, hl, hent⟩ := my_entry (m := m) (n := 5) hargs (Nat.le_of_ble_eq_true rfl)
  rw [hent]
  have hl : lv_has ls 5 [(0, .ref (a 3)), (1, .int s1), (2, .int s2), (3, .int ld)] := hl
  show W p l e ({ frames := 2, cells := 0, slots := 0, locals := 44 } : Room) s m args below meth c s.heap [] 0 0 Q (F0 m 0 ls [])
  refine lv_iload_n hx hb dX1_withstands_0 rfl (lv_at hl 1 rfl) ?_
  refine lv_iload_n hx hb dX1_withstands_1 rfl (lv_at hl 2 rfl) ?_
  refine rd_i (va_runSN (As := [.int s1, .int s2]) (rest := []) ⟨hx, hb, hml, hown, hts⟩ (M_X4_placeOf l D cI s1 s2 ) ⟨va_cnB 2 hts gX1_withstands_X4_placeOf_n24 rfl rfl rfl (nX1_24 hN) (hts (.initialized RX4) (by decide +kernel)) (by decide +kernel) ⟨Nat.le_of_ble_eq_true rfl, Nat.le_of_ble_eq_true rfl⟩, hts (.static yX4_placeOf) (by decide +kernel), trivial⟩ (rdS hK hP [] [0] rfl rfl) rfl rfl hl.1 rfl (lv_room (Nat.le_of_ble_eq_true rfl)) dX1_withstands_2 ⟨Nat.zero_le _, Nat.zero_le _⟩) ?_
  refine lv_istore (lv' := [(4, .int (s1 * 3 + s2)), (0, .ref (a 3)), (1, .int s1), (2, .int s2), (3, .int ld)]) hx hb dX1_withstands_5 hl (by decide) rfl (fun ls hl => ?_)
  refine lv_aload_n hx hb dX1_withstands_7 rfl (lv_at hl 1 rfl) ?_
  refine lv_iload_n hx hb dX1_withstands_8 rfl (lv_at hl 2 rfl) ?_
  refine lv_iload_n hx hb dX1_withstands_9 rfl (lv_at hl 3 rfl) ?_
  refine rd_i (va_runV (As := [.int s1, .int s2]) (rest := []) ⟨hx, hb, hml, hown, hts⟩ (M_X1_soundness l D cI a σ s1 s2 (by first | assumption | omega) (by first | assumption | omega)) (cwV 2 hts gX1_withstands_X1_soundness rfl rfl rfl (by decide +kernel) ⟨Nat.le_of_ble_eq_true rfl, Nat.le_of_ble_eq_true rfl⟩) (rdV hK hP [0, 1, 2] [0] rfl rfl (ci := 1) (q0 := 0) rfl rfl) rfl rfl hl.1 rfl (lv_room (Nat.le_of_ble_eq_true rfl)) dX1_withstands_10 ⟨Nat.zero_le _, Nat.zero_le _⟩) ?_
  refine lv_iconst (v := 2) hx hb dX1_withstands_13 (by decide) ?_
  refine lv_iload_n hx hb dX1_withstands_14 rfl (lv_at hl 4 rfl) ?_
  refine lv_imul hx hb dX1_withstands_15 ?_
  refine lv_icmp_ge (tgt := 40) hx hb dX1_withstands_16 (by decide) (fun c_1 => ?_) (fun c_1 => ?_)
  · skip
    refine lv_aload_n hx hb dX1_withstands_40 rfl (lv_at hl 1 rfl) ?_
    refine lv_iload_n hx hb dX1_withstands_41 rfl (lv_at hl 2 rfl) ?_
    refine lv_iload_n hx hb dX1_withstands_42 rfl (lv_at hl 3 rfl) ?_
    refine rd_i (va_runV (As := [.int s1, .int s2]) (rest := []) ⟨hx, hb, hml, hown, hts⟩ (M_X1_soundness l D cI a σ s1 s2 (by first | assumption | omega) (by first | assumption | omega)) (cwV 2 hts gX1_withstands_X1_soundness rfl rfl rfl (by decide +kernel) ⟨Nat.le_of_ble_eq_true rfl, Nat.le_of_ble_eq_true rfl⟩) (rdV hK hP [0, 1, 2] [0] rfl rfl (ci := 1) (q0 := 0) rfl rfl) rfl rfl hl.1 rfl (lv_room (Nat.le_of_ble_eq_true rfl)) dX1_withstands_43 ⟨Nat.zero_le _, Nat.zero_le _⟩) ?_
    rw [show sound ((σ 3)) ((σ 4)) s1 s2 = snd2 (σ 3) (σ 4) s1 s2 ld from (by unfold snd2 wsC; first | (rw [if_pos (by simp only [i_le, i_lt] at c_1 ⊢; omega)]; rfl) | (rw [if_neg (by simp only [i_le, i_lt] at c_1 ⊢; omega)]; rfl))]
    refine lv_iload_n hx hb dX1_withstands_46 rfl (lv_at hl 4 rfl) ?_
    refine lv_icmp_lt (tgt := 52) hx hb dX1_withstands_47 (by decide) (fun c_2 => ?_) (fun c_2 => ?_)
    · skip
      refine lv_aload_n hx hb dX1_withstands_52 rfl (lv_at hl 1 rfl) ?_
      refine va_get (D := D) (ci := 1) (v := .ref (a 4)) (C := RX1) (T := TX1) (N := 2) hx hb hts hiX1 hown hK.1 hP 0 rfl rfl 0 (by decide) (hts (.fieldLink RX1 9 "IceLanes$Ice" "thickness" "[I") (by decide +kernel)) (fun _ h9 => h9) rfl dX1_withstands_53 ?_
      refine lv_iload hx hb dX1_withstands_56 (lv_at hl 0 rfl) ?_
      refine lv_iconst (v := 0) hx hb dX1_withstands_58 (by decide) ?_
      refine va_iast hx hb hK.1 hP hD hS 1 0 rfl rfl (pl_in h1 h2) dX1_withstands_59 (fun H locs hP hD hS => ?_)
      have hP : va_P D vwCl (wIceE a cI (upd (σ 3) (s1 * 3 + s2).toNatClampNeg 0) (σ 4)) H := hP
      have hD : va_D A (wIceE a cI (upd (σ 3) (s1 * 3 + s2).toNatClampNeg 0) (σ 4)) := hD
      refine lv_iconst (v := 0) hx hb dX1_withstands_60 (by decide) ?_
      subst hQ
      have hP : va_P D vwCl (wIce a cI (put σ 3 (upd (σ 3) (s1 * 3 + s2).toNatClampNeg 0))) H := hP
      have hD : va_D A (wIce a cI (put σ 3 (upd (σ 3) (s1 * 3 + s2).toNatClampNeg 0))) := hD
      have hP := hP.sub (ws' := wIce a cI (put (put σ 3 (upd (σ 3) (s1 * 3 + s2).toNatClampNeg 0)) 4 (σ 4))) [0, 1, 2] rfl
      have hD := hD.sub (ws' := wIce a cI (put (put σ 3 (upd (σ 3) (s1 * 3 + s2).toNatClampNeg 0)) 4 (σ 4))) [0, 1, 2] (by decide) rfl
      have k_3 : (upd (σ 3) (s1 * 3 + s2).toNatClampNeg 0 : Nat → Int32) = (wsT (σ 3) (σ 4) s1 s2 ld) := by unfold wsT; first | (rw [if_pos (by simp only [i_le, i_lt] at c_1 c_2 ⊢; omega)]) | (rw [if_neg (by simp only [i_le, i_lt] at c_1 c_2 ⊢; omega)]; rfl)
      have k_4 : (σ 4 : Nat → Int32) = (wsC (σ 3) (σ 4) s1 s2 ld) := by unfold wsC; first | (rw [if_pos (by simp only [i_le, i_lt] at c_1 c_2 ⊢; omega)]; rfl) | (rw [if_neg (by simp only [i_le, i_lt] at c_1 c_2 ⊢; omega)])
      have hst_s : put (put σ 3 (upd (σ 3) (s1 * 3 + s2).toNatClampNeg 0)) 4 (σ 4) = put (put σ 3 (wsT (σ 3) (σ 4) s1 s2 ld)) 4 (wsC (σ 3) (σ 4) s1 s2 ld) := put_cg (put_cg rfl k_3) k_4
      rw [hst_s] at hP hD
      exact ret_wri hx hb hr rfl hlocks hP hD hS (show 0 = bI (ld ≤ snd2 (σ 3) (σ 4) s1 s2 ld) from (by first | exact bI_t (by simp only [i_le, i_lt, i_eq, Int32.reduceToInt] at c_1 c_2 ⊢; omega) | exact bI_f (by simp only [i_le, i_lt, i_eq, Int32.reduceToInt] at c_1 c_2 ⊢; omega))) dX1_withstands_61
    · skip
      refine lv_iconst (v := 1) hx hb dX1_withstands_50 (by decide) ?_
      subst hQ
      have hP := hP.sub (ws' := wIce a cI (put (put σ 3 (σ 3)) 4 (σ 4))) [0, 1, 2] rfl
      have hD := hD.sub (ws' := wIce a cI (put (put σ 3 (σ 3)) 4 (σ 4))) [0, 1, 2] (by decide) rfl
      have k_3 : (σ 3 : Nat → Int32) = (wsT (σ 3) (σ 4) s1 s2 ld) := by unfold wsT; first | (rw [if_pos (by simp only [i_le, i_lt] at c_1 c_2 ⊢; omega)]) | (rw [if_neg (by simp only [i_le, i_lt] at c_1 c_2 ⊢; omega)]; rfl)
      have k_4 : (σ 4 : Nat → Int32) = (wsC (σ 3) (σ 4) s1 s2 ld) := by unfold wsC; first | (rw [if_pos (by simp only [i_le, i_lt] at c_1 c_2 ⊢; omega)]; rfl) | (rw [if_neg (by simp only [i_le, i_lt] at c_1 c_2 ⊢; omega)])
      have hst_s : put (put σ 3 (σ 3)) 4 (σ 4) = put (put σ 3 (wsT (σ 3) (σ 4) s1 s2 ld)) 4 (wsC (σ 3) (σ 4) s1 s2 ld) := put_cg (put_cg rfl k_3) k_4
      rw [hst_s] at hP hD
      exact ret_wri hx hb hr rfl hlocks hP hD hS (show 1 = bI (ld ≤ snd2 (σ 3) (σ 4) s1 s2 ld) from (by first | exact bI_t (by simp only [i_le, i_lt, i_eq, Int32.reduceToInt] at c_1 c_2 ⊢; omega) | exact bI_f (by simp only [i_le, i_lt, i_eq, Int32.reduceToInt] at c_1 c_2 ⊢; omega))) dX1_withstands_51
  · skip
    refine lv_aload_n hx hb dX1_withstands_19 rfl (lv_at hl 1 rfl) ?_
    refine va_get (D := D) (ci := 1) (v := .ref (a 5)) (C := RX1) (T := TX1) (N := 2) hx hb hts hiX1 hown hK.1 hP 0 rfl rfl 1 (by decide) (hts (.fieldLink RX1 15 "IceLanes$Ice" "cracks" "[I") (by decide +kernel)) (fun _ h9 => h9) rfl dX1_withstands_20 ?_
    refine lv_iload hx hb dX1_withstands_23 (lv_at hl 0 rfl) ?_
    refine lv_bipush (v := 9) hx hb dX1_withstands_25 (by decide) ?_
    refine lv_aload_n hx hb dX1_withstands_27 rfl (lv_at hl 1 rfl) ?_
    refine va_get (D := D) (ci := 1) (v := .ref (a 5)) (C := RX1) (T := TX1) (N := 2) hx hb hts hiX1 hown hK.1 hP 0 rfl rfl 1 (by decide) (hts (.fieldLink RX1 15 "IceLanes$Ice" "cracks" "[I") (by decide +kernel)) (fun _ h9 => h9) rfl dX1_withstands_28 ?_
    refine lv_iload hx hb dX1_withstands_31 (lv_at hl 0 rfl) ?_
    refine va_iald hx hb hK.1 hP 2 0 rfl rfl (pl_in h1 h2) dX1_withstands_33 ?_
    refine lv_iconst (v := 1) hx hb dX1_withstands_34 (by decide) ?_
    refine lv_iadd hx hb dX1_withstands_35 ?_
    refine va_mmin hx hb (by rw [hml]; exact hl.1.symm) hown (hts (.methodLink RX1 39 Lib.Math.min.name) (by decide +kernel)) (hts (.static Lib.Math.min.name) (by decide +kernel)) (hts (.initialized "java/lang/Math") (by decide +kernel)) (hts (.code Lib.Math.min.name Lib.Math.min.code 2 (some .int)) (by decide +kernel)) (Nat.le_of_ble_eq_true rfl) (Nat.le_of_ble_eq_true rfl) (Nat.zero_le _) (Nat.zero_le _) dX1_withstands_36 ?_
    refine W.eq (g2 := F0 m 39 ls [.int (mn 9 ((σ 4 (s1 * 3 + s2).toNatClampNeg) + 1)), .int (s1 * 3 + s2), .ref (a 5)]) rfl ?_
    refine va_iast hx hb hK.1 hP hD hS 2 0 rfl rfl (pl_in h1 h2) dX1_withstands_39 (fun H locs hP hD hS => ?_)
    have hP : va_P D vwCl (wIceE a cI (σ 3) (upd (σ 4) (s1 * 3 + s2).toNatClampNeg (mn 9 ((σ 4 (s1 * 3 + s2).toNatClampNeg) + 1)))) H := hP
    have hD : va_D A (wIceE a cI (σ 3) (upd (σ 4) (s1 * 3 + s2).toNatClampNeg (mn 9 ((σ 4 (s1 * 3 + s2).toNatClampNeg) + 1)))) := hD
    refine lv_aload_n hx hb dX1_withstands_40 rfl (lv_at hl 1 rfl) ?_
    refine lv_iload_n hx hb dX1_withstands_41 rfl (lv_at hl 2 rfl) ?_
    refine lv_iload_n hx hb dX1_withstands_42 rfl (lv_at hl 3 rfl) ?_
    refine rd_i (va_runV (As := [.int s1, .int s2]) (rest := []) ⟨hx, hb, hml, hown, hts⟩ (M_X1_soundness l D cI a (put σ 4 (upd (σ 4) (s1 * 3 + s2).toNatClampNeg (mn 9 ((σ 4 (s1 * 3 + s2).toNatClampNeg) + 1)))) s1 s2 (by first | assumption | omega) (by first | assumption | omega)) (cwV 2 hts gX1_withstands_X1_soundness rfl rfl rfl (by decide +kernel) ⟨Nat.le_of_ble_eq_true rfl, Nat.le_of_ble_eq_true rfl⟩) (rdV hK hP [0, 1, 2] [0] rfl rfl (ci := 1) (q0 := 0) rfl rfl) rfl rfl hl.1 rfl (lv_room (Nat.le_of_ble_eq_true rfl)) dX1_withstands_43 ⟨Nat.zero_le _, Nat.zero_le _⟩) ?_
    refine W.eq (g2 := F0 m 46 ls [.int (sound ((σ 3)) ((upd (σ 4) (s1 * 3 + s2).toNatClampNeg (mn 9 ((σ 4 (s1 * 3 + s2).toNatClampNeg) + 1)))) s1 s2)]) rfl ?_
    rw [show sound ((σ 3)) ((upd (σ 4) (s1 * 3 + s2).toNatClampNeg (mn 9 ((σ 4 (s1 * 3 + s2).toNatClampNeg) + 1)))) s1 s2 = snd2 (σ 3) (σ 4) s1 s2 ld from (by unfold snd2 wsC; first | (rw [if_pos (by simp only [i_le, i_lt] at c_1 ⊢; omega)]; rfl) | (rw [if_neg (by simp only [i_le, i_lt] at c_1 ⊢; omega)]; rfl))]
    refine lv_iload_n hx hb dX1_withstands_46 rfl (lv_at hl 4 rfl) ?_
    refine lv_icmp_lt (tgt := 52) hx hb dX1_withstands_47 (by decide) (fun c_3 => ?_) (fun c_3 => ?_)
    · skip
      refine lv_aload_n hx hb dX1_withstands_52 rfl (lv_at hl 1 rfl) ?_
      refine va_get (D := D) (ci := 1) (v := .ref (a 4)) (C := RX1) (T := TX1) (N := 2) hx hb hts hiX1 hown hK.1 hP 0 rfl rfl 0 (by decide) (hts (.fieldLink RX1 9 "IceLanes$Ice" "thickness" "[I") (by decide +kernel)) (fun _ h9 => h9) rfl dX1_withstands_53 ?_
      refine lv_iload hx hb dX1_withstands_56 (lv_at hl 0 rfl) ?_
      refine lv_iconst (v := 0) hx hb dX1_withstands_58 (by decide) ?_
      refine va_iast hx hb hK.1 hP hD hS 1 0 rfl rfl (pl_in h1 h2) dX1_withstands_59 (fun H locs hP hD hS => ?_)
      have hP : va_P D vwCl (wIceE a cI (upd (σ 3) (s1 * 3 + s2).toNatClampNeg 0) (upd (σ 4) (s1 * 3 + s2).toNatClampNeg (mn 9 ((σ 4 (s1 * 3 + s2).toNatClampNeg) + 1)))) H := hP
      have hD : va_D A (wIceE a cI (upd (σ 3) (s1 * 3 + s2).toNatClampNeg 0) (upd (σ 4) (s1 * 3 + s2).toNatClampNeg (mn 9 ((σ 4 (s1 * 3 + s2).toNatClampNeg) + 1)))) := hD
      refine lv_iconst (v := 0) hx hb dX1_withstands_60 (by decide) ?_
      subst hQ
      have hP : va_P D vwCl (wIce a cI (put (put σ 3 (upd (σ 3) (s1 * 3 + s2).toNatClampNeg 0)) 4 (upd (σ 4) (s1 * 3 + s2).toNatClampNeg (mn 9 ((σ 4 (s1 * 3 + s2).toNatClampNeg) + 1))))) H := hP
      have hD : va_D A (wIce a cI (put (put σ 3 (upd (σ 3) (s1 * 3 + s2).toNatClampNeg 0)) 4 (upd (σ 4) (s1 * 3 + s2).toNatClampNeg (mn 9 ((σ 4 (s1 * 3 + s2).toNatClampNeg) + 1))))) := hD
      have k_3 : (upd (σ 3) (s1 * 3 + s2).toNatClampNeg 0 : Nat → Int32) = (wsT (σ 3) (σ 4) s1 s2 ld) := by unfold wsT; first | (rw [if_pos (by simp only [i_le, i_lt] at c_1 c_3 ⊢; omega)]) | (rw [if_neg (by simp only [i_le, i_lt] at c_1 c_3 ⊢; omega)]; rfl)
      have k_4 : (upd (σ 4) (s1 * 3 + s2).toNatClampNeg (mn 9 ((σ 4 (s1 * 3 + s2).toNatClampNeg) + 1)) : Nat → Int32) = (wsC (σ 3) (σ 4) s1 s2 ld) := by unfold wsC; first | (rw [if_pos (by simp only [i_le, i_lt] at c_1 c_3 ⊢; omega)]; rfl) | (rw [if_neg (by simp only [i_le, i_lt] at c_1 c_3 ⊢; omega)])
      have hst_s : put (put σ 3 (upd (σ 3) (s1 * 3 + s2).toNatClampNeg 0)) 4 (upd (σ 4) (s1 * 3 + s2).toNatClampNeg (mn 9 ((σ 4 (s1 * 3 + s2).toNatClampNeg) + 1))) = put (put σ 3 (wsT (σ 3) (σ 4) s1 s2 ld)) 4 (wsC (σ 3) (σ 4) s1 s2 ld) := put_cg (put_cg rfl k_3) k_4
      rw [hst_s] at hP hD
      exact ret_wri hx hb hr rfl hlocks hP hD hS (show 0 = bI (ld ≤ snd2 (σ 3) (σ 4) s1 s2 ld) from (by first | exact bI_t (by simp only [i_le, i_lt, i_eq, Int32.reduceToInt] at c_1 c_3 ⊢; omega) | exact bI_f (by simp only [i_le, i_lt, i_eq, Int32.reduceToInt] at c_1 c_3 ⊢; omega))) dX1_withstands_61
    · skip
      refine lv_iconst (v := 1) hx hb dX1_withstands_50 (by decide) ?_
      subst hQ
      have hP : va_P D vwCl (wIce a cI (put σ 4 (upd (σ 4) (s1 * 3 + s2).toNatClampNeg (mn 9 ((σ 4 (s1 * 3 + s2).toNatClampNeg) + 1))))) H := hP
      have hD : va_D A (wIce a cI (put σ 4 (upd (σ 4) (s1 * 3 + s2).toNatClampNeg (mn 9 ((σ 4 (s1 * 3 + s2).toNatClampNeg) + 1))))) := hD
      have hP := hP.sub (ws' := wIce a cI (put (put σ 3 (σ 3)) 4 (upd (σ 4) (s1 * 3 + s2).toNatClampNeg (mn 9 ((σ 4 (s1 * 3 + s2).toNatClampNeg) + 1))))) [0, 1, 2] rfl
      have hD := hD.sub (ws' := wIce a cI (put (put σ 3 (σ 3)) 4 (upd (σ 4) (s1 * 3 + s2).toNatClampNeg (mn 9 ((σ 4 (s1 * 3 + s2).toNatClampNeg) + 1))))) [0, 1, 2] (by decide) rfl
      have k_3 : (σ 3 : Nat → Int32) = (wsT (σ 3) (σ 4) s1 s2 ld) := by unfold wsT; first | (rw [if_pos (by simp only [i_le, i_lt] at c_1 c_3 ⊢; omega)]) | (rw [if_neg (by simp only [i_le, i_lt] at c_1 c_3 ⊢; omega)]; rfl)
      have k_4 : (upd (σ 4) (s1 * 3 + s2).toNatClampNeg (mn 9 ((σ 4 (s1 * 3 + s2).toNatClampNeg) + 1)) : Nat → Int32) = (wsC (σ 3) (σ 4) s1 s2 ld) := by unfold wsC; first | (rw [if_pos (by simp only [i_le, i_lt] at c_1 c_3 ⊢; omega)]; rfl) | (rw [if_neg (by simp only [i_le, i_lt] at c_1 c_3 ⊢; omega)])
      have hst_s : put (put σ 3 (σ 3)) 4 (upd (σ 4) (s1 * 3 + s2).toNatClampNeg (mn 9 ((σ 4 (s1 * 3 + s2).toNatClampNeg) + 1))) = put (put σ 3 (wsT (σ 3) (σ 4) s1 s2 ld)) 4 (wsC (σ 3) (σ 4) s1 s2 ld) := put_cg (put_cg rfl k_3) k_4
      rw [hst_s] at hP hD
      exact ret_wri hx hb hr rfl hlocks hP hD hS (show 1 = bI (ld ≤ snd2 (σ 3) (σ 4) s1 s2 ld) from (by first | exact bI_t (by simp only [i_le, i_lt, i_eq, Int32.reduceToInt] at c_1 c_3 ⊢; omega) | exact bI_f (by simp only [i_le, i_lt, i_eq, Int32.reduceToInt] at c_1 c_3 ⊢; omega))) dX1_withstands_51
set_option maxHeartbeats 4000000 in
set_option maxRecDepth 100000 in
theorem M_X1_laneFor (l : Launch) (D : va_G) (cI : ClassId) (a : Nat → Nat) (σ : St) (s1 : Int32) (s2 : Int32) (ld : Int32) (h1 : inS s1) (h2 : inL s2) : Met l yX1_laneFor wsX1_laneFor ({ frames := 2, cells := 0, slots := 0, locals := 44 } : Room) (rdPc [.ref (a 3), .int s1, .int s2, .int ld] D (wIce a cI σ) [(cI, .int)]) (rdQi (laneOf (σ 3) (σ 4) s1 s2 ld)) 0 0 (fun _ => False) := by
  refine Met.ofW (cc := cX1_laneFor) (maxL := 9) (ret := (some .int)) (by decide) rfl ?_
  intro p e s m args below meth c s₁ B hml hv
  obtain ⟨hargs, hP, hK⟩ := hv
  have hx := B.exec
  have hb := B.bytes
  have hr := B.returns
  have hts := atoms_spec (ws := wsX1_laneFor) B.pre
  have hown : s.vm.findClass RX1 = some m.cls := findClass_of_methodNamed B.named
  have hlocks := B.notSynchronized
  obtain ⟨_, hN⟩ := id hK
  refine my_abs (fun Q hQ => ?_)
  obtain ⟨ls, hl, hent⟩ := my_entry (m := m) (n := 9) hargs (Nat.le_of_ble_eq_true rfl)
  rw [hent]
  have hl : lv_has ls 9 [(0, .ref (a 3)), (1, .int s1), (2, .int s2), (3, .int ld)] := hl
  show W p l e ({ frames := 2, cells := 0, slots := 0, locals := 44 } : Room) s m args below meth c s.heap [] 0 0 Q (F0 m 0 ls [])
  refine lv_iconst (v := (-1)) hx hb dX1_laneFor_0 (by decide) ?_
  refine lv_istore (lv' := [(4, .int (-1)), (0, .ref (a 3)), (1, .int s1), (2, .int s2), (3, .int ld)]) hx hb dX1_laneFor_1 hl (by decide) rfl (fun ls hl => ?_)
  refine lv_iconst (v := 0) hx hb dX1_laneFor_3 (by decide) ?_
  refine lv_istore (lv' := [(5, .int 0), (4, .int (-1)), (0, .ref (a 3)), (1, .int s1), (2, .int s2), (3, .int ld)]) hx hb dX1_laneFor_4 hl (by decide) rfl (fun ls hl => ?_)
  refine lv_iconst (v := 2) hx hb dX1_laneFor_6 (by decide) ?_
  refine lv_iload_n hx hb dX1_laneFor_7 rfl (lv_at hl 4 rfl) ?_
  refine lv_iconst (v := 1) hx hb dX1_laneFor_8 (by decide) ?_
  refine lv_iadd hx hb dX1_laneFor_9 ?_
  refine va_mmin hx hb (by rw [hml]; exact hl.1.symm) hown (hts (.methodLink RX1 39 Lib.Math.min.name) (by decide +kernel)) (hts (.static Lib.Math.min.name) (by decide +kernel)) (hts (.initialized "java/lang/Math") (by decide +kernel)) (hts (.code Lib.Math.min.name Lib.Math.min.code 2 (some .int)) (by decide +kernel)) (Nat.le_of_ble_eq_true rfl) (Nat.le_of_ble_eq_true rfl) (Nat.zero_le _) (Nat.zero_le _) dX1_laneFor_10 ?_
  refine W.eq (g2 := F0 m 13 ls [.int (mn 2 (s2 + 1))]) rfl ?_
  refine lv_istore (lv' := [(6, .int (mn 2 (s2 + 1))), (5, .int 0), (4, .int (-1)), (0, .ref (a 3)), (1, .int s1), (2, .int s2), (3, .int ld)]) hx hb dX1_laneFor_13 hl (by decide) rfl (fun ls hl => ?_)
  refine lv_iconst (v := 0) hx hb dX1_laneFor_15 (by decide) ?_
  refine lv_iload_n hx hb dX1_laneFor_16 rfl (lv_at hl 5 rfl) ?_
  refine lv_iconst (v := 1) hx hb dX1_laneFor_17 (by decide) ?_
  refine lv_isub hx hb dX1_laneFor_18 ?_
  refine va_mmax hx hb (by rw [hml]; exact hl.1.symm) hown (hts (.methodLink RX1 31 Lib.Math.max.name) (by decide +kernel)) (hts (.static Lib.Math.max.name) (by decide +kernel)) (hts (.initialized "java/lang/Math") (by decide +kernel)) (hts (.code Lib.Math.max.name Lib.Math.max.code 2 (some .int)) (by decide +kernel)) (Nat.le_of_ble_eq_true rfl) (Nat.le_of_ble_eq_true rfl) (Nat.zero_le _) (Nat.zero_le _) dX1_laneFor_19 ?_
  refine W.eq (g2 := F0 m 22 ls [.int (mx 0 (s2 - 1))]) rfl ?_
  refine lv_istore (lv' := [(7, .int (mx 0 (s2 - 1))), (6, .int (mn 2 (s2 + 1))), (5, .int 0), (4, .int (-1)), (0, .ref (a 3)), (1, .int s1), (2, .int s2), (3, .int ld)]) hx hb dX1_laneFor_22 hl (by decide) rfl (fun ls hl => ?_)
  obtain ⟨na, nm, ea, eb, ha, hm, hab⟩ := lane_ends h2
  have hl : lv_has ls 9 [(7, .int (mx 0 (s2 - 1))), (6, .int (nI nm)), (5, .int 0), (4, .int (-1)), (0, .ref (a 3)), (1, .int s1), (2, .int s2), (3, .int ld)] := by rw [show nI nm = mn 2 (s2 + 1) from eb.symm]; exact hl
  have hl : lv_has ls 9 [(7, .int (nI na)), (6, .int (nI nm)), (5, .int 0), (4, .int (-1)), (0, .ref (a 3)), (1, .int s1), (2, .int s2), (3, .int ld)] := by rw [show nI na = mx 0 (s2 - 1) from ea.symm]; exact hl
  have loop24 : ∀ (n : Nat) (k : Nat) (ch so : Int32), 4 - k < n → (na ≤ k ∧ k ≤ nm + 1 ∧ (ch = -1 ∨ (inL ch ∧ so = sound (σ 3) (σ 4) s1 ch)) ∧ laneF (σ 3) (σ 4) s1 ld (nI nm) (4 + na - k) (nI k) ch = laneF (σ 3) (σ 4) s1 ld (nI nm) 4 (nI na) (-1)) → ∀ (ls : Array Slot), lv_has ls 9 [(0, .ref (a 3)), (1, .int s1), (3, .int ld), (4, .int ch), (5, .int so), (6, .int (nI nm)), (7, .int (nI k))] → W p l e ({ frames := 2, cells := 0, slots := 0, locals := 44 } : Room) s m args below meth c s.heap [] 0 0 Q (F0 m 24 ls []) := by
    intro n
    induction n with
    | zero => intro k  ch so  hf; exact absurd hf (Nat.not_lt_zero _)
    | succ n ih24 =>
      intro k  ch so  hf ⟨hk1, hk, hi, hv⟩ ls hl
      refine lv_iload hx hb dX1_laneFor_24 (lv_at hl 6 rfl) ?_
      refine lv_iload hx hb dX1_laneFor_26 (lv_at hl 5 rfl) ?_
      refine lv_icmp_gt (tgt := 73) hx hb dX1_laneFor_28 (by decide) (fun c_1 => ?_) (fun c_1 => ?_)
      · skip
        have hk2 : nm < k := lp_gt (N := nm) (k := k) c_1 (by omega) (by omega)
        refine lv_iload hx hb dX1_laneFor_73 (lv_at hl 3 rfl) ?_
        subst hQ
        exact ret_rdi hx hb hr rfl hlocks (show ch = laneOf (σ 3) (σ 4) s1 s2 ld from (by unfold laneOf; rw [ea, eb, ← hv, laneF_ge k nm (by omega) (by omega) _ _ hk2])) dX1_laneFor_75
      · skip
        have hk2 : k ≤ nm := lp_ngt (N := nm) (k := k) c_1 (by omega) (by omega)
        refine lv_aload_n hx hb dX1_laneFor_31 rfl (lv_at hl 0 rfl) ?_
        refine lv_iload_n hx hb dX1_laneFor_32 rfl (lv_at hl 1 rfl) ?_
        refine lv_iload hx hb dX1_laneFor_33 (lv_at hl 6 rfl) ?_
        refine rd_i (va_runV (As := [.int s1, .int (nI k)]) (rest := []) ⟨hx, hb, hml, hown, hts⟩ (M_X1_soundness l D cI a σ s1 (nI k) h1 (nI_le2 (by omega))) (cwV 2 hts gX1_laneFor_X1_soundness rfl rfl rfl (by decide +kernel) ⟨Nat.le_of_ble_eq_true rfl, Nat.le_of_ble_eq_true rfl⟩) (rdV hK hP [0, 1, 2] [0] rfl rfl (ci := 1) (q0 := 0) rfl rfl) rfl rfl hl.1 rfl (lv_room (Nat.le_of_ble_eq_true rfl)) dX1_laneFor_35 ⟨Nat.zero_le _, Nat.zero_le _⟩) ?_
        refine lv_istore (lv' := [(8, .int (sound ((σ 3)) ((σ 4)) s1 (nI k))), (0, .ref (a 3)), (1, .int s1), (3, .int ld), (4, .int ch), (5, .int so), (6, .int (nI nm)), (7, .int (nI k))]) hx hb dX1_laneFor_38 hl (by decide) rfl (fun ls hl => ?_)
        refine lv_iload hx hb dX1_laneFor_40 (lv_at hl 0 rfl) ?_
        refine lv_iload_n hx hb dX1_laneFor_42 rfl (lv_at hl 3 rfl) ?_
        refine lv_icmp_lt (tgt := 67) hx hb dX1_laneFor_43 (by decide) (fun c_2 => ?_) (fun c_2 => ?_)
        · skip
          refine lv_iinc (v := nI (k + 1)) (lv' := [(7, .int (nI (k + 1))), (8, .int (sound ((σ 3)) ((σ 4)) s1 (nI k))), (0, .ref (a 3)), (1, .int s1), (3, .int ld), (4, .int ch), (5, .int so), (6, .int (nI nm))]) hx hb dX1_laneFor_67 hl (k := 7) rfl (nI_1 k) (by decide) rfl (fun ls hl => ?_)
          refine lv_goto (tgt := 24) hx hb dX1_laneFor_70 (by decide) ?_
          exact ih24 (k + 1) ch so (by omega) ⟨by omega, by omega, (by first | exact hi | exact Or.inr ⟨nI_le2 (by omega), rfl⟩), (by rw [← hv, show 4 + na - k = (4 + na - (k + 1)) + 1 by omega, laneF_step hk2 (by omega)]; first | rw [if_pos (lane_t (by assumption) (by first | exact Or.inl (by assumption) | exact Or.inr (by assumption)) hi)] | rw [if_neg (lane_f (by first | exact Or.inl (by assumption) | exact Or.inr ⟨by assumption, by assumption⟩) hi)])⟩ ls (lv_sub hl [2, 3, 4, 5, 6, 7, 0] rfl)
        · skip
          refine lv_iload hx hb dX1_laneFor_46 (lv_at hl 4 rfl) ?_
          refine lv_iconst (v := (-1)) hx hb dX1_laneFor_48 (by decide) ?_
          refine lv_icmp_eq (tgt := 59) hx hb dX1_laneFor_49 (by decide) (fun c_3 => ?_) (fun c_3 => ?_)
          · skip
            refine lv_iload hx hb dX1_laneFor_59 (lv_at hl 7 rfl) ?_
            refine lv_istore (lv' := [(4, .int (nI k)), (8, .int (sound ((σ 3)) ((σ 4)) s1 (nI k))), (0, .ref (a 3)), (1, .int s1), (3, .int ld), (5, .int so), (6, .int (nI nm)), (7, .int (nI k))]) hx hb dX1_laneFor_61 hl (by decide) rfl (fun ls hl => ?_)
            refine lv_iload hx hb dX1_laneFor_63 (lv_at hl 1 rfl) ?_
            refine lv_istore (lv' := [(5, .int (sound ((σ 3)) ((σ 4)) s1 (nI k))), (4, .int (nI k)), (8, .int (sound ((σ 3)) ((σ 4)) s1 (nI k))), (0, .ref (a 3)), (1, .int s1), (3, .int ld), (6, .int (nI nm)), (7, .int (nI k))]) hx hb dX1_laneFor_65 hl (by decide) rfl (fun ls hl => ?_)
            refine lv_iinc (v := nI (k + 1)) (lv' := [(7, .int (nI (k + 1))), (5, .int (sound ((σ 3)) ((σ 4)) s1 (nI k))), (4, .int (nI k)), (8, .int (sound ((σ 3)) ((σ 4)) s1 (nI k))), (0, .ref (a 3)), (1, .int s1), (3, .int ld), (6, .int (nI nm))]) hx hb dX1_laneFor_67 hl (k := 7) rfl (nI_1 k) (by decide) rfl (fun ls hl => ?_)
            refine lv_goto (tgt := 24) hx hb dX1_laneFor_70 (by decide) ?_
            exact ih24 (k + 1) (nI k) (sound ((σ 3)) ((σ 4)) s1 (nI k)) (by omega) ⟨by omega, by omega, (by first | exact hi | exact Or.inr ⟨nI_le2 (by omega), rfl⟩), (by rw [← hv, show 4 + na - k = (4 + na - (k + 1)) + 1 by omega, laneF_step hk2 (by omega)]; first | rw [if_pos (lane_t (by assumption) (by first | exact Or.inl (by assumption) | exact Or.inr (by assumption)) hi)] | rw [if_neg (lane_f (by first | exact Or.inl (by assumption) | exact Or.inr ⟨by assumption, by assumption⟩) hi)])⟩ ls (lv_sub hl [4, 5, 6, 2, 1, 7, 0] rfl)
          · skip
            refine lv_iload hx hb dX1_laneFor_52 (lv_at hl 0 rfl) ?_
            refine lv_iload hx hb dX1_laneFor_54 (lv_at hl 5 rfl) ?_
            refine lv_icmp_le (tgt := 67) hx hb dX1_laneFor_56 (by decide) (fun c_4 => ?_) (fun c_4 => ?_)
            · skip
              refine lv_iinc (v := nI (k + 1)) (lv' := [(7, .int (nI (k + 1))), (8, .int (sound ((σ 3)) ((σ 4)) s1 (nI k))), (0, .ref (a 3)), (1, .int s1), (3, .int ld), (4, .int ch), (5, .int so), (6, .int (nI nm))]) hx hb dX1_laneFor_67 hl (k := 7) rfl (nI_1 k) (by decide) rfl (fun ls hl => ?_)
              refine lv_goto (tgt := 24) hx hb dX1_laneFor_70 (by decide) ?_
              exact ih24 (k + 1) ch so (by omega) ⟨by omega, by omega, (by first | exact hi | exact Or.inr ⟨nI_le2 (by omega), rfl⟩), (by rw [← hv, show 4 + na - k = (4 + na - (k + 1)) + 1 by omega, laneF_step hk2 (by omega)]; first | rw [if_pos (lane_t (by assumption) (by first | exact Or.inl (by assumption) | exact Or.inr (by assumption)) hi)] | rw [if_neg (lane_f (by first | exact Or.inl (by assumption) | exact Or.inr ⟨by assumption, by assumption⟩) hi)])⟩ ls (lv_sub hl [2, 3, 4, 5, 6, 7, 0] rfl)
            · skip
              refine lv_iload hx hb dX1_laneFor_59 (lv_at hl 7 rfl) ?_
              refine lv_istore (lv' := [(4, .int (nI k)), (8, .int (sound ((σ 3)) ((σ 4)) s1 (nI k))), (0, .ref (a 3)), (1, .int s1), (3, .int ld), (5, .int so), (6, .int (nI nm)), (7, .int (nI k))]) hx hb dX1_laneFor_61 hl (by decide) rfl (fun ls hl => ?_)
              refine lv_iload hx hb dX1_laneFor_63 (lv_at hl 1 rfl) ?_
              refine lv_istore (lv' := [(5, .int (sound ((σ 3)) ((σ 4)) s1 (nI k))), (4, .int (nI k)), (8, .int (sound ((σ 3)) ((σ 4)) s1 (nI k))), (0, .ref (a 3)), (1, .int s1), (3, .int ld), (6, .int (nI nm)), (7, .int (nI k))]) hx hb dX1_laneFor_65 hl (by decide) rfl (fun ls hl => ?_)
              refine lv_iinc (v := nI (k + 1)) (lv' := [(7, .int (nI (k + 1))), (5, .int (sound ((σ 3)) ((σ 4)) s1 (nI k))), (4, .int (nI k)), (8, .int (sound ((σ 3)) ((σ 4)) s1 (nI k))), (0, .ref (a 3)), (1, .int s1), (3, .int ld), (6, .int (nI nm))]) hx hb dX1_laneFor_67 hl (k := 7) rfl (nI_1 k) (by decide) rfl (fun ls hl => ?_)
              refine lv_goto (tgt := 24) hx hb dX1_laneFor_70 (by decide) ?_
              exact ih24 (k + 1) (nI k) (sound ((σ 3)) ((σ 4)) s1 (nI k)) (by omega) ⟨by omega, by omega, (by first | exact hi | exact Or.inr ⟨nI_le2 (by omega), rfl⟩), (by rw [← hv, show 4 + na - k = (4 + na - (k + 1)) + 1 by omega, laneF_step hk2 (by omega)]; first | rw [if_pos (lane_t (by assumption) (by first | exact Or.inl (by assumption) | exact Or.inr (by assumption)) hi)] | rw [if_neg (lane_f (by first | exact Or.inl (by assumption) | exact Or.inr ⟨by assumption, by assumption⟩) hi)])⟩ ls (lv_sub hl [4, 5, 6, 2, 1, 7, 0] rfl)
  exact loop24 5 na (-1) 0 (by omega) ⟨by omega, by omega, Or.inl rfl, (by rw [show 4 + na - na = 4 by omega])⟩ ls (lv_sub hl [4, 5, 7, 3, 2, 1, 0] rfl)
set_option maxHeartbeats 4000000 in
set_option maxRecDepth 100000 in
theorem M_X1_isOpenAcross (l : Launch) (D : va_G) (cI : ClassId) (a : Nat → Nat) (σ : St) : Met l yX1_isOpenAcross wsX1_isOpenAcross ({ frames := 1, cells := 0, slots := 0, locals := 21 } : Room) (rdPc [.ref (a 3)] D (wIce a cI σ) [(cI, .int)]) (rdQi (bI (opA (σ 3) 12 = true))) 0 0 (fun _ => False) := by
  refine Met.ofW (cc := cX1_isOpenAcross) (maxL := 4) (ret := (some .boolean)) (by decide) rfl ?_
  intro p e s m args below meth c s₁ B hml hv
  obtain ⟨hargs, hP, hK⟩ := hv
  have hx := B.exec
  have hb := B.bytes
  have hr := B.returns
  have hts := atoms_spec (ws := wsX1_isOpenAcross) B.pre
  have hown : s.vm.findClass RX1 = some m.cls := findClass_of_methodNamed B.named
  have hlocks := B.notSynchronized
  obtain ⟨_, hN⟩ := id hK
  have hiX1 : ∀ w ∈ wsX10, w ∈ wsX1_isOpenAcross := by decide +kernel
  refine my_abs (fun Q hQ => ?_)
  obtain ⟨ls, hl, hent⟩ := my_entry (m := m) (n := 4) hargs (Nat.le_of_ble_eq_true rfl)
  rw [hent]
  have hl : lv_has ls 4 [(0, .ref (a 3))] := hl
  show W p l e ({ frames := 1, cells := 0, slots := 0, locals := 21 } : Room) s m args below meth c s.heap [] 0 0 Q (F0 m 0 ls [])
  refine lv_iconst (v := 0) hx hb dX1_isOpenAcross_0 (by decide) ?_
  refine lv_istore_n (lv' := [(1, .int 0), (0, .ref (a 3))]) hx hb dX1_isOpenAcross_1 rfl hl (by decide) rfl (fun ls hl => ?_)
  have loop2 : ∀ (n : Nat) (k : Nat), 12 - k < n → (k ≤ 12 ∧ opA (σ 3) k = false) → ∀ (ls : Array Slot), lv_has ls 4 [(0, .ref (a 3)), (1, .int (nI k))] → W p l e ({ frames := 1, cells := 0, slots := 0, locals := 21 } : Room) s m args below meth c s.heap [] 0 0 Q (F0 m 2 ls []) := by
    intro n
    induction n with
    | zero => intro k  hf; exact absurd hf (Nat.not_lt_zero _)
    | succ n ih2 =>
      intro k  hf ⟨hk, ho⟩ ls hl
      refine lv_iload_n hx hb dX1_isOpenAcross_2 rfl (lv_at hl 1 rfl) ?_
      refine lv_bipush (v := 12) hx hb dX1_isOpenAcross_3 (by decide) ?_
      refine lv_icmp_ge (tgt := 48) hx hb dX1_isOpenAcross_5 (by decide) (fun c_1 => ?_) (fun c_1 => ?_)
      · skip
        have hk2 : 12 ≤ k := lp_ge (N := 12) (k := k) c_1 (by omega) (by omega)
        refine lv_iconst (v := 0) hx hb dX1_isOpenAcross_48 (by decide) ?_
        subst hQ
        exact ret_rdi hx hb hr rfl hlocks (show 0 = bI (opA (σ 3) 12 = true) from (bI_f (by rw [show 12 = k by omega, ho]; decide))) dX1_isOpenAcross_49
      · skip
        have hk2 : k < 12 := lp_nge (N := 12) (k := k) c_1 (by omega) (by omega)
        refine lv_iconst (v := 0) hx hb dX1_isOpenAcross_8 (by decide) ?_
        refine lv_istore_n (lv' := [(2, .int 0), (0, .ref (a 3)), (1, .int (nI k))]) hx hb dX1_isOpenAcross_9 rfl hl (by decide) rfl (fun ls hl => ?_)
        refine lv_iconst (v := 0) hx hb dX1_isOpenAcross_10 (by decide) ?_
        refine lv_istore_n (lv' := [(3, .int 0), (2, .int 0), (0, .ref (a 3)), (1, .int (nI k))]) hx hb dX1_isOpenAcross_11 rfl hl (by decide) rfl (fun ls hl => ?_)
        have loop12 : ∀ (n : Nat) (j : Nat) (acc : Int32), 3 - j < n → (j ≤ 3 ∧ acc = triF (σ 3) k j) → ∀ (ls : Array Slot), lv_has ls 4 [(0, .ref (a 3)), (1, .int (nI k)), (2, .int acc), (3, .int (nI j))] → W p l e ({ frames := 1, cells := 0, slots := 0, locals := 21 } : Room) s m args below meth c s.heap [] 0 0 Q (F0 m 12 ls []) := by
          intro n
          induction n with
          | zero => intro j  acc  hf; exact absurd hf (Nat.not_lt_zero _)
          | succ n ih12 =>
            intro j  acc  hf ⟨hj, hacc⟩ ls hl
            refine lv_iload_n hx hb dX1_isOpenAcross_12 rfl (lv_at hl 3 rfl) ?_
            refine lv_iconst (v := 3) hx hb dX1_isOpenAcross_13 (by decide) ?_
            refine lv_icmp_ge (tgt := 36) hx hb dX1_isOpenAcross_14 (by decide) (fun c_2 => ?_) (fun c_2 => ?_)
            · skip
              have hk2 : 3 ≤ j := lp_ge (N := 3) (k := j) c_2 (by omega) (by omega)
              refine lv_iload_n hx hb dX1_isOpenAcross_36 rfl (lv_at hl 2 rfl) ?_
              refine lv_if_ne (tgt := 42) hx hb dX1_isOpenAcross_37 (by decide) (fun c_3 => ?_) (fun c_3 => ?_)
              · skip
                refine lv_iinc (v := nI (k + 1)) (lv' := [(1, .int (nI (k + 1))), (0, .ref (a 3)), (2, .int acc), (3, .int (nI j))]) hx hb dX1_isOpenAcross_42 hl (k := 1) rfl (nI_1 k) (by decide) rfl (fun ls hl => ?_)
                refine lv_goto (tgt := 2) hx hb dX1_isOpenAcross_45 (by decide) ?_
                exact ih2 (k + 1) (by omega) ⟨by omega, (by rw [opA_tri, ho, show triF (σ 3) k 3 = acc from (by rw [hacc, show j = 3 by omega])]; simp only [Bool.false_or]; exact decide_eq_false (by assumption))⟩ ls (lv_sub hl [1, 0] rfl)
              · skip
                refine lv_iconst (v := 1) hx hb dX1_isOpenAcross_40 (by decide) ?_
                subst hQ
                exact ret_rdi hx hb hr rfl hlocks (show 1 = bI (opA (σ 3) 12 = true) from (bI_t (opA_mono (n := k + 1) _ (by omega) (by rw [opA_tri, ho, show triF (σ 3) k 3 = acc from (by rw [hacc, show j = 3 by omega])]; simp only [Bool.false_or]; exact decide_eq_true (by assumption))))) dX1_isOpenAcross_41
            · skip
              have hk2 : j < 3 := lp_nge (N := 3) (k := j) c_2 (by omega) (by omega)
              refine lv_iload_n hx hb dX1_isOpenAcross_17 rfl (lv_at hl 2 rfl) ?_
              refine lv_aload_n hx hb dX1_isOpenAcross_18 rfl (lv_at hl 0 rfl) ?_
              refine va_get (D := D) (ci := 1) (v := .ref (a 4)) (C := RX1) (T := TX1) (N := 2) hx hb hts hiX1 hown hK.1 hP 0 rfl rfl 0 (by decide) (hts (.fieldLink RX1 9 "IceLanes$Ice" "thickness" "[I") (by decide +kernel)) (fun _ h9 => h9) rfl dX1_isOpenAcross_19 ?_
              refine lv_iload_n hx hb dX1_isOpenAcross_22 rfl (lv_at hl 1 rfl) ?_
              refine lv_iload_n hx hb dX1_isOpenAcross_23 rfl (lv_at hl 3 rfl) ?_
              refine rd_i (va_runSN (As := [.int (nI k), .int (nI j)]) (rest := [.ref (a 4), .int acc]) ⟨hx, hb, hml, hown, hts⟩ (M_X4_placeOf l D cI (nI k) (nI j) ) ⟨va_cnB 2 hts gX1_isOpenAcross_X4_placeOf_n24 rfl rfl rfl (nX1_24 hN) (hts (.initialized RX4) (by decide +kernel)) (by decide +kernel) ⟨Nat.le_of_ble_eq_true rfl, Nat.le_of_ble_eq_true rfl⟩, hts (.static yX4_placeOf) (by decide +kernel), trivial⟩ (rdS hK hP [] [0] rfl rfl) rfl rfl hl.1 rfl (lv_room (Nat.le_of_ble_eq_true rfl)) dX1_isOpenAcross_24 ⟨Nat.zero_le _, Nat.zero_le _⟩) ?_
              rw [pl_nI k j]
              refine va_iald hx hb hK.1 hP 1 0 rfl rfl (by exact vp_in_nI (by omega) (by decide)) dX1_isOpenAcross_27 ?_
              rw [nI_clamp (n := (3 * k + j)) (by omega)]
              refine lv_iadd hx hb dX1_isOpenAcross_28 ?_
              refine lv_istore_n (lv' := [(2, .int (acc + (σ 3 (3 * k + j)))), (0, .ref (a 3)), (1, .int (nI k)), (3, .int (nI j))]) hx hb dX1_isOpenAcross_29 rfl hl (by decide) rfl (fun ls hl => ?_)
              refine lv_iinc (v := nI (j + 1)) (lv' := [(3, .int (nI (j + 1))), (2, .int (acc + (σ 3 (3 * k + j)))), (0, .ref (a 3)), (1, .int (nI k))]) hx hb dX1_isOpenAcross_30 hl (k := 3) rfl (nI_1 j) (by decide) rfl (fun ls hl => ?_)
              refine lv_goto (tgt := 12) hx hb dX1_isOpenAcross_33 (by decide) ?_
              exact ih12 (j + 1) (acc + (σ 3 (3 * k + j))) (by omega) ⟨by omega, (by rw [hacc]; rfl)⟩ ls (lv_sub hl [2, 3, 1, 0] rfl)
        exact loop12 4 0 0 (by omega) ⟨by omega, rfl⟩ ls (lv_sub hl [2, 3, 1, 0] rfl)
  exact loop2 13 0 (by omega) ⟨by omega, rfl⟩ ls (lv_sub hl [1, 0] rfl)
set_option maxHeartbeats 4000000 in
set_option maxRecDepth 100000 in
theorem M_X1_mostBorneBetween (l : Launch) (D : va_G) (cI : ClassId) (a : Nat → Nat) (σ : St) (f0 : Nat) (l0 : Nat) (hf : f0 ≤ l0) (hl0 : l0 < 12) : Met l yX1_mostBorneBetween wsX1_mostBorneBetween ({ frames := 3, cells := 0, slots := 0, locals := 66 } : Room) (rdPc [.ref (a 3), .int (nI f0), .int (nI l0)] D (wIce a cI σ) [(cI, .int)]) (rdQi (bbM (bb (σ 3) (σ 4) f0 (l0 - f0)))) 0 0 (fun _ => False) := by
  refine Met.ofW (cc := cX1_mostBorneBetween) (maxL := 9) (ret := (some .int)) (by decide) rfl ?_
  intro p e s m args below meth c s₁ B hml hv
  obtain ⟨hargs, hP, hK⟩ := hv
  have hx := B.exec
  have hb := B.bytes
  have hr := B.returns
  have hts := atoms_spec (ws := wsX1_mostBorneBetween) B.pre
  have hown : s.vm.findClass RX1 = some m.cls := findClass_of_methodNamed B.named
  have hlocks := B.notSynchronized
  obtain ⟨_, hN⟩ := id hK
  refine my_abs (fun Q hQ => ?_)
  obtain ⟨ls, hl, hent⟩ := my_entry (m := m) (n := 9) hargs (Nat.le_of_ble_eq_true rfl)
  rw [hent]
  have hl : lv_has ls 9 [(0, .ref (a 3)), (1, .int (nI f0)), (2, .int (nI l0))] := hl
  show W p l e ({ frames := 3, cells := 0, slots := 0, locals := 66 } : Room) s m args below meth c s.heap [] 0 0 Q (F0 m 0 ls [])
  refine lv_aload_n hx hb dX1_mostBorneBetween_0 rfl (lv_at hl 0 rfl) ?_
  refine lv_iload_n hx hb dX1_mostBorneBetween_1 rfl (lv_at hl 1 rfl) ?_
  refine lv_iconst (v := 0) hx hb dX1_mostBorneBetween_2 (by decide) ?_
  refine rd_i (va_runV (As := [.int (nI f0), .int 0]) (rest := []) ⟨hx, hb, hml, hown, hts⟩ (M_X1_mostBorneAt l D cI a σ (nI f0) 0 (nI_le11 (by omega)) ⟨by decide, by decide⟩) (cwV 2 hts gX1_mostBorneBetween_X1_mostBorneAt rfl rfl rfl (by decide +kernel) ⟨Nat.le_of_ble_eq_true rfl, Nat.le_of_ble_eq_true rfl⟩) (rdV hK hP [0, 1, 2] [0] rfl rfl (ci := 1) (q0 := 0) rfl rfl) rfl rfl hl.1 rfl (lv_room (Nat.le_of_ble_eq_true rfl)) dX1_mostBorneBetween_3 ⟨Nat.zero_le _, Nat.zero_le _⟩) ?_
  refine lv_istore_n (lv' := [(3, .int (mx 0 (sound ((σ 3)) ((σ 4)) (nI f0) 0))), (0, .ref (a 3)), (1, .int (nI f0)), (2, .int (nI l0))]) hx hb dX1_mostBorneBetween_6 rfl hl (by decide) rfl (fun ls hl => ?_)
  refine lv_aload_n hx hb dX1_mostBorneBetween_7 rfl (lv_at hl 1 rfl) ?_
  refine lv_iload_n hx hb dX1_mostBorneBetween_8 rfl (lv_at hl 2 rfl) ?_
  refine lv_iconst (v := 1) hx hb dX1_mostBorneBetween_9 (by decide) ?_
  refine rd_i (va_runV (As := [.int (nI f0), .int 1]) (rest := []) ⟨hx, hb, hml, hown, hts⟩ (M_X1_mostBorneAt l D cI a σ (nI f0) 1 (nI_le11 (by omega)) ⟨by decide, by decide⟩) (cwV 2 hts gX1_mostBorneBetween_X1_mostBorneAt rfl rfl rfl (by decide +kernel) ⟨Nat.le_of_ble_eq_true rfl, Nat.le_of_ble_eq_true rfl⟩) (rdV hK hP [0, 1, 2] [0] rfl rfl (ci := 1) (q0 := 0) rfl rfl) rfl rfl hl.1 rfl (lv_room (Nat.le_of_ble_eq_true rfl)) dX1_mostBorneBetween_10 ⟨Nat.zero_le _, Nat.zero_le _⟩) ?_
  refine lv_istore (lv' := [(4, .int (mx 0 (sound ((σ 3)) ((σ 4)) (nI f0) 1))), (3, .int (mx 0 (sound ((σ 3)) ((σ 4)) (nI f0) 0))), (0, .ref (a 3)), (1, .int (nI f0)), (2, .int (nI l0))]) hx hb dX1_mostBorneBetween_13 hl (by decide) rfl (fun ls hl => ?_)
  refine lv_aload_n hx hb dX1_mostBorneBetween_15 rfl (lv_at hl 2 rfl) ?_
  refine lv_iload_n hx hb dX1_mostBorneBetween_16 rfl (lv_at hl 3 rfl) ?_
  refine lv_iconst (v := 2) hx hb dX1_mostBorneBetween_17 (by decide) ?_
  refine rd_i (va_runV (As := [.int (nI f0), .int 2]) (rest := []) ⟨hx, hb, hml, hown, hts⟩ (M_X1_mostBorneAt l D cI a σ (nI f0) 2 (nI_le11 (by omega)) ⟨by decide, by decide⟩) (cwV 2 hts gX1_mostBorneBetween_X1_mostBorneAt rfl rfl rfl (by decide +kernel) ⟨Nat.le_of_ble_eq_true rfl, Nat.le_of_ble_eq_true rfl⟩) (rdV hK hP [0, 1, 2] [0] rfl rfl (ci := 1) (q0 := 0) rfl rfl) rfl rfl hl.1 rfl (lv_room (Nat.le_of_ble_eq_true rfl)) dX1_mostBorneBetween_18 ⟨Nat.zero_le _, Nat.zero_le _⟩) ?_
  refine lv_istore (lv' := [(5, .int (mx 0 (sound ((σ 3)) ((σ 4)) (nI f0) 2))), (4, .int (mx 0 (sound ((σ 3)) ((σ 4)) (nI f0) 1))), (3, .int (mx 0 (sound ((σ 3)) ((σ 4)) (nI f0) 0))), (0, .ref (a 3)), (1, .int (nI f0)), (2, .int (nI l0))]) hx hb dX1_mostBorneBetween_21 hl (by decide) rfl (fun ls hl => ?_)
  refine lv_iload_n hx hb dX1_mostBorneBetween_23 rfl (lv_at hl 4 rfl) ?_
  refine lv_iconst (v := 1) hx hb dX1_mostBorneBetween_24 (by decide) ?_
  refine lv_iadd hx hb dX1_mostBorneBetween_25 ?_
  refine lv_istore (lv' := [(6, .int ((nI f0) + 1)), (5, .int (mx 0 (sound ((σ 3)) ((σ 4)) (nI f0) 2))), (4, .int (mx 0 (sound ((σ 3)) ((σ 4)) (nI f0) 1))), (3, .int (mx 0 (sound ((σ 3)) ((σ 4)) (nI f0) 0))), (0, .ref (a 3)), (1, .int (nI f0)), (2, .int (nI l0))]) hx hb dX1_mostBorneBetween_26 hl (by decide) rfl (fun ls hl => ?_)
  have hl : lv_has ls 9 [(6, .int (nI (f0 + 1))), (5, .int (mx 0 (sound ((σ 3)) ((σ 4)) (nI f0) 2))), (4, .int (mx 0 (sound ((σ 3)) ((σ 4)) (nI f0) 1))), (3, .int (mx 0 (sound ((σ 3)) ((σ 4)) (nI f0) 0))), (0, .ref (a 3)), (1, .int (nI f0)), (2, .int (nI l0))] := by rw [show nI (f0 + 1) = (nI f0) + 1 from (nI_1 f0).symm]; exact hl
  have loop28 : ∀ (n : Nat) (k : Nat) (x y z : Int32), 13 - k < n → (f0 + 1 ≤ k ∧ k ≤ l0 + 1 ∧ (x, y, z) = bb (σ 3) (σ 4) f0 (k - 1 - f0)) → ∀ (ls : Array Slot), lv_has ls 9 [(0, .ref (a 3)), (2, .int (nI l0)), (3, .int x), (4, .int y), (5, .int z), (6, .int (nI k))] → W p l e ({ frames := 3, cells := 0, slots := 0, locals := 66 } : Room) s m args below meth c s.heap [] 0 0 Q (F0 m 28 ls []) := by
    intro n
    induction n with
    | zero => intro k  x y z  hf; exact absurd hf (Nat.not_lt_zero _)
    | succ n ih28 =>
      intro k  x y z  hf ⟨hk1, hk, hv⟩ ls hl
      refine lv_iload hx hb dX1_mostBorneBetween_28 (lv_at hl 5 rfl) ?_
      refine lv_iload_n hx hb dX1_mostBorneBetween_30 rfl (lv_at hl 1 rfl) ?_
      refine lv_icmp_gt (tgt := 103) hx hb dX1_mostBorneBetween_31 (by decide) (fun c_1 => ?_) (fun c_1 => ?_)
      · skip
        have hk2 : l0 < k := lp_gt (N := l0) (k := k) c_1 (by omega) (by omega)
        refine lv_iload_n hx hb dX1_mostBorneBetween_103 rfl (lv_at hl 2 rfl) ?_
        refine lv_iload hx hb dX1_mostBorneBetween_104 (lv_at hl 3 rfl) ?_
        refine va_mmax hx hb (by rw [hml]; exact hl.1.symm) hown (hts (.methodLink RX1 31 Lib.Math.max.name) (by decide +kernel)) (hts (.static Lib.Math.max.name) (by decide +kernel)) (hts (.initialized "java/lang/Math") (by decide +kernel)) (hts (.code Lib.Math.max.name Lib.Math.max.code 2 (some .int)) (by decide +kernel)) (Nat.le_of_ble_eq_true rfl) (Nat.le_of_ble_eq_true rfl) (Nat.zero_le _) (Nat.zero_le _) dX1_mostBorneBetween_106 ?_
        refine W.eq (g2 := F0 m 109 ls [.int (mx x y)]) rfl ?_
        refine lv_iload hx hb dX1_mostBorneBetween_109 (lv_at hl 4 rfl) ?_
        refine va_mmax hx hb (by rw [hml]; exact hl.1.symm) hown (hts (.methodLink RX1 31 Lib.Math.max.name) (by decide +kernel)) (hts (.static Lib.Math.max.name) (by decide +kernel)) (hts (.initialized "java/lang/Math") (by decide +kernel)) (hts (.code Lib.Math.max.name Lib.Math.max.code 2 (some .int)) (by decide +kernel)) (Nat.le_of_ble_eq_true rfl) (Nat.le_of_ble_eq_true rfl) (Nat.zero_le _) (Nat.zero_le _) dX1_mostBorneBetween_111 ?_
        refine W.eq (g2 := F0 m 114 ls [.int (mx (mx x y) z)]) rfl ?_
        subst hQ
        exact ret_rdi hx hb hr rfl hlocks (show mx (mx x y) z = bbM (bb (σ 3) (σ 4) f0 (l0 - f0)) from (by rw [show l0 - f0 = k - 1 - f0 by omega, ← hv]; rfl)) dX1_mostBorneBetween_114
      · skip
        have hk2 : k ≤ l0 := lp_ngt (N := l0) (k := k) c_1 (by omega) (by omega)
        refine lv_iload_n hx hb dX1_mostBorneBetween_34 rfl (lv_at hl 2 rfl) ?_
        refine lv_iload hx hb dX1_mostBorneBetween_35 (lv_at hl 3 rfl) ?_
        refine va_mmax hx hb (by rw [hml]; exact hl.1.symm) hown (hts (.methodLink RX1 31 Lib.Math.max.name) (by decide +kernel)) (hts (.static Lib.Math.max.name) (by decide +kernel)) (hts (.initialized "java/lang/Math") (by decide +kernel)) (hts (.code Lib.Math.max.name Lib.Math.max.code 2 (some .int)) (by decide +kernel)) (Nat.le_of_ble_eq_true rfl) (Nat.le_of_ble_eq_true rfl) (Nat.zero_le _) (Nat.zero_le _) dX1_mostBorneBetween_37 ?_
        refine W.eq (g2 := F0 m 40 ls [.int (mx x y)]) rfl ?_
        refine lv_istore (lv' := [(7, .int (mx x y)), (0, .ref (a 3)), (2, .int (nI l0)), (3, .int x), (4, .int y), (5, .int z), (6, .int (nI k))]) hx hb dX1_mostBorneBetween_40 hl (by decide) rfl (fun ls hl => ?_)
        refine lv_iload hx hb dX1_mostBorneBetween_42 (lv_at hl 4 rfl) ?_
        refine lv_iload hx hb dX1_mostBorneBetween_44 (lv_at hl 5 rfl) ?_
        refine va_mmax hx hb (by rw [hml]; exact hl.1.symm) hown (hts (.methodLink RX1 31 Lib.Math.max.name) (by decide +kernel)) (hts (.static Lib.Math.max.name) (by decide +kernel)) (hts (.initialized "java/lang/Math") (by decide +kernel)) (hts (.code Lib.Math.max.name Lib.Math.max.code 2 (some .int)) (by decide +kernel)) (Nat.le_of_ble_eq_true rfl) (Nat.le_of_ble_eq_true rfl) (Nat.zero_le _) (Nat.zero_le _) dX1_mostBorneBetween_46 ?_
        refine W.eq (g2 := F0 m 49 ls [.int (mx y z)]) rfl ?_
        refine lv_istore (lv' := [(8, .int (mx y z)), (7, .int (mx x y)), (0, .ref (a 3)), (2, .int (nI l0)), (3, .int x), (4, .int y), (5, .int z), (6, .int (nI k))]) hx hb dX1_mostBorneBetween_49 hl (by decide) rfl (fun ls hl => ?_)
        refine lv_iload hx hb dX1_mostBorneBetween_51 (lv_at hl 1 rfl) ?_
        refine lv_aload_n hx hb dX1_mostBorneBetween_53 rfl (lv_at hl 2 rfl) ?_
        refine lv_iload hx hb dX1_mostBorneBetween_54 (lv_at hl 7 rfl) ?_
        refine lv_iconst (v := 0) hx hb dX1_mostBorneBetween_56 (by decide) ?_
        refine rd_i (va_runV (As := [.int (nI k), .int 0]) (rest := [.int (mx x y)]) ⟨hx, hb, hml, hown, hts⟩ (M_X1_mostBorneAt l D cI a σ (nI k) 0 (nI_le11 (by omega)) ⟨by decide, by decide⟩) (cwV 2 hts gX1_mostBorneBetween_X1_mostBorneAt rfl rfl rfl (by decide +kernel) ⟨Nat.le_of_ble_eq_true rfl, Nat.le_of_ble_eq_true rfl⟩) (rdV hK hP [0, 1, 2] [0] rfl rfl (ci := 1) (q0 := 0) rfl rfl) rfl rfl hl.1 rfl (lv_room (Nat.le_of_ble_eq_true rfl)) dX1_mostBorneBetween_57 ⟨Nat.zero_le _, Nat.zero_le _⟩) ?_
        refine va_mmin hx hb (by rw [hml]; exact hl.1.symm) hown (hts (.methodLink RX1 39 Lib.Math.min.name) (by decide +kernel)) (hts (.static Lib.Math.min.name) (by decide +kernel)) (hts (.initialized "java/lang/Math") (by decide +kernel)) (hts (.code Lib.Math.min.name Lib.Math.min.code 2 (some .int)) (by decide +kernel)) (Nat.le_of_ble_eq_true rfl) (Nat.le_of_ble_eq_true rfl) (Nat.zero_le _) (Nat.zero_le _) dX1_mostBorneBetween_60 ?_
        refine W.eq (g2 := F0 m 63 ls [.int (mn (mx x y) (mx 0 (sound ((σ 3)) ((σ 4)) (nI k) 0)))]) rfl ?_
        refine lv_istore_n (lv' := [(3, .int (mn (mx x y) (mx 0 (sound ((σ 3)) ((σ 4)) (nI k) 0)))), (8, .int (mx y z)), (7, .int (mx x y)), (0, .ref (a 3)), (2, .int (nI l0)), (4, .int y), (5, .int z), (6, .int (nI k))]) hx hb dX1_mostBorneBetween_63 rfl hl (by decide) rfl (fun ls hl => ?_)
        refine lv_iload hx hb dX1_mostBorneBetween_64 (lv_at hl 2 rfl) ?_
        refine lv_iload hx hb dX1_mostBorneBetween_66 (lv_at hl 1 rfl) ?_
        refine va_mmax hx hb (by rw [hml]; exact hl.1.symm) hown (hts (.methodLink RX1 31 Lib.Math.max.name) (by decide +kernel)) (hts (.static Lib.Math.max.name) (by decide +kernel)) (hts (.initialized "java/lang/Math") (by decide +kernel)) (hts (.code Lib.Math.max.name Lib.Math.max.code 2 (some .int)) (by decide +kernel)) (Nat.le_of_ble_eq_true rfl) (Nat.le_of_ble_eq_true rfl) (Nat.zero_le _) (Nat.zero_le _) dX1_mostBorneBetween_68 ?_
        refine W.eq (g2 := F0 m 71 ls [.int (mx (mx x y) (mx y z))]) rfl ?_
        refine lv_aload_n hx hb dX1_mostBorneBetween_71 rfl (lv_at hl 3 rfl) ?_
        refine lv_iload hx hb dX1_mostBorneBetween_72 (lv_at hl 7 rfl) ?_
        refine lv_iconst (v := 1) hx hb dX1_mostBorneBetween_74 (by decide) ?_
        refine rd_i (va_runV (As := [.int (nI k), .int 1]) (rest := [.int (mx (mx x y) (mx y z))]) ⟨hx, hb, hml, hown, hts⟩ (M_X1_mostBorneAt l D cI a σ (nI k) 1 (nI_le11 (by omega)) ⟨by decide, by decide⟩) (cwV 2 hts gX1_mostBorneBetween_X1_mostBorneAt rfl rfl rfl (by decide +kernel) ⟨Nat.le_of_ble_eq_true rfl, Nat.le_of_ble_eq_true rfl⟩) (rdV hK hP [0, 1, 2] [0] rfl rfl (ci := 1) (q0 := 0) rfl rfl) rfl rfl hl.1 rfl (lv_room (Nat.le_of_ble_eq_true rfl)) dX1_mostBorneBetween_75 ⟨Nat.zero_le _, Nat.zero_le _⟩) ?_
        refine va_mmin hx hb (by rw [hml]; exact hl.1.symm) hown (hts (.methodLink RX1 39 Lib.Math.min.name) (by decide +kernel)) (hts (.static Lib.Math.min.name) (by decide +kernel)) (hts (.initialized "java/lang/Math") (by decide +kernel)) (hts (.code Lib.Math.min.name Lib.Math.min.code 2 (some .int)) (by decide +kernel)) (Nat.le_of_ble_eq_true rfl) (Nat.le_of_ble_eq_true rfl) (Nat.zero_le _) (Nat.zero_le _) dX1_mostBorneBetween_78 ?_
        refine W.eq (g2 := F0 m 81 ls [.int (mn (mx (mx x y) (mx y z)) (mx 0 (sound ((σ 3)) ((σ 4)) (nI k) 1)))]) rfl ?_
        refine lv_istore (lv' := [(4, .int (mn (mx (mx x y) (mx y z)) (mx 0 (sound ((σ 3)) ((σ 4)) (nI k) 1)))), (3, .int (mn (mx x y) (mx 0 (sound ((σ 3)) ((σ 4)) (nI k) 0)))), (8, .int (mx y z)), (7, .int (mx x y)), (0, .ref (a 3)), (2, .int (nI l0)), (5, .int z), (6, .int (nI k))]) hx hb dX1_mostBorneBetween_81 hl (by decide) rfl (fun ls hl => ?_)
        refine lv_iload hx hb dX1_mostBorneBetween_83 (lv_at hl 2 rfl) ?_
        refine lv_aload_n hx hb dX1_mostBorneBetween_85 rfl (lv_at hl 4 rfl) ?_
        refine lv_iload hx hb dX1_mostBorneBetween_86 (lv_at hl 7 rfl) ?_
        refine lv_iconst (v := 2) hx hb dX1_mostBorneBetween_88 (by decide) ?_
        refine rd_i (va_runV (As := [.int (nI k), .int 2]) (rest := [.int (mx y z)]) ⟨hx, hb, hml, hown, hts⟩ (M_X1_mostBorneAt l D cI a σ (nI k) 2 (nI_le11 (by omega)) ⟨by decide, by decide⟩) (cwV 2 hts gX1_mostBorneBetween_X1_mostBorneAt rfl rfl rfl (by decide +kernel) ⟨Nat.le_of_ble_eq_true rfl, Nat.le_of_ble_eq_true rfl⟩) (rdV hK hP [0, 1, 2] [0] rfl rfl (ci := 1) (q0 := 0) rfl rfl) rfl rfl hl.1 rfl (lv_room (Nat.le_of_ble_eq_true rfl)) dX1_mostBorneBetween_89 ⟨Nat.zero_le _, Nat.zero_le _⟩) ?_
        refine va_mmin hx hb (by rw [hml]; exact hl.1.symm) hown (hts (.methodLink RX1 39 Lib.Math.min.name) (by decide +kernel)) (hts (.static Lib.Math.min.name) (by decide +kernel)) (hts (.initialized "java/lang/Math") (by decide +kernel)) (hts (.code Lib.Math.min.name Lib.Math.min.code 2 (some .int)) (by decide +kernel)) (Nat.le_of_ble_eq_true rfl) (Nat.le_of_ble_eq_true rfl) (Nat.zero_le _) (Nat.zero_le _) dX1_mostBorneBetween_92 ?_
        refine W.eq (g2 := F0 m 95 ls [.int (mn (mx y z) (mx 0 (sound ((σ 3)) ((σ 4)) (nI k) 2)))]) rfl ?_
        refine lv_istore (lv' := [(5, .int (mn (mx y z) (mx 0 (sound ((σ 3)) ((σ 4)) (nI k) 2)))), (4, .int (mn (mx (mx x y) (mx y z)) (mx 0 (sound ((σ 3)) ((σ 4)) (nI k) 1)))), (3, .int (mn (mx x y) (mx 0 (sound ((σ 3)) ((σ 4)) (nI k) 0)))), (8, .int (mx y z)), (7, .int (mx x y)), (0, .ref (a 3)), (2, .int (nI l0)), (6, .int (nI k))]) hx hb dX1_mostBorneBetween_95 hl (by decide) rfl (fun ls hl => ?_)
        refine lv_iinc (v := nI (k + 1)) (lv' := [(6, .int (nI (k + 1))), (5, .int (mn (mx y z) (mx 0 (sound ((σ 3)) ((σ 4)) (nI k) 2)))), (4, .int (mn (mx (mx x y) (mx y z)) (mx 0 (sound ((σ 3)) ((σ 4)) (nI k) 1)))), (3, .int (mn (mx x y) (mx 0 (sound ((σ 3)) ((σ 4)) (nI k) 0)))), (8, .int (mx y z)), (7, .int (mx x y)), (0, .ref (a 3)), (2, .int (nI l0))]) hx hb dX1_mostBorneBetween_97 hl (k := 7) rfl (nI_1 k) (by decide) rfl (fun ls hl => ?_)
        refine lv_goto (tgt := 28) hx hb dX1_mostBorneBetween_100 (by decide) ?_
        exact ih28 (k + 1) _ _ _ (by omega) ⟨by omega, by omega, (by rw [show k + 1 - 1 - f0 = (k - 1 - f0) + 1 by omega]; show _ = bbS (σ 3) (σ 4) (f0 + (k - 1 - f0) + 1) (bb (σ 3) (σ 4) f0 (k - 1 - f0)); rw [← hv, show f0 + (k - 1 - f0) + 1 = k by omega]; rfl)⟩ ls (lv_sub hl [6, 7, 3, 2, 1, 0] rfl)
  exact loop28 14 (f0 + 1) _ _ _ (by omega) ⟨by omega, by omega, (by rw [show f0 + 1 - 1 - f0 = 0 by omega]; rfl)⟩ ls (lv_sub hl [4, 6, 3, 2, 1, 0] rfl)
