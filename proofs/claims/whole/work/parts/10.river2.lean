set_option maxHeartbeats 4000000 in
set_option maxRecDepth 100000 in
theorem M_J9_floorMod_7cf53 (l : Launch) (D : va_G) (cI : ClassId) (d0 : Nat) (hd : d0 < 2 ^ 30) : Met l yJ9_floorMod_7cf53 wsJ9_floorMod_7cf53 ({ frames := 0, cells := 0, slots := 0, locals := 0 } : Room) (rdPc [.int (nI d0), .int 14] D (([] : va_W)) [(cI, .int)]) (rdQi (nI (d0 % 14))) 0 0 (fun _ => False) := by
  refine my_ofWF (cc := cJ9_floorMod_7cf53) (maxL := 3) (ret := (some .int)) (by decide +kernel) rfl ?_
  intro p e s m args below meth c s₁ B hml hv
  obtain ⟨hargs, hP, hK⟩ := hv
  have hx := B.exec
  have hb := B.bytes
  have hr := B.returns
  have hts := atoms_spec (ws := wsJ9_floorMod_7cf53) B.pre
  have hown : s.vm.findClass RJ9 = some m.cls := findClass_of_methodNamed B.named
  have hlocks := B.notSynchronized
  obtain ⟨_, hN⟩ := id hK
  refine my_abs (fun Q hQ => ?_)
  obtain ⟨ls, hl, hent⟩ := my_entry (m := m) (n := 3) hargs (Nat.le_of_ble_eq_true rfl)
  rw [hent]
  have hl : lv_has ls 3 [(0, .int (nI d0)), (1, .int 14)] := hl
  show W p l e ({ frames := 0, cells := 0, slots := 0, locals := 0 } : Room) s m args below meth c s.heap [] 0 0 Q (F0 m 0 ls [])
  refine lv_iload_n hx hb dJ9_floorMod_7cf53_0 rfl (lv_at hl 0 rfl) ?_
  refine lv_iload_n hx hb dJ9_floorMod_7cf53_1 rfl (lv_at hl 1 rfl) ?_
  refine lv_irem hx hb dJ9_floorMod_7cf53_2 (by decide) ?_
  rw [show nI d0 - nI d0 / 14 * 14 = nI (d0 % 14) from rem_nI (d := 14) rfl (by omega) (by decide) (by decide)]
  refine lv_istore_n (lv' := [(2, .int (nI (d0 % 14))), (0, .int (nI d0)), (1, .int 14)]) hx hb dJ9_floorMod_7cf53_3 rfl hl (by decide) rfl (fun ls hl => ?_)
  refine lv_iload_n hx hb dJ9_floorMod_7cf53_4 rfl (lv_at hl 1 rfl) ?_
  refine lv_iload_n hx hb dJ9_floorMod_7cf53_5 rfl (lv_at hl 2 rfl) ?_
  refine lv_ixor hx hb dJ9_floorMod_7cf53_6 ?_
  refine lv_if_ge (tgt := 18) hx hb dJ9_floorMod_7cf53_7 (by decide) (fun c_1 => ?_) (fun c_1 => ?_)
  · skip
    refine lv_iload_n hx hb dJ9_floorMod_7cf53_18 rfl (lv_at hl 0 rfl) ?_
    subst hQ
    exact ret_rdi hx hb hr rfl hlocks (show nI (d0 % 14) = nI (d0 % 14) from rfl) dJ9_floorMod_7cf53_19
  · skip
    exact absurd (xor_nn (by omega)) c_1
set_option maxHeartbeats 4000000 in
set_option maxRecDepth 100000 in
theorem M_X1_become (l : Launch) (D : va_G) (cI : ClassId) (a : Nat → Nat) (a2 : Nat → Nat) (σ : St) (σ2 : St) (sz : Nat) : Met l yX1_become wsX1_become ({ frames := 1, cells := 0, slots := 0, locals := 40 } : Room) (wrPc [.ref (a 3), .ref (a2 3)] D (wIce a cI σ ++ wIce a2 cI σ2) [(cI, .int)] sz) (wrQv D (wIce a cI (put (put σ 3 (σ2 3)) 4 (σ2 4)) ++ wIce a2 cI σ2) (va_A (wIce a cI σ ++ wIce a2 cI σ2) sz)) 0 0 (va_A (wIce a cI σ ++ wIce a2 cI σ2) sz) := by
  refine Met.ofW (cc := cX1_become) (maxL := 2) (ret := none) (by decide) rfl ?_
  intro p e s m args below meth c s₁ B hml hv
  obtain ⟨hargs, hsz, hP, hK, hD0⟩ := hv
  have hx := B.exec
  have hb := B.bytes
  have hr := B.returns
  have hts := atoms_spec (ws := wsX1_become) B.pre
  have hown : s.vm.findClass RX1 = some m.cls := findClass_of_methodNamed B.named
  have hlocks := B.notSynchronized
  obtain ⟨_, hN⟩ := id hK
  have hiX1 : ∀ w ∈ wsX10, w ∈ wsX1_become := by decide +kernel
  subst hsz
  have hD := hD0.self (sz := s.heap.size)
  generalize hAe : va_A (wIce a cI σ ++ wIce a2 cI σ2) s.heap.size = A at hD ⊢
  have hA : ∀ q : Nat, s.heap.size ≤ q → A q := fun q h => by rw [← hAe]; exact Or.inr h
  have hS : va_S A s.heap s.heap [] := va_S.rf
  have hP : va_P D vwCl (wIce a cI σ ++ wIce a2 cI σ2) s.heap := hP
  refine my_abs (fun Q hQ => ?_)
  obtain ⟨ls, hl, hent⟩ := my_entry (m := m) (n := 2) hargs (Nat.le_of_ble_eq_true rfl)
  rw [hent]
  have hl : lv_has ls 2 [(0, .ref (a 3)), (1, .ref (a2 3))] := hl
  show W p l e ({ frames := 1, cells := 0, slots := 0, locals := 40 } : Room) s m args below meth c s.heap [] 0 0 Q (F0 m 0 ls [])
  refine lv_aload_n hx hb dX1_become_0 rfl (lv_at hl 1 rfl) ?_
  refine va_get (D := D) (ci := 1) (v := .ref (a2 4)) (C := RX1) (T := TX1) (N := 2) hx hb hts hiX1 hown hK.1 hP 3 rfl rfl 0 (by decide) (hts (.fieldLink RX1 9 "IceLanes$Ice" "thickness" "[I") (by decide +kernel)) (fun _ h9 => h9) rfl dX1_become_1 ?_
  refine lv_iconst (v := 0) hx hb dX1_become_4 (by decide) ?_
  refine lv_aload_n hx hb dX1_become_5 rfl (lv_at hl 0 rfl) ?_
  refine va_get (D := D) (ci := 1) (v := .ref (a 4)) (C := RX1) (T := TX1) (N := 2) hx hb hts hiX1 hown hK.1 hP 0 rfl rfl 0 (by decide) (hts (.fieldLink RX1 9 "IceLanes$Ice" "thickness" "[I") (by decide +kernel)) (fun _ h9 => h9) rfl dX1_become_6 ?_
  refine lv_iconst (v := 0) hx hb dX1_become_9 (by decide) ?_
  refine lv_bipush (v := 36) hx hb dX1_become_10 (by decide) ?_
  refine va_copyi hx hb (by rw [hml]; exact hl.1.symm) hown (hts (.methodLink RX1 18 arraycopyName) (by decide +kernel)) (hts (.native arraycopyName) (by decide +kernel)) (hts (.static arraycopyName) (by decide +kernel)) (hts (.initialized "java/lang/System") (by decide +kernel)) hK.1 hP hD hS 4 1 0 0 rfl rfl rfl rfl rfl (by decide) (by decide) (by decide) (by decide) (by decide) (fun _ _ => rfl) (Nat.le_of_ble_eq_true rfl) (by decide +kernel) dX1_become_12 (fun H locs hP hD hS => ?_)
  have hP := row_fix hP (q := 1) (f := σ2 3) rfl (fun j hj => cpy_in rfl rfl rfl hj)
  have hD := row_fixD (q := 1) (σ2 3) hD rfl
  have hP : va_P D vwCl (wIceE a cI (σ2 3) (σ 4) ++ wIce a2 cI σ2) H := hP
  have hD : va_D A (wIceE a cI (σ2 3) (σ 4) ++ wIce a2 cI σ2) := hD
  refine lv_aload_n hx hb dX1_become_15 rfl (lv_at hl 1 rfl) ?_
  refine va_get (D := D) (ci := 1) (v := .ref (a2 5)) (C := RX1) (T := TX1) (N := 2) hx hb hts hiX1 hown hK.1 hP 3 rfl rfl 1 (by decide) (hts (.fieldLink RX1 15 "IceLanes$Ice" "cracks" "[I") (by decide +kernel)) (fun _ h9 => h9) rfl dX1_become_16 ?_
  refine lv_iconst (v := 0) hx hb dX1_become_19 (by decide) ?_
  refine lv_aload_n hx hb dX1_become_20 rfl (lv_at hl 0 rfl) ?_
  refine va_get (D := D) (ci := 1) (v := .ref (a 5)) (C := RX1) (T := TX1) (N := 2) hx hb hts hiX1 hown hK.1 hP 0 rfl rfl 1 (by decide) (hts (.fieldLink RX1 15 "IceLanes$Ice" "cracks" "[I") (by decide +kernel)) (fun _ h9 => h9) rfl dX1_become_21 ?_
  refine lv_iconst (v := 0) hx hb dX1_become_24 (by decide) ?_
  refine lv_bipush (v := 36) hx hb dX1_become_25 (by decide) ?_
  refine va_copyi hx hb (by rw [hml]; exact hl.1.symm) hown (hts (.methodLink RX1 18 arraycopyName) (by decide +kernel)) (hts (.native arraycopyName) (by decide +kernel)) (hts (.static arraycopyName) (by decide +kernel)) (hts (.initialized "java/lang/System") (by decide +kernel)) hK.1 hP hD hS 5 2 0 0 rfl rfl rfl rfl rfl (by decide) (by decide) (by decide) (by decide) (by decide) (fun _ _ => rfl) (Nat.le_of_ble_eq_true rfl) (by decide +kernel) dX1_become_27 (fun H locs hP hD hS => ?_)
  have hP := row_fix hP (q := 2) (f := σ2 4) rfl (fun j hj => cpy_in rfl rfl rfl hj)
  have hD := row_fixD (q := 2) (σ2 4) hD rfl
  have hP : va_P D vwCl (wIceE a cI (σ2 3) (σ2 4) ++ wIce a2 cI σ2) H := hP
  have hD : va_D A (wIceE a cI (σ2 3) (σ2 4) ++ wIce a2 cI σ2) := hD
  subst hQ
  have hP : va_P D vwCl (wIce a cI (put (put σ 3 (σ2 3)) 4 (σ2 4)) ++ wIce a2 cI σ2) H := hP
  have hD : va_D A (wIce a cI (put (put σ 3 (σ2 3)) 4 (σ2 4)) ++ wIce a2 cI σ2) := hD
  exact ret_wrv hx hb hr hlocks hP hD hS dX1_become_30
set_option maxHeartbeats 4000000 in
set_option maxRecDepth 100000 in
theorem M_X0_become (l : Launch) (D : va_G) (cI : ClassId) (a : Nat → Nat) (a2 : Nat → Nat) (σ : St) (σ2 : St) (sz : Nat) : Met l yX0_become wsX0_become ({ frames := 1, cells := 0, slots := 0, locals := 40 } : Room) (wrPc [.ref (a 6), .ref (a2 6)] D (wCou a cI σ ++ wCou a2 cI σ2) [(cI, .int)] sz) (wrQv D (wCou a cI (put (put (put (put (put (put (put (put (put (put σ 5 (σ2 5)) 6 (σ2 6)) 7 (σ2 7)) 8 (σ2 8)) 9 (σ2 9)) 10 (σ2 10)) 11 (σ2 11)) 12 (σ2 12)) 13 (σ2 13)) 17 (fun _ => σ2 17 0)) ++ wCou a2 cI σ2) (va_A (wCou a cI σ ++ wCou a2 cI σ2) sz)) 0 0 (va_A (wCou a cI σ ++ wCou a2 cI σ2) sz) := by
  refine Met.ofW (cc := cX0_become) (maxL := 2) (ret := none) (by decide) rfl ?_
  intro p e s m args below meth c s₁ B hml hv
  obtain ⟨hargs, hsz, hP, hK, hD0⟩ := hv
  have hx := B.exec
  have hb := B.bytes
  have hr := B.returns
  have hts := atoms_spec (ws := wsX0_become) B.pre
  have hown : s.vm.findClass RX0 = some m.cls := findClass_of_methodNamed B.named
  have hlocks := B.notSynchronized
  obtain ⟨_, hN⟩ := id hK
  have hiX0 : ∀ w ∈ wsX00, w ∈ wsX0_become := by decide +kernel
  subst hsz
  have hD := hD0.self (sz := s.heap.size)
  generalize hAe : va_A (wCou a cI σ ++ wCou a2 cI σ2) s.heap.size = A at hD ⊢
  have hA : ∀ q : Nat, s.heap.size ≤ q → A q := fun q h => by rw [← hAe]; exact Or.inr h
  have hS : va_S A s.heap s.heap [] := va_S.rf
  have hP : va_P D vwCl (wCou a cI σ ++ wCou a2 cI σ2) s.heap := hP
  refine my_abs (fun Q hQ => ?_)
  obtain ⟨ls, hl, hent⟩ := my_entry (m := m) (n := 2) hargs (Nat.le_of_ble_eq_true rfl)
  rw [hent]
  have hl : lv_has ls 2 [(0, .ref (a 6)), (1, .ref (a2 6))] := hl
  show W p l e ({ frames := 1, cells := 0, slots := 0, locals := 40 } : Room) s m args below meth c s.heap [] 0 0 Q (F0 m 0 ls [])
  refine lv_aload_n hx hb dX0_become_0 rfl (lv_at hl 0 rfl) ?_
  refine lv_aload_n hx hb dX0_become_1 rfl (lv_at hl 1 rfl) ?_
  refine va_get (D := D) (ci := 0) (v := .int (σ2 17 0)) (C := RX0) (T := TX0) (N := 10) hx hb hts hiX0 hown hK.1 hP 10 rfl rfl 0 (by decide) (hts (.fieldLink RX0 39 "IceLanes$Couriers" "number" "I") (by decide +kernel)) (fun _ h9 => h9) rfl dX0_become_2 ?_
  refine va_put (D := D) (ci := 0) (v := .int (σ2 17 0)) (ty := .int) (C := RX0) (T := TX0) (N := 10) hx hb hts hiX0 tyX0 tyX0_ok nmX0 hown hK.1 hP hD hS 0 rfl rfl 0 (by decide) (hts (.fieldLink RX0 39 "IceLanes$Couriers" "number" "I") (by decide +kernel)) (fun _ h9 => h9) rfl (by decide +kernel) rfl rfl (Nat.le_of_ble_eq_true rfl) dX0_become_5 (fun H locs hP hD hS => ?_)
  have hP : va_P D vwCl (wCouE a cI (σ2 17 0) (σ 5) (σ 6) (σ 7) (σ 8) (σ 9) (σ 10) (σ 11) (σ 12) (σ 13) ++ wCou a2 cI σ2) H := hP
  have hD : va_D A (wCouE a cI (σ2 17 0) (σ 5) (σ 6) (σ 7) (σ 8) (σ 9) (σ 10) (σ 11) (σ 12) (σ 13) ++ wCou a2 cI σ2) := hD
  refine lv_aload_n hx hb dX0_become_8 rfl (lv_at hl 1 rfl) ?_
  refine va_get (D := D) (ci := 0) (v := .ref (a2 7)) (C := RX0) (T := TX0) (N := 10) hx hb hts hiX0 hown hK.1 hP 10 rfl rfl 1 (by decide) (hts (.fieldLink RX0 9 "IceLanes$Couriers" "weight" "[I") (by decide +kernel)) (fun _ h9 => h9) rfl dX0_become_9 ?_
  refine lv_iconst (v := 0) hx hb dX0_become_12 (by decide) ?_
  refine lv_aload_n hx hb dX0_become_13 rfl (lv_at hl 0 rfl) ?_
  refine va_get (D := D) (ci := 0) (v := .ref (a 7)) (C := RX0) (T := TX0) (N := 10) hx hb hts hiX0 hown hK.1 hP 0 rfl rfl 1 (by decide) (hts (.fieldLink RX0 9 "IceLanes$Couriers" "weight" "[I") (by decide +kernel)) (fun _ h9 => h9) rfl dX0_become_14 ?_
  refine lv_iconst (v := 0) hx hb dX0_become_17 (by decide) ?_
  refine lv_bipush (v := 8) hx hb dX0_become_18 (by decide) ?_
  refine va_copyi hx hb (by rw [hml]; exact hl.1.symm) hown (hts (.methodLink RX0 43 arraycopyName) (by decide +kernel)) (hts (.native arraycopyName) (by decide +kernel)) (hts (.static arraycopyName) (by decide +kernel)) (hts (.initialized "java/lang/System") (by decide +kernel)) hK.1 hP hD hS 11 1 0 0 rfl rfl rfl rfl rfl (by decide) (by decide) (by decide) (by decide) (by decide) (fun _ _ => rfl) (Nat.le_of_ble_eq_true rfl) (by decide +kernel) dX0_become_20 (fun H locs hP hD hS => ?_)
  have hP := row_fix hP (q := 1) (f := σ2 5) rfl (fun j hj => cpy_in rfl rfl rfl hj)
  have hD := row_fixD (q := 1) (σ2 5) hD rfl
  have hP : va_P D vwCl (wCouE a cI (σ2 17 0) (σ2 5) (σ 6) (σ 7) (σ 8) (σ 9) (σ 10) (σ 11) (σ 12) (σ 13) ++ wCou a2 cI σ2) H := hP
  have hD : va_D A (wCouE a cI (σ2 17 0) (σ2 5) (σ 6) (σ 7) (σ 8) (σ 9) (σ 10) (σ 11) (σ 12) (σ 13) ++ wCou a2 cI σ2) := hD
  refine lv_aload_n hx hb dX0_become_23 rfl (lv_at hl 1 rfl) ?_
  refine va_get (D := D) (ci := 0) (v := .ref (a2 8)) (C := RX0) (T := TX0) (N := 10) hx hb hts hiX0 hown hK.1 hP 10 rfl rfl 2 (by decide) (hts (.fieldLink RX0 15 "IceLanes$Couriers" "letters" "[I") (by decide +kernel)) (fun _ h9 => h9) rfl dX0_become_24 ?_
  refine lv_iconst (v := 0) hx hb dX0_become_27 (by decide) ?_
  refine lv_aload_n hx hb dX0_become_28 rfl (lv_at hl 0 rfl) ?_
  refine va_get (D := D) (ci := 0) (v := .ref (a 8)) (C := RX0) (T := TX0) (N := 10) hx hb hts hiX0 hown hK.1 hP 0 rfl rfl 2 (by decide) (hts (.fieldLink RX0 15 "IceLanes$Couriers" "letters" "[I") (by decide +kernel)) (fun _ h9 => h9) rfl dX0_become_29 ?_
  refine lv_iconst (v := 0) hx hb dX0_become_32 (by decide) ?_
  refine lv_bipush (v := 8) hx hb dX0_become_33 (by decide) ?_
  refine va_copyi hx hb (by rw [hml]; exact hl.1.symm) hown (hts (.methodLink RX0 43 arraycopyName) (by decide +kernel)) (hts (.native arraycopyName) (by decide +kernel)) (hts (.static arraycopyName) (by decide +kernel)) (hts (.initialized "java/lang/System") (by decide +kernel)) hK.1 hP hD hS 12 2 0 0 rfl rfl rfl rfl rfl (by decide) (by decide) (by decide) (by decide) (by decide) (fun _ _ => rfl) (Nat.le_of_ble_eq_true rfl) (by decide +kernel) dX0_become_35 (fun H locs hP hD hS => ?_)
  have hP := row_fix hP (q := 2) (f := σ2 6) rfl (fun j hj => cpy_in rfl rfl rfl hj)
  have hD := row_fixD (q := 2) (σ2 6) hD rfl
  have hP : va_P D vwCl (wCouE a cI (σ2 17 0) (σ2 5) (σ2 6) (σ 7) (σ 8) (σ 9) (σ 10) (σ 11) (σ 12) (σ 13) ++ wCou a2 cI σ2) H := hP
  have hD : va_D A (wCouE a cI (σ2 17 0) (σ2 5) (σ2 6) (σ 7) (σ 8) (σ 9) (σ 10) (σ 11) (σ 12) (σ 13) ++ wCou a2 cI σ2) := hD
  refine lv_aload_n hx hb dX0_become_38 rfl (lv_at hl 1 rfl) ?_
  refine va_get (D := D) (ci := 0) (v := .ref (a2 9)) (C := RX0) (T := TX0) (N := 10) hx hb hts hiX0 hown hK.1 hP 10 rfl rfl 3 (by decide) (hts (.fieldLink RX0 18 "IceLanes$Couriers" "strength" "[I") (by decide +kernel)) (fun _ h9 => h9) rfl dX0_become_39 ?_
  refine lv_iconst (v := 0) hx hb dX0_become_42 (by decide) ?_
  refine lv_aload_n hx hb dX0_become_43 rfl (lv_at hl 0 rfl) ?_
  refine va_get (D := D) (ci := 0) (v := .ref (a 9)) (C := RX0) (T := TX0) (N := 10) hx hb hts hiX0 hown hK.1 hP 0 rfl rfl 3 (by decide) (hts (.fieldLink RX0 18 "IceLanes$Couriers" "strength" "[I") (by decide +kernel)) (fun _ h9 => h9) rfl dX0_become_44 ?_
  refine lv_iconst (v := 0) hx hb dX0_become_47 (by decide) ?_
  refine lv_bipush (v := 8) hx hb dX0_become_48 (by decide) ?_
  refine va_copyi hx hb (by rw [hml]; exact hl.1.symm) hown (hts (.methodLink RX0 43 arraycopyName) (by decide +kernel)) (hts (.native arraycopyName) (by decide +kernel)) (hts (.static arraycopyName) (by decide +kernel)) (hts (.initialized "java/lang/System") (by decide +kernel)) hK.1 hP hD hS 13 3 0 0 rfl rfl rfl rfl rfl (by decide) (by decide) (by decide) (by decide) (by decide) (fun _ _ => rfl) (Nat.le_of_ble_eq_true rfl) (by decide +kernel) dX0_become_50 (fun H locs hP hD hS => ?_)
  have hP := row_fix hP (q := 3) (f := σ2 7) rfl (fun j hj => cpy_in rfl rfl rfl hj)
  have hD := row_fixD (q := 3) (σ2 7) hD rfl
  have hP : va_P D vwCl (wCouE a cI (σ2 17 0) (σ2 5) (σ2 6) (σ2 7) (σ 8) (σ 9) (σ 10) (σ 11) (σ 12) (σ 13) ++ wCou a2 cI σ2) H := hP
  have hD : va_D A (wCouE a cI (σ2 17 0) (σ2 5) (σ2 6) (σ2 7) (σ 8) (σ 9) (σ 10) (σ 11) (σ 12) (σ 13) ++ wCou a2 cI σ2) := hD
  refine lv_aload_n hx hb dX0_become_53 rfl (lv_at hl 1 rfl) ?_
  refine va_get (D := D) (ci := 0) (v := .ref (a2 10)) (C := RX0) (T := TX0) (N := 10) hx hb hts hiX0 hown hK.1 hP 10 rfl rfl 4 (by decide) (hts (.fieldLink RX0 21 "IceLanes$Couriers" "section" "[I") (by decide +kernel)) (fun _ h9 => h9) rfl dX0_become_54 ?_
  refine lv_iconst (v := 0) hx hb dX0_become_57 (by decide) ?_
  refine lv_aload_n hx hb dX0_become_58 rfl (lv_at hl 0 rfl) ?_
  refine va_get (D := D) (ci := 0) (v := .ref (a 10)) (C := RX0) (T := TX0) (N := 10) hx hb hts hiX0 hown hK.1 hP 0 rfl rfl 4 (by decide) (hts (.fieldLink RX0 21 "IceLanes$Couriers" "section" "[I") (by decide +kernel)) (fun _ h9 => h9) rfl dX0_become_59 ?_
  refine lv_iconst (v := 0) hx hb dX0_become_62 (by decide) ?_
  refine lv_bipush (v := 8) hx hb dX0_become_63 (by decide) ?_
  refine va_copyi hx hb (by rw [hml]; exact hl.1.symm) hown (hts (.methodLink RX0 43 arraycopyName) (by decide +kernel)) (hts (.native arraycopyName) (by decide +kernel)) (hts (.static arraycopyName) (by decide +kernel)) (hts (.initialized "java/lang/System") (by decide +kernel)) hK.1 hP hD hS 14 4 0 0 rfl rfl rfl rfl rfl (by decide) (by decide) (by decide) (by decide) (by decide) (fun _ _ => rfl) (Nat.le_of_ble_eq_true rfl) (by decide +kernel) dX0_become_65 (fun H locs hP hD hS => ?_)
  have hP := row_fix hP (q := 4) (f := σ2 8) rfl (fun j hj => cpy_in rfl rfl rfl hj)
  have hD := row_fixD (q := 4) (σ2 8) hD rfl
  have hP : va_P D vwCl (wCouE a cI (σ2 17 0) (σ2 5) (σ2 6) (σ2 7) (σ2 8) (σ 9) (σ 10) (σ 11) (σ 12) (σ 13) ++ wCou a2 cI σ2) H := hP
  have hD : va_D A (wCouE a cI (σ2 17 0) (σ2 5) (σ2 6) (σ2 7) (σ2 8) (σ 9) (σ 10) (σ 11) (σ 12) (σ 13) ++ wCou a2 cI σ2) := hD
  refine lv_aload_n hx hb dX0_become_68 rfl (lv_at hl 1 rfl) ?_
  refine va_get (D := D) (ci := 0) (v := .ref (a2 11)) (C := RX0) (T := TX0) (N := 10) hx hb hts hiX0 hown hK.1 hP 10 rfl rfl 5 (by decide) (hts (.fieldLink RX0 24 "IceLanes$Couriers" "lane" "[I") (by decide +kernel)) (fun _ h9 => h9) rfl dX0_become_69 ?_
  refine lv_iconst (v := 0) hx hb dX0_become_72 (by decide) ?_
  refine lv_aload_n hx hb dX0_become_73 rfl (lv_at hl 0 rfl) ?_
  refine va_get (D := D) (ci := 0) (v := .ref (a 11)) (C := RX0) (T := TX0) (N := 10) hx hb hts hiX0 hown hK.1 hP 0 rfl rfl 5 (by decide) (hts (.fieldLink RX0 24 "IceLanes$Couriers" "lane" "[I") (by decide +kernel)) (fun _ h9 => h9) rfl dX0_become_74 ?_
  refine lv_iconst (v := 0) hx hb dX0_become_77 (by decide) ?_
  refine lv_bipush (v := 8) hx hb dX0_become_78 (by decide) ?_
  refine va_copyi hx hb (by rw [hml]; exact hl.1.symm) hown (hts (.methodLink RX0 43 arraycopyName) (by decide +kernel)) (hts (.native arraycopyName) (by decide +kernel)) (hts (.static arraycopyName) (by decide +kernel)) (hts (.initialized "java/lang/System") (by decide +kernel)) hK.1 hP hD hS 15 5 0 0 rfl rfl rfl rfl rfl (by decide) (by decide) (by decide) (by decide) (by decide) (fun _ _ => rfl) (Nat.le_of_ble_eq_true rfl) (by decide +kernel) dX0_become_80 (fun H locs hP hD hS => ?_)
  have hP := row_fix hP (q := 5) (f := σ2 9) rfl (fun j hj => cpy_in rfl rfl rfl hj)
  have hD := row_fixD (q := 5) (σ2 9) hD rfl
  have hP : va_P D vwCl (wCouE a cI (σ2 17 0) (σ2 5) (σ2 6) (σ2 7) (σ2 8) (σ2 9) (σ 10) (σ 11) (σ 12) (σ 13) ++ wCou a2 cI σ2) H := hP
  have hD : va_D A (wCouE a cI (σ2 17 0) (σ2 5) (σ2 6) (σ2 7) (σ2 8) (σ2 9) (σ 10) (σ 11) (σ 12) (σ 13) ++ wCou a2 cI σ2) := hD
  refine lv_aload_n hx hb dX0_become_83 rfl (lv_at hl 1 rfl) ?_
  refine va_get (D := D) (ci := 0) (v := .ref (a2 12)) (C := RX0) (T := TX0) (N := 10) hx hb hts hiX0 hown hK.1 hP 10 rfl rfl 6 (by decide) (hts (.fieldLink RX0 27 "IceLanes$Couriers" "goal" "[I") (by decide +kernel)) (fun _ h9 => h9) rfl dX0_become_84 ?_
  refine lv_iconst (v := 0) hx hb dX0_become_87 (by decide) ?_
  refine lv_aload_n hx hb dX0_become_88 rfl (lv_at hl 0 rfl) ?_
  refine va_get (D := D) (ci := 0) (v := .ref (a 12)) (C := RX0) (T := TX0) (N := 10) hx hb hts hiX0 hown hK.1 hP 0 rfl rfl 6 (by decide) (hts (.fieldLink RX0 27 "IceLanes$Couriers" "goal" "[I") (by decide +kernel)) (fun _ h9 => h9) rfl dX0_become_89 ?_
  refine lv_iconst (v := 0) hx hb dX0_become_92 (by decide) ?_
  refine lv_bipush (v := 8) hx hb dX0_become_93 (by decide) ?_
  refine va_copyi hx hb (by rw [hml]; exact hl.1.symm) hown (hts (.methodLink RX0 43 arraycopyName) (by decide +kernel)) (hts (.native arraycopyName) (by decide +kernel)) (hts (.static arraycopyName) (by decide +kernel)) (hts (.initialized "java/lang/System") (by decide +kernel)) hK.1 hP hD hS 16 6 0 0 rfl rfl rfl rfl rfl (by decide) (by decide) (by decide) (by decide) (by decide) (fun _ _ => rfl) (Nat.le_of_ble_eq_true rfl) (by decide +kernel) dX0_become_95 (fun H locs hP hD hS => ?_)
  have hP := row_fix hP (q := 6) (f := σ2 10) rfl (fun j hj => cpy_in rfl rfl rfl hj)
  have hD := row_fixD (q := 6) (σ2 10) hD rfl
  have hP : va_P D vwCl (wCouE a cI (σ2 17 0) (σ2 5) (σ2 6) (σ2 7) (σ2 8) (σ2 9) (σ2 10) (σ 11) (σ 12) (σ 13) ++ wCou a2 cI σ2) H := hP
  have hD : va_D A (wCouE a cI (σ2 17 0) (σ2 5) (σ2 6) (σ2 7) (σ2 8) (σ2 9) (σ2 10) (σ 11) (σ 12) (σ 13) ++ wCou a2 cI σ2) := hD
  refine lv_aload_n hx hb dX0_become_98 rfl (lv_at hl 1 rfl) ?_
  refine va_get (D := D) (ci := 0) (v := .ref (a2 13)) (C := RX0) (T := TX0) (N := 10) hx hb hts hiX0 hown hK.1 hP 10 rfl rfl 7 (by decide) (hts (.fieldLink RX0 30 "IceLanes$Couriers" "state" "[I") (by decide +kernel)) (fun _ h9 => h9) rfl dX0_become_99 ?_
  refine lv_iconst (v := 0) hx hb dX0_become_102 (by decide) ?_
  refine lv_aload_n hx hb dX0_become_103 rfl (lv_at hl 0 rfl) ?_
  refine va_get (D := D) (ci := 0) (v := .ref (a 13)) (C := RX0) (T := TX0) (N := 10) hx hb hts hiX0 hown hK.1 hP 0 rfl rfl 7 (by decide) (hts (.fieldLink RX0 30 "IceLanes$Couriers" "state" "[I") (by decide +kernel)) (fun _ h9 => h9) rfl dX0_become_104 ?_
  refine lv_iconst (v := 0) hx hb dX0_become_107 (by decide) ?_
  refine lv_bipush (v := 8) hx hb dX0_become_108 (by decide) ?_
  refine va_copyi hx hb (by rw [hml]; exact hl.1.symm) hown (hts (.methodLink RX0 43 arraycopyName) (by decide +kernel)) (hts (.native arraycopyName) (by decide +kernel)) (hts (.static arraycopyName) (by decide +kernel)) (hts (.initialized "java/lang/System") (by decide +kernel)) hK.1 hP hD hS 17 7 0 0 rfl rfl rfl rfl rfl (by decide) (by decide) (by decide) (by decide) (by decide) (fun _ _ => rfl) (Nat.le_of_ble_eq_true rfl) (by decide +kernel) dX0_become_110 (fun H locs hP hD hS => ?_)
  have hP := row_fix hP (q := 7) (f := σ2 11) rfl (fun j hj => cpy_in rfl rfl rfl hj)
  have hD := row_fixD (q := 7) (σ2 11) hD rfl
  have hP : va_P D vwCl (wCouE a cI (σ2 17 0) (σ2 5) (σ2 6) (σ2 7) (σ2 8) (σ2 9) (σ2 10) (σ2 11) (σ 12) (σ 13) ++ wCou a2 cI σ2) H := hP
  have hD : va_D A (wCouE a cI (σ2 17 0) (σ2 5) (σ2 6) (σ2 7) (σ2 8) (σ2 9) (σ2 10) (σ2 11) (σ 12) (σ 13) ++ wCou a2 cI σ2) := hD
  refine lv_aload_n hx hb dX0_become_113 rfl (lv_at hl 1 rfl) ?_
  refine va_get (D := D) (ci := 0) (v := .ref (a2 14)) (C := RX0) (T := TX0) (N := 10) hx hb hts hiX0 hown hK.1 hP 10 rfl rfl 8 (by decide) (hts (.fieldLink RX0 33 "IceLanes$Couriers" "steps" "[I") (by decide +kernel)) (fun _ h9 => h9) rfl dX0_become_114 ?_
  refine lv_iconst (v := 0) hx hb dX0_become_117 (by decide) ?_
  refine lv_aload_n hx hb dX0_become_118 rfl (lv_at hl 0 rfl) ?_
  refine va_get (D := D) (ci := 0) (v := .ref (a 14)) (C := RX0) (T := TX0) (N := 10) hx hb hts hiX0 hown hK.1 hP 0 rfl rfl 8 (by decide) (hts (.fieldLink RX0 33 "IceLanes$Couriers" "steps" "[I") (by decide +kernel)) (fun _ h9 => h9) rfl dX0_become_119 ?_
  refine lv_iconst (v := 0) hx hb dX0_become_122 (by decide) ?_
  refine lv_bipush (v := 8) hx hb dX0_become_123 (by decide) ?_
  refine va_copyi hx hb (by rw [hml]; exact hl.1.symm) hown (hts (.methodLink RX0 43 arraycopyName) (by decide +kernel)) (hts (.native arraycopyName) (by decide +kernel)) (hts (.static arraycopyName) (by decide +kernel)) (hts (.initialized "java/lang/System") (by decide +kernel)) hK.1 hP hD hS 18 8 0 0 rfl rfl rfl rfl rfl (by decide) (by decide) (by decide) (by decide) (by decide) (fun _ _ => rfl) (Nat.le_of_ble_eq_true rfl) (by decide +kernel) dX0_become_125 (fun H locs hP hD hS => ?_)
  have hP := row_fix hP (q := 8) (f := σ2 12) rfl (fun j hj => cpy_in rfl rfl rfl hj)
  have hD := row_fixD (q := 8) (σ2 12) hD rfl
  have hP : va_P D vwCl (wCouE a cI (σ2 17 0) (σ2 5) (σ2 6) (σ2 7) (σ2 8) (σ2 9) (σ2 10) (σ2 11) (σ2 12) (σ 13) ++ wCou a2 cI σ2) H := hP
  have hD : va_D A (wCouE a cI (σ2 17 0) (σ2 5) (σ2 6) (σ2 7) (σ2 8) (σ2 9) (σ2 10) (σ2 11) (σ2 12) (σ 13) ++ wCou a2 cI σ2) := hD
  refine lv_aload_n hx hb dX0_become_128 rfl (lv_at hl 1 rfl) ?_
  refine va_get (D := D) (ci := 0) (v := .ref (a2 15)) (C := RX0) (T := TX0) (N := 10) hx hb hts hiX0 hown hK.1 hP 10 rfl rfl 9 (by decide) (hts (.fieldLink RX0 36 "IceLanes$Couriers" "pace" "[I") (by decide +kernel)) (fun _ h9 => h9) rfl dX0_become_129 ?_
  refine lv_iconst (v := 0) hx hb dX0_become_132 (by decide) ?_
  refine lv_aload_n hx hb dX0_become_133 rfl (lv_at hl 0 rfl) ?_
  refine va_get (D := D) (ci := 0) (v := .ref (a 15)) (C := RX0) (T := TX0) (N := 10) hx hb hts hiX0 hown hK.1 hP 0 rfl rfl 9 (by decide) (hts (.fieldLink RX0 36 "IceLanes$Couriers" "pace" "[I") (by decide +kernel)) (fun _ h9 => h9) rfl dX0_become_134 ?_
  refine lv_iconst (v := 0) hx hb dX0_become_137 (by decide) ?_
  refine lv_bipush (v := 8) hx hb dX0_become_138 (by decide) ?_
  refine va_copyi hx hb (by rw [hml]; exact hl.1.symm) hown (hts (.methodLink RX0 43 arraycopyName) (by decide +kernel)) (hts (.native arraycopyName) (by decide +kernel)) (hts (.static arraycopyName) (by decide +kernel)) (hts (.initialized "java/lang/System") (by decide +kernel)) hK.1 hP hD hS 19 9 0 0 rfl rfl rfl rfl rfl (by decide) (by decide) (by decide) (by decide) (by decide) (fun _ _ => rfl) (Nat.le_of_ble_eq_true rfl) (by decide +kernel) dX0_become_140 (fun H locs hP hD hS => ?_)
  have hP := row_fix hP (q := 9) (f := σ2 13) rfl (fun j hj => cpy_in rfl rfl rfl hj)
  have hD := row_fixD (q := 9) (σ2 13) hD rfl
  have hP : va_P D vwCl (wCouE a cI (σ2 17 0) (σ2 5) (σ2 6) (σ2 7) (σ2 8) (σ2 9) (σ2 10) (σ2 11) (σ2 12) (σ2 13) ++ wCou a2 cI σ2) H := hP
  have hD : va_D A (wCouE a cI (σ2 17 0) (σ2 5) (σ2 6) (σ2 7) (σ2 8) (σ2 9) (σ2 10) (σ2 11) (σ2 12) (σ2 13) ++ wCou a2 cI σ2) := hD
  subst hQ
  have hP : va_P D vwCl (wCou a cI (put (put (put (put (put (put (put (put (put (put σ 5 (σ2 5)) 6 (σ2 6)) 7 (σ2 7)) 8 (σ2 8)) 9 (σ2 9)) 10 (σ2 10)) 11 (σ2 11)) 12 (σ2 12)) 13 (σ2 13)) 17 (fun _ => σ2 17 0)) ++ wCou a2 cI σ2) H := hP
  have hD : va_D A (wCou a cI (put (put (put (put (put (put (put (put (put (put σ 5 (σ2 5)) 6 (σ2 6)) 7 (σ2 7)) 8 (σ2 8)) 9 (σ2 9)) 10 (σ2 10)) 11 (σ2 11)) 12 (σ2 12)) 13 (σ2 13)) 17 (fun _ => σ2 17 0)) ++ wCou a2 cI σ2) := hD
  exact ret_wrv hx hb hr hlocks hP hD hS dX0_become_143
set_option maxHeartbeats 4000000 in
set_option maxRecDepth 100000 in
theorem M_X2_become (l : Launch) (D : va_G) (cI : ClassId) (a : Nat → Nat) (a2 : Nat → Nat) (σ : St) (σ2 : St) (sz : Nat) : Met l yX2_become wsX2_become ({ frames := 2, cells := 0, slots := 0, locals := 61 } : Room) (wrPc [.ref (a 0), .ref (a2 0)] D (wRiv a cI σ ++ wRiv a2 cI σ2) [(cI, .int)] sz) (wrQv D (wRiv a cI σ2 ++ wRiv a2 cI σ2) (va_A (wRiv a cI σ ++ wRiv a2 cI σ2) sz)) 0 0 (va_A (wRiv a cI σ ++ wRiv a2 cI σ2) sz) := by
  refine Met.ofW (cc := cX2_become) (maxL := 2) (ret := none) (by decide) rfl ?_
  intro p e s m args below meth c s₁ B hml hv
  obtain ⟨hargs, hsz, hP, hK, hD0⟩ := hv
  have hx := B.exec
  have hb := B.bytes
  have hr := B.returns
  have hts := atoms_spec (ws := wsX2_become) B.pre
  have hown : s.vm.findClass RX2 = some m.cls := findClass_of_methodNamed B.named
  have hlocks := B.notSynchronized
  obtain ⟨_, hN⟩ := id hK
  have hiX2 : ∀ w ∈ wsX20, w ∈ wsX2_become := by decide +kernel
  subst hsz
  have hD := hD0.self (sz := s.heap.size)
  generalize hAe : va_A (wRiv a cI σ ++ wRiv a2 cI σ2) s.heap.size = A at hD ⊢
  have hA : ∀ q : Nat, s.heap.size ≤ q → A q := fun q h => by rw [← hAe]; exact Or.inr h
  have hS : va_S A s.heap s.heap [] := va_S.rf
  have hP : va_P D vwCl (wRiv a cI σ ++ wRiv a2 cI σ2) s.heap := hP
  refine my_abs (fun Q hQ => ?_)
  obtain ⟨ls, hl, hent⟩ := my_entry (m := m) (n := 2) hargs (Nat.le_of_ble_eq_true rfl)
  rw [hent]
  have hl : lv_has ls 2 [(0, .ref (a 0)), (1, .ref (a2 0))] := hl
  show W p l e ({ frames := 2, cells := 0, slots := 0, locals := 61 } : Room) s m args below meth c s.heap [] 0 0 Q (F0 m 0 ls [])
  refine lv_aload_n hx hb dX2_become_0 rfl (lv_at hl 0 rfl) ?_
  refine lv_aload_n hx hb dX2_become_1 rfl (lv_at hl 1 rfl) ?_
  refine va_get (D := D) (ci := 2) (v := .int (σ2 0 0)) (C := RX2) (T := TX2) (N := 6) hx hb hts hiX2 hown hK.1 hP 16 rfl rfl 0 (by decide) (hts (.fieldLink RX2 36 "IceLanes$River" "hour" "I") (by decide +kernel)) (fun _ h9 => h9) rfl dX2_become_2 ?_
  refine va_put (D := D) (ci := 2) (v := .int (σ2 0 0)) (ty := .int) (C := RX2) (T := TX2) (N := 6) hx hb hts hiX2 tyX2 tyX2_ok nmX2 hown hK.1 hP hD hS 0 rfl rfl 0 (by decide) (hts (.fieldLink RX2 36 "IceLanes$River" "hour" "I") (by decide +kernel)) (fun _ h9 => h9) rfl (by decide +kernel) rfl rfl (Nat.le_of_ble_eq_true rfl) dX2_become_5 (fun H locs hP hD hS => ?_)
  have hP : va_P D vwCl (wRivE a cI (σ2 0 0) (σ 16 0) (σ 1) (σ 2) (σ 3) (σ 4) (σ 17 0) (σ 5) (σ 6) (σ 7) (σ 8) (σ 9) (σ 10) (σ 11) (σ 12) (σ 13) ++ wRiv a2 cI σ2) H := hP
  have hD : va_D A (wRivE a cI (σ2 0 0) (σ 16 0) (σ 1) (σ 2) (σ 3) (σ 4) (σ 17 0) (σ 5) (σ 6) (σ 7) (σ 8) (σ 9) (σ 10) (σ 11) (σ 12) (σ 13) ++ wRiv a2 cI σ2) := hD
  refine lv_aload_n hx hb dX2_become_8 rfl (lv_at hl 0 rfl) ?_
  refine lv_aload_n hx hb dX2_become_9 rfl (lv_at hl 1 rfl) ?_
  refine va_get (D := D) (ci := 2) (v := .int (σ2 16 0)) (C := RX2) (T := TX2) (N := 6) hx hb hts hiX2 hown hK.1 hP 16 rfl rfl 1 (by decide) (hts (.fieldLink RX2 9 "IceLanes$River" "thawDay" "I") (by decide +kernel)) (fun _ h9 => h9) rfl dX2_become_10 ?_
  refine va_put (D := D) (ci := 2) (v := .int (σ2 16 0)) (ty := .int) (C := RX2) (T := TX2) (N := 6) hx hb hts hiX2 tyX2 tyX2_ok nmX2 hown hK.1 hP hD hS 0 rfl rfl 1 (by decide) (hts (.fieldLink RX2 9 "IceLanes$River" "thawDay" "I") (by decide +kernel)) (fun _ h9 => h9) rfl (by decide +kernel) rfl rfl (Nat.le_of_ble_eq_true rfl) dX2_become_13 (fun H locs hP hD hS => ?_)
  have hP : va_P D vwCl (wRivE a cI (σ2 0 0) (σ2 16 0) (σ 1) (σ 2) (σ 3) (σ 4) (σ 17 0) (σ 5) (σ 6) (σ 7) (σ 8) (σ 9) (σ 10) (σ 11) (σ 12) (σ 13) ++ wRiv a2 cI σ2) H := hP
  have hD : va_D A (wRivE a cI (σ2 0 0) (σ2 16 0) (σ 1) (σ 2) (σ 3) (σ 4) (σ 17 0) (σ 5) (σ 6) (σ 7) (σ 8) (σ 9) (σ 10) (σ 11) (σ 12) (σ 13) ++ wRiv a2 cI σ2) := hD
  refine lv_aload_n hx hb dX2_become_16 rfl (lv_at hl 1 rfl) ?_
  refine va_get (D := D) (ci := 2) (v := .ref (a2 1)) (C := RX2) (T := TX2) (N := 6) hx hb hts hiX2 hown hK.1 hP 16 rfl rfl 2 (by decide) (hts (.fieldLink RX2 15 "IceLanes$River" "warm" "[I") (by decide +kernel)) (fun _ h9 => h9) rfl dX2_become_17 ?_
  refine lv_iconst (v := 0) hx hb dX2_become_20 (by decide) ?_
  refine lv_aload_n hx hb dX2_become_21 rfl (lv_at hl 0 rfl) ?_
  refine va_get (D := D) (ci := 2) (v := .ref (a 1)) (C := RX2) (T := TX2) (N := 6) hx hb hts hiX2 hown hK.1 hP 0 rfl rfl 2 (by decide) (hts (.fieldLink RX2 15 "IceLanes$River" "warm" "[I") (by decide +kernel)) (fun _ h9 => h9) rfl dX2_become_22 ?_
  refine lv_iconst (v := 0) hx hb dX2_become_25 (by decide) ?_
  refine lv_bipush (v := 14) hx hb dX2_become_26 (by decide) ?_
  refine va_copyi hx hb (by rw [hml]; exact hl.1.symm) hown (hts (.methodLink RX2 39 arraycopyName) (by decide +kernel)) (hts (.native arraycopyName) (by decide +kernel)) (hts (.static arraycopyName) (by decide +kernel)) (hts (.initialized "java/lang/System") (by decide +kernel)) hK.1 hP hD hS 17 1 0 0 rfl rfl rfl rfl rfl (by decide) (by decide) (by decide) (by decide) (by decide) (fun _ _ => rfl) (Nat.le_of_ble_eq_true rfl) (by decide +kernel) dX2_become_28 (fun H locs hP hD hS => ?_)
  have hP := row_fix hP (q := 1) (f := σ2 1) rfl (fun j hj => cpy_in rfl rfl rfl hj)
  have hD := row_fixD (q := 1) (σ2 1) hD rfl
  have hP : va_P D vwCl (wRivE a cI (σ2 0 0) (σ2 16 0) (σ2 1) (σ 2) (σ 3) (σ 4) (σ 17 0) (σ 5) (σ 6) (σ 7) (σ 8) (σ 9) (σ 10) (σ 11) (σ 12) (σ 13) ++ wRiv a2 cI σ2) H := hP
  have hD : va_D A (wRivE a cI (σ2 0 0) (σ2 16 0) (σ2 1) (σ 2) (σ 3) (σ 4) (σ 17 0) (σ 5) (σ 6) (σ 7) (σ 8) (σ 9) (σ 10) (σ 11) (σ 12) (σ 13) ++ wRiv a2 cI σ2) := hD
  refine lv_aload_n hx hb dX2_become_31 rfl (lv_at hl 1 rfl) ?_
  refine va_get (D := D) (ci := 2) (v := .ref (a2 2)) (C := RX2) (T := TX2) (N := 6) hx hb hts hiX2 hown hK.1 hP 16 rfl rfl 3 (by decide) (hts (.fieldLink RX2 19 "IceLanes$River" "hut" "[I") (by decide +kernel)) (fun _ h9 => h9) rfl dX2_become_32 ?_
  refine lv_iconst (v := 0) hx hb dX2_become_35 (by decide) ?_
  refine lv_aload_n hx hb dX2_become_36 rfl (lv_at hl 0 rfl) ?_
  refine va_get (D := D) (ci := 2) (v := .ref (a 2)) (C := RX2) (T := TX2) (N := 6) hx hb hts hiX2 hown hK.1 hP 0 rfl rfl 3 (by decide) (hts (.fieldLink RX2 19 "IceLanes$River" "hut" "[I") (by decide +kernel)) (fun _ h9 => h9) rfl dX2_become_37 ?_
  refine lv_iconst (v := 0) hx hb dX2_become_40 (by decide) ?_
  refine lv_bipush (v := 12) hx hb dX2_become_41 (by decide) ?_
  refine va_copyi hx hb (by rw [hml]; exact hl.1.symm) hown (hts (.methodLink RX2 39 arraycopyName) (by decide +kernel)) (hts (.native arraycopyName) (by decide +kernel)) (hts (.static arraycopyName) (by decide +kernel)) (hts (.initialized "java/lang/System") (by decide +kernel)) hK.1 hP hD hS 18 2 0 0 rfl rfl rfl rfl rfl (by decide) (by decide) (by decide) (by decide) (by decide) (fun _ _ => rfl) (Nat.le_of_ble_eq_true rfl) (by decide +kernel) dX2_become_43 (fun H locs hP hD hS => ?_)
  have hP := row_fix hP (q := 2) (f := σ2 2) rfl (fun j hj => cpy_in rfl rfl rfl hj)
  have hD := row_fixD (q := 2) (σ2 2) hD rfl
  have hP : va_P D vwCl (wRivE a cI (σ2 0 0) (σ2 16 0) (σ2 1) (σ2 2) (σ 3) (σ 4) (σ 17 0) (σ 5) (σ 6) (σ 7) (σ 8) (σ 9) (σ 10) (σ 11) (σ 12) (σ 13) ++ wRiv a2 cI σ2) H := hP
  have hD : va_D A (wRivE a cI (σ2 0 0) (σ2 16 0) (σ2 1) (σ2 2) (σ 3) (σ 4) (σ 17 0) (σ 5) (σ 6) (σ 7) (σ 8) (σ 9) (σ 10) (σ 11) (σ 12) (σ 13) ++ wRiv a2 cI σ2) := hD
  refine lv_aload_n hx hb dX2_become_46 rfl (lv_at hl 0 rfl) ?_
  refine va_get (D := D) (ci := 2) (v := .ref (a 3)) (C := RX2) (T := TX2) (N := 6) hx hb hts hiX2 hown hK.1 hP 0 rfl rfl 4 (by decide) (hts (.fieldLink RX2 25 "IceLanes$River" "ice" "LIceLanes$Ice;") (by decide +kernel)) (fun _ h9 => h9) rfl dX2_become_47 ?_
  refine lv_aload_n hx hb dX2_become_50 rfl (lv_at hl 1 rfl) ?_
  refine va_get (D := D) (ci := 2) (v := .ref (a2 3)) (C := RX2) (T := TX2) (N := 6) hx hb hts hiX2 hown hK.1 hP 16 rfl rfl 4 (by decide) (hts (.fieldLink RX2 25 "IceLanes$River" "ice" "LIceLanes$Ice;") (by decide +kernel)) (fun _ h9 => h9) rfl dX2_become_51 ?_
  refine wr_v (wn := wRivE a cI (σ2 0 0) (σ2 16 0) (σ2 1) (σ2 2) (σ2 3) (σ2 4) (σ 17 0) (σ 5) (σ 6) (σ 7) (σ 8) (σ 9) (σ 10) (σ 11) (σ 12) (σ 13) ++ wRiv a2 cI σ2) (va_runVN (As := [.ref (a2 3)]) (rest := []) ⟨hx, hb, hml, hown, hts⟩ (M_X1_become l D cI a a2 (put (put (put (put σ 0 (fun _ => σ2 0 0)) 1 (σ2 1)) 2 (σ2 2)) 16 (fun _ => σ2 16 0)) σ2 _ ) ⟨va_cnB 1 hts gX2_become_X1_become_n45 rfl rfl rfl (nX2_45 hN) (hts (.initialized RX1) (by decide +kernel)) (by decide +kernel) ⟨Nat.le_of_ble_eq_true rfl, Nat.le_of_ble_eq_true rfl⟩, hts (.instanceMethod yX1_become) (by decide +kernel), hts (.selects RX1 yX1_become yX1_become) (by decide +kernel)⟩ (wrV hK hP hD [3, 4, 5, 19, 20, 21] [0] rfl rfl rfl (ci := 1) (q0 := 3) rfl rfl) rfl rfl hl.1 rfl (lv_room (Nat.le_of_ble_eq_true rfl)) dX2_become_54 ⟨Nat.le_of_ble_eq_true rfl, Nat.le_of_ble_eq_true rfl⟩) hP hD hS hA [3, 4, 5, 19, 20, 21] [0, 1, 2, 6, 7, 8, 9, 10, 11, 12, 13, 14, 15, 16, 17, 18, 22, 23, 24, 25, 26, 27, 28, 29, 30, 31] [0, 1, 2, 26, 27, 28, 3, 4, 5, 6, 7, 8, 9, 10, 11, 12, 13, 14, 15, 29, 30, 31, 16, 17, 18, 19, 20, 21, 22, 23, 24, 25] rfl rfl rfl rfl rfl rfl (fun H locs hP hD hS => ?_)
  refine lv_aload_n hx hb dX2_become_57 rfl (lv_at hl 0 rfl) ?_
  refine va_get (D := D) (ci := 2) (v := .ref (a 6)) (C := RX2) (T := TX2) (N := 6) hx hb hts hiX2 hown hK.1 hP 0 rfl rfl 5 (by decide) (hts (.fieldLink RX2 32 "IceLanes$River" "couriers" "LIceLanes$Couriers;") (by decide +kernel)) (fun _ h9 => h9) rfl dX2_become_58 ?_
  refine lv_aload_n hx hb dX2_become_61 rfl (lv_at hl 1 rfl) ?_
  refine va_get (D := D) (ci := 2) (v := .ref (a2 6)) (C := RX2) (T := TX2) (N := 6) hx hb hts hiX2 hown hK.1 hP 16 rfl rfl 5 (by decide) (hts (.fieldLink RX2 32 "IceLanes$River" "couriers" "LIceLanes$Couriers;") (by decide +kernel)) (fun _ h9 => h9) rfl dX2_become_62 ?_
  refine wr_v (wn := wRivE a cI (σ2 0 0) (σ2 16 0) (σ2 1) (σ2 2) (σ2 3) (σ2 4) (σ2 17 0) (σ2 5) (σ2 6) (σ2 7) (σ2 8) (σ2 9) (σ2 10) (σ2 11) (σ2 12) (σ2 13) ++ wRiv a2 cI σ2) (va_runVN (As := [.ref (a2 6)]) (rest := []) ⟨hx, hb, hml, hown, hts⟩ (M_X0_become l D cI a a2 (put (put (put (put (put (put σ 0 (fun _ => σ2 0 0)) 1 (σ2 1)) 2 (σ2 2)) 3 (σ2 3)) 4 (σ2 4)) 16 (fun _ => σ2 16 0)) σ2 _ ) ⟨va_cnB 1 hts gX2_become_X0_become_n49 rfl rfl rfl (nX2_49 hN) (hts (.initialized RX0) (by decide +kernel)) (by decide +kernel) ⟨Nat.le_of_ble_eq_true rfl, Nat.le_of_ble_eq_true rfl⟩, hts (.instanceMethod yX0_become) (by decide +kernel), hts (.selects RX0 yX0_become yX0_become) (by decide +kernel)⟩ (wrV hK hP hD [6, 7, 8, 9, 10, 11, 12, 13, 14, 15, 22, 23, 24, 25, 26, 27, 28, 29, 30, 31] [0] rfl rfl rfl (ci := 0) (q0 := 6) rfl rfl) rfl rfl hl.1 rfl (lv_room (Nat.le_of_ble_eq_true rfl)) dX2_become_65 ⟨Nat.le_of_ble_eq_true rfl, Nat.le_of_ble_eq_true rfl⟩) hP hD hS hA [6, 7, 8, 9, 10, 11, 12, 13, 14, 15, 22, 23, 24, 25, 26, 27, 28, 29, 30, 31] [0, 1, 2, 3, 4, 5, 16, 17, 18, 19, 20, 21] [0, 1, 2, 3, 4, 5, 12, 13, 14, 15, 16, 17, 18, 19, 20, 21, 6, 7, 8, 9, 10, 11, 22, 23, 24, 25, 26, 27, 28, 29, 30, 31] rfl rfl rfl rfl rfl rfl (fun H locs hP hD hS => ?_)
  subst hQ
  have hP : va_P D vwCl (wRiv a cI (put (put (put (put (put (put (put (put (put (put (put (put (put (put (put (put σ 0 (fun _ => σ2 0 0)) 1 (σ2 1)) 2 (σ2 2)) 3 (σ2 3)) 4 (σ2 4)) 5 (σ2 5)) 6 (σ2 6)) 7 (σ2 7)) 8 (σ2 8)) 9 (σ2 9)) 10 (σ2 10)) 11 (σ2 11)) 12 (σ2 12)) 13 (σ2 13)) 16 (fun _ => σ2 16 0)) 17 (fun _ => (σ2 17 0))) ++ wRiv a2 cI σ2) H := hP
  have hD : va_D A (wRiv a cI (put (put (put (put (put (put (put (put (put (put (put (put (put (put (put (put σ 0 (fun _ => σ2 0 0)) 1 (σ2 1)) 2 (σ2 2)) 3 (σ2 3)) 4 (σ2 4)) 5 (σ2 5)) 6 (σ2 6)) 7 (σ2 7)) 8 (σ2 8)) 9 (σ2 9)) 10 (σ2 10)) 11 (σ2 11)) 12 (σ2 12)) 13 (σ2 13)) 16 (fun _ => σ2 16 0)) 17 (fun _ => (σ2 17 0))) ++ wRiv a2 cI σ2) := hD
  have hP : va_P D vwCl (wRiv a cI σ2 ++ wRiv a2 cI σ2) H := hP
  have hD : va_D A (wRiv a cI σ2 ++ wRiv a2 cI σ2) := hD
  exact ret_wrv hx hb hr hlocks hP hD hS dX2_become_68
