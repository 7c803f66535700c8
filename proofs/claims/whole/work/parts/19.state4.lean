set_option maxHeartbeats 4000000 in
set_option maxRecDepth 100000 in
theorem M_X5_copy_ice (l : Launch) (D : va_G) (cI : ClassId) (d : Nat → Nat) (o : Nat) (d2 : Nat → Nat) (o2 : Nat) (σ : St) (σ2 : St) (sz : Nat) : Met l yX5_copy wsX5_copy ({ frames := 1, cells := 0, slots := 0, locals := 40 } : Room) (wrPc [.ref (d 0), .ref (d2 1), .ref (d 1)] D (wSta d o cI σ ++ wSta d2 o2 cI σ2) [(cI, .int)] sz) (wrQv D (wSta d o cI (put σ 3 (σ2 3)) ++ wSta d2 o2 cI σ2) (va_A (wSta d o cI σ ++ wSta d2 o2 cI σ2) sz)) 0 0 (va_A (wSta d o cI σ ++ wSta d2 o2 cI σ2) sz) := by
  refine Met.ofW (cc := cX5_copy) (maxL := 3) (ret := none) (by decide) rfl ?_
  intro p e s m args below meth c s₁ B hml hv
  obtain ⟨hargs, hsz, hP, hK, hD0⟩ := hv
  have hx := B.exec
  have hb := B.bytes
  have hr := B.returns
  have hts := atoms_spec (ws := wsX5_copy) B.pre
  have hown : s.vm.findClass RX5 = some m.cls := findClass_of_methodNamed B.named
  have hlocks := B.notSynchronized
  obtain ⟨_, hN⟩ := id hK
  subst hsz
  have hD := hD0.self (sz := s.heap.size)
  generalize hAe : va_A (wSta d o cI σ ++ wSta d2 o2 cI σ2) s.heap.size = A at hD ⊢
  have hA : ∀ q : Nat, s.heap.size ≤ q → A q := fun q h => by rw [← hAe]; exact Or.inr h
  have hS : va_S A s.heap s.heap [] := va_S.rf
  have hP : va_P D vwCl (wSta d o cI σ ++ wSta d2 o2 cI σ2) s.heap := hP
  refine my_abs (fun Q hQ => ?_)
  obtain ⟨ls, hl, hent⟩ := my_entry (m := m) (n := 3) hargs (Nat.le_of_ble_eq_true rfl)
  rw [hent]
  have hl : lv_has ls 3 [(0, .ref (d 0)), (1, .ref (d2 1)), (2, .ref (d 1))] := hl
  show W p l e ({ frames := 1, cells := 0, slots := 0, locals := 40 } : Room) s m args below meth c s.heap [] 0 0 Q (F0 m 0 ls [])
  refine lv_aload_n hx hb dX5_copy_0 rfl (lv_at hl 1 rfl) ?_
  refine lv_iconst (v := 0) hx hb dX5_copy_1 (by decide) ?_
  refine lv_aload_n hx hb dX5_copy_2 rfl (lv_at hl 2 rfl) ?_
  refine lv_iconst (v := 0) hx hb dX5_copy_3 (by decide) ?_
  refine lv_aload_n hx hb dX5_copy_4 rfl (lv_at hl 1 rfl) ?_
  refine va_alen (v := 36) hx hb hK.1 hP 5 0 rfl (ty := .int) rfl rfl dX5_copy_5 ?_
  refine va_copyi hx hb (by rw [hml]; exact hl.1.symm) hown (hts (.methodLink RX5 29 arraycopyName) (by decide +kernel)) (hts (.native arraycopyName) (by decide +kernel)) (hts (.static arraycopyName) (by decide +kernel)) (hts (.initialized "java/lang/System") (by decide +kernel)) hK.1 hP hD hS 5 1 0 0 rfl rfl rfl rfl rfl (by decide) (by decide) (by decide) (by decide) (by decide) (fun _ _ => rfl) (Nat.le_of_ble_eq_true rfl) (by decide +kernel) dX5_copy_6 (fun H locs hP hD hS => ?_)
  have hP := row_fix hP (q := 1) (f := σ2 3) rfl (fun j hj => cpy_in rfl rfl rfl hj)
  have hD := row_fixD (q := 1) (σ2 3) hD rfl
  have hP : va_P D vwCl (wStaE d o cI (σ 0 0) (σ 17 0) (σ 16 0) (σ 18 0) (σ2 3) (σ 4) (σ 5) (σ 6) (σ 7) (σ 8) (σ 9) (σ 10) (σ 11) (σ 12) (σ 13) ++ wSta d2 o2 cI σ2) H := hP
  have hD : va_D A (wStaE d o cI (σ 0 0) (σ 17 0) (σ 16 0) (σ 18 0) (σ2 3) (σ 4) (σ 5) (σ 6) (σ 7) (σ 8) (σ 9) (σ 10) (σ 11) (σ 12) (σ 13) ++ wSta d2 o2 cI σ2) := hD
  subst hQ
  have hP : va_P D vwCl (wSta d o cI (put σ 3 (σ2 3)) ++ wSta d2 o2 cI σ2) H := hP
  have hD : va_D A (wSta d o cI (put σ 3 (σ2 3)) ++ wSta d2 o2 cI σ2) := hD
  exact ret_wrv hx hb hr hlocks hP hD hS dX5_copy_9
set_option maxHeartbeats 4000000 in
set_option maxRecDepth 100000 in
theorem M_X5_copy_cracks (l : Launch) (D : va_G) (cI : ClassId) (d : Nat → Nat) (o : Nat) (d2 : Nat → Nat) (o2 : Nat) (σ : St) (σ2 : St) (sz : Nat) : Met l yX5_copy wsX5_copy ({ frames := 1, cells := 0, slots := 0, locals := 40 } : Room) (wrPc [.ref (d 0), .ref (d2 2), .ref (d 2)] D (wSta d o cI σ ++ wSta d2 o2 cI σ2) [(cI, .int)] sz) (wrQv D (wSta d o cI (put σ 4 (σ2 4)) ++ wSta d2 o2 cI σ2) (va_A (wSta d o cI σ ++ wSta d2 o2 cI σ2) sz)) 0 0 (va_A (wSta d o cI σ ++ wSta d2 o2 cI σ2) sz) := by
  refine Met.ofW (cc := cX5_copy) (maxL := 3) (ret := none) (by decide) rfl ?_
  intro p e s m args below meth c s₁ B hml hv
  obtain ⟨hargs, hsz, hP, hK, hD0⟩ := hv
  have hx := B.exec
  have hb := B.bytes
  have hr := B.returns
  have hts := atoms_spec (ws := wsX5_copy) B.pre
  have hown : s.vm.findClass RX5 = some m.cls := findClass_of_methodNamed B.named
  have hlocks := B.notSynchronized
  obtain ⟨_, hN⟩ := id hK
  subst hsz
  have hD := hD0.self (sz := s.heap.size)
  generalize hAe : va_A (wSta d o cI σ ++ wSta d2 o2 cI σ2) s.heap.size = A at hD ⊢
  have hA : ∀ q : Nat, s.heap.size ≤ q → A q := fun q h => by rw [← hAe]; exact Or.inr h
  have hS : va_S A s.heap s.heap [] := va_S.rf
  have hP : va_P D vwCl (wSta d o cI σ ++ wSta d2 o2 cI σ2) s.heap := hP
  refine my_abs (fun Q hQ => ?_)
  obtain ⟨ls, hl, hent⟩ := my_entry (m := m) (n := 3) hargs (Nat.le_of_ble_eq_true rfl)
  rw [hent]
  have hl : lv_has ls 3 [(0, .ref (d 0)), (1, .ref (d2 2)), (2, .ref (d 2))] := hl
  show W p l e ({ frames := 1, cells := 0, slots := 0, locals := 40 } : Room) s m args below meth c s.heap [] 0 0 Q (F0 m 0 ls [])
  refine lv_aload_n hx hb dX5_copy_0 rfl (lv_at hl 1 rfl) ?_
  refine lv_iconst (v := 0) hx hb dX5_copy_1 (by decide) ?_
  refine lv_aload_n hx hb dX5_copy_2 rfl (lv_at hl 2 rfl) ?_
  refine lv_iconst (v := 0) hx hb dX5_copy_3 (by decide) ?_
  refine lv_aload_n hx hb dX5_copy_4 rfl (lv_at hl 1 rfl) ?_
  refine va_alen (v := 36) hx hb hK.1 hP 6 0 rfl (ty := .int) rfl rfl dX5_copy_5 ?_
  refine va_copyi hx hb (by rw [hml]; exact hl.1.symm) hown (hts (.methodLink RX5 29 arraycopyName) (by decide +kernel)) (hts (.native arraycopyName) (by decide +kernel)) (hts (.static arraycopyName) (by decide +kernel)) (hts (.initialized "java/lang/System") (by decide +kernel)) hK.1 hP hD hS 6 2 0 0 rfl rfl rfl rfl rfl (by decide) (by decide) (by decide) (by decide) (by decide) (fun _ _ => rfl) (Nat.le_of_ble_eq_true rfl) (by decide +kernel) dX5_copy_6 (fun H locs hP hD hS => ?_)
  have hP := row_fix hP (q := 2) (f := σ2 4) rfl (fun j hj => cpy_in rfl rfl rfl hj)
  have hD := row_fixD (q := 2) (σ2 4) hD rfl
  have hP : va_P D vwCl (wStaE d o cI (σ 0 0) (σ 17 0) (σ 16 0) (σ 18 0) (σ 3) (σ2 4) (σ 5) (σ 6) (σ 7) (σ 8) (σ 9) (σ 10) (σ 11) (σ 12) (σ 13) ++ wSta d2 o2 cI σ2) H := hP
  have hD : va_D A (wStaE d o cI (σ 0 0) (σ 17 0) (σ 16 0) (σ 18 0) (σ 3) (σ2 4) (σ 5) (σ 6) (σ 7) (σ 8) (σ 9) (σ 10) (σ 11) (σ 12) (σ 13) ++ wSta d2 o2 cI σ2) := hD
  subst hQ
  have hP : va_P D vwCl (wSta d o cI (put σ 4 (σ2 4)) ++ wSta d2 o2 cI σ2) H := hP
  have hD : va_D A (wSta d o cI (put σ 4 (σ2 4)) ++ wSta d2 o2 cI σ2) := hD
  exact ret_wrv hx hb hr hlocks hP hD hS dX5_copy_9
set_option maxHeartbeats 4000000 in
set_option maxRecDepth 100000 in
theorem M_X5_copy_of (l : Launch) (D : va_G) (cI : ClassId) (d : Nat → Nat) (o : Nat) (d2 : Nat → Nat) (o2 : Nat) (σ : St) (σ2 : St) (sz : Nat) : Met l yX5_copy wsX5_copy ({ frames := 1, cells := 0, slots := 0, locals := 40 } : Room) (wrPc [.ref (d 0), .ref (d2 3), .ref (d 3)] D (wSta d o cI σ ++ wSta d2 o2 cI σ2) [(cI, .int)] sz) (wrQv D (wSta d o cI (put (put (put (put (put (put (put (put (put σ 5 (σ2 5)) 6 (σ2 6)) 7 (σ2 7)) 8 (σ2 8)) 9 (σ2 9)) 10 (σ2 10)) 11 (σ2 11)) 12 (σ2 12)) 13 (σ2 13)) ++ wSta d2 o2 cI σ2) (va_A (wSta d o cI σ ++ wSta d2 o2 cI σ2) sz)) 0 0 (va_A (wSta d o cI σ ++ wSta d2 o2 cI σ2) sz) := by
  refine Met.ofW (cc := cX5_copy) (maxL := 3) (ret := none) (by decide) rfl ?_
  intro p e s m args below meth c s₁ B hml hv
  obtain ⟨hargs, hsz, hP, hK, hD0⟩ := hv
  have hx := B.exec
  have hb := B.bytes
  have hr := B.returns
  have hts := atoms_spec (ws := wsX5_copy) B.pre
  have hown : s.vm.findClass RX5 = some m.cls := findClass_of_methodNamed B.named
  have hlocks := B.notSynchronized
  obtain ⟨_, hN⟩ := id hK
  subst hsz
  have hD := hD0.self (sz := s.heap.size)
  generalize hAe : va_A (wSta d o cI σ ++ wSta d2 o2 cI σ2) s.heap.size = A at hD ⊢
  have hA : ∀ q : Nat, s.heap.size ≤ q → A q := fun q h => by rw [← hAe]; exact Or.inr h
  have hS : va_S A s.heap s.heap [] := va_S.rf
  have hP : va_P D vwCl (wSta d o cI σ ++ wSta d2 o2 cI σ2) s.heap := hP
  refine my_abs (fun Q hQ => ?_)
  obtain ⟨ls, hl, hent⟩ := my_entry (m := m) (n := 3) hargs (Nat.le_of_ble_eq_true rfl)
  rw [hent]
  have hl : lv_has ls 3 [(0, .ref (d 0)), (1, .ref (d2 3)), (2, .ref (d 3))] := hl
  show W p l e ({ frames := 1, cells := 0, slots := 0, locals := 40 } : Room) s m args below meth c s.heap [] 0 0 Q (F0 m 0 ls [])
  refine lv_aload_n hx hb dX5_copy_0 rfl (lv_at hl 1 rfl) ?_
  refine lv_iconst (v := 0) hx hb dX5_copy_1 (by decide) ?_
  refine lv_aload_n hx hb dX5_copy_2 rfl (lv_at hl 2 rfl) ?_
  refine lv_iconst (v := 0) hx hb dX5_copy_3 (by decide) ?_
  refine lv_aload_n hx hb dX5_copy_4 rfl (lv_at hl 1 rfl) ?_
  refine va_alen (v := 72) hx hb hK.1 hP 7 0 rfl (ty := .int) rfl rfl dX5_copy_5 ?_
  refine va_copyi hx hb (by rw [hml]; exact hl.1.symm) hown (hts (.methodLink RX5 29 arraycopyName) (by decide +kernel)) (hts (.native arraycopyName) (by decide +kernel)) (hts (.static arraycopyName) (by decide +kernel)) (hts (.initialized "java/lang/System") (by decide +kernel)) hK.1 hP hD hS 7 3 0 0 rfl rfl rfl rfl rfl (by decide) (by decide) (by decide) (by decide) (by decide) (fun _ _ => rfl) (Nat.le_of_ble_eq_true rfl) (by decide +kernel) dX5_copy_6 (fun H locs hP hD hS => ?_)
  have hP := row_fix hP (q := 3) (f := ofC (σ2 5) (σ2 6) (σ2 7) (σ2 8) (σ2 9) (σ2 10) (σ2 11) (σ2 12) (σ2 13)) rfl (fun j hj => cpy_in rfl rfl rfl hj)
  have hD := row_fixD (q := 3) (ofC (σ2 5) (σ2 6) (σ2 7) (σ2 8) (σ2 9) (σ2 10) (σ2 11) (σ2 12) (σ2 13)) hD rfl
  have hP : va_P D vwCl (wStaE d o cI (σ 0 0) (σ 17 0) (σ 16 0) (σ 18 0) (σ 3) (σ 4) (σ2 5) (σ2 6) (σ2 7) (σ2 8) (σ2 9) (σ2 10) (σ2 11) (σ2 12) (σ2 13) ++ wSta d2 o2 cI σ2) H := hP
  have hD : va_D A (wStaE d o cI (σ 0 0) (σ 17 0) (σ 16 0) (σ 18 0) (σ 3) (σ 4) (σ2 5) (σ2 6) (σ2 7) (σ2 8) (σ2 9) (σ2 10) (σ2 11) (σ2 12) (σ2 13) ++ wSta d2 o2 cI σ2) := hD
  subst hQ
  have hP : va_P D vwCl (wSta d o cI (put (put (put (put (put (put (put (put (put σ 5 (σ2 5)) 6 (σ2 6)) 7 (σ2 7)) 8 (σ2 8)) 9 (σ2 9)) 10 (σ2 10)) 11 (σ2 11)) 12 (σ2 12)) 13 (σ2 13)) ++ wSta d2 o2 cI σ2) H := hP
  have hD : va_D A (wSta d o cI (put (put (put (put (put (put (put (put (put σ 5 (σ2 5)) 6 (σ2 6)) 7 (σ2 7)) 8 (σ2 8)) 9 (σ2 9)) 10 (σ2 10)) 11 (σ2 11)) 12 (σ2 12)) 13 (σ2 13)) ++ wSta d2 o2 cI σ2) := hD
  exact ret_wrv hx hb hr hlocks hP hD hS dX5_copy_9
set_option maxHeartbeats 4000000 in
set_option maxRecDepth 100000 in
theorem M_X5_become (l : Launch) (D : va_G) (cI : ClassId) (d : Nat → Nat) (o : Nat) (d2 : Nat → Nat) (o2 : Nat) (σ : St) (σ2 : St) (sz : Nat) : Met l yX5_become wsX5_become ({ frames := 2, cells := 0, slots := 0, locals := 62 } : Room) (wrPc [.ref (d 0), .ref (d2 0)] D (wSta d o cI σ ++ wSta d2 o2 cI σ2) [(cI, .int)] sz) (wrQv D (wSta d o cI σ2 ++ wSta d2 o2 cI σ2) (va_A (wSta d o cI σ ++ wSta d2 o2 cI σ2) sz)) 0 0 (va_A (wSta d o cI σ ++ wSta d2 o2 cI σ2) sz) := by
  refine Met.ofW (cc := cX5_become) (maxL := 2) (ret := none) (by decide) rfl ?_
  intro p e s m args below meth c s₁ B hml hv
  obtain ⟨hargs, hsz, hP, hK, hD0⟩ := hv
  have hx := B.exec
  have hb := B.bytes
  have hr := B.returns
  have hts := atoms_spec (ws := wsX5_become) B.pre
  have hown : s.vm.findClass RX5 = some m.cls := findClass_of_methodNamed B.named
  have hlocks := B.notSynchronized
  obtain ⟨_, hN⟩ := id hK
  have hiX5 : ∀ w ∈ wsX50, w ∈ wsX5_become := by decide +kernel
  subst hsz
  have hD := hD0.self (sz := s.heap.size)
  generalize hAe : va_A (wSta d o cI σ ++ wSta d2 o2 cI σ2) s.heap.size = A at hD ⊢
  have hA : ∀ q : Nat, s.heap.size ≤ q → A q := fun q h => by rw [← hAe]; exact Or.inr h
  have hS : va_S A s.heap s.heap [] := va_S.rf
  have hP : va_P D vwCl (wSta d o cI σ ++ wSta d2 o2 cI σ2) s.heap := hP
  refine my_abs (fun Q hQ => ?_)
  obtain ⟨ls, hl, hent⟩ := my_entry (m := m) (n := 2) hargs (Nat.le_of_ble_eq_true rfl)
  rw [hent]
  have hl : lv_has ls 2 [(0, .ref (d 0)), (1, .ref (d2 0))] := hl
  show W p l e ({ frames := 2, cells := 0, slots := 0, locals := 62 } : Room) s m args below meth c s.heap [] 0 0 Q (F0 m 0 ls [])
  refine lv_aload_n hx hb dX5_become_0 rfl (lv_at hl 0 rfl) ?_
  refine lv_aload_n hx hb dX5_become_1 rfl (lv_at hl 1 rfl) ?_
  refine va_get (D := D) (ci := 5) (v := .int (σ2 0 0)) (C := RX5) (T := TX5) (N := 8) hx hb hts hiX5 hown hK.1 hP 4 rfl rfl 0 (by decide) (hts (.fieldLink RX5 35 "IceLanesModel$State" "hour" "I") (by decide +kernel)) (fun _ h9 => h9) rfl dX5_become_2 ?_
  refine va_put (D := D) (ci := 5) (v := .int (σ2 0 0)) (ty := .int) (C := RX5) (T := TX5) (N := 8) hx hb hts hiX5 tyX5 tyX5_ok nmX5 hown hK.1 hP hD hS 0 rfl rfl 0 (by decide) (hts (.fieldLink RX5 35 "IceLanesModel$State" "hour" "I") (by decide +kernel)) (fun _ h9 => h9) rfl (by decide +kernel) rfl rfl (Nat.le_of_ble_eq_true rfl) dX5_become_5 (fun H locs hP hD hS => ?_)
  have hP : va_P D vwCl (wStaE d o cI (σ2 0 0) (σ 17 0) (σ 16 0) (σ 18 0) (σ 3) (σ 4) (σ 5) (σ 6) (σ 7) (σ 8) (σ 9) (σ 10) (σ 11) (σ 12) (σ 13) ++ wSta d2 o2 cI σ2) H := hP
  have hD : va_D A (wStaE d o cI (σ2 0 0) (σ 17 0) (σ 16 0) (σ 18 0) (σ 3) (σ 4) (σ 5) (σ 6) (σ 7) (σ 8) (σ 9) (σ 10) (σ 11) (σ 12) (σ 13) ++ wSta d2 o2 cI σ2) := hD
  refine lv_aload_n hx hb dX5_become_8 rfl (lv_at hl 0 rfl) ?_
  refine lv_aload_n hx hb dX5_become_9 rfl (lv_at hl 1 rfl) ?_
  refine va_get (D := D) (ci := 5) (v := .int (σ2 17 0)) (C := RX5) (T := TX5) (N := 8) hx hb hts hiX5 hown hK.1 hP 4 rfl rfl 1 (by decide) (hts (.fieldLink RX5 38 "IceLanesModel$State" "couriers" "I") (by decide +kernel)) (fun _ h9 => h9) rfl dX5_become_10 ?_
  refine va_put (D := D) (ci := 5) (v := .int (σ2 17 0)) (ty := .int) (C := RX5) (T := TX5) (N := 8) hx hb hts hiX5 tyX5 tyX5_ok nmX5 hown hK.1 hP hD hS 0 rfl rfl 1 (by decide) (hts (.fieldLink RX5 38 "IceLanesModel$State" "couriers" "I") (by decide +kernel)) (fun _ h9 => h9) rfl (by decide +kernel) rfl rfl (Nat.le_of_ble_eq_true rfl) dX5_become_13 (fun H locs hP hD hS => ?_)
  have hP : va_P D vwCl (wStaE d o cI (σ2 0 0) (σ2 17 0) (σ 16 0) (σ 18 0) (σ 3) (σ 4) (σ 5) (σ 6) (σ 7) (σ 8) (σ 9) (σ 10) (σ 11) (σ 12) (σ 13) ++ wSta d2 o2 cI σ2) H := hP
  have hD : va_D A (wStaE d o cI (σ2 0 0) (σ2 17 0) (σ 16 0) (σ 18 0) (σ 3) (σ 4) (σ 5) (σ 6) (σ 7) (σ 8) (σ 9) (σ 10) (σ 11) (σ 12) (σ 13) ++ wSta d2 o2 cI σ2) := hD
  refine lv_aload_n hx hb dX5_become_16 rfl (lv_at hl 0 rfl) ?_
  refine lv_aload_n hx hb dX5_become_17 rfl (lv_at hl 1 rfl) ?_
  refine va_get (D := D) (ci := 5) (v := .int (σ2 16 0)) (C := RX5) (T := TX5) (N := 8) hx hb hts hiX5 hown hK.1 hP 4 rfl rfl 2 (by decide) (hts (.fieldLink RX5 15 "IceLanesModel$State" "thawed" "I") (by decide +kernel)) (fun _ h9 => h9) rfl dX5_become_18 ?_
  refine va_put (D := D) (ci := 5) (v := .int (σ2 16 0)) (ty := .int) (C := RX5) (T := TX5) (N := 8) hx hb hts hiX5 tyX5 tyX5_ok nmX5 hown hK.1 hP hD hS 0 rfl rfl 2 (by decide) (hts (.fieldLink RX5 15 "IceLanesModel$State" "thawed" "I") (by decide +kernel)) (fun _ h9 => h9) rfl (by decide +kernel) rfl rfl (Nat.le_of_ble_eq_true rfl) dX5_become_21 (fun H locs hP hD hS => ?_)
  have hP : va_P D vwCl (wStaE d o cI (σ2 0 0) (σ2 17 0) (σ2 16 0) (σ 18 0) (σ 3) (σ 4) (σ 5) (σ 6) (σ 7) (σ 8) (σ 9) (σ 10) (σ 11) (σ 12) (σ 13) ++ wSta d2 o2 cI σ2) H := hP
  have hD : va_D A (wStaE d o cI (σ2 0 0) (σ2 17 0) (σ2 16 0) (σ 18 0) (σ 3) (σ 4) (σ 5) (σ 6) (σ 7) (σ 8) (σ 9) (σ 10) (σ 11) (σ 12) (σ 13) ++ wSta d2 o2 cI σ2) := hD
  refine lv_aload_n hx hb dX5_become_24 rfl (lv_at hl 0 rfl) ?_
  refine lv_aload_n hx hb dX5_become_25 rfl (lv_at hl 1 rfl) ?_
  refine va_get (D := D) (ci := 5) (v := .int (σ2 18 0)) (C := RX5) (T := TX5) (N := 8) hx hb hts hiX5 hown hK.1 hP 4 rfl rfl 3 (by decide) (hts (.fieldLink RX5 41 "IceLanesModel$State" "came" "I") (by decide +kernel)) (fun _ h9 => h9) rfl dX5_become_26 ?_
  refine va_put (D := D) (ci := 5) (v := .int (σ2 18 0)) (ty := .int) (C := RX5) (T := TX5) (N := 8) hx hb hts hiX5 tyX5 tyX5_ok nmX5 hown hK.1 hP hD hS 0 rfl rfl 3 (by decide) (hts (.fieldLink RX5 41 "IceLanesModel$State" "came" "I") (by decide +kernel)) (fun _ h9 => h9) rfl (by decide +kernel) rfl rfl (Nat.le_of_ble_eq_true rfl) dX5_become_29 (fun H locs hP hD hS => ?_)
  have hP : va_P D vwCl (wStaE d o cI (σ2 0 0) (σ2 17 0) (σ2 16 0) (σ2 18 0) (σ 3) (σ 4) (σ 5) (σ 6) (σ 7) (σ 8) (σ 9) (σ 10) (σ 11) (σ 12) (σ 13) ++ wSta d2 o2 cI σ2) H := hP
  have hD : va_D A (wStaE d o cI (σ2 0 0) (σ2 17 0) (σ2 16 0) (σ2 18 0) (σ 3) (σ 4) (σ 5) (σ 6) (σ 7) (σ 8) (σ 9) (σ 10) (σ 11) (σ 12) (σ 13) ++ wSta d2 o2 cI σ2) := hD
  refine lv_aload_n hx hb dX5_become_32 rfl (lv_at hl 0 rfl) ?_
  refine lv_aload_n hx hb dX5_become_33 rfl (lv_at hl 1 rfl) ?_
  refine va_get (D := D) (ci := 5) (v := .ref (d2 1)) (C := RX5) (T := TX5) (N := 8) hx hb hts hiX5 hown hK.1 hP 4 rfl rfl 4 (by decide) (hts (.fieldLink RX5 19 "IceLanesModel$State" "ice" "[I") (by decide +kernel)) (fun _ h9 => h9) rfl dX5_become_34 ?_
  refine lv_aload_n hx hb dX5_become_37 rfl (lv_at hl 0 rfl) ?_
  refine va_get (D := D) (ci := 5) (v := .ref (d 1)) (C := RX5) (T := TX5) (N := 8) hx hb hts hiX5 hown hK.1 hP 0 rfl rfl 4 (by decide) (hts (.fieldLink RX5 19 "IceLanesModel$State" "ice" "[I") (by decide +kernel)) (fun _ h9 => h9) rfl dX5_become_38 ?_
  refine wr_v (wn := wStaE d o cI (σ2 0 0) (σ2 17 0) (σ2 16 0) (σ2 18 0) (σ2 3) (σ 4) (σ 5) (σ 6) (σ 7) (σ 8) (σ 9) (σ 10) (σ 11) (σ 12) (σ 13) ++ wSta d2 o2 cI σ2) (va_runV (As := [.ref (d2 1), .ref (d 1)]) (rest := []) ⟨hx, hb, hml, hown, hts⟩ (M_X5_copy_ice l D cI d o d2 o2 (put (put (put (put σ 0 (fun _ => σ2 0 0)) 16 (fun _ => σ2 16 0)) 17 (fun _ => σ2 17 0)) 18 (fun _ => σ2 18 0)) σ2 _ ) (cwV 2 hts gX5_become_X5_copy rfl rfl rfl (by decide +kernel) ⟨Nat.le_of_ble_eq_true rfl, Nat.le_of_ble_eq_true rfl⟩) (wrV hK hP hD [0, 1, 2, 3, 4, 5, 6, 7] [0] rfl rfl rfl (ci := 5) (q0 := 0) rfl rfl) rfl rfl hl.1 rfl (lv_room (Nat.le_of_ble_eq_true rfl)) dX5_become_41 ⟨Nat.le_of_ble_eq_true rfl, Nat.le_of_ble_eq_true rfl⟩) hP hD hS hA [0, 1, 2, 3, 4, 5, 6, 7] [] [0, 1, 2, 3, 4, 5, 6, 7] rfl rfl rfl rfl rfl rfl (fun H locs hP hD hS => ?_)
  refine lv_aload_n hx hb dX5_become_44 rfl (lv_at hl 0 rfl) ?_
  refine lv_aload_n hx hb dX5_become_45 rfl (lv_at hl 1 rfl) ?_
  refine va_get (D := D) (ci := 5) (v := .ref (d2 2)) (C := RX5) (T := TX5) (N := 8) hx hb hts hiX5 hown hK.1 hP 4 rfl rfl 5 (by decide) (hts (.fieldLink RX5 23 "IceLanesModel$State" "cracks" "[I") (by decide +kernel)) (fun _ h9 => h9) rfl dX5_become_46 ?_
  refine lv_aload_n hx hb dX5_become_49 rfl (lv_at hl 0 rfl) ?_
  refine va_get (D := D) (ci := 5) (v := .ref (d 2)) (C := RX5) (T := TX5) (N := 8) hx hb hts hiX5 hown hK.1 hP 0 rfl rfl 5 (by decide) (hts (.fieldLink RX5 23 "IceLanesModel$State" "cracks" "[I") (by decide +kernel)) (fun _ h9 => h9) rfl dX5_become_50 ?_
  refine wr_v (wn := wStaE d o cI (σ2 0 0) (σ2 17 0) (σ2 16 0) (σ2 18 0) (σ2 3) (σ2 4) (σ 5) (σ 6) (σ 7) (σ 8) (σ 9) (σ 10) (σ 11) (σ 12) (σ 13) ++ wSta d2 o2 cI σ2) (va_runV (As := [.ref (d2 2), .ref (d 2)]) (rest := []) ⟨hx, hb, hml, hown, hts⟩ (M_X5_copy_cracks l D cI d o d2 o2 (put (put (put (put (put σ 0 (fun _ => σ2 0 0)) 3 (σ2 3)) 16 (fun _ => σ2 16 0)) 17 (fun _ => σ2 17 0)) 18 (fun _ => σ2 18 0)) σ2 _ ) (cwV 2 hts gX5_become_X5_copy rfl rfl rfl (by decide +kernel) ⟨Nat.le_of_ble_eq_true rfl, Nat.le_of_ble_eq_true rfl⟩) (wrV hK hP hD [0, 1, 2, 3, 4, 5, 6, 7] [0] rfl rfl rfl (ci := 5) (q0 := 0) rfl rfl) rfl rfl hl.1 rfl (lv_room (Nat.le_of_ble_eq_true rfl)) dX5_become_53 ⟨Nat.le_of_ble_eq_true rfl, Nat.le_of_ble_eq_true rfl⟩) hP hD hS hA [0, 1, 2, 3, 4, 5, 6, 7] [] [0, 1, 2, 3, 4, 5, 6, 7] rfl rfl rfl rfl rfl rfl (fun H locs hP hD hS => ?_)
  refine lv_aload_n hx hb dX5_become_56 rfl (lv_at hl 0 rfl) ?_
  refine lv_aload_n hx hb dX5_become_57 rfl (lv_at hl 1 rfl) ?_
  refine va_get (D := D) (ci := 5) (v := .ref (d2 3)) (C := RX5) (T := TX5) (N := 8) hx hb hts hiX5 hown hK.1 hP 4 rfl rfl 6 (by decide) (hts (.fieldLink RX5 26 "IceLanesModel$State" "of" "[I") (by decide +kernel)) (fun _ h9 => h9) rfl dX5_become_58 ?_
  refine lv_aload_n hx hb dX5_become_61 rfl (lv_at hl 0 rfl) ?_
  refine va_get (D := D) (ci := 5) (v := .ref (d 3)) (C := RX5) (T := TX5) (N := 8) hx hb hts hiX5 hown hK.1 hP 0 rfl rfl 6 (by decide) (hts (.fieldLink RX5 26 "IceLanesModel$State" "of" "[I") (by decide +kernel)) (fun _ h9 => h9) rfl dX5_become_62 ?_
  refine wr_v (wn := wStaE d o cI (σ2 0 0) (σ2 17 0) (σ2 16 0) (σ2 18 0) (σ2 3) (σ2 4) (σ2 5) (σ2 6) (σ2 7) (σ2 8) (σ2 9) (σ2 10) (σ2 11) (σ2 12) (σ2 13) ++ wSta d2 o2 cI σ2) (va_runV (As := [.ref (d2 3), .ref (d 3)]) (rest := []) ⟨hx, hb, hml, hown, hts⟩ (M_X5_copy_of l D cI d o d2 o2 (put (put (put (put (put (put σ 0 (fun _ => σ2 0 0)) 3 (σ2 3)) 4 (σ2 4)) 16 (fun _ => σ2 16 0)) 17 (fun _ => σ2 17 0)) 18 (fun _ => σ2 18 0)) σ2 _ ) (cwV 2 hts gX5_become_X5_copy rfl rfl rfl (by decide +kernel) ⟨Nat.le_of_ble_eq_true rfl, Nat.le_of_ble_eq_true rfl⟩) (wrV hK hP hD [0, 1, 2, 3, 4, 5, 6, 7] [0] rfl rfl rfl (ci := 5) (q0 := 0) rfl rfl) rfl rfl hl.1 rfl (lv_room (Nat.le_of_ble_eq_true rfl)) dX5_become_65 ⟨Nat.le_of_ble_eq_true rfl, Nat.le_of_ble_eq_true rfl⟩) hP hD hS hA [0, 1, 2, 3, 4, 5, 6, 7] [] [0, 1, 2, 3, 4, 5, 6, 7] rfl rfl rfl rfl rfl rfl (fun H locs hP hD hS => ?_)
  subst hQ
  have hP : va_P D vwCl (wSta d o cI (put (put (put (put (put (put (put (put (put (put (put (put (put (put (put σ 0 (fun _ => σ2 0 0)) 3 (σ2 3)) 4 (σ2 4)) 5 (σ2 5)) 6 (σ2 6)) 7 (σ2 7)) 8 (σ2 8)) 9 (σ2 9)) 10 (σ2 10)) 11 (σ2 11)) 12 (σ2 12)) 13 (σ2 13)) 16 (fun _ => σ2 16 0)) 17 (fun _ => σ2 17 0)) 18 (fun _ => σ2 18 0)) ++ wSta d2 o2 cI σ2) H := hP
  have hD : va_D A (wSta d o cI (put (put (put (put (put (put (put (put (put (put (put (put (put (put (put σ 0 (fun _ => σ2 0 0)) 3 (σ2 3)) 4 (σ2 4)) 5 (σ2 5)) 6 (σ2 6)) 7 (σ2 7)) 8 (σ2 8)) 9 (σ2 9)) 10 (σ2 10)) 11 (σ2 11)) 12 (σ2 12)) 13 (σ2 13)) 16 (fun _ => σ2 16 0)) 17 (fun _ => σ2 17 0)) 18 (fun _ => σ2 18 0)) ++ wSta d2 o2 cI σ2) := hD
  have hP : va_P D vwCl (wSta d o cI σ2 ++ wSta d2 o2 cI σ2) H := hP
  have hD : va_D A (wSta d o cI σ2 ++ wSta d2 o2 cI σ2) := hD
  exact ret_wrv hx hb hr hlocks hP hD hS dX5_become_68
