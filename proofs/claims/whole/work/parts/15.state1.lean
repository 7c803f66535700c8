set_option maxHeartbeats 4000000 in
set_option maxRecDepth 100000 in
theorem M_X5_get (l : Launch) (D : va_G) (cI : ClassId) (d : Nat → Nat) (o : Nat) (σ : St) (cu : Nat) (w : Nat) (hcu : cu < 8) (hw : w < 9) : Met l yX5_get wsX5_get ({ frames := 0, cells := 0, slots := 0, locals := 0 } : Room) (rdPc [.ref (d 0), .int (nI cu), .int (nI w)] D (wSta d o cI σ) [(cI, .int)]) (rdQi (tellF σ cu w)) 0 0 (fun _ => False) := by
  refine Met.ofW (cc := cX5_get) (maxL := 3) (ret := (some .int)) (by decide) rfl ?_
  intro p e s m args below meth c s₁ B hml hv
  obtain ⟨hargs, hP, hK⟩ := hv
  have hx := B.exec
  have hb := B.bytes
  have hr := B.returns
  have hts := atoms_spec (ws := wsX5_get) B.pre
  have hown : s.vm.findClass RX5 = some m.cls := findClass_of_methodNamed B.named
  have hlocks := B.notSynchronized
  obtain ⟨_, hN⟩ := id hK
  have hiX5 : ∀ w ∈ wsX50, w ∈ wsX5_get := by decide +kernel
  refine my_abs (fun Q hQ => ?_)
  obtain ⟨ls, hl, hent⟩ := my_entry (m := m) (n := 3) hargs (Nat.le_of_ble_eq_true rfl)
  rw [hent]
  have hl : lv_has ls 3 [(0, .ref (d 0)), (1, .int (nI cu)), (2, .int (nI w))] := hl
  show W p l e ({ frames := 0, cells := 0, slots := 0, locals := 0 } : Room) s m args below meth c s.heap [] 0 0 Q (F0 m 0 ls [])
  refine lv_aload_n hx hb dX5_get_0 rfl (lv_at hl 0 rfl) ?_
  refine va_get (D := D) (ci := 5) (v := .ref (d 3)) (C := RX5) (T := TX5) (N := 8) hx hb hts hiX5 hown hK.1 hP 0 rfl rfl 6 (by decide) (hts (.fieldLink RX5 26 "IceLanesModel$State" "of" "[I") (by decide +kernel)) (fun _ h9 => h9) rfl dX5_get_1 ?_
  refine lv_bipush (v := 9) hx hb dX5_get_4 (by decide) ?_
  refine lv_iload_n hx hb dX5_get_6 rfl (lv_at hl 1 rfl) ?_
  refine lv_imul hx hb dX5_get_7 ?_
  refine lv_iload_n hx hb dX5_get_8 rfl (lv_at hl 2 rfl) ?_
  refine lv_iadd hx hb dX5_get_9 ?_
  rw [ix_nI]
  refine va_iald hx hb hK.1 hP 3 0 rfl rfl (by first | assumption | exact vp_in_nI (by omega) (by decide)) dX5_get_10 ?_
  rw [nI_clamp (n := (9 * cu + w)) (by omega)]
  subst hQ
  exact ret_rdi hx hb hr rfl hlocks (show (ofC (σ 5) (σ 6) (σ 7) (σ 8) (σ 9) (σ 10) (σ 11) (σ 12) (σ 13)) (9 * cu + w) = tellF σ cu w from (ofC_tell σ cu w hw)) dX5_get_11
set_option maxHeartbeats 4000000 in
set_option maxRecDepth 100000 in
theorem M_X5_set_1 (l : Launch) (D : va_G) (cI : ClassId) (d : Nat → Nat) (o : Nat) (σ : St) (cu : Nat) (v : Int32) (sz : Nat) (hcu : cu < 8) : Met l yX5_set wsX5_set ({ frames := 0, cells := 0, slots := 0, locals := 0 } : Room) (wrPc [.ref (d 0), .int (nI cu), .int 1, .int v] D (wSta d o cI σ) [(cI, .int)] sz) (wrQv D (wSta d o cI (put σ 6 (upd (σ 6) cu v))) (va_A (wSta d o cI σ) sz)) 0 0 (va_A (wSta d o cI σ) sz) := by
  refine Met.ofW (cc := cX5_set) (maxL := 4) (ret := none) (by decide) rfl ?_
  intro p e s m args below meth c s₁ B hml hv
  obtain ⟨hargs, hsz, hP, hK, hD0⟩ := hv
  have hx := B.exec
  have hb := B.bytes
  have hr := B.returns
  have hts := atoms_spec (ws := wsX5_set) B.pre
  have hown : s.vm.findClass RX5 = some m.cls := findClass_of_methodNamed B.named
  have hlocks := B.notSynchronized
  obtain ⟨_, hN⟩ := id hK
  have hiX5 : ∀ w ∈ wsX50, w ∈ wsX5_set := by decide +kernel
  subst hsz
  have hD := hD0.self (sz := s.heap.size)
  generalize hAe : va_A (wSta d o cI σ) s.heap.size = A at hD ⊢
  have hA : ∀ q : Nat, s.heap.size ≤ q → A q := fun q h => by rw [← hAe]; exact Or.inr h
  have hS : va_S A s.heap s.heap [] := va_S.rf
  have hP : va_P D vwCl (wSta d o cI σ) s.heap := hP
  refine my_abs (fun Q hQ => ?_)
  obtain ⟨ls, hl, hent⟩ := my_entry (m := m) (n := 4) hargs (Nat.le_of_ble_eq_true rfl)
  rw [hent]
  have hl : lv_has ls 4 [(0, .ref (d 0)), (1, .int (nI cu)), (2, .int 1), (3, .int v)] := hl
  show W p l e ({ frames := 0, cells := 0, slots := 0, locals := 0 } : Room) s m args below meth c s.heap [] 0 0 Q (F0 m 0 ls [])
  refine lv_aload_n hx hb dX5_set_0 rfl (lv_at hl 0 rfl) ?_
  refine va_get (D := D) (ci := 5) (v := .ref (d 3)) (C := RX5) (T := TX5) (N := 8) hx hb hts hiX5 hown hK.1 hP 0 rfl rfl 6 (by decide) (hts (.fieldLink RX5 26 "IceLanesModel$State" "of" "[I") (by decide +kernel)) (fun _ h9 => h9) rfl dX5_set_1 ?_
  refine lv_bipush (v := 9) hx hb dX5_set_4 (by decide) ?_
  refine lv_iload_n hx hb dX5_set_6 rfl (lv_at hl 1 rfl) ?_
  refine lv_imul hx hb dX5_set_7 ?_
  refine lv_iload_n hx hb dX5_set_8 rfl (lv_at hl 2 rfl) ?_
  refine lv_iadd hx hb dX5_set_9 ?_
  rw [show 9 * nI cu + 1 = nI (9 * cu + 1) from ix_nI cu 1]
  refine lv_iload_n hx hb dX5_set_10 rfl (lv_at hl 3 rfl) ?_
  refine va_iast hx hb hK.1 hP hD hS 3 0 rfl rfl (by first | assumption | exact vp_in_nI (by omega) (by decide)) dX5_set_11 (fun H locs hP hD hS => ?_)
  rw [nI_clamp (n := 9 * cu + 1) (by omega), ofC_1] at hP hD
  have hP : va_P D vwCl (wStaE d o cI (σ 0 0) (σ 17 0) (σ 16 0) (σ 18 0) (σ 3) (σ 4) (σ 5) (upd (σ 6) cu v) (σ 7) (σ 8) (σ 9) (σ 10) (σ 11) (σ 12) (σ 13)) H := hP
  have hD : va_D A (wStaE d o cI (σ 0 0) (σ 17 0) (σ 16 0) (σ 18 0) (σ 3) (σ 4) (σ 5) (upd (σ 6) cu v) (σ 7) (σ 8) (σ 9) (σ 10) (σ 11) (σ 12) (σ 13)) := hD
  subst hQ
  have hP : va_P D vwCl (wSta d o cI (put σ 6 (upd (σ 6) cu v))) H := hP
  have hD : va_D A (wSta d o cI (put σ 6 (upd (σ 6) cu v))) := hD
  exact ret_wrv hx hb hr hlocks hP hD hS dX5_set_12
set_option maxHeartbeats 4000000 in
set_option maxRecDepth 100000 in
theorem M_X5_set_2 (l : Launch) (D : va_G) (cI : ClassId) (d : Nat → Nat) (o : Nat) (σ : St) (cu : Nat) (v : Int32) (sz : Nat) (hcu : cu < 8) : Met l yX5_set wsX5_set ({ frames := 0, cells := 0, slots := 0, locals := 0 } : Room) (wrPc [.ref (d 0), .int (nI cu), .int 2, .int v] D (wSta d o cI σ) [(cI, .int)] sz) (wrQv D (wSta d o cI (put σ 7 (upd (σ 7) cu v))) (va_A (wSta d o cI σ) sz)) 0 0 (va_A (wSta d o cI σ) sz) := by
  refine Met.ofW (cc := cX5_set) (maxL := 4) (ret := none) (by decide) rfl ?_
  intro p e s m args below meth c s₁ B hml hv
  obtain ⟨hargs, hsz, hP, hK, hD0⟩ := hv
  have hx := B.exec
  have hb := B.bytes
  have hr := B.returns
  have hts := atoms_spec (ws := wsX5_set) B.pre
  have hown : s.vm.findClass RX5 = some m.cls := findClass_of_methodNamed B.named
  have hlocks := B.notSynchronized
  obtain ⟨_, hN⟩ := id hK
  have hiX5 : ∀ w ∈ wsX50, w ∈ wsX5_set := by decide +kernel
  subst hsz
  have hD := hD0.self (sz := s.heap.size)
  generalize hAe : va_A (wSta d o cI σ) s.heap.size = A at hD ⊢
  have hA : ∀ q : Nat, s.heap.size ≤ q → A q := fun q h => by rw [← hAe]; exact Or.inr h
  have hS : va_S A s.heap s.heap [] := va_S.rf
  have hP : va_P D vwCl (wSta d o cI σ) s.heap := hP
  refine my_abs (fun Q hQ => ?_)
  obtain ⟨ls, hl, hent⟩ := my_entry (m := m) (n := 4) hargs (Nat.le_of_ble_eq_true rfl)
  rw [hent]
  have hl : lv_has ls 4 [(0, .ref (d 0)), (1, .int (nI cu)), (2, .int 2), (3, .int v)] := hl
  show W p l e ({ frames := 0, cells := 0, slots := 0, locals := 0 } : Room) s m args below meth c s.heap [] 0 0 Q (F0 m 0 ls [])
  refine lv_aload_n hx hb dX5_set_0 rfl (lv_at hl 0 rfl) ?_
  refine va_get (D := D) (ci := 5) (v := .ref (d 3)) (C := RX5) (T := TX5) (N := 8) hx hb hts hiX5 hown hK.1 hP 0 rfl rfl 6 (by decide) (hts (.fieldLink RX5 26 "IceLanesModel$State" "of" "[I") (by decide +kernel)) (fun _ h9 => h9) rfl dX5_set_1 ?_
  refine lv_bipush (v := 9) hx hb dX5_set_4 (by decide) ?_
  refine lv_iload_n hx hb dX5_set_6 rfl (lv_at hl 1 rfl) ?_
  refine lv_imul hx hb dX5_set_7 ?_
  refine lv_iload_n hx hb dX5_set_8 rfl (lv_at hl 2 rfl) ?_
  refine lv_iadd hx hb dX5_set_9 ?_
  rw [show 9 * nI cu + 2 = nI (9 * cu + 2) from ix_nI cu 2]
  refine lv_iload_n hx hb dX5_set_10 rfl (lv_at hl 3 rfl) ?_
  refine va_iast hx hb hK.1 hP hD hS 3 0 rfl rfl (by first | assumption | exact vp_in_nI (by omega) (by decide)) dX5_set_11 (fun H locs hP hD hS => ?_)
  rw [nI_clamp (n := 9 * cu + 2) (by omega), ofC_2] at hP hD
  have hP : va_P D vwCl (wStaE d o cI (σ 0 0) (σ 17 0) (σ 16 0) (σ 18 0) (σ 3) (σ 4) (σ 5) (σ 6) (upd (σ 7) cu v) (σ 8) (σ 9) (σ 10) (σ 11) (σ 12) (σ 13)) H := hP
  have hD : va_D A (wStaE d o cI (σ 0 0) (σ 17 0) (σ 16 0) (σ 18 0) (σ 3) (σ 4) (σ 5) (σ 6) (upd (σ 7) cu v) (σ 8) (σ 9) (σ 10) (σ 11) (σ 12) (σ 13)) := hD
  subst hQ
  have hP : va_P D vwCl (wSta d o cI (put σ 7 (upd (σ 7) cu v))) H := hP
  have hD : va_D A (wSta d o cI (put σ 7 (upd (σ 7) cu v))) := hD
  exact ret_wrv hx hb hr hlocks hP hD hS dX5_set_12
set_option maxHeartbeats 4000000 in
set_option maxRecDepth 100000 in
theorem M_X5_set_3 (l : Launch) (D : va_G) (cI : ClassId) (d : Nat → Nat) (o : Nat) (σ : St) (cu : Nat) (v : Int32) (sz : Nat) (hcu : cu < 8) : Met l yX5_set wsX5_set ({ frames := 0, cells := 0, slots := 0, locals := 0 } : Room) (wrPc [.ref (d 0), .int (nI cu), .int 3, .int v] D (wSta d o cI σ) [(cI, .int)] sz) (wrQv D (wSta d o cI (put σ 8 (upd (σ 8) cu v))) (va_A (wSta d o cI σ) sz)) 0 0 (va_A (wSta d o cI σ) sz) := by
  refine Met.ofW (cc := cX5_set) (maxL := 4) (ret := none) (by decide) rfl ?_
  intro p e s m args below meth c s₁ B hml hv
  obtain ⟨hargs, hsz, hP, hK, hD0⟩ := hv
  have hx := B.exec
  have hb := B.bytes
  have hr := B.returns
  have hts := atoms_spec (ws := wsX5_set) B.pre
  have hown : s.vm.findClass RX5 = some m.cls := findClass_of_methodNamed B.named
  have hlocks := B.notSynchronized
  obtain ⟨_, hN⟩ := id hK
  have hiX5 : ∀ w ∈ wsX50, w ∈ wsX5_set := by decide +kernel
  subst hsz
  have hD := hD0.self (sz := s.heap.size)
  generalize hAe : va_A (wSta d o cI σ) s.heap.size = A at hD ⊢
  have hA : ∀ q : Nat, s.heap.size ≤ q → A q := fun q h => by rw [← hAe]; exact Or.inr h
  have hS : va_S A s.heap s.heap [] := va_S.rf
  have hP : va_P D vwCl (wSta d o cI σ) s.heap := hP
  refine my_abs (fun Q hQ => ?_)
  obtain ⟨ls, hl, hent⟩ := my_entry (m := m) (n := 4) hargs (Nat.le_of_ble_eq_true rfl)
  rw [hent]
  have hl : lv_has ls 4 [(0, .ref (d 0)), (1, .int (nI cu)), (2, .int 3), (3, .int v)] := hl
  show W p l e ({ frames := 0, cells := 0, slots := 0, locals := 0 } : Room) s m args below meth c s.heap [] 0 0 Q (F0 m 0 ls [])
  refine lv_aload_n hx hb dX5_set_0 rfl (lv_at hl 0 rfl) ?_
  refine va_get (D := D) (ci := 5) (v := .ref (d 3)) (C := RX5) (T := TX5) (N := 8) hx hb hts hiX5 hown hK.1 hP 0 rfl rfl 6 (by decide) (hts (.fieldLink RX5 26 "IceLanesModel$State" "of" "[I") (by decide +kernel)) (fun _ h9 => h9) rfl dX5_set_1 ?_
  refine lv_bipush (v := 9) hx hb dX5_set_4 (by decide) ?_
  refine lv_iload_n hx hb dX5_set_6 rfl (lv_at hl 1 rfl) ?_
  refine lv_imul hx hb dX5_set_7 ?_
  refine lv_iload_n hx hb dX5_set_8 rfl (lv_at hl 2 rfl) ?_
  refine lv_iadd hx hb dX5_set_9 ?_
  rw [show 9 * nI cu + 3 = nI (9 * cu + 3) from ix_nI cu 3]
  refine lv_iload_n hx hb dX5_set_10 rfl (lv_at hl 3 rfl) ?_
  refine va_iast hx hb hK.1 hP hD hS 3 0 rfl rfl (by first | assumption | exact vp_in_nI (by omega) (by decide)) dX5_set_11 (fun H locs hP hD hS => ?_)
  rw [nI_clamp (n := 9 * cu + 3) (by omega), ofC_3] at hP hD
  have hP : va_P D vwCl (wStaE d o cI (σ 0 0) (σ 17 0) (σ 16 0) (σ 18 0) (σ 3) (σ 4) (σ 5) (σ 6) (σ 7) (upd (σ 8) cu v) (σ 9) (σ 10) (σ 11) (σ 12) (σ 13)) H := hP
  have hD : va_D A (wStaE d o cI (σ 0 0) (σ 17 0) (σ 16 0) (σ 18 0) (σ 3) (σ 4) (σ 5) (σ 6) (σ 7) (upd (σ 8) cu v) (σ 9) (σ 10) (σ 11) (σ 12) (σ 13)) := hD
  subst hQ
  have hP : va_P D vwCl (wSta d o cI (put σ 8 (upd (σ 8) cu v))) H := hP
  have hD : va_D A (wSta d o cI (put σ 8 (upd (σ 8) cu v))) := hD
  exact ret_wrv hx hb hr hlocks hP hD hS dX5_set_12
set_option maxHeartbeats 4000000 in
set_option maxRecDepth 100000 in
theorem M_X5_set_4 (l : Launch) (D : va_G) (cI : ClassId) (d : Nat → Nat) (o : Nat) (σ : St) (cu : Nat) (v : Int32) (sz : Nat) (hcu : cu < 8) : Met l yX5_set wsX5_set ({ frames := 0, cells := 0, slots := 0, locals := 0 } : Room) (wrPc [.ref (d 0), .int (nI cu), .int 4, .int v] D (wSta d o cI σ) [(cI, .int)] sz) (wrQv D (wSta d o cI (put σ 9 (upd (σ 9) cu v))) (va_A (wSta d o cI σ) sz)) 0 0 (va_A (wSta d o cI σ) sz) := by
  refine Met.ofW (cc := cX5_set) (maxL := 4) (ret := none) (by decide) rfl ?_
  intro p e s m args below meth c s₁ B hml hv
  obtain ⟨hargs, hsz, hP, hK, hD0⟩ := hv
  have hx := B.exec
  have hb := B.bytes
  have hr := B.returns
  have hts := atoms_spec (ws := wsX5_set) B.pre
  have hown : s.vm.findClass RX5 = some m.cls := findClass_of_methodNamed B.named
  have hlocks := B.notSynchronized
  obtain ⟨_, hN⟩ := id hK
  have hiX5 : ∀ w ∈ wsX50, w ∈ wsX5_set := by decide +kernel
  subst hsz
  have hD := hD0.self (sz := s.heap.size)
  generalize hAe : va_A (wSta d o cI σ) s.heap.size = A at hD ⊢
  have hA : ∀ q : Nat, s.heap.size ≤ q → A q := fun q h => by rw [← hAe]; exact Or.inr h
  have hS : va_S A s.heap s.heap [] := va_S.rf
  have hP : va_P D vwCl (wSta d o cI σ) s.heap := hP
  refine my_abs (fun Q hQ => ?_)
  obtain ⟨ls, hl, hent⟩ := my_entry (m := m) (n := 4) hargs (Nat.le_of_ble_eq_true rfl)
  rw [hent]
  have hl : lv_has ls 4 [(0, .ref (d 0)), (1, .int (nI cu)), (2, .int 4), (3, .int v)] := hl
  show W p l e ({ frames := 0, cells := 0, slots := 0, locals := 0 } : Room) s m args below meth c s.heap [] 0 0 Q (F0 m 0 ls [])
  refine lv_aload_n hx hb dX5_set_0 rfl (lv_at hl 0 rfl) ?_
  refine va_get (D := D) (ci := 5) (v := .ref (d 3)) (C := RX5) (T := TX5) (N := 8) hx hb hts hiX5 hown hK.1 hP 0 rfl rfl 6 (by decide) (hts (.fieldLink RX5 26 "IceLanesModel$State" "of" "[I") (by decide +kernel)) (fun _ h9 => h9) rfl dX5_set_1 ?_
  refine lv_bipush (v := 9) hx hb dX5_set_4 (by decide) ?_
  refine lv_iload_n hx hb dX5_set_6 rfl (lv_at hl 1 rfl) ?_
  refine lv_imul hx hb dX5_set_7 ?_
  refine lv_iload_n hx hb dX5_set_8 rfl (lv_at hl 2 rfl) ?_
  refine lv_iadd hx hb dX5_set_9 ?_
  rw [show 9 * nI cu + 4 = nI (9 * cu + 4) from ix_nI cu 4]
  refine lv_iload_n hx hb dX5_set_10 rfl (lv_at hl 3 rfl) ?_
  refine va_iast hx hb hK.1 hP hD hS 3 0 rfl rfl (by first | assumption | exact vp_in_nI (by omega) (by decide)) dX5_set_11 (fun H locs hP hD hS => ?_)
  rw [nI_clamp (n := 9 * cu + 4) (by omega), ofC_4] at hP hD
  have hP : va_P D vwCl (wStaE d o cI (σ 0 0) (σ 17 0) (σ 16 0) (σ 18 0) (σ 3) (σ 4) (σ 5) (σ 6) (σ 7) (σ 8) (upd (σ 9) cu v) (σ 10) (σ 11) (σ 12) (σ 13)) H := hP
  have hD : va_D A (wStaE d o cI (σ 0 0) (σ 17 0) (σ 16 0) (σ 18 0) (σ 3) (σ 4) (σ 5) (σ 6) (σ 7) (σ 8) (upd (σ 9) cu v) (σ 10) (σ 11) (σ 12) (σ 13)) := hD
  subst hQ
  have hP : va_P D vwCl (wSta d o cI (put σ 9 (upd (σ 9) cu v))) H := hP
  have hD : va_D A (wSta d o cI (put σ 9 (upd (σ 9) cu v))) := hD
  exact ret_wrv hx hb hr hlocks hP hD hS dX5_set_12
set_option maxHeartbeats 4000000 in
set_option maxRecDepth 100000 in
theorem M_X5_set_5 (l : Launch) (D : va_G) (cI : ClassId) (d : Nat → Nat) (o : Nat) (σ : St) (cu : Nat) (v : Int32) (sz : Nat) (hcu : cu < 8) : Met l yX5_set wsX5_set ({ frames := 0, cells := 0, slots := 0, locals := 0 } : Room) (wrPc [.ref (d 0), .int (nI cu), .int 5, .int v] D (wSta d o cI σ) [(cI, .int)] sz) (wrQv D (wSta d o cI (put σ 10 (upd (σ 10) cu v))) (va_A (wSta d o cI σ) sz)) 0 0 (va_A (wSta d o cI σ) sz) := by
  refine Met.ofW (cc := cX5_set) (maxL := 4) (ret := none) (by decide) rfl ?_
  intro p e s m args below meth c s₁ B hml hv
  obtain ⟨hargs, hsz, hP, hK, hD0⟩ := hv
  have hx := B.exec
  have hb := B.bytes
  have hr := B.returns
  have hts := atoms_spec (ws := wsX5_set) B.pre
  have hown : s.vm.findClass RX5 = some m.cls := findClass_of_methodNamed B.named
  have hlocks := B.notSynchronized
  obtain ⟨_, hN⟩ := id hK
  have hiX5 : ∀ w ∈ wsX50, w ∈ wsX5_set := by decide +kernel
  subst hsz
  have hD := hD0.self (sz := s.heap.size)
  generalize hAe : va_A (wSta d o cI σ) s.heap.size = A at hD ⊢
  have hA : ∀ q : Nat, s.heap.size ≤ q → A q := fun q h => by rw [← hAe]; exact Or.inr h
  have hS : va_S A s.heap s.heap [] := va_S.rf
  have hP : va_P D vwCl (wSta d o cI σ) s.heap := hP
  refine my_abs (fun Q hQ => ?_)
  obtain ⟨ls, hl, hent⟩ := my_entry (m := m) (n := 4) hargs (Nat.le_of_ble_eq_true rfl)
  rw [hent]
  have hl : lv_has ls 4 [(0, .ref (d 0)), (1, .int (nI cu)), (2, .int 5), (3, .int v)] := hl
  show W p l e ({ frames := 0, cells := 0, slots := 0, locals := 0 } : Room) s m args below meth c s.heap [] 0 0 Q (F0 m 0 ls [])
  refine lv_aload_n hx hb dX5_set_0 rfl (lv_at hl 0 rfl) ?_
  refine va_get (D := D) (ci := 5) (v := .ref (d 3)) (C := RX5) (T := TX5) (N := 8) hx hb hts hiX5 hown hK.1 hP 0 rfl rfl 6 (by decide) (hts (.fieldLink RX5 26 "IceLanesModel$State" "of" "[I") (by decide +kernel)) (fun _ h9 => h9) rfl dX5_set_1 ?_
  refine lv_bipush (v := 9) hx hb dX5_set_4 (by decide) ?_
  refine lv_iload_n hx hb dX5_set_6 rfl (lv_at hl 1 rfl) ?_
  refine lv_imul hx hb dX5_set_7 ?_
  refine lv_iload_n hx hb dX5_set_8 rfl (lv_at hl 2 rfl) ?_
  refine lv_iadd hx hb dX5_set_9 ?_
  rw [show 9 * nI cu + 5 = nI (9 * cu + 5) from ix_nI cu 5]
  refine lv_iload_n hx hb dX5_set_10 rfl (lv_at hl 3 rfl) ?_
  refine va_iast hx hb hK.1 hP hD hS 3 0 rfl rfl (by first | assumption | exact vp_in_nI (by omega) (by decide)) dX5_set_11 (fun H locs hP hD hS => ?_)
  rw [nI_clamp (n := 9 * cu + 5) (by omega), ofC_5] at hP hD
  have hP : va_P D vwCl (wStaE d o cI (σ 0 0) (σ 17 0) (σ 16 0) (σ 18 0) (σ 3) (σ 4) (σ 5) (σ 6) (σ 7) (σ 8) (σ 9) (upd (σ 10) cu v) (σ 11) (σ 12) (σ 13)) H := hP
  have hD : va_D A (wStaE d o cI (σ 0 0) (σ 17 0) (σ 16 0) (σ 18 0) (σ 3) (σ 4) (σ 5) (σ 6) (σ 7) (σ 8) (σ 9) (upd (σ 10) cu v) (σ 11) (σ 12) (σ 13)) := hD
  subst hQ
  have hP : va_P D vwCl (wSta d o cI (put σ 10 (upd (σ 10) cu v))) H := hP
  have hD : va_D A (wSta d o cI (put σ 10 (upd (σ 10) cu v))) := hD
  exact ret_wrv hx hb hr hlocks hP hD hS dX5_set_12
set_option maxHeartbeats 4000000 in
set_option maxRecDepth 100000 in
theorem M_X5_set_6 (l : Launch) (D : va_G) (cI : ClassId) (d : Nat → Nat) (o : Nat) (σ : St) (cu : Nat) (v : Int32) (sz : Nat) (hcu : cu < 8) : Met l yX5_set wsX5_set ({ frames := 0, cells := 0, slots := 0, locals := 0 } : Room) (wrPc [.ref (d 0), .int (nI cu), .int 6, .int v] D (wSta d o cI σ) [(cI, .int)] sz) (wrQv D (wSta d o cI (put σ 11 (upd (σ 11) cu v))) (va_A (wSta d o cI σ) sz)) 0 0 (va_A (wSta d o cI σ) sz) := by
  refine Met.ofW (cc := cX5_set) (maxL := 4) (ret := none) (by decide) rfl ?_
  intro p e s m args below meth c s₁ B hml hv
  obtain ⟨hargs, hsz, hP, hK, hD0⟩ := hv
  have hx := B.exec
  have hb := B.bytes
  have hr := B.returns
  have hts := atoms_spec (ws := wsX5_set) B.pre
  have hown : s.vm.findClass RX5 = some m.cls := findClass_of_methodNamed B.named
  have hlocks := B.notSynchronized
  obtain ⟨_, hN⟩ := id hK
  have hiX5 : ∀ w ∈ wsX50, w ∈ wsX5_set := by decide +kernel
  subst hsz
  have hD := hD0.self (sz := s.heap.size)
  generalize hAe : va_A (wSta d o cI σ) s.heap.size = A at hD ⊢
  have hA : ∀ q : Nat, s.heap.size ≤ q → A q := fun q h => by rw [← hAe]; exact Or.inr h
  have hS : va_S A s.heap s.heap [] := va_S.rf
  have hP : va_P D vwCl (wSta d o cI σ) s.heap := hP
  refine my_abs (fun Q hQ => ?_)
  obtain ⟨ls, hl, hent⟩ := my_entry (m := m) (n := 4) hargs (Nat.le_of_ble_eq_true rfl)
  rw [hent]
  have hl : lv_has ls 4 [(0, .ref (d 0)), (1, .int (nI cu)), (2, .int 6), (3, .int v)] := hl
  show W p l e ({ frames := 0, cells := 0, slots := 0, locals := 0 } : Room) s m args below meth c s.heap [] 0 0 Q (F0 m 0 ls [])
  refine lv_aload_n hx hb dX5_set_0 rfl (lv_at hl 0 rfl) ?_
  refine va_get (D := D) (ci := 5) (v := .ref (d 3)) (C := RX5) (T := TX5) (N := 8) hx hb hts hiX5 hown hK.1 hP 0 rfl rfl 6 (by decide) (hts (.fieldLink RX5 26 "IceLanesModel$State" "of" "[I") (by decide +kernel)) (fun _ h9 => h9) rfl dX5_set_1 ?_
  refine lv_bipush (v := 9) hx hb dX5_set_4 (by decide) ?_
  refine lv_iload_n hx hb dX5_set_6 rfl (lv_at hl 1 rfl) ?_
  refine lv_imul hx hb dX5_set_7 ?_
  refine lv_iload_n hx hb dX5_set_8 rfl (lv_at hl 2 rfl) ?_
  refine lv_iadd hx hb dX5_set_9 ?_
  rw [show 9 * nI cu + 6 = nI (9 * cu + 6) from ix_nI cu 6]
  refine lv_iload_n hx hb dX5_set_10 rfl (lv_at hl 3 rfl) ?_
  refine va_iast hx hb hK.1 hP hD hS 3 0 rfl rfl (by first | assumption | exact vp_in_nI (by omega) (by decide)) dX5_set_11 (fun H locs hP hD hS => ?_)
  rw [nI_clamp (n := 9 * cu + 6) (by omega), ofC_6] at hP hD
  have hP : va_P D vwCl (wStaE d o cI (σ 0 0) (σ 17 0) (σ 16 0) (σ 18 0) (σ 3) (σ 4) (σ 5) (σ 6) (σ 7) (σ 8) (σ 9) (σ 10) (upd (σ 11) cu v) (σ 12) (σ 13)) H := hP
  have hD : va_D A (wStaE d o cI (σ 0 0) (σ 17 0) (σ 16 0) (σ 18 0) (σ 3) (σ 4) (σ 5) (σ 6) (σ 7) (σ 8) (σ 9) (σ 10) (upd (σ 11) cu v) (σ 12) (σ 13)) := hD
  subst hQ
  have hP : va_P D vwCl (wSta d o cI (put σ 11 (upd (σ 11) cu v))) H := hP
  have hD : va_D A (wSta d o cI (put σ 11 (upd (σ 11) cu v))) := hD
  exact ret_wrv hx hb hr hlocks hP hD hS dX5_set_12
set_option maxHeartbeats 4000000 in
set_option maxRecDepth 100000 in
theorem M_X5_set_7 (l : Launch) (D : va_G) (cI : ClassId) (d : Nat → Nat) (o : Nat) (σ : St) (cu : Nat) (v : Int32) (sz : Nat) (hcu : cu < 8) : Met l yX5_set wsX5_set ({ frames := 0, cells := 0, slots := 0, locals := 0 } : Room) (wrPc [.ref (d 0), .int (nI cu), .int 7, .int v] D (wSta d o cI σ) [(cI, .int)] sz) (wrQv D (wSta d o cI (put σ 12 (upd (σ 12) cu v))) (va_A (wSta d o cI σ) sz)) 0 0 (va_A (wSta d o cI σ) sz) := by
  refine Met.ofW (cc := cX5_set) (maxL := 4) (ret := none) (by decide) rfl ?_
  intro p e s m args below meth c s₁ B hml hv
  obtain ⟨hargs, hsz, hP, hK, hD0⟩ := hv
  have hx := B.exec
  have hb := B.bytes
  have hr := B.returns
  have hts := atoms_spec (ws := wsX5_set) B.pre
  have hown : s.vm.findClass RX5 = some m.cls := findClass_of_methodNamed B.named
  have hlocks := B.notSynchronized
  obtain ⟨_, hN⟩ := id hK
  have hiX5 : ∀ w ∈ wsX50, w ∈ wsX5_set := by decide +kernel
  subst hsz
  have hD := hD0.self (sz := s.heap.size)
  generalize hAe : va_A (wSta d o cI σ) s.heap.size = A at hD ⊢
  have hA : ∀ q : Nat, s.heap.size ≤ q → A q := fun q h => by rw [← hAe]; exact Or.inr h
  have hS : va_S A s.heap s.heap [] := va_S.rf
  have hP : va_P D vwCl (wSta d o cI σ) s.heap := hP
  refine my_abs (fun Q hQ => ?_)
  obtain ⟨ls, hl, hent⟩ := my_entry (m := m) (n := 4) hargs (Nat.le_of_ble_eq_true rfl)
  rw [hent]
  have hl : lv_has ls 4 [(0, .ref (d 0)), (1, .int (nI cu)), (2, .int 7), (3, .int v)] := hl
  show W p l e ({ frames := 0, cells := 0, slots := 0, locals := 0 } : Room) s m args below meth c s.heap [] 0 0 Q (F0 m 0 ls [])
  refine lv_aload_n hx hb dX5_set_0 rfl (lv_at hl 0 rfl) ?_
  refine va_get (D := D) (ci := 5) (v := .ref (d 3)) (C := RX5) (T := TX5) (N := 8) hx hb hts hiX5 hown hK.1 hP 0 rfl rfl 6 (by decide) (hts (.fieldLink RX5 26 "IceLanesModel$State" "of" "[I") (by decide +kernel)) (fun _ h9 => h9) rfl dX5_set_1 ?_
  refine lv_bipush (v := 9) hx hb dX5_set_4 (by decide) ?_
  refine lv_iload_n hx hb dX5_set_6 rfl (lv_at hl 1 rfl) ?_
  refine lv_imul hx hb dX5_set_7 ?_
  refine lv_iload_n hx hb dX5_set_8 rfl (lv_at hl 2 rfl) ?_
  refine lv_iadd hx hb dX5_set_9 ?_
  rw [show 9 * nI cu + 7 = nI (9 * cu + 7) from ix_nI cu 7]
  refine lv_iload_n hx hb dX5_set_10 rfl (lv_at hl 3 rfl) ?_
  refine va_iast hx hb hK.1 hP hD hS 3 0 rfl rfl (by first | assumption | exact vp_in_nI (by omega) (by decide)) dX5_set_11 (fun H locs hP hD hS => ?_)
  rw [nI_clamp (n := 9 * cu + 7) (by omega), ofC_7] at hP hD
  have hP : va_P D vwCl (wStaE d o cI (σ 0 0) (σ 17 0) (σ 16 0) (σ 18 0) (σ 3) (σ 4) (σ 5) (σ 6) (σ 7) (σ 8) (σ 9) (σ 10) (σ 11) (upd (σ 12) cu v) (σ 13)) H := hP
  have hD : va_D A (wStaE d o cI (σ 0 0) (σ 17 0) (σ 16 0) (σ 18 0) (σ 3) (σ 4) (σ 5) (σ 6) (σ 7) (σ 8) (σ 9) (σ 10) (σ 11) (upd (σ 12) cu v) (σ 13)) := hD
  subst hQ
  have hP : va_P D vwCl (wSta d o cI (put σ 12 (upd (σ 12) cu v))) H := hP
  have hD : va_D A (wSta d o cI (put σ 12 (upd (σ 12) cu v))) := hD
  exact ret_wrv hx hb hr hlocks hP hD hS dX5_set_12
set_option maxHeartbeats 4000000 in
set_option maxRecDepth 100000 in
theorem M_X5_holds (l : Launch) (D : va_G) (cI : ClassId) (d : Nat → Nat) (o : Nat) (σ : St) (pp : Nat) (hpp : pp < 36) : Met l yX5_holds wsX5_holds ({ frames := 0, cells := 0, slots := 0, locals := 0 } : Room) (rdPc [.ref (d 0), .int (nI pp)] D (wSta d o cI σ) [(cI, .int)]) (rdQi (sndP (σ 3) (σ 4) (nI pp))) 0 0 (fun _ => False) := by
  refine Met.ofW (cc := cX5_holds) (maxL := 2) (ret := (some .int)) (by decide) rfl ?_
  intro p e s m args below meth c s₁ B hml hv
  obtain ⟨hargs, hP, hK⟩ := hv
  have hx := B.exec
  have hb := B.bytes
  have hr := B.returns
  have hts := atoms_spec (ws := wsX5_holds) B.pre
  have hown : s.vm.findClass RX5 = some m.cls := findClass_of_methodNamed B.named
  have hlocks := B.notSynchronized
  obtain ⟨_, hN⟩ := id hK
  have hiX5 : ∀ w ∈ wsX50, w ∈ wsX5_holds := by decide +kernel
  refine my_abs (fun Q hQ => ?_)
  obtain ⟨ls, hl, hent⟩ := my_entry (m := m) (n := 2) hargs (Nat.le_of_ble_eq_true rfl)
  rw [hent]
  have hl : lv_has ls 2 [(0, .ref (d 0)), (1, .int (nI pp))] := hl
  show W p l e ({ frames := 0, cells := 0, slots := 0, locals := 0 } : Room) s m args below meth c s.heap [] 0 0 Q (F0 m 0 ls [])
  refine lv_aload_n hx hb dX5_holds_0 rfl (lv_at hl 0 rfl) ?_
  refine va_get (D := D) (ci := 5) (v := .ref (d 1)) (C := RX5) (T := TX5) (N := 8) hx hb hts hiX5 hown hK.1 hP 0 rfl rfl 4 (by decide) (hts (.fieldLink RX5 19 "IceLanesModel$State" "ice" "[I") (by decide +kernel)) (fun _ h9 => h9) rfl dX5_holds_1 ?_
  refine lv_iload_n hx hb dX5_holds_4 rfl (lv_at hl 1 rfl) ?_
  refine va_iald hx hb hK.1 hP 1 0 rfl rfl (by first | assumption | exact vp_in_nI (by omega) (by decide)) dX5_holds_5 ?_
  rw [nI_clamp (n := pp) (by omega)]
  refine lv_iconst (v := 3) hx hb dX5_holds_6 (by decide) ?_
  refine lv_aload_n hx hb dX5_holds_7 rfl (lv_at hl 0 rfl) ?_
  refine va_get (D := D) (ci := 5) (v := .ref (d 2)) (C := RX5) (T := TX5) (N := 8) hx hb hts hiX5 hown hK.1 hP 0 rfl rfl 5 (by decide) (hts (.fieldLink RX5 23 "IceLanesModel$State" "cracks" "[I") (by decide +kernel)) (fun _ h9 => h9) rfl dX5_holds_8 ?_
  refine lv_iload_n hx hb dX5_holds_11 rfl (lv_at hl 1 rfl) ?_
  refine va_iald hx hb hK.1 hP 2 0 rfl rfl (by first | assumption | exact vp_in_nI (by omega) (by decide)) dX5_holds_12 ?_
  rw [nI_clamp (n := pp) (by omega)]
  refine lv_imul hx hb dX5_holds_13 ?_
  refine lv_isub hx hb dX5_holds_14 ?_
  subst hQ
  exact ret_rdi hx hb hr rfl hlocks (show (σ 3 pp) - (3 * (σ 4 pp)) = sndP (σ 3) (σ 4) (nI pp) from (sndP_nI _ _ (by omega)).symm) dX5_holds_15
set_option maxHeartbeats 4000000 in
set_option maxRecDepth 100000 in
theorem M_X5_load (l : Launch) (D : va_G) (cI : ClassId) (d : Nat → Nat) (o : Nat) (σ : St) (cu : Nat) (hcu : cu < 8) : Met l yX5_load wsX5_load ({ frames := 1, cells := 0, slots := 0, locals := 22 } : Room) (rdPc [.ref (d 0), .int (nI cu)] D (wSta d o cI σ) [(cI, .int)]) (rdQi (σ 5 cu + σ 6 cu)) 0 0 (fun _ => False) := by
  refine Met.ofW (cc := cX5_load) (maxL := 2) (ret := (some .int)) (by decide) rfl ?_
  intro p e s m args below meth c s₁ B hml hv
  obtain ⟨hargs, hP, hK⟩ := hv
  have hx := B.exec
  have hb := B.bytes
  have hr := B.returns
  have hts := atoms_spec (ws := wsX5_load) B.pre
  have hown : s.vm.findClass RX5 = some m.cls := findClass_of_methodNamed B.named
  have hlocks := B.notSynchronized
  obtain ⟨_, hN⟩ := id hK
  refine my_abs (fun Q hQ => ?_)
  obtain ⟨ls, hl, hent⟩ := my_entry (m := m) (n := 2) hargs (Nat.le_of_ble_eq_true rfl)
  rw [hent]
  have hl : lv_has ls 2 [(0, .ref (d 0)), (1, .int (nI cu))] := hl
  show W p l e ({ frames := 1, cells := 0, slots := 0, locals := 22 } : Room) s m args below meth c s.heap [] 0 0 Q (F0 m 0 ls [])
  refine lv_aload_n hx hb dX5_load_0 rfl (lv_at hl 0 rfl) ?_
  refine lv_iload_n hx hb dX5_load_1 rfl (lv_at hl 1 rfl) ?_
  refine lv_iconst (v := 0) hx hb dX5_load_2 (by decide) ?_
  refine rd_i (va_runV (As := [.int (nI cu), .int 0]) (rest := []) ⟨hx, hb, hml, hown, hts⟩ (M_X5_get l D cI d o σ cu 0 (by first | assumption | omega) (by first | assumption | omega)) (cwV 2 hts gX5_load_X5_get rfl rfl rfl (by decide +kernel) ⟨Nat.le_of_ble_eq_true rfl, Nat.le_of_ble_eq_true rfl⟩) (rdV hK hP [0, 1, 2, 3] [0] rfl rfl (ci := 5) (q0 := 0) rfl rfl) rfl rfl hl.1 rfl (lv_room (Nat.le_of_ble_eq_true rfl)) dX5_load_3 ⟨Nat.zero_le _, Nat.zero_le _⟩) ?_
  refine W.eq (g2 := F0 m 6 ls [.int (σ 5 cu)]) rfl ?_
  refine lv_aload_n hx hb dX5_load_6 rfl (lv_at hl 0 rfl) ?_
  refine lv_iload_n hx hb dX5_load_7 rfl (lv_at hl 1 rfl) ?_
  refine lv_iconst (v := 1) hx hb dX5_load_8 (by decide) ?_
  refine rd_i (va_runV (As := [.int (nI cu), .int 1]) (rest := [.int (σ 5 cu)]) ⟨hx, hb, hml, hown, hts⟩ (M_X5_get l D cI d o σ cu 1 (by first | assumption | omega) (by first | assumption | omega)) (cwV 2 hts gX5_load_X5_get rfl rfl rfl (by decide +kernel) ⟨Nat.le_of_ble_eq_true rfl, Nat.le_of_ble_eq_true rfl⟩) (rdV hK hP [0, 1, 2, 3] [0] rfl rfl (ci := 5) (q0 := 0) rfl rfl) rfl rfl hl.1 rfl (lv_room (Nat.le_of_ble_eq_true rfl)) dX5_load_9 ⟨Nat.zero_le _, Nat.zero_le _⟩) ?_
  refine W.eq (g2 := F0 m 12 ls [.int (σ 6 cu), .int (σ 5 cu)]) rfl ?_
  refine lv_iadd hx hb dX5_load_12 ?_
  subst hQ
  exact ret_rdi hx hb hr rfl hlocks (show (σ 5 cu) + (σ 6 cu) = σ 5 cu + σ 6 cu from rfl) dX5_load_13
set_option maxHeartbeats 4000000 in
set_option maxRecDepth 100000 in
theorem M_X5_weather (l : Launch) (D : va_G) (cI : ClassId) (d : Nat → Nat) (b : Nat → Nat) (x : Nat → Nat) (y : Nat → Nat) (σ : St) (ω : St) (h : Nat) (sz : Nat) (hh : σ 0 0 = nI h) (hbd : h < 2 ^ 30) (hI : okI (σ 3)) (hW : okW (ω 1)) : Met l yX5_weather wsX5_weather ({ frames := 1, cells := 0, slots := 0, locals := 15 } : Room) (wrPc [.ref (d 0)] D (wSta d (b 0) cI σ ++ wOut b x y cI ω) [(cI, .int)] sz) (wrQv D (wSta d (b 0) cI (put (put σ 3 (mapTo (meetM (more (ω 1 (h / 12 % 14)))) 36 (σ 3))) 4 (mapTo (meetC (ω 1 (h / 12 % 14))) 36 (σ 4))) ++ wOut b x y cI ω) (va_A (wSta d (b 0) cI σ ++ wOut b x y cI ω) sz)) 0 0 (va_A (wSta d (b 0) cI σ ++ wOut b x y cI ω) sz) := by
  refine Met.ofW (cc := cX5_weather) (maxL := 3) (ret := none) (by decide) rfl ?_
  intro p e s m args below meth c s₁ B hml hv
  obtain ⟨hargs, hsz, hP, hK, hD0⟩ := hv
  have hx := B.exec
  have hb := B.bytes
  have hr := B.returns
  have hts := atoms_spec (ws := wsX5_weather) B.pre
  have hown : s.vm.findClass RX5 = some m.cls := findClass_of_methodNamed B.named
  have hlocks := B.notSynchronized
  obtain ⟨_, hN⟩ := id hK
  have hiX5 : ∀ w ∈ wsX50, w ∈ wsX5_weather := by decide +kernel
  have hiX6 : ∀ w ∈ wsX60, w ∈ wsX5_weather := by decide +kernel
  subst hsz
  have hD := hD0.self (sz := s.heap.size)
  generalize hAe : va_A (wSta d (b 0) cI σ ++ wOut b x y cI ω) s.heap.size = A at hD ⊢
  have hA : ∀ q : Nat, s.heap.size ≤ q → A q := fun q h => by rw [← hAe]; exact Or.inr h
  have hS : va_S A s.heap s.heap [] := va_S.rf
  have hP : va_P D vwCl (wSta d (b 0) cI σ ++ wOut b x y cI ω) s.heap := hP
  refine my_abs (fun Q hQ => ?_)
  obtain ⟨ls, hl, hent⟩ := my_entry (m := m) (n := 3) hargs (Nat.le_of_ble_eq_true rfl)
  rw [hent]
  have hl : lv_has ls 3 [(0, .ref (d 0))] := hl
  show W p l e ({ frames := 1, cells := 0, slots := 0, locals := 15 } : Room) s m args below meth c s.heap [] 0 0 Q (F0 m 0 ls [])
  refine lv_aload_n hx hb dX5_weather_0 rfl (lv_at hl 0 rfl) ?_
  refine va_get (D := D) (ci := 5) (v := .ref (b 0)) (C := RX5) (T := TX5) (N := 8) hx hb hts hiX5 hown hK.1 hP 0 rfl rfl 7 (by decide) (hts (.fieldLink RX5 3 "IceLanesModel$State" "this$0" "LIceLanesModel;") (by decide +kernel)) (fun _ h9 => h9) rfl dX5_weather_1 ?_
  refine va_getN (D := D) (ci := 6) (v := .ref (b 1)) (C := RX6) (T := TX6) (N := 8) hx hb hts hiX6 hown hK.1 hP 4 rfl rfl 1 (by decide) (va_Nw.use rfl (nX5_52 hN)) (fun _ h9 => h9) rfl dX5_weather_4 ?_
  refine lv_aload_n hx hb dX5_weather_7 rfl (lv_at hl 0 rfl) ?_
  refine va_get (D := D) (ci := 5) (v := .int (σ 0 0)) (C := RX5) (T := TX5) (N := 8) hx hb hts hiX5 hown hK.1 hP 0 rfl rfl 0 (by decide) (hts (.fieldLink RX5 35 "IceLanesModel$State" "hour" "I") (by decide +kernel)) (fun _ h9 => h9) rfl dX5_weather_8 ?_
  rw [hh]
  refine lv_bipush (v := 12) hx hb dX5_weather_11 (by decide) ?_
  refine lv_idiv hx hb dX5_weather_13 (by decide) ?_
  rw [show nI h / 12 = nI (h / 12) from div_nI (d := 12) rfl (by omega) (by decide) (by decide)]
  refine lv_bipush (v := 14) hx hb dX5_weather_14 (by decide) ?_
  refine lv_irem hx hb dX5_weather_16 (by decide) ?_
  rw [show nI (h / 12) - nI (h / 12) / 14 * 14 = nI (h / 12 % 14) from rem_nI (d := 14) rfl (by omega) (by decide) (by decide)]
  refine va_iald hx hb hK.1 hP 5 0 rfl rfl (by exact vp_in_nI (by omega) (by decide)) dX5_weather_17 ?_
  rw [nI_clamp (n := (h / 12 % 14)) (by omega)]
  refine lv_topi (fun w e_w => ?_)
  refine lv_istore_n (lv' := [(1, .int w), (0, .ref (d 0))]) hx hb dX5_weather_18 rfl hl (by decide) rfl (fun ls hl => ?_)
  refine lv_iconst (v := 0) hx hb dX5_weather_19 (by decide) ?_
  refine lv_istore_n (lv' := [(2, .int 0), (1, .int w), (0, .ref (d 0))]) hx hb dX5_weather_20 rfl hl (by decide) rfl (fun ls hl => ?_)
  have loop21 : ∀ (n : Nat) (k : Nat) (tt cc : Nat → Int32), 36 - k < n → (k ≤ 36 ∧ tt = mapTo (wtM w) k (σ 3) ∧ cc = mapTo (meetC w) k (σ 4)) → ∀ (H : Heap) (locs : List Loc), va_P D vwCl (wStaE d (b 0) cI (σ 0 0) (σ 17 0) (σ 16 0) (σ 18 0) tt cc (σ 5) (σ 6) (σ 7) (σ 8) (σ 9) (σ 10) (σ 11) (σ 12) (σ 13) ++ wOut b x y cI ω) H → va_D A (wStaE d (b 0) cI (σ 0 0) (σ 17 0) (σ 16 0) (σ 18 0) tt cc (σ 5) (σ 6) (σ 7) (σ 8) (σ 9) (σ 10) (σ 11) (σ 12) (σ 13) ++ wOut b x y cI ω) → va_S A s.heap H locs → ∀ (ls : Array Slot), lv_has ls 3 [(0, .ref (d 0)), (1, .int w), (2, .int (nI k))] → W p l e ({ frames := 1, cells := 0, slots := 0, locals := 15 } : Room) s m args below meth c H locs 0 0 Q (F0 m 21 ls []) := by
    intro n
    induction n with
    | zero => intro k  tt cc  hf; exact absurd hf (Nat.not_lt_zero _)
    | succ n ih21 =>
      intro k  tt cc  hf ⟨hk, ht, hcc⟩ H locs hP hD hS ls hl
      refine lv_iload_n hx hb dX5_weather_21 rfl (lv_at hl 2 rfl) ?_
      refine lv_bipush (v := 36) hx hb dX5_weather_22 (by decide) ?_
      refine lv_icmp_ge (tgt := 97) hx hb dX5_weather_24 (by decide) (fun c_1 => ?_) (fun c_1 => ?_)
      · skip
        have hk2 : 36 ≤ k := lp_ge (N := 36) (k := k) c_1 (by omega) (by omega)
        subst hQ
        have hP : va_P D vwCl (wSta d (b 0) cI (put (put σ 3 tt) 4 cc) ++ wOut b x y cI ω) H := hP
        have hD : va_D A (wSta d (b 0) cI (put (put σ 3 tt) 4 cc) ++ wOut b x y cI ω) := hD
        have k_3 : (tt : Nat → Int32) = (mapTo (meetM (more (ω 1 (h / 12 % 14)))) 36 (σ 3)) := by rw [ht, show k = 36 by omega, ← e_w]; exact mapTo_congr (fun j hj => wtM_eq (by rw [e_w]; exact hW _ (by omega)) (hI j hj))
        have k_4 : (cc : Nat → Int32) = (mapTo (meetC (ω 1 (h / 12 % 14))) 36 (σ 4)) := by rw [hcc, show k = 36 by omega, ← e_w]
        have hst_s : put (put σ 3 tt) 4 cc = put (put σ 3 (mapTo (meetM (more (ω 1 (h / 12 % 14)))) 36 (σ 3))) 4 (mapTo (meetC (ω 1 (h / 12 % 14))) 36 (σ 4)) := put_cg (put_cg rfl k_3) k_4
        rw [hst_s] at hP hD
        exact ret_wrv hx hb hr hlocks hP hD hS dX5_weather_97
      · skip
        have hk2 : k < 36 := lp_nge (N := 36) (k := k) c_1 (by omega) (by omega)
        refine lv_aload_n hx hb dX5_weather_27 rfl (lv_at hl 0 rfl) ?_
        refine va_get (D := D) (ci := 5) (v := .ref (d 1)) (C := RX5) (T := TX5) (N := 8) hx hb hts hiX5 hown hK.1 hP 0 rfl rfl 4 (by decide) (hts (.fieldLink RX5 19 "IceLanesModel$State" "ice" "[I") (by decide +kernel)) (fun _ h9 => h9) rfl dX5_weather_28 ?_
        refine lv_iload_n hx hb dX5_weather_31 rfl (lv_at hl 2 rfl) ?_
        refine lv_iload_n hx hb dX5_weather_32 rfl (lv_at hl 1 rfl) ?_
        refine lv_if_ge (tgt := 52) hx hb dX5_weather_33 (by decide) (fun c_2 => ?_) (fun c_2 => ?_)
        · skip
          refine lv_iconst (v := 0) hx hb dX5_weather_52 (by decide) ?_
          refine lv_aload_n hx hb dX5_weather_53 rfl (lv_at hl 0 rfl) ?_
          refine va_get (D := D) (ci := 5) (v := .ref (d 1)) (C := RX5) (T := TX5) (N := 8) hx hb hts hiX5 hown hK.1 hP 0 rfl rfl 4 (by decide) (hts (.fieldLink RX5 19 "IceLanesModel$State" "ice" "[I") (by decide +kernel)) (fun _ h9 => h9) rfl dX5_weather_54 ?_
          refine lv_iload_n hx hb dX5_weather_57 rfl (lv_at hl 2 rfl) ?_
          refine va_iald hx hb hK.1 hP 1 0 rfl rfl (by first | assumption | exact vp_in_nI (by omega) (by decide)) dX5_weather_58 ?_
          rw [nI_clamp (n := k) (by omega)]
          refine W.eq (g2 := F0 m 59 ls [.int (tt k), .int 0, .int (nI k), .ref (d 1)]) rfl ?_
          refine lv_iconst (v := 2) hx hb dX5_weather_59 (by decide) ?_
          refine lv_iload_n hx hb dX5_weather_60 rfl (lv_at hl 1 rfl) ?_
          refine lv_imul hx hb dX5_weather_61 ?_
          refine lv_isub hx hb dX5_weather_62 ?_
          refine va_mmax hx hb (by rw [hml]; exact hl.1.symm) hown (hts (.methodLink RX5 60 Lib.Math.max.name) (by decide +kernel)) (hts (.static Lib.Math.max.name) (by decide +kernel)) (hts (.initialized "java/lang/Math") (by decide +kernel)) (hts (.code Lib.Math.max.name Lib.Math.max.code 2 (some .int)) (by decide +kernel)) (Nat.le_of_ble_eq_true rfl) (Nat.le_of_ble_eq_true rfl) (Nat.zero_le _) (Nat.zero_le _) dX5_weather_63 ?_
          refine W.eq (g2 := F0 m 66 ls [.int (mx 0 ((tt k) - (2 * w))), .int (nI k), .ref (d 1)]) rfl ?_
          refine va_iast hx hb hK.1 hP hD hS 1 0 rfl rfl (by exact vp_in_nI (by omega) (by decide)) dX5_weather_66 (fun H locs hP hD hS => ?_)
          rw [nI_clamp (n := k) (by omega)] at hP hD
          have hP : va_P D vwCl (wStaE d (b 0) cI (σ 0 0) (σ 17 0) (σ 16 0) (σ 18 0) (upd tt k (mx 0 ((tt k) - (2 * w)))) cc (σ 5) (σ 6) (σ 7) (σ 8) (σ 9) (σ 10) (σ 11) (σ 12) (σ 13) ++ wOut b x y cI ω) H := hP
          have hD : va_D A (wStaE d (b 0) cI (σ 0 0) (σ 17 0) (σ 16 0) (σ 18 0) (upd tt k (mx 0 ((tt k) - (2 * w)))) cc (σ 5) (σ 6) (σ 7) (σ 8) (σ 9) (σ 10) (σ 11) (σ 12) (σ 13) ++ wOut b x y cI ω) := hD
          refine lv_iload_n hx hb dX5_weather_67 rfl (lv_at hl 1 rfl) ?_
          refine lv_bipush (v := (-3)) hx hb dX5_weather_68 (by decide) ?_
          refine lv_icmp_gt (tgt := 91) hx hb dX5_weather_70 (by decide) (fun c_3 => ?_) (fun c_3 => ?_)
          · skip
            refine lv_iinc (v := nI (k + 1)) (lv' := [(2, .int (nI (k + 1))), (0, .ref (d 0)), (1, .int w)]) hx hb dX5_weather_91 hl (k := 2) rfl (nI_1 k) (by decide) rfl (fun ls hl => ?_)
            refine lv_goto (tgt := 21) hx hb dX5_weather_94 (by decide) ?_
            exact ih21 (k + 1) (upd tt k (mx 0 ((tt k) - (2 * w)))) cc (by omega) ⟨by omega, (by rw [ht, mapTo_self]; (first | rw [wtM_t (by assumption)] | rw [wtM_f (by assumption)]); exact mapTo_succ (wtM w) k (σ 3)), (by rw [hcc]; first | exact mapTo_skip (meetC_f (by assumption)) | (rw [mapTo_self, ← meetC_t (w := w) (by assumption)]; exact mapTo_succ (meetC w) k (σ 4)))⟩ _ _ hP hD hS ls (lv_sub hl [1, 2, 0] rfl)
          · skip
            refine lv_aload_n hx hb dX5_weather_73 rfl (lv_at hl 0 rfl) ?_
            refine va_get (D := D) (ci := 5) (v := .ref (d 2)) (C := RX5) (T := TX5) (N := 8) hx hb hts hiX5 hown hK.1 hP 0 rfl rfl 5 (by decide) (hts (.fieldLink RX5 23 "IceLanesModel$State" "cracks" "[I") (by decide +kernel)) (fun _ h9 => h9) rfl dX5_weather_74 ?_
            refine lv_iload_n hx hb dX5_weather_77 rfl (lv_at hl 2 rfl) ?_
            refine lv_iconst (v := 0) hx hb dX5_weather_78 (by decide) ?_
            refine lv_aload_n hx hb dX5_weather_79 rfl (lv_at hl 0 rfl) ?_
            refine va_get (D := D) (ci := 5) (v := .ref (d 2)) (C := RX5) (T := TX5) (N := 8) hx hb hts hiX5 hown hK.1 hP 0 rfl rfl 5 (by decide) (hts (.fieldLink RX5 23 "IceLanesModel$State" "cracks" "[I") (by decide +kernel)) (fun _ h9 => h9) rfl dX5_weather_80 ?_
            refine lv_iload_n hx hb dX5_weather_83 rfl (lv_at hl 2 rfl) ?_
            refine va_iald hx hb hK.1 hP 2 0 rfl rfl (by first | assumption | exact vp_in_nI (by omega) (by decide)) dX5_weather_84 ?_
            rw [nI_clamp (n := k) (by omega)]
            refine W.eq (g2 := F0 m 85 ls [.int (cc k), .int 0, .int (nI k), .ref (d 2)]) rfl ?_
            refine lv_iconst (v := 1) hx hb dX5_weather_85 (by decide) ?_
            refine lv_isub hx hb dX5_weather_86 ?_
            refine va_mmax hx hb (by rw [hml]; exact hl.1.symm) hown (hts (.methodLink RX5 60 Lib.Math.max.name) (by decide +kernel)) (hts (.static Lib.Math.max.name) (by decide +kernel)) (hts (.initialized "java/lang/Math") (by decide +kernel)) (hts (.code Lib.Math.max.name Lib.Math.max.code 2 (some .int)) (by decide +kernel)) (Nat.le_of_ble_eq_true rfl) (Nat.le_of_ble_eq_true rfl) (Nat.zero_le _) (Nat.zero_le _) dX5_weather_87 ?_
            refine W.eq (g2 := F0 m 90 ls [.int (mx 0 ((cc k) - 1)), .int (nI k), .ref (d 2)]) rfl ?_
            refine va_iast hx hb hK.1 hP hD hS 2 0 rfl rfl (by first | assumption | exact vp_in_nI (by omega) (by decide)) dX5_weather_90 (fun H locs hP hD hS => ?_)
            rw [nI_clamp (n := k) (by omega)] at hP hD
            have hP : va_P D vwCl (wStaE d (b 0) cI (σ 0 0) (σ 17 0) (σ 16 0) (σ 18 0) (upd tt k (mx 0 ((tt k) - (2 * w)))) (upd cc k (mx 0 ((cc k) - 1))) (σ 5) (σ 6) (σ 7) (σ 8) (σ 9) (σ 10) (σ 11) (σ 12) (σ 13) ++ wOut b x y cI ω) H := hP
            have hD : va_D A (wStaE d (b 0) cI (σ 0 0) (σ 17 0) (σ 16 0) (σ 18 0) (upd tt k (mx 0 ((tt k) - (2 * w)))) (upd cc k (mx 0 ((cc k) - 1))) (σ 5) (σ 6) (σ 7) (σ 8) (σ 9) (σ 10) (σ 11) (σ 12) (σ 13) ++ wOut b x y cI ω) := hD
            refine lv_iinc (v := nI (k + 1)) (lv' := [(2, .int (nI (k + 1))), (0, .ref (d 0)), (1, .int w)]) hx hb dX5_weather_91 hl (k := 2) rfl (nI_1 k) (by decide) rfl (fun ls hl => ?_)
            refine lv_goto (tgt := 21) hx hb dX5_weather_94 (by decide) ?_
            exact ih21 (k + 1) (upd tt k (mx 0 ((tt k) - (2 * w)))) (upd cc k (mx 0 ((cc k) - 1))) (by omega) ⟨by omega, (by rw [ht, mapTo_self]; (first | rw [wtM_t (by assumption)] | rw [wtM_f (by assumption)]); exact mapTo_succ (wtM w) k (σ 3)), (by rw [hcc]; first | exact mapTo_skip (meetC_f (by assumption)) | (rw [mapTo_self, ← meetC_t (w := w) (by assumption)]; exact mapTo_succ (meetC w) k (σ 4)))⟩ _ _ hP hD hS ls (lv_sub hl [1, 2, 0] rfl)
        · skip
          refine lv_bipush (v := 60) hx hb dX5_weather_36 (by decide) ?_
          refine lv_aload_n hx hb dX5_weather_38 rfl (lv_at hl 0 rfl) ?_
          refine va_get (D := D) (ci := 5) (v := .ref (d 1)) (C := RX5) (T := TX5) (N := 8) hx hb hts hiX5 hown hK.1 hP 0 rfl rfl 4 (by decide) (hts (.fieldLink RX5 19 "IceLanesModel$State" "ice" "[I") (by decide +kernel)) (fun _ h9 => h9) rfl dX5_weather_39 ?_
          refine lv_iload_n hx hb dX5_weather_42 rfl (lv_at hl 2 rfl) ?_
          refine va_iald hx hb hK.1 hP 1 0 rfl rfl (by first | assumption | exact vp_in_nI (by omega) (by decide)) dX5_weather_43 ?_
          rw [nI_clamp (n := k) (by omega)]
          refine W.eq (g2 := F0 m 44 ls [.int (tt k), .int 60, .int (nI k), .ref (d 1)]) rfl ?_
          refine lv_iload_n hx hb dX5_weather_44 rfl (lv_at hl 1 rfl) ?_
          refine lv_isub hx hb dX5_weather_45 ?_
          refine va_mmin hx hb (by rw [hml]; exact hl.1.symm) hown (hts (.methodLink RX5 55 Lib.Math.min.name) (by decide +kernel)) (hts (.static Lib.Math.min.name) (by decide +kernel)) (hts (.initialized "java/lang/Math") (by decide +kernel)) (hts (.code Lib.Math.min.name Lib.Math.min.code 2 (some .int)) (by decide +kernel)) (Nat.le_of_ble_eq_true rfl) (Nat.le_of_ble_eq_true rfl) (Nat.zero_le _) (Nat.zero_le _) dX5_weather_46 ?_
          refine W.eq (g2 := F0 m 49 ls [.int (mn 60 ((tt k) - w)), .int (nI k), .ref (d 1)]) rfl ?_
          refine lv_goto (tgt := 66) hx hb dX5_weather_49 (by decide) ?_
          refine va_iast hx hb hK.1 hP hD hS 1 0 rfl rfl (by exact vp_in_nI (by omega) (by decide)) dX5_weather_66 (fun H locs hP hD hS => ?_)
          rw [nI_clamp (n := k) (by omega)] at hP hD
          have hP : va_P D vwCl (wStaE d (b 0) cI (σ 0 0) (σ 17 0) (σ 16 0) (σ 18 0) (upd tt k (mn 60 ((tt k) - w))) cc (σ 5) (σ 6) (σ 7) (σ 8) (σ 9) (σ 10) (σ 11) (σ 12) (σ 13) ++ wOut b x y cI ω) H := hP
          have hD : va_D A (wStaE d (b 0) cI (σ 0 0) (σ 17 0) (σ 16 0) (σ 18 0) (upd tt k (mn 60 ((tt k) - w))) cc (σ 5) (σ 6) (σ 7) (σ 8) (σ 9) (σ 10) (σ 11) (σ 12) (σ 13) ++ wOut b x y cI ω) := hD
          refine lv_iload_n hx hb dX5_weather_67 rfl (lv_at hl 1 rfl) ?_
          refine lv_bipush (v := (-3)) hx hb dX5_weather_68 (by decide) ?_
          refine lv_icmp_gt (tgt := 91) hx hb dX5_weather_70 (by decide) (fun c_4 => ?_) (fun c_4 => ?_)
          · skip
            refine lv_iinc (v := nI (k + 1)) (lv' := [(2, .int (nI (k + 1))), (0, .ref (d 0)), (1, .int w)]) hx hb dX5_weather_91 hl (k := 2) rfl (nI_1 k) (by decide) rfl (fun ls hl => ?_)
            refine lv_goto (tgt := 21) hx hb dX5_weather_94 (by decide) ?_
            exact ih21 (k + 1) (upd tt k (mn 60 ((tt k) - w))) cc (by omega) ⟨by omega, (by rw [ht, mapTo_self]; (first | rw [wtM_t (by assumption)] | rw [wtM_f (by assumption)]); exact mapTo_succ (wtM w) k (σ 3)), (by rw [hcc]; first | exact mapTo_skip (meetC_f (by assumption)) | (rw [mapTo_self, ← meetC_t (w := w) (by assumption)]; exact mapTo_succ (meetC w) k (σ 4)))⟩ _ _ hP hD hS ls (lv_sub hl [1, 2, 0] rfl)
          · skip
            refine lv_aload_n hx hb dX5_weather_73 rfl (lv_at hl 0 rfl) ?_
            refine va_get (D := D) (ci := 5) (v := .ref (d 2)) (C := RX5) (T := TX5) (N := 8) hx hb hts hiX5 hown hK.1 hP 0 rfl rfl 5 (by decide) (hts (.fieldLink RX5 23 "IceLanesModel$State" "cracks" "[I") (by decide +kernel)) (fun _ h9 => h9) rfl dX5_weather_74 ?_
            refine lv_iload_n hx hb dX5_weather_77 rfl (lv_at hl 2 rfl) ?_
            refine lv_iconst (v := 0) hx hb dX5_weather_78 (by decide) ?_
            refine lv_aload_n hx hb dX5_weather_79 rfl (lv_at hl 0 rfl) ?_
            refine va_get (D := D) (ci := 5) (v := .ref (d 2)) (C := RX5) (T := TX5) (N := 8) hx hb hts hiX5 hown hK.1 hP 0 rfl rfl 5 (by decide) (hts (.fieldLink RX5 23 "IceLanesModel$State" "cracks" "[I") (by decide +kernel)) (fun _ h9 => h9) rfl dX5_weather_80 ?_
            refine lv_iload_n hx hb dX5_weather_83 rfl (lv_at hl 2 rfl) ?_
            refine va_iald hx hb hK.1 hP 2 0 rfl rfl (by first | assumption | exact vp_in_nI (by omega) (by decide)) dX5_weather_84 ?_
            rw [nI_clamp (n := k) (by omega)]
            refine W.eq (g2 := F0 m 85 ls [.int (cc k), .int 0, .int (nI k), .ref (d 2)]) rfl ?_
            refine lv_iconst (v := 1) hx hb dX5_weather_85 (by decide) ?_
            refine lv_isub hx hb dX5_weather_86 ?_
            refine va_mmax hx hb (by rw [hml]; exact hl.1.symm) hown (hts (.methodLink RX5 60 Lib.Math.max.name) (by decide +kernel)) (hts (.static Lib.Math.max.name) (by decide +kernel)) (hts (.initialized "java/lang/Math") (by decide +kernel)) (hts (.code Lib.Math.max.name Lib.Math.max.code 2 (some .int)) (by decide +kernel)) (Nat.le_of_ble_eq_true rfl) (Nat.le_of_ble_eq_true rfl) (Nat.zero_le _) (Nat.zero_le _) dX5_weather_87 ?_
            refine W.eq (g2 := F0 m 90 ls [.int (mx 0 ((cc k) - 1)), .int (nI k), .ref (d 2)]) rfl ?_
            refine va_iast hx hb hK.1 hP hD hS 2 0 rfl rfl (by first | assumption | exact vp_in_nI (by omega) (by decide)) dX5_weather_90 (fun H locs hP hD hS => ?_)
            rw [nI_clamp (n := k) (by omega)] at hP hD
            have hP : va_P D vwCl (wStaE d (b 0) cI (σ 0 0) (σ 17 0) (σ 16 0) (σ 18 0) (upd tt k (mn 60 ((tt k) - w))) (upd cc k (mx 0 ((cc k) - 1))) (σ 5) (σ 6) (σ 7) (σ 8) (σ 9) (σ 10) (σ 11) (σ 12) (σ 13) ++ wOut b x y cI ω) H := hP
            have hD : va_D A (wStaE d (b 0) cI (σ 0 0) (σ 17 0) (σ 16 0) (σ 18 0) (upd tt k (mn 60 ((tt k) - w))) (upd cc k (mx 0 ((cc k) - 1))) (σ 5) (σ 6) (σ 7) (σ 8) (σ 9) (σ 10) (σ 11) (σ 12) (σ 13) ++ wOut b x y cI ω) := hD
            refine lv_iinc (v := nI (k + 1)) (lv' := [(2, .int (nI (k + 1))), (0, .ref (d 0)), (1, .int w)]) hx hb dX5_weather_91 hl (k := 2) rfl (nI_1 k) (by decide) rfl (fun ls hl => ?_)
            refine lv_goto (tgt := 21) hx hb dX5_weather_94 (by decide) ?_
            exact ih21 (k + 1) (upd tt k (mn 60 ((tt k) - w))) (upd cc k (mx 0 ((cc k) - 1))) (by omega) ⟨by omega, (by rw [ht, mapTo_self]; (first | rw [wtM_t (by assumption)] | rw [wtM_f (by assumption)]); exact mapTo_succ (wtM w) k (σ 3)), (by rw [hcc]; first | exact mapTo_skip (meetC_f (by assumption)) | (rw [mapTo_self, ← meetC_t (w := w) (by assumption)]; exact mapTo_succ (meetC w) k (σ 4)))⟩ _ _ hP hD hS ls (lv_sub hl [1, 2, 0] rfl)
  exact loop21 37 0 (σ 3) (σ 4) (by omega) ⟨by omega, (mapTo_0 _ _).symm, (mapTo_0 _ _).symm⟩ _ _ hP hD hS ls (lv_sub hl [2, 1, 0] rfl)
set_option maxHeartbeats 4000000 in
set_option maxRecDepth 100000 in
theorem M_X5_listen (l : Launch) (D : va_G) (cI : ClassId) (d : Nat → Nat) (o : Nat) (σ : St) (h : Nat) (sz : Nat) (hh : σ 0 0 = nI h) (hbd : h < 2 ^ 30) : Met l yX5_listen wsX5_listen ({ frames := 0, cells := 0, slots := 0, locals := 0 } : Room) (wrPc [.ref (d 0)] D (wSta d o cI σ) [(cI, .int)] sz) (wrQv D (wSta d o cI (hr2 σ)) (va_A (wSta d o cI σ) sz)) 0 0 (va_A (wSta d o cI σ) sz) := by
  refine Met.ofW (cc := cX5_listen) (maxL := 2) (ret := none) (by decide) rfl ?_
  intro p e s m args below meth c s₁ B hml hv
  obtain ⟨hargs, hsz, hP, hK, hD0⟩ := hv
  have hx := B.exec
  have hb := B.bytes
  have hr := B.returns
  have hts := atoms_spec (ws := wsX5_listen) B.pre
  have hown : s.vm.findClass RX5 = some m.cls := findClass_of_methodNamed B.named
  have hlocks := B.notSynchronized
  obtain ⟨_, hN⟩ := id hK
  have hiX5 : ∀ w ∈ wsX50, w ∈ wsX5_listen := by decide +kernel
  subst hsz
  have hD := hD0.self (sz := s.heap.size)
  generalize hAe : va_A (wSta d o cI σ) s.heap.size = A at hD ⊢
  have hA : ∀ q : Nat, s.heap.size ≤ q → A q := fun q h => by rw [← hAe]; exact Or.inr h
  have hS : va_S A s.heap s.heap [] := va_S.rf
  have hP : va_P D vwCl (wSta d o cI σ) s.heap := hP
  refine my_abs (fun Q hQ => ?_)
  obtain ⟨ls, hl, hent⟩ := my_entry (m := m) (n := 2) hargs (Nat.le_of_ble_eq_true rfl)
  rw [hent]
  have hl : lv_has ls 2 [(0, .ref (d 0))] := hl
  show W p l e ({ frames := 0, cells := 0, slots := 0, locals := 0 } : Room) s m args below meth c s.heap [] 0 0 Q (F0 m 0 ls [])
  refine lv_iconst (v := 0) hx hb dX5_listen_0 (by decide) ?_
  refine lv_istore_n (lv' := [(1, .int 0), (0, .ref (d 0))]) hx hb dX5_listen_1 rfl hl (by decide) rfl (fun ls hl => ?_)
  have loop2 : ∀ (n : Nat) (k : Nat) (th : Int32), 12 - k < n → (k ≤ 12 ∧ th = thwV σ h k) → ∀ (H : Heap) (locs : List Loc), va_P D vwCl (wStaE d o cI (σ 0 0) (σ 17 0) th (σ 18 0) (σ 3) (σ 4) (σ 5) (σ 6) (σ 7) (σ 8) (σ 9) (σ 10) (σ 11) (σ 12) (σ 13)) H → va_D A (wStaE d o cI (σ 0 0) (σ 17 0) th (σ 18 0) (σ 3) (σ 4) (σ 5) (σ 6) (σ 7) (σ 8) (σ 9) (σ 10) (σ 11) (σ 12) (σ 13)) → va_S A s.heap H locs → ∀ (ls : Array Slot), lv_has ls 2 [(0, .ref (d 0)), (1, .int (nI (3 * k)))] → W p l e ({ frames := 0, cells := 0, slots := 0, locals := 0 } : Room) s m args below meth c H locs 0 0 Q (F0 m 2 ls []) := by
    intro n
    induction n with
    | zero => intro k  th  hf; exact absurd hf (Nat.not_lt_zero _)
    | succ n ih2 =>
      intro k  th  hf ⟨hk, hv⟩ H locs hP hD hS ls hl
      refine lv_iload_n hx hb dX5_listen_2 rfl (lv_at hl 1 rfl) ?_
      refine lv_bipush (v := 36) hx hb dX5_listen_3 (by decide) ?_
      refine lv_icmp_ge (tgt := 60) hx hb dX5_listen_5 (by decide) (fun c_1 => ?_) (fun c_1 => ?_)
      · skip
        have hk2 : 36 ≤ 3 * k := lp_ge (N := 36) (k := 3 * k) c_1 (by omega) (by omega)
        subst hQ
        have hP : va_P D vwCl (wSta d o cI (put σ 16 (fun _ => th))) H := hP
        have hD : va_D A (wSta d o cI (put σ 16 (fun _ => th))) := hD
        have hfin : th = thwV σ h 12 := by first | exact thw_mono hv hk (by assumption) | (rw [hv, show k = 12 by omega])
        have hP : va_P D vwCl (wSta d o cI (hr2 σ)) H := by show va_P D vwCl (wStaE d o cI (hr2 σ 0 0) (hr2 σ 17 0) (hr2 σ 16 0) (hr2 σ 18 0) (hr2 σ 3) (hr2 σ 4) (hr2 σ 5) (hr2 σ 6) (hr2 σ 7) (hr2 σ 8) (hr2 σ 9) (hr2 σ 10) (hr2 σ 11) (hr2 σ 12) (hr2 σ 13)) H; rw [hr2_k σ (k := 0) (by omega), hr2_k σ (k := 17) (by omega), thw_end hh hbd, ← hfin, hr2_k σ (k := 18) (by omega), hr2_k σ (k := 3) (by omega), hr2_k σ (k := 4) (by omega), hr2_k σ (k := 5) (by omega), hr2_k σ (k := 6) (by omega), hr2_k σ (k := 7) (by omega), hr2_k σ (k := 8) (by omega), hr2_k σ (k := 9) (by omega), hr2_k σ (k := 10) (by omega), hr2_k σ (k := 11) (by omega), hr2_k σ (k := 12) (by omega), hr2_k σ (k := 13) (by omega)]; exact hP
        have hD : va_D A (wSta d o cI (hr2 σ)) := by show va_D A (wStaE d o cI (hr2 σ 0 0) (hr2 σ 17 0) (hr2 σ 16 0) (hr2 σ 18 0) (hr2 σ 3) (hr2 σ 4) (hr2 σ 5) (hr2 σ 6) (hr2 σ 7) (hr2 σ 8) (hr2 σ 9) (hr2 σ 10) (hr2 σ 11) (hr2 σ 12) (hr2 σ 13)); rw [hr2_k σ (k := 0) (by omega), hr2_k σ (k := 17) (by omega), thw_end hh hbd, ← hfin, hr2_k σ (k := 18) (by omega), hr2_k σ (k := 3) (by omega), hr2_k σ (k := 4) (by omega), hr2_k σ (k := 5) (by omega), hr2_k σ (k := 6) (by omega), hr2_k σ (k := 7) (by omega), hr2_k σ (k := 8) (by omega), hr2_k σ (k := 9) (by omega), hr2_k σ (k := 10) (by omega), hr2_k σ (k := 11) (by omega), hr2_k σ (k := 12) (by omega), hr2_k σ (k := 13) (by omega)]; exact hD
        exact ret_wrv hx hb hr hlocks hP hD hS dX5_listen_60
      · skip
        have hk2 : 3 * k < 36 := lp_nge (N := 36) (k := 3 * k) c_1 (by omega) (by omega)
        refine lv_aload_n hx hb dX5_listen_8 rfl (lv_at hl 0 rfl) ?_
        refine va_get (D := D) (ci := 5) (v := .int th) (C := RX5) (T := TX5) (N := 8) hx hb hts hiX5 hown hK.1 hP 0 rfl rfl 2 (by decide) (hts (.fieldLink RX5 15 "IceLanesModel$State" "thawed" "I") (by decide +kernel)) (fun _ h9 => h9) rfl dX5_listen_9 ?_
        refine W.eq (g2 := F0 m 12 ls [.int th]) rfl ?_
        refine lv_iconst (v := (-1)) hx hb dX5_listen_12 (by decide) ?_
        refine lv_icmp_ne (tgt := 60) hx hb dX5_listen_13 (by decide) (fun c_2 => ?_) (fun c_2 => ?_)
        · skip
          subst hQ
          have hP : va_P D vwCl (wSta d o cI (put σ 16 (fun _ => th))) H := hP
          have hD : va_D A (wSta d o cI (put σ 16 (fun _ => th))) := hD
          have hfin : th = thwV σ h 12 := by first | exact thw_mono hv hk (by assumption) | (rw [hv, show k = 12 by omega])
          have hP : va_P D vwCl (wSta d o cI (hr2 σ)) H := by show va_P D vwCl (wStaE d o cI (hr2 σ 0 0) (hr2 σ 17 0) (hr2 σ 16 0) (hr2 σ 18 0) (hr2 σ 3) (hr2 σ 4) (hr2 σ 5) (hr2 σ 6) (hr2 σ 7) (hr2 σ 8) (hr2 σ 9) (hr2 σ 10) (hr2 σ 11) (hr2 σ 12) (hr2 σ 13)) H; rw [hr2_k σ (k := 0) (by omega), hr2_k σ (k := 17) (by omega), thw_end hh hbd, ← hfin, hr2_k σ (k := 18) (by omega), hr2_k σ (k := 3) (by omega), hr2_k σ (k := 4) (by omega), hr2_k σ (k := 5) (by omega), hr2_k σ (k := 6) (by omega), hr2_k σ (k := 7) (by omega), hr2_k σ (k := 8) (by omega), hr2_k σ (k := 9) (by omega), hr2_k σ (k := 10) (by omega), hr2_k σ (k := 11) (by omega), hr2_k σ (k := 12) (by omega), hr2_k σ (k := 13) (by omega)]; exact hP
          have hD : va_D A (wSta d o cI (hr2 σ)) := by show va_D A (wStaE d o cI (hr2 σ 0 0) (hr2 σ 17 0) (hr2 σ 16 0) (hr2 σ 18 0) (hr2 σ 3) (hr2 σ 4) (hr2 σ 5) (hr2 σ 6) (hr2 σ 7) (hr2 σ 8) (hr2 σ 9) (hr2 σ 10) (hr2 σ 11) (hr2 σ 12) (hr2 σ 13)); rw [hr2_k σ (k := 0) (by omega), hr2_k σ (k := 17) (by omega), thw_end hh hbd, ← hfin, hr2_k σ (k := 18) (by omega), hr2_k σ (k := 3) (by omega), hr2_k σ (k := 4) (by omega), hr2_k σ (k := 5) (by omega), hr2_k σ (k := 6) (by omega), hr2_k σ (k := 7) (by omega), hr2_k σ (k := 8) (by omega), hr2_k σ (k := 9) (by omega), hr2_k σ (k := 10) (by omega), hr2_k σ (k := 11) (by omega), hr2_k σ (k := 12) (by omega), hr2_k σ (k := 13) (by omega)]; exact hD
          exact ret_wrv hx hb hr hlocks hP hD hS dX5_listen_60
        · skip
          have hth : σ 16 0 = -1 ∧ opA (σ 3) k = false := thw_open hv c_2 hbd
          refine lv_aload_n hx hb dX5_listen_16 rfl (lv_at hl 0 rfl) ?_
          refine va_get (D := D) (ci := 5) (v := .ref (d 1)) (C := RX5) (T := TX5) (N := 8) hx hb hts hiX5 hown hK.1 hP 0 rfl rfl 4 (by decide) (hts (.fieldLink RX5 19 "IceLanesModel$State" "ice" "[I") (by decide +kernel)) (fun _ h9 => h9) rfl dX5_listen_17 ?_
          refine lv_iload_n hx hb dX5_listen_20 rfl (lv_at hl 1 rfl) ?_
          refine va_iald hx hb hK.1 hP 1 0 rfl rfl (by first | assumption | exact vp_in_nI (by omega) (by decide)) dX5_listen_21 ?_
          rw [nI_clamp (n := (3 * k)) (by omega)]
          refine lv_aload_n hx hb dX5_listen_22 rfl (lv_at hl 0 rfl) ?_
          refine va_get (D := D) (ci := 5) (v := .ref (d 1)) (C := RX5) (T := TX5) (N := 8) hx hb hts hiX5 hown hK.1 hP 0 rfl rfl 4 (by decide) (hts (.fieldLink RX5 19 "IceLanesModel$State" "ice" "[I") (by decide +kernel)) (fun _ h9 => h9) rfl dX5_listen_23 ?_
          refine lv_iload_n hx hb dX5_listen_26 rfl (lv_at hl 1 rfl) ?_
          refine lv_iconst (v := 1) hx hb dX5_listen_27 (by decide) ?_
          refine lv_iadd hx hb dX5_listen_28 ?_
          rw [show nI (3 * k) + 1 = nI (3 * k + 1) from nI_1 _]
          refine va_iald hx hb hK.1 hP 1 0 rfl rfl (by first | assumption | exact vp_in_nI (by omega) (by decide)) dX5_listen_29 ?_
          rw [nI_clamp (n := (3 * k + 1)) (by omega)]
          refine lv_iadd hx hb dX5_listen_30 ?_
          refine lv_aload_n hx hb dX5_listen_31 rfl (lv_at hl 0 rfl) ?_
          refine va_get (D := D) (ci := 5) (v := .ref (d 1)) (C := RX5) (T := TX5) (N := 8) hx hb hts hiX5 hown hK.1 hP 0 rfl rfl 4 (by decide) (hts (.fieldLink RX5 19 "IceLanesModel$State" "ice" "[I") (by decide +kernel)) (fun _ h9 => h9) rfl dX5_listen_32 ?_
          refine lv_iload_n hx hb dX5_listen_35 rfl (lv_at hl 1 rfl) ?_
          refine lv_iconst (v := 2) hx hb dX5_listen_36 (by decide) ?_
          refine lv_iadd hx hb dX5_listen_37 ?_
          rw [show nI (3 * k) + 2 = nI (3 * k + 2) from nI_add _ 2]
          refine va_iald hx hb hK.1 hP 1 0 rfl rfl (by first | assumption | exact vp_in_nI (by omega) (by decide)) dX5_listen_38 ?_
          rw [nI_clamp (n := (3 * k + 2)) (by omega)]
          refine lv_iadd hx hb dX5_listen_39 ?_
          refine lv_if_ne (tgt := 54) hx hb dX5_listen_40 (by decide) (fun c_3 => ?_) (fun c_3 => ?_)
          · skip
            refine lv_iinc (v := nI (3 * (k + 1))) (lv' := [(1, .int (nI (3 * (k + 1)))), (0, .ref (d 0))]) hx hb dX5_listen_54 hl (k := 1) rfl (nI_add (3 * k) 3) (by decide) rfl (fun ls hl => ?_)
            refine lv_goto (tgt := 2) hx hb dX5_listen_57 (by decide) ?_
            exact ih2 (k + 1) th (by omega) ⟨by omega, (by first | exact thw_y hth.1 hth.2 (by assumption) | (rw [hv]; exact thw_n hth.1 hth.2 (by assumption)))⟩ _ _ hP hD hS ls (lv_sub hl [1, 0] rfl)
          · skip
            refine lv_aload_n hx hb dX5_listen_43 rfl (lv_at hl 0 rfl) ?_
            refine lv_aload_n hx hb dX5_listen_44 rfl (lv_at hl 0 rfl) ?_
            refine va_get (D := D) (ci := 5) (v := .int (σ 0 0)) (C := RX5) (T := TX5) (N := 8) hx hb hts hiX5 hown hK.1 hP 0 rfl rfl 0 (by decide) (hts (.fieldLink RX5 35 "IceLanesModel$State" "hour" "I") (by decide +kernel)) (fun _ h9 => h9) rfl dX5_listen_45 ?_
            rw [hh]
            refine lv_bipush (v := 12) hx hb dX5_listen_48 (by decide) ?_
            refine lv_idiv hx hb dX5_listen_50 (by decide) ?_
            rw [show nI h / 12 = nI (h / 12) from div_nI (d := 12) rfl (by omega) (by decide) (by decide)]
            refine va_put (D := D) (ci := 5) (v := .int (nI (h / 12))) (ty := .int) (C := RX5) (T := TX5) (N := 8) hx hb hts hiX5 tyX5 tyX5_ok nmX5 hown hK.1 hP hD hS 0 rfl rfl 2 (by decide) (hts (.fieldLink RX5 15 "IceLanesModel$State" "thawed" "I") (by decide +kernel)) (fun _ h9 => h9) rfl (by decide +kernel) rfl rfl (Nat.le_of_ble_eq_true rfl) dX5_listen_51 (fun H locs hP hD hS => ?_)
            have hP : va_P D vwCl (wStaE d o cI (σ 0 0) (σ 17 0) (nI (h / 12)) (σ 18 0) (σ 3) (σ 4) (σ 5) (σ 6) (σ 7) (σ 8) (σ 9) (σ 10) (σ 11) (σ 12) (σ 13)) H := hP
            have hD : va_D A (wStaE d o cI (σ 0 0) (σ 17 0) (nI (h / 12)) (σ 18 0) (σ 3) (σ 4) (σ 5) (σ 6) (σ 7) (σ 8) (σ 9) (σ 10) (σ 11) (σ 12) (σ 13)) := hD
            refine lv_iinc (v := nI (3 * (k + 1))) (lv' := [(1, .int (nI (3 * (k + 1)))), (0, .ref (d 0))]) hx hb dX5_listen_54 hl (k := 1) rfl (nI_add (3 * k) 3) (by decide) rfl (fun ls hl => ?_)
            refine lv_goto (tgt := 2) hx hb dX5_listen_57 (by decide) ?_
            exact ih2 (k + 1) (nI (h / 12)) (by omega) ⟨by omega, (by first | exact thw_y hth.1 hth.2 (by assumption) | (rw [hv]; exact thw_n hth.1 hth.2 (by assumption)))⟩ _ _ hP hD hS ls (lv_sub hl [1, 0] rfl)
  exact loop2 13 0 (σ 16 0) (by omega) ⟨by omega, (thwV_0 σ h).symm⟩ _ _ hP hD hS ls (lv_sub hl [1, 0] rfl)
