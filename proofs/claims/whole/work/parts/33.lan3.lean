set_option maxHeartbeats 4000000 in
set_option maxRecDepth 100000 in
theorem M_X4_bears_ok1 (l : Launch) (D : va_G) (cI : ClassId) (b : Nat → Nat) (a : Nat → Nat) (a2 : Nat → Nat) (σ : St) (σ2 : St) (ω : St) (f0 : Nat) (t0 : Nat) (h1 : (0 ≤ nI f0 ∧ nI f0 ≤ 11)) (h2 : (0 ≤ nI t0 ∧ nI t0 ≤ 11)) (hf : f0 < 12) (ht : t0 < 12) (hft : f0 ≤ t0) : Met l yX4_bears wsX4_bears ({ frames := 4, cells := 0, slots := 0, locals := 94 } : Room) (rdPc [.ref (b 0), .int (nI f0), .int (nI t0)] D (wLan b a a2 cI σ σ2 ω) [(cI, .int)]) (rdQi (bbM (bb (σ 3) (σ 4) f0 (t0 - f0)))) 0 0 (fun _ => False) := by
  refine Met.ofW (cc := cX4_bears) (maxL := 3) (ret := (some .int)) (by decide) rfl ?_
  intro p e s m args below meth c s₁ B hml hv
  obtain ⟨hargs, hP, hK⟩ := hv
  have hx := B.exec
  have hb := B.bytes
  have hr := B.returns
  have hts := atoms_spec (ws := wsX4_bears) B.pre
  have hown : s.vm.findClass RX4 = some m.cls := findClass_of_methodNamed B.named
  have hlocks := B.notSynchronized
  obtain ⟨_, hN⟩ := id hK
  have hiX2 : ∀ w ∈ wsX20, w ∈ wsX4_bears := by decide +kernel
  have hiX4 : ∀ w ∈ wsX40, w ∈ wsX4_bears := by decide +kernel
  refine my_abs (fun Q hQ => ?_)
  obtain ⟨ls, hl, hent⟩ := my_entry (m := m) (n := 3) hargs (Nat.le_of_ble_eq_true rfl)
  rw [hent]
  have hl : lv_has ls 3 [(0, .ref (b 0)), (1, .int (nI f0)), (2, .int (nI t0))] := hl
  show W p l e ({ frames := 4, cells := 0, slots := 0, locals := 94 } : Room) s m args below meth c s.heap [] 0 0 Q (F0 m 0 ls [])
  refine lv_iload_n hx hb dX4_bears_0 rfl (lv_at hl 1 rfl) ?_
  refine rd_i (va_runS (As := [.int (nI f0)]) (rest := []) ⟨hx, hb, hml, hown, hts⟩ (M_X4_isSection l D cI (nI f0) ) (va_cwS 1 hts gX4_bears_X4_isSection rfl rfl rfl (by decide +kernel) ⟨Nat.le_of_ble_eq_true rfl, Nat.le_of_ble_eq_true rfl⟩) (rdS hK hP [] [0] rfl rfl) rfl rfl hl.1 rfl (lv_room (Nat.le_of_ble_eq_true rfl)) dX4_bears_1 ⟨Nat.zero_le _, Nat.zero_le _⟩) ?_
  refine lv_if_eq (tgt := 14) hx hb dX4_bears_4 (by decide) (fun c_1 => ?_) (fun c_1 => ?_)
  · skip
    have c_1 : ¬ (0 ≤ (nI f0) ∧ (nI f0) ≤ 11) := bI_z.mp c_1
    first | exact absurd c_1 (by assumption) | exact absurd (by assumption) c_1
  · skip
    have c_1 : (0 ≤ (nI f0) ∧ (nI f0) ≤ 11) := bI_nz.mp c_1
    refine lv_iload_n hx hb dX4_bears_7 rfl (lv_at hl 2 rfl) ?_
    refine rd_i (va_runS (As := [.int (nI t0)]) (rest := []) ⟨hx, hb, hml, hown, hts⟩ (M_X4_isSection l D cI (nI t0) ) (va_cwS 1 hts gX4_bears_X4_isSection rfl rfl rfl (by decide +kernel) ⟨Nat.le_of_ble_eq_true rfl, Nat.le_of_ble_eq_true rfl⟩) (rdS hK hP [] [0] rfl rfl) rfl rfl hl.1 rfl (lv_room (Nat.le_of_ble_eq_true rfl)) dX4_bears_8 ⟨Nat.zero_le _, Nat.zero_le _⟩) ?_
    refine lv_if_ne (tgt := 24) hx hb dX4_bears_11 (by decide) (fun c_2 => ?_) (fun c_2 => ?_)
    · skip
      have c_2 : (0 ≤ (nI t0) ∧ (nI t0) ≤ 11) := bI_nz.mp c_2
      refine lv_aload_n hx hb dX4_bears_24 rfl (lv_at hl 0 rfl) ?_
      refine va_get (D := D) (ci := 4) (v := .ref (a 0)) (C := RX4) (T := TX4) (N := 3) hx hb hts hiX4 hown hK.1 hP 0 rfl rfl 0 (by decide) (hts (.fieldLink RX4 12 "IceLanes" "river" "LIceLanes$River;") (by decide +kernel)) (fun _ h9 => h9) rfl dX4_bears_25 ?_
      refine va_getN (D := D) (ci := 2) (v := .ref (a 3)) (C := RX2) (T := TX2) (N := 6) hx hb hts hiX2 hown hK.1 hP 4 rfl rfl 4 (by decide) (va_Nw.use rfl (nX4_58 hN)) (fun _ h9 => h9) rfl dX4_bears_28 ?_
      refine lv_iload_n hx hb dX4_bears_31 rfl (lv_at hl 1 rfl) ?_
      refine lv_iload_n hx hb dX4_bears_32 rfl (lv_at hl 2 rfl) ?_
      refine va_mmin hx hb (by rw [hml]; exact hl.1.symm) hown (hts (.methodLink RX4 187 Lib.Math.min.name) (by decide +kernel)) (hts (.static Lib.Math.min.name) (by decide +kernel)) (hts (.initialized "java/lang/Math") (by decide +kernel)) (hts (.code Lib.Math.min.name Lib.Math.min.code 2 (some .int)) (by decide +kernel)) (Nat.le_of_ble_eq_true rfl) (Nat.le_of_ble_eq_true rfl) (Nat.zero_le _) (Nat.zero_le _) dX4_bears_33 ?_
      refine W.eq (g2 := F0 m 36 ls [.int (mn (nI f0) (nI t0)), .ref (a 3)]) rfl ?_
      rw [show mn (nI f0) (nI t0) = nI f0 from mn_l ((nI_leI (by omega) (by omega)).mpr hft)]
      refine lv_iload_n hx hb dX4_bears_36 rfl (lv_at hl 1 rfl) ?_
      refine lv_iload_n hx hb dX4_bears_37 rfl (lv_at hl 2 rfl) ?_
      refine va_mmax hx hb (by rw [hml]; exact hl.1.symm) hown (hts (.methodLink RX4 190 Lib.Math.max.name) (by decide +kernel)) (hts (.static Lib.Math.max.name) (by decide +kernel)) (hts (.initialized "java/lang/Math") (by decide +kernel)) (hts (.code Lib.Math.max.name Lib.Math.max.code 2 (some .int)) (by decide +kernel)) (Nat.le_of_ble_eq_true rfl) (Nat.le_of_ble_eq_true rfl) (Nat.zero_le _) (Nat.zero_le _) dX4_bears_38 ?_
      refine W.eq (g2 := F0 m 41 ls [.int (mx (nI f0) (nI t0)), .int (nI f0), .ref (a 3)]) rfl ?_
      rw [show mx (nI f0) (nI t0) = nI t0 from mx_r ((nI_leI (by omega) (by omega)).mpr hft)]
      refine rd_i (va_runVN (As := [.int (nI f0), .int (nI t0)]) (rest := []) ⟨hx, hb, hml, hown, hts⟩ (M_X1_mostBorneBetween l D cI a σ f0 t0 hft (by omega)) ⟨va_cnB 2 hts gX4_bears_X1_mostBorneBetween_n193 rfl rfl rfl (nX4_193 hN) (hts (.initialized RX1) (by decide +kernel)) (by decide +kernel) ⟨Nat.le_of_ble_eq_true rfl, Nat.le_of_ble_eq_true rfl⟩, hts (.instanceMethod yX1_mostBorneBetween) (by decide +kernel), hts (.selects RX1 yX1_mostBorneBetween yX1_mostBorneBetween) (by decide +kernel)⟩ (rdV hK hP [7, 8, 9] [0] rfl rfl (ci := 1) (q0 := 7) rfl rfl) rfl rfl hl.1 rfl (lv_room (Nat.le_of_ble_eq_true rfl)) dX4_bears_41 ⟨Nat.zero_le _, Nat.zero_le _⟩) ?_
      subst hQ
      exact ret_rdi hx hb hr rfl hlocks (show bbM (bb ((σ 3)) ((σ 4)) f0 (t0 - f0)) = bbM (bb (σ 3) (σ 4) f0 (t0 - f0)) from rfl) dX4_bears_44
    · skip
      have c_2 : ¬ (0 ≤ (nI t0) ∧ (nI t0) ≤ 11) := bI_z.mp c_2
      first | exact absurd c_2 (by assumption) | exact absurd (by assumption) c_2
set_option maxHeartbeats 4000000 in
set_option maxRecDepth 100000 in
theorem M_X4_bears_ok2 (l : Launch) (D : va_G) (cI : ClassId) (b : Nat → Nat) (a : Nat → Nat) (a2 : Nat → Nat) (σ : St) (σ2 : St) (ω : St) (f0 : Nat) (t0 : Nat) (h1 : (0 ≤ nI f0 ∧ nI f0 ≤ 11)) (h2 : (0 ≤ nI t0 ∧ nI t0 ≤ 11)) (hf : f0 < 12) (ht : t0 < 12) (hft : t0 ≤ f0) : Met l yX4_bears wsX4_bears ({ frames := 4, cells := 0, slots := 0, locals := 94 } : Room) (rdPc [.ref (b 0), .int (nI f0), .int (nI t0)] D (wLan b a a2 cI σ σ2 ω) [(cI, .int)]) (rdQi (bbM (bb (σ 3) (σ 4) t0 (f0 - t0)))) 0 0 (fun _ => False) := by
  refine Met.ofW (cc := cX4_bears) (maxL := 3) (ret := (some .int)) (by decide) rfl ?_
  intro p e s m args below meth c s₁ B hml hv
  obtain ⟨hargs, hP, hK⟩ := hv
  have hx := B.exec
  have hb := B.bytes
  have hr := B.returns
  have hts := atoms_spec (ws := wsX4_bears) B.pre
  have hown : s.vm.findClass RX4 = some m.cls := findClass_of_methodNamed B.named
  have hlocks := B.notSynchronized
  obtain ⟨_, hN⟩ := id hK
  have hiX2 : ∀ w ∈ wsX20, w ∈ wsX4_bears := by decide +kernel
  have hiX4 : ∀ w ∈ wsX40, w ∈ wsX4_bears := by decide +kernel
  refine my_abs (fun Q hQ => ?_)
  obtain ⟨ls, hl, hent⟩ := my_entry (m := m) (n := 3) hargs (Nat.le_of_ble_eq_true rfl)
  rw [hent]
  have hl : lv_has ls 3 [(0, .ref (b 0)), (1, .int (nI f0)), (2, .int (nI t0))] := hl
  show W p l e ({ frames := 4, cells := 0, slots := 0, locals := 94 } : Room) s m args below meth c s.heap [] 0 0 Q (F0 m 0 ls [])
  refine lv_iload_n hx hb dX4_bears_0 rfl (lv_at hl 1 rfl) ?_
  refine rd_i (va_runS (As := [.int (nI f0)]) (rest := []) ⟨hx, hb, hml, hown, hts⟩ (M_X4_isSection l D cI (nI f0) ) (va_cwS 1 hts gX4_bears_X4_isSection rfl rfl rfl (by decide +kernel) ⟨Nat.le_of_ble_eq_true rfl, Nat.le_of_ble_eq_true rfl⟩) (rdS hK hP [] [0] rfl rfl) rfl rfl hl.1 rfl (lv_room (Nat.le_of_ble_eq_true rfl)) dX4_bears_1 ⟨Nat.zero_le _, Nat.zero_le _⟩) ?_
  refine lv_if_eq (tgt := 14) hx hb dX4_bears_4 (by decide) (fun c_1 => ?_) (fun c_1 => ?_)
  · skip
    have c_1 : ¬ (0 ≤ (nI f0) ∧ (nI f0) ≤ 11) := bI_z.mp c_1
    first | exact absurd c_1 (by assumption) | exact absurd (by assumption) c_1
  · skip
    have c_1 : (0 ≤ (nI f0) ∧ (nI f0) ≤ 11) := bI_nz.mp c_1
    refine lv_iload_n hx hb dX4_bears_7 rfl (lv_at hl 2 rfl) ?_
    refine rd_i (va_runS (As := [.int (nI t0)]) (rest := []) ⟨hx, hb, hml, hown, hts⟩ (M_X4_isSection l D cI (nI t0) ) (va_cwS 1 hts gX4_bears_X4_isSection rfl rfl rfl (by decide +kernel) ⟨Nat.le_of_ble_eq_true rfl, Nat.le_of_ble_eq_true rfl⟩) (rdS hK hP [] [0] rfl rfl) rfl rfl hl.1 rfl (lv_room (Nat.le_of_ble_eq_true rfl)) dX4_bears_8 ⟨Nat.zero_le _, Nat.zero_le _⟩) ?_
    refine lv_if_ne (tgt := 24) hx hb dX4_bears_11 (by decide) (fun c_2 => ?_) (fun c_2 => ?_)
    · skip
      have c_2 : (0 ≤ (nI t0) ∧ (nI t0) ≤ 11) := bI_nz.mp c_2
      refine lv_aload_n hx hb dX4_bears_24 rfl (lv_at hl 0 rfl) ?_
      refine va_get (D := D) (ci := 4) (v := .ref (a 0)) (C := RX4) (T := TX4) (N := 3) hx hb hts hiX4 hown hK.1 hP 0 rfl rfl 0 (by decide) (hts (.fieldLink RX4 12 "IceLanes" "river" "LIceLanes$River;") (by decide +kernel)) (fun _ h9 => h9) rfl dX4_bears_25 ?_
      refine va_getN (D := D) (ci := 2) (v := .ref (a 3)) (C := RX2) (T := TX2) (N := 6) hx hb hts hiX2 hown hK.1 hP 4 rfl rfl 4 (by decide) (va_Nw.use rfl (nX4_58 hN)) (fun _ h9 => h9) rfl dX4_bears_28 ?_
      refine lv_iload_n hx hb dX4_bears_31 rfl (lv_at hl 1 rfl) ?_
      refine lv_iload_n hx hb dX4_bears_32 rfl (lv_at hl 2 rfl) ?_
      refine va_mmin hx hb (by rw [hml]; exact hl.1.symm) hown (hts (.methodLink RX4 187 Lib.Math.min.name) (by decide +kernel)) (hts (.static Lib.Math.min.name) (by decide +kernel)) (hts (.initialized "java/lang/Math") (by decide +kernel)) (hts (.code Lib.Math.min.name Lib.Math.min.code 2 (some .int)) (by decide +kernel)) (Nat.le_of_ble_eq_true rfl) (Nat.le_of_ble_eq_true rfl) (Nat.zero_le _) (Nat.zero_le _) dX4_bears_33 ?_
      refine W.eq (g2 := F0 m 36 ls [.int (mn (nI f0) (nI t0)), .ref (a 3)]) rfl ?_
      rw [show mn (nI f0) (nI t0) = nI t0 from mn_r ((nI_leI (by omega) (by omega)).mpr hft)]
      refine lv_iload_n hx hb dX4_bears_36 rfl (lv_at hl 1 rfl) ?_
      refine lv_iload_n hx hb dX4_bears_37 rfl (lv_at hl 2 rfl) ?_
      refine va_mmax hx hb (by rw [hml]; exact hl.1.symm) hown (hts (.methodLink RX4 190 Lib.Math.max.name) (by decide +kernel)) (hts (.static Lib.Math.max.name) (by decide +kernel)) (hts (.initialized "java/lang/Math") (by decide +kernel)) (hts (.code Lib.Math.max.name Lib.Math.max.code 2 (some .int)) (by decide +kernel)) (Nat.le_of_ble_eq_true rfl) (Nat.le_of_ble_eq_true rfl) (Nat.zero_le _) (Nat.zero_le _) dX4_bears_38 ?_
      refine W.eq (g2 := F0 m 41 ls [.int (mx (nI f0) (nI t0)), .int (nI t0), .ref (a 3)]) rfl ?_
      rw [show mx (nI f0) (nI t0) = nI f0 from mx_l ((nI_leI (by omega) (by omega)).mpr hft)]
      refine rd_i (va_runVN (As := [.int (nI t0), .int (nI f0)]) (rest := []) ⟨hx, hb, hml, hown, hts⟩ (M_X1_mostBorneBetween l D cI a σ t0 f0 hft (by omega)) ⟨va_cnB 2 hts gX4_bears_X1_mostBorneBetween_n193 rfl rfl rfl (nX4_193 hN) (hts (.initialized RX1) (by decide +kernel)) (by decide +kernel) ⟨Nat.le_of_ble_eq_true rfl, Nat.le_of_ble_eq_true rfl⟩, hts (.instanceMethod yX1_mostBorneBetween) (by decide +kernel), hts (.selects RX1 yX1_mostBorneBetween yX1_mostBorneBetween) (by decide +kernel)⟩ (rdV hK hP [7, 8, 9] [0] rfl rfl (ci := 1) (q0 := 7) rfl rfl) rfl rfl hl.1 rfl (lv_room (Nat.le_of_ble_eq_true rfl)) dX4_bears_41 ⟨Nat.zero_le _, Nat.zero_le _⟩) ?_
      subst hQ
      exact ret_rdi hx hb hr rfl hlocks (show bbM (bb ((σ 3)) ((σ 4)) t0 (f0 - t0)) = bbM (bb (σ 3) (σ 4) t0 (f0 - t0)) from rfl) dX4_bears_44
    · skip
      have c_2 : ¬ (0 ≤ (nI t0) ∧ (nI t0) ≤ 11) := bI_z.mp c_2
      first | exact absurd c_2 (by assumption) | exact absurd (by assumption) c_2
set_option maxHeartbeats 4000000 in
set_option maxRecDepth 100000 in
theorem M_X4_arrives_ok (l : Launch) (D : va_G) (cI : ClassId) (b : Nat → Nat) (a : Nat → Nat) (a2 : Nat → Nat) (σ : St) (σ2 : St) (ω : St) (cu : Nat) (h : Nat) (nc : Nat) (sz : Nat) (hok : okR σ h nc) (hbd : h < 2 ^ 29) (hcu : cu < nc) (h1 : (0 ≤ nI cu ∧ nI cu ≤ σ 17 0 - 1)) : Met l yX4_arrives wsX4_arrives ({ frames := 7, cells := 0, slots := 0, locals := 163 } : Room) (wrPc [.ref (b 0), .int (nI cu)] D (wLan b a a2 cI σ σ2 ω) [(cI, .int)] sz) (wrQi (arrR σ cu) D (wLan b a a2 cI σ (arrE σ cu) ω) (va_A (wLan b a a2 cI σ σ2 ω) sz)) 0 0 (va_A (wLan b a a2 cI σ σ2 ω) sz) := by
  refine Met.ofW (cc := cX4_arrives) (maxL := 2) (ret := (some .int)) (by decide) rfl ?_
  intro p e s m args below meth c s₁ B hml hv
  obtain ⟨hargs, hsz, hP, hK, hD0⟩ := hv
  have hx := B.exec
  have hb := B.bytes
  have hr := B.returns
  have hts := atoms_spec (ws := wsX4_arrives) B.pre
  have hown : s.vm.findClass RX4 = some m.cls := findClass_of_methodNamed B.named
  have hlocks := B.notSynchronized
  obtain ⟨_, hN⟩ := id hK
  have hiX2 : ∀ w ∈ wsX20, w ∈ wsX4_arrives := by decide +kernel
  have hiX4 : ∀ w ∈ wsX40, w ∈ wsX4_arrives := by decide +kernel
  subst hsz
  have hD := hD0.self (sz := s.heap.size)
  generalize hAe : va_A (wLan b a a2 cI σ σ2 ω) s.heap.size = A at hD ⊢
  have hA : ∀ q : Nat, s.heap.size ≤ q → A q := fun q h => by rw [← hAe]; exact Or.inr h
  have hS : va_S A s.heap s.heap [] := va_S.rf
  have hP : va_P D vwCl (wLan b a a2 cI σ σ2 ω) s.heap := hP
  refine my_abs (fun Q hQ => ?_)
  obtain ⟨ls, hl, hent⟩ := my_entry (m := m) (n := 2) hargs (Nat.le_of_ble_eq_true rfl)
  rw [hent]
  have hl : lv_has ls 2 [(0, .ref (b 0)), (1, .int (nI cu))] := hl
  show W p l e ({ frames := 7, cells := 0, slots := 0, locals := 163 } : Room) s m args below meth c s.heap [] 0 0 Q (F0 m 0 ls [])
  refine lv_aload_n hx hb dX4_arrives_0 rfl (lv_at hl 0 rfl) ?_
  refine va_get (D := D) (ci := 4) (v := .ref (a 0)) (C := RX4) (T := TX4) (N := 3) hx hb hts hiX4 hown hK.1 hP 0 rfl rfl 0 (by decide) (hts (.fieldLink RX4 12 "IceLanes" "river" "LIceLanes$River;") (by decide +kernel)) (fun _ h9 => h9) rfl dX4_arrives_1 ?_
  refine va_getN (D := D) (ci := 2) (v := .ref (a 6)) (C := RX2) (T := TX2) (N := 6) hx hb hts hiX2 hown hK.1 hP 4 rfl rfl 5 (by decide) (va_Nw.use rfl (nX4_88 hN)) (fun _ h9 => h9) rfl dX4_arrives_4 ?_
  refine lv_iload_n hx hb dX4_arrives_7 rfl (lv_at hl 1 rfl) ?_
  refine rd_i (va_runVN (As := [.int (nI cu)]) (rest := []) ⟨hx, hb, hml, hown, hts⟩ (M_X0_has l D cI a σ (nI cu) ) ⟨va_cnB 1 hts gX4_arrives_X0_has_n117 rfl rfl rfl (nX4_117 hN) (hts (.initialized RX0) (by decide +kernel)) (by decide +kernel) ⟨Nat.le_of_ble_eq_true rfl, Nat.le_of_ble_eq_true rfl⟩, hts (.instanceMethod yX0_has) (by decide +kernel), hts (.selects RX0 yX0_has yX0_has) (by decide +kernel)⟩ (rdV hK hP [10, 11, 12, 13, 14, 15, 16, 17, 18, 19] [0] rfl rfl (ci := 0) (q0 := 10) rfl rfl) rfl rfl hl.1 rfl (lv_room (Nat.le_of_ble_eq_true rfl)) dX4_arrives_8 ⟨Nat.zero_le _, Nat.zero_le _⟩) ?_
  refine lv_if_ne (tgt := 24) hx hb dX4_arrives_11 (by decide) (fun c_1 => ?_) (fun c_1 => ?_)
  · skip
    have c_1 : (0 ≤ (nI cu) ∧ (nI cu) ≤ (σ 17 0) - 1) := bI_nz.mp c_1
    refine lv_aload_n hx hb dX4_arrives_24 rfl (lv_at hl 0 rfl) ?_
    refine va_get (D := D) (ci := 4) (v := .ref (a2 0)) (C := RX4) (T := TX4) (N := 3) hx hb hts hiX4 hown hK.1 hP 0 rfl rfl 1 (by decide) (hts (.fieldLink RX4 16 "IceLanes" "ahead" "LIceLanes$River;") (by decide +kernel)) (fun _ h9 => h9) rfl dX4_arrives_25 ?_
    refine lv_aload_n hx hb dX4_arrives_28 rfl (lv_at hl 0 rfl) ?_
    refine va_get (D := D) (ci := 4) (v := .ref (a 0)) (C := RX4) (T := TX4) (N := 3) hx hb hts hiX4 hown hK.1 hP 0 rfl rfl 0 (by decide) (hts (.fieldLink RX4 12 "IceLanes" "river" "LIceLanes$River;") (by decide +kernel)) (fun _ h9 => h9) rfl dX4_arrives_29 ?_
    refine wr_v (wn := wLan b a a2 cI σ σ ω) (va_runVN (As := [.ref (a 0)]) (rest := []) ⟨hx, hb, hml, hown, hts⟩ (M_X2_become l D cI a2 a σ2 σ _ ) ⟨va_cnB 1 hts gX4_arrives_X2_become_n196 rfl rfl rfl (nX4_196 hN) (hts (.initialized RX2) (by decide +kernel)) (by decide +kernel) ⟨Nat.le_of_ble_eq_true rfl, Nat.le_of_ble_eq_true rfl⟩, hts (.instanceMethod yX2_become) (by decide +kernel), hts (.selects RX2 yX2_become yX2_become) (by decide +kernel)⟩ (wrV hK hP hD [20, 21, 22, 23, 24, 25, 26, 27, 28, 29, 30, 31, 32, 33, 34, 35, 4, 5, 6, 7, 8, 9, 10, 11, 12, 13, 14, 15, 16, 17, 18, 19] [0] rfl rfl rfl (ci := 2) (q0 := 20) rfl rfl) rfl rfl hl.1 rfl (lv_room (Nat.le_of_ble_eq_true rfl)) dX4_arrives_32 ⟨Nat.le_of_ble_eq_true rfl, Nat.le_of_ble_eq_true rfl⟩) hP hD hS hA [20, 21, 22, 23, 24, 25, 26, 27, 28, 29, 30, 31, 32, 33, 34, 35, 4, 5, 6, 7, 8, 9, 10, 11, 12, 13, 14, 15, 16, 17, 18, 19] [0, 1, 2, 3] [0, 1, 2, 3, 20, 21, 22, 23, 24, 25, 26, 27, 28, 29, 30, 31, 32, 33, 34, 35, 4, 5, 6, 7, 8, 9, 10, 11, 12, 13, 14, 15, 16, 17, 18, 19] rfl rfl rfl rfl rfl rfl (fun H locs hP hD hS => ?_)
    refine lv_aload_n hx hb dX4_arrives_35 rfl (lv_at hl 0 rfl) ?_
    refine va_get (D := D) (ci := 4) (v := .ref (a2 0)) (C := RX4) (T := TX4) (N := 3) hx hb hts hiX4 hown hK.1 hP 0 rfl rfl 1 (by decide) (hts (.fieldLink RX4 16 "IceLanes" "ahead" "LIceLanes$River;") (by decide +kernel)) (fun _ h9 => h9) rfl dX4_arrives_36 ?_
    refine lv_iload_n hx hb dX4_arrives_39 rfl (lv_at hl 1 rfl) ?_
    refine wr_i (wn := wLan b a a2 cI σ (arrE σ cu) ω) (va_runVN (As := [.int (nI cu)]) (rest := []) ⟨hx, hb, hml, hown, hts⟩ (M_X2_hoursTillArrival l D cI a2 σ cu h nc _ hok hbd hcu) ⟨va_cnB 1 hts gX4_arrives_X2_hoursTillArrival_n200 rfl rfl rfl (nX4_200 hN) (hts (.initialized RX2) (by decide +kernel)) (by decide +kernel) ⟨Nat.le_of_ble_eq_true rfl, Nat.le_of_ble_eq_true rfl⟩, hts (.instanceMethod yX2_hoursTillArrival) (by decide +kernel), hts (.selects RX2 yX2_hoursTillArrival yX2_hoursTillArrival) (by decide +kernel)⟩ (wrV hK hP hD [20, 21, 22, 23, 24, 25, 26, 27, 28, 29, 30, 31, 32, 33, 34, 35] [0] rfl rfl rfl (ci := 2) (q0 := 20) rfl rfl) rfl rfl hl.1 rfl (lv_room (Nat.le_of_ble_eq_true rfl)) dX4_arrives_40 ⟨Nat.le_of_ble_eq_true rfl, Nat.le_of_ble_eq_true rfl⟩) hP hD hS hA [20, 21, 22, 23, 24, 25, 26, 27, 28, 29, 30, 31, 32, 33, 34, 35] [0, 1, 2, 3, 4, 5, 6, 7, 8, 9, 10, 11, 12, 13, 14, 15, 16, 17, 18, 19] [0, 1, 2, 3, 4, 5, 6, 7, 8, 9, 10, 11, 12, 13, 14, 15, 16, 17, 18, 19, 20, 21, 22, 23, 24, 25, 26, 27, 28, 29, 30, 31, 32, 33, 34, 35] rfl rfl rfl rfl rfl rfl (fun H locs hP hD hS => ?_)
    generalize eσ_2 : arrE σ cu = σ_2 at hP hD
    subst hQ
    have hst_s2 : σ_2 = arrE σ cu := by subst_vars; rfl
    rw [hst_s2] at hP hD
    exact ret_wri hx hb hr rfl hlocks hP hD hS (show arrR σ cu = arrR σ cu from rfl) dX4_arrives_43
  · skip
    have c_1 : ¬ (0 ≤ (nI cu) ∧ (nI cu) ≤ (σ 17 0) - 1) := bI_z.mp c_1
    first | exact absurd c_1 (by assumption) | exact absurd (by assumption) c_1
set_option maxHeartbeats 4000000 in
set_option maxRecDepth 100000 in
theorem M_X4_best_ok (l : Launch) (D : va_G) (cI : ClassId) (b : Nat → Nat) (a : Nat → Nat) (a2 : Nat → Nat) (σ : St) (σ2 : St) (ω : St) (cu : Nat) (h : Nat) (nc : Nat) (sz : Nat) (hok : okR σ h nc) (hbd : h < 2 ^ 29) (hcu : cu < nc) (h1 : (0 ≤ nI cu ∧ nI cu ≤ σ 17 0 - 1)) : Met l yX4_best wsX4_best ({ frames := 7, cells := 0, slots := 0, locals := 163 } : Room) (wrPc [.ref (b 0), .int (nI cu)] D (wLan b a a2 cI σ σ2 ω) [(cI, .int)] sz) (wrQi (bcR σ cu 21) D (wLan b a a2 cI σ (bcE σ cu 21 σ2) ω) (va_A (wLan b a a2 cI σ σ2 ω) sz)) 0 0 (va_A (wLan b a a2 cI σ σ2 ω) sz) := by
  refine Met.ofW (cc := cX4_best) (maxL := 3) (ret := (some .int)) (by decide) rfl ?_
  intro p e s m args below meth c s₁ B hml hv
  obtain ⟨hargs, hsz, hP, hK, hD0⟩ := hv
  have hx := B.exec
  have hb := B.bytes
  have hr := B.returns
  have hts := atoms_spec (ws := wsX4_best) B.pre
  have hown : s.vm.findClass RX4 = some m.cls := findClass_of_methodNamed B.named
  have hlocks := B.notSynchronized
  obtain ⟨_, hN⟩ := id hK
  have hiX0 : ∀ w ∈ wsX00, w ∈ wsX4_best := by decide +kernel
  have hiX2 : ∀ w ∈ wsX20, w ∈ wsX4_best := by decide +kernel
  have hiX4 : ∀ w ∈ wsX40, w ∈ wsX4_best := by decide +kernel
  subst hsz
  have hD := hD0.self (sz := s.heap.size)
  generalize hAe : va_A (wLan b a a2 cI σ σ2 ω) s.heap.size = A at hD ⊢
  have hA : ∀ q : Nat, s.heap.size ≤ q → A q := fun q h => by rw [← hAe]; exact Or.inr h
  have hS : va_S A s.heap s.heap [] := va_S.rf
  have hP : va_P D vwCl (wLan b a a2 cI σ σ2 ω) s.heap := hP
  refine my_abs (fun Q hQ => ?_)
  obtain ⟨ls, hl, hent⟩ := my_entry (m := m) (n := 3) hargs (Nat.le_of_ble_eq_true rfl)
  rw [hent]
  have hl : lv_has ls 3 [(0, .ref (b 0)), (1, .int (nI cu))] := hl
  show W p l e ({ frames := 7, cells := 0, slots := 0, locals := 163 } : Room) s m args below meth c s.heap [] 0 0 Q (F0 m 0 ls [])
  refine lv_aload_n hx hb dX4_best_0 rfl (lv_at hl 0 rfl) ?_
  refine va_get (D := D) (ci := 4) (v := .ref (a 0)) (C := RX4) (T := TX4) (N := 3) hx hb hts hiX4 hown hK.1 hP 0 rfl rfl 0 (by decide) (hts (.fieldLink RX4 12 "IceLanes" "river" "LIceLanes$River;") (by decide +kernel)) (fun _ h9 => h9) rfl dX4_best_1 ?_
  refine va_getN (D := D) (ci := 2) (v := .ref (a 6)) (C := RX2) (T := TX2) (N := 6) hx hb hts hiX2 hown hK.1 hP 4 rfl rfl 5 (by decide) (va_Nw.use rfl (nX4_88 hN)) (fun _ h9 => h9) rfl dX4_best_4 ?_
  refine lv_iload_n hx hb dX4_best_7 rfl (lv_at hl 1 rfl) ?_
  refine rd_i (va_runVN (As := [.int (nI cu)]) (rest := []) ⟨hx, hb, hml, hown, hts⟩ (M_X0_has l D cI a σ (nI cu) ) ⟨va_cnB 1 hts gX4_best_X0_has_n117 rfl rfl rfl (nX4_117 hN) (hts (.initialized RX0) (by decide +kernel)) (by decide +kernel) ⟨Nat.le_of_ble_eq_true rfl, Nat.le_of_ble_eq_true rfl⟩, hts (.instanceMethod yX0_has) (by decide +kernel), hts (.selects RX0 yX0_has yX0_has) (by decide +kernel)⟩ (rdV hK hP [10, 11, 12, 13, 14, 15, 16, 17, 18, 19] [0] rfl rfl (ci := 0) (q0 := 10) rfl rfl) rfl rfl hl.1 rfl (lv_room (Nat.le_of_ble_eq_true rfl)) dX4_best_8 ⟨Nat.zero_le _, Nat.zero_le _⟩) ?_
  refine lv_if_ne (tgt := 24) hx hb dX4_best_11 (by decide) (fun c_1 => ?_) (fun c_1 => ?_)
  · skip
    have c_1 : (0 ≤ (nI cu) ∧ (nI cu) ≤ (σ 17 0) - 1) := bI_nz.mp c_1
    refine lv_bipush (v := 20) hx hb dX4_best_24 (by decide) ?_
    refine lv_istore_n (lv' := [(2, .int 20), (0, .ref (b 0)), (1, .int (nI cu))]) hx hb dX4_best_26 rfl hl (by decide) rfl (fun ls hl => ?_)
    have hl : lv_has ls 3 [(2, .int (nI 21 - 1)), (0, .ref (b 0)), (1, .int (nI cu))] := by rw [show nI 21 - 1 = 20 from (by decide)]; exact hl
    have loop27 : ∀ (n : Nat) (m1 : Nat) (α : St), m1 < n → (m1 ≤ 21 ∧ bcR σ cu m1 = bcR σ cu 21 ∧ bcE σ cu m1 α = bcE σ cu 21 σ2) → ∀ (H : Heap) (locs : List Loc), va_P D vwCl (wLan b a a2 cI σ α ω) H → va_D A (wLan b a a2 cI σ α ω) → va_S A s.heap H locs → ∀ (ls : Array Slot), lv_has ls 3 [(0, .ref (b 0)), (1, .int (nI cu)), (2, .int (nI m1 - 1))] → W p l e ({ frames := 7, cells := 0, slots := 0, locals := 163 } : Room) s m args below meth c H locs 0 0 Q (F0 m 27 ls []) := by
      intro n
      induction n with
      | zero => intro m1  α  hf; exact absurd hf (Nat.not_lt_zero _)
      | succ n ih27 =>
        intro m1  α  hf ⟨hm, hr9, he⟩ H locs hP hD hS ls hl
        refine lv_iload_n hx hb dX4_best_27 rfl (lv_at hl 2 rfl) ?_
        refine lv_if_lt (tgt := 75) hx hb dX4_best_28 (by decide) (fun c_2 => ?_) (fun c_2 => ?_)
        · skip
          have hm0 : m1 = 0 := (sub1_lt (by omega)).mp c_2
          refine lv_iconst (v := (-1)) hx hb dX4_best_75 (by decide) ?_
          subst hQ
          have hst_s2 : α = bcE σ cu 21 σ2 := (by rw [← he, hm0]; rfl)
          rw [hst_s2] at hP hD
          exact ret_wri hx hb hr rfl hlocks hP hD hS (show (-1) = bcR σ cu 21 from (by rw [← hr9, hm0]; rfl)) dX4_best_76
        · skip
          have hm0 : ¬ m1 = 0 := fun z => c_2 ((sub1_lt (by omega)).mpr z)
          obtain ⟨m2, em⟩ : ∃ m2, m1 = m2 + 1 := ⟨m1 - 1, by omega⟩
          have hcu8 : cu < 8 := Nat.lt_of_lt_of_le hcu hok.2.2.1
          have hl : lv_has ls 3 [(0, .ref (b 0)), (1, .int (nI cu)), (2, .int (nI m2))] := by rw [show nI m2 = nI m1 - 1 from (by rw [em, nI_pred])]; exact hl
          refine lv_aload_n hx hb dX4_best_31 rfl (lv_at hl 0 rfl) ?_
          refine va_get (D := D) (ci := 4) (v := .ref (a2 0)) (C := RX4) (T := TX4) (N := 3) hx hb hts hiX4 hown hK.1 hP 0 rfl rfl 1 (by decide) (hts (.fieldLink RX4 16 "IceLanes" "ahead" "LIceLanes$River;") (by decide +kernel)) (fun _ h9 => h9) rfl dX4_best_32 ?_
          refine lv_aload_n hx hb dX4_best_35 rfl (lv_at hl 0 rfl) ?_
          refine va_get (D := D) (ci := 4) (v := .ref (a 0)) (C := RX4) (T := TX4) (N := 3) hx hb hts hiX4 hown hK.1 hP 0 rfl rfl 0 (by decide) (hts (.fieldLink RX4 12 "IceLanes" "river" "LIceLanes$River;") (by decide +kernel)) (fun _ h9 => h9) rfl dX4_best_36 ?_
          refine wr_v (wn := wLan b a a2 cI σ σ ω) (va_runVN (As := [.ref (a 0)]) (rest := []) ⟨hx, hb, hml, hown, hts⟩ (M_X2_become l D cI a2 a α σ _ ) ⟨va_cnB 1 hts gX4_best_X2_become_n196 rfl rfl rfl (nX4_196 hN) (hts (.initialized RX2) (by decide +kernel)) (by decide +kernel) ⟨Nat.le_of_ble_eq_true rfl, Nat.le_of_ble_eq_true rfl⟩, hts (.instanceMethod yX2_become) (by decide +kernel), hts (.selects RX2 yX2_become yX2_become) (by decide +kernel)⟩ (wrV hK hP hD [20, 21, 22, 23, 24, 25, 26, 27, 28, 29, 30, 31, 32, 33, 34, 35, 4, 5, 6, 7, 8, 9, 10, 11, 12, 13, 14, 15, 16, 17, 18, 19] [0] rfl rfl rfl (ci := 2) (q0 := 20) rfl rfl) rfl rfl hl.1 rfl (lv_room (Nat.le_of_ble_eq_true rfl)) dX4_best_39 ⟨Nat.le_of_ble_eq_true rfl, Nat.le_of_ble_eq_true rfl⟩) hP hD hS hA [20, 21, 22, 23, 24, 25, 26, 27, 28, 29, 30, 31, 32, 33, 34, 35, 4, 5, 6, 7, 8, 9, 10, 11, 12, 13, 14, 15, 16, 17, 18, 19] [0, 1, 2, 3] [0, 1, 2, 3, 20, 21, 22, 23, 24, 25, 26, 27, 28, 29, 30, 31, 32, 33, 34, 35, 4, 5, 6, 7, 8, 9, 10, 11, 12, 13, 14, 15, 16, 17, 18, 19] rfl rfl rfl rfl rfl rfl (fun H locs hP hD hS => ?_)
          refine lv_aload_n hx hb dX4_best_42 rfl (lv_at hl 0 rfl) ?_
          refine va_get (D := D) (ci := 4) (v := .ref (a2 0)) (C := RX4) (T := TX4) (N := 3) hx hb hts hiX4 hown hK.1 hP 0 rfl rfl 1 (by decide) (hts (.fieldLink RX4 16 "IceLanes" "ahead" "LIceLanes$River;") (by decide +kernel)) (fun _ h9 => h9) rfl dX4_best_43 ?_
          refine va_getN (D := D) (ci := 2) (v := .ref (a2 6)) (C := RX2) (T := TX2) (N := 6) hx hb hts hiX2 hown hK.1 hP 20 rfl rfl 5 (by decide) (va_Nw.use rfl (nX4_88 hN)) (fun _ h9 => h9) rfl dX4_best_46 ?_
          refine va_getN (D := D) (ci := 0) (v := .ref (a2 8)) (C := RX0) (T := TX0) (N := 10) hx hb hts hiX0 hown hK.1 hP 26 rfl rfl 2 (by decide) (va_Nw.use rfl (nX4_143 hN)) (fun _ h9 => h9) rfl dX4_best_49 ?_
          refine lv_iload_n hx hb dX4_best_52 rfl (lv_at hl 1 rfl) ?_
          refine lv_iload_n hx hb dX4_best_53 rfl (lv_at hl 2 rfl) ?_
          refine va_iast hx hb hK.1 hP hD hS 28 0 rfl rfl (by first | assumption | exact vp_in_nI (by omega) (by decide)) dX4_best_54 (fun H locs hP hD hS => ?_)
          rw [nI_clamp (n := cu) (by omega)] at hP hD
          have hP : va_P D vwCl (wTopE b a a2 ++ (wWag b cI ω ++ (wRiv a cI σ ++ wRivE a2 cI (σ 0 0) (σ 16 0) (σ 1) (σ 2) (σ 3) (σ 4) (σ 17 0) (σ 5) (upd (σ 6) cu (nI m2)) (σ 7) (σ 8) (σ 9) (σ 10) (σ 11) (σ 12) (σ 13)))) H := hP
          have hD : va_D A (wTopE b a a2 ++ (wWag b cI ω ++ (wRiv a cI σ ++ wRivE a2 cI (σ 0 0) (σ 16 0) (σ 1) (σ 2) (σ 3) (σ 4) (σ 17 0) (σ 5) (upd (σ 6) cu (nI m2)) (σ 7) (σ 8) (σ 9) (σ 10) (σ 11) (σ 12) (σ 13)))) := hD
          refine lv_aload_n hx hb dX4_best_55 rfl (lv_at hl 0 rfl) ?_
          refine va_get (D := D) (ci := 4) (v := .ref (a2 0)) (C := RX4) (T := TX4) (N := 3) hx hb hts hiX4 hown hK.1 hP 0 rfl rfl 1 (by decide) (hts (.fieldLink RX4 16 "IceLanes" "ahead" "LIceLanes$River;") (by decide +kernel)) (fun _ h9 => h9) rfl dX4_best_56 ?_
          refine lv_iload_n hx hb dX4_best_59 rfl (lv_at hl 1 rfl) ?_
          refine wr_i (wn := wLan b a a2 cI σ (arrE (put σ 6 (upd (σ 6) cu (nI m2))) cu) ω) (va_runVN (As := [.int (nI cu)]) (rest := []) ⟨hx, hb, hml, hown, hts⟩ (M_X2_hoursTillArrival l D cI a2 (put σ 6 (upd (σ 6) cu (nI m2))) cu h nc _ (okR_lt (cu := cu) (m := m2) hok) hbd hcu) ⟨va_cnB 1 hts gX4_best_X2_hoursTillArrival_n200 rfl rfl rfl (nX4_200 hN) (hts (.initialized RX2) (by decide +kernel)) (by decide +kernel) ⟨Nat.le_of_ble_eq_true rfl, Nat.le_of_ble_eq_true rfl⟩, hts (.instanceMethod yX2_hoursTillArrival) (by decide +kernel), hts (.selects RX2 yX2_hoursTillArrival yX2_hoursTillArrival) (by decide +kernel)⟩ (wrV hK hP hD [20, 21, 22, 23, 24, 25, 26, 27, 28, 29, 30, 31, 32, 33, 34, 35] [0] rfl rfl rfl (ci := 2) (q0 := 20) rfl rfl) rfl rfl hl.1 rfl (lv_room (Nat.le_of_ble_eq_true rfl)) dX4_best_60 ⟨Nat.le_of_ble_eq_true rfl, Nat.le_of_ble_eq_true rfl⟩) hP hD hS hA [20, 21, 22, 23, 24, 25, 26, 27, 28, 29, 30, 31, 32, 33, 34, 35] [0, 1, 2, 3, 4, 5, 6, 7, 8, 9, 10, 11, 12, 13, 14, 15, 16, 17, 18, 19] [0, 1, 2, 3, 4, 5, 6, 7, 8, 9, 10, 11, 12, 13, 14, 15, 16, 17, 18, 19, 20, 21, 22, 23, 24, 25, 26, 27, 28, 29, 30, 31, 32, 33, 34, 35] rfl rfl rfl rfl rfl rfl (fun H locs hP hD hS => ?_)
          refine W.eq (g2 := F0 m 63 ls [.int (arrR (put σ 6 (upd (σ 6) cu (nI m2))) cu)]) rfl ?_
          generalize eσ_3 : arrE (put σ 6 (upd (σ 6) cu (nI m2))) cu = σ_3 at hP hD
          refine lv_iconst (v := (-1)) hx hb dX4_best_63 (by decide) ?_
          refine lv_icmp_eq (tgt := 69) hx hb dX4_best_64 (by decide) (fun c_4 => ?_) (fun c_4 => ?_)
          · skip
            have hbt : arrR (ltF σ cu m2) cu = -1 := c_4
            refine lv_iinc (v := nI m2 - 1) (lv' := [(2, .int (nI m2 - 1)), (0, .ref (b 0)), (1, .int (nI cu))]) hx hb dX4_best_69 hl (k := 2) rfl (by rw [Int32.sub_eq_add_neg]; rfl) (by decide) rfl (fun ls hl => ?_)
            refine lv_goto (tgt := 27) hx hb dX4_best_72 (by decide) ?_
            exact ih27 m2 σ_3 (by omega) ⟨by omega, (by rw [← hr9, em, bcR_t hbt]), (by rw [← eσ_3, ← he, em, bcE_t hbt]; rfl)⟩ _ _ hP hD hS ls (lv_sub hl [1, 2, 0] rfl)
          · skip
            have hbf : ¬ arrR (ltF σ cu m2) cu = -1 := c_4
            refine lv_iload_n hx hb dX4_best_67 rfl (lv_at hl 2 rfl) ?_
            subst hQ
            have hst_s2 : σ_3 = bcE σ cu 21 σ2 := (by rw [← eσ_3, ← he, em, bcE_f hbf]; rfl)
            rw [hst_s2] at hP hD
            exact ret_wri hx hb hr rfl hlocks hP hD hS (show nI m2 = bcR σ cu 21 from (by rw [← hr9, em, bcR_f hbf])) dX4_best_68
    exact loop27 22 21 σ2 (by omega) ⟨by omega, rfl, rfl⟩ _ _ hP hD hS ls (lv_sub hl [1, 2, 0] rfl)
  · skip
    have c_1 : ¬ (0 ≤ (nI cu) ∧ (nI cu) ≤ (σ 17 0) - 1) := bI_z.mp c_1
    first | exact absurd c_1 (by assumption) | exact absurd (by assumption) c_1
set_option maxHeartbeats 4000000 in
set_option maxRecDepth 100000 in
theorem M_X4_thaw_ok2 (l : Launch) (D : va_G) (cI : ClassId) (b : Nat → Nat) (a : Nat → Nat) (a2 : Nat → Nat) (σ : St) (σ2 : St) (ω : St) (sz : Nat) (h1 : ¬ σ 16 0 = -1) : Met l yX4_thaw wsX4_thaw ({ frames := 1, cells := 0, slots := 0, locals := 20 } : Room) (wrPc [.ref (b 0)] D (wLan b a a2 cI σ σ2 ω) [(cI, .int)] sz) (wrQi (σ 16 0) D (wLan b a a2 cI σ σ2 ω) (va_A (wLan b a a2 cI σ σ2 ω) sz)) 0 0 (va_A (wLan b a a2 cI σ σ2 ω) sz) := by
  refine Met.ofW (cc := cX4_thaw) (maxL := 1) (ret := (some .int)) (by decide) rfl ?_
  intro p e s m args below meth c s₁ B hml hv
  obtain ⟨hargs, hsz, hP, hK, hD0⟩ := hv
  have hx := B.exec
  have hb := B.bytes
  have hr := B.returns
  have hts := atoms_spec (ws := wsX4_thaw) B.pre
  have hown : s.vm.findClass RX4 = some m.cls := findClass_of_methodNamed B.named
  have hlocks := B.notSynchronized
  obtain ⟨_, hN⟩ := id hK
  have hiX2 : ∀ w ∈ wsX20, w ∈ wsX4_thaw := by decide +kernel
  have hiX4 : ∀ w ∈ wsX40, w ∈ wsX4_thaw := by decide +kernel
  subst hsz
  have hD := hD0.self (sz := s.heap.size)
  generalize hAe : va_A (wLan b a a2 cI σ σ2 ω) s.heap.size = A at hD ⊢
  have hA : ∀ q : Nat, s.heap.size ≤ q → A q := fun q h => by rw [← hAe]; exact Or.inr h
  have hS : va_S A s.heap s.heap [] := va_S.rf
  have hP : va_P D vwCl (wLan b a a2 cI σ σ2 ω) s.heap := hP
  refine my_abs (fun Q hQ => ?_)
  obtain ⟨ls, hl, hent⟩ := my_entry (m := m) (n := 1) hargs (Nat.le_of_ble_eq_true rfl)
  rw [hent]
  have hl : lv_has ls 1 [(0, .ref (b 0))] := hl
  show W p l e ({ frames := 1, cells := 0, slots := 0, locals := 20 } : Room) s m args below meth c s.heap [] 0 0 Q (F0 m 0 ls [])
  refine lv_aload_n hx hb dX4_thaw_0 rfl (lv_at hl 0 rfl) ?_
  refine va_get (D := D) (ci := 4) (v := .ref (a 0)) (C := RX4) (T := TX4) (N := 3) hx hb hts hiX4 hown hK.1 hP 0 rfl rfl 0 (by decide) (hts (.fieldLink RX4 12 "IceLanes" "river" "LIceLanes$River;") (by decide +kernel)) (fun _ h9 => h9) rfl dX4_thaw_1 ?_
  refine rd_i (va_runVN (As := []) (rest := []) ⟨hx, hb, hml, hown, hts⟩ (M_X2_hasThawed l D cI a σ ) ⟨va_cnB 0 hts gX4_thaw_X2_hasThawed_n163 rfl rfl rfl (nX4_163 hN) (hts (.initialized RX2) (by decide +kernel)) (by decide +kernel) ⟨Nat.le_of_ble_eq_true rfl, Nat.le_of_ble_eq_true rfl⟩, hts (.instanceMethod yX2_hasThawed) (by decide +kernel), hts (.selects RX2 yX2_hasThawed yX2_hasThawed) (by decide +kernel)⟩ (rdV hK hP [4, 5, 6, 7, 8, 9, 10, 11, 12, 13, 14, 15, 16, 17, 18, 19] [0] rfl rfl (ci := 2) (q0 := 4) rfl rfl) rfl rfl hl.1 rfl (lv_room (Nat.le_of_ble_eq_true rfl)) dX4_thaw_4 ⟨Nat.zero_le _, Nat.zero_le _⟩) ?_
  refine lv_if_eq (tgt := 18) hx hb dX4_thaw_7 (by decide) (fun c_1 => ?_) (fun c_1 => ?_)
  · skip
    have c_1 : ¬ (¬ (σ 16 0) = -1) := bI_z.mp c_1
    exact absurd (Classical.not_not.mp c_1) h1
  · skip
    have c_1 : (¬ (σ 16 0) = -1) := bI_nz.mp c_1
    refine lv_aload_n hx hb dX4_thaw_10 rfl (lv_at hl 0 rfl) ?_
    refine va_get (D := D) (ci := 4) (v := .ref (a 0)) (C := RX4) (T := TX4) (N := 3) hx hb hts hiX4 hown hK.1 hP 0 rfl rfl 0 (by decide) (hts (.fieldLink RX4 12 "IceLanes" "river" "LIceLanes$River;") (by decide +kernel)) (fun _ h9 => h9) rfl dX4_thaw_11 ?_
    refine va_getN (D := D) (ci := 2) (v := .int (σ 16 0)) (C := RX2) (T := TX2) (N := 6) hx hb hts hiX2 hown hK.1 hP 4 rfl rfl 1 (by decide) (va_Nw.use rfl (nX4_203 hN)) (fun _ h9 => h9) rfl dX4_thaw_14 ?_
    subst hQ
    exact ret_wri hx hb hr rfl hlocks hP hD hS (show σ 16 0 = σ 16 0 from rfl) dX4_thaw_17
set_option maxHeartbeats 4000000 in
set_option maxRecDepth 100000 in
theorem M_X4_thaw_ok1 (l : Launch) (D : va_G) (cI : ClassId) (b : Nat → Nat) (a : Nat → Nat) (a2 : Nat → Nat) (σ : St) (σ2 : St) (ω : St) (h : Nat) (nc : Nat) (sz : Nat) (h1 : σ 16 0 = -1) (hok : okR σ h nc) (hbd : h < 2 ^ 29) : Met l yX4_thaw wsX4_thaw ({ frames := 7, cells := 0, slots := 0, locals := 162 } : Room) (wrPc [.ref (b 0)] D (wLan b a a2 cI σ σ2 ω) [(cI, .int)] sz) (wrQi (thS 720 σ 16 0) D (wLan b a a2 cI σ (thS 720 σ) ω) (va_A (wLan b a a2 cI σ σ2 ω) sz)) 0 0 (va_A (wLan b a a2 cI σ σ2 ω) sz) := by
  refine Met.ofW (cc := cX4_thaw) (maxL := 1) (ret := (some .int)) (by decide) rfl ?_
  intro p e s m args below meth c s₁ B hml hv
  obtain ⟨hargs, hsz, hP, hK, hD0⟩ := hv
  have hx := B.exec
  have hb := B.bytes
  have hr := B.returns
  have hts := atoms_spec (ws := wsX4_thaw) B.pre
  have hown : s.vm.findClass RX4 = some m.cls := findClass_of_methodNamed B.named
  have hlocks := B.notSynchronized
  obtain ⟨_, hN⟩ := id hK
  have hiX4 : ∀ w ∈ wsX40, w ∈ wsX4_thaw := by decide +kernel
  subst hsz
  have hD := hD0.self (sz := s.heap.size)
  generalize hAe : va_A (wLan b a a2 cI σ σ2 ω) s.heap.size = A at hD ⊢
  have hA : ∀ q : Nat, s.heap.size ≤ q → A q := fun q h => by rw [← hAe]; exact Or.inr h
  have hS : va_S A s.heap s.heap [] := va_S.rf
  have hP : va_P D vwCl (wLan b a a2 cI σ σ2 ω) s.heap := hP
  refine my_abs (fun Q hQ => ?_)
  obtain ⟨ls, hl, hent⟩ := my_entry (m := m) (n := 1) hargs (Nat.le_of_ble_eq_true rfl)
  rw [hent]
  have hl : lv_has ls 1 [(0, .ref (b 0))] := hl
  show W p l e ({ frames := 7, cells := 0, slots := 0, locals := 162 } : Room) s m args below meth c s.heap [] 0 0 Q (F0 m 0 ls [])
  refine lv_aload_n hx hb dX4_thaw_0 rfl (lv_at hl 0 rfl) ?_
  refine va_get (D := D) (ci := 4) (v := .ref (a 0)) (C := RX4) (T := TX4) (N := 3) hx hb hts hiX4 hown hK.1 hP 0 rfl rfl 0 (by decide) (hts (.fieldLink RX4 12 "IceLanes" "river" "LIceLanes$River;") (by decide +kernel)) (fun _ h9 => h9) rfl dX4_thaw_1 ?_
  refine rd_i (va_runVN (As := []) (rest := []) ⟨hx, hb, hml, hown, hts⟩ (M_X2_hasThawed l D cI a σ ) ⟨va_cnB 0 hts gX4_thaw_X2_hasThawed_n163 rfl rfl rfl (nX4_163 hN) (hts (.initialized RX2) (by decide +kernel)) (by decide +kernel) ⟨Nat.le_of_ble_eq_true rfl, Nat.le_of_ble_eq_true rfl⟩, hts (.instanceMethod yX2_hasThawed) (by decide +kernel), hts (.selects RX2 yX2_hasThawed yX2_hasThawed) (by decide +kernel)⟩ (rdV hK hP [4, 5, 6, 7, 8, 9, 10, 11, 12, 13, 14, 15, 16, 17, 18, 19] [0] rfl rfl (ci := 2) (q0 := 4) rfl rfl) rfl rfl hl.1 rfl (lv_room (Nat.le_of_ble_eq_true rfl)) dX4_thaw_4 ⟨Nat.zero_le _, Nat.zero_le _⟩) ?_
  refine lv_if_eq (tgt := 18) hx hb dX4_thaw_7 (by decide) (fun c_1 => ?_) (fun c_1 => ?_)
  · skip
    have c_1 : ¬ (¬ (σ 16 0) = -1) := bI_z.mp c_1
    refine lv_aload_n hx hb dX4_thaw_18 rfl (lv_at hl 0 rfl) ?_
    refine va_get (D := D) (ci := 4) (v := .ref (a2 0)) (C := RX4) (T := TX4) (N := 3) hx hb hts hiX4 hown hK.1 hP 0 rfl rfl 1 (by decide) (hts (.fieldLink RX4 16 "IceLanes" "ahead" "LIceLanes$River;") (by decide +kernel)) (fun _ h9 => h9) rfl dX4_thaw_19 ?_
    refine lv_aload_n hx hb dX4_thaw_22 rfl (lv_at hl 0 rfl) ?_
    refine va_get (D := D) (ci := 4) (v := .ref (a 0)) (C := RX4) (T := TX4) (N := 3) hx hb hts hiX4 hown hK.1 hP 0 rfl rfl 0 (by decide) (hts (.fieldLink RX4 12 "IceLanes" "river" "LIceLanes$River;") (by decide +kernel)) (fun _ h9 => h9) rfl dX4_thaw_23 ?_
    refine wr_v (wn := wLan b a a2 cI σ σ ω) (va_runVN (As := [.ref (a 0)]) (rest := []) ⟨hx, hb, hml, hown, hts⟩ (M_X2_become l D cI a2 a σ2 σ _ ) ⟨va_cnB 1 hts gX4_thaw_X2_become_n196 rfl rfl rfl (nX4_196 hN) (hts (.initialized RX2) (by decide +kernel)) (by decide +kernel) ⟨Nat.le_of_ble_eq_true rfl, Nat.le_of_ble_eq_true rfl⟩, hts (.instanceMethod yX2_become) (by decide +kernel), hts (.selects RX2 yX2_become yX2_become) (by decide +kernel)⟩ (wrV hK hP hD [20, 21, 22, 23, 24, 25, 26, 27, 28, 29, 30, 31, 32, 33, 34, 35, 4, 5, 6, 7, 8, 9, 10, 11, 12, 13, 14, 15, 16, 17, 18, 19] [0] rfl rfl rfl (ci := 2) (q0 := 20) rfl rfl) rfl rfl hl.1 rfl (lv_room (Nat.le_of_ble_eq_true rfl)) dX4_thaw_26 ⟨Nat.le_of_ble_eq_true rfl, Nat.le_of_ble_eq_true rfl⟩) hP hD hS hA [20, 21, 22, 23, 24, 25, 26, 27, 28, 29, 30, 31, 32, 33, 34, 35, 4, 5, 6, 7, 8, 9, 10, 11, 12, 13, 14, 15, 16, 17, 18, 19] [0, 1, 2, 3] [0, 1, 2, 3, 20, 21, 22, 23, 24, 25, 26, 27, 28, 29, 30, 31, 32, 33, 34, 35, 4, 5, 6, 7, 8, 9, 10, 11, 12, 13, 14, 15, 16, 17, 18, 19] rfl rfl rfl rfl rfl rfl (fun H locs hP hD hS => ?_)
    refine lv_aload_n hx hb dX4_thaw_29 rfl (lv_at hl 0 rfl) ?_
    refine va_get (D := D) (ci := 4) (v := .ref (a2 0)) (C := RX4) (T := TX4) (N := 3) hx hb hts hiX4 hown hK.1 hP 0 rfl rfl 1 (by decide) (hts (.fieldLink RX4 16 "IceLanes" "ahead" "LIceLanes$River;") (by decide +kernel)) (fun _ h9 => h9) rfl dX4_thaw_30 ?_
    refine wr_i (wn := wLan b a a2 cI σ (thS 720 σ) ω) (va_runVN (As := []) (rest := []) ⟨hx, hb, hml, hown, hts⟩ (M_X2_dayOfThaw l D cI a2 σ h nc _ hok hbd) ⟨va_cnB 0 hts gX4_thaw_X2_dayOfThaw_n206 rfl rfl rfl (nX4_206 hN) (hts (.initialized RX2) (by decide +kernel)) (by decide +kernel) ⟨Nat.le_of_ble_eq_true rfl, Nat.le_of_ble_eq_true rfl⟩, hts (.instanceMethod yX2_dayOfThaw) (by decide +kernel), hts (.selects RX2 yX2_dayOfThaw yX2_dayOfThaw) (by decide +kernel)⟩ (wrV hK hP hD [20, 21, 22, 23, 24, 25, 26, 27, 28, 29, 30, 31, 32, 33, 34, 35] [0] rfl rfl rfl (ci := 2) (q0 := 20) rfl rfl) rfl rfl hl.1 rfl (lv_room (Nat.le_of_ble_eq_true rfl)) dX4_thaw_33 ⟨Nat.le_of_ble_eq_true rfl, Nat.le_of_ble_eq_true rfl⟩) hP hD hS hA [20, 21, 22, 23, 24, 25, 26, 27, 28, 29, 30, 31, 32, 33, 34, 35] [0, 1, 2, 3, 4, 5, 6, 7, 8, 9, 10, 11, 12, 13, 14, 15, 16, 17, 18, 19] [0, 1, 2, 3, 4, 5, 6, 7, 8, 9, 10, 11, 12, 13, 14, 15, 16, 17, 18, 19, 20, 21, 22, 23, 24, 25, 26, 27, 28, 29, 30, 31, 32, 33, 34, 35] rfl rfl rfl rfl rfl rfl (fun H locs hP hD hS => ?_)
    generalize eσ_2 : thS 720 σ = σ_2 at hP hD
    subst hQ
    have hst_s2 : σ_2 = thS 720 σ := by subst_vars; rfl
    rw [hst_s2] at hP hD
    exact ret_wri hx hb hr rfl hlocks hP hD hS (show σ_2 16 0 = thS 720 σ 16 0 from (by rw [← eσ_2])) dX4_thaw_36
  · skip
    have c_1 : (¬ (σ 16 0) = -1) := bI_nz.mp c_1
    exact absurd h1 c_1
