set_option maxHeartbeats 4000000 in
set_option maxRecDepth 100000 in
theorem M_X4_setWarm_e1 (l : Launch) (D : va_G) (cI : ClassId) (b : Nat → Nat) (a : Nat → Nat) (a2 : Nat → Nat) (σ : St) (σ2 : St) (ω : St) (p0 : Int32) (p1 : Int32) (A9 : Nat → Prop) (hst : l.stackTraces = false) (h1 : ¬ (0 ≤ p0 ∧ p0 ≤ 13)) : vx_Met l yX4_setWarm wsX4_setWarm ({ frames := 6, cells := 1, slots := 6, locals := 82 } : Room) (exPc [.ref (b 0), .int p0, .int p1] D (wLan b a a2 cI σ σ2 ω) [(cI, .int)] A9) exQ (exX "java/lang/IndexOutOfBoundsException") 1 6 (fun _ => False) := by
  refine vx_ofW (cc := cX4_setWarm) (maxL := 4) (ret := (some .int)) (by decide) rfl ?_
  intro p e s m args below meth c s₁ B hml htab hv
  obtain ⟨⟨hargs, hP, hK⟩, hEX⟩ := hv
  have hx := B.exec
  have hb := B.bytes
  have hr := B.returns
  have hts := atoms_spec (ws := wsX4_setWarm) B.pre
  have hown : s.vm.findClass RX4 = some m.cls := findClass_of_methodNamed B.named
  have hlocks := B.notSynchronized
  obtain ⟨_, hN⟩ := id hK
  refine my_abs (fun Q hQ => ?_)
  obtain ⟨ls, hl, hent⟩ := my_entry (m := m) (n := 4) hargs (Nat.le_of_ble_eq_true rfl)
  rw [hent]
  have hl : lv_has ls 4 [(0, .ref (b 0)), (1, .int p0), (2, .int p1)] := hl
  show W p l e ({ frames := 6, cells := 1, slots := 6, locals := 82 } : Room) s m args below meth c s.heap [] 0 0 Q (F0 m 0 ls [])
  refine lv_iload_n hx hb dX4_setWarm_0 rfl (lv_at hl 1 rfl) ?_
  refine lv_iconst (v := 0) hx hb dX4_setWarm_1 (by decide) ?_
  refine lv_bipush (v := 13) hx hb dX4_setWarm_2 (by decide) ?_
  refine rd_i (va_runS (As := [.int p0, .int 0, .int 13]) (rest := []) ⟨hx, hb, hml, hown, hts⟩ (M_X4_isWithin l D cI p0 0 13 ) (va_cwS 3 hts gX4_setWarm_X4_isWithin rfl rfl rfl (by decide +kernel) ⟨Nat.le_of_ble_eq_true rfl, Nat.le_of_ble_eq_true rfl⟩) (rdS hK hP [] [0] rfl rfl) rfl rfl hl.1 rfl (lv_room (Nat.le_of_ble_eq_true rfl)) dX4_setWarm_4 ⟨Nat.zero_le _, Nat.zero_le _⟩) ?_
  refine lv_if_ne (tgt := 20) hx hb dX4_setWarm_7 (by decide) (fun c_1 => ?_) (fun c_1 => ?_)
  · skip
    have c_1 : (0 ≤ p0 ∧ p0 ≤ 13) := bI_nz.mp c_1
    first | exact absurd c_1 (by assumption) | exact absurd (by assumption) c_1
  · skip
    have c_1 : ¬ (0 ≤ p0 ∧ p0 ≤ 13) := bI_z.mp c_1
    subst hQ
    exact ex_throw (E := "java/lang/IndexOutOfBoundsException") (32, "no such day of the table") hx hb hst hown hts hEX htab (by decide) rfl (by decide +kernel) (by decide +kernel) (by decide +kernel) (by decide +kernel) (by decide +kernel) (by decide +kernel) hl.1 hml dX4_setWarm_10 dX4_setWarm_13 dX4_setWarm_14 dX4_setWarm_16 dX4_setWarm_19 (Nat.le_of_ble_eq_true rfl) (Nat.le_of_ble_eq_true rfl) (Nat.le_of_ble_eq_true rfl) (Nat.le_of_ble_eq_true rfl) hlocks
set_option maxHeartbeats 4000000 in
set_option maxRecDepth 100000 in
theorem M_X4_setWarm_e2 (l : Launch) (D : va_G) (cI : ClassId) (b : Nat → Nat) (a : Nat → Nat) (a2 : Nat → Nat) (σ : St) (σ2 : St) (ω : St) (p0 : Int32) (p1 : Int32) (A9 : Nat → Prop) (hst : l.stackTraces = false) (h1 : (0 ≤ p0 ∧ p0 ≤ 13)) (h2 : ¬ ((-9) ≤ p1 ∧ p1 ≤ 9)) : vx_Met l yX4_setWarm wsX4_setWarm ({ frames := 6, cells := 1, slots := 6, locals := 82 } : Room) (exPc [.ref (b 0), .int p0, .int p1] D (wLan b a a2 cI σ σ2 ω) [(cI, .int)] A9) exQ (exX "java/lang/IllegalArgumentException") 1 6 (fun _ => False) := by
  refine vx_ofW (cc := cX4_setWarm) (maxL := 4) (ret := (some .int)) (by decide) rfl ?_
  intro p e s m args below meth c s₁ B hml htab hv
  obtain ⟨⟨hargs, hP, hK⟩, hEX⟩ := hv
  have hx := B.exec
  have hb := B.bytes
  have hr := B.returns
  have hts := atoms_spec (ws := wsX4_setWarm) B.pre
  have hown : s.vm.findClass RX4 = some m.cls := findClass_of_methodNamed B.named
  have hlocks := B.notSynchronized
  obtain ⟨_, hN⟩ := id hK
  refine my_abs (fun Q hQ => ?_)
  obtain ⟨ls, hl, hent⟩ := my_entry (m := m) (n := 4) hargs (Nat.le_of_ble_eq_true rfl)
  rw [hent]
  have hl : lv_has ls 4 [(0, .ref (b 0)), (1, .int p0), (2, .int p1)] := hl
  show W p l e ({ frames := 6, cells := 1, slots := 6, locals := 82 } : Room) s m args below meth c s.heap [] 0 0 Q (F0 m 0 ls [])
  refine lv_iload_n hx hb dX4_setWarm_0 rfl (lv_at hl 1 rfl) ?_
  refine lv_iconst (v := 0) hx hb dX4_setWarm_1 (by decide) ?_
  refine lv_bipush (v := 13) hx hb dX4_setWarm_2 (by decide) ?_
  refine rd_i (va_runS (As := [.int p0, .int 0, .int 13]) (rest := []) ⟨hx, hb, hml, hown, hts⟩ (M_X4_isWithin l D cI p0 0 13 ) (va_cwS 3 hts gX4_setWarm_X4_isWithin rfl rfl rfl (by decide +kernel) ⟨Nat.le_of_ble_eq_true rfl, Nat.le_of_ble_eq_true rfl⟩) (rdS hK hP [] [0] rfl rfl) rfl rfl hl.1 rfl (lv_room (Nat.le_of_ble_eq_true rfl)) dX4_setWarm_4 ⟨Nat.zero_le _, Nat.zero_le _⟩) ?_
  refine lv_if_ne (tgt := 20) hx hb dX4_setWarm_7 (by decide) (fun c_1 => ?_) (fun c_1 => ?_)
  · skip
    have c_1 : (0 ≤ p0 ∧ p0 ≤ 13) := bI_nz.mp c_1
    refine lv_iload_n hx hb dX4_setWarm_20 rfl (lv_at hl 2 rfl) ?_
    refine lv_bipush (v := (-9)) hx hb dX4_setWarm_21 (by decide) ?_
    refine lv_bipush (v := 9) hx hb dX4_setWarm_23 (by decide) ?_
    refine rd_i (va_runS (As := [.int p1, .int (-9), .int 9]) (rest := []) ⟨hx, hb, hml, hown, hts⟩ (M_X4_isWithin l D cI p1 (-9) 9 ) (va_cwS 3 hts gX4_setWarm_X4_isWithin rfl rfl rfl (by decide +kernel) ⟨Nat.le_of_ble_eq_true rfl, Nat.le_of_ble_eq_true rfl⟩) (rdS hK hP [] [0] rfl rfl) rfl rfl hl.1 rfl (lv_room (Nat.le_of_ble_eq_true rfl)) dX4_setWarm_25 ⟨Nat.zero_le _, Nat.zero_le _⟩) ?_
    refine lv_if_ne (tgt := 41) hx hb dX4_setWarm_28 (by decide) (fun c_2 => ?_) (fun c_2 => ?_)
    · skip
      have c_2 : ((-9) ≤ p1 ∧ p1 ≤ 9) := bI_nz.mp c_2
      first | exact absurd c_2 (by assumption) | exact absurd (by assumption) c_2
    · skip
      have c_2 : ¬ ((-9) ≤ p1 ∧ p1 ≤ 9) := bI_z.mp c_2
      subst hQ
      exact ex_throw (E := "java/lang/IllegalArgumentException") (39, "it is never that warm or that cold") hx hb hst hown hts hEX htab (by decide) rfl (by decide +kernel) (by decide +kernel) (by decide +kernel) (by decide +kernel) (by decide +kernel) (by decide +kernel) hl.1 hml dX4_setWarm_31 dX4_setWarm_34 dX4_setWarm_35 dX4_setWarm_37 dX4_setWarm_40 (Nat.le_of_ble_eq_true rfl) (Nat.le_of_ble_eq_true rfl) (Nat.le_of_ble_eq_true rfl) (Nat.le_of_ble_eq_true rfl) hlocks
  · skip
    have c_1 : ¬ (0 ≤ p0 ∧ p0 ≤ 13) := bI_z.mp c_1
    first | exact absurd c_1 (by assumption) | exact absurd (by assumption) c_1
set_option maxHeartbeats 4000000 in
set_option maxRecDepth 100000 in
theorem M_X4_setIce_e1 (l : Launch) (D : va_G) (cI : ClassId) (b : Nat → Nat) (a : Nat → Nat) (a2 : Nat → Nat) (σ : St) (σ2 : St) (ω : St) (p0 : Int32) (p1 : Int32) (p2 : Int32) (A9 : Nat → Prop) (hst : l.stackTraces = false) (h1 : ¬ ((0 ≤ p0 ∧ p0 ≤ 11) ∧ (0 ≤ p1 ∧ p1 ≤ 2))) : vx_Met l yX4_setIce wsX4_setIce ({ frames := 6, cells := 1, slots := 6, locals := 82 } : Room) (exPc [.ref (b 0), .int p0, .int p1, .int p2] D (wLan b a a2 cI σ σ2 ω) [(cI, .int)] A9) exQ (exX "java/lang/IndexOutOfBoundsException") 1 6 (fun _ => False) := by
  refine vx_ofW (cc := cX4_setIce) (maxL := 6) (ret := (some .int)) (by decide) rfl ?_
  intro p e s m args below meth c s₁ B hml htab hv
  obtain ⟨⟨hargs, hP, hK⟩, hEX⟩ := hv
  have hx := B.exec
  have hb := B.bytes
  have hr := B.returns
  have hts := atoms_spec (ws := wsX4_setIce) B.pre
  have hown : s.vm.findClass RX4 = some m.cls := findClass_of_methodNamed B.named
  have hlocks := B.notSynchronized
  obtain ⟨_, hN⟩ := id hK
  refine my_abs (fun Q hQ => ?_)
  obtain ⟨ls, hl, hent⟩ := my_entry (m := m) (n := 6) hargs (Nat.le_of_ble_eq_true rfl)
  rw [hent]
  have hl : lv_has ls 6 [(0, .ref (b 0)), (1, .int p0), (2, .int p1), (3, .int p2)] := hl
  show W p l e ({ frames := 6, cells := 1, slots := 6, locals := 82 } : Room) s m args below meth c s.heap [] 0 0 Q (F0 m 0 ls [])
  refine lv_iload_n hx hb dX4_setIce_0 rfl (lv_at hl 1 rfl) ?_
  refine lv_iload_n hx hb dX4_setIce_1 rfl (lv_at hl 2 rfl) ?_
  refine rd_i (va_runS (As := [.int p0, .int p1]) (rest := []) ⟨hx, hb, hml, hown, hts⟩ (M_X4_isPlace l D cI p0 p1 ) (va_cwS 2 hts gX4_setIce_X4_isPlace rfl rfl rfl (by decide +kernel) ⟨Nat.le_of_ble_eq_true rfl, Nat.le_of_ble_eq_true rfl⟩) (rdS hK hP [] [0] rfl rfl) rfl rfl hl.1 rfl (lv_room (Nat.le_of_ble_eq_true rfl)) dX4_setIce_2 ⟨Nat.zero_le _, Nat.zero_le _⟩) ?_
  refine lv_if_ne (tgt := 18) hx hb dX4_setIce_5 (by decide) (fun c_1 => ?_) (fun c_1 => ?_)
  · skip
    have c_1 : ((0 ≤ p0 ∧ p0 ≤ 11) ∧ (0 ≤ p1 ∧ p1 ≤ 2)) := bI_nz.mp c_1
    first | exact absurd c_1 (by assumption) | exact absurd (by assumption) c_1
  · skip
    have c_1 : ¬ ((0 ≤ p0 ∧ p0 ≤ 11) ∧ (0 ≤ p1 ∧ p1 ≤ 2)) := bI_z.mp c_1
    subst hQ
    exact ex_throw (E := "java/lang/IndexOutOfBoundsException") (50, "no such place") hx hb hst hown hts hEX htab (by decide) rfl (by decide +kernel) (by decide +kernel) (by decide +kernel) (by decide +kernel) (by decide +kernel) (by decide +kernel) hl.1 hml dX4_setIce_8 dX4_setIce_11 dX4_setIce_12 dX4_setIce_14 dX4_setIce_17 (Nat.le_of_ble_eq_true rfl) (Nat.le_of_ble_eq_true rfl) (Nat.le_of_ble_eq_true rfl) (Nat.le_of_ble_eq_true rfl) hlocks
set_option maxHeartbeats 4000000 in
set_option maxRecDepth 100000 in
theorem M_X4_setIce_e2 (l : Launch) (D : va_G) (cI : ClassId) (b : Nat → Nat) (a : Nat → Nat) (a2 : Nat → Nat) (σ : St) (σ2 : St) (ω : St) (p0 : Int32) (p1 : Int32) (p2 : Int32) (A9 : Nat → Prop) (hst : l.stackTraces = false) (h1 : ((0 ≤ p0 ∧ p0 ≤ 11) ∧ (0 ≤ p1 ∧ p1 ≤ 2))) (h2 : ¬ (0 ≤ p2 ∧ p2 ≤ 60)) : vx_Met l yX4_setIce wsX4_setIce ({ frames := 6, cells := 1, slots := 6, locals := 82 } : Room) (exPc [.ref (b 0), .int p0, .int p1, .int p2] D (wLan b a a2 cI σ σ2 ω) [(cI, .int)] A9) exQ (exX "java/lang/IllegalArgumentException") 1 6 (fun _ => False) := by
  refine vx_ofW (cc := cX4_setIce) (maxL := 6) (ret := (some .int)) (by decide) rfl ?_
  intro p e s m args below meth c s₁ B hml htab hv
  obtain ⟨⟨hargs, hP, hK⟩, hEX⟩ := hv
  have hx := B.exec
  have hb := B.bytes
  have hr := B.returns
  have hts := atoms_spec (ws := wsX4_setIce) B.pre
  have hown : s.vm.findClass RX4 = some m.cls := findClass_of_methodNamed B.named
  have hlocks := B.notSynchronized
  obtain ⟨_, hN⟩ := id hK
  refine my_abs (fun Q hQ => ?_)
  obtain ⟨ls, hl, hent⟩ := my_entry (m := m) (n := 6) hargs (Nat.le_of_ble_eq_true rfl)
  rw [hent]
  have hl : lv_has ls 6 [(0, .ref (b 0)), (1, .int p0), (2, .int p1), (3, .int p2)] := hl
  show W p l e ({ frames := 6, cells := 1, slots := 6, locals := 82 } : Room) s m args below meth c s.heap [] 0 0 Q (F0 m 0 ls [])
  refine lv_iload_n hx hb dX4_setIce_0 rfl (lv_at hl 1 rfl) ?_
  refine lv_iload_n hx hb dX4_setIce_1 rfl (lv_at hl 2 rfl) ?_
  refine rd_i (va_runS (As := [.int p0, .int p1]) (rest := []) ⟨hx, hb, hml, hown, hts⟩ (M_X4_isPlace l D cI p0 p1 ) (va_cwS 2 hts gX4_setIce_X4_isPlace rfl rfl rfl (by decide +kernel) ⟨Nat.le_of_ble_eq_true rfl, Nat.le_of_ble_eq_true rfl⟩) (rdS hK hP [] [0] rfl rfl) rfl rfl hl.1 rfl (lv_room (Nat.le_of_ble_eq_true rfl)) dX4_setIce_2 ⟨Nat.zero_le _, Nat.zero_le _⟩) ?_
  refine lv_if_ne (tgt := 18) hx hb dX4_setIce_5 (by decide) (fun c_1 => ?_) (fun c_1 => ?_)
  · skip
    have c_1 : ((0 ≤ p0 ∧ p0 ≤ 11) ∧ (0 ≤ p1 ∧ p1 ≤ 2)) := bI_nz.mp c_1
    refine lv_iload_n hx hb dX4_setIce_18 rfl (lv_at hl 3 rfl) ?_
    refine lv_iconst (v := 0) hx hb dX4_setIce_19 (by decide) ?_
    refine lv_bipush (v := 60) hx hb dX4_setIce_20 (by decide) ?_
    refine rd_i (va_runS (As := [.int p2, .int 0, .int 60]) (rest := []) ⟨hx, hb, hml, hown, hts⟩ (M_X4_isWithin l D cI p2 0 60 ) (va_cwS 3 hts gX4_setIce_X4_isWithin rfl rfl rfl (by decide +kernel) ⟨Nat.le_of_ble_eq_true rfl, Nat.le_of_ble_eq_true rfl⟩) (rdS hK hP [] [0] rfl rfl) rfl rfl hl.1 rfl (lv_room (Nat.le_of_ble_eq_true rfl)) dX4_setIce_22 ⟨Nat.zero_le _, Nat.zero_le _⟩) ?_
    refine lv_if_ne (tgt := 38) hx hb dX4_setIce_25 (by decide) (fun c_2 => ?_) (fun c_2 => ?_)
    · skip
      have c_2 : (0 ≤ p2 ∧ p2 ≤ 60) := bI_nz.mp c_2
      first | exact absurd c_2 (by assumption) | exact absurd (by assumption) c_2
    · skip
      have c_2 : ¬ (0 ≤ p2 ∧ p2 ≤ 60) := bI_z.mp c_2
      subst hQ
      exact ex_throw (E := "java/lang/IllegalArgumentException") (52, "ice is never that thick or that thin") hx hb hst hown hts hEX htab (by decide) rfl (by decide +kernel) (by decide +kernel) (by decide +kernel) (by decide +kernel) (by decide +kernel) (by decide +kernel) hl.1 hml dX4_setIce_28 dX4_setIce_31 dX4_setIce_32 dX4_setIce_34 dX4_setIce_37 (Nat.le_of_ble_eq_true rfl) (Nat.le_of_ble_eq_true rfl) (Nat.le_of_ble_eq_true rfl) (Nat.le_of_ble_eq_true rfl) hlocks
  · skip
    have c_1 : ¬ ((0 ≤ p0 ∧ p0 ≤ 11) ∧ (0 ≤ p1 ∧ p1 ≤ 2)) := bI_z.mp c_1
    first | exact absurd c_1 (by assumption) | exact absurd (by assumption) c_1
set_option maxHeartbeats 4000000 in
set_option maxRecDepth 100000 in
theorem M_X4_build_e1 (l : Launch) (D : va_G) (cI : ClassId) (b : Nat → Nat) (a : Nat → Nat) (a2 : Nat → Nat) (σ : St) (σ2 : St) (ω : St) (p0 : Int32) (A9 : Nat → Prop) (hst : l.stackTraces = false) (h1 : ¬ (0 ≤ p0 ∧ p0 ≤ 11)) : vx_Met l yX4_build wsX4_build ({ frames := 6, cells := 1, slots := 6, locals := 82 } : Room) (exPc [.ref (b 0), .int p0] D (wLan b a a2 cI σ σ2 ω) [(cI, .int)] A9) exQ (exX "java/lang/IndexOutOfBoundsException") 1 6 (fun _ => False) := by
  refine vx_ofW (cc := cX4_build) (maxL := 2) (ret := (some .int)) (by decide) rfl ?_
  intro p e s m args below meth c s₁ B hml htab hv
  obtain ⟨⟨hargs, hP, hK⟩, hEX⟩ := hv
  have hx := B.exec
  have hb := B.bytes
  have hr := B.returns
  have hts := atoms_spec (ws := wsX4_build) B.pre
  have hown : s.vm.findClass RX4 = some m.cls := findClass_of_methodNamed B.named
  have hlocks := B.notSynchronized
  obtain ⟨_, hN⟩ := id hK
  refine my_abs (fun Q hQ => ?_)
  obtain ⟨ls, hl, hent⟩ := my_entry (m := m) (n := 2) hargs (Nat.le_of_ble_eq_true rfl)
  rw [hent]
  have hl : lv_has ls 2 [(0, .ref (b 0)), (1, .int p0)] := hl
  show W p l e ({ frames := 6, cells := 1, slots := 6, locals := 82 } : Room) s m args below meth c s.heap [] 0 0 Q (F0 m 0 ls [])
  refine lv_iload_n hx hb dX4_build_0 rfl (lv_at hl 1 rfl) ?_
  refine rd_i (va_runS (As := [.int p0]) (rest := []) ⟨hx, hb, hml, hown, hts⟩ (M_X4_isSection l D cI p0 ) (va_cwS 1 hts gX4_build_X4_isSection rfl rfl rfl (by decide +kernel) ⟨Nat.le_of_ble_eq_true rfl, Nat.le_of_ble_eq_true rfl⟩) (rdS hK hP [] [0] rfl rfl) rfl rfl hl.1 rfl (lv_room (Nat.le_of_ble_eq_true rfl)) dX4_build_1 ⟨Nat.zero_le _, Nat.zero_le _⟩) ?_
  refine lv_if_ne (tgt := 17) hx hb dX4_build_4 (by decide) (fun c_1 => ?_) (fun c_1 => ?_)
  · skip
    have c_1 : (0 ≤ p0 ∧ p0 ≤ 11) := bI_nz.mp c_1
    first | exact absurd c_1 (by assumption) | exact absurd (by assumption) c_1
  · skip
    have c_1 : ¬ (0 ≤ p0 ∧ p0 ≤ 11) := bI_z.mp c_1
    subst hQ
    exact ex_throw (E := "java/lang/IndexOutOfBoundsException") (71, "no such section") hx hb hst hown hts hEX htab (by decide) rfl (by decide +kernel) (by decide +kernel) (by decide +kernel) (by decide +kernel) (by decide +kernel) (by decide +kernel) hl.1 hml dX4_build_7 dX4_build_10 dX4_build_11 dX4_build_13 dX4_build_16 (Nat.le_of_ble_eq_true rfl) (Nat.le_of_ble_eq_true rfl) (Nat.le_of_ble_eq_true rfl) (Nat.le_of_ble_eq_true rfl) hlocks
set_option maxHeartbeats 4000000 in
set_option maxRecDepth 100000 in
theorem M_X4_place_e1 (l : Launch) (D : va_G) (cI : ClassId) (b : Nat → Nat) (a : Nat → Nat) (a2 : Nat → Nat) (σ : St) (σ2 : St) (ω : St) (p0 : Int32) (p1 : Int32) (p2 : Int32) (A9 : Nat → Prop) (hst : l.stackTraces = false) (h1 : ¬ (((0 ≤ p0 ∧ p0 ≤ 11) ∧ (0 ≤ p1 ∧ p1 ≤ 2)) ∧ (0 ≤ p2 ∧ p2 ≤ 3))) : vx_Met l yX4_place wsX4_place ({ frames := 6, cells := 1, slots := 6, locals := 82 } : Room) (exPc [.ref (b 0), .int p0, .int p1, .int p2] D (wLan b a a2 cI σ σ2 ω) [(cI, .int)] A9) exQ (exX "java/lang/IndexOutOfBoundsException") 1 6 (fun _ => False) := by
  refine vx_ofW (cc := cX4_place) (maxL := 4) (ret := (some .int)) (by decide) rfl ?_
  intro p e s m args below meth c s₁ B hml htab hv
  obtain ⟨⟨hargs, hP, hK⟩, hEX⟩ := hv
  have hx := B.exec
  have hb := B.bytes
  have hr := B.returns
  have hts := atoms_spec (ws := wsX4_place) B.pre
  have hown : s.vm.findClass RX4 = some m.cls := findClass_of_methodNamed B.named
  have hlocks := B.notSynchronized
  obtain ⟨_, hN⟩ := id hK
  refine my_abs (fun Q hQ => ?_)
  obtain ⟨ls, hl, hent⟩ := my_entry (m := m) (n := 4) hargs (Nat.le_of_ble_eq_true rfl)
  rw [hent]
  have hl : lv_has ls 4 [(0, .ref (b 0)), (1, .int p0), (2, .int p1), (3, .int p2)] := hl
  show W p l e ({ frames := 6, cells := 1, slots := 6, locals := 82 } : Room) s m args below meth c s.heap [] 0 0 Q (F0 m 0 ls [])
  refine lv_iload_n hx hb dX4_place_0 rfl (lv_at hl 1 rfl) ?_
  refine lv_iload_n hx hb dX4_place_1 rfl (lv_at hl 2 rfl) ?_
  refine rd_i (va_runS (As := [.int p0, .int p1]) (rest := []) ⟨hx, hb, hml, hown, hts⟩ (M_X4_isPlace l D cI p0 p1 ) (va_cwS 2 hts gX4_place_X4_isPlace rfl rfl rfl (by decide +kernel) ⟨Nat.le_of_ble_eq_true rfl, Nat.le_of_ble_eq_true rfl⟩) (rdS hK hP [] [0] rfl rfl) rfl rfl hl.1 rfl (lv_room (Nat.le_of_ble_eq_true rfl)) dX4_place_2 ⟨Nat.zero_le _, Nat.zero_le _⟩) ?_
  refine lv_if_ne (tgt := 18) hx hb dX4_place_5 (by decide) (fun c_1 => ?_) (fun c_1 => ?_)
  · skip
    have c_1 : ((0 ≤ p0 ∧ p0 ≤ 11) ∧ (0 ≤ p1 ∧ p1 ≤ 2)) := bI_nz.mp c_1
    refine lv_iload_n hx hb dX4_place_18 rfl (lv_at hl 3 rfl) ?_
    refine lv_iconst (v := 0) hx hb dX4_place_19 (by decide) ?_
    refine lv_iconst (v := 3) hx hb dX4_place_20 (by decide) ?_
    refine rd_i (va_runS (As := [.int p2, .int 0, .int 3]) (rest := []) ⟨hx, hb, hml, hown, hts⟩ (M_X4_isWithin l D cI p2 0 3 ) (va_cwS 3 hts gX4_place_X4_isWithin rfl rfl rfl (by decide +kernel) ⟨Nat.le_of_ble_eq_true rfl, Nat.le_of_ble_eq_true rfl⟩) (rdS hK hP [] [0] rfl rfl) rfl rfl hl.1 rfl (lv_room (Nat.le_of_ble_eq_true rfl)) dX4_place_21 ⟨Nat.zero_le _, Nat.zero_le _⟩) ?_
    refine lv_if_ne (tgt := 37) hx hb dX4_place_24 (by decide) (fun c_2 => ?_) (fun c_2 => ?_)
    · skip
      have c_2 : (0 ≤ p2 ∧ p2 ≤ 3) := bI_nz.mp c_2
      exact absurd ⟨by assumption, c_2⟩ h1
    · skip
      have c_2 : ¬ (0 ≤ p2 ∧ p2 ≤ 3) := bI_z.mp c_2
      subst hQ
      exact ex_throw (E := "java/lang/IndexOutOfBoundsException") (80, "no such question of a place") hx hb hst hown hts hEX htab (by decide) rfl (by decide +kernel) (by decide +kernel) (by decide +kernel) (by decide +kernel) (by decide +kernel) (by decide +kernel) hl.1 hml dX4_place_27 dX4_place_30 dX4_place_31 dX4_place_33 dX4_place_36 (Nat.le_of_ble_eq_true rfl) (Nat.le_of_ble_eq_true rfl) (Nat.le_of_ble_eq_true rfl) (Nat.le_of_ble_eq_true rfl) hlocks
  · skip
    have c_1 : ¬ ((0 ≤ p0 ∧ p0 ≤ 11) ∧ (0 ≤ p1 ∧ p1 ≤ 2)) := bI_z.mp c_1
    subst hQ
    exact ex_throw (E := "java/lang/IndexOutOfBoundsException") (50, "no such place") hx hb hst hown hts hEX htab (by decide) rfl (by decide +kernel) (by decide +kernel) (by decide +kernel) (by decide +kernel) (by decide +kernel) (by decide +kernel) hl.1 hml dX4_place_8 dX4_place_11 dX4_place_12 dX4_place_14 dX4_place_17 (Nat.le_of_ble_eq_true rfl) (Nat.le_of_ble_eq_true rfl) (Nat.le_of_ble_eq_true rfl) (Nat.le_of_ble_eq_true rfl) hlocks
