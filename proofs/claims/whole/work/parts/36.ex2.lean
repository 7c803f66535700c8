set_option maxHeartbeats 4000000 in
set_option maxRecDepth 100000 in
theorem M_X4_come_e1 (l : Launch) (D : va_G) (cI : ClassId) (b : Nat → Nat) (a : Nat → Nat) (a2 : Nat → Nat) (σ : St) (σ2 : St) (ω : St) (p0 : Int32) (p1 : Int32) (p2 : Int32) (p3 : Int32) (sk : Int32) (A9 : Nat → Prop) (hst : l.stackTraces = false) (h1 : ¬ ((0 ≤ p0 ∧ p0 ≤ 11) ∧ (0 ≤ p1 ∧ p1 ≤ 2))) : vx_Met l yX4_come wsX4_come ({ frames := 6, cells := 1, slots := 6, locals := 82 } : Room) (exPc [.ref (b 0), .int p0, .int p1, .int p2, .int p3, .int sk] D (wLan b a a2 cI σ σ2 ω) [(cI, .int)] A9) exQ (exX "java/lang/IndexOutOfBoundsException") 1 6 (fun _ => False) := by
  refine vx_ofW (cc := cX4_come) (maxL := 6) (ret := (some .int)) (by decide) rfl ?_
  intro p e s m args below meth c s₁ B hml htab hv
  obtain ⟨⟨hargs, hP, hK⟩, hEX⟩ := hv
  have hx := B.exec
  have hb := B.bytes
  have hr := B.returns
  have hts := atoms_spec (ws := wsX4_come) B.pre
  have hown : s.vm.findClass RX4 = some m.cls := findClass_of_methodNamed B.named
  have hlocks := B.notSynchronized
  obtain ⟨_, hN⟩ := id hK
  refine my_abs (fun Q hQ => ?_)
  obtain ⟨ls, hl, hent⟩ := my_entry (m := m) (n := 6) hargs (Nat.le_of_ble_eq_true rfl)
  rw [hent]
  have hl : lv_has ls 6 [(0, .ref (b 0)), (1, .int p0), (2, .int p1), (3, .int p2), (4, .int p3), (5, .int sk)] := hl
  show W p l e ({ frames := 6, cells := 1, slots := 6, locals := 82 } : Room) s m args below meth c s.heap [] 0 0 Q (F0 m 0 ls [])
  refine lv_iload_n hx hb dX4_come_0 rfl (lv_at hl 1 rfl) ?_
  refine lv_iload_n hx hb dX4_come_1 rfl (lv_at hl 2 rfl) ?_
  refine rd_i (va_runS (As := [.int p0, .int p1]) (rest := []) ⟨hx, hb, hml, hown, hts⟩ (M_X4_isPlace l D cI p0 p1 ) (va_cwS 2 hts gX4_come_X4_isPlace rfl rfl rfl (by decide +kernel) ⟨Nat.le_of_ble_eq_true rfl, Nat.le_of_ble_eq_true rfl⟩) (rdS hK hP [] [0] rfl rfl) rfl rfl hl.1 rfl (lv_room (Nat.le_of_ble_eq_true rfl)) dX4_come_2 ⟨Nat.zero_le _, Nat.zero_le _⟩) ?_
  refine lv_if_ne (tgt := 18) hx hb dX4_come_5 (by decide) (fun c_1 => ?_) (fun c_1 => ?_)
  · skip
    have c_1 : ((0 ≤ p0 ∧ p0 ≤ 11) ∧ (0 ≤ p1 ∧ p1 ≤ 2)) := bI_nz.mp c_1
    first | exact absurd c_1 (by assumption) | exact absurd (by assumption) c_1
  · skip
    have c_1 : ¬ ((0 ≤ p0 ∧ p0 ≤ 11) ∧ (0 ≤ p1 ∧ p1 ≤ 2)) := bI_z.mp c_1
    subst hQ
    exact ex_throw (E := "java/lang/IndexOutOfBoundsException") (50, "no such place") hx hb hst hown hts hEX htab (by decide) rfl (by decide +kernel) (by decide +kernel) (by decide +kernel) (by decide +kernel) (by decide +kernel) (by decide +kernel) hl.1 hml dX4_come_8 dX4_come_11 dX4_come_12 dX4_come_14 dX4_come_17 (Nat.le_of_ble_eq_true rfl) (Nat.le_of_ble_eq_true rfl) (Nat.le_of_ble_eq_true rfl) (Nat.le_of_ble_eq_true rfl) hlocks
set_option maxHeartbeats 4000000 in
set_option maxRecDepth 100000 in
theorem M_X4_come_e2 (l : Launch) (D : va_G) (cI : ClassId) (b : Nat → Nat) (a : Nat → Nat) (a2 : Nat → Nat) (σ : St) (σ2 : St) (ω : St) (p0 : Int32) (p1 : Int32) (p2 : Int32) (p3 : Int32) (sk : Int32) (A9 : Nat → Prop) (hst : l.stackTraces = false) (h1 : ((0 ≤ p0 ∧ p0 ≤ 11) ∧ (0 ≤ p1 ∧ p1 ≤ 2))) (h2 : ¬ ((1 ≤ p2 ∧ p2 ≤ 40) ∧ (0 ≤ p3 ∧ p3 ≤ 20))) : vx_Met l yX4_come wsX4_come ({ frames := 6, cells := 1, slots := 6, locals := 82 } : Room) (exPc [.ref (b 0), .int p0, .int p1, .int p2, .int p3, .int sk] D (wLan b a a2 cI σ σ2 ω) [(cI, .int)] A9) exQ (exX "java/lang/IllegalArgumentException") 1 6 (fun _ => False) := by
  refine vx_ofW (cc := cX4_come) (maxL := 6) (ret := (some .int)) (by decide) rfl ?_
  intro p e s m args below meth c s₁ B hml htab hv
  obtain ⟨⟨hargs, hP, hK⟩, hEX⟩ := hv
  have hx := B.exec
  have hb := B.bytes
  have hr := B.returns
  have hts := atoms_spec (ws := wsX4_come) B.pre
  have hown : s.vm.findClass RX4 = some m.cls := findClass_of_methodNamed B.named
  have hlocks := B.notSynchronized
  obtain ⟨_, hN⟩ := id hK
  refine my_abs (fun Q hQ => ?_)
  obtain ⟨ls, hl, hent⟩ := my_entry (m := m) (n := 6) hargs (Nat.le_of_ble_eq_true rfl)
  rw [hent]
  have hl : lv_has ls 6 [(0, .ref (b 0)), (1, .int p0), (2, .int p1), (3, .int p2), (4, .int p3), (5, .int sk)] := hl
  show W p l e ({ frames := 6, cells := 1, slots := 6, locals := 82 } : Room) s m args below meth c s.heap [] 0 0 Q (F0 m 0 ls [])
  refine lv_iload_n hx hb dX4_come_0 rfl (lv_at hl 1 rfl) ?_
  refine lv_iload_n hx hb dX4_come_1 rfl (lv_at hl 2 rfl) ?_
  refine rd_i (va_runS (As := [.int p0, .int p1]) (rest := []) ⟨hx, hb, hml, hown, hts⟩ (M_X4_isPlace l D cI p0 p1 ) (va_cwS 2 hts gX4_come_X4_isPlace rfl rfl rfl (by decide +kernel) ⟨Nat.le_of_ble_eq_true rfl, Nat.le_of_ble_eq_true rfl⟩) (rdS hK hP [] [0] rfl rfl) rfl rfl hl.1 rfl (lv_room (Nat.le_of_ble_eq_true rfl)) dX4_come_2 ⟨Nat.zero_le _, Nat.zero_le _⟩) ?_
  refine lv_if_ne (tgt := 18) hx hb dX4_come_5 (by decide) (fun c_1 => ?_) (fun c_1 => ?_)
  · skip
    have c_1 : ((0 ≤ p0 ∧ p0 ≤ 11) ∧ (0 ≤ p1 ∧ p1 ≤ 2)) := bI_nz.mp c_1
    refine lv_iload_n hx hb dX4_come_18 rfl (lv_at hl 3 rfl) ?_
    refine lv_iconst (v := 1) hx hb dX4_come_19 (by decide) ?_
    refine lv_bipush (v := 40) hx hb dX4_come_20 (by decide) ?_
    refine rd_i (va_runS (As := [.int p2, .int 1, .int 40]) (rest := []) ⟨hx, hb, hml, hown, hts⟩ (M_X4_isWithin l D cI p2 1 40 ) (va_cwS 3 hts gX4_come_X4_isWithin rfl rfl rfl (by decide +kernel) ⟨Nat.le_of_ble_eq_true rfl, Nat.le_of_ble_eq_true rfl⟩) (rdS hK hP [] [0] rfl rfl) rfl rfl hl.1 rfl (lv_room (Nat.le_of_ble_eq_true rfl)) dX4_come_22 ⟨Nat.zero_le _, Nat.zero_le _⟩) ?_
    refine lv_if_eq (tgt := 39) hx hb dX4_come_25 (by decide) (fun c_2 => ?_) (fun c_2 => ?_)
    · skip
      have c_2 : ¬ (1 ≤ p2 ∧ p2 ≤ 40) := bI_z.mp c_2
      subst hQ
      exact ex_throw (E := "java/lang/IllegalArgumentException") (97, "no courier has that weight or those letters") hx hb hst hown hts hEX htab (by decide) rfl (by decide +kernel) (by decide +kernel) (by decide +kernel) (by decide +kernel) (by decide +kernel) (by decide +kernel) hl.1 hml dX4_come_39 dX4_come_42 dX4_come_43 dX4_come_45 dX4_come_48 (Nat.le_of_ble_eq_true rfl) (Nat.le_of_ble_eq_true rfl) (Nat.le_of_ble_eq_true rfl) (Nat.le_of_ble_eq_true rfl) hlocks
    · skip
      have c_2 : (1 ≤ p2 ∧ p2 ≤ 40) := bI_nz.mp c_2
      refine lv_iload hx hb dX4_come_28 (lv_at hl 4 rfl) ?_
      refine lv_iconst (v := 0) hx hb dX4_come_30 (by decide) ?_
      refine lv_bipush (v := 20) hx hb dX4_come_31 (by decide) ?_
      refine rd_i (va_runS (As := [.int p3, .int 0, .int 20]) (rest := []) ⟨hx, hb, hml, hown, hts⟩ (M_X4_isWithin l D cI p3 0 20 ) (va_cwS 3 hts gX4_come_X4_isWithin rfl rfl rfl (by decide +kernel) ⟨Nat.le_of_ble_eq_true rfl, Nat.le_of_ble_eq_true rfl⟩) (rdS hK hP [] [0] rfl rfl) rfl rfl hl.1 rfl (lv_room (Nat.le_of_ble_eq_true rfl)) dX4_come_33 ⟨Nat.zero_le _, Nat.zero_le _⟩) ?_
      refine lv_if_ne (tgt := 49) hx hb dX4_come_36 (by decide) (fun c_3 => ?_) (fun c_3 => ?_)
      · skip
        have c_3 : (0 ≤ p3 ∧ p3 ≤ 20) := bI_nz.mp c_3
        exact absurd ⟨by assumption, c_3⟩ h2
      · skip
        have c_3 : ¬ (0 ≤ p3 ∧ p3 ≤ 20) := bI_z.mp c_3
        subst hQ
        exact ex_throw (E := "java/lang/IllegalArgumentException") (97, "no courier has that weight or those letters") hx hb hst hown hts hEX htab (by decide) rfl (by decide +kernel) (by decide +kernel) (by decide +kernel) (by decide +kernel) (by decide +kernel) (by decide +kernel) hl.1 hml dX4_come_39 dX4_come_42 dX4_come_43 dX4_come_45 dX4_come_48 (Nat.le_of_ble_eq_true rfl) (Nat.le_of_ble_eq_true rfl) (Nat.le_of_ble_eq_true rfl) (Nat.le_of_ble_eq_true rfl) hlocks
  · skip
    have c_1 : ¬ ((0 ≤ p0 ∧ p0 ≤ 11) ∧ (0 ≤ p1 ∧ p1 ≤ 2)) := bI_z.mp c_1
    first | exact absurd c_1 (by assumption) | exact absurd (by assumption) c_1
set_option maxHeartbeats 4000000 in
set_option maxRecDepth 100000 in
theorem M_X4_come_e3 (l : Launch) (D : va_G) (cI : ClassId) (b : Nat → Nat) (a : Nat → Nat) (a2 : Nat → Nat) (σ : St) (σ2 : St) (ω : St) (sn : Nat) (ln : Nat) (p2 : Int32) (p3 : Int32) (sk : Int32) (A9 : Nat → Prop) (hst : l.stackTraces = false) (hs : sn < 12) (hl9 : ln < 3) (h1 : ((0 ≤ nI sn ∧ nI sn ≤ 11) ∧ (0 ≤ nI ln ∧ nI ln ≤ 2))) (h2 : (1 ≤ p2 ∧ p2 ≤ 40)) (h3 : (0 ≤ p3 ∧ p3 ≤ 20)) (h4 : σ 17 0 = 8 ∨ ¬ p2 + p3 ≤ sound (σ 3) (σ 4) (nI sn) (nI ln)) : vx_Met l yX4_come wsX4_come ({ frames := 6, cells := 1, slots := 6, locals := 82 } : Room) (exPc [.ref (b 0), .int (nI sn), .int (nI ln), .int p2, .int p3, .int sk] D (wLan b a a2 cI σ σ2 ω) [(cI, .int)] A9) exQ (exX "java/lang/IllegalStateException") 1 6 (fun _ => False) := by
  refine vx_ofW (cc := cX4_come) (maxL := 6) (ret := (some .int)) (by decide) rfl ?_
  intro p e s m args below meth c s₁ B hml htab hv
  obtain ⟨⟨hargs, hP, hK⟩, hEX⟩ := hv
  have hx := B.exec
  have hb := B.bytes
  have hr := B.returns
  have hts := atoms_spec (ws := wsX4_come) B.pre
  have hown : s.vm.findClass RX4 = some m.cls := findClass_of_methodNamed B.named
  have hlocks := B.notSynchronized
  obtain ⟨_, hN⟩ := id hK
  have hiX0 : ∀ w ∈ wsX00, w ∈ wsX4_come := by decide +kernel
  have hiX2 : ∀ w ∈ wsX20, w ∈ wsX4_come := by decide +kernel
  have hiX4 : ∀ w ∈ wsX40, w ∈ wsX4_come := by decide +kernel
  refine my_abs (fun Q hQ => ?_)
  obtain ⟨ls, hl, hent⟩ := my_entry (m := m) (n := 6) hargs (Nat.le_of_ble_eq_true rfl)
  rw [hent]
  have hl : lv_has ls 6 [(0, .ref (b 0)), (1, .int (nI sn)), (2, .int (nI ln)), (3, .int p2), (4, .int p3), (5, .int sk)] := hl
  show W p l e ({ frames := 6, cells := 1, slots := 6, locals := 82 } : Room) s m args below meth c s.heap [] 0 0 Q (F0 m 0 ls [])
  refine lv_iload_n hx hb dX4_come_0 rfl (lv_at hl 1 rfl) ?_
  refine lv_iload_n hx hb dX4_come_1 rfl (lv_at hl 2 rfl) ?_
  refine rd_i (va_runS (As := [.int (nI sn), .int (nI ln)]) (rest := []) ⟨hx, hb, hml, hown, hts⟩ (M_X4_isPlace l D cI (nI sn) (nI ln) ) (va_cwS 2 hts gX4_come_X4_isPlace rfl rfl rfl (by decide +kernel) ⟨Nat.le_of_ble_eq_true rfl, Nat.le_of_ble_eq_true rfl⟩) (rdS hK hP [] [0] rfl rfl) rfl rfl hl.1 rfl (lv_room (Nat.le_of_ble_eq_true rfl)) dX4_come_2 ⟨Nat.zero_le _, Nat.zero_le _⟩) ?_
  refine lv_if_ne (tgt := 18) hx hb dX4_come_5 (by decide) (fun c_1 => ?_) (fun c_1 => ?_)
  · skip
    have c_1 : ((0 ≤ (nI sn) ∧ (nI sn) ≤ 11) ∧ (0 ≤ (nI ln) ∧ (nI ln) ≤ 2)) := bI_nz.mp c_1
    refine lv_iload_n hx hb dX4_come_18 rfl (lv_at hl 3 rfl) ?_
    refine lv_iconst (v := 1) hx hb dX4_come_19 (by decide) ?_
    refine lv_bipush (v := 40) hx hb dX4_come_20 (by decide) ?_
    refine rd_i (va_runS (As := [.int p2, .int 1, .int 40]) (rest := []) ⟨hx, hb, hml, hown, hts⟩ (M_X4_isWithin l D cI p2 1 40 ) (va_cwS 3 hts gX4_come_X4_isWithin rfl rfl rfl (by decide +kernel) ⟨Nat.le_of_ble_eq_true rfl, Nat.le_of_ble_eq_true rfl⟩) (rdS hK hP [] [0] rfl rfl) rfl rfl hl.1 rfl (lv_room (Nat.le_of_ble_eq_true rfl)) dX4_come_22 ⟨Nat.zero_le _, Nat.zero_le _⟩) ?_
    refine lv_if_eq (tgt := 39) hx hb dX4_come_25 (by decide) (fun c_2 => ?_) (fun c_2 => ?_)
    · skip
      have c_2 : ¬ (1 ≤ p2 ∧ p2 ≤ 40) := bI_z.mp c_2
      first | exact absurd c_2 (by assumption) | exact absurd (by assumption) c_2
    · skip
      have c_2 : (1 ≤ p2 ∧ p2 ≤ 40) := bI_nz.mp c_2
      refine lv_iload hx hb dX4_come_28 (lv_at hl 4 rfl) ?_
      refine lv_iconst (v := 0) hx hb dX4_come_30 (by decide) ?_
      refine lv_bipush (v := 20) hx hb dX4_come_31 (by decide) ?_
      refine rd_i (va_runS (As := [.int p3, .int 0, .int 20]) (rest := []) ⟨hx, hb, hml, hown, hts⟩ (M_X4_isWithin l D cI p3 0 20 ) (va_cwS 3 hts gX4_come_X4_isWithin rfl rfl rfl (by decide +kernel) ⟨Nat.le_of_ble_eq_true rfl, Nat.le_of_ble_eq_true rfl⟩) (rdS hK hP [] [0] rfl rfl) rfl rfl hl.1 rfl (lv_room (Nat.le_of_ble_eq_true rfl)) dX4_come_33 ⟨Nat.zero_le _, Nat.zero_le _⟩) ?_
      refine lv_if_ne (tgt := 49) hx hb dX4_come_36 (by decide) (fun c_3 => ?_) (fun c_3 => ?_)
      · skip
        have c_3 : (0 ≤ p3 ∧ p3 ≤ 20) := bI_nz.mp c_3
        refine lv_aload_n hx hb dX4_come_49 rfl (lv_at hl 0 rfl) ?_
        refine va_get (D := D) (ci := 4) (v := .ref (a 0)) (C := RX4) (T := TX4) (N := 3) hx hb hts hiX4 hown hK.1 hP 0 rfl rfl 0 (by decide) (hts (.fieldLink RX4 12 "IceLanes" "river" "LIceLanes$River;") (by decide +kernel)) (fun _ h9 => h9) rfl dX4_come_50 ?_
        refine va_getN (D := D) (ci := 2) (v := .ref (a 6)) (C := RX2) (T := TX2) (N := 6) hx hb hts hiX2 hown hK.1 hP 4 rfl rfl 5 (by decide) (va_Nw.use rfl (nX4_88 hN)) (fun _ h9 => h9) rfl dX4_come_53 ?_
        refine va_getN (D := D) (ci := 0) (v := .int (σ 17 0)) (C := RX0) (T := TX0) (N := 10) hx hb hts hiX0 hown hK.1 hP 10 rfl rfl 0 (by decide) (va_Nw.use rfl (nX4_99 hN)) (fun _ h9 => h9) rfl dX4_come_56 ?_
        refine lv_bipush (v := 8) hx hb dX4_come_59 (by decide) ?_
        refine lv_icmp_lt (tgt := 74) hx hb dX4_come_61 (by decide) (fun c_4 => ?_) (fun c_4 => ?_)
        · skip
          refine lv_aload_n hx hb dX4_come_74 rfl (lv_at hl 0 rfl) ?_
          refine va_get (D := D) (ci := 4) (v := .ref (a 0)) (C := RX4) (T := TX4) (N := 3) hx hb hts hiX4 hown hK.1 hP 0 rfl rfl 0 (by decide) (hts (.fieldLink RX4 12 "IceLanes" "river" "LIceLanes$River;") (by decide +kernel)) (fun _ h9 => h9) rfl dX4_come_75 ?_
          refine va_getN (D := D) (ci := 2) (v := .ref (a 3)) (C := RX2) (T := TX2) (N := 6) hx hb hts hiX2 hown hK.1 hP 4 rfl rfl 4 (by decide) (va_Nw.use rfl (nX4_58 hN)) (fun _ h9 => h9) rfl dX4_come_78 ?_
          refine lv_iload_n hx hb dX4_come_81 rfl (lv_at hl 1 rfl) ?_
          refine lv_iload_n hx hb dX4_come_82 rfl (lv_at hl 2 rfl) ?_
          refine lv_iload_n hx hb dX4_come_83 rfl (lv_at hl 3 rfl) ?_
          refine lv_iload hx hb dX4_come_84 (lv_at hl 4 rfl) ?_
          refine lv_iadd hx hb dX4_come_86 ?_
          refine rd_i (va_runVN (As := [.int (nI sn), .int (nI ln), .int (p2 + p3)]) (rest := []) ⟨hx, hb, hml, hown, hts⟩ (M_X1_holds l D cI a σ (nI sn) (nI ln) (p2 + p3) (nI_le11 hs) (nI_le2 hl9)) ⟨va_cnB 3 hts gX4_come_X1_holds_n108 rfl rfl rfl (nX4_108 hN) (hts (.initialized RX1) (by decide +kernel)) (by decide +kernel) ⟨Nat.le_of_ble_eq_true rfl, Nat.le_of_ble_eq_true rfl⟩, hts (.instanceMethod yX1_holds) (by decide +kernel), hts (.selects RX1 yX1_holds yX1_holds) (by decide +kernel)⟩ (rdV hK hP [7, 8, 9] [0] rfl rfl (ci := 1) (q0 := 7) rfl rfl) rfl rfl hl.1 rfl (lv_room (Nat.le_of_ble_eq_true rfl)) dX4_come_87 ⟨Nat.zero_le _, Nat.zero_le _⟩) ?_
          refine lv_if_ne (tgt := 103) hx hb dX4_come_90 (by decide) (fun c_5 => ?_) (fun c_5 => ?_)
          · skip
            have c_5 : ((p2 + p3) ≤ sound ((σ 3)) ((σ 4)) (nI sn) (nI ln)) := bI_nz.mp c_5
            exact h4.elim (fun z => absurd (show σ 17 0 < 8 by assumption) (by rw [z]; decide)) (fun z => absurd c_5 z)
          · skip
            have c_5 : ¬ ((p2 + p3) ≤ sound ((σ 3)) ((σ 4)) (nI sn) (nI ln)) := bI_z.mp c_5
            subst hQ
            exact ex_throw (E := "java/lang/IllegalStateException") (111, "the place does not bear the weight and the letters") hx hb hst hown hts hEX htab (by decide) rfl (by decide +kernel) (by decide +kernel) (by decide +kernel) (by decide +kernel) (by decide +kernel) (by decide +kernel) hl.1 hml dX4_come_93 dX4_come_96 dX4_come_97 dX4_come_99 dX4_come_102 (Nat.le_of_ble_eq_true rfl) (Nat.le_of_ble_eq_true rfl) (Nat.le_of_ble_eq_true rfl) (Nat.le_of_ble_eq_true rfl) hlocks
        · skip
          subst hQ
          exact ex_throw (E := "java/lang/IllegalStateException") (105, "there are as many couriers as there can be") hx hb hst hown hts hEX htab (by decide) rfl (by decide +kernel) (by decide +kernel) (by decide +kernel) (by decide +kernel) (by decide +kernel) (by decide +kernel) hl.1 hml dX4_come_64 dX4_come_67 dX4_come_68 dX4_come_70 dX4_come_73 (Nat.le_of_ble_eq_true rfl) (Nat.le_of_ble_eq_true rfl) (Nat.le_of_ble_eq_true rfl) (Nat.le_of_ble_eq_true rfl) hlocks
      · skip
        have c_3 : ¬ (0 ≤ p3 ∧ p3 ≤ 20) := bI_z.mp c_3
        first | exact absurd c_3 (by assumption) | exact absurd (by assumption) c_3
  · skip
    have c_1 : ¬ ((0 ≤ (nI sn) ∧ (nI sn) ≤ 11) ∧ (0 ≤ (nI ln) ∧ (nI ln) ≤ 2)) := bI_z.mp c_1
    first | exact absurd c_1 (by assumption) | exact absurd (by assumption) c_1
set_option maxHeartbeats 4000000 in
set_option maxRecDepth 100000 in
theorem M_X4_send_e1 (l : Launch) (D : va_G) (cI : ClassId) (b : Nat → Nat) (a : Nat → Nat) (a2 : Nat → Nat) (σ : St) (σ2 : St) (ω : St) (p0 : Int32) (p1 : Int32) (A9 : Nat → Prop) (hst : l.stackTraces = false) (h1 : ¬ ((0 ≤ p0 ∧ p0 ≤ σ 17 0 - 1) ∧ (0 ≤ p1 ∧ p1 ≤ 11))) : vx_Met l yX4_send wsX4_send ({ frames := 6, cells := 1, slots := 6, locals := 82 } : Room) (exPc [.ref (b 0), .int p0, .int p1] D (wLan b a a2 cI σ σ2 ω) [(cI, .int)] A9) exQ (exX "java/lang/IndexOutOfBoundsException") 1 6 (fun _ => False) := by
  refine vx_ofW (cc := cX4_send) (maxL := 3) (ret := (some .int)) (by decide) rfl ?_
  intro p e s m args below meth c s₁ B hml htab hv
  obtain ⟨⟨hargs, hP, hK⟩, hEX⟩ := hv
  have hx := B.exec
  have hb := B.bytes
  have hr := B.returns
  have hts := atoms_spec (ws := wsX4_send) B.pre
  have hown : s.vm.findClass RX4 = some m.cls := findClass_of_methodNamed B.named
  have hlocks := B.notSynchronized
  obtain ⟨_, hN⟩ := id hK
  have hiX2 : ∀ w ∈ wsX20, w ∈ wsX4_send := by decide +kernel
  have hiX4 : ∀ w ∈ wsX40, w ∈ wsX4_send := by decide +kernel
  refine my_abs (fun Q hQ => ?_)
  obtain ⟨ls, hl, hent⟩ := my_entry (m := m) (n := 3) hargs (Nat.le_of_ble_eq_true rfl)
  rw [hent]
  have hl : lv_has ls 3 [(0, .ref (b 0)), (1, .int p0), (2, .int p1)] := hl
  show W p l e ({ frames := 6, cells := 1, slots := 6, locals := 82 } : Room) s m args below meth c s.heap [] 0 0 Q (F0 m 0 ls [])
  refine lv_aload_n hx hb dX4_send_0 rfl (lv_at hl 0 rfl) ?_
  refine va_get (D := D) (ci := 4) (v := .ref (a 0)) (C := RX4) (T := TX4) (N := 3) hx hb hts hiX4 hown hK.1 hP 0 rfl rfl 0 (by decide) (hts (.fieldLink RX4 12 "IceLanes" "river" "LIceLanes$River;") (by decide +kernel)) (fun _ h9 => h9) rfl dX4_send_1 ?_
  refine va_getN (D := D) (ci := 2) (v := .ref (a 6)) (C := RX2) (T := TX2) (N := 6) hx hb hts hiX2 hown hK.1 hP 4 rfl rfl 5 (by decide) (va_Nw.use rfl (nX4_88 hN)) (fun _ h9 => h9) rfl dX4_send_4 ?_
  refine lv_iload_n hx hb dX4_send_7 rfl (lv_at hl 1 rfl) ?_
  refine rd_i (va_runVN (As := [.int p0]) (rest := []) ⟨hx, hb, hml, hown, hts⟩ (M_X0_has l D cI a σ p0 ) ⟨va_cnB 1 hts gX4_send_X0_has_n117 rfl rfl rfl (nX4_117 hN) (hts (.initialized RX0) (by decide +kernel)) (by decide +kernel) ⟨Nat.le_of_ble_eq_true rfl, Nat.le_of_ble_eq_true rfl⟩, hts (.instanceMethod yX0_has) (by decide +kernel), hts (.selects RX0 yX0_has yX0_has) (by decide +kernel)⟩ (rdV hK hP [10, 11, 12, 13, 14, 15, 16, 17, 18, 19] [0] rfl rfl (ci := 0) (q0 := 10) rfl rfl) rfl rfl hl.1 rfl (lv_room (Nat.le_of_ble_eq_true rfl)) dX4_send_8 ⟨Nat.zero_le _, Nat.zero_le _⟩) ?_
  refine lv_if_eq (tgt := 21) hx hb dX4_send_11 (by decide) (fun c_1 => ?_) (fun c_1 => ?_)
  · skip
    have c_1 : ¬ (0 ≤ p0 ∧ p0 ≤ (σ 17 0) - 1) := bI_z.mp c_1
    subst hQ
    exact ex_throw (E := "java/lang/IndexOutOfBoundsException") (120, "no such courier or section") hx hb hst hown hts hEX htab (by decide) rfl (by decide +kernel) (by decide +kernel) (by decide +kernel) (by decide +kernel) (by decide +kernel) (by decide +kernel) hl.1 hml dX4_send_21 dX4_send_24 dX4_send_25 dX4_send_27 dX4_send_30 (Nat.le_of_ble_eq_true rfl) (Nat.le_of_ble_eq_true rfl) (Nat.le_of_ble_eq_true rfl) (Nat.le_of_ble_eq_true rfl) hlocks
  · skip
    have c_1 : (0 ≤ p0 ∧ p0 ≤ (σ 17 0) - 1) := bI_nz.mp c_1
    refine lv_iload_n hx hb dX4_send_14 rfl (lv_at hl 2 rfl) ?_
    refine rd_i (va_runS (As := [.int p1]) (rest := []) ⟨hx, hb, hml, hown, hts⟩ (M_X4_isSection l D cI p1 ) (va_cwS 1 hts gX4_send_X4_isSection rfl rfl rfl (by decide +kernel) ⟨Nat.le_of_ble_eq_true rfl, Nat.le_of_ble_eq_true rfl⟩) (rdS hK hP [] [0] rfl rfl) rfl rfl hl.1 rfl (lv_room (Nat.le_of_ble_eq_true rfl)) dX4_send_15 ⟨Nat.zero_le _, Nat.zero_le _⟩) ?_
    refine lv_if_ne (tgt := 31) hx hb dX4_send_18 (by decide) (fun c_2 => ?_) (fun c_2 => ?_)
    · skip
      have c_2 : (0 ≤ p1 ∧ p1 ≤ 11) := bI_nz.mp c_2
      exact absurd ⟨by assumption, c_2⟩ h1
    · skip
      have c_2 : ¬ (0 ≤ p1 ∧ p1 ≤ 11) := bI_z.mp c_2
      subst hQ
      exact ex_throw (E := "java/lang/IndexOutOfBoundsException") (120, "no such courier or section") hx hb hst hown hts hEX htab (by decide) rfl (by decide +kernel) (by decide +kernel) (by decide +kernel) (by decide +kernel) (by decide +kernel) (by decide +kernel) hl.1 hml dX4_send_21 dX4_send_24 dX4_send_25 dX4_send_27 dX4_send_30 (Nat.le_of_ble_eq_true rfl) (Nat.le_of_ble_eq_true rfl) (Nat.le_of_ble_eq_true rfl) (Nat.le_of_ble_eq_true rfl) hlocks
set_option maxHeartbeats 4000000 in
set_option maxRecDepth 100000 in
theorem M_X4_send_e2 (l : Launch) (D : va_G) (cI : ClassId) (b : Nat → Nat) (a : Nat → Nat) (a2 : Nat → Nat) (σ : St) (σ2 : St) (ω : St) (cu : Nat) (p1 : Int32) (A9 : Nat → Prop) (hst : l.stackTraces = false) (hcu : cu < 8) (h1 : (0 ≤ nI cu ∧ nI cu ≤ σ 17 0 - 1)) (h2 : (0 ≤ p1 ∧ p1 ≤ 11)) (h3 : σ 11 cu = 3) : vx_Met l yX4_send wsX4_send ({ frames := 6, cells := 1, slots := 6, locals := 82 } : Room) (exPc [.ref (b 0), .int (nI cu), .int p1] D (wLan b a a2 cI σ σ2 ω) [(cI, .int)] A9) exQ (exX "java/lang/IllegalStateException") 1 6 (fun _ => False) := by
  refine vx_ofW (cc := cX4_send) (maxL := 3) (ret := (some .int)) (by decide) rfl ?_
  intro p e s m args below meth c s₁ B hml htab hv
  obtain ⟨⟨hargs, hP, hK⟩, hEX⟩ := hv
  have hx := B.exec
  have hb := B.bytes
  have hr := B.returns
  have hts := atoms_spec (ws := wsX4_send) B.pre
  have hown : s.vm.findClass RX4 = some m.cls := findClass_of_methodNamed B.named
  have hlocks := B.notSynchronized
  obtain ⟨_, hN⟩ := id hK
  have hiX0 : ∀ w ∈ wsX00, w ∈ wsX4_send := by decide +kernel
  have hiX2 : ∀ w ∈ wsX20, w ∈ wsX4_send := by decide +kernel
  have hiX4 : ∀ w ∈ wsX40, w ∈ wsX4_send := by decide +kernel
  refine my_abs (fun Q hQ => ?_)
  obtain ⟨ls, hl, hent⟩ := my_entry (m := m) (n := 3) hargs (Nat.le_of_ble_eq_true rfl)
  rw [hent]
  have hl : lv_has ls 3 [(0, .ref (b 0)), (1, .int (nI cu)), (2, .int p1)] := hl
  show W p l e ({ frames := 6, cells := 1, slots := 6, locals := 82 } : Room) s m args below meth c s.heap [] 0 0 Q (F0 m 0 ls [])
  refine lv_aload_n hx hb dX4_send_0 rfl (lv_at hl 0 rfl) ?_
  refine va_get (D := D) (ci := 4) (v := .ref (a 0)) (C := RX4) (T := TX4) (N := 3) hx hb hts hiX4 hown hK.1 hP 0 rfl rfl 0 (by decide) (hts (.fieldLink RX4 12 "IceLanes" "river" "LIceLanes$River;") (by decide +kernel)) (fun _ h9 => h9) rfl dX4_send_1 ?_
  refine va_getN (D := D) (ci := 2) (v := .ref (a 6)) (C := RX2) (T := TX2) (N := 6) hx hb hts hiX2 hown hK.1 hP 4 rfl rfl 5 (by decide) (va_Nw.use rfl (nX4_88 hN)) (fun _ h9 => h9) rfl dX4_send_4 ?_
  refine lv_iload_n hx hb dX4_send_7 rfl (lv_at hl 1 rfl) ?_
  refine rd_i (va_runVN (As := [.int (nI cu)]) (rest := []) ⟨hx, hb, hml, hown, hts⟩ (M_X0_has l D cI a σ (nI cu) ) ⟨va_cnB 1 hts gX4_send_X0_has_n117 rfl rfl rfl (nX4_117 hN) (hts (.initialized RX0) (by decide +kernel)) (by decide +kernel) ⟨Nat.le_of_ble_eq_true rfl, Nat.le_of_ble_eq_true rfl⟩, hts (.instanceMethod yX0_has) (by decide +kernel), hts (.selects RX0 yX0_has yX0_has) (by decide +kernel)⟩ (rdV hK hP [10, 11, 12, 13, 14, 15, 16, 17, 18, 19] [0] rfl rfl (ci := 0) (q0 := 10) rfl rfl) rfl rfl hl.1 rfl (lv_room (Nat.le_of_ble_eq_true rfl)) dX4_send_8 ⟨Nat.zero_le _, Nat.zero_le _⟩) ?_
  refine lv_if_eq (tgt := 21) hx hb dX4_send_11 (by decide) (fun c_1 => ?_) (fun c_1 => ?_)
  · skip
    have c_1 : ¬ (0 ≤ (nI cu) ∧ (nI cu) ≤ (σ 17 0) - 1) := bI_z.mp c_1
    first | exact absurd c_1 (by assumption) | exact absurd (by assumption) c_1
  · skip
    have c_1 : (0 ≤ (nI cu) ∧ (nI cu) ≤ (σ 17 0) - 1) := bI_nz.mp c_1
    refine lv_iload_n hx hb dX4_send_14 rfl (lv_at hl 2 rfl) ?_
    refine rd_i (va_runS (As := [.int p1]) (rest := []) ⟨hx, hb, hml, hown, hts⟩ (M_X4_isSection l D cI p1 ) (va_cwS 1 hts gX4_send_X4_isSection rfl rfl rfl (by decide +kernel) ⟨Nat.le_of_ble_eq_true rfl, Nat.le_of_ble_eq_true rfl⟩) (rdS hK hP [] [0] rfl rfl) rfl rfl hl.1 rfl (lv_room (Nat.le_of_ble_eq_true rfl)) dX4_send_15 ⟨Nat.zero_le _, Nat.zero_le _⟩) ?_
    refine lv_if_ne (tgt := 31) hx hb dX4_send_18 (by decide) (fun c_2 => ?_) (fun c_2 => ?_)
    · skip
      have c_2 : (0 ≤ p1 ∧ p1 ≤ 11) := bI_nz.mp c_2
      refine lv_aload_n hx hb dX4_send_31 rfl (lv_at hl 0 rfl) ?_
      refine va_get (D := D) (ci := 4) (v := .ref (a 0)) (C := RX4) (T := TX4) (N := 3) hx hb hts hiX4 hown hK.1 hP 0 rfl rfl 0 (by decide) (hts (.fieldLink RX4 12 "IceLanes" "river" "LIceLanes$River;") (by decide +kernel)) (fun _ h9 => h9) rfl dX4_send_32 ?_
      refine va_getN (D := D) (ci := 2) (v := .ref (a 6)) (C := RX2) (T := TX2) (N := 6) hx hb hts hiX2 hown hK.1 hP 4 rfl rfl 5 (by decide) (va_Nw.use rfl (nX4_88 hN)) (fun _ h9 => h9) rfl dX4_send_35 ?_
      refine va_getN (D := D) (ci := 0) (v := .ref (a 13)) (C := RX0) (T := TX0) (N := 10) hx hb hts hiX0 hown hK.1 hP 10 rfl rfl 7 (by decide) (va_Nw.use rfl (nX4_122 hN)) (fun _ h9 => h9) rfl dX4_send_38 ?_
      refine lv_iload_n hx hb dX4_send_41 rfl (lv_at hl 1 rfl) ?_
      refine va_iald hx hb hK.1 hP 17 0 rfl rfl (by first | assumption | exact vp_in_nI (by omega) (by decide)) dX4_send_42 ?_
      rw [nI_clamp (n := cu) (by omega)]
      refine lv_iconst (v := 3) hx hb dX4_send_43 (by decide) ?_
      refine lv_icmp_ne (tgt := 57) hx hb dX4_send_44 (by decide) (fun c_3 => ?_) (fun c_3 => ?_)
      · skip
        first | exact absurd c_3 (by assumption) | exact absurd (by assumption) c_3
      · skip
        subst hQ
        exact ex_throw (E := "java/lang/IllegalStateException") (125, "this courier broke in") hx hb hst hown hts hEX htab (by decide) rfl (by decide +kernel) (by decide +kernel) (by decide +kernel) (by decide +kernel) (by decide +kernel) (by decide +kernel) hl.1 hml dX4_send_47 dX4_send_50 dX4_send_51 dX4_send_53 dX4_send_56 (Nat.le_of_ble_eq_true rfl) (Nat.le_of_ble_eq_true rfl) (Nat.le_of_ble_eq_true rfl) (Nat.le_of_ble_eq_true rfl) hlocks
    · skip
      have c_2 : ¬ (0 ≤ p1 ∧ p1 ≤ 11) := bI_z.mp c_2
      first | exact absurd c_2 (by assumption) | exact absurd (by assumption) c_2
set_option maxHeartbeats 4000000 in
set_option maxRecDepth 100000 in
theorem M_X4_load_e1 (l : Launch) (D : va_G) (cI : ClassId) (b : Nat → Nat) (a : Nat → Nat) (a2 : Nat → Nat) (σ : St) (σ2 : St) (ω : St) (p0 : Int32) (p1 : Int32) (A9 : Nat → Prop) (hst : l.stackTraces = false) (h1 : ¬ (0 ≤ p0 ∧ p0 ≤ σ 17 0 - 1)) : vx_Met l yX4_load wsX4_load ({ frames := 6, cells := 1, slots := 6, locals := 82 } : Room) (exPc [.ref (b 0), .int p0, .int p1] D (wLan b a a2 cI σ σ2 ω) [(cI, .int)] A9) exQ (exX "java/lang/IndexOutOfBoundsException") 1 6 (fun _ => False) := by
  refine vx_ofW (cc := cX4_load) (maxL := 4) (ret := (some .int)) (by decide) rfl ?_
  intro p e s m args below meth c s₁ B hml htab hv
  obtain ⟨⟨hargs, hP, hK⟩, hEX⟩ := hv
  have hx := B.exec
  have hb := B.bytes
  have hr := B.returns
  have hts := atoms_spec (ws := wsX4_load) B.pre
  have hown : s.vm.findClass RX4 = some m.cls := findClass_of_methodNamed B.named
  have hlocks := B.notSynchronized
  obtain ⟨_, hN⟩ := id hK
  have hiX2 : ∀ w ∈ wsX20, w ∈ wsX4_load := by decide +kernel
  have hiX4 : ∀ w ∈ wsX40, w ∈ wsX4_load := by decide +kernel
  refine my_abs (fun Q hQ => ?_)
  obtain ⟨ls, hl, hent⟩ := my_entry (m := m) (n := 4) hargs (Nat.le_of_ble_eq_true rfl)
  rw [hent]
  have hl : lv_has ls 4 [(0, .ref (b 0)), (1, .int p0), (2, .int p1)] := hl
  show W p l e ({ frames := 6, cells := 1, slots := 6, locals := 82 } : Room) s m args below meth c s.heap [] 0 0 Q (F0 m 0 ls [])
  refine lv_aload_n hx hb dX4_load_0 rfl (lv_at hl 0 rfl) ?_
  refine va_get (D := D) (ci := 4) (v := .ref (a 0)) (C := RX4) (T := TX4) (N := 3) hx hb hts hiX4 hown hK.1 hP 0 rfl rfl 0 (by decide) (hts (.fieldLink RX4 12 "IceLanes" "river" "LIceLanes$River;") (by decide +kernel)) (fun _ h9 => h9) rfl dX4_load_1 ?_
  refine va_getN (D := D) (ci := 2) (v := .ref (a 6)) (C := RX2) (T := TX2) (N := 6) hx hb hts hiX2 hown hK.1 hP 4 rfl rfl 5 (by decide) (va_Nw.use rfl (nX4_88 hN)) (fun _ h9 => h9) rfl dX4_load_4 ?_
  refine lv_iload_n hx hb dX4_load_7 rfl (lv_at hl 1 rfl) ?_
  refine rd_i (va_runVN (As := [.int p0]) (rest := []) ⟨hx, hb, hml, hown, hts⟩ (M_X0_has l D cI a σ p0 ) ⟨va_cnB 1 hts gX4_load_X0_has_n117 rfl rfl rfl (nX4_117 hN) (hts (.initialized RX0) (by decide +kernel)) (by decide +kernel) ⟨Nat.le_of_ble_eq_true rfl, Nat.le_of_ble_eq_true rfl⟩, hts (.instanceMethod yX0_has) (by decide +kernel), hts (.selects RX0 yX0_has yX0_has) (by decide +kernel)⟩ (rdV hK hP [10, 11, 12, 13, 14, 15, 16, 17, 18, 19] [0] rfl rfl (ci := 0) (q0 := 10) rfl rfl) rfl rfl hl.1 rfl (lv_room (Nat.le_of_ble_eq_true rfl)) dX4_load_8 ⟨Nat.zero_le _, Nat.zero_le _⟩) ?_
  refine lv_if_ne (tgt := 24) hx hb dX4_load_11 (by decide) (fun c_1 => ?_) (fun c_1 => ?_)
  · skip
    have c_1 : (0 ≤ p0 ∧ p0 ≤ (σ 17 0) - 1) := bI_nz.mp c_1
    first | exact absurd c_1 (by assumption) | exact absurd (by assumption) c_1
  · skip
    have c_1 : ¬ (0 ≤ p0 ∧ p0 ≤ (σ 17 0) - 1) := bI_z.mp c_1
    subst hQ
    exact ex_throw (E := "java/lang/IndexOutOfBoundsException") (139, "no such courier") hx hb hst hown hts hEX htab (by decide) rfl (by decide +kernel) (by decide +kernel) (by decide +kernel) (by decide +kernel) (by decide +kernel) (by decide +kernel) hl.1 hml dX4_load_14 dX4_load_17 dX4_load_18 dX4_load_20 dX4_load_23 (Nat.le_of_ble_eq_true rfl) (Nat.le_of_ble_eq_true rfl) (Nat.le_of_ble_eq_true rfl) (Nat.le_of_ble_eq_true rfl) hlocks
set_option maxHeartbeats 4000000 in
set_option maxRecDepth 100000 in
theorem M_X4_load_e2 (l : Launch) (D : va_G) (cI : ClassId) (b : Nat → Nat) (a : Nat → Nat) (a2 : Nat → Nat) (σ : St) (σ2 : St) (ω : St) (p0 : Int32) (p1 : Int32) (A9 : Nat → Prop) (hst : l.stackTraces = false) (h1 : (0 ≤ p0 ∧ p0 ≤ σ 17 0 - 1)) (h2 : p1 = 0 ∨ ¬ ((-20) ≤ p1 ∧ p1 ≤ 20)) : vx_Met l yX4_load wsX4_load ({ frames := 6, cells := 1, slots := 6, locals := 82 } : Room) (exPc [.ref (b 0), .int p0, .int p1] D (wLan b a a2 cI σ σ2 ω) [(cI, .int)] A9) exQ (exX "java/lang/IllegalArgumentException") 1 6 (fun _ => False) := by
  refine vx_ofW (cc := cX4_load) (maxL := 4) (ret := (some .int)) (by decide) rfl ?_
  intro p e s m args below meth c s₁ B hml htab hv
  obtain ⟨⟨hargs, hP, hK⟩, hEX⟩ := hv
  have hx := B.exec
  have hb := B.bytes
  have hr := B.returns
  have hts := atoms_spec (ws := wsX4_load) B.pre
  have hown : s.vm.findClass RX4 = some m.cls := findClass_of_methodNamed B.named
  have hlocks := B.notSynchronized
  obtain ⟨_, hN⟩ := id hK
  have hiX2 : ∀ w ∈ wsX20, w ∈ wsX4_load := by decide +kernel
  have hiX4 : ∀ w ∈ wsX40, w ∈ wsX4_load := by decide +kernel
  refine my_abs (fun Q hQ => ?_)
  obtain ⟨ls, hl, hent⟩ := my_entry (m := m) (n := 4) hargs (Nat.le_of_ble_eq_true rfl)
  rw [hent]
  have hl : lv_has ls 4 [(0, .ref (b 0)), (1, .int p0), (2, .int p1)] := hl
  show W p l e ({ frames := 6, cells := 1, slots := 6, locals := 82 } : Room) s m args below meth c s.heap [] 0 0 Q (F0 m 0 ls [])
  refine lv_aload_n hx hb dX4_load_0 rfl (lv_at hl 0 rfl) ?_
  refine va_get (D := D) (ci := 4) (v := .ref (a 0)) (C := RX4) (T := TX4) (N := 3) hx hb hts hiX4 hown hK.1 hP 0 rfl rfl 0 (by decide) (hts (.fieldLink RX4 12 "IceLanes" "river" "LIceLanes$River;") (by decide +kernel)) (fun _ h9 => h9) rfl dX4_load_1 ?_
  refine va_getN (D := D) (ci := 2) (v := .ref (a 6)) (C := RX2) (T := TX2) (N := 6) hx hb hts hiX2 hown hK.1 hP 4 rfl rfl 5 (by decide) (va_Nw.use rfl (nX4_88 hN)) (fun _ h9 => h9) rfl dX4_load_4 ?_
  refine lv_iload_n hx hb dX4_load_7 rfl (lv_at hl 1 rfl) ?_
  refine rd_i (va_runVN (As := [.int p0]) (rest := []) ⟨hx, hb, hml, hown, hts⟩ (M_X0_has l D cI a σ p0 ) ⟨va_cnB 1 hts gX4_load_X0_has_n117 rfl rfl rfl (nX4_117 hN) (hts (.initialized RX0) (by decide +kernel)) (by decide +kernel) ⟨Nat.le_of_ble_eq_true rfl, Nat.le_of_ble_eq_true rfl⟩, hts (.instanceMethod yX0_has) (by decide +kernel), hts (.selects RX0 yX0_has yX0_has) (by decide +kernel)⟩ (rdV hK hP [10, 11, 12, 13, 14, 15, 16, 17, 18, 19] [0] rfl rfl (ci := 0) (q0 := 10) rfl rfl) rfl rfl hl.1 rfl (lv_room (Nat.le_of_ble_eq_true rfl)) dX4_load_8 ⟨Nat.zero_le _, Nat.zero_le _⟩) ?_
  refine lv_if_ne (tgt := 24) hx hb dX4_load_11 (by decide) (fun c_1 => ?_) (fun c_1 => ?_)
  · skip
    have c_1 : (0 ≤ p0 ∧ p0 ≤ (σ 17 0) - 1) := bI_nz.mp c_1
    refine lv_iload_n hx hb dX4_load_24 rfl (lv_at hl 2 rfl) ?_
    refine lv_if_eq (tgt := 39) hx hb dX4_load_25 (by decide) (fun c_2 => ?_) (fun c_2 => ?_)
    · skip
      subst hQ
      exact ex_throw (E := "java/lang/IllegalArgumentException") (141, "not so many letters are given or taken at once") hx hb hst hown hts hEX htab (by decide) rfl (by decide +kernel) (by decide +kernel) (by decide +kernel) (by decide +kernel) (by decide +kernel) (by decide +kernel) hl.1 hml dX4_load_39 dX4_load_42 dX4_load_43 dX4_load_45 dX4_load_48 (Nat.le_of_ble_eq_true rfl) (Nat.le_of_ble_eq_true rfl) (Nat.le_of_ble_eq_true rfl) (Nat.le_of_ble_eq_true rfl) hlocks
    · skip
      refine lv_iload_n hx hb dX4_load_28 rfl (lv_at hl 2 rfl) ?_
      refine lv_bipush (v := (-20)) hx hb dX4_load_29 (by decide) ?_
      refine lv_bipush (v := 20) hx hb dX4_load_31 (by decide) ?_
      refine rd_i (va_runS (As := [.int p1, .int (-20), .int 20]) (rest := []) ⟨hx, hb, hml, hown, hts⟩ (M_X4_isWithin l D cI p1 (-20) 20 ) (va_cwS 3 hts gX4_load_X4_isWithin rfl rfl rfl (by decide +kernel) ⟨Nat.le_of_ble_eq_true rfl, Nat.le_of_ble_eq_true rfl⟩) (rdS hK hP [] [0] rfl rfl) rfl rfl hl.1 rfl (lv_room (Nat.le_of_ble_eq_true rfl)) dX4_load_33 ⟨Nat.zero_le _, Nat.zero_le _⟩) ?_
      refine lv_if_ne (tgt := 49) hx hb dX4_load_36 (by decide) (fun c_3 => ?_) (fun c_3 => ?_)
      · skip
        have c_3 : ((-20) ≤ p1 ∧ p1 ≤ 20) := bI_nz.mp c_3
        exact h2.elim (fun z => absurd z (by assumption)) (fun z => absurd c_3 z)
      · skip
        have c_3 : ¬ ((-20) ≤ p1 ∧ p1 ≤ 20) := bI_z.mp c_3
        subst hQ
        exact ex_throw (E := "java/lang/IllegalArgumentException") (141, "not so many letters are given or taken at once") hx hb hst hown hts hEX htab (by decide) rfl (by decide +kernel) (by decide +kernel) (by decide +kernel) (by decide +kernel) (by decide +kernel) (by decide +kernel) hl.1 hml dX4_load_39 dX4_load_42 dX4_load_43 dX4_load_45 dX4_load_48 (Nat.le_of_ble_eq_true rfl) (Nat.le_of_ble_eq_true rfl) (Nat.le_of_ble_eq_true rfl) (Nat.le_of_ble_eq_true rfl) hlocks
  · skip
    have c_1 : ¬ (0 ≤ p0 ∧ p0 ≤ (σ 17 0) - 1) := bI_z.mp c_1
    first | exact absurd c_1 (by assumption) | exact absurd (by assumption) c_1
set_option maxHeartbeats 4000000 in
set_option maxRecDepth 100000 in
theorem M_X4_load_e3 (l : Launch) (D : va_G) (cI : ClassId) (b : Nat → Nat) (a : Nat → Nat) (a2 : Nat → Nat) (σ : St) (σ2 : St) (ω : St) (cu : Nat) (p1 : Int32) (A9 : Nat → Prop) (hst : l.stackTraces = false) (hcu : cu < 8) (h1 : (0 ≤ nI cu ∧ nI cu ≤ σ 17 0 - 1)) (h2 : ¬ p1 = 0) (h3 : ((-20) ≤ p1 ∧ p1 ≤ 20)) (h6 : inS (σ 8 cu)) (h7 : inL (σ 9 cu)) (h4 : σ 11 cu = 3 ∨ ¬ (0 ≤ σ 6 cu + p1 ∧ σ 6 cu + p1 ≤ 20) ∨ ¬ σ 5 cu + (σ 6 cu + p1) ≤ sound (σ 3) (σ 4) (σ 8 cu) (σ 9 cu)) : vx_Met l yX4_load wsX4_load ({ frames := 6, cells := 1, slots := 6, locals := 90 } : Room) (exPc [.ref (b 0), .int (nI cu), .int p1] D (wLan b a a2 cI σ σ2 ω) [(cI, .int)] A9) exQ (exX "java/lang/IllegalStateException") 1 6 (fun _ => False) := by
  refine vx_ofW (cc := cX4_load) (maxL := 4) (ret := (some .int)) (by decide) rfl ?_
  intro p e s m args below meth c s₁ B hml htab hv
  obtain ⟨⟨hargs, hP, hK⟩, hEX⟩ := hv
  have hx := B.exec
  have hb := B.bytes
  have hr := B.returns
  have hts := atoms_spec (ws := wsX4_load) B.pre
  have hown : s.vm.findClass RX4 = some m.cls := findClass_of_methodNamed B.named
  have hlocks := B.notSynchronized
  obtain ⟨_, hN⟩ := id hK
  have hiX0 : ∀ w ∈ wsX00, w ∈ wsX4_load := by decide +kernel
  have hiX2 : ∀ w ∈ wsX20, w ∈ wsX4_load := by decide +kernel
  have hiX4 : ∀ w ∈ wsX40, w ∈ wsX4_load := by decide +kernel
  refine my_abs (fun Q hQ => ?_)
  obtain ⟨ls, hl, hent⟩ := my_entry (m := m) (n := 4) hargs (Nat.le_of_ble_eq_true rfl)
  rw [hent]
  have hl : lv_has ls 4 [(0, .ref (b 0)), (1, .int (nI cu)), (2, .int p1)] := hl
  show W p l e ({ frames := 6, cells := 1, slots := 6, locals := 90 } : Room) s m args below meth c s.heap [] 0 0 Q (F0 m 0 ls [])
  refine lv_aload_n hx hb dX4_load_0 rfl (lv_at hl 0 rfl) ?_
  refine va_get (D := D) (ci := 4) (v := .ref (a 0)) (C := RX4) (T := TX4) (N := 3) hx hb hts hiX4 hown hK.1 hP 0 rfl rfl 0 (by decide) (hts (.fieldLink RX4 12 "IceLanes" "river" "LIceLanes$River;") (by decide +kernel)) (fun _ h9 => h9) rfl dX4_load_1 ?_
  refine va_getN (D := D) (ci := 2) (v := .ref (a 6)) (C := RX2) (T := TX2) (N := 6) hx hb hts hiX2 hown hK.1 hP 4 rfl rfl 5 (by decide) (va_Nw.use rfl (nX4_88 hN)) (fun _ h9 => h9) rfl dX4_load_4 ?_
  refine lv_iload_n hx hb dX4_load_7 rfl (lv_at hl 1 rfl) ?_
  refine rd_i (va_runVN (As := [.int (nI cu)]) (rest := []) ⟨hx, hb, hml, hown, hts⟩ (M_X0_has l D cI a σ (nI cu) ) ⟨va_cnB 1 hts gX4_load_X0_has_n117 rfl rfl rfl (nX4_117 hN) (hts (.initialized RX0) (by decide +kernel)) (by decide +kernel) ⟨Nat.le_of_ble_eq_true rfl, Nat.le_of_ble_eq_true rfl⟩, hts (.instanceMethod yX0_has) (by decide +kernel), hts (.selects RX0 yX0_has yX0_has) (by decide +kernel)⟩ (rdV hK hP [10, 11, 12, 13, 14, 15, 16, 17, 18, 19] [0] rfl rfl (ci := 0) (q0 := 10) rfl rfl) rfl rfl hl.1 rfl (lv_room (Nat.le_of_ble_eq_true rfl)) dX4_load_8 ⟨Nat.zero_le _, Nat.zero_le _⟩) ?_
  refine lv_if_ne (tgt := 24) hx hb dX4_load_11 (by decide) (fun c_1 => ?_) (fun c_1 => ?_)
  · skip
    have c_1 : (0 ≤ (nI cu) ∧ (nI cu) ≤ (σ 17 0) - 1) := bI_nz.mp c_1
    refine lv_iload_n hx hb dX4_load_24 rfl (lv_at hl 2 rfl) ?_
    refine lv_if_eq (tgt := 39) hx hb dX4_load_25 (by decide) (fun c_2 => ?_) (fun c_2 => ?_)
    · skip
      first | exact absurd c_2 (by assumption) | exact absurd (by assumption) c_2
    · skip
      refine lv_iload_n hx hb dX4_load_28 rfl (lv_at hl 2 rfl) ?_
      refine lv_bipush (v := (-20)) hx hb dX4_load_29 (by decide) ?_
      refine lv_bipush (v := 20) hx hb dX4_load_31 (by decide) ?_
      refine rd_i (va_runS (As := [.int p1, .int (-20), .int 20]) (rest := []) ⟨hx, hb, hml, hown, hts⟩ (M_X4_isWithin l D cI p1 (-20) 20 ) (va_cwS 3 hts gX4_load_X4_isWithin rfl rfl rfl (by decide +kernel) ⟨Nat.le_of_ble_eq_true rfl, Nat.le_of_ble_eq_true rfl⟩) (rdS hK hP [] [0] rfl rfl) rfl rfl hl.1 rfl (lv_room (Nat.le_of_ble_eq_true rfl)) dX4_load_33 ⟨Nat.zero_le _, Nat.zero_le _⟩) ?_
      refine lv_if_ne (tgt := 49) hx hb dX4_load_36 (by decide) (fun c_3 => ?_) (fun c_3 => ?_)
      · skip
        have c_3 : ((-20) ≤ p1 ∧ p1 ≤ 20) := bI_nz.mp c_3
        refine lv_aload_n hx hb dX4_load_49 rfl (lv_at hl 0 rfl) ?_
        refine va_get (D := D) (ci := 4) (v := .ref (a 0)) (C := RX4) (T := TX4) (N := 3) hx hb hts hiX4 hown hK.1 hP 0 rfl rfl 0 (by decide) (hts (.fieldLink RX4 12 "IceLanes" "river" "LIceLanes$River;") (by decide +kernel)) (fun _ h9 => h9) rfl dX4_load_50 ?_
        refine va_getN (D := D) (ci := 2) (v := .ref (a 6)) (C := RX2) (T := TX2) (N := 6) hx hb hts hiX2 hown hK.1 hP 4 rfl rfl 5 (by decide) (va_Nw.use rfl (nX4_88 hN)) (fun _ h9 => h9) rfl dX4_load_53 ?_
        refine va_getN (D := D) (ci := 0) (v := .ref (a 13)) (C := RX0) (T := TX0) (N := 10) hx hb hts hiX0 hown hK.1 hP 10 rfl rfl 7 (by decide) (va_Nw.use rfl (nX4_122 hN)) (fun _ h9 => h9) rfl dX4_load_56 ?_
        refine lv_iload_n hx hb dX4_load_59 rfl (lv_at hl 1 rfl) ?_
        refine va_iald hx hb hK.1 hP 17 0 rfl rfl (by first | assumption | exact vp_in_nI (by omega) (by decide)) dX4_load_60 ?_
        rw [nI_clamp (n := cu) (by omega)]
        refine lv_iconst (v := 3) hx hb dX4_load_61 (by decide) ?_
        refine lv_icmp_ne (tgt := 75) hx hb dX4_load_62 (by decide) (fun c_4 => ?_) (fun c_4 => ?_)
        · skip
          refine lv_aload_n hx hb dX4_load_75 rfl (lv_at hl 0 rfl) ?_
          refine va_get (D := D) (ci := 4) (v := .ref (a 0)) (C := RX4) (T := TX4) (N := 3) hx hb hts hiX4 hown hK.1 hP 0 rfl rfl 0 (by decide) (hts (.fieldLink RX4 12 "IceLanes" "river" "LIceLanes$River;") (by decide +kernel)) (fun _ h9 => h9) rfl dX4_load_76 ?_
          refine va_getN (D := D) (ci := 2) (v := .ref (a 6)) (C := RX2) (T := TX2) (N := 6) hx hb hts hiX2 hown hK.1 hP 4 rfl rfl 5 (by decide) (va_Nw.use rfl (nX4_88 hN)) (fun _ h9 => h9) rfl dX4_load_79 ?_
          refine va_getN (D := D) (ci := 0) (v := .ref (a 8)) (C := RX0) (T := TX0) (N := 10) hx hb hts hiX0 hown hK.1 hP 10 rfl rfl 2 (by decide) (va_Nw.use rfl (nX4_143 hN)) (fun _ h9 => h9) rfl dX4_load_82 ?_
          refine lv_iload_n hx hb dX4_load_85 rfl (lv_at hl 1 rfl) ?_
          refine va_iald hx hb hK.1 hP 12 0 rfl rfl (by first | assumption | exact vp_in_nI (by omega) (by decide)) dX4_load_86 ?_
          rw [nI_clamp (n := cu) (by omega)]
          refine lv_iload_n hx hb dX4_load_87 rfl (lv_at hl 2 rfl) ?_
          refine lv_iadd hx hb dX4_load_88 ?_
          refine lv_istore_n (lv' := [(3, .int ((σ 6 cu) + p1)), (0, .ref (b 0)), (1, .int (nI cu)), (2, .int p1)]) hx hb dX4_load_89 rfl hl (by decide) rfl (fun ls hl => ?_)
          refine lv_iload_n hx hb dX4_load_90 rfl (lv_at hl 0 rfl) ?_
          refine lv_iconst (v := 0) hx hb dX4_load_91 (by decide) ?_
          refine lv_bipush (v := 20) hx hb dX4_load_92 (by decide) ?_
          refine rd_i (va_runS (As := [.int ((σ 6 cu) + p1), .int 0, .int 20]) (rest := []) ⟨hx, hb, hml, hown, hts⟩ (M_X4_isWithin l D cI ((σ 6 cu) + p1) 0 20 ) (va_cwS 3 hts gX4_load_X4_isWithin rfl rfl rfl (by decide +kernel) ⟨Nat.le_of_ble_eq_true rfl, Nat.le_of_ble_eq_true rfl⟩) (rdS hK hP [] [0] rfl rfl) rfl rfl hl.1 rfl (lv_room (Nat.le_of_ble_eq_true rfl)) dX4_load_94 ⟨Nat.zero_le _, Nat.zero_le _⟩) ?_
          refine lv_if_ne (tgt := 110) hx hb dX4_load_97 (by decide) (fun c_5 => ?_) (fun c_5 => ?_)
          · skip
            have c_5 : (0 ≤ ((σ 6 cu) + p1) ∧ ((σ 6 cu) + p1) ≤ 20) := bI_nz.mp c_5
            refine lv_aload_n hx hb dX4_load_110 rfl (lv_at hl 1 rfl) ?_
            refine va_get (D := D) (ci := 4) (v := .ref (a 0)) (C := RX4) (T := TX4) (N := 3) hx hb hts hiX4 hown hK.1 hP 0 rfl rfl 0 (by decide) (hts (.fieldLink RX4 12 "IceLanes" "river" "LIceLanes$River;") (by decide +kernel)) (fun _ h9 => h9) rfl dX4_load_111 ?_
            refine lv_iload_n hx hb dX4_load_114 rfl (lv_at hl 2 rfl) ?_
            refine lv_iload_n hx hb dX4_load_115 rfl (lv_at hl 0 rfl) ?_
            refine rd_i (va_runVN (As := [.int (nI cu), .int ((σ 6 cu) + p1)]) (rest := []) ⟨hx, hb, hml, hown, hts⟩ (M_X2_holdsCourierWith l D cI a σ cu ((σ 6 cu) + p1) (by first | assumption | omega) (by first | assumption | omega) (by first | assumption | omega)) ⟨va_cnB 2 hts gX4_load_X2_holdsCourierWith_n148 rfl rfl rfl (nX4_148 hN) (hts (.initialized RX2) (by decide +kernel)) (by decide +kernel) ⟨Nat.le_of_ble_eq_true rfl, Nat.le_of_ble_eq_true rfl⟩, hts (.instanceMethod yX2_holdsCourierWith) (by decide +kernel), hts (.selects RX2 yX2_holdsCourierWith yX2_holdsCourierWith) (by decide +kernel)⟩ (rdV hK hP [4, 5, 6, 7, 8, 9, 10, 11, 12, 13, 14, 15, 16, 17, 18, 19] [0] rfl rfl (ci := 2) (q0 := 4) rfl rfl) rfl rfl hl.1 rfl (lv_room (Nat.le_of_ble_eq_true rfl)) dX4_load_116 ⟨Nat.zero_le _, Nat.zero_le _⟩) ?_
            refine lv_if_ne (tgt := 132) hx hb dX4_load_119 (by decide) (fun c_6 => ?_) (fun c_6 => ?_)
            · skip
              have c_6 : ((σ 5) cu + ((σ 6 cu) + p1) ≤ sound ((σ 3)) ((σ 4)) ((σ 8) cu) ((σ 9) cu)) := bI_nz.mp c_6
              exact h4.elim (fun z => absurd z (by assumption)) (fun z => z.elim (fun z => absurd (by assumption) z) (fun z => absurd c_6 z))
            · skip
              have c_6 : ¬ ((σ 5) cu + ((σ 6 cu) + p1) ≤ sound ((σ 3)) ((σ 4)) ((σ 8) cu) ((σ 9) cu)) := bI_z.mp c_6
              subst hQ
              exact ex_throw (E := "java/lang/IllegalStateException") (151, "the place would not bear it") hx hb hst hown hts hEX htab (by decide) rfl (by decide +kernel) (by decide +kernel) (by decide +kernel) (by decide +kernel) (by decide +kernel) (by decide +kernel) hl.1 hml dX4_load_122 dX4_load_125 dX4_load_126 dX4_load_128 dX4_load_131 (Nat.le_of_ble_eq_true rfl) (Nat.le_of_ble_eq_true rfl) (Nat.le_of_ble_eq_true rfl) (Nat.le_of_ble_eq_true rfl) hlocks
          · skip
            have c_5 : ¬ (0 ≤ ((σ 6 cu) + p1) ∧ ((σ 6 cu) + p1) ≤ 20) := bI_z.mp c_5
            subst hQ
            exact ex_throw (E := "java/lang/IllegalStateException") (146, "nobody carries so many letters") hx hb hst hown hts hEX htab (by decide) rfl (by decide +kernel) (by decide +kernel) (by decide +kernel) (by decide +kernel) (by decide +kernel) (by decide +kernel) hl.1 hml dX4_load_100 dX4_load_103 dX4_load_104 dX4_load_106 dX4_load_109 (Nat.le_of_ble_eq_true rfl) (Nat.le_of_ble_eq_true rfl) (Nat.le_of_ble_eq_true rfl) (Nat.le_of_ble_eq_true rfl) hlocks
        · skip
          subst hQ
          exact ex_throw (E := "java/lang/IllegalStateException") (125, "this courier broke in") hx hb hst hown hts hEX htab (by decide) rfl (by decide +kernel) (by decide +kernel) (by decide +kernel) (by decide +kernel) (by decide +kernel) (by decide +kernel) hl.1 hml dX4_load_65 dX4_load_68 dX4_load_69 dX4_load_71 dX4_load_74 (Nat.le_of_ble_eq_true rfl) (Nat.le_of_ble_eq_true rfl) (Nat.le_of_ble_eq_true rfl) (Nat.le_of_ble_eq_true rfl) hlocks
      · skip
        have c_3 : ¬ ((-20) ≤ p1 ∧ p1 ≤ 20) := bI_z.mp c_3
        first | exact absurd c_3 (by assumption) | exact absurd (by assumption) c_3
  · skip
    have c_1 : ¬ (0 ≤ (nI cu) ∧ (nI cu) ≤ (σ 17 0) - 1) := bI_z.mp c_1
    first | exact absurd c_1 (by assumption) | exact absurd (by assumption) c_1
set_option maxHeartbeats 4000000 in
set_option maxRecDepth 100000 in
theorem M_X4_courier_e1 (l : Launch) (D : va_G) (cI : ClassId) (b : Nat → Nat) (a : Nat → Nat) (a2 : Nat → Nat) (σ : St) (σ2 : St) (ω : St) (p0 : Int32) (p1 : Int32) (A9 : Nat → Prop) (hst : l.stackTraces = false) (h1 : ¬ ((0 ≤ p0 ∧ p0 ≤ σ 17 0 - 1) ∧ (0 ≤ p1 ∧ p1 ≤ 8))) : vx_Met l yX4_courier wsX4_courier ({ frames := 6, cells := 1, slots := 6, locals := 82 } : Room) (exPc [.ref (b 0), .int p0, .int p1] D (wLan b a a2 cI σ σ2 ω) [(cI, .int)] A9) exQ (exX "java/lang/IndexOutOfBoundsException") 1 6 (fun _ => False) := by
  refine vx_ofW (cc := cX4_courier) (maxL := 3) (ret := (some .int)) (by decide) rfl ?_
  intro p e s m args below meth c s₁ B hml htab hv
  obtain ⟨⟨hargs, hP, hK⟩, hEX⟩ := hv
  have hx := B.exec
  have hb := B.bytes
  have hr := B.returns
  have hts := atoms_spec (ws := wsX4_courier) B.pre
  have hown : s.vm.findClass RX4 = some m.cls := findClass_of_methodNamed B.named
  have hlocks := B.notSynchronized
  obtain ⟨_, hN⟩ := id hK
  have hiX2 : ∀ w ∈ wsX20, w ∈ wsX4_courier := by decide +kernel
  have hiX4 : ∀ w ∈ wsX40, w ∈ wsX4_courier := by decide +kernel
  refine my_abs (fun Q hQ => ?_)
  obtain ⟨ls, hl, hent⟩ := my_entry (m := m) (n := 3) hargs (Nat.le_of_ble_eq_true rfl)
  rw [hent]
  have hl : lv_has ls 3 [(0, .ref (b 0)), (1, .int p0), (2, .int p1)] := hl
  show W p l e ({ frames := 6, cells := 1, slots := 6, locals := 82 } : Room) s m args below meth c s.heap [] 0 0 Q (F0 m 0 ls [])
  refine lv_aload_n hx hb dX4_courier_0 rfl (lv_at hl 0 rfl) ?_
  refine va_get (D := D) (ci := 4) (v := .ref (a 0)) (C := RX4) (T := TX4) (N := 3) hx hb hts hiX4 hown hK.1 hP 0 rfl rfl 0 (by decide) (hts (.fieldLink RX4 12 "IceLanes" "river" "LIceLanes$River;") (by decide +kernel)) (fun _ h9 => h9) rfl dX4_courier_1 ?_
  refine va_getN (D := D) (ci := 2) (v := .ref (a 6)) (C := RX2) (T := TX2) (N := 6) hx hb hts hiX2 hown hK.1 hP 4 rfl rfl 5 (by decide) (va_Nw.use rfl (nX4_88 hN)) (fun _ h9 => h9) rfl dX4_courier_4 ?_
  refine lv_iload_n hx hb dX4_courier_7 rfl (lv_at hl 1 rfl) ?_
  refine rd_i (va_runVN (As := [.int p0]) (rest := []) ⟨hx, hb, hml, hown, hts⟩ (M_X0_has l D cI a σ p0 ) ⟨va_cnB 1 hts gX4_courier_X0_has_n117 rfl rfl rfl (nX4_117 hN) (hts (.initialized RX0) (by decide +kernel)) (by decide +kernel) ⟨Nat.le_of_ble_eq_true rfl, Nat.le_of_ble_eq_true rfl⟩, hts (.instanceMethod yX0_has) (by decide +kernel), hts (.selects RX0 yX0_has yX0_has) (by decide +kernel)⟩ (rdV hK hP [10, 11, 12, 13, 14, 15, 16, 17, 18, 19] [0] rfl rfl (ci := 0) (q0 := 10) rfl rfl) rfl rfl hl.1 rfl (lv_room (Nat.le_of_ble_eq_true rfl)) dX4_courier_8 ⟨Nat.zero_le _, Nat.zero_le _⟩) ?_
  refine lv_if_eq (tgt := 24) hx hb dX4_courier_11 (by decide) (fun c_1 => ?_) (fun c_1 => ?_)
  · skip
    have c_1 : ¬ (0 ≤ p0 ∧ p0 ≤ (σ 17 0) - 1) := bI_z.mp c_1
    subst hQ
    exact ex_throw (E := "java/lang/IndexOutOfBoundsException") (153, "no such courier, or no such question of one") hx hb hst hown hts hEX htab (by decide) rfl (by decide +kernel) (by decide +kernel) (by decide +kernel) (by decide +kernel) (by decide +kernel) (by decide +kernel) hl.1 hml dX4_courier_24 dX4_courier_27 dX4_courier_28 dX4_courier_30 dX4_courier_33 (Nat.le_of_ble_eq_true rfl) (Nat.le_of_ble_eq_true rfl) (Nat.le_of_ble_eq_true rfl) (Nat.le_of_ble_eq_true rfl) hlocks
  · skip
    have c_1 : (0 ≤ p0 ∧ p0 ≤ (σ 17 0) - 1) := bI_nz.mp c_1
    refine lv_iload_n hx hb dX4_courier_14 rfl (lv_at hl 2 rfl) ?_
    refine lv_iconst (v := 0) hx hb dX4_courier_15 (by decide) ?_
    refine lv_bipush (v := 8) hx hb dX4_courier_16 (by decide) ?_
    refine rd_i (va_runS (As := [.int p1, .int 0, .int 8]) (rest := []) ⟨hx, hb, hml, hown, hts⟩ (M_X4_isWithin l D cI p1 0 8 ) (va_cwS 3 hts gX4_courier_X4_isWithin rfl rfl rfl (by decide +kernel) ⟨Nat.le_of_ble_eq_true rfl, Nat.le_of_ble_eq_true rfl⟩) (rdS hK hP [] [0] rfl rfl) rfl rfl hl.1 rfl (lv_room (Nat.le_of_ble_eq_true rfl)) dX4_courier_18 ⟨Nat.zero_le _, Nat.zero_le _⟩) ?_
    refine lv_if_ne (tgt := 34) hx hb dX4_courier_21 (by decide) (fun c_2 => ?_) (fun c_2 => ?_)
    · skip
      have c_2 : (0 ≤ p1 ∧ p1 ≤ 8) := bI_nz.mp c_2
      exact absurd ⟨by assumption, c_2⟩ h1
    · skip
      have c_2 : ¬ (0 ≤ p1 ∧ p1 ≤ 8) := bI_z.mp c_2
      subst hQ
      exact ex_throw (E := "java/lang/IndexOutOfBoundsException") (153, "no such courier, or no such question of one") hx hb hst hown hts hEX htab (by decide) rfl (by decide +kernel) (by decide +kernel) (by decide +kernel) (by decide +kernel) (by decide +kernel) (by decide +kernel) hl.1 hml dX4_courier_24 dX4_courier_27 dX4_courier_28 dX4_courier_30 dX4_courier_33 (Nat.le_of_ble_eq_true rfl) (Nat.le_of_ble_eq_true rfl) (Nat.le_of_ble_eq_true rfl) (Nat.le_of_ble_eq_true rfl) hlocks
