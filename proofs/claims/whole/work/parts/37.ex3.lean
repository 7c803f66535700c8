set_option maxHeartbeats 4000000 in
set_option maxRecDepth 100000 in
theorem M_X4_wager_e1 (l : Launch) (D : va_G) (cI : ClassId) (b : Nat → Nat) (a : Nat → Nat) (a2 : Nat → Nat) (σ : St) (σ2 : St) (ω : St) (p0 : Int32) (p1 : Int32) (A9 : Nat → Prop) (hst : l.stackTraces = false) (h1 : ¬ ((0 ≤ p0 ∧ p0 ≤ 500) ∧ (1 ≤ p1 ∧ p1 ≤ 100))) : vx_Met l yX4_wager wsX4_wager ({ frames := 6, cells := 1, slots := 6, locals := 82 } : Room) (exPc [.ref (b 0), .int p0, .int p1] D (wLan b a a2 cI σ σ2 ω) [(cI, .int)] A9) exQ (exX "java/lang/IllegalArgumentException") 1 6 (fun _ => False) := by
  refine vx_ofW (cc := cX4_wager) (maxL := 3) (ret := (some .int)) (by decide) rfl ?_
  intro p e s m args below meth c s₁ B hml htab hv
  obtain ⟨⟨hargs, hP, hK⟩, hEX⟩ := hv
  have hx := B.exec
  have hb := B.bytes
  have hr := B.returns
  have hts := atoms_spec (ws := wsX4_wager) B.pre
  have hown : s.vm.findClass RX4 = some m.cls := findClass_of_methodNamed B.named
  have hlocks := B.notSynchronized
  obtain ⟨_, hN⟩ := id hK
  refine my_abs (fun Q hQ => ?_)
  obtain ⟨ls, hl, hent⟩ := my_entry (m := m) (n := 3) hargs (Nat.le_of_ble_eq_true rfl)
  rw [hent]
  have hl : lv_has ls 3 [(0, .ref (b 0)), (1, .int p0), (2, .int p1)] := hl
  show W p l e ({ frames := 6, cells := 1, slots := 6, locals := 82 } : Room) s m args below meth c s.heap [] 0 0 Q (F0 m 0 ls [])
  refine lv_iload_n hx hb dX4_wager_0 rfl (lv_at hl 1 rfl) ?_
  refine lv_iconst (v := 0) hx hb dX4_wager_1 (by decide) ?_
  refine lv_sipush (v := 500) hx hb dX4_wager_2 (by decide) ?_
  refine rd_i (va_runS (As := [.int p0, .int 0, .int 500]) (rest := []) ⟨hx, hb, hml, hown, hts⟩ (M_X4_isWithin l D cI p0 0 500 ) (va_cwS 3 hts gX4_wager_X4_isWithin rfl rfl rfl (by decide +kernel) ⟨Nat.le_of_ble_eq_true rfl, Nat.le_of_ble_eq_true rfl⟩) (rdS hK hP [] [0] rfl rfl) rfl rfl hl.1 rfl (lv_room (Nat.le_of_ble_eq_true rfl)) dX4_wager_5 ⟨Nat.zero_le _, Nat.zero_le _⟩) ?_
  refine lv_if_eq (tgt := 21) hx hb dX4_wager_8 (by decide) (fun c_1 => ?_) (fun c_1 => ?_)
  · skip
    have c_1 : ¬ (0 ≤ p0 ∧ p0 ≤ 500) := bI_z.mp c_1
    subst hQ
    exact ex_throw (E := "java/lang/IllegalArgumentException") (158, "no wager is on that day or has that stake") hx hb hst hown hts hEX htab (by decide) rfl (by decide +kernel) (by decide +kernel) (by decide +kernel) (by decide +kernel) (by decide +kernel) (by decide +kernel) hl.1 hml dX4_wager_21 dX4_wager_24 dX4_wager_25 dX4_wager_27 dX4_wager_30 (Nat.le_of_ble_eq_true rfl) (Nat.le_of_ble_eq_true rfl) (Nat.le_of_ble_eq_true rfl) (Nat.le_of_ble_eq_true rfl) hlocks
  · skip
    have c_1 : (0 ≤ p0 ∧ p0 ≤ 500) := bI_nz.mp c_1
    refine lv_iload_n hx hb dX4_wager_11 rfl (lv_at hl 2 rfl) ?_
    refine lv_iconst (v := 1) hx hb dX4_wager_12 (by decide) ?_
    refine lv_bipush (v := 100) hx hb dX4_wager_13 (by decide) ?_
    refine rd_i (va_runS (As := [.int p1, .int 1, .int 100]) (rest := []) ⟨hx, hb, hml, hown, hts⟩ (M_X4_isWithin l D cI p1 1 100 ) (va_cwS 3 hts gX4_wager_X4_isWithin rfl rfl rfl (by decide +kernel) ⟨Nat.le_of_ble_eq_true rfl, Nat.le_of_ble_eq_true rfl⟩) (rdS hK hP [] [0] rfl rfl) rfl rfl hl.1 rfl (lv_room (Nat.le_of_ble_eq_true rfl)) dX4_wager_15 ⟨Nat.zero_le _, Nat.zero_le _⟩) ?_
    refine lv_if_ne (tgt := 31) hx hb dX4_wager_18 (by decide) (fun c_2 => ?_) (fun c_2 => ?_)
    · skip
      have c_2 : (1 ≤ p1 ∧ p1 ≤ 100) := bI_nz.mp c_2
      exact absurd ⟨by assumption, c_2⟩ h1
    · skip
      have c_2 : ¬ (1 ≤ p1 ∧ p1 ≤ 100) := bI_z.mp c_2
      subst hQ
      exact ex_throw (E := "java/lang/IllegalArgumentException") (158, "no wager is on that day or has that stake") hx hb hst hown hts hEX htab (by decide) rfl (by decide +kernel) (by decide +kernel) (by decide +kernel) (by decide +kernel) (by decide +kernel) (by decide +kernel) hl.1 hml dX4_wager_21 dX4_wager_24 dX4_wager_25 dX4_wager_27 dX4_wager_30 (Nat.le_of_ble_eq_true rfl) (Nat.le_of_ble_eq_true rfl) (Nat.le_of_ble_eq_true rfl) (Nat.le_of_ble_eq_true rfl) hlocks
set_option maxHeartbeats 4000000 in
set_option maxRecDepth 100000 in
theorem M_X4_wager_e2 (l : Launch) (D : va_G) (cI : ClassId) (b : Nat → Nat) (a : Nat → Nat) (a2 : Nat → Nat) (σ : St) (σ2 : St) (ω : St) (p0 : Int32) (p1 : Int32) (A9 : Nat → Prop) (hst : l.stackTraces = false) (h1 : (0 ≤ p0 ∧ p0 ≤ 500)) (h2 : (1 ≤ p1 ∧ p1 ≤ 100)) (h4 : ω 19 0 = 12 ∨ ¬ σ 16 0 = -1) : vx_Met l yX4_wager wsX4_wager ({ frames := 6, cells := 1, slots := 6, locals := 82 } : Room) (exPc [.ref (b 0), .int p0, .int p1] D (wLan b a a2 cI σ σ2 ω) [(cI, .int)] A9) exQ (exX "java/lang/IllegalStateException") 1 6 (fun _ => False) := by
  refine vx_ofW (cc := cX4_wager) (maxL := 3) (ret := (some .int)) (by decide) rfl ?_
  intro p e s m args below meth c s₁ B hml htab hv
  obtain ⟨⟨hargs, hP, hK⟩, hEX⟩ := hv
  have hx := B.exec
  have hb := B.bytes
  have hr := B.returns
  have hts := atoms_spec (ws := wsX4_wager) B.pre
  have hown : s.vm.findClass RX4 = some m.cls := findClass_of_methodNamed B.named
  have hlocks := B.notSynchronized
  obtain ⟨_, hN⟩ := id hK
  have hiX3 : ∀ w ∈ wsX30, w ∈ wsX4_wager := by decide +kernel
  have hiX4 : ∀ w ∈ wsX40, w ∈ wsX4_wager := by decide +kernel
  refine my_abs (fun Q hQ => ?_)
  obtain ⟨ls, hl, hent⟩ := my_entry (m := m) (n := 3) hargs (Nat.le_of_ble_eq_true rfl)
  rw [hent]
  have hl : lv_has ls 3 [(0, .ref (b 0)), (1, .int p0), (2, .int p1)] := hl
  show W p l e ({ frames := 6, cells := 1, slots := 6, locals := 82 } : Room) s m args below meth c s.heap [] 0 0 Q (F0 m 0 ls [])
  refine lv_iload_n hx hb dX4_wager_0 rfl (lv_at hl 1 rfl) ?_
  refine lv_iconst (v := 0) hx hb dX4_wager_1 (by decide) ?_
  refine lv_sipush (v := 500) hx hb dX4_wager_2 (by decide) ?_
  refine rd_i (va_runS (As := [.int p0, .int 0, .int 500]) (rest := []) ⟨hx, hb, hml, hown, hts⟩ (M_X4_isWithin l D cI p0 0 500 ) (va_cwS 3 hts gX4_wager_X4_isWithin rfl rfl rfl (by decide +kernel) ⟨Nat.le_of_ble_eq_true rfl, Nat.le_of_ble_eq_true rfl⟩) (rdS hK hP [] [0] rfl rfl) rfl rfl hl.1 rfl (lv_room (Nat.le_of_ble_eq_true rfl)) dX4_wager_5 ⟨Nat.zero_le _, Nat.zero_le _⟩) ?_
  refine lv_if_eq (tgt := 21) hx hb dX4_wager_8 (by decide) (fun c_1 => ?_) (fun c_1 => ?_)
  · skip
    have c_1 : ¬ (0 ≤ p0 ∧ p0 ≤ 500) := bI_z.mp c_1
    first | exact absurd c_1 (by assumption) | exact absurd (by assumption) c_1
  · skip
    have c_1 : (0 ≤ p0 ∧ p0 ≤ 500) := bI_nz.mp c_1
    refine lv_iload_n hx hb dX4_wager_11 rfl (lv_at hl 2 rfl) ?_
    refine lv_iconst (v := 1) hx hb dX4_wager_12 (by decide) ?_
    refine lv_bipush (v := 100) hx hb dX4_wager_13 (by decide) ?_
    refine rd_i (va_runS (As := [.int p1, .int 1, .int 100]) (rest := []) ⟨hx, hb, hml, hown, hts⟩ (M_X4_isWithin l D cI p1 1 100 ) (va_cwS 3 hts gX4_wager_X4_isWithin rfl rfl rfl (by decide +kernel) ⟨Nat.le_of_ble_eq_true rfl, Nat.le_of_ble_eq_true rfl⟩) (rdS hK hP [] [0] rfl rfl) rfl rfl hl.1 rfl (lv_room (Nat.le_of_ble_eq_true rfl)) dX4_wager_15 ⟨Nat.zero_le _, Nat.zero_le _⟩) ?_
    refine lv_if_ne (tgt := 31) hx hb dX4_wager_18 (by decide) (fun c_2 => ?_) (fun c_2 => ?_)
    · skip
      have c_2 : (1 ≤ p1 ∧ p1 ≤ 100) := bI_nz.mp c_2
      refine lv_aload_n hx hb dX4_wager_31 rfl (lv_at hl 0 rfl) ?_
      refine va_get (D := D) (ci := 4) (v := .ref (b 1)) (C := RX4) (T := TX4) (N := 3) hx hb hts hiX4 hown hK.1 hP 0 rfl rfl 2 (by decide) (hts (.fieldLink RX4 22 "IceLanes" "wagers" "LIceLanes$Wagers;") (by decide +kernel)) (fun _ h9 => h9) rfl dX4_wager_32 ?_
      refine va_getN (D := D) (ci := 3) (v := .int (ω 19 0)) (C := RX3) (T := TX3) (N := 3) hx hb hts hiX3 hown hK.1 hP 1 rfl rfl 0 (by decide) (va_Nw.use rfl (nX4_160 hN)) (fun _ h9 => h9) rfl dX4_wager_35 ?_
      refine lv_bipush (v := 12) hx hb dX4_wager_38 (by decide) ?_
      refine lv_icmp_lt (tgt := 53) hx hb dX4_wager_40 (by decide) (fun c_3 => ?_) (fun c_3 => ?_)
      · skip
        refine lv_aload_n hx hb dX4_wager_53 rfl (lv_at hl 0 rfl) ?_
        refine va_get (D := D) (ci := 4) (v := .ref (a 0)) (C := RX4) (T := TX4) (N := 3) hx hb hts hiX4 hown hK.1 hP 0 rfl rfl 0 (by decide) (hts (.fieldLink RX4 12 "IceLanes" "river" "LIceLanes$River;") (by decide +kernel)) (fun _ h9 => h9) rfl dX4_wager_54 ?_
        refine rd_i (va_runVN (As := []) (rest := []) ⟨hx, hb, hml, hown, hts⟩ (M_X2_hasThawed l D cI a σ ) ⟨va_cnB 0 hts gX4_wager_X2_hasThawed_n163 rfl rfl rfl (nX4_163 hN) (hts (.initialized RX2) (by decide +kernel)) (by decide +kernel) ⟨Nat.le_of_ble_eq_true rfl, Nat.le_of_ble_eq_true rfl⟩, hts (.instanceMethod yX2_hasThawed) (by decide +kernel), hts (.selects RX2 yX2_hasThawed yX2_hasThawed) (by decide +kernel)⟩ (rdV hK hP [4, 5, 6, 7, 8, 9, 10, 11, 12, 13, 14, 15, 16, 17, 18, 19] [0] rfl rfl (ci := 2) (q0 := 4) rfl rfl) rfl rfl hl.1 rfl (lv_room (Nat.le_of_ble_eq_true rfl)) dX4_wager_57 ⟨Nat.zero_le _, Nat.zero_le _⟩) ?_
        refine lv_if_eq (tgt := 73) hx hb dX4_wager_60 (by decide) (fun c_4 => ?_) (fun c_4 => ?_)
        · skip
          have c_4 : ¬ (¬ (σ 16 0) = -1) := bI_z.mp c_4
          exact h4.elim (fun z => absurd (show ω 19 0 < 12 by assumption) (by rw [z]; decide)) (fun z => absurd z c_4)
        · skip
          have c_4 : (¬ (σ 16 0) = -1) := bI_nz.mp c_4
          subst hQ
          exact ex_throw (E := "java/lang/IllegalStateException") (167, "the thaw has come") hx hb hst hown hts hEX htab (by decide) rfl (by decide +kernel) (by decide +kernel) (by decide +kernel) (by decide +kernel) (by decide +kernel) (by decide +kernel) hl.1 hml dX4_wager_63 dX4_wager_66 dX4_wager_67 dX4_wager_69 dX4_wager_72 (Nat.le_of_ble_eq_true rfl) (Nat.le_of_ble_eq_true rfl) (Nat.le_of_ble_eq_true rfl) (Nat.le_of_ble_eq_true rfl) hlocks
      · skip
        subst hQ
        exact ex_throw (E := "java/lang/IllegalStateException") (161, "there are as many wagers as there can be") hx hb hst hown hts hEX htab (by decide) rfl (by decide +kernel) (by decide +kernel) (by decide +kernel) (by decide +kernel) (by decide +kernel) (by decide +kernel) hl.1 hml dX4_wager_43 dX4_wager_46 dX4_wager_47 dX4_wager_49 dX4_wager_52 (Nat.le_of_ble_eq_true rfl) (Nat.le_of_ble_eq_true rfl) (Nat.le_of_ble_eq_true rfl) (Nat.le_of_ble_eq_true rfl) hlocks
    · skip
      have c_2 : ¬ (1 ≤ p1 ∧ p1 ≤ 100) := bI_z.mp c_2
      first | exact absurd c_2 (by assumption) | exact absurd (by assumption) c_2
set_option maxHeartbeats 4000000 in
set_option maxRecDepth 100000 in
theorem M_X4_wins_e1 (l : Launch) (D : va_G) (cI : ClassId) (b : Nat → Nat) (a : Nat → Nat) (a2 : Nat → Nat) (σ : St) (σ2 : St) (ω : St) (p0 : Int32) (A9 : Nat → Prop) (hst : l.stackTraces = false) (h1 : ¬ (0 ≤ p0 ∧ p0 ≤ ω 19 0 - 1)) : vx_Met l yX4_wins wsX4_wins ({ frames := 6, cells := 1, slots := 6, locals := 82 } : Room) (exPc [.ref (b 0), .int p0] D (wLan b a a2 cI σ σ2 ω) [(cI, .int)] A9) exQ (exX "java/lang/IndexOutOfBoundsException") 1 6 (fun _ => False) := by
  refine vx_ofW (cc := cX4_wins) (maxL := 2) (ret := (some .int)) (by decide) rfl ?_
  intro p e s m args below meth c s₁ B hml htab hv
  obtain ⟨⟨hargs, hP, hK⟩, hEX⟩ := hv
  have hx := B.exec
  have hb := B.bytes
  have hr := B.returns
  have hts := atoms_spec (ws := wsX4_wins) B.pre
  have hown : s.vm.findClass RX4 = some m.cls := findClass_of_methodNamed B.named
  have hlocks := B.notSynchronized
  obtain ⟨_, hN⟩ := id hK
  have hiX4 : ∀ w ∈ wsX40, w ∈ wsX4_wins := by decide +kernel
  refine my_abs (fun Q hQ => ?_)
  obtain ⟨ls, hl, hent⟩ := my_entry (m := m) (n := 2) hargs (Nat.le_of_ble_eq_true rfl)
  rw [hent]
  have hl : lv_has ls 2 [(0, .ref (b 0)), (1, .int p0)] := hl
  show W p l e ({ frames := 6, cells := 1, slots := 6, locals := 82 } : Room) s m args below meth c s.heap [] 0 0 Q (F0 m 0 ls [])
  refine lv_aload_n hx hb dX4_wins_0 rfl (lv_at hl 0 rfl) ?_
  refine va_get (D := D) (ci := 4) (v := .ref (b 1)) (C := RX4) (T := TX4) (N := 3) hx hb hts hiX4 hown hK.1 hP 0 rfl rfl 2 (by decide) (hts (.fieldLink RX4 22 "IceLanes" "wagers" "LIceLanes$Wagers;") (by decide +kernel)) (fun _ h9 => h9) rfl dX4_wins_1 ?_
  refine lv_iload_n hx hb dX4_wins_4 rfl (lv_at hl 1 rfl) ?_
  refine rd_i (va_runVN (As := [.int p0]) (rest := []) ⟨hx, hb, hml, hown, hts⟩ (M_X3_has l D cI b ω p0 ) ⟨va_cnB 1 hts gX4_wins_X3_has_n171 rfl rfl rfl (nX4_171 hN) (hts (.initialized RX3) (by decide +kernel)) (by decide +kernel) ⟨Nat.le_of_ble_eq_true rfl, Nat.le_of_ble_eq_true rfl⟩, hts (.instanceMethod yX3_has) (by decide +kernel), hts (.selects RX3 yX3_has yX3_has) (by decide +kernel)⟩ (rdV hK hP [1, 2, 3] [0] rfl rfl (ci := 3) (q0 := 1) rfl rfl) rfl rfl hl.1 rfl (lv_room (Nat.le_of_ble_eq_true rfl)) dX4_wins_5 ⟨Nat.zero_le _, Nat.zero_le _⟩) ?_
  refine lv_if_ne (tgt := 21) hx hb dX4_wins_8 (by decide) (fun c_1 => ?_) (fun c_1 => ?_)
  · skip
    have c_1 : (0 ≤ p0 ∧ p0 ≤ (ω 19 0) - 1) := bI_nz.mp c_1
    first | exact absurd c_1 (by assumption) | exact absurd (by assumption) c_1
  · skip
    have c_1 : ¬ (0 ≤ p0 ∧ p0 ≤ (ω 19 0) - 1) := bI_z.mp c_1
    subst hQ
    exact ex_throw (E := "java/lang/IndexOutOfBoundsException") (172, "no such wager") hx hb hst hown hts hEX htab (by decide) rfl (by decide +kernel) (by decide +kernel) (by decide +kernel) (by decide +kernel) (by decide +kernel) (by decide +kernel) hl.1 hml dX4_wins_11 dX4_wins_14 dX4_wins_15 dX4_wins_17 dX4_wins_20 (Nat.le_of_ble_eq_true rfl) (Nat.le_of_ble_eq_true rfl) (Nat.le_of_ble_eq_true rfl) (Nat.le_of_ble_eq_true rfl) hlocks
set_option maxHeartbeats 4000000 in
set_option maxRecDepth 100000 in
theorem M_X4_pass_e1 (l : Launch) (D : va_G) (cI : ClassId) (b : Nat → Nat) (a : Nat → Nat) (a2 : Nat → Nat) (σ : St) (σ2 : St) (ω : St) (p0 : Int32) (A9 : Nat → Prop) (hst : l.stackTraces = false) (h1 : ¬ (1 ≤ p0 ∧ p0 ≤ 200)) : vx_Met l yX4_pass wsX4_pass ({ frames := 6, cells := 1, slots := 6, locals := 82 } : Room) (exPc [.ref (b 0), .int p0] D (wLan b a a2 cI σ σ2 ω) [(cI, .int)] A9) exQ (exX "java/lang/IllegalArgumentException") 1 6 (fun _ => False) := by
  refine vx_ofW (cc := cX4_pass) (maxL := 4) (ret := (some .int)) (by decide) rfl ?_
  intro p e s m args below meth c s₁ B hml htab hv
  obtain ⟨⟨hargs, hP, hK⟩, hEX⟩ := hv
  have hx := B.exec
  have hb := B.bytes
  have hr := B.returns
  have hts := atoms_spec (ws := wsX4_pass) B.pre
  have hown : s.vm.findClass RX4 = some m.cls := findClass_of_methodNamed B.named
  have hlocks := B.notSynchronized
  obtain ⟨_, hN⟩ := id hK
  refine my_abs (fun Q hQ => ?_)
  obtain ⟨ls, hl, hent⟩ := my_entry (m := m) (n := 4) hargs (Nat.le_of_ble_eq_true rfl)
  rw [hent]
  have hl : lv_has ls 4 [(0, .ref (b 0)), (1, .int p0)] := hl
  show W p l e ({ frames := 6, cells := 1, slots := 6, locals := 82 } : Room) s m args below meth c s.heap [] 0 0 Q (F0 m 0 ls [])
  refine lv_iload_n hx hb dX4_pass_0 rfl (lv_at hl 1 rfl) ?_
  refine lv_iconst (v := 1) hx hb dX4_pass_1 (by decide) ?_
  refine lv_sipush (v := 200) hx hb dX4_pass_2 (by decide) ?_
  refine rd_i (va_runS (As := [.int p0, .int 1, .int 200]) (rest := []) ⟨hx, hb, hml, hown, hts⟩ (M_X4_isWithin l D cI p0 1 200 ) (va_cwS 3 hts gX4_pass_X4_isWithin rfl rfl rfl (by decide +kernel) ⟨Nat.le_of_ble_eq_true rfl, Nat.le_of_ble_eq_true rfl⟩) (rdS hK hP [] [0] rfl rfl) rfl rfl hl.1 rfl (lv_room (Nat.le_of_ble_eq_true rfl)) dX4_pass_5 ⟨Nat.zero_le _, Nat.zero_le _⟩) ?_
  refine lv_if_ne (tgt := 21) hx hb dX4_pass_8 (by decide) (fun c_1 => ?_) (fun c_1 => ?_)
  · skip
    have c_1 : (1 ≤ p0 ∧ p0 ≤ 200) := bI_nz.mp c_1
    first | exact absurd c_1 (by assumption) | exact absurd (by assumption) c_1
  · skip
    have c_1 : ¬ (1 ≤ p0 ∧ p0 ≤ 200) := bI_z.mp c_1
    subst hQ
    exact ex_throw (E := "java/lang/IllegalArgumentException") (177, "not so many hours go by at once") hx hb hst hown hts hEX htab (by decide) rfl (by decide +kernel) (by decide +kernel) (by decide +kernel) (by decide +kernel) (by decide +kernel) (by decide +kernel) hl.1 hml dX4_pass_11 dX4_pass_14 dX4_pass_15 dX4_pass_17 dX4_pass_20 (Nat.le_of_ble_eq_true rfl) (Nat.le_of_ble_eq_true rfl) (Nat.le_of_ble_eq_true rfl) (Nat.le_of_ble_eq_true rfl) hlocks
set_option maxHeartbeats 4000000 in
set_option maxRecDepth 100000 in
theorem M_X4_count_e1 (l : Launch) (D : va_G) (cI : ClassId) (b : Nat → Nat) (a : Nat → Nat) (a2 : Nat → Nat) (σ : St) (σ2 : St) (ω : St) (p0 : Int32) (A9 : Nat → Prop) (hst : l.stackTraces = false) (h1 : ¬ (0 ≤ p0 ∧ p0 ≤ 10)) : vx_Met l yX4_count wsX4_count ({ frames := 6, cells := 1, slots := 6, locals := 82 } : Room) (exPc [.ref (b 0), .int p0] D (wLan b a a2 cI σ σ2 ω) [(cI, .int)] A9) exQ (exX "java/lang/IndexOutOfBoundsException") 1 6 (fun _ => False) := by
  refine vx_ofW (cc := cX4_count) (maxL := 2) (ret := (some .int)) (by decide) rfl ?_
  intro p e s m args below meth c s₁ B hml htab hv
  obtain ⟨⟨hargs, hP, hK⟩, hEX⟩ := hv
  have hx := B.exec
  have hb := B.bytes
  have hr := B.returns
  have hts := atoms_spec (ws := wsX4_count) B.pre
  have hown : s.vm.findClass RX4 = some m.cls := findClass_of_methodNamed B.named
  have hlocks := B.notSynchronized
  obtain ⟨_, hN⟩ := id hK
  refine my_abs (fun Q hQ => ?_)
  obtain ⟨ls, hl, hent⟩ := my_entry (m := m) (n := 2) hargs (Nat.le_of_ble_eq_true rfl)
  rw [hent]
  have hl : lv_has ls 2 [(0, .ref (b 0)), (1, .int p0)] := hl
  show W p l e ({ frames := 6, cells := 1, slots := 6, locals := 82 } : Room) s m args below meth c s.heap [] 0 0 Q (F0 m 0 ls [])
  refine lv_iload_n hx hb dX4_count_0 rfl (lv_at hl 1 rfl) ?_
  refine lv_iconst (v := 0) hx hb dX4_count_1 (by decide) ?_
  refine lv_bipush (v := 10) hx hb dX4_count_2 (by decide) ?_
  refine rd_i (va_runS (As := [.int p0, .int 0, .int 10]) (rest := []) ⟨hx, hb, hml, hown, hts⟩ (M_X4_isWithin l D cI p0 0 10 ) (va_cwS 3 hts gX4_count_X4_isWithin rfl rfl rfl (by decide +kernel) ⟨Nat.le_of_ble_eq_true rfl, Nat.le_of_ble_eq_true rfl⟩) (rdS hK hP [] [0] rfl rfl) rfl rfl hl.1 rfl (lv_room (Nat.le_of_ble_eq_true rfl)) dX4_count_4 ⟨Nat.zero_le _, Nat.zero_le _⟩) ?_
  refine lv_if_ne (tgt := 20) hx hb dX4_count_7 (by decide) (fun c_1 => ?_) (fun c_1 => ?_)
  · skip
    have c_1 : (0 ≤ p0 ∧ p0 ≤ 10) := bI_nz.mp c_1
    first | exact absurd c_1 (by assumption) | exact absurd (by assumption) c_1
  · skip
    have c_1 : ¬ (0 ≤ p0 ∧ p0 ≤ 10) := bI_z.mp c_1
    subst hQ
    exact ex_throw (E := "java/lang/IndexOutOfBoundsException") (182, "nothing such is counted") hx hb hst hown hts hEX htab (by decide) rfl (by decide +kernel) (by decide +kernel) (by decide +kernel) (by decide +kernel) (by decide +kernel) (by decide +kernel) hl.1 hml dX4_count_10 dX4_count_13 dX4_count_14 dX4_count_16 dX4_count_19 (Nat.le_of_ble_eq_true rfl) (Nat.le_of_ble_eq_true rfl) (Nat.le_of_ble_eq_true rfl) (Nat.le_of_ble_eq_true rfl) hlocks
set_option maxHeartbeats 4000000 in
set_option maxRecDepth 100000 in
theorem M_X4_bears_e1 (l : Launch) (D : va_G) (cI : ClassId) (b : Nat → Nat) (a : Nat → Nat) (a2 : Nat → Nat) (σ : St) (σ2 : St) (ω : St) (p0 : Int32) (p1 : Int32) (A9 : Nat → Prop) (hst : l.stackTraces = false) (h1 : ¬ ((0 ≤ p0 ∧ p0 ≤ 11) ∧ (0 ≤ p1 ∧ p1 ≤ 11))) : vx_Met l yX4_bears wsX4_bears ({ frames := 6, cells := 1, slots := 6, locals := 82 } : Room) (exPc [.ref (b 0), .int p0, .int p1] D (wLan b a a2 cI σ σ2 ω) [(cI, .int)] A9) exQ (exX "java/lang/IndexOutOfBoundsException") 1 6 (fun _ => False) := by
  refine vx_ofW (cc := cX4_bears) (maxL := 3) (ret := (some .int)) (by decide) rfl ?_
  intro p e s m args below meth c s₁ B hml htab hv
  obtain ⟨⟨hargs, hP, hK⟩, hEX⟩ := hv
  have hx := B.exec
  have hb := B.bytes
  have hr := B.returns
  have hts := atoms_spec (ws := wsX4_bears) B.pre
  have hown : s.vm.findClass RX4 = some m.cls := findClass_of_methodNamed B.named
  have hlocks := B.notSynchronized
  obtain ⟨_, hN⟩ := id hK
  refine my_abs (fun Q hQ => ?_)
  obtain ⟨ls, hl, hent⟩ := my_entry (m := m) (n := 3) hargs (Nat.le_of_ble_eq_true rfl)
  rw [hent]
  have hl : lv_has ls 3 [(0, .ref (b 0)), (1, .int p0), (2, .int p1)] := hl
  show W p l e ({ frames := 6, cells := 1, slots := 6, locals := 82 } : Room) s m args below meth c s.heap [] 0 0 Q (F0 m 0 ls [])
  refine lv_iload_n hx hb dX4_bears_0 rfl (lv_at hl 1 rfl) ?_
  refine rd_i (va_runS (As := [.int p0]) (rest := []) ⟨hx, hb, hml, hown, hts⟩ (M_X4_isSection l D cI p0 ) (va_cwS 1 hts gX4_bears_X4_isSection rfl rfl rfl (by decide +kernel) ⟨Nat.le_of_ble_eq_true rfl, Nat.le_of_ble_eq_true rfl⟩) (rdS hK hP [] [0] rfl rfl) rfl rfl hl.1 rfl (lv_room (Nat.le_of_ble_eq_true rfl)) dX4_bears_1 ⟨Nat.zero_le _, Nat.zero_le _⟩) ?_
  refine lv_if_eq (tgt := 14) hx hb dX4_bears_4 (by decide) (fun c_1 => ?_) (fun c_1 => ?_)
  · skip
    have c_1 : ¬ (0 ≤ p0 ∧ p0 ≤ 11) := bI_z.mp c_1
    subst hQ
    exact ex_throw (E := "java/lang/IndexOutOfBoundsException") (71, "no such section") hx hb hst hown hts hEX htab (by decide) rfl (by decide +kernel) (by decide +kernel) (by decide +kernel) (by decide +kernel) (by decide +kernel) (by decide +kernel) hl.1 hml dX4_bears_14 dX4_bears_17 dX4_bears_18 dX4_bears_20 dX4_bears_23 (Nat.le_of_ble_eq_true rfl) (Nat.le_of_ble_eq_true rfl) (Nat.le_of_ble_eq_true rfl) (Nat.le_of_ble_eq_true rfl) hlocks
  · skip
    have c_1 : (0 ≤ p0 ∧ p0 ≤ 11) := bI_nz.mp c_1
    refine lv_iload_n hx hb dX4_bears_7 rfl (lv_at hl 2 rfl) ?_
    refine rd_i (va_runS (As := [.int p1]) (rest := []) ⟨hx, hb, hml, hown, hts⟩ (M_X4_isSection l D cI p1 ) (va_cwS 1 hts gX4_bears_X4_isSection rfl rfl rfl (by decide +kernel) ⟨Nat.le_of_ble_eq_true rfl, Nat.le_of_ble_eq_true rfl⟩) (rdS hK hP [] [0] rfl rfl) rfl rfl hl.1 rfl (lv_room (Nat.le_of_ble_eq_true rfl)) dX4_bears_8 ⟨Nat.zero_le _, Nat.zero_le _⟩) ?_
    refine lv_if_ne (tgt := 24) hx hb dX4_bears_11 (by decide) (fun c_2 => ?_) (fun c_2 => ?_)
    · skip
      have c_2 : (0 ≤ p1 ∧ p1 ≤ 11) := bI_nz.mp c_2
      exact absurd ⟨by assumption, c_2⟩ h1
    · skip
      have c_2 : ¬ (0 ≤ p1 ∧ p1 ≤ 11) := bI_z.mp c_2
      subst hQ
      exact ex_throw (E := "java/lang/IndexOutOfBoundsException") (71, "no such section") hx hb hst hown hts hEX htab (by decide) rfl (by decide +kernel) (by decide +kernel) (by decide +kernel) (by decide +kernel) (by decide +kernel) (by decide +kernel) hl.1 hml dX4_bears_14 dX4_bears_17 dX4_bears_18 dX4_bears_20 dX4_bears_23 (Nat.le_of_ble_eq_true rfl) (Nat.le_of_ble_eq_true rfl) (Nat.le_of_ble_eq_true rfl) (Nat.le_of_ble_eq_true rfl) hlocks
set_option maxHeartbeats 4000000 in
set_option maxRecDepth 100000 in
theorem M_X4_arrives_e1 (l : Launch) (D : va_G) (cI : ClassId) (b : Nat → Nat) (a : Nat → Nat) (a2 : Nat → Nat) (σ : St) (σ2 : St) (ω : St) (p0 : Int32) (A9 : Nat → Prop) (hst : l.stackTraces = false) (h1 : ¬ (0 ≤ p0 ∧ p0 ≤ σ 17 0 - 1)) : vx_Met l yX4_arrives wsX4_arrives ({ frames := 6, cells := 1, slots := 6, locals := 82 } : Room) (exPc [.ref (b 0), .int p0] D (wLan b a a2 cI σ σ2 ω) [(cI, .int)] A9) exQ (exX "java/lang/IndexOutOfBoundsException") 1 6 (fun _ => False) := by
  refine vx_ofW (cc := cX4_arrives) (maxL := 2) (ret := (some .int)) (by decide) rfl ?_
  intro p e s m args below meth c s₁ B hml htab hv
  obtain ⟨⟨hargs, hP, hK⟩, hEX⟩ := hv
  have hx := B.exec
  have hb := B.bytes
  have hr := B.returns
  have hts := atoms_spec (ws := wsX4_arrives) B.pre
  have hown : s.vm.findClass RX4 = some m.cls := findClass_of_methodNamed B.named
  have hlocks := B.notSynchronized
  obtain ⟨_, hN⟩ := id hK
  have hiX2 : ∀ w ∈ wsX20, w ∈ wsX4_arrives := by decide +kernel
  have hiX4 : ∀ w ∈ wsX40, w ∈ wsX4_arrives := by decide +kernel
  refine my_abs (fun Q hQ => ?_)
  obtain ⟨ls, hl, hent⟩ := my_entry (m := m) (n := 2) hargs (Nat.le_of_ble_eq_true rfl)
  rw [hent]
  have hl : lv_has ls 2 [(0, .ref (b 0)), (1, .int p0)] := hl
  show W p l e ({ frames := 6, cells := 1, slots := 6, locals := 82 } : Room) s m args below meth c s.heap [] 0 0 Q (F0 m 0 ls [])
  refine lv_aload_n hx hb dX4_arrives_0 rfl (lv_at hl 0 rfl) ?_
  refine va_get (D := D) (ci := 4) (v := .ref (a 0)) (C := RX4) (T := TX4) (N := 3) hx hb hts hiX4 hown hK.1 hP 0 rfl rfl 0 (by decide) (hts (.fieldLink RX4 12 "IceLanes" "river" "LIceLanes$River;") (by decide +kernel)) (fun _ h9 => h9) rfl dX4_arrives_1 ?_
  refine va_getN (D := D) (ci := 2) (v := .ref (a 6)) (C := RX2) (T := TX2) (N := 6) hx hb hts hiX2 hown hK.1 hP 4 rfl rfl 5 (by decide) (va_Nw.use rfl (nX4_88 hN)) (fun _ h9 => h9) rfl dX4_arrives_4 ?_
  refine lv_iload_n hx hb dX4_arrives_7 rfl (lv_at hl 1 rfl) ?_
  refine rd_i (va_runVN (As := [.int p0]) (rest := []) ⟨hx, hb, hml, hown, hts⟩ (M_X0_has l D cI a σ p0 ) ⟨va_cnB 1 hts gX4_arrives_X0_has_n117 rfl rfl rfl (nX4_117 hN) (hts (.initialized RX0) (by decide +kernel)) (by decide +kernel) ⟨Nat.le_of_ble_eq_true rfl, Nat.le_of_ble_eq_true rfl⟩, hts (.instanceMethod yX0_has) (by decide +kernel), hts (.selects RX0 yX0_has yX0_has) (by decide +kernel)⟩ (rdV hK hP [10, 11, 12, 13, 14, 15, 16, 17, 18, 19] [0] rfl rfl (ci := 0) (q0 := 10) rfl rfl) rfl rfl hl.1 rfl (lv_room (Nat.le_of_ble_eq_true rfl)) dX4_arrives_8 ⟨Nat.zero_le _, Nat.zero_le _⟩) ?_
  refine lv_if_ne (tgt := 24) hx hb dX4_arrives_11 (by decide) (fun c_1 => ?_) (fun c_1 => ?_)
  · skip
    have c_1 : (0 ≤ p0 ∧ p0 ≤ (σ 17 0) - 1) := bI_nz.mp c_1
    first | exact absurd c_1 (by assumption) | exact absurd (by assumption) c_1
  · skip
    have c_1 : ¬ (0 ≤ p0 ∧ p0 ≤ (σ 17 0) - 1) := bI_z.mp c_1
    subst hQ
    exact ex_throw (E := "java/lang/IndexOutOfBoundsException") (139, "no such courier") hx hb hst hown hts hEX htab (by decide) rfl (by decide +kernel) (by decide +kernel) (by decide +kernel) (by decide +kernel) (by decide +kernel) (by decide +kernel) hl.1 hml dX4_arrives_14 dX4_arrives_17 dX4_arrives_18 dX4_arrives_20 dX4_arrives_23 (Nat.le_of_ble_eq_true rfl) (Nat.le_of_ble_eq_true rfl) (Nat.le_of_ble_eq_true rfl) (Nat.le_of_ble_eq_true rfl) hlocks
set_option maxHeartbeats 4000000 in
set_option maxRecDepth 100000 in
theorem M_X4_best_e1 (l : Launch) (D : va_G) (cI : ClassId) (b : Nat → Nat) (a : Nat → Nat) (a2 : Nat → Nat) (σ : St) (σ2 : St) (ω : St) (p0 : Int32) (A9 : Nat → Prop) (hst : l.stackTraces = false) (h1 : ¬ (0 ≤ p0 ∧ p0 ≤ σ 17 0 - 1)) : vx_Met l yX4_best wsX4_best ({ frames := 6, cells := 1, slots := 6, locals := 82 } : Room) (exPc [.ref (b 0), .int p0] D (wLan b a a2 cI σ σ2 ω) [(cI, .int)] A9) exQ (exX "java/lang/IndexOutOfBoundsException") 1 6 (fun _ => False) := by
  refine vx_ofW (cc := cX4_best) (maxL := 3) (ret := (some .int)) (by decide) rfl ?_
  intro p e s m args below meth c s₁ B hml htab hv
  obtain ⟨⟨hargs, hP, hK⟩, hEX⟩ := hv
  have hx := B.exec
  have hb := B.bytes
  have hr := B.returns
  have hts := atoms_spec (ws := wsX4_best) B.pre
  have hown : s.vm.findClass RX4 = some m.cls := findClass_of_methodNamed B.named
  have hlocks := B.notSynchronized
  obtain ⟨_, hN⟩ := id hK
  have hiX2 : ∀ w ∈ wsX20, w ∈ wsX4_best := by decide +kernel
  have hiX4 : ∀ w ∈ wsX40, w ∈ wsX4_best := by decide +kernel
  refine my_abs (fun Q hQ => ?_)
  obtain ⟨ls, hl, hent⟩ := my_entry (m := m) (n := 3) hargs (Nat.le_of_ble_eq_true rfl)
  rw [hent]
  have hl : lv_has ls 3 [(0, .ref (b 0)), (1, .int p0)] := hl
  show W p l e ({ frames := 6, cells := 1, slots := 6, locals := 82 } : Room) s m args below meth c s.heap [] 0 0 Q (F0 m 0 ls [])
  refine lv_aload_n hx hb dX4_best_0 rfl (lv_at hl 0 rfl) ?_
  refine va_get (D := D) (ci := 4) (v := .ref (a 0)) (C := RX4) (T := TX4) (N := 3) hx hb hts hiX4 hown hK.1 hP 0 rfl rfl 0 (by decide) (hts (.fieldLink RX4 12 "IceLanes" "river" "LIceLanes$River;") (by decide +kernel)) (fun _ h9 => h9) rfl dX4_best_1 ?_
  refine va_getN (D := D) (ci := 2) (v := .ref (a 6)) (C := RX2) (T := TX2) (N := 6) hx hb hts hiX2 hown hK.1 hP 4 rfl rfl 5 (by decide) (va_Nw.use rfl (nX4_88 hN)) (fun _ h9 => h9) rfl dX4_best_4 ?_
  refine lv_iload_n hx hb dX4_best_7 rfl (lv_at hl 1 rfl) ?_
  refine rd_i (va_runVN (As := [.int p0]) (rest := []) ⟨hx, hb, hml, hown, hts⟩ (M_X0_has l D cI a σ p0 ) ⟨va_cnB 1 hts gX4_best_X0_has_n117 rfl rfl rfl (nX4_117 hN) (hts (.initialized RX0) (by decide +kernel)) (by decide +kernel) ⟨Nat.le_of_ble_eq_true rfl, Nat.le_of_ble_eq_true rfl⟩, hts (.instanceMethod yX0_has) (by decide +kernel), hts (.selects RX0 yX0_has yX0_has) (by decide +kernel)⟩ (rdV hK hP [10, 11, 12, 13, 14, 15, 16, 17, 18, 19] [0] rfl rfl (ci := 0) (q0 := 10) rfl rfl) rfl rfl hl.1 rfl (lv_room (Nat.le_of_ble_eq_true rfl)) dX4_best_8 ⟨Nat.zero_le _, Nat.zero_le _⟩) ?_
  refine lv_if_ne (tgt := 24) hx hb dX4_best_11 (by decide) (fun c_1 => ?_) (fun c_1 => ?_)
  · skip
    have c_1 : (0 ≤ p0 ∧ p0 ≤ (σ 17 0) - 1) := bI_nz.mp c_1
    first | exact absurd c_1 (by assumption) | exact absurd (by assumption) c_1
  · skip
    have c_1 : ¬ (0 ≤ p0 ∧ p0 ≤ (σ 17 0) - 1) := bI_z.mp c_1
    subst hQ
    exact ex_throw (E := "java/lang/IndexOutOfBoundsException") (139, "no such courier") hx hb hst hown hts hEX htab (by decide) rfl (by decide +kernel) (by decide +kernel) (by decide +kernel) (by decide +kernel) (by decide +kernel) (by decide +kernel) hl.1 hml dX4_best_14 dX4_best_17 dX4_best_18 dX4_best_20 dX4_best_23 (Nat.le_of_ble_eq_true rfl) (Nat.le_of_ble_eq_true rfl) (Nat.le_of_ble_eq_true rfl) (Nat.le_of_ble_eq_true rfl) hlocks
