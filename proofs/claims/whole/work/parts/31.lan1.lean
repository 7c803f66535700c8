set_option maxHeartbeats 4000000 in
set_option maxRecDepth 100000 in
theorem M_X4_mixed (l : Launch) (D : va_G) (cI : ClassId) (dd : Int64) (x : Int32) : Met l yX4_mixed wsX4_mixed ({ frames := 0, cells := 0, slots := 0, locals := 0 } : Room) (rdPc [.long dd, .int x] D (([] : va_W)) [(cI, .int)]) (rdQl (mxd dd x)) 0 0 (fun _ => False) := by
  refine Met.ofW (cc := cX4_mixed) (maxL := 3) (ret := (some .long)) (by decide) rfl ?_
  intro p e s m args below meth c s₁ B hml hv
  obtain ⟨hargs, hP, hK⟩ := hv
  have hx := B.exec
  have hb := B.bytes
  have hr := B.returns
  have hts := atoms_spec (ws := wsX4_mixed) B.pre
  have hown : s.vm.findClass RX4 = some m.cls := findClass_of_methodNamed B.named
  have hlocks := B.notSynchronized
  obtain ⟨_, hN⟩ := id hK
  refine my_abs (fun Q hQ => ?_)
  obtain ⟨ls, hl, hent⟩ := my_entry (m := m) (n := 3) hargs (Nat.le_of_ble_eq_true rfl)
  rw [hent]
  have hl : lv_has ls 3 [(0, .long dd), (2, .int x)] := hl
  show W p l e ({ frames := 0, cells := 0, slots := 0, locals := 0 } : Room) s m args below meth c s.heap [] 0 0 Q (F0 m 0 ls [])
  refine lv_lload_n hx hb dX4_mixed_0 rfl (lv_at hl 0 rfl) ?_
  refine lv_ldc2 (v := 31) hx hb hown (hts (.constantLong RX4 254 (31)) (by decide +kernel)) dX4_mixed_1 ?_
  refine lv_lmul hx hb dX4_mixed_4 ?_
  refine lv_iload_n hx hb dX4_mixed_5 rfl (lv_at hl 1 rfl) ?_
  refine lv_i2l hx hb dX4_mixed_6 rfl ?_
  refine lv_ladd hx hb dX4_mixed_7 ?_
  subst hQ
  exact ret_rdl hx hb hr hlocks (show (dd * 31) + x.toInt64 = mxd dd x from rfl) dX4_mixed_8
set_option maxHeartbeats 4000000 in
set_option maxRecDepth 100000 in
theorem M_X4_winOf (l : Launch) (D : va_G) (cI : ClassId) (b : Nat → Nat) (a : Nat → Nat) (a2 : Nat → Nat) (σ : St) (σ2 : St) (ω : St) (wg : Nat) (nw : Nat) (hnw : ω 19 0 = nI nw) (hw12 : nw ≤ 12) (hwg : wg < nw) : Met l yX4_winOf wsX4_winOf ({ frames := 3, cells := 0, slots := 0, locals := 61 } : Room) (rdPc [.ref (b 0), .int (nI wg)] D (wLan b a a2 cI σ σ2 ω) [(cI, .int)]) (rdQi (wonF σ ω nw wg)) 0 0 (fun _ => False) := by
  refine Met.ofW (cc := cX4_winOf) (maxL := 2) (ret := (some .int)) (by decide) rfl ?_
  intro p e s m args below meth c s₁ B hml hv
  obtain ⟨hargs, hP, hK⟩ := hv
  have hx := B.exec
  have hb := B.bytes
  have hr := B.returns
  have hts := atoms_spec (ws := wsX4_winOf) B.pre
  have hown : s.vm.findClass RX4 = some m.cls := findClass_of_methodNamed B.named
  have hlocks := B.notSynchronized
  obtain ⟨_, hN⟩ := id hK
  have hiX2 : ∀ w ∈ wsX20, w ∈ wsX4_winOf := by decide +kernel
  have hiX4 : ∀ w ∈ wsX40, w ∈ wsX4_winOf := by decide +kernel
  refine my_abs (fun Q hQ => ?_)
  obtain ⟨ls, hl, hent⟩ := my_entry (m := m) (n := 2) hargs (Nat.le_of_ble_eq_true rfl)
  rw [hent]
  have hl : lv_has ls 2 [(0, .ref (b 0)), (1, .int (nI wg))] := hl
  show W p l e ({ frames := 3, cells := 0, slots := 0, locals := 61 } : Room) s m args below meth c s.heap [] 0 0 Q (F0 m 0 ls [])
  refine lv_aload_n hx hb dX4_winOf_0 rfl (lv_at hl 0 rfl) ?_
  refine va_get (D := D) (ci := 4) (v := .ref (a 0)) (C := RX4) (T := TX4) (N := 3) hx hb hts hiX4 hown hK.1 hP 0 rfl rfl 0 (by decide) (hts (.fieldLink RX4 12 "IceLanes" "river" "LIceLanes$River;") (by decide +kernel)) (fun _ h9 => h9) rfl dX4_winOf_1 ?_
  refine rd_i (va_runVN (As := []) (rest := []) ⟨hx, hb, hml, hown, hts⟩ (M_X2_hasThawed l D cI a σ ) ⟨va_cnB 0 hts gX4_winOf_X2_hasThawed_n163 rfl rfl rfl (nX4_163 hN) (hts (.initialized RX2) (by decide +kernel)) (by decide +kernel) ⟨Nat.le_of_ble_eq_true rfl, Nat.le_of_ble_eq_true rfl⟩, hts (.instanceMethod yX2_hasThawed) (by decide +kernel), hts (.selects RX2 yX2_hasThawed yX2_hasThawed) (by decide +kernel)⟩ (rdV hK hP [4, 5, 6, 7, 8, 9, 10, 11, 12, 13, 14, 15, 16, 17, 18, 19] [0] rfl rfl (ci := 2) (q0 := 4) rfl rfl) rfl rfl hl.1 rfl (lv_room (Nat.le_of_ble_eq_true rfl)) dX4_winOf_4 ⟨Nat.zero_le _, Nat.zero_le _⟩) ?_
  refine lv_if_eq (tgt := 28) hx hb dX4_winOf_7 (by decide) (fun c_1 => ?_) (fun c_1 => ?_)
  · skip
    have c_1 : ¬ (¬ (σ 16 0) = -1) := bI_z.mp c_1
    refine lv_iconst (v := 0) hx hb dX4_winOf_28 (by decide) ?_
    subst hQ
    exact ret_rdi hx hb hr rfl hlocks (show 0 = wonF σ ω nw wg from (by first | exact wonF_t (by assumption) | exact wonF_f (by assumption) | exact wonF_f (Classical.not_not.mp (by assumption)))) dX4_winOf_29
  · skip
    have c_1 : (¬ (σ 16 0) = -1) := bI_nz.mp c_1
    refine lv_aload_n hx hb dX4_winOf_10 rfl (lv_at hl 0 rfl) ?_
    refine va_get (D := D) (ci := 4) (v := .ref (b 1)) (C := RX4) (T := TX4) (N := 3) hx hb hts hiX4 hown hK.1 hP 0 rfl rfl 2 (by decide) (hts (.fieldLink RX4 22 "IceLanes" "wagers" "LIceLanes$Wagers;") (by decide +kernel)) (fun _ h9 => h9) rfl dX4_winOf_11 ?_
    refine lv_aload_n hx hb dX4_winOf_14 rfl (lv_at hl 0 rfl) ?_
    refine va_get (D := D) (ci := 4) (v := .ref (a 0)) (C := RX4) (T := TX4) (N := 3) hx hb hts hiX4 hown hK.1 hP 0 rfl rfl 0 (by decide) (hts (.fieldLink RX4 12 "IceLanes" "river" "LIceLanes$River;") (by decide +kernel)) (fun _ h9 => h9) rfl dX4_winOf_15 ?_
    refine va_getN (D := D) (ci := 2) (v := .int (σ 16 0)) (C := RX2) (T := TX2) (N := 6) hx hb hts hiX2 hown hK.1 hP 4 rfl rfl 1 (by decide) (va_Nw.use rfl (nX4_203 hN)) (fun _ h9 => h9) rfl dX4_winOf_18 ?_
    refine lv_iload_n hx hb dX4_winOf_21 rfl (lv_at hl 1 rfl) ?_
    refine rd_i (va_runVN (As := [.int (σ 16 0), .int (nI wg)]) (rest := []) ⟨hx, hb, hml, hown, hts⟩ (M_X3_winOn l D cI b ω (σ 16 0) wg nw (by first | assumption | omega) (by first | assumption | omega) (by first | assumption | omega)) ⟨va_cnB 2 hts gX4_winOf_X3_winOn_n245 rfl rfl rfl (nX4_245 hN) (hts (.initialized RX3) (by decide +kernel)) (by decide +kernel) ⟨Nat.le_of_ble_eq_true rfl, Nat.le_of_ble_eq_true rfl⟩, hts (.instanceMethod yX3_winOn) (by decide +kernel), hts (.selects RX3 yX3_winOn yX3_winOn) (by decide +kernel)⟩ (rdV hK hP [1, 2, 3] [0] rfl rfl (ci := 3) (q0 := 1) rfl rfl) rfl rfl hl.1 rfl (lv_room (Nat.le_of_ble_eq_true rfl)) dX4_winOf_22 ⟨Nat.zero_le _, Nat.zero_le _⟩) ?_
    refine lv_goto (tgt := 29) hx hb dX4_winOf_25 (by decide) ?_
    subst hQ
    exact ret_rdi hx hb hr rfl hlocks (show winF ω nw (σ 16 0) wg = wonF σ ω nw wg from (by first | exact wonF_t (by assumption) | exact wonF_f (by assumption) | exact wonF_f (Classical.not_not.mp (by assumption)))) dX4_winOf_29
set_option maxHeartbeats 4000000 in
set_option maxRecDepth 100000 in
theorem M_X4_counted (l : Launch) (D : va_G) (cI : ClassId) (b : Nat → Nat) (a : Nat → Nat) (a2 : Nat → Nat) (σ : St) (σ2 : St) (ω : St) (w : Nat) (nc : Nat) (nw : Nat) (hw11 : w < 11) (hnc : σ 17 0 = nI nc) (hn8 : nc ≤ 8) (he2 : σ 2 = ω 2) (hnw : ω 19 0 = nI nw) (hw12 : nw ≤ 12) : Met l yX4_counted wsX4_counted ({ frames := 1, cells := 0, slots := 0, locals := 23 } : Room) (rdPc [.ref (b 0), .int (nI w)] D (wLan b a a2 cI σ σ2 ω) [(cI, .int)]) (rdQi (ctF σ ω nc nw w)) 0 0 (fun _ => False) := by
  refine Met.ofW (cc := cX4_counted) (maxL := 2) (ret := (some .int)) (by decide) rfl ?_
  intro p e s m args below meth c s₁ B hml hv
  obtain ⟨hargs, hP, hK⟩ := hv
  have hx := B.exec
  have hb := B.bytes
  have hr := B.returns
  have hts := atoms_spec (ws := wsX4_counted) B.pre
  have hown : s.vm.findClass RX4 = some m.cls := findClass_of_methodNamed B.named
  have hlocks := B.notSynchronized
  obtain ⟨_, hN⟩ := id hK
  have hiX0 : ∀ w ∈ wsX00, w ∈ wsX4_counted := by decide +kernel
  have hiX2 : ∀ w ∈ wsX20, w ∈ wsX4_counted := by decide +kernel
  have hiX3 : ∀ w ∈ wsX30, w ∈ wsX4_counted := by decide +kernel
  have hiX4 : ∀ w ∈ wsX40, w ∈ wsX4_counted := by decide +kernel
  refine my_abs (fun Q hQ => ?_)
  obtain ⟨ls, hl, hent⟩ := my_entry (m := m) (n := 2) hargs (Nat.le_of_ble_eq_true rfl)
  rw [hent]
  have hl : lv_has ls 2 [(0, .ref (b 0)), (1, .int (nI w))] := hl
  show W p l e ({ frames := 1, cells := 0, slots := 0, locals := 23 } : Room) s m args below meth c s.heap [] 0 0 Q (F0 m 0 ls [])
  refine lv_iload_n hx hb dX4_counted_0 rfl (lv_at hl 1 rfl) ?_
  rcases (show w = 0 ∨ w = 1 ∨ w = 2 ∨ w = 3 ∨ w = 4 ∨ w = 5 ∨ w = 6 ∨ w = 7 ∨ w = 8 ∨ w = 9 ∨ w = 10 by omega) with rfl | rfl | rfl | rfl | rfl | rfl | rfl | rfl | rfl | rfl | rfl
  · skip
    refine lv_tableIn (tgt := 56) hx hb dX4_counted_1 (by decide) (by decide) (by rfl) (by decide) ?_
    refine lv_aload_n hx hb dX4_counted_56 rfl (lv_at hl 0 rfl) ?_
    refine va_get (D := D) (ci := 4) (v := .ref (a 0)) (C := RX4) (T := TX4) (N := 3) hx hb hts hiX4 hown hK.1 hP 0 rfl rfl 0 (by decide) (hts (.fieldLink RX4 12 "IceLanes" "river" "LIceLanes$River;") (by decide +kernel)) (fun _ h9 => h9) rfl dX4_counted_57 ?_
    refine va_getN (D := D) (ci := 2) (v := .int (σ 0 0)) (C := RX2) (T := TX2) (N := 6) hx hb hts hiX2 hown hK.1 hP 4 rfl rfl 0 (by decide) (va_Nw.use rfl (nX4_230 hN)) (fun _ h9 => h9) rfl dX4_counted_60 ?_
    subst hQ
    exact ret_rdi hx hb hr rfl hlocks (show σ 0 0 = ctF σ ω nc nw 0 from rfl) dX4_counted_63
  · skip
    refine lv_tableIn (tgt := 64) hx hb dX4_counted_1 (by decide) (by decide) (by rfl) (by decide) ?_
    refine lv_aload_n hx hb dX4_counted_64 rfl (lv_at hl 0 rfl) ?_
    refine va_get (D := D) (ci := 4) (v := .ref (a 0)) (C := RX4) (T := TX4) (N := 3) hx hb hts hiX4 hown hK.1 hP 0 rfl rfl 0 (by decide) (hts (.fieldLink RX4 12 "IceLanes" "river" "LIceLanes$River;") (by decide +kernel)) (fun _ h9 => h9) rfl dX4_counted_65 ?_
    refine va_getN (D := D) (ci := 2) (v := .ref (a 6)) (C := RX2) (T := TX2) (N := 6) hx hb hts hiX2 hown hK.1 hP 4 rfl rfl 5 (by decide) (va_Nw.use rfl (nX4_88 hN)) (fun _ h9 => h9) rfl dX4_counted_68 ?_
    refine va_getN (D := D) (ci := 0) (v := .int (σ 17 0)) (C := RX0) (T := TX0) (N := 10) hx hb hts hiX0 hown hK.1 hP 10 rfl rfl 0 (by decide) (va_Nw.use rfl (nX4_99 hN)) (fun _ h9 => h9) rfl dX4_counted_71 ?_
    subst hQ
    exact ret_rdi hx hb hr rfl hlocks (show σ 17 0 = ctF σ ω nc nw 1 from rfl) dX4_counted_74
  · skip
    refine lv_tableIn (tgt := 75) hx hb dX4_counted_1 (by decide) (by decide) (by rfl) (by decide) ?_
    refine lv_aload_n hx hb dX4_counted_75 rfl (lv_at hl 0 rfl) ?_
    refine va_get (D := D) (ci := 4) (v := .ref (a 0)) (C := RX4) (T := TX4) (N := 3) hx hb hts hiX4 hown hK.1 hP 0 rfl rfl 0 (by decide) (hts (.fieldLink RX4 12 "IceLanes" "river" "LIceLanes$River;") (by decide +kernel)) (fun _ h9 => h9) rfl dX4_counted_76 ?_
    refine va_getN (D := D) (ci := 2) (v := .ref (a 6)) (C := RX2) (T := TX2) (N := 6) hx hb hts hiX2 hown hK.1 hP 4 rfl rfl 5 (by decide) (va_Nw.use rfl (nX4_88 hN)) (fun _ h9 => h9) rfl dX4_counted_79 ?_
    refine lv_iconst (v := 1) hx hb dX4_counted_82 (by decide) ?_
    refine rd_i (va_runVN (As := [.int 1]) (rest := []) ⟨hx, hb, hml, hown, hts⟩ (M_X0_numberWhose l D cI a σ 1 nc (by first | assumption | omega) (by first | assumption | omega)) ⟨va_cnB 1 hts gX4_counted_X0_numberWhose_n233 rfl rfl rfl (nX4_233 hN) (hts (.initialized RX0) (by decide +kernel)) (by decide +kernel) ⟨Nat.le_of_ble_eq_true rfl, Nat.le_of_ble_eq_true rfl⟩, hts (.instanceMethod yX0_numberWhose) (by decide +kernel), hts (.selects RX0 yX0_numberWhose yX0_numberWhose) (by decide +kernel)⟩ (rdV hK hP [10, 11, 12, 13, 14, 15, 16, 17, 18, 19] [0] rfl rfl (ci := 0) (q0 := 10) rfl rfl) rfl rfl hl.1 rfl (lv_room (Nat.le_of_ble_eq_true rfl)) dX4_counted_83 ⟨Nat.zero_le _, Nat.zero_le _⟩) ?_
    subst hQ
    exact ret_rdi hx hb hr rfl hlocks (show cntF (fun j => decide ((σ 11) j = 1)) nc = ctF σ ω nc nw 2 from rfl) dX4_counted_86
  · skip
    refine lv_tableIn (tgt := 87) hx hb dX4_counted_1 (by decide) (by decide) (by rfl) (by decide) ?_
    refine lv_aload_n hx hb dX4_counted_87 rfl (lv_at hl 0 rfl) ?_
    refine va_get (D := D) (ci := 4) (v := .ref (a 0)) (C := RX4) (T := TX4) (N := 3) hx hb hts hiX4 hown hK.1 hP 0 rfl rfl 0 (by decide) (hts (.fieldLink RX4 12 "IceLanes" "river" "LIceLanes$River;") (by decide +kernel)) (fun _ h9 => h9) rfl dX4_counted_88 ?_
    refine va_getN (D := D) (ci := 2) (v := .ref (a 6)) (C := RX2) (T := TX2) (N := 6) hx hb hts hiX2 hown hK.1 hP 4 rfl rfl 5 (by decide) (va_Nw.use rfl (nX4_88 hN)) (fun _ h9 => h9) rfl dX4_counted_91 ?_
    refine lv_iconst (v := 2) hx hb dX4_counted_94 (by decide) ?_
    refine rd_i (va_runVN (As := [.int 2]) (rest := []) ⟨hx, hb, hml, hown, hts⟩ (M_X0_numberWhose l D cI a σ 2 nc (by first | assumption | omega) (by first | assumption | omega)) ⟨va_cnB 1 hts gX4_counted_X0_numberWhose_n233 rfl rfl rfl (nX4_233 hN) (hts (.initialized RX0) (by decide +kernel)) (by decide +kernel) ⟨Nat.le_of_ble_eq_true rfl, Nat.le_of_ble_eq_true rfl⟩, hts (.instanceMethod yX0_numberWhose) (by decide +kernel), hts (.selects RX0 yX0_numberWhose yX0_numberWhose) (by decide +kernel)⟩ (rdV hK hP [10, 11, 12, 13, 14, 15, 16, 17, 18, 19] [0] rfl rfl (ci := 0) (q0 := 10) rfl rfl) rfl rfl hl.1 rfl (lv_room (Nat.le_of_ble_eq_true rfl)) dX4_counted_95 ⟨Nat.zero_le _, Nat.zero_le _⟩) ?_
    subst hQ
    exact ret_rdi hx hb hr rfl hlocks (show cntF (fun j => decide ((σ 11) j = 2)) nc = ctF σ ω nc nw 3 from rfl) dX4_counted_98
  · skip
    refine lv_tableIn (tgt := 99) hx hb dX4_counted_1 (by decide) (by decide) (by rfl) (by decide) ?_
    refine lv_aload_n hx hb dX4_counted_99 rfl (lv_at hl 0 rfl) ?_
    refine va_get (D := D) (ci := 4) (v := .ref (a 0)) (C := RX4) (T := TX4) (N := 3) hx hb hts hiX4 hown hK.1 hP 0 rfl rfl 0 (by decide) (hts (.fieldLink RX4 12 "IceLanes" "river" "LIceLanes$River;") (by decide +kernel)) (fun _ h9 => h9) rfl dX4_counted_100 ?_
    refine va_getN (D := D) (ci := 2) (v := .ref (a 6)) (C := RX2) (T := TX2) (N := 6) hx hb hts hiX2 hown hK.1 hP 4 rfl rfl 5 (by decide) (va_Nw.use rfl (nX4_88 hN)) (fun _ h9 => h9) rfl dX4_counted_103 ?_
    refine lv_iconst (v := 3) hx hb dX4_counted_106 (by decide) ?_
    refine rd_i (va_runVN (As := [.int 3]) (rest := []) ⟨hx, hb, hml, hown, hts⟩ (M_X0_numberWhose l D cI a σ 3 nc (by first | assumption | omega) (by first | assumption | omega)) ⟨va_cnB 1 hts gX4_counted_X0_numberWhose_n233 rfl rfl rfl (nX4_233 hN) (hts (.initialized RX0) (by decide +kernel)) (by decide +kernel) ⟨Nat.le_of_ble_eq_true rfl, Nat.le_of_ble_eq_true rfl⟩, hts (.instanceMethod yX0_numberWhose) (by decide +kernel), hts (.selects RX0 yX0_numberWhose yX0_numberWhose) (by decide +kernel)⟩ (rdV hK hP [10, 11, 12, 13, 14, 15, 16, 17, 18, 19] [0] rfl rfl (ci := 0) (q0 := 10) rfl rfl) rfl rfl hl.1 rfl (lv_room (Nat.le_of_ble_eq_true rfl)) dX4_counted_107 ⟨Nat.zero_le _, Nat.zero_le _⟩) ?_
    subst hQ
    exact ret_rdi hx hb hr rfl hlocks (show cntF (fun j => decide ((σ 11) j = 3)) nc = ctF σ ω nc nw 4 from rfl) dX4_counted_110
  · skip
    refine lv_tableIn (tgt := 111) hx hb dX4_counted_1 (by decide) (by decide) (by rfl) (by decide) ?_
    refine lv_aload_n hx hb dX4_counted_111 rfl (lv_at hl 0 rfl) ?_
    refine va_get (D := D) (ci := 4) (v := .ref (a 0)) (C := RX4) (T := TX4) (N := 3) hx hb hts hiX4 hown hK.1 hP 0 rfl rfl 0 (by decide) (hts (.fieldLink RX4 12 "IceLanes" "river" "LIceLanes$River;") (by decide +kernel)) (fun _ h9 => h9) rfl dX4_counted_112 ?_
    refine va_getN (D := D) (ci := 2) (v := .ref (a 3)) (C := RX2) (T := TX2) (N := 6) hx hb hts hiX2 hown hK.1 hP 4 rfl rfl 4 (by decide) (va_Nw.use rfl (nX4_58 hN)) (fun _ h9 => h9) rfl dX4_counted_115 ?_
    refine rd_i (va_runVN (As := []) (rest := []) ⟨hx, hb, hml, hown, hts⟩ (M_X1_cracksInAll l D cI a σ ) ⟨va_cnB 0 hts gX4_counted_X1_cracksInAll_n236 rfl rfl rfl (nX4_236 hN) (hts (.initialized RX1) (by decide +kernel)) (by decide +kernel) ⟨Nat.le_of_ble_eq_true rfl, Nat.le_of_ble_eq_true rfl⟩, hts (.instanceMethod yX1_cracksInAll) (by decide +kernel), hts (.selects RX1 yX1_cracksInAll yX1_cracksInAll) (by decide +kernel)⟩ (rdV hK hP [7, 8, 9] [0] rfl rfl (ci := 1) (q0 := 7) rfl rfl) rfl rfl hl.1 rfl (lv_room (Nat.le_of_ble_eq_true rfl)) dX4_counted_118 ⟨Nat.zero_le _, Nat.zero_le _⟩) ?_
    subst hQ
    exact ret_rdi hx hb hr rfl hlocks (show sumF ((σ 4)) 36 = ctF σ ω nc nw 5 from rfl) dX4_counted_121
  · skip
    refine lv_tableIn (tgt := 122) hx hb dX4_counted_1 (by decide) (by decide) (by rfl) (by decide) ?_
    refine lv_aload_n hx hb dX4_counted_122 rfl (lv_at hl 0 rfl) ?_
    refine va_get (D := D) (ci := 4) (v := .ref (a 0)) (C := RX4) (T := TX4) (N := 3) hx hb hts hiX4 hown hK.1 hP 0 rfl rfl 0 (by decide) (hts (.fieldLink RX4 12 "IceLanes" "river" "LIceLanes$River;") (by decide +kernel)) (fun _ h9 => h9) rfl dX4_counted_123 ?_
    refine va_getN (D := D) (ci := 2) (v := .ref (a 3)) (C := RX2) (T := TX2) (N := 6) hx hb hts hiX2 hown hK.1 hP 4 rfl rfl 4 (by decide) (va_Nw.use rfl (nX4_58 hN)) (fun _ h9 => h9) rfl dX4_counted_126 ?_
    refine rd_i (va_runVN (As := []) (rest := []) ⟨hx, hb, hml, hown, hts⟩ (M_X1_placesOfOpenWater l D cI a σ ) ⟨va_cnB 0 hts gX4_counted_X1_placesOfOpenWater_n239 rfl rfl rfl (nX4_239 hN) (hts (.initialized RX1) (by decide +kernel)) (by decide +kernel) ⟨Nat.le_of_ble_eq_true rfl, Nat.le_of_ble_eq_true rfl⟩, hts (.instanceMethod yX1_placesOfOpenWater) (by decide +kernel), hts (.selects RX1 yX1_placesOfOpenWater yX1_placesOfOpenWater) (by decide +kernel)⟩ (rdV hK hP [7, 8, 9] [0] rfl rfl (ci := 1) (q0 := 7) rfl rfl) rfl rfl hl.1 rfl (lv_room (Nat.le_of_ble_eq_true rfl)) dX4_counted_129 ⟨Nat.zero_le _, Nat.zero_le _⟩) ?_
    subst hQ
    exact ret_rdi hx hb hr rfl hlocks (show cntF (fun j => decide ((σ 3) j = 0)) 36 = ctF σ ω nc nw 6 from rfl) dX4_counted_132
  · skip
    refine lv_tableIn (tgt := 133) hx hb dX4_counted_1 (by decide) (by decide) (by rfl) (by decide) ?_
    refine lv_aload_n hx hb dX4_counted_133 rfl (lv_at hl 0 rfl) ?_
    refine va_get (D := D) (ci := 4) (v := .ref (a 0)) (C := RX4) (T := TX4) (N := 3) hx hb hts hiX4 hown hK.1 hP 0 rfl rfl 0 (by decide) (hts (.fieldLink RX4 12 "IceLanes" "river" "LIceLanes$River;") (by decide +kernel)) (fun _ h9 => h9) rfl dX4_counted_134 ?_
    refine rd_i (va_runVN (As := []) (rest := []) ⟨hx, hb, hml, hown, hts⟩ (M_X2_huts l D cI a σ ) ⟨va_cnB 0 hts gX4_counted_X2_huts_n76 rfl rfl rfl (nX4_76 hN) (hts (.initialized RX2) (by decide +kernel)) (by decide +kernel) ⟨Nat.le_of_ble_eq_true rfl, Nat.le_of_ble_eq_true rfl⟩, hts (.instanceMethod yX2_huts) (by decide +kernel), hts (.selects RX2 yX2_huts yX2_huts) (by decide +kernel)⟩ (rdV hK hP [4, 5, 6, 7, 8, 9, 10, 11, 12, 13, 14, 15, 16, 17, 18, 19] [0] rfl rfl (ci := 2) (q0 := 4) rfl rfl) rfl rfl hl.1 rfl (lv_room (Nat.le_of_ble_eq_true rfl)) dX4_counted_137 ⟨Nat.zero_le _, Nat.zero_le _⟩) ?_
    subst hQ
    exact ret_rdi hx hb hr rfl hlocks (show sumF ((σ 2)) 12 = ctF σ ω nc nw 7 from (by show sumF (σ 2) 12 = sumF (ω 2) 12; rw [he2])) dX4_counted_140
  · skip
    refine lv_tableIn (tgt := 141) hx hb dX4_counted_1 (by decide) (by decide) (by rfl) (by decide) ?_
    refine lv_aload_n hx hb dX4_counted_141 rfl (lv_at hl 0 rfl) ?_
    refine va_get (D := D) (ci := 4) (v := .ref (b 1)) (C := RX4) (T := TX4) (N := 3) hx hb hts hiX4 hown hK.1 hP 0 rfl rfl 2 (by decide) (hts (.fieldLink RX4 22 "IceLanes" "wagers" "LIceLanes$Wagers;") (by decide +kernel)) (fun _ h9 => h9) rfl dX4_counted_142 ?_
    refine va_getN (D := D) (ci := 3) (v := .int (ω 19 0)) (C := RX3) (T := TX3) (N := 3) hx hb hts hiX3 hown hK.1 hP 1 rfl rfl 0 (by decide) (va_Nw.use rfl (nX4_160 hN)) (fun _ h9 => h9) rfl dX4_counted_145 ?_
    subst hQ
    exact ret_rdi hx hb hr rfl hlocks (show ω 19 0 = ctF σ ω nc nw 8 from rfl) dX4_counted_148
  · skip
    refine lv_tableIn (tgt := 149) hx hb dX4_counted_1 (by decide) (by decide) (by rfl) (by decide) ?_
    refine lv_aload_n hx hb dX4_counted_149 rfl (lv_at hl 0 rfl) ?_
    refine va_get (D := D) (ci := 4) (v := .ref (b 1)) (C := RX4) (T := TX4) (N := 3) hx hb hts hiX4 hown hK.1 hP 0 rfl rfl 2 (by decide) (hts (.fieldLink RX4 22 "IceLanes" "wagers" "LIceLanes$Wagers;") (by decide +kernel)) (fun _ h9 => h9) rfl dX4_counted_150 ?_
    refine rd_i (va_runVN (As := []) (rest := []) ⟨hx, hb, hml, hown, hts⟩ (M_X3_allStakes l D cI b ω nw (by first | assumption | omega) (by first | assumption | omega)) ⟨va_cnB 0 hts gX4_counted_X3_allStakes_n242 rfl rfl rfl (nX4_242 hN) (hts (.initialized RX3) (by decide +kernel)) (by decide +kernel) ⟨Nat.le_of_ble_eq_true rfl, Nat.le_of_ble_eq_true rfl⟩, hts (.instanceMethod yX3_allStakes) (by decide +kernel), hts (.selects RX3 yX3_allStakes yX3_allStakes) (by decide +kernel)⟩ (rdV hK hP [1, 2, 3] [0] rfl rfl (ci := 3) (q0 := 1) rfl rfl) rfl rfl hl.1 rfl (lv_room (Nat.le_of_ble_eq_true rfl)) dX4_counted_153 ⟨Nat.zero_le _, Nat.zero_le _⟩) ?_
    subst hQ
    exact ret_rdi hx hb hr rfl hlocks (show sumF ((ω 15)) nw = ctF σ ω nc nw 9 from rfl) dX4_counted_156
  · skip
    refine lv_tableOut (tgt := 157) hx hb dX4_counted_1 (by decide) (by decide) ?_
    refine lv_aload_n hx hb dX4_counted_157 rfl (lv_at hl 0 rfl) ?_
    refine va_get (D := D) (ci := 4) (v := .ref (a 0)) (C := RX4) (T := TX4) (N := 3) hx hb hts hiX4 hown hK.1 hP 0 rfl rfl 0 (by decide) (hts (.fieldLink RX4 12 "IceLanes" "river" "LIceLanes$River;") (by decide +kernel)) (fun _ h9 => h9) rfl dX4_counted_158 ?_
    refine va_getN (D := D) (ci := 2) (v := .int (σ 16 0)) (C := RX2) (T := TX2) (N := 6) hx hb hts hiX2 hown hK.1 hP 4 rfl rfl 1 (by decide) (va_Nw.use rfl (nX4_203 hN)) (fun _ h9 => h9) rfl dX4_counted_161 ?_
    subst hQ
    exact ret_rdi hx hb hr rfl hlocks (show σ 16 0 = ctF σ ω nc nw 10 from rfl) dX4_counted_164
set_option maxHeartbeats 4000000 in
set_option maxRecDepth 100000 in
theorem M_X4_mixedWithRiver (l : Launch) (D : va_G) (cI : ClassId) (b : Nat → Nat) (a : Nat → Nat) (a2 : Nat → Nat) (σ : St) (σ2 : St) (ω : St) (dd : Int64) : Met l yX4_mixedWithRiver wsX4_mixedWithRiver ({ frames := 1, cells := 0, slots := 0, locals := 22 } : Room) (rdPc [.ref (b 0), .long dd] D (wLan b a a2 cI σ σ2 ω) [(cI, .int)]) (rdQl (dgV σ dd)) 0 0 (fun _ => False) := by
  refine Met.ofW (cc := cX4_mixedWithRiver) (maxL := 6) (ret := (some .long)) (by decide) rfl ?_
  intro p e s m args below meth c s₁ B hml hv
  obtain ⟨hargs, hP, hK⟩ := hv
  have hx := B.exec
  have hb := B.bytes
  have hr := B.returns
  have hts := atoms_spec (ws := wsX4_mixedWithRiver) B.pre
  have hown : s.vm.findClass RX4 = some m.cls := findClass_of_methodNamed B.named
  have hlocks := B.notSynchronized
  obtain ⟨_, hN⟩ := id hK
  have hiX1 : ∀ w ∈ wsX10, w ∈ wsX4_mixedWithRiver := by decide +kernel
  have hiX2 : ∀ w ∈ wsX20, w ∈ wsX4_mixedWithRiver := by decide +kernel
  have hiX4 : ∀ w ∈ wsX40, w ∈ wsX4_mixedWithRiver := by decide +kernel
  refine my_abs (fun Q hQ => ?_)
  obtain ⟨ls, hl, hent⟩ := my_entry (m := m) (n := 6) hargs (Nat.le_of_ble_eq_true rfl)
  rw [hent]
  have hl : lv_has ls 6 [(0, .ref (b 0)), (1, .long dd)] := hl
  show W p l e ({ frames := 1, cells := 0, slots := 0, locals := 22 } : Room) s m args below meth c s.heap [] 0 0 Q (F0 m 0 ls [])
  refine lv_lload_n hx hb dX4_mixedWithRiver_0 rfl (lv_at hl 1 rfl) ?_
  refine lv_lstore_n (lv' := [(3, .long dd), (0, .ref (b 0)), (1, .long dd)]) hx hb dX4_mixedWithRiver_1 rfl hl (by decide) rfl (fun ls hl => ?_)
  refine lv_iconst (v := 0) hx hb dX4_mixedWithRiver_2 (by decide) ?_
  refine lv_istore (lv' := [(5, .int 0), (3, .long dd), (0, .ref (b 0)), (1, .long dd)]) hx hb dX4_mixedWithRiver_3 hl (by decide) rfl (fun ls hl => ?_)
  have loop5 : ∀ (n : Nat) (k2 : Nat), 14 - k2 < n → k2 ≤ 14 → ∀ (ls : Array Slot), lv_has ls 6 [(0, .ref (b 0)), (3, .long (fdF (σ 1) dd k2)), (5, .int (nI k2))] → W p l e ({ frames := 1, cells := 0, slots := 0, locals := 22 } : Room) s m args below meth c s.heap [] 0 0 Q (F0 m 5 ls []) := by
    intro n
    induction n with
    | zero => intro k2  hf; exact absurd hf (Nat.not_lt_zero _)
    | succ n ih5 =>
      intro k2  hf hk2 ls hl
      refine lv_iload hx hb dX4_mixedWithRiver_5 (lv_at hl 2 rfl) ?_
      refine lv_bipush (v := 14) hx hb dX4_mixedWithRiver_7 (by decide) ?_
      refine lv_icmp_ge (tgt := 33) hx hb dX4_mixedWithRiver_9 (by decide) (fun c_1 => ?_) (fun c_1 => ?_)
      · skip
        have hk2 : 14 ≤ k2 := lp_ge (N := 14) (k := k2) c_1 (by omega) (by omega)
        refine lv_iconst (v := 0) hx hb dX4_mixedWithRiver_33 (by decide) ?_
        refine lv_istore (lv' := [(5, .int 0), (0, .ref (b 0)), (3, .long (fdF (σ 1) dd k2))]) hx hb dX4_mixedWithRiver_34 hl (by decide) rfl (fun ls hl => ?_)
        have hl : lv_has ls 6 [(5, .int 0), (0, .ref (b 0)), (3, .long (fdF (σ 1) dd 14))] := by rw [show fdF (σ 1) dd 14 = fdF (σ 1) dd k2 from (by rw [show k2 = 14 by omega])]; exact hl
        have loop36 : ∀ (n : Nat) (k3 : Nat), 36 - k3 < n → k3 ≤ 36 → ∀ (ls : Array Slot), lv_has ls 6 [(0, .ref (b 0)), (3, .long (fd2 (σ 3) (σ 4) (fdF (σ 1) dd 14) k3)), (5, .int (nI k3))] → W p l e ({ frames := 1, cells := 0, slots := 0, locals := 22 } : Room) s m args below meth c s.heap [] 0 0 Q (F0 m 36 ls []) := by
          intro n
          induction n with
          | zero => intro k3  hf; exact absurd hf (Nat.not_lt_zero _)
          | succ n ih36 =>
            intro k3  hf hk3 ls hl
            refine lv_iload hx hb dX4_mixedWithRiver_36 (lv_at hl 2 rfl) ?_
            refine lv_bipush (v := 36) hx hb dX4_mixedWithRiver_38 (by decide) ?_
            refine lv_icmp_ge (tgt := 85) hx hb dX4_mixedWithRiver_40 (by decide) (fun c_2 => ?_) (fun c_2 => ?_)
            · skip
              have hk2 : 36 ≤ k3 := lp_ge (N := 36) (k := k3) c_2 (by omega) (by omega)
              refine lv_iconst (v := 0) hx hb dX4_mixedWithRiver_85 (by decide) ?_
              refine lv_istore (lv' := [(5, .int 0), (0, .ref (b 0)), (3, .long (fd2 (σ 3) (σ 4) (fdF (σ 1) dd 14) k3))]) hx hb dX4_mixedWithRiver_86 hl (by decide) rfl (fun ls hl => ?_)
              have hl : lv_has ls 6 [(5, .int 0), (0, .ref (b 0)), (3, .long (fd2 (σ 3) (σ 4) (fdF (σ 1) dd 14) 36))] := by rw [show fd2 (σ 3) (σ 4) (fdF (σ 1) dd 14) 36 = fd2 (σ 3) (σ 4) (fdF (σ 1) dd 14) k3 from (by rw [show k3 = 36 by omega])]; exact hl
              have loop88 : ∀ (n : Nat) (k4 : Nat), 12 - k4 < n → k4 ≤ 12 → ∀ (ls : Array Slot), lv_has ls 6 [(0, .ref (b 0)), (3, .long (fdF (σ 2) (fd2 (σ 3) (σ 4) (fdF (σ 1) dd 14) 36) k4)), (5, .int (nI k4))] → W p l e ({ frames := 1, cells := 0, slots := 0, locals := 22 } : Room) s m args below meth c s.heap [] 0 0 Q (F0 m 88 ls []) := by
                intro n
                induction n with
                | zero => intro k4  hf; exact absurd hf (Nat.not_lt_zero _)
                | succ n ih88 =>
                  intro k4  hf hk4 ls hl
                  refine lv_iload hx hb dX4_mixedWithRiver_88 (lv_at hl 2 rfl) ?_
                  refine lv_bipush (v := 12) hx hb dX4_mixedWithRiver_90 (by decide) ?_
                  refine lv_icmp_ge (tgt := 116) hx hb dX4_mixedWithRiver_92 (by decide) (fun c_3 => ?_) (fun c_3 => ?_)
                  · skip
                    have hk2 : 12 ≤ k4 := lp_ge (N := 12) (k := k4) c_3 (by omega) (by omega)
                    refine lv_lload_n hx hb dX4_mixedWithRiver_116 rfl (lv_at hl 1 rfl) ?_
                    subst hQ
                    exact ret_rdl hx hb hr hlocks (show fdF (σ 2) (fd2 (σ 3) (σ 4) (fdF (σ 1) dd 14) 36) k4 = dgV σ dd from (by unfold dgV; rw [show k4 = 12 by omega])) dX4_mixedWithRiver_117
                  · skip
                    have hk2 : k4 < 12 := lp_nge (N := 12) (k := k4) c_3 (by omega) (by omega)
                    refine lv_lload_n hx hb dX4_mixedWithRiver_95 rfl (lv_at hl 1 rfl) ?_
                    refine lv_aload_n hx hb dX4_mixedWithRiver_96 rfl (lv_at hl 0 rfl) ?_
                    refine va_get (D := D) (ci := 4) (v := .ref (a 0)) (C := RX4) (T := TX4) (N := 3) hx hb hts hiX4 hown hK.1 hP 0 rfl rfl 0 (by decide) (hts (.fieldLink RX4 12 "IceLanes" "river" "LIceLanes$River;") (by decide +kernel)) (fun _ h9 => h9) rfl dX4_mixedWithRiver_97 ?_
                    refine va_getN (D := D) (ci := 2) (v := .ref (a 2)) (C := RX2) (T := TX2) (N := 6) hx hb hts hiX2 hown hK.1 hP 4 rfl rfl 3 (by decide) (va_Nw.use rfl (nX4_73 hN)) (fun _ h9 => h9) rfl dX4_mixedWithRiver_100 ?_
                    refine lv_iload hx hb dX4_mixedWithRiver_103 (lv_at hl 2 rfl) ?_
                    refine va_iald hx hb hK.1 hP 6 0 rfl rfl (by first | assumption | exact vp_in_nI (by omega) (by decide)) dX4_mixedWithRiver_105 ?_
                    rw [nI_clamp (n := k4) (by omega)]
                    refine rd_l (va_runS (As := [.long (fdF (σ 2) (fd2 (σ 3) (σ 4) (fdF (σ 1) dd 14) 36) k4), .int (σ 2 k4)]) (rest := []) ⟨hx, hb, hml, hown, hts⟩ (M_X4_mixed l D cI (fdF (σ 2) (fd2 (σ 3) (σ 4) (fdF (σ 1) dd 14) 36) k4) (σ 2 k4) ) (va_cwS 2 hts gX4_mixedWithRiver_X4_mixed rfl rfl rfl (by decide +kernel) ⟨Nat.le_of_ble_eq_true rfl, Nat.le_of_ble_eq_true rfl⟩) (rdS hK hP [] [0] rfl rfl) rfl rfl hl.1 rfl (lv_room (Nat.le_of_ble_eq_true rfl)) dX4_mixedWithRiver_106 ⟨Nat.zero_le _, Nat.zero_le _⟩) ?_
                    refine lv_lstore_n (lv' := [(3, .long (mxd (fdF (σ 2) (fd2 (σ 3) (σ 4) (fdF (σ 1) dd 14) 36) k4) (σ 2 k4))), (0, .ref (b 0)), (5, .int (nI k4))]) hx hb dX4_mixedWithRiver_109 rfl hl (by decide) rfl (fun ls hl => ?_)
                    refine lv_iinc (v := nI (k4 + 1)) (lv' := [(5, .int (nI (k4 + 1))), (3, .long (mxd (fdF (σ 2) (fd2 (σ 3) (σ 4) (fdF (σ 1) dd 14) 36) k4) (σ 2 k4))), (0, .ref (b 0))]) hx hb dX4_mixedWithRiver_110 hl (k := 2) rfl (nI_1 k4) (by decide) rfl (fun ls hl => ?_)
                    refine lv_goto (tgt := 88) hx hb dX4_mixedWithRiver_113 (by decide) ?_
                    exact ih88 (k4 + 1) (by omega) (by omega) ls (lv_sub hl [2, 1, 0] rfl)
              exact loop88 (12 + 1) 0 (by omega) (by omega) ls (lv_sub hl [1, 2, 0] rfl)
            · skip
              have hk2 : k3 < 36 := lp_nge (N := 36) (k := k3) c_2 (by omega) (by omega)
              refine lv_lload_n hx hb dX4_mixedWithRiver_43 rfl (lv_at hl 1 rfl) ?_
              refine lv_aload_n hx hb dX4_mixedWithRiver_44 rfl (lv_at hl 0 rfl) ?_
              refine va_get (D := D) (ci := 4) (v := .ref (a 0)) (C := RX4) (T := TX4) (N := 3) hx hb hts hiX4 hown hK.1 hP 0 rfl rfl 0 (by decide) (hts (.fieldLink RX4 12 "IceLanes" "river" "LIceLanes$River;") (by decide +kernel)) (fun _ h9 => h9) rfl dX4_mixedWithRiver_45 ?_
              refine va_getN (D := D) (ci := 2) (v := .ref (a 3)) (C := RX2) (T := TX2) (N := 6) hx hb hts hiX2 hown hK.1 hP 4 rfl rfl 4 (by decide) (va_Nw.use rfl (nX4_58 hN)) (fun _ h9 => h9) rfl dX4_mixedWithRiver_48 ?_
              refine va_getN (D := D) (ci := 1) (v := .ref (a 4)) (C := RX1) (T := TX1) (N := 2) hx hb hts hiX1 hown hK.1 hP 7 rfl rfl 0 (by decide) (va_Nw.use rfl (nX4_62 hN)) (fun _ h9 => h9) rfl dX4_mixedWithRiver_51 ?_
              refine lv_iload hx hb dX4_mixedWithRiver_54 (lv_at hl 2 rfl) ?_
              refine va_iald hx hb hK.1 hP 8 0 rfl rfl (by first | assumption | exact vp_in_nI (by omega) (by decide)) dX4_mixedWithRiver_56 ?_
              rw [nI_clamp (n := k3) (by omega)]
              refine rd_l (va_runS (As := [.long (fd2 (σ 3) (σ 4) (fdF (σ 1) dd 14) k3), .int (σ 3 k3)]) (rest := []) ⟨hx, hb, hml, hown, hts⟩ (M_X4_mixed l D cI (fd2 (σ 3) (σ 4) (fdF (σ 1) dd 14) k3) (σ 3 k3) ) (va_cwS 2 hts gX4_mixedWithRiver_X4_mixed rfl rfl rfl (by decide +kernel) ⟨Nat.le_of_ble_eq_true rfl, Nat.le_of_ble_eq_true rfl⟩) (rdS hK hP [] [0] rfl rfl) rfl rfl hl.1 rfl (lv_room (Nat.le_of_ble_eq_true rfl)) dX4_mixedWithRiver_57 ⟨Nat.zero_le _, Nat.zero_le _⟩) ?_
              refine lv_lstore_n (lv' := [(3, .long (mxd (fd2 (σ 3) (σ 4) (fdF (σ 1) dd 14) k3) (σ 3 k3))), (0, .ref (b 0)), (5, .int (nI k3))]) hx hb dX4_mixedWithRiver_60 rfl hl (by decide) rfl (fun ls hl => ?_)
              refine lv_lload_n hx hb dX4_mixedWithRiver_61 rfl (lv_at hl 0 rfl) ?_
              refine lv_aload_n hx hb dX4_mixedWithRiver_62 rfl (lv_at hl 1 rfl) ?_
              refine va_get (D := D) (ci := 4) (v := .ref (a 0)) (C := RX4) (T := TX4) (N := 3) hx hb hts hiX4 hown hK.1 hP 0 rfl rfl 0 (by decide) (hts (.fieldLink RX4 12 "IceLanes" "river" "LIceLanes$River;") (by decide +kernel)) (fun _ h9 => h9) rfl dX4_mixedWithRiver_63 ?_
              refine va_getN (D := D) (ci := 2) (v := .ref (a 3)) (C := RX2) (T := TX2) (N := 6) hx hb hts hiX2 hown hK.1 hP 4 rfl rfl 4 (by decide) (va_Nw.use rfl (nX4_58 hN)) (fun _ h9 => h9) rfl dX4_mixedWithRiver_66 ?_
              refine va_getN (D := D) (ci := 1) (v := .ref (a 5)) (C := RX1) (T := TX1) (N := 2) hx hb hts hiX1 hown hK.1 hP 7 rfl rfl 1 (by decide) (va_Nw.use rfl (nX4_82 hN)) (fun _ h9 => h9) rfl dX4_mixedWithRiver_69 ?_
              refine lv_iload hx hb dX4_mixedWithRiver_72 (lv_at hl 2 rfl) ?_
              refine va_iald hx hb hK.1 hP 9 0 rfl rfl (by first | assumption | exact vp_in_nI (by omega) (by decide)) dX4_mixedWithRiver_74 ?_
              rw [nI_clamp (n := k3) (by omega)]
              refine rd_l (va_runS (As := [.long (mxd (fd2 (σ 3) (σ 4) (fdF (σ 1) dd 14) k3) (σ 3 k3)), .int (σ 4 k3)]) (rest := []) ⟨hx, hb, hml, hown, hts⟩ (M_X4_mixed l D cI (mxd (fd2 (σ 3) (σ 4) (fdF (σ 1) dd 14) k3) (σ 3 k3)) (σ 4 k3) ) (va_cwS 2 hts gX4_mixedWithRiver_X4_mixed rfl rfl rfl (by decide +kernel) ⟨Nat.le_of_ble_eq_true rfl, Nat.le_of_ble_eq_true rfl⟩) (rdS hK hP [] [0] rfl rfl) rfl rfl hl.1 rfl (lv_room (Nat.le_of_ble_eq_true rfl)) dX4_mixedWithRiver_75 ⟨Nat.zero_le _, Nat.zero_le _⟩) ?_
              refine lv_lstore_n (lv' := [(3, .long (mxd (mxd (fd2 (σ 3) (σ 4) (fdF (σ 1) dd 14) k3) (σ 3 k3)) (σ 4 k3))), (0, .ref (b 0)), (5, .int (nI k3))]) hx hb dX4_mixedWithRiver_78 rfl hl (by decide) rfl (fun ls hl => ?_)
              refine lv_iinc (v := nI (k3 + 1)) (lv' := [(5, .int (nI (k3 + 1))), (3, .long (mxd (mxd (fd2 (σ 3) (σ 4) (fdF (σ 1) dd 14) k3) (σ 3 k3)) (σ 4 k3))), (0, .ref (b 0))]) hx hb dX4_mixedWithRiver_79 hl (k := 2) rfl (nI_1 k3) (by decide) rfl (fun ls hl => ?_)
              refine lv_goto (tgt := 36) hx hb dX4_mixedWithRiver_82 (by decide) ?_
              exact ih36 (k3 + 1) (by omega) (by omega) ls (lv_sub hl [2, 1, 0] rfl)
        exact loop36 (36 + 1) 0 (by omega) (by omega) ls (lv_sub hl [1, 2, 0] rfl)
      · skip
        have hk2 : k2 < 14 := lp_nge (N := 14) (k := k2) c_1 (by omega) (by omega)
        refine lv_lload_n hx hb dX4_mixedWithRiver_12 rfl (lv_at hl 1 rfl) ?_
        refine lv_aload_n hx hb dX4_mixedWithRiver_13 rfl (lv_at hl 0 rfl) ?_
        refine va_get (D := D) (ci := 4) (v := .ref (a 0)) (C := RX4) (T := TX4) (N := 3) hx hb hts hiX4 hown hK.1 hP 0 rfl rfl 0 (by decide) (hts (.fieldLink RX4 12 "IceLanes" "river" "LIceLanes$River;") (by decide +kernel)) (fun _ h9 => h9) rfl dX4_mixedWithRiver_14 ?_
        refine va_getN (D := D) (ci := 2) (v := .ref (a 1)) (C := RX2) (T := TX2) (N := 6) hx hb hts hiX2 hown hK.1 hP 4 rfl rfl 2 (by decide) (va_Nw.use rfl (nX4_42 hN)) (fun _ h9 => h9) rfl dX4_mixedWithRiver_17 ?_
        refine lv_iload hx hb dX4_mixedWithRiver_20 (lv_at hl 2 rfl) ?_
        refine va_iald hx hb hK.1 hP 5 0 rfl rfl (by first | assumption | exact vp_in_nI (by omega) (by decide)) dX4_mixedWithRiver_22 ?_
        rw [nI_clamp (n := k2) (by omega)]
        refine rd_l (va_runS (As := [.long (fdF (σ 1) dd k2), .int (σ 1 k2)]) (rest := []) ⟨hx, hb, hml, hown, hts⟩ (M_X4_mixed l D cI (fdF (σ 1) dd k2) (σ 1 k2) ) (va_cwS 2 hts gX4_mixedWithRiver_X4_mixed rfl rfl rfl (by decide +kernel) ⟨Nat.le_of_ble_eq_true rfl, Nat.le_of_ble_eq_true rfl⟩) (rdS hK hP [] [0] rfl rfl) rfl rfl hl.1 rfl (lv_room (Nat.le_of_ble_eq_true rfl)) dX4_mixedWithRiver_23 ⟨Nat.zero_le _, Nat.zero_le _⟩) ?_
        refine lv_lstore_n (lv' := [(3, .long (mxd (fdF (σ 1) dd k2) (σ 1 k2))), (0, .ref (b 0)), (5, .int (nI k2))]) hx hb dX4_mixedWithRiver_26 rfl hl (by decide) rfl (fun ls hl => ?_)
        refine lv_iinc (v := nI (k2 + 1)) (lv' := [(5, .int (nI (k2 + 1))), (3, .long (mxd (fdF (σ 1) dd k2) (σ 1 k2))), (0, .ref (b 0))]) hx hb dX4_mixedWithRiver_27 hl (k := 2) rfl (nI_1 k2) (by decide) rfl (fun ls hl => ?_)
        refine lv_goto (tgt := 5) hx hb dX4_mixedWithRiver_30 (by decide) ?_
        exact ih5 (k2 + 1) (by omega) (by omega) ls (lv_sub hl [2, 1, 0] rfl)
  exact loop5 (14 + 1) 0 (by omega) (by omega) ls (lv_sub hl [2, 1, 0] rfl)
set_option maxHeartbeats 4000000 in
set_option maxRecDepth 100000 in
theorem M_X4_mixedWithCouriers (l : Launch) (D : va_G) (cI : ClassId) (b : Nat → Nat) (a : Nat → Nat) (a2 : Nat → Nat) (σ : St) (σ2 : St) (ω : St) (dd : Int64) (nc : Nat) (hnc : σ 17 0 = nI nc) (hn8 : nc ≤ 8) : Met l yX4_mixedWithCouriers wsX4_mixedWithCouriers ({ frames := 1, cells := 0, slots := 0, locals := 22 } : Room) (rdPc [.ref (b 0), .long dd] D (wLan b a a2 cI σ σ2 ω) [(cI, .int)]) (rdQl (fdC σ dd nc)) 0 0 (fun _ => False) := by
  refine Met.ofW (cc := cX4_mixedWithCouriers) (maxL := 7) (ret := (some .long)) (by decide) rfl ?_
  intro p e s m args below meth c s₁ B hml hv
  obtain ⟨hargs, hP, hK⟩ := hv
  have hx := B.exec
  have hb := B.bytes
  have hr := B.returns
  have hts := atoms_spec (ws := wsX4_mixedWithCouriers) B.pre
  have hown : s.vm.findClass RX4 = some m.cls := findClass_of_methodNamed B.named
  have hlocks := B.notSynchronized
  obtain ⟨_, hN⟩ := id hK
  have hiX0 : ∀ w ∈ wsX00, w ∈ wsX4_mixedWithCouriers := by decide +kernel
  have hiX2 : ∀ w ∈ wsX20, w ∈ wsX4_mixedWithCouriers := by decide +kernel
  have hiX4 : ∀ w ∈ wsX40, w ∈ wsX4_mixedWithCouriers := by decide +kernel
  refine my_abs (fun Q hQ => ?_)
  obtain ⟨ls, hl, hent⟩ := my_entry (m := m) (n := 7) hargs (Nat.le_of_ble_eq_true rfl)
  rw [hent]
  have hl : lv_has ls 7 [(0, .ref (b 0)), (1, .long dd)] := hl
  show W p l e ({ frames := 1, cells := 0, slots := 0, locals := 22 } : Room) s m args below meth c s.heap [] 0 0 Q (F0 m 0 ls [])
  refine lv_lload_n hx hb dX4_mixedWithCouriers_0 rfl (lv_at hl 1 rfl) ?_
  refine lv_lstore_n (lv' := [(3, .long dd), (0, .ref (b 0)), (1, .long dd)]) hx hb dX4_mixedWithCouriers_1 rfl hl (by decide) rfl (fun ls hl => ?_)
  refine lv_iconst (v := 0) hx hb dX4_mixedWithCouriers_2 (by decide) ?_
  refine lv_istore (lv' := [(5, .int 0), (3, .long dd), (0, .ref (b 0)), (1, .long dd)]) hx hb dX4_mixedWithCouriers_3 hl (by decide) rfl (fun ls hl => ?_)
  have loop5 : ∀ (n : Nat) (k5 : Nat), nc - k5 < n → k5 ≤ nc → ∀ (ls : Array Slot), lv_has ls 7 [(0, .ref (b 0)), (3, .long (fdC σ dd k5)), (5, .int (nI k5))] → W p l e ({ frames := 1, cells := 0, slots := 0, locals := 22 } : Room) s m args below meth c s.heap [] 0 0 Q (F0 m 5 ls []) := by
    intro n
    induction n with
    | zero => intro k5  hf; exact absurd hf (Nat.not_lt_zero _)
    | succ n ih5 =>
      intro k5  hf hk5 ls hl
      refine lv_iload hx hb dX4_mixedWithCouriers_5 (lv_at hl 2 rfl) ?_
      refine lv_aload_n hx hb dX4_mixedWithCouriers_7 rfl (lv_at hl 0 rfl) ?_
      refine va_get (D := D) (ci := 4) (v := .ref (a 0)) (C := RX4) (T := TX4) (N := 3) hx hb hts hiX4 hown hK.1 hP 0 rfl rfl 0 (by decide) (hts (.fieldLink RX4 12 "IceLanes" "river" "LIceLanes$River;") (by decide +kernel)) (fun _ h9 => h9) rfl dX4_mixedWithCouriers_8 ?_
      refine va_getN (D := D) (ci := 2) (v := .ref (a 6)) (C := RX2) (T := TX2) (N := 6) hx hb hts hiX2 hown hK.1 hP 4 rfl rfl 5 (by decide) (va_Nw.use rfl (nX4_88 hN)) (fun _ h9 => h9) rfl dX4_mixedWithCouriers_11 ?_
      refine va_getN (D := D) (ci := 0) (v := .int (σ 17 0)) (C := RX0) (T := TX0) (N := 10) hx hb hts hiX0 hown hK.1 hP 10 rfl rfl 0 (by decide) (va_Nw.use rfl (nX4_99 hN)) (fun _ h9 => h9) rfl dX4_mixedWithCouriers_14 ?_
      refine lv_icmp_ge (tgt := 61) hx hb dX4_mixedWithCouriers_17 (by decide) (fun c_1 => ?_) (fun c_1 => ?_)
      · skip
        rw [hnc] at c_1
        have hk2 : nc ≤ k5 := lp_ge (N := nc) (k := k5) c_1 (by omega) (by omega)
        refine lv_lload_n hx hb dX4_mixedWithCouriers_61 rfl (lv_at hl 1 rfl) ?_
        subst hQ
        exact ret_rdl hx hb hr hlocks (show fdC σ dd k5 = fdC σ dd nc from (by rw [show k5 = nc by omega])) dX4_mixedWithCouriers_62
      · skip
        rw [hnc] at c_1
        have hk2 : k5 < nc := lp_nge (N := nc) (k := k5) c_1 (by omega) (by omega)
        refine lv_iconst (v := 0) hx hb dX4_mixedWithCouriers_20 (by decide) ?_
        refine lv_istore (lv' := [(6, .int 0), (0, .ref (b 0)), (3, .long (fdC σ dd k5)), (5, .int (nI k5))]) hx hb dX4_mixedWithCouriers_21 hl (by decide) rfl (fun ls hl => ?_)
        have loop23 : ∀ (n : Nat) (k6 : Nat), 9 - k6 < n → k6 ≤ 9 → ∀ (ls : Array Slot), lv_has ls 7 [(0, .ref (b 0)), (3, .long (fdF (fun w => tellF σ k5 w) (fdC σ dd k5) k6)), (5, .int (nI k5)), (6, .int (nI k6))] → W p l e ({ frames := 1, cells := 0, slots := 0, locals := 22 } : Room) s m args below meth c s.heap [] 0 0 Q (F0 m 23 ls []) := by
          intro n
          induction n with
          | zero => intro k6  hf; exact absurd hf (Nat.not_lt_zero _)
          | succ n ih23 =>
            intro k6  hf hk6 ls hl
            refine lv_iload hx hb dX4_mixedWithCouriers_23 (lv_at hl 3 rfl) ?_
            refine lv_bipush (v := 8) hx hb dX4_mixedWithCouriers_25 (by decide) ?_
            refine lv_icmp_gt (tgt := 55) hx hb dX4_mixedWithCouriers_27 (by decide) (fun c_2 => ?_) (fun c_2 => ?_)
            · skip
              have hk2 : 8 < k6 := lp_gt (N := 8) (k := k6) c_2 (by omega) (by omega)
              have hl : lv_has ls 7 [(0, .ref (b 0)), (3, .long (fdC σ dd (k5 + 1))), (5, .int (nI k5)), (6, .int (nI k6))] := by rw [show fdC σ dd (k5 + 1) = fdF (fun w => tellF σ k5 w) (fdC σ dd k5) k6 from (by show fdF _ _ 9 = _; rw [show k6 = 9 by omega])]; exact hl
              refine lv_iinc (v := nI (k5 + 1)) (lv' := [(5, .int (nI (k5 + 1))), (0, .ref (b 0)), (3, .long (fdC σ dd (k5 + 1))), (6, .int (nI k6))]) hx hb dX4_mixedWithCouriers_55 hl (k := 2) rfl (nI_1 k5) (by decide) rfl (fun ls hl => ?_)
              refine lv_goto (tgt := 5) hx hb dX4_mixedWithCouriers_58 (by decide) ?_
              exact ih5 (k5 + 1) (by omega) (by omega) ls (lv_sub hl [1, 2, 0] rfl)
            · skip
              have hk2 : k6 ≤ 8 := lp_ngt (N := 8) (k := k6) c_2 (by omega) (by omega)
              refine lv_lload_n hx hb dX4_mixedWithCouriers_30 rfl (lv_at hl 1 rfl) ?_
              refine lv_aload_n hx hb dX4_mixedWithCouriers_31 rfl (lv_at hl 0 rfl) ?_
              refine va_get (D := D) (ci := 4) (v := .ref (a 0)) (C := RX4) (T := TX4) (N := 3) hx hb hts hiX4 hown hK.1 hP 0 rfl rfl 0 (by decide) (hts (.fieldLink RX4 12 "IceLanes" "river" "LIceLanes$River;") (by decide +kernel)) (fun _ h9 => h9) rfl dX4_mixedWithCouriers_32 ?_
              refine va_getN (D := D) (ci := 2) (v := .ref (a 6)) (C := RX2) (T := TX2) (N := 6) hx hb hts hiX2 hown hK.1 hP 4 rfl rfl 5 (by decide) (va_Nw.use rfl (nX4_88 hN)) (fun _ h9 => h9) rfl dX4_mixedWithCouriers_35 ?_
              refine lv_iload hx hb dX4_mixedWithCouriers_38 (lv_at hl 2 rfl) ?_
              refine lv_iload hx hb dX4_mixedWithCouriers_40 (lv_at hl 3 rfl) ?_
              refine rd_i (va_runVN (As := [.int (nI k5), .int (nI k6)]) (rest := [.long (fdF (fun w => tellF σ k5 w) (fdC σ dd k5) k6)]) ⟨hx, hb, hml, hown, hts⟩ (M_X0_tell l D cI a σ k5 k6 (by omega) (by omega)) ⟨va_cnB 2 hts gX4_mixedWithCouriers_X0_tell_n155 rfl rfl rfl (nX4_155 hN) (hts (.initialized RX0) (by decide +kernel)) (by decide +kernel) ⟨Nat.le_of_ble_eq_true rfl, Nat.le_of_ble_eq_true rfl⟩, hts (.instanceMethod yX0_tell) (by decide +kernel), hts (.selects RX0 yX0_tell yX0_tell) (by decide +kernel)⟩ (rdV hK hP [10, 11, 12, 13, 14, 15, 16, 17, 18, 19] [0] rfl rfl (ci := 0) (q0 := 10) rfl rfl) rfl rfl hl.1 rfl (lv_room (Nat.le_of_ble_eq_true rfl)) dX4_mixedWithCouriers_42 ⟨Nat.zero_le _, Nat.zero_le _⟩) ?_
              refine rd_l (va_runS (As := [.long (fdF (fun w => tellF σ k5 w) (fdC σ dd k5) k6), .int (tellF σ k5 k6)]) (rest := []) ⟨hx, hb, hml, hown, hts⟩ (M_X4_mixed l D cI (fdF (fun w => tellF σ k5 w) (fdC σ dd k5) k6) (tellF σ k5 k6) ) (va_cwS 2 hts gX4_mixedWithCouriers_X4_mixed rfl rfl rfl (by decide +kernel) ⟨Nat.le_of_ble_eq_true rfl, Nat.le_of_ble_eq_true rfl⟩) (rdS hK hP [] [0] rfl rfl) rfl rfl hl.1 rfl (lv_room (Nat.le_of_ble_eq_true rfl)) dX4_mixedWithCouriers_45 ⟨Nat.zero_le _, Nat.zero_le _⟩) ?_
              refine lv_lstore_n (lv' := [(3, .long (mxd (fdF (fun w => tellF σ k5 w) (fdC σ dd k5) k6) (tellF σ k5 k6))), (0, .ref (b 0)), (5, .int (nI k5)), (6, .int (nI k6))]) hx hb dX4_mixedWithCouriers_48 rfl hl (by decide) rfl (fun ls hl => ?_)
              refine lv_iinc (v := nI (k6 + 1)) (lv' := [(6, .int (nI (k6 + 1))), (3, .long (mxd (fdF (fun w => tellF σ k5 w) (fdC σ dd k5) k6) (tellF σ k5 k6))), (0, .ref (b 0)), (5, .int (nI k5))]) hx hb dX4_mixedWithCouriers_49 hl (k := 3) rfl (nI_1 k6) (by decide) rfl (fun ls hl => ?_)
              refine lv_goto (tgt := 23) hx hb dX4_mixedWithCouriers_52 (by decide) ?_
              exact ih23 (k6 + 1) (by omega) (by omega) ls (lv_sub hl [2, 1, 3, 0] rfl)
        exact loop23 10 0 (by omega) (by omega) ls (lv_sub hl [1, 2, 3, 0] rfl)
  exact loop5 (nc + 1) 0 (by omega) (by omega) ls (lv_sub hl [2, 1, 0] rfl)
set_option maxHeartbeats 4000000 in
set_option maxRecDepth 100000 in
theorem M_X4_mixedWithWagers (l : Launch) (D : va_G) (cI : ClassId) (b : Nat → Nat) (a : Nat → Nat) (a2 : Nat → Nat) (σ : St) (σ2 : St) (ω : St) (dd : Int64) (nw : Nat) (hnw : ω 19 0 = nI nw) (hw12 : nw ≤ 12) : Met l yX4_mixedWithWagers wsX4_mixedWithWagers ({ frames := 4, cells := 0, slots := 0, locals := 82 } : Room) (rdPc [.ref (b 0), .long dd] D (wLan b a a2 cI σ σ2 ω) [(cI, .int)]) (rdQl (fd3 (ω 14) (ω 15) (fun k => wonF σ ω nw k) dd nw)) 0 0 (fun _ => False) := by
  refine Met.ofW (cc := cX4_mixedWithWagers) (maxL := 6) (ret := (some .long)) (by decide) rfl ?_
  intro p e s m args below meth c s₁ B hml hv
  obtain ⟨hargs, hP, hK⟩ := hv
  have hx := B.exec
  have hb := B.bytes
  have hr := B.returns
  have hts := atoms_spec (ws := wsX4_mixedWithWagers) B.pre
  have hown : s.vm.findClass RX4 = some m.cls := findClass_of_methodNamed B.named
  have hlocks := B.notSynchronized
  obtain ⟨_, hN⟩ := id hK
  have hiX3 : ∀ w ∈ wsX30, w ∈ wsX4_mixedWithWagers := by decide +kernel
  have hiX4 : ∀ w ∈ wsX40, w ∈ wsX4_mixedWithWagers := by decide +kernel
  refine my_abs (fun Q hQ => ?_)
  obtain ⟨ls, hl, hent⟩ := my_entry (m := m) (n := 6) hargs (Nat.le_of_ble_eq_true rfl)
  rw [hent]
  have hl : lv_has ls 6 [(0, .ref (b 0)), (1, .long dd)] := hl
  show W p l e ({ frames := 4, cells := 0, slots := 0, locals := 82 } : Room) s m args below meth c s.heap [] 0 0 Q (F0 m 0 ls [])
  refine lv_lload_n hx hb dX4_mixedWithWagers_0 rfl (lv_at hl 1 rfl) ?_
  refine lv_lstore_n (lv' := [(3, .long dd), (0, .ref (b 0)), (1, .long dd)]) hx hb dX4_mixedWithWagers_1 rfl hl (by decide) rfl (fun ls hl => ?_)
  refine lv_iconst (v := 0) hx hb dX4_mixedWithWagers_2 (by decide) ?_
  refine lv_istore (lv' := [(5, .int 0), (3, .long dd), (0, .ref (b 0)), (1, .long dd)]) hx hb dX4_mixedWithWagers_3 hl (by decide) rfl (fun ls hl => ?_)
  have loop5 : ∀ (n : Nat) (k7 : Nat), nw - k7 < n → k7 ≤ nw → ∀ (ls : Array Slot), lv_has ls 6 [(0, .ref (b 0)), (3, .long (fd3 (ω 14) (ω 15) (fun k => wonF σ ω nw k) dd k7)), (5, .int (nI k7))] → W p l e ({ frames := 4, cells := 0, slots := 0, locals := 82 } : Room) s m args below meth c s.heap [] 0 0 Q (F0 m 5 ls []) := by
    intro n
    induction n with
    | zero => intro k7  hf; exact absurd hf (Nat.not_lt_zero _)
    | succ n ih5 =>
      intro k7  hf hk7 ls hl
      refine lv_iload hx hb dX4_mixedWithWagers_5 (lv_at hl 2 rfl) ?_
      refine lv_aload_n hx hb dX4_mixedWithWagers_7 rfl (lv_at hl 0 rfl) ?_
      refine va_get (D := D) (ci := 4) (v := .ref (b 1)) (C := RX4) (T := TX4) (N := 3) hx hb hts hiX4 hown hK.1 hP 0 rfl rfl 2 (by decide) (hts (.fieldLink RX4 22 "IceLanes" "wagers" "LIceLanes$Wagers;") (by decide +kernel)) (fun _ h9 => h9) rfl dX4_mixedWithWagers_8 ?_
      refine va_getN (D := D) (ci := 3) (v := .int (ω 19 0)) (C := RX3) (T := TX3) (N := 3) hx hb hts hiX3 hown hK.1 hP 1 rfl rfl 0 (by decide) (va_Nw.use rfl (nX4_160 hN)) (fun _ h9 => h9) rfl dX4_mixedWithWagers_11 ?_
      refine lv_icmp_ge (tgt := 64) hx hb dX4_mixedWithWagers_14 (by decide) (fun c_1 => ?_) (fun c_1 => ?_)
      · skip
        rw [hnw] at c_1
        have hk2 : nw ≤ k7 := lp_ge (N := nw) (k := k7) c_1 (by omega) (by omega)
        refine lv_lload_n hx hb dX4_mixedWithWagers_64 rfl (lv_at hl 1 rfl) ?_
        subst hQ
        exact ret_rdl hx hb hr hlocks (show fd3 (ω 14) (ω 15) (fun k => wonF σ ω nw k) dd k7 = fd3 (ω 14) (ω 15) (fun k => wonF σ ω nw k) dd nw from (by rw [show k7 = nw by omega])) dX4_mixedWithWagers_65
      · skip
        rw [hnw] at c_1
        have hk2 : k7 < nw := lp_nge (N := nw) (k := k7) c_1 (by omega) (by omega)
        refine lv_lload_n hx hb dX4_mixedWithWagers_17 rfl (lv_at hl 1 rfl) ?_
        refine lv_aload_n hx hb dX4_mixedWithWagers_18 rfl (lv_at hl 0 rfl) ?_
        refine va_get (D := D) (ci := 4) (v := .ref (b 1)) (C := RX4) (T := TX4) (N := 3) hx hb hts hiX4 hown hK.1 hP 0 rfl rfl 2 (by decide) (hts (.fieldLink RX4 22 "IceLanes" "wagers" "LIceLanes$Wagers;") (by decide +kernel)) (fun _ h9 => h9) rfl dX4_mixedWithWagers_19 ?_
        refine va_getN (D := D) (ci := 3) (v := .ref (b 2)) (C := RX3) (T := TX3) (N := 3) hx hb hts hiX3 hown hK.1 hP 1 rfl rfl 1 (by decide) (va_Nw.use rfl (nX4_248 hN)) (fun _ h9 => h9) rfl dX4_mixedWithWagers_22 ?_
        refine lv_iload hx hb dX4_mixedWithWagers_25 (lv_at hl 2 rfl) ?_
        refine va_iald hx hb hK.1 hP 2 0 rfl rfl (by first | assumption | exact vp_in_nI (by omega) (by decide)) dX4_mixedWithWagers_27 ?_
        rw [nI_clamp (n := k7) (by omega)]
        refine rd_l (va_runS (As := [.long (fd3 (ω 14) (ω 15) (fun k => wonF σ ω nw k) dd k7), .int (ω 14 k7)]) (rest := []) ⟨hx, hb, hml, hown, hts⟩ (M_X4_mixed l D cI (fd3 (ω 14) (ω 15) (fun k => wonF σ ω nw k) dd k7) (ω 14 k7) ) (va_cwS 2 hts gX4_mixedWithWagers_X4_mixed rfl rfl rfl (by decide +kernel) ⟨Nat.le_of_ble_eq_true rfl, Nat.le_of_ble_eq_true rfl⟩) (rdS hK hP [] [0] rfl rfl) rfl rfl hl.1 rfl (lv_room (Nat.le_of_ble_eq_true rfl)) dX4_mixedWithWagers_28 ⟨Nat.zero_le _, Nat.zero_le _⟩) ?_
        refine lv_lstore_n (lv' := [(3, .long (mxd (fd3 (ω 14) (ω 15) (fun k => wonF σ ω nw k) dd k7) (ω 14 k7))), (0, .ref (b 0)), (5, .int (nI k7))]) hx hb dX4_mixedWithWagers_31 rfl hl (by decide) rfl (fun ls hl => ?_)
        refine lv_lload_n hx hb dX4_mixedWithWagers_32 rfl (lv_at hl 0 rfl) ?_
        refine lv_aload_n hx hb dX4_mixedWithWagers_33 rfl (lv_at hl 1 rfl) ?_
        refine va_get (D := D) (ci := 4) (v := .ref (b 1)) (C := RX4) (T := TX4) (N := 3) hx hb hts hiX4 hown hK.1 hP 0 rfl rfl 2 (by decide) (hts (.fieldLink RX4 22 "IceLanes" "wagers" "LIceLanes$Wagers;") (by decide +kernel)) (fun _ h9 => h9) rfl dX4_mixedWithWagers_34 ?_
        refine va_getN (D := D) (ci := 3) (v := .ref (b 3)) (C := RX3) (T := TX3) (N := 3) hx hb hts hiX3 hown hK.1 hP 1 rfl rfl 2 (by decide) (va_Nw.use rfl (nX4_251 hN)) (fun _ h9 => h9) rfl dX4_mixedWithWagers_37 ?_
        refine lv_iload hx hb dX4_mixedWithWagers_40 (lv_at hl 2 rfl) ?_
        refine va_iald hx hb hK.1 hP 3 0 rfl rfl (by first | assumption | exact vp_in_nI (by omega) (by decide)) dX4_mixedWithWagers_42 ?_
        rw [nI_clamp (n := k7) (by omega)]
        refine rd_l (va_runS (As := [.long (mxd (fd3 (ω 14) (ω 15) (fun k => wonF σ ω nw k) dd k7) (ω 14 k7)), .int (ω 15 k7)]) (rest := []) ⟨hx, hb, hml, hown, hts⟩ (M_X4_mixed l D cI (mxd (fd3 (ω 14) (ω 15) (fun k => wonF σ ω nw k) dd k7) (ω 14 k7)) (ω 15 k7) ) (va_cwS 2 hts gX4_mixedWithWagers_X4_mixed rfl rfl rfl (by decide +kernel) ⟨Nat.le_of_ble_eq_true rfl, Nat.le_of_ble_eq_true rfl⟩) (rdS hK hP [] [0] rfl rfl) rfl rfl hl.1 rfl (lv_room (Nat.le_of_ble_eq_true rfl)) dX4_mixedWithWagers_43 ⟨Nat.zero_le _, Nat.zero_le _⟩) ?_
        refine lv_lstore_n (lv' := [(3, .long (mxd (mxd (fd3 (ω 14) (ω 15) (fun k => wonF σ ω nw k) dd k7) (ω 14 k7)) (ω 15 k7))), (0, .ref (b 0)), (5, .int (nI k7))]) hx hb dX4_mixedWithWagers_46 rfl hl (by decide) rfl (fun ls hl => ?_)
        refine lv_lload_n hx hb dX4_mixedWithWagers_47 rfl (lv_at hl 0 rfl) ?_
        refine lv_aload_n hx hb dX4_mixedWithWagers_48 rfl (lv_at hl 1 rfl) ?_
        refine lv_iload hx hb dX4_mixedWithWagers_49 (lv_at hl 2 rfl) ?_
        refine rd_i (va_runV (As := [.int (nI k7)]) (rest := [.long (mxd (mxd (fd3 (ω 14) (ω 15) (fun k => wonF σ ω nw k) dd k7) (ω 14 k7)) (ω 15 k7))]) ⟨hx, hb, hml, hown, hts⟩ (M_X4_winOf l D cI b a a2 σ σ2 ω k7 nw hnw hw12 (by omega)) (cwV 1 hts gX4_mixedWithWagers_X4_winOf rfl rfl rfl (by decide +kernel) ⟨Nat.le_of_ble_eq_true rfl, Nat.le_of_ble_eq_true rfl⟩) (rdV hK hP [0, 1, 2, 3, 4, 5, 6, 7, 8, 9, 10, 11, 12, 13, 14, 15, 16, 17, 18, 19, 20, 21, 22, 23, 24, 25, 26, 27, 28, 29, 30, 31, 32, 33, 34, 35] [0] rfl rfl (ci := 4) (q0 := 0) rfl rfl) rfl rfl hl.1 rfl (lv_room (Nat.le_of_ble_eq_true rfl)) dX4_mixedWithWagers_51 ⟨Nat.zero_le _, Nat.zero_le _⟩) ?_
        refine rd_l (va_runS (As := [.long (mxd (mxd (fd3 (ω 14) (ω 15) (fun k => wonF σ ω nw k) dd k7) (ω 14 k7)) (ω 15 k7)), .int (wonF σ ω nw k7)]) (rest := []) ⟨hx, hb, hml, hown, hts⟩ (M_X4_mixed l D cI (mxd (mxd (fd3 (ω 14) (ω 15) (fun k => wonF σ ω nw k) dd k7) (ω 14 k7)) (ω 15 k7)) (wonF σ ω nw k7) ) (va_cwS 2 hts gX4_mixedWithWagers_X4_mixed rfl rfl rfl (by decide +kernel) ⟨Nat.le_of_ble_eq_true rfl, Nat.le_of_ble_eq_true rfl⟩) (rdS hK hP [] [0] rfl rfl) rfl rfl hl.1 rfl (lv_room (Nat.le_of_ble_eq_true rfl)) dX4_mixedWithWagers_54 ⟨Nat.zero_le _, Nat.zero_le _⟩) ?_
        refine lv_lstore_n (lv' := [(3, .long (mxd (mxd (mxd (fd3 (ω 14) (ω 15) (fun k => wonF σ ω nw k) dd k7) (ω 14 k7)) (ω 15 k7)) (wonF σ ω nw k7))), (0, .ref (b 0)), (5, .int (nI k7))]) hx hb dX4_mixedWithWagers_57 rfl hl (by decide) rfl (fun ls hl => ?_)
        refine lv_iinc (v := nI (k7 + 1)) (lv' := [(5, .int (nI (k7 + 1))), (3, .long (mxd (mxd (mxd (fd3 (ω 14) (ω 15) (fun k => wonF σ ω nw k) dd k7) (ω 14 k7)) (ω 15 k7)) (wonF σ ω nw k7))), (0, .ref (b 0))]) hx hb dX4_mixedWithWagers_58 hl (k := 2) rfl (nI_1 k7) (by decide) rfl (fun ls hl => ?_)
        refine lv_goto (tgt := 5) hx hb dX4_mixedWithWagers_61 (by decide) ?_
        exact ih5 (k7 + 1) (by omega) (by omega) ls (lv_sub hl [2, 1, 0] rfl)
  exact loop5 (nw + 1) 0 (by omega) (by omega) ls (lv_sub hl [2, 1, 0] rfl)
set_option maxHeartbeats 4000000 in
set_option maxRecDepth 100000 in
theorem M_X4_digest (l : Launch) (D : va_G) (cI : ClassId) (b : Nat → Nat) (a : Nat → Nat) (a2 : Nat → Nat) (σ : St) (σ2 : St) (ω : St) (nc : Nat) (nw : Nat) (hnc : σ 17 0 = nI nc) (hn8 : nc ≤ 8) (he2 : σ 2 = ω 2) (hnw : ω 19 0 = nI nw) (hw12 : nw ≤ 12) : Met l yX4_digest wsX4_digest ({ frames := 5, cells := 0, slots := 0, locals := 107 } : Room) (rdPc [.ref (b 0)] D (wLan b a a2 cI σ σ2 ω) [(cI, .int)]) (rdQl (dgL σ ω nc nw)) 0 0 (fun _ => False) := by
  refine Met.ofW (cc := cX4_digest) (maxL := 4) (ret := (some .long)) (by decide) rfl ?_
  intro p e s m args below meth c s₁ B hml hv
  obtain ⟨hargs, hP, hK⟩ := hv
  have hx := B.exec
  have hb := B.bytes
  have hr := B.returns
  have hts := atoms_spec (ws := wsX4_digest) B.pre
  have hown : s.vm.findClass RX4 = some m.cls := findClass_of_methodNamed B.named
  have hlocks := B.notSynchronized
  obtain ⟨_, hN⟩ := id hK
  refine my_abs (fun Q hQ => ?_)
  obtain ⟨ls, hl, hent⟩ := my_entry (m := m) (n := 4) hargs (Nat.le_of_ble_eq_true rfl)
  rw [hent]
  have hl : lv_has ls 4 [(0, .ref (b 0))] := hl
  show W p l e ({ frames := 5, cells := 0, slots := 0, locals := 107 } : Room) s m args below meth c s.heap [] 0 0 Q (F0 m 0 ls [])
  refine lv_ldc2 (v := 757) hx hb hown (hts (.constantLong RX4 214 (757)) (by decide +kernel)) dX4_digest_0 ?_
  refine lv_lstore_n (lv' := [(1, .long 757), (0, .ref (b 0))]) hx hb dX4_digest_3 rfl hl (by decide) rfl (fun ls hl => ?_)
  refine lv_iconst (v := 0) hx hb dX4_digest_4 (by decide) ?_
  refine lv_istore_n (lv' := [(3, .int 0), (1, .long 757), (0, .ref (b 0))]) hx hb dX4_digest_5 rfl hl (by decide) rfl (fun ls hl => ?_)
  have loop6 : ∀ (n : Nat) (k1 : Nat), 11 - k1 < n → k1 ≤ 11 → ∀ (ls : Array Slot), lv_has ls 4 [(0, .ref (b 0)), (1, .long (fdF (fun w => ctF σ ω nc nw w) 757 k1)), (3, .int (nI k1))] → W p l e ({ frames := 5, cells := 0, slots := 0, locals := 107 } : Room) s m args below meth c s.heap [] 0 0 Q (F0 m 6 ls []) := by
    intro n
    induction n with
    | zero => intro k1  hf; exact absurd hf (Nat.not_lt_zero _)
    | succ n ih6 =>
      intro k1  hf hk1 ls hl
      refine lv_iload_n hx hb dX4_digest_6 rfl (lv_at hl 2 rfl) ?_
      refine lv_bipush (v := 10) hx hb dX4_digest_7 (by decide) ?_
      refine lv_icmp_gt (tgt := 28) hx hb dX4_digest_9 (by decide) (fun c_1 => ?_) (fun c_1 => ?_)
      · skip
        have hk2 : 10 < k1 := lp_gt (N := 10) (k := k1) c_1 (by omega) (by omega)
        have hl : lv_has ls 4 [(0, .ref (b 0)), (1, .long (fdF (fun w => ctF σ ω nc nw w) 757 11)), (3, .int (nI k1))] := by rw [show fdF (fun w => ctF σ ω nc nw w) 757 11 = fdF (fun w => ctF σ ω nc nw w) 757 k1 from (by rw [show k1 = 11 by omega])]; exact hl
        refine lv_aload_n hx hb dX4_digest_28 rfl (lv_at hl 0 rfl) ?_
        refine lv_lload_n hx hb dX4_digest_29 rfl (lv_at hl 1 rfl) ?_
        refine rd_l (va_runV (As := [.long (fdF (fun w => ctF σ ω nc nw w) 757 11)]) (rest := []) ⟨hx, hb, hml, hown, hts⟩ (M_X4_mixedWithRiver l D cI b a a2 σ σ2 ω (fdF (fun w => ctF σ ω nc nw w) 757 11) ) (cwV 1 hts gX4_digest_X4_mixedWithRiver rfl rfl rfl (by decide +kernel) ⟨Nat.le_of_ble_eq_true rfl, Nat.le_of_ble_eq_true rfl⟩) (rdV hK hP [0, 1, 2, 3, 4, 5, 6, 7, 8, 9, 10, 11, 12, 13, 14, 15, 16, 17, 18, 19, 20, 21, 22, 23, 24, 25, 26, 27, 28, 29, 30, 31, 32, 33, 34, 35] [0] rfl rfl (ci := 4) (q0 := 0) rfl rfl) rfl rfl hl.1 rfl (lv_room (Nat.le_of_ble_eq_true rfl)) dX4_digest_30 ⟨Nat.zero_le _, Nat.zero_le _⟩) ?_
        refine lv_lstore_n (lv' := [(1, .long (dgV σ (fdF (fun w => ctF σ ω nc nw w) 757 11))), (0, .ref (b 0)), (3, .int (nI k1))]) hx hb dX4_digest_33 rfl hl (by decide) rfl (fun ls hl => ?_)
        refine lv_aload_n hx hb dX4_digest_34 rfl (lv_at hl 1 rfl) ?_
        refine lv_lload_n hx hb dX4_digest_35 rfl (lv_at hl 0 rfl) ?_
        refine rd_l (va_runV (As := [.long (dgV σ (fdF (fun w => ctF σ ω nc nw w) 757 11))]) (rest := []) ⟨hx, hb, hml, hown, hts⟩ (M_X4_mixedWithCouriers l D cI b a a2 σ σ2 ω (dgV σ (fdF (fun w => ctF σ ω nc nw w) 757 11)) nc (by first | assumption | omega) (by first | assumption | omega)) (cwV 1 hts gX4_digest_X4_mixedWithCouriers rfl rfl rfl (by decide +kernel) ⟨Nat.le_of_ble_eq_true rfl, Nat.le_of_ble_eq_true rfl⟩) (rdV hK hP [0, 1, 2, 3, 4, 5, 6, 7, 8, 9, 10, 11, 12, 13, 14, 15, 16, 17, 18, 19, 20, 21, 22, 23, 24, 25, 26, 27, 28, 29, 30, 31, 32, 33, 34, 35] [0] rfl rfl (ci := 4) (q0 := 0) rfl rfl) rfl rfl hl.1 rfl (lv_room (Nat.le_of_ble_eq_true rfl)) dX4_digest_36 ⟨Nat.zero_le _, Nat.zero_le _⟩) ?_
        refine lv_lstore_n (lv' := [(1, .long (fdC σ (dgV σ (fdF (fun w => ctF σ ω nc nw w) 757 11)) nc)), (0, .ref (b 0)), (3, .int (nI k1))]) hx hb dX4_digest_39 rfl hl (by decide) rfl (fun ls hl => ?_)
        refine lv_aload_n hx hb dX4_digest_40 rfl (lv_at hl 1 rfl) ?_
        refine lv_lload_n hx hb dX4_digest_41 rfl (lv_at hl 0 rfl) ?_
        refine rd_l (va_runV (As := [.long (fdC σ (dgV σ (fdF (fun w => ctF σ ω nc nw w) 757 11)) nc)]) (rest := []) ⟨hx, hb, hml, hown, hts⟩ (M_X4_mixedWithWagers l D cI b a a2 σ σ2 ω (fdC σ (dgV σ (fdF (fun w => ctF σ ω nc nw w) 757 11)) nc) nw (by first | assumption | omega) (by first | assumption | omega)) (cwV 1 hts gX4_digest_X4_mixedWithWagers rfl rfl rfl (by decide +kernel) ⟨Nat.le_of_ble_eq_true rfl, Nat.le_of_ble_eq_true rfl⟩) (rdV hK hP [0, 1, 2, 3, 4, 5, 6, 7, 8, 9, 10, 11, 12, 13, 14, 15, 16, 17, 18, 19, 20, 21, 22, 23, 24, 25, 26, 27, 28, 29, 30, 31, 32, 33, 34, 35] [0] rfl rfl (ci := 4) (q0 := 0) rfl rfl) rfl rfl hl.1 rfl (lv_room (Nat.le_of_ble_eq_true rfl)) dX4_digest_42 ⟨Nat.zero_le _, Nat.zero_le _⟩) ?_
        subst hQ
        exact ret_rdl hx hb hr hlocks (show fd3 ((ω 14)) ((ω 15)) (fun k => wonF σ ω nw k) (fdC σ (dgV σ (fdF (fun w => ctF σ ω nc nw w) 757 11)) nc) nw = dgL σ ω nc nw from rfl) dX4_digest_45
      · skip
        have hk2 : k1 ≤ 10 := lp_ngt (N := 10) (k := k1) c_1 (by omega) (by omega)
        refine lv_lload_n hx hb dX4_digest_12 rfl (lv_at hl 1 rfl) ?_
        refine lv_aload_n hx hb dX4_digest_13 rfl (lv_at hl 0 rfl) ?_
        refine lv_iload_n hx hb dX4_digest_14 rfl (lv_at hl 2 rfl) ?_
        refine rd_i (va_runV (As := [.int (nI k1)]) (rest := [.long (fdF (fun w => ctF σ ω nc nw w) 757 k1)]) ⟨hx, hb, hml, hown, hts⟩ (M_X4_counted l D cI b a a2 σ σ2 ω k1 nc nw (by omega) hnc hn8 he2 hnw hw12) (cwV 1 hts gX4_digest_X4_counted rfl rfl rfl (by decide +kernel) ⟨Nat.le_of_ble_eq_true rfl, Nat.le_of_ble_eq_true rfl⟩) (rdV hK hP [0, 1, 2, 3, 4, 5, 6, 7, 8, 9, 10, 11, 12, 13, 14, 15, 16, 17, 18, 19, 20, 21, 22, 23, 24, 25, 26, 27, 28, 29, 30, 31, 32, 33, 34, 35] [0] rfl rfl (ci := 4) (q0 := 0) rfl rfl) rfl rfl hl.1 rfl (lv_room (Nat.le_of_ble_eq_true rfl)) dX4_digest_15 ⟨Nat.zero_le _, Nat.zero_le _⟩) ?_
        refine rd_l (va_runS (As := [.long (fdF (fun w => ctF σ ω nc nw w) 757 k1), .int (ctF σ ω nc nw k1)]) (rest := []) ⟨hx, hb, hml, hown, hts⟩ (M_X4_mixed l D cI (fdF (fun w => ctF σ ω nc nw w) 757 k1) (ctF σ ω nc nw k1) ) (va_cwS 2 hts gX4_digest_X4_mixed rfl rfl rfl (by decide +kernel) ⟨Nat.le_of_ble_eq_true rfl, Nat.le_of_ble_eq_true rfl⟩) (rdS hK hP [] [0] rfl rfl) rfl rfl hl.1 rfl (lv_room (Nat.le_of_ble_eq_true rfl)) dX4_digest_18 ⟨Nat.zero_le _, Nat.zero_le _⟩) ?_
        refine lv_lstore_n (lv' := [(1, .long (mxd (fdF (fun w => ctF σ ω nc nw w) 757 k1) (ctF σ ω nc nw k1))), (0, .ref (b 0)), (3, .int (nI k1))]) hx hb dX4_digest_21 rfl hl (by decide) rfl (fun ls hl => ?_)
        refine lv_iinc (v := nI (k1 + 1)) (lv' := [(3, .int (nI (k1 + 1))), (1, .long (mxd (fdF (fun w => ctF σ ω nc nw w) 757 k1) (ctF σ ω nc nw k1))), (0, .ref (b 0))]) hx hb dX4_digest_22 hl (k := 2) rfl (nI_1 k1) (by decide) rfl (fun ls hl => ?_)
        refine lv_goto (tgt := 6) hx hb dX4_digest_25 (by decide) ?_
        exact ih6 (k1 + 1) (by omega) (by omega) ls (lv_sub hl [2, 1, 0] rfl)
  exact loop6 12 0 (by omega) (by omega) ls (lv_sub hl [2, 1, 0] rfl)
set_option maxHeartbeats 4000000 in
set_option maxRecDepth 100000 in
theorem M_X4_mean (l : Launch) (D : va_G) (cI : ClassId) (b : Nat → Nat) (a : Nat → Nat) (a2 : Nat → Nat) (σ : St) (σ2 : St) (ω : St) (hI : okI (σ 3)) : Met l yX4_mean wsX4_mean ({ frames := 1, cells := 0, slots := 0, locals := 22 } : Room) (rdPc [.ref (b 0)] D (wLan b a a2 cI σ σ2 ω) [(cI, .int)]) (rdQd (mnF σ)) 0 0 (fun _ => False) := by
  refine Met.ofW (cc := cX4_mean) (maxL := 1) (ret := (some .double)) (by decide) rfl ?_
  intro p e s m args below meth c s₁ B hml hv
  obtain ⟨hargs, hP, hK⟩ := hv
  have hx := B.exec
  have hb := B.bytes
  have hr := B.returns
  have hts := atoms_spec (ws := wsX4_mean) B.pre
  have hown : s.vm.findClass RX4 = some m.cls := findClass_of_methodNamed B.named
  have hlocks := B.notSynchronized
  obtain ⟨_, hN⟩ := id hK
  have hiX2 : ∀ w ∈ wsX20, w ∈ wsX4_mean := by decide +kernel
  have hiX4 : ∀ w ∈ wsX40, w ∈ wsX4_mean := by decide +kernel
  refine my_abs (fun Q hQ => ?_)
  obtain ⟨ls, hl, hent⟩ := my_entry (m := m) (n := 1) hargs (Nat.le_of_ble_eq_true rfl)
  rw [hent]
  have hl : lv_has ls 1 [(0, .ref (b 0))] := hl
  show W p l e ({ frames := 1, cells := 0, slots := 0, locals := 22 } : Room) s m args below meth c s.heap [] 0 0 Q (F0 m 0 ls [])
  refine lv_aload_n hx hb dX4_mean_0 rfl (lv_at hl 0 rfl) ?_
  refine va_get (D := D) (ci := 4) (v := .ref (a 0)) (C := RX4) (T := TX4) (N := 3) hx hb hts hiX4 hown hK.1 hP 0 rfl rfl 0 (by decide) (hts (.fieldLink RX4 12 "IceLanes" "river" "LIceLanes$River;") (by decide +kernel)) (fun _ h9 => h9) rfl dX4_mean_1 ?_
  refine va_getN (D := D) (ci := 2) (v := .ref (a 3)) (C := RX2) (T := TX2) (N := 6) hx hb hts hiX2 hown hK.1 hP 4 rfl rfl 4 (by decide) (va_Nw.use rfl (nX4_58 hN)) (fun _ h9 => h9) rfl dX4_mean_4 ?_
  refine rd_i (va_runVN (As := []) (rest := []) ⟨hx, hb, hml, hown, hts⟩ (M_X1_inAll l D cI a σ ) ⟨va_cnB 0 hts gX4_mean_X1_inAll_n209 rfl rfl rfl (nX4_209 hN) (hts (.initialized RX1) (by decide +kernel)) (by decide +kernel) ⟨Nat.le_of_ble_eq_true rfl, Nat.le_of_ble_eq_true rfl⟩, hts (.instanceMethod yX1_inAll) (by decide +kernel), hts (.selects RX1 yX1_inAll yX1_inAll) (by decide +kernel)⟩ (rdV hK hP [7, 8, 9] [0] rfl rfl (ci := 1) (q0 := 7) rfl rfl) rfl rfl hl.1 rfl (lv_room (Nat.le_of_ble_eq_true rfl)) dX4_mean_7 ⟨Nat.zero_le _, Nat.zero_le _⟩) ?_
  refine lv_i2d hx hb dX4_mean_10 ?_
  refine lv_ldc2d (v := 4630263366890291200) hx hb hown (hts (.constantDouble RX4 212 (4630263366890291200)) (by decide +kernel)) dX4_mean_11 ?_
  refine lv_ddiv hx hb dX4_mean_14 (mean_n hI) ?_
  subst hQ
  exact ret_rdd hx hb hr hlocks (show FP.ddiv (FP.i2d (sumF ((σ 3)) 36)) 4630263366890291200 = mnF σ from rfl) dX4_mean_15
