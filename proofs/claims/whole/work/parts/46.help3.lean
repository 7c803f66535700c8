set_option maxHeartbeats 4000000 in
set_option maxRecDepth 100000 in
theorem M_L_wins_ok (l : Launch) (D : va_G) (cI : ClassId) (b : Nat → Nat) (a : Nat → Nat) (a2 : Nat → Nat) (σ : St) (σ2 : St) (ω : St) (wg : Nat) (nw : Nat) (o : Nat) (g : Nat → Int64) (cJ : ClassId) (sz : Nat) (h1 : (0 ≤ nI wg ∧ nI wg ≤ ω 19 0 - 1)) (hnw : ω 19 0 = nI nw) (hw12 : nw ≤ 12) (hwg : wg < nw) : Met l yL_wins wsL_wins ({ frames := 5, cells := 0, slots := 0, locals := 103 } : Room) (wrPc [.ref (b 0), .int (nI wg), .ref o] D ((wLan b a a2 cI σ σ2 ω) ++ [(o, .inl (cJ, 1, .inr (.inl g)))]) [(cI, .int), (cJ, .long)] sz) (wrQi 0 D ((wLan b a a2 cI σ σ2 ω) ++ [(o, .inl (cJ, 1, .inr (.inl (vp_updL g 0 (wonF σ ω nw wg).toInt64))))]) (va_A ((wLan b a a2 cI σ σ2 ω) ++ [(o, .inl (cJ, 1, .inr (.inl g)))]) sz)) 0 0 (va_A ((wLan b a a2 cI σ σ2 ω) ++ [(o, .inl (cJ, 1, .inr (.inl g)))]) sz) := by
  refine my_ofWH (cc := cL_wins) (maxL := 4) (ret := (some .int)) (by decide) rfl ?_
  intro p e s m args below meth c s₁ B hml hv
  obtain ⟨hargs, hsz, hP, hK, hD0⟩ := hv
  have hx := B.exec
  have hb := B.bytes
  have hr := B.returns
  have hts := atoms_spec (ws := wsL_wins) B.pre
  have hown : s.vm.findClass RL = some m.cls := findClass_of_methodNamed B.named
  have hlocks := B.notSynchronized
  obtain ⟨_, hN⟩ := id hK
  subst hsz
  have hD := hD0.self (sz := s.heap.size)
  generalize hAe : va_A ((wLan b a a2 cI σ σ2 ω) ++ [(o, .inl (cJ, 1, .inr (.inl g)))]) s.heap.size = A at hD ⊢
  have hA : ∀ q : Nat, s.heap.size ≤ q → A q := fun q h => by rw [← hAe]; exact Or.inr h
  have hS : va_S A s.heap s.heap [] := va_S.rf
  have hP : va_P D vwCl ((wLan b a a2 cI σ σ2 ω) ++ [(o, .inl (cJ, 1, .inr (.inl g)))]) s.heap := hP
  refine my_abs (fun Q hQ => ?_)
  obtain ⟨ls, hl, hent⟩ := my_entry (m := m) (n := 4) hargs (Nat.le_of_ble_eq_true rfl)
  rw [hent]
  have hl : lv_has ls 4 [(0, .ref (b 0)), (1, .int (nI wg)), (2, .ref o)] := hl
  show W p l e ({ frames := 5, cells := 0, slots := 0, locals := 103 } : Room) s m args below meth c s.heap [] 0 0 Q (F0 m 0 ls [])
  refine lv_aload_n hx hb dL_wins_0 rfl (lv_at hl 2 rfl) ?_
  refine lv_iconst (v := 0) hx hb dL_wins_1 (by decide) ?_
  refine lv_aload_n hx hb dL_wins_2 rfl (lv_at hl 0 rfl) ?_
  refine lv_iload_n hx hb dL_wins_3 rfl (lv_at hl 1 rfl) ?_
  refine rd_i (va_runV (As := [.int (nI wg)]) (rest := [.int 0, .ref o]) ⟨hx, hb, hml, hown, hts⟩ (M_X4_wins_ok l D cI b a a2 σ σ2 ω wg nw h1 hnw hw12 hwg) (cwV 1 hts gL_wins_X4_wins rfl rfl rfl (by decide +kernel) ⟨Nat.le_of_ble_eq_true rfl, Nat.le_of_ble_eq_true rfl⟩) (rdV hK hP [0, 1, 2, 3, 4, 5, 6, 7, 8, 9, 10, 11, 12, 13, 14, 15, 16, 17, 18, 19, 20, 21, 22, 23, 24, 25, 26, 27, 28, 29, 30, 31, 32, 33, 34, 35] [0] rfl rfl (ci := 4) (q0 := 0) rfl rfl) rfl rfl hl.1 rfl (lv_room (Nat.le_of_ble_eq_true rfl)) dL_wins_4 ⟨Nat.zero_le _, Nat.zero_le _⟩) ?_
  refine lv_i2l hx hb dL_wins_7 rfl ?_
  refine va_last hx hb hK.1 hP hD hS 36 1 rfl rfl (by unfold vp_in; decide) dL_wins_8 (fun H locs hP hD hS => ?_)
  have hP : va_P D vwCl ((wLan b a a2 cI σ σ2 ω) ++ [(o, .inl (cJ, 1, .inr (.inl (vp_updL g 0 ((wonF σ ω nw wg).toInt64)))))]) H := hP
  have hD : va_D A ((wLan b a a2 cI σ σ2 ω) ++ [(o, .inl (cJ, 1, .inr (.inl (vp_updL g 0 ((wonF σ ω nw wg).toInt64)))))]) := hD
  refine lv_goto (tgt := 15) hx hb dL_wins_9 (by decide) ?_
  refine lv_iconst (v := 0) hx hb dL_wins_15 (by decide) ?_
  subst hQ
  exact ret_wri hx hb hr rfl hlocks hP hD hS (show 0 = 0 from rfl) dL_wins_16
set_option maxHeartbeats 4000000 in
set_option maxRecDepth 100000 in
theorem M_L_wins_e1 (l : Launch) (D : va_G) (cI : ClassId) (b : Nat → Nat) (a : Nat → Nat) (a2 : Nat → Nat) (σ : St) (σ2 : St) (ω : St) (p0 : Int32) (o : Nat) (g : Nat → Int64) (cJ : ClassId) (sz : Nat) (A9 : Nat → Prop) (hst : l.stackTraces = false) (h1 : ¬ (0 ≤ p0 ∧ p0 ≤ ω 19 0 - 1)) : Met l yL_wins wsL_wins ({ frames := 7, cells := 1, slots := 6, locals := 103 } : Room) (hxPc [.ref (b 0), .int p0, .ref o] D ((wLan b a a2 cI σ σ2 ω) ++ [(o, .inl (cJ, 1, .inr (.inl g)))]) [(cI, .int), (cJ, .long)] sz A9) (wrQi 1 D ((wLan b a a2 cI σ σ2 ω) ++ [(o, .inl (cJ, 1, .inr (.inl g)))]) (va_A ((wLan b a a2 cI σ σ2 ω) ++ [(o, .inl (cJ, 1, .inr (.inl g)))]) sz)) 1 6 (va_A ((wLan b a a2 cI σ σ2 ω) ++ [(o, .inl (cJ, 1, .inr (.inl g)))]) sz) := by
  refine my_ofWH (cc := cL_wins) (maxL := 4) (ret := (some .int)) (by decide) rfl ?_
  intro p e s m args below meth c s₁ B hml hv
  obtain ⟨⟨hargs, hsz, hP, hK, hD0⟩, hEX⟩ := hv
  have hx := B.exec
  have hb := B.bytes
  have hr := B.returns
  have hts := atoms_spec (ws := wsL_wins) B.pre
  have hown : s.vm.findClass RL = some m.cls := findClass_of_methodNamed B.named
  have hlocks := B.notSynchronized
  obtain ⟨_, hN⟩ := id hK
  subst hsz
  have hD := hD0.self (sz := s.heap.size)
  generalize hAe : va_A ((wLan b a a2 cI σ σ2 ω) ++ [(o, .inl (cJ, 1, .inr (.inl g)))]) s.heap.size = A at hD ⊢
  have hA : ∀ q : Nat, s.heap.size ≤ q → A q := fun q h => by rw [← hAe]; exact Or.inr h
  have hS : va_S A s.heap s.heap [] := va_S.rf
  have hP : va_P D vwCl ((wLan b a a2 cI σ σ2 ω) ++ [(o, .inl (cJ, 1, .inr (.inl g)))]) s.heap := hP
  refine my_abs (fun Q hQ => ?_)
  obtain ⟨ls, hl, hent⟩ := my_entry (m := m) (n := 4) hargs (Nat.le_of_ble_eq_true rfl)
  rw [hent]
  have hl : lv_has ls 4 [(0, .ref (b 0)), (1, .int p0), (2, .ref o)] := hl
  show W p l e ({ frames := 7, cells := 1, slots := 6, locals := 103 } : Room) s m args below meth c s.heap [] 0 0 Q (F0 m 0 ls [])
  refine lv_aload_n hx hb dL_wins_0 rfl (lv_at hl 2 rfl) ?_
  refine lv_iconst (v := 0) hx hb dL_wins_1 (by decide) ?_
  refine lv_aload_n hx hb dL_wins_2 rfl (lv_at hl 0 rfl) ?_
  refine lv_iload_n hx hb dL_wins_3 rfl (lv_at hl 1 rfl) ?_
  refine ex_call (vx_runV (As := [.int p0]) (rest := [.int 0, .ref o]) ⟨hx, hb, hml, hown, hts⟩ (M_X4_wins_e1 l D cI b a a2 σ σ2 ω p0 A9 hst h1) (cwV 1 hts gL_wins_X4_wins rfl rfl rfl (by decide +kernel) ⟨Nat.le_of_ble_eq_true rfl, Nat.le_of_ble_eq_true rfl⟩) (exV hK hP hEX.1 [0, 1, 2, 3, 4, 5, 6, 7, 8, 9, 10, 11, 12, 13, 14, 15, 16, 17, 18, 19, 20, 21, 22, 23, 24, 25, 26, 27, 28, 29, 30, 31, 32, 33, 34, 35] [0] rfl rfl (ci := 4) (q0 := 0) rfl rfl) rfl rfl hl.1 rfl (lv_room (Nat.le_of_ble_eq_true rfl)) dL_wins_4 ⟨Nat.le_of_ble_eq_true rfl, Nat.le_of_ble_eq_true rfl⟩) hP hD hS (fun ce q9 H locs hP hD hS hce hcv hcl => ?_)
  refine vx_catch (own := RL) (name := "java/lang/IndexOutOfBoundsException") (E := "java/lang/IndexOutOfBoundsException") hown ([] : List ClassFile.ExceptionTableEntry) ⟨0, 9, 12, 13⟩ ([] : List ClassFile.ExceptionTableEntry) ((vx_table (x := yL_wins) B (hts _ List.mem_cons_self)).trans rfl) (fun z hz => nomatch hz) (by decide) (by decide) (hts (.classLink RL 13 "java/lang/IndexOutOfBoundsException") (by decide +kernel)) (dc_use rfl (hEX.1.1 (.castable "java/lang/IndexOutOfBoundsException" "java/lang/IndexOutOfBoundsException") (by decide +kernel))) hce hcv hcl ?_
  refine lv_astore_n (lv' := [(3, .ref q9), (0, .ref (b 0)), (1, .int p0), (2, .ref o)]) hx hb dL_wins_12 rfl hl (by decide) rfl (fun ls hl => ?_)
  refine lv_iconst (v := 1) hx hb dL_wins_13 (by decide) ?_
  subst hQ
  exact ret_wri hx hb hr rfl hlocks hP hD hS (show 1 = 1 from rfl) dL_wins_14
set_option maxHeartbeats 4000000 in
set_option maxRecDepth 100000 in
theorem M_L_pass_ok (l : Launch) (D : va_G) (cI : ClassId) (b : Nat → Nat) (a : Nat → Nat) (a2 : Nat → Nat) (σ : St) (σ2 : St) (ω : St) (n0 : Nat) (h : Nat) (nc : Nat) (o : Nat) (g : Nat → Int64) (cJ : ClassId) (sz : Nat) (h1 : (1 ≤ nI n0 ∧ nI n0 ≤ 200)) (hn0 : n0 ≤ 200) (hok : okR σ h nc) (hbd : h + 200 < 2 ^ 30) : Met l yL_pass wsL_pass ({ frames := 7, cells := 0, slots := 0, locals := 164 } : Room) (wrPc [.ref (b 0), .int (nI n0), .ref o] D ((wLan b a a2 cI σ σ2 ω) ++ [(o, .inl (cJ, 1, .inr (.inl g)))]) [(cI, .int), (cJ, .long)] sz) (wrQi 0 D ((wLan b a a2 cI (hoursF n0 σ) σ2 ω) ++ [(o, .inl (cJ, 1, .inr (.inl (vp_updL g 0 (hsA σ n0).toInt64))))]) (va_A ((wLan b a a2 cI σ σ2 ω) ++ [(o, .inl (cJ, 1, .inr (.inl g)))]) sz)) 0 0 (va_A ((wLan b a a2 cI σ σ2 ω) ++ [(o, .inl (cJ, 1, .inr (.inl g)))]) sz) := by
  refine my_ofWH (cc := cL_pass) (maxL := 4) (ret := (some .int)) (by decide) rfl ?_
  intro p e s m args below meth c s₁ B hml hv
  obtain ⟨hargs, hsz, hP, hK, hD0⟩ := hv
  have hx := B.exec
  have hb := B.bytes
  have hr := B.returns
  have hts := atoms_spec (ws := wsL_pass) B.pre
  have hown : s.vm.findClass RL = some m.cls := findClass_of_methodNamed B.named
  have hlocks := B.notSynchronized
  obtain ⟨_, hN⟩ := id hK
  subst hsz
  have hD := hD0.self (sz := s.heap.size)
  generalize hAe : va_A ((wLan b a a2 cI σ σ2 ω) ++ [(o, .inl (cJ, 1, .inr (.inl g)))]) s.heap.size = A at hD ⊢
  have hA : ∀ q : Nat, s.heap.size ≤ q → A q := fun q h => by rw [← hAe]; exact Or.inr h
  have hS : va_S A s.heap s.heap [] := va_S.rf
  have hP : va_P D vwCl ((wLan b a a2 cI σ σ2 ω) ++ [(o, .inl (cJ, 1, .inr (.inl g)))]) s.heap := hP
  refine my_abs (fun Q hQ => ?_)
  obtain ⟨ls, hl, hent⟩ := my_entry (m := m) (n := 4) hargs (Nat.le_of_ble_eq_true rfl)
  rw [hent]
  have hl : lv_has ls 4 [(0, .ref (b 0)), (1, .int (nI n0)), (2, .ref o)] := hl
  show W p l e ({ frames := 7, cells := 0, slots := 0, locals := 164 } : Room) s m args below meth c s.heap [] 0 0 Q (F0 m 0 ls [])
  refine lv_aload_n hx hb dL_pass_0 rfl (lv_at hl 2 rfl) ?_
  refine lv_iconst (v := 0) hx hb dL_pass_1 (by decide) ?_
  refine lv_aload_n hx hb dL_pass_2 rfl (lv_at hl 0 rfl) ?_
  refine lv_iload_n hx hb dL_pass_3 rfl (lv_at hl 1 rfl) ?_
  refine wr_i (wn := (wLan b a a2 cI (hoursF n0 σ) σ2 ω) ++ [(o, .inl (cJ, 1, .inr (.inl g)))]) (va_runV (As := [.int (nI n0)]) (rest := [.int 0, .ref o]) ⟨hx, hb, hml, hown, hts⟩ (M_X4_pass_ok l D cI b a a2 σ σ2 ω n0 h nc _ h1 hn0 hok hbd) (cwV 1 hts gL_pass_X4_pass rfl rfl rfl (by decide +kernel) ⟨Nat.le_of_ble_eq_true rfl, Nat.le_of_ble_eq_true rfl⟩) (wrV hK hP hD [0, 1, 2, 3, 4, 5, 6, 7, 8, 9, 10, 11, 12, 13, 14, 15, 16, 17, 18, 19, 20, 21, 22, 23, 24, 25, 26, 27, 28, 29, 30, 31, 32, 33, 34, 35] [0] rfl rfl rfl (ci := 4) (q0 := 0) rfl rfl) rfl rfl hl.1 rfl (lv_room (Nat.le_of_ble_eq_true rfl)) dL_pass_4 ⟨Nat.le_of_ble_eq_true rfl, Nat.le_of_ble_eq_true rfl⟩) hP hD hS hA [0, 1, 2, 3, 4, 5, 6, 7, 8, 9, 10, 11, 12, 13, 14, 15, 16, 17, 18, 19, 20, 21, 22, 23, 24, 25, 26, 27, 28, 29, 30, 31, 32, 33, 34, 35] [36] [1, 2, 3, 4, 5, 6, 7, 8, 9, 10, 11, 12, 13, 14, 15, 16, 17, 18, 19, 20, 21, 22, 23, 24, 25, 26, 27, 28, 29, 30, 31, 32, 33, 34, 35, 36, 0] rfl rfl rfl rfl rfl rfl (fun H locs hP hD hS => ?_)
  generalize eσ_1 : hoursF n0 σ = σ_1 at hP hD
  refine lv_i2l hx hb dL_pass_7 rfl ?_
  refine va_last hx hb hK.1 hP hD hS 36 1 rfl rfl (by unfold vp_in; decide) dL_pass_8 (fun H locs hP hD hS => ?_)
  have hP : va_P D vwCl ((wLan b a a2 cI σ_1 σ2 ω) ++ [(o, .inl (cJ, 1, .inr (.inl (vp_updL g 0 ((hsA σ n0).toInt64)))))]) H := hP
  have hD : va_D A ((wLan b a a2 cI σ_1 σ2 ω) ++ [(o, .inl (cJ, 1, .inr (.inl (vp_updL g 0 ((hsA σ n0).toInt64)))))]) := hD
  refine lv_goto (tgt := 15) hx hb dL_pass_9 (by decide) ?_
  refine lv_iconst (v := 0) hx hb dL_pass_15 (by decide) ?_
  subst hQ
  have hst_s : σ_1 = hoursF n0 σ := by subst_vars; rfl
  rw [hst_s] at hP hD
  exact ret_wri hx hb hr rfl hlocks hP hD hS (show 0 = 0 from rfl) dL_pass_16
set_option maxHeartbeats 4000000 in
set_option maxRecDepth 100000 in
theorem M_L_pass_e1 (l : Launch) (D : va_G) (cI : ClassId) (b : Nat → Nat) (a : Nat → Nat) (a2 : Nat → Nat) (σ : St) (σ2 : St) (ω : St) (p0 : Int32) (o : Nat) (g : Nat → Int64) (cJ : ClassId) (sz : Nat) (A9 : Nat → Prop) (hst : l.stackTraces = false) (h1 : ¬ (1 ≤ p0 ∧ p0 ≤ 200)) : Met l yL_pass wsL_pass ({ frames := 7, cells := 1, slots := 6, locals := 105 } : Room) (hxPc [.ref (b 0), .int p0, .ref o] D ((wLan b a a2 cI σ σ2 ω) ++ [(o, .inl (cJ, 1, .inr (.inl g)))]) [(cI, .int), (cJ, .long)] sz A9) (wrQi 1 D ((wLan b a a2 cI σ σ2 ω) ++ [(o, .inl (cJ, 1, .inr (.inl g)))]) (va_A ((wLan b a a2 cI σ σ2 ω) ++ [(o, .inl (cJ, 1, .inr (.inl g)))]) sz)) 1 6 (va_A ((wLan b a a2 cI σ σ2 ω) ++ [(o, .inl (cJ, 1, .inr (.inl g)))]) sz) := by
  refine my_ofWH (cc := cL_pass) (maxL := 4) (ret := (some .int)) (by decide) rfl ?_
  intro p e s m args below meth c s₁ B hml hv
  obtain ⟨⟨hargs, hsz, hP, hK, hD0⟩, hEX⟩ := hv
  have hx := B.exec
  have hb := B.bytes
  have hr := B.returns
  have hts := atoms_spec (ws := wsL_pass) B.pre
  have hown : s.vm.findClass RL = some m.cls := findClass_of_methodNamed B.named
  have hlocks := B.notSynchronized
  obtain ⟨_, hN⟩ := id hK
  subst hsz
  have hD := hD0.self (sz := s.heap.size)
  generalize hAe : va_A ((wLan b a a2 cI σ σ2 ω) ++ [(o, .inl (cJ, 1, .inr (.inl g)))]) s.heap.size = A at hD ⊢
  have hA : ∀ q : Nat, s.heap.size ≤ q → A q := fun q h => by rw [← hAe]; exact Or.inr h
  have hS : va_S A s.heap s.heap [] := va_S.rf
  have hP : va_P D vwCl ((wLan b a a2 cI σ σ2 ω) ++ [(o, .inl (cJ, 1, .inr (.inl g)))]) s.heap := hP
  refine my_abs (fun Q hQ => ?_)
  obtain ⟨ls, hl, hent⟩ := my_entry (m := m) (n := 4) hargs (Nat.le_of_ble_eq_true rfl)
  rw [hent]
  have hl : lv_has ls 4 [(0, .ref (b 0)), (1, .int p0), (2, .ref o)] := hl
  show W p l e ({ frames := 7, cells := 1, slots := 6, locals := 105 } : Room) s m args below meth c s.heap [] 0 0 Q (F0 m 0 ls [])
  refine lv_aload_n hx hb dL_pass_0 rfl (lv_at hl 2 rfl) ?_
  refine lv_iconst (v := 0) hx hb dL_pass_1 (by decide) ?_
  refine lv_aload_n hx hb dL_pass_2 rfl (lv_at hl 0 rfl) ?_
  refine lv_iload_n hx hb dL_pass_3 rfl (lv_at hl 1 rfl) ?_
  refine ex_call (vx_runV (As := [.int p0]) (rest := [.int 0, .ref o]) ⟨hx, hb, hml, hown, hts⟩ (M_X4_pass_e1 l D cI b a a2 σ σ2 ω p0 A9 hst h1) (cwV 1 hts gL_pass_X4_pass rfl rfl rfl (by decide +kernel) ⟨Nat.le_of_ble_eq_true rfl, Nat.le_of_ble_eq_true rfl⟩) (exV hK hP hEX.1 [0, 1, 2, 3, 4, 5, 6, 7, 8, 9, 10, 11, 12, 13, 14, 15, 16, 17, 18, 19, 20, 21, 22, 23, 24, 25, 26, 27, 28, 29, 30, 31, 32, 33, 34, 35] [0] rfl rfl (ci := 4) (q0 := 0) rfl rfl) rfl rfl hl.1 rfl (lv_room (Nat.le_of_ble_eq_true rfl)) dL_pass_4 ⟨Nat.le_of_ble_eq_true rfl, Nat.le_of_ble_eq_true rfl⟩) hP hD hS (fun ce q9 H locs hP hD hS hce hcv hcl => ?_)
  refine vx_catch (own := RL) (name := "java/lang/IllegalArgumentException") (E := "java/lang/IllegalArgumentException") hown ([] : List ClassFile.ExceptionTableEntry) ⟨0, 9, 12, 15⟩ ([] : List ClassFile.ExceptionTableEntry) ((vx_table (x := yL_pass) B (hts _ List.mem_cons_self)).trans rfl) (fun z hz => nomatch hz) (by decide) (by decide) (hts (.classLink RL 15 "java/lang/IllegalArgumentException") (by decide +kernel)) (dc_use rfl (hEX.1.1 (.castable "java/lang/IllegalArgumentException" "java/lang/IllegalArgumentException") (by decide +kernel))) hce hcv hcl ?_
  refine lv_astore_n (lv' := [(3, .ref q9), (0, .ref (b 0)), (1, .int p0), (2, .ref o)]) hx hb dL_pass_12 rfl hl (by decide) rfl (fun ls hl => ?_)
  refine lv_iconst (v := 1) hx hb dL_pass_13 (by decide) ?_
  subst hQ
  exact ret_wri hx hb hr rfl hlocks hP hD hS (show 1 = 1 from rfl) dL_pass_14
set_option maxHeartbeats 4000000 in
set_option maxRecDepth 100000 in
theorem M_L_count_ok (l : Launch) (D : va_G) (cI : ClassId) (b : Nat → Nat) (a : Nat → Nat) (a2 : Nat → Nat) (σ : St) (σ2 : St) (ω : St) (w : Nat) (nc : Nat) (nw : Nat) (o : Nat) (g : Nat → Int64) (cJ : ClassId) (sz : Nat) (h1 : (0 ≤ nI w ∧ nI w ≤ 10)) (hw11 : w < 11) (hnc : σ 17 0 = nI nc) (hn8 : nc ≤ 8) (he2 : σ 2 = ω 2) (hnw : ω 19 0 = nI nw) (hw12 : nw ≤ 12) : Met l yL_count wsL_count ({ frames := 3, cells := 0, slots := 0, locals := 65 } : Room) (wrPc [.ref (b 0), .int (nI w), .ref o] D ((wLan b a a2 cI σ σ2 ω) ++ [(o, .inl (cJ, 1, .inr (.inl g)))]) [(cI, .int), (cJ, .long)] sz) (wrQi 0 D ((wLan b a a2 cI σ σ2 ω) ++ [(o, .inl (cJ, 1, .inr (.inl (vp_updL g 0 (ctF σ ω nc nw w).toInt64))))]) (va_A ((wLan b a a2 cI σ σ2 ω) ++ [(o, .inl (cJ, 1, .inr (.inl g)))]) sz)) 0 0 (va_A ((wLan b a a2 cI σ σ2 ω) ++ [(o, .inl (cJ, 1, .inr (.inl g)))]) sz) := by
  refine my_ofWH (cc := cL_count) (maxL := 4) (ret := (some .int)) (by decide) rfl ?_
  intro p e s m args below meth c s₁ B hml hv
  obtain ⟨hargs, hsz, hP, hK, hD0⟩ := hv
  have hx := B.exec
  have hb := B.bytes
  have hr := B.returns
  have hts := atoms_spec (ws := wsL_count) B.pre
  have hown : s.vm.findClass RL = some m.cls := findClass_of_methodNamed B.named
  have hlocks := B.notSynchronized
  obtain ⟨_, hN⟩ := id hK
  subst hsz
  have hD := hD0.self (sz := s.heap.size)
  generalize hAe : va_A ((wLan b a a2 cI σ σ2 ω) ++ [(o, .inl (cJ, 1, .inr (.inl g)))]) s.heap.size = A at hD ⊢
  have hA : ∀ q : Nat, s.heap.size ≤ q → A q := fun q h => by rw [← hAe]; exact Or.inr h
  have hS : va_S A s.heap s.heap [] := va_S.rf
  have hP : va_P D vwCl ((wLan b a a2 cI σ σ2 ω) ++ [(o, .inl (cJ, 1, .inr (.inl g)))]) s.heap := hP
  refine my_abs (fun Q hQ => ?_)
  obtain ⟨ls, hl, hent⟩ := my_entry (m := m) (n := 4) hargs (Nat.le_of_ble_eq_true rfl)
  rw [hent]
  have hl : lv_has ls 4 [(0, .ref (b 0)), (1, .int (nI w)), (2, .ref o)] := hl
  show W p l e ({ frames := 3, cells := 0, slots := 0, locals := 65 } : Room) s m args below meth c s.heap [] 0 0 Q (F0 m 0 ls [])
  refine lv_aload_n hx hb dL_count_0 rfl (lv_at hl 2 rfl) ?_
  refine lv_iconst (v := 0) hx hb dL_count_1 (by decide) ?_
  refine lv_aload_n hx hb dL_count_2 rfl (lv_at hl 0 rfl) ?_
  refine lv_iload_n hx hb dL_count_3 rfl (lv_at hl 1 rfl) ?_
  refine rd_i (va_runV (As := [.int (nI w)]) (rest := [.int 0, .ref o]) ⟨hx, hb, hml, hown, hts⟩ (M_X4_count_ok l D cI b a a2 σ σ2 ω w nc nw h1 hw11 hnc hn8 he2 hnw hw12) (cwV 1 hts gL_count_X4_count rfl rfl rfl (by decide +kernel) ⟨Nat.le_of_ble_eq_true rfl, Nat.le_of_ble_eq_true rfl⟩) (rdV hK hP [0, 1, 2, 3, 4, 5, 6, 7, 8, 9, 10, 11, 12, 13, 14, 15, 16, 17, 18, 19, 20, 21, 22, 23, 24, 25, 26, 27, 28, 29, 30, 31, 32, 33, 34, 35] [0] rfl rfl (ci := 4) (q0 := 0) rfl rfl) rfl rfl hl.1 rfl (lv_room (Nat.le_of_ble_eq_true rfl)) dL_count_4 ⟨Nat.zero_le _, Nat.zero_le _⟩) ?_
  refine lv_i2l hx hb dL_count_7 rfl ?_
  refine va_last hx hb hK.1 hP hD hS 36 1 rfl rfl (by unfold vp_in; decide) dL_count_8 (fun H locs hP hD hS => ?_)
  have hP : va_P D vwCl ((wLan b a a2 cI σ σ2 ω) ++ [(o, .inl (cJ, 1, .inr (.inl (vp_updL g 0 ((ctF σ ω nc nw w).toInt64)))))]) H := hP
  have hD : va_D A ((wLan b a a2 cI σ σ2 ω) ++ [(o, .inl (cJ, 1, .inr (.inl (vp_updL g 0 ((ctF σ ω nc nw w).toInt64)))))]) := hD
  refine lv_goto (tgt := 15) hx hb dL_count_9 (by decide) ?_
  refine lv_iconst (v := 0) hx hb dL_count_15 (by decide) ?_
  subst hQ
  exact ret_wri hx hb hr rfl hlocks hP hD hS (show 0 = 0 from rfl) dL_count_16
set_option maxHeartbeats 4000000 in
set_option maxRecDepth 100000 in
theorem M_L_count_e1 (l : Launch) (D : va_G) (cI : ClassId) (b : Nat → Nat) (a : Nat → Nat) (a2 : Nat → Nat) (σ : St) (σ2 : St) (ω : St) (p0 : Int32) (o : Nat) (g : Nat → Int64) (cJ : ClassId) (sz : Nat) (A9 : Nat → Prop) (hst : l.stackTraces = false) (h1 : ¬ (0 ≤ p0 ∧ p0 ≤ 10)) : Met l yL_count wsL_count ({ frames := 7, cells := 1, slots := 6, locals := 103 } : Room) (hxPc [.ref (b 0), .int p0, .ref o] D ((wLan b a a2 cI σ σ2 ω) ++ [(o, .inl (cJ, 1, .inr (.inl g)))]) [(cI, .int), (cJ, .long)] sz A9) (wrQi 1 D ((wLan b a a2 cI σ σ2 ω) ++ [(o, .inl (cJ, 1, .inr (.inl g)))]) (va_A ((wLan b a a2 cI σ σ2 ω) ++ [(o, .inl (cJ, 1, .inr (.inl g)))]) sz)) 1 6 (va_A ((wLan b a a2 cI σ σ2 ω) ++ [(o, .inl (cJ, 1, .inr (.inl g)))]) sz) := by
  refine my_ofWH (cc := cL_count) (maxL := 4) (ret := (some .int)) (by decide) rfl ?_
  intro p e s m args below meth c s₁ B hml hv
  obtain ⟨⟨hargs, hsz, hP, hK, hD0⟩, hEX⟩ := hv
  have hx := B.exec
  have hb := B.bytes
  have hr := B.returns
  have hts := atoms_spec (ws := wsL_count) B.pre
  have hown : s.vm.findClass RL = some m.cls := findClass_of_methodNamed B.named
  have hlocks := B.notSynchronized
  obtain ⟨_, hN⟩ := id hK
  subst hsz
  have hD := hD0.self (sz := s.heap.size)
  generalize hAe : va_A ((wLan b a a2 cI σ σ2 ω) ++ [(o, .inl (cJ, 1, .inr (.inl g)))]) s.heap.size = A at hD ⊢
  have hA : ∀ q : Nat, s.heap.size ≤ q → A q := fun q h => by rw [← hAe]; exact Or.inr h
  have hS : va_S A s.heap s.heap [] := va_S.rf
  have hP : va_P D vwCl ((wLan b a a2 cI σ σ2 ω) ++ [(o, .inl (cJ, 1, .inr (.inl g)))]) s.heap := hP
  refine my_abs (fun Q hQ => ?_)
  obtain ⟨ls, hl, hent⟩ := my_entry (m := m) (n := 4) hargs (Nat.le_of_ble_eq_true rfl)
  rw [hent]
  have hl : lv_has ls 4 [(0, .ref (b 0)), (1, .int p0), (2, .ref o)] := hl
  show W p l e ({ frames := 7, cells := 1, slots := 6, locals := 103 } : Room) s m args below meth c s.heap [] 0 0 Q (F0 m 0 ls [])
  refine lv_aload_n hx hb dL_count_0 rfl (lv_at hl 2 rfl) ?_
  refine lv_iconst (v := 0) hx hb dL_count_1 (by decide) ?_
  refine lv_aload_n hx hb dL_count_2 rfl (lv_at hl 0 rfl) ?_
  refine lv_iload_n hx hb dL_count_3 rfl (lv_at hl 1 rfl) ?_
  refine ex_call (vx_runV (As := [.int p0]) (rest := [.int 0, .ref o]) ⟨hx, hb, hml, hown, hts⟩ (M_X4_count_e1 l D cI b a a2 σ σ2 ω p0 A9 hst h1) (cwV 1 hts gL_count_X4_count rfl rfl rfl (by decide +kernel) ⟨Nat.le_of_ble_eq_true rfl, Nat.le_of_ble_eq_true rfl⟩) (exV hK hP hEX.1 [0, 1, 2, 3, 4, 5, 6, 7, 8, 9, 10, 11, 12, 13, 14, 15, 16, 17, 18, 19, 20, 21, 22, 23, 24, 25, 26, 27, 28, 29, 30, 31, 32, 33, 34, 35] [0] rfl rfl (ci := 4) (q0 := 0) rfl rfl) rfl rfl hl.1 rfl (lv_room (Nat.le_of_ble_eq_true rfl)) dL_count_4 ⟨Nat.le_of_ble_eq_true rfl, Nat.le_of_ble_eq_true rfl⟩) hP hD hS (fun ce q9 H locs hP hD hS hce hcv hcl => ?_)
  refine vx_catch (own := RL) (name := "java/lang/IndexOutOfBoundsException") (E := "java/lang/IndexOutOfBoundsException") hown ([] : List ClassFile.ExceptionTableEntry) ⟨0, 9, 12, 13⟩ ([] : List ClassFile.ExceptionTableEntry) ((vx_table (x := yL_count) B (hts _ List.mem_cons_self)).trans rfl) (fun z hz => nomatch hz) (by decide) (by decide) (hts (.classLink RL 13 "java/lang/IndexOutOfBoundsException") (by decide +kernel)) (dc_use rfl (hEX.1.1 (.castable "java/lang/IndexOutOfBoundsException" "java/lang/IndexOutOfBoundsException") (by decide +kernel))) hce hcv hcl ?_
  refine lv_astore_n (lv' := [(3, .ref q9), (0, .ref (b 0)), (1, .int p0), (2, .ref o)]) hx hb dL_count_12 rfl hl (by decide) rfl (fun ls hl => ?_)
  refine lv_iconst (v := 1) hx hb dL_count_13 (by decide) ?_
  subst hQ
  exact ret_wri hx hb hr rfl hlocks hP hD hS (show 1 = 1 from rfl) dL_count_14
set_option maxHeartbeats 4000000 in
set_option maxRecDepth 100000 in
theorem M_L_bears_ok1 (l : Launch) (D : va_G) (cI : ClassId) (b : Nat → Nat) (a : Nat → Nat) (a2 : Nat → Nat) (σ : St) (σ2 : St) (ω : St) (f0 : Nat) (t0 : Nat) (o : Nat) (g : Nat → Int64) (cJ : ClassId) (sz : Nat) (h1 : (0 ≤ nI f0 ∧ nI f0 ≤ 11)) (h2 : (0 ≤ nI t0 ∧ nI t0 ≤ 11)) (hf : f0 < 12) (ht : t0 < 12) (hft : f0 ≤ t0) : Met l yL_bears wsL_bears ({ frames := 5, cells := 0, slots := 0, locals := 116 } : Room) (wrPc [.ref (b 0), .int (nI f0), .int (nI t0), .ref o] D ((wLan b a a2 cI σ σ2 ω) ++ [(o, .inl (cJ, 1, .inr (.inl g)))]) [(cI, .int), (cJ, .long)] sz) (wrQi 0 D ((wLan b a a2 cI σ σ2 ω) ++ [(o, .inl (cJ, 1, .inr (.inl (vp_updL g 0 (bbM (bb (σ 3) (σ 4) f0 (t0 - f0))).toInt64))))]) (va_A ((wLan b a a2 cI σ σ2 ω) ++ [(o, .inl (cJ, 1, .inr (.inl g)))]) sz)) 0 0 (va_A ((wLan b a a2 cI σ σ2 ω) ++ [(o, .inl (cJ, 1, .inr (.inl g)))]) sz) := by
  refine my_ofWH (cc := cL_bears) (maxL := 5) (ret := (some .int)) (by decide) rfl ?_
  intro p e s m args below meth c s₁ B hml hv
  obtain ⟨hargs, hsz, hP, hK, hD0⟩ := hv
  have hx := B.exec
  have hb := B.bytes
  have hr := B.returns
  have hts := atoms_spec (ws := wsL_bears) B.pre
  have hown : s.vm.findClass RL = some m.cls := findClass_of_methodNamed B.named
  have hlocks := B.notSynchronized
  obtain ⟨_, hN⟩ := id hK
  subst hsz
  have hD := hD0.self (sz := s.heap.size)
  generalize hAe : va_A ((wLan b a a2 cI σ σ2 ω) ++ [(o, .inl (cJ, 1, .inr (.inl g)))]) s.heap.size = A at hD ⊢
  have hA : ∀ q : Nat, s.heap.size ≤ q → A q := fun q h => by rw [← hAe]; exact Or.inr h
  have hS : va_S A s.heap s.heap [] := va_S.rf
  have hP : va_P D vwCl ((wLan b a a2 cI σ σ2 ω) ++ [(o, .inl (cJ, 1, .inr (.inl g)))]) s.heap := hP
  refine my_abs (fun Q hQ => ?_)
  obtain ⟨ls, hl, hent⟩ := my_entry (m := m) (n := 5) hargs (Nat.le_of_ble_eq_true rfl)
  rw [hent]
  have hl : lv_has ls 5 [(0, .ref (b 0)), (1, .int (nI f0)), (2, .int (nI t0)), (3, .ref o)] := hl
  show W p l e ({ frames := 5, cells := 0, slots := 0, locals := 116 } : Room) s m args below meth c s.heap [] 0 0 Q (F0 m 0 ls [])
  refine lv_aload_n hx hb dL_bears_0 rfl (lv_at hl 3 rfl) ?_
  refine lv_iconst (v := 0) hx hb dL_bears_1 (by decide) ?_
  refine lv_aload_n hx hb dL_bears_2 rfl (lv_at hl 0 rfl) ?_
  refine lv_iload_n hx hb dL_bears_3 rfl (lv_at hl 1 rfl) ?_
  refine lv_iload_n hx hb dL_bears_4 rfl (lv_at hl 2 rfl) ?_
  refine rd_i (va_runV (As := [.int (nI f0), .int (nI t0)]) (rest := [.int 0, .ref o]) ⟨hx, hb, hml, hown, hts⟩ (M_X4_bears_ok1 l D cI b a a2 σ σ2 ω f0 t0 h1 h2 hf ht hft) (cwV 2 hts gL_bears_X4_bears rfl rfl rfl (by decide +kernel) ⟨Nat.le_of_ble_eq_true rfl, Nat.le_of_ble_eq_true rfl⟩) (rdV hK hP [0, 1, 2, 3, 4, 5, 6, 7, 8, 9, 10, 11, 12, 13, 14, 15, 16, 17, 18, 19, 20, 21, 22, 23, 24, 25, 26, 27, 28, 29, 30, 31, 32, 33, 34, 35] [0] rfl rfl (ci := 4) (q0 := 0) rfl rfl) rfl rfl hl.1 rfl (lv_room (Nat.le_of_ble_eq_true rfl)) dL_bears_5 ⟨Nat.zero_le _, Nat.zero_le _⟩) ?_
  refine lv_i2l hx hb dL_bears_8 rfl ?_
  refine va_last hx hb hK.1 hP hD hS 36 1 rfl rfl (by unfold vp_in; decide) dL_bears_9 (fun H locs hP hD hS => ?_)
  have hP : va_P D vwCl ((wLan b a a2 cI σ σ2 ω) ++ [(o, .inl (cJ, 1, .inr (.inl (vp_updL g 0 ((bbM (bb ((σ 3)) ((σ 4)) f0 (t0 - f0))).toInt64)))))]) H := hP
  have hD : va_D A ((wLan b a a2 cI σ σ2 ω) ++ [(o, .inl (cJ, 1, .inr (.inl (vp_updL g 0 ((bbM (bb ((σ 3)) ((σ 4)) f0 (t0 - f0))).toInt64)))))]) := hD
  refine lv_goto (tgt := 17) hx hb dL_bears_10 (by decide) ?_
  refine lv_iconst (v := 0) hx hb dL_bears_17 (by decide) ?_
  subst hQ
  exact ret_wri hx hb hr rfl hlocks hP hD hS (show 0 = 0 from rfl) dL_bears_18
set_option maxHeartbeats 4000000 in
set_option maxRecDepth 100000 in
theorem M_L_bears_ok2 (l : Launch) (D : va_G) (cI : ClassId) (b : Nat → Nat) (a : Nat → Nat) (a2 : Nat → Nat) (σ : St) (σ2 : St) (ω : St) (f0 : Nat) (t0 : Nat) (o : Nat) (g : Nat → Int64) (cJ : ClassId) (sz : Nat) (h1 : (0 ≤ nI f0 ∧ nI f0 ≤ 11)) (h2 : (0 ≤ nI t0 ∧ nI t0 ≤ 11)) (hf : f0 < 12) (ht : t0 < 12) (hft : t0 ≤ f0) : Met l yL_bears wsL_bears ({ frames := 5, cells := 0, slots := 0, locals := 116 } : Room) (wrPc [.ref (b 0), .int (nI f0), .int (nI t0), .ref o] D ((wLan b a a2 cI σ σ2 ω) ++ [(o, .inl (cJ, 1, .inr (.inl g)))]) [(cI, .int), (cJ, .long)] sz) (wrQi 0 D ((wLan b a a2 cI σ σ2 ω) ++ [(o, .inl (cJ, 1, .inr (.inl (vp_updL g 0 (bbM (bb (σ 3) (σ 4) t0 (f0 - t0))).toInt64))))]) (va_A ((wLan b a a2 cI σ σ2 ω) ++ [(o, .inl (cJ, 1, .inr (.inl g)))]) sz)) 0 0 (va_A ((wLan b a a2 cI σ σ2 ω) ++ [(o, .inl (cJ, 1, .inr (.inl g)))]) sz) := by
  refine my_ofWH (cc := cL_bears) (maxL := 5) (ret := (some .int)) (by decide) rfl ?_
  intro p e s m args below meth c s₁ B hml hv
  obtain ⟨hargs, hsz, hP, hK, hD0⟩ := hv
  have hx := B.exec
  have hb := B.bytes
  have hr := B.returns
  have hts := atoms_spec (ws := wsL_bears) B.pre
  have hown : s.vm.findClass RL = some m.cls := findClass_of_methodNamed B.named
  have hlocks := B.notSynchronized
  obtain ⟨_, hN⟩ := id hK
  subst hsz
  have hD := hD0.self (sz := s.heap.size)
  generalize hAe : va_A ((wLan b a a2 cI σ σ2 ω) ++ [(o, .inl (cJ, 1, .inr (.inl g)))]) s.heap.size = A at hD ⊢
  have hA : ∀ q : Nat, s.heap.size ≤ q → A q := fun q h => by rw [← hAe]; exact Or.inr h
  have hS : va_S A s.heap s.heap [] := va_S.rf
  have hP : va_P D vwCl ((wLan b a a2 cI σ σ2 ω) ++ [(o, .inl (cJ, 1, .inr (.inl g)))]) s.heap := hP
  refine my_abs (fun Q hQ => ?_)
  obtain ⟨ls, hl, hent⟩ := my_entry (m := m) (n := 5) hargs (Nat.le_of_ble_eq_true rfl)
  rw [hent]
  have hl : lv_has ls 5 [(0, .ref (b 0)), (1, .int (nI f0)), (2, .int (nI t0)), (3, .ref o)] := hl
  show W p l e ({ frames := 5, cells := 0, slots := 0, locals := 116 } : Room) s m args below meth c s.heap [] 0 0 Q (F0 m 0 ls [])
  refine lv_aload_n hx hb dL_bears_0 rfl (lv_at hl 3 rfl) ?_
  refine lv_iconst (v := 0) hx hb dL_bears_1 (by decide) ?_
  refine lv_aload_n hx hb dL_bears_2 rfl (lv_at hl 0 rfl) ?_
  refine lv_iload_n hx hb dL_bears_3 rfl (lv_at hl 1 rfl) ?_
  refine lv_iload_n hx hb dL_bears_4 rfl (lv_at hl 2 rfl) ?_
  refine rd_i (va_runV (As := [.int (nI f0), .int (nI t0)]) (rest := [.int 0, .ref o]) ⟨hx, hb, hml, hown, hts⟩ (M_X4_bears_ok2 l D cI b a a2 σ σ2 ω f0 t0 h1 h2 hf ht hft) (cwV 2 hts gL_bears_X4_bears rfl rfl rfl (by decide +kernel) ⟨Nat.le_of_ble_eq_true rfl, Nat.le_of_ble_eq_true rfl⟩) (rdV hK hP [0, 1, 2, 3, 4, 5, 6, 7, 8, 9, 10, 11, 12, 13, 14, 15, 16, 17, 18, 19, 20, 21, 22, 23, 24, 25, 26, 27, 28, 29, 30, 31, 32, 33, 34, 35] [0] rfl rfl (ci := 4) (q0 := 0) rfl rfl) rfl rfl hl.1 rfl (lv_room (Nat.le_of_ble_eq_true rfl)) dL_bears_5 ⟨Nat.zero_le _, Nat.zero_le _⟩) ?_
  refine lv_i2l hx hb dL_bears_8 rfl ?_
  refine va_last hx hb hK.1 hP hD hS 36 1 rfl rfl (by unfold vp_in; decide) dL_bears_9 (fun H locs hP hD hS => ?_)
  have hP : va_P D vwCl ((wLan b a a2 cI σ σ2 ω) ++ [(o, .inl (cJ, 1, .inr (.inl (vp_updL g 0 ((bbM (bb ((σ 3)) ((σ 4)) t0 (f0 - t0))).toInt64)))))]) H := hP
  have hD : va_D A ((wLan b a a2 cI σ σ2 ω) ++ [(o, .inl (cJ, 1, .inr (.inl (vp_updL g 0 ((bbM (bb ((σ 3)) ((σ 4)) t0 (f0 - t0))).toInt64)))))]) := hD
  refine lv_goto (tgt := 17) hx hb dL_bears_10 (by decide) ?_
  refine lv_iconst (v := 0) hx hb dL_bears_17 (by decide) ?_
  subst hQ
  exact ret_wri hx hb hr rfl hlocks hP hD hS (show 0 = 0 from rfl) dL_bears_18
set_option maxHeartbeats 4000000 in
set_option maxRecDepth 100000 in
theorem M_L_bears_e1 (l : Launch) (D : va_G) (cI : ClassId) (b : Nat → Nat) (a : Nat → Nat) (a2 : Nat → Nat) (σ : St) (σ2 : St) (ω : St) (p0 : Int32) (p1 : Int32) (o : Nat) (g : Nat → Int64) (cJ : ClassId) (sz : Nat) (A9 : Nat → Prop) (hst : l.stackTraces = false) (h1 : ¬ ((0 ≤ p0 ∧ p0 ≤ 11) ∧ (0 ≤ p1 ∧ p1 ≤ 11))) : Met l yL_bears wsL_bears ({ frames := 7, cells := 1, slots := 6, locals := 104 } : Room) (hxPc [.ref (b 0), .int p0, .int p1, .ref o] D ((wLan b a a2 cI σ σ2 ω) ++ [(o, .inl (cJ, 1, .inr (.inl g)))]) [(cI, .int), (cJ, .long)] sz A9) (wrQi 1 D ((wLan b a a2 cI σ σ2 ω) ++ [(o, .inl (cJ, 1, .inr (.inl g)))]) (va_A ((wLan b a a2 cI σ σ2 ω) ++ [(o, .inl (cJ, 1, .inr (.inl g)))]) sz)) 1 6 (va_A ((wLan b a a2 cI σ σ2 ω) ++ [(o, .inl (cJ, 1, .inr (.inl g)))]) sz) := by
  refine my_ofWH (cc := cL_bears) (maxL := 5) (ret := (some .int)) (by decide) rfl ?_
  intro p e s m args below meth c s₁ B hml hv
  obtain ⟨⟨hargs, hsz, hP, hK, hD0⟩, hEX⟩ := hv
  have hx := B.exec
  have hb := B.bytes
  have hr := B.returns
  have hts := atoms_spec (ws := wsL_bears) B.pre
  have hown : s.vm.findClass RL = some m.cls := findClass_of_methodNamed B.named
  have hlocks := B.notSynchronized
  obtain ⟨_, hN⟩ := id hK
  subst hsz
  have hD := hD0.self (sz := s.heap.size)
  generalize hAe : va_A ((wLan b a a2 cI σ σ2 ω) ++ [(o, .inl (cJ, 1, .inr (.inl g)))]) s.heap.size = A at hD ⊢
  have hA : ∀ q : Nat, s.heap.size ≤ q → A q := fun q h => by rw [← hAe]; exact Or.inr h
  have hS : va_S A s.heap s.heap [] := va_S.rf
  have hP : va_P D vwCl ((wLan b a a2 cI σ σ2 ω) ++ [(o, .inl (cJ, 1, .inr (.inl g)))]) s.heap := hP
  refine my_abs (fun Q hQ => ?_)
  obtain ⟨ls, hl, hent⟩ := my_entry (m := m) (n := 5) hargs (Nat.le_of_ble_eq_true rfl)
  rw [hent]
  have hl : lv_has ls 5 [(0, .ref (b 0)), (1, .int p0), (2, .int p1), (3, .ref o)] := hl
  show W p l e ({ frames := 7, cells := 1, slots := 6, locals := 104 } : Room) s m args below meth c s.heap [] 0 0 Q (F0 m 0 ls [])
  refine lv_aload_n hx hb dL_bears_0 rfl (lv_at hl 3 rfl) ?_
  refine lv_iconst (v := 0) hx hb dL_bears_1 (by decide) ?_
  refine lv_aload_n hx hb dL_bears_2 rfl (lv_at hl 0 rfl) ?_
  refine lv_iload_n hx hb dL_bears_3 rfl (lv_at hl 1 rfl) ?_
  refine lv_iload_n hx hb dL_bears_4 rfl (lv_at hl 2 rfl) ?_
  refine ex_call (vx_runV (As := [.int p0, .int p1]) (rest := [.int 0, .ref o]) ⟨hx, hb, hml, hown, hts⟩ (M_X4_bears_e1 l D cI b a a2 σ σ2 ω p0 p1 A9 hst h1) (cwV 2 hts gL_bears_X4_bears rfl rfl rfl (by decide +kernel) ⟨Nat.le_of_ble_eq_true rfl, Nat.le_of_ble_eq_true rfl⟩) (exV hK hP hEX.1 [0, 1, 2, 3, 4, 5, 6, 7, 8, 9, 10, 11, 12, 13, 14, 15, 16, 17, 18, 19, 20, 21, 22, 23, 24, 25, 26, 27, 28, 29, 30, 31, 32, 33, 34, 35] [0] rfl rfl (ci := 4) (q0 := 0) rfl rfl) rfl rfl hl.1 rfl (lv_room (Nat.le_of_ble_eq_true rfl)) dL_bears_5 ⟨Nat.le_of_ble_eq_true rfl, Nat.le_of_ble_eq_true rfl⟩) hP hD hS (fun ce q9 H locs hP hD hS hce hcv hcl => ?_)
  refine vx_catch (own := RL) (name := "java/lang/IndexOutOfBoundsException") (E := "java/lang/IndexOutOfBoundsException") hown ([] : List ClassFile.ExceptionTableEntry) ⟨0, 10, 13, 13⟩ ([] : List ClassFile.ExceptionTableEntry) ((vx_table (x := yL_bears) B (hts _ List.mem_cons_self)).trans rfl) (fun z hz => nomatch hz) (by decide) (by decide) (hts (.classLink RL 13 "java/lang/IndexOutOfBoundsException") (by decide +kernel)) (dc_use rfl (hEX.1.1 (.castable "java/lang/IndexOutOfBoundsException" "java/lang/IndexOutOfBoundsException") (by decide +kernel))) hce hcv hcl ?_
  refine lv_astore (lv' := [(4, .ref q9), (0, .ref (b 0)), (1, .int p0), (2, .int p1), (3, .ref o)]) hx hb dL_bears_13 hl (by decide) rfl (fun ls hl => ?_)
  refine lv_iconst (v := 1) hx hb dL_bears_15 (by decide) ?_
  subst hQ
  exact ret_wri hx hb hr rfl hlocks hP hD hS (show 1 = 1 from rfl) dL_bears_16
set_option maxHeartbeats 4000000 in
set_option maxRecDepth 100000 in
theorem M_L_arrives_ok (l : Launch) (D : va_G) (cI : ClassId) (b : Nat → Nat) (a : Nat → Nat) (a2 : Nat → Nat) (σ : St) (σ2 : St) (ω : St) (cu : Nat) (h : Nat) (nc : Nat) (o : Nat) (g : Nat → Int64) (cJ : ClassId) (sz : Nat) (hok : okR σ h nc) (hbd : h < 2 ^ 29) (hcu : cu < nc) (h1 : (0 ≤ nI cu ∧ nI cu ≤ σ 17 0 - 1)) : Met l yL_arrives wsL_arrives ({ frames := 8, cells := 0, slots := 0, locals := 184 } : Room) (wrPc [.ref (b 0), .int (nI cu), .ref o] D ((wLan b a a2 cI σ σ2 ω) ++ [(o, .inl (cJ, 1, .inr (.inl g)))]) [(cI, .int), (cJ, .long)] sz) (wrQi 0 D ((wLan b a a2 cI σ (arrE σ cu) ω) ++ [(o, .inl (cJ, 1, .inr (.inl (vp_updL g 0 (arrR σ cu).toInt64))))]) (va_A ((wLan b a a2 cI σ σ2 ω) ++ [(o, .inl (cJ, 1, .inr (.inl g)))]) sz)) 0 0 (va_A ((wLan b a a2 cI σ σ2 ω) ++ [(o, .inl (cJ, 1, .inr (.inl g)))]) sz) := by
  refine my_ofWH (cc := cL_arrives) (maxL := 4) (ret := (some .int)) (by decide) rfl ?_
  intro p e s m args below meth c s₁ B hml hv
  obtain ⟨hargs, hsz, hP, hK, hD0⟩ := hv
  have hx := B.exec
  have hb := B.bytes
  have hr := B.returns
  have hts := atoms_spec (ws := wsL_arrives) B.pre
  have hown : s.vm.findClass RL = some m.cls := findClass_of_methodNamed B.named
  have hlocks := B.notSynchronized
  obtain ⟨_, hN⟩ := id hK
  subst hsz
  have hD := hD0.self (sz := s.heap.size)
  generalize hAe : va_A ((wLan b a a2 cI σ σ2 ω) ++ [(o, .inl (cJ, 1, .inr (.inl g)))]) s.heap.size = A at hD ⊢
  have hA : ∀ q : Nat, s.heap.size ≤ q → A q := fun q h => by rw [← hAe]; exact Or.inr h
  have hS : va_S A s.heap s.heap [] := va_S.rf
  have hP : va_P D vwCl ((wLan b a a2 cI σ σ2 ω) ++ [(o, .inl (cJ, 1, .inr (.inl g)))]) s.heap := hP
  refine my_abs (fun Q hQ => ?_)
  obtain ⟨ls, hl, hent⟩ := my_entry (m := m) (n := 4) hargs (Nat.le_of_ble_eq_true rfl)
  rw [hent]
  have hl : lv_has ls 4 [(0, .ref (b 0)), (1, .int (nI cu)), (2, .ref o)] := hl
  show W p l e ({ frames := 8, cells := 0, slots := 0, locals := 184 } : Room) s m args below meth c s.heap [] 0 0 Q (F0 m 0 ls [])
  refine lv_aload_n hx hb dL_arrives_0 rfl (lv_at hl 2 rfl) ?_
  refine lv_iconst (v := 0) hx hb dL_arrives_1 (by decide) ?_
  refine lv_aload_n hx hb dL_arrives_2 rfl (lv_at hl 0 rfl) ?_
  refine lv_iload_n hx hb dL_arrives_3 rfl (lv_at hl 1 rfl) ?_
  refine wr_i (wn := (wLan b a a2 cI σ (arrE σ cu) ω) ++ [(o, .inl (cJ, 1, .inr (.inl g)))]) (va_runV (As := [.int (nI cu)]) (rest := [.int 0, .ref o]) ⟨hx, hb, hml, hown, hts⟩ (M_X4_arrives_ok l D cI b a a2 σ σ2 ω cu h nc _ hok hbd hcu h1) (cwV 1 hts gL_arrives_X4_arrives rfl rfl rfl (by decide +kernel) ⟨Nat.le_of_ble_eq_true rfl, Nat.le_of_ble_eq_true rfl⟩) (wrV hK hP hD [0, 1, 2, 3, 4, 5, 6, 7, 8, 9, 10, 11, 12, 13, 14, 15, 16, 17, 18, 19, 20, 21, 22, 23, 24, 25, 26, 27, 28, 29, 30, 31, 32, 33, 34, 35] [0] rfl rfl rfl (ci := 4) (q0 := 0) rfl rfl) rfl rfl hl.1 rfl (lv_room (Nat.le_of_ble_eq_true rfl)) dL_arrives_4 ⟨Nat.le_of_ble_eq_true rfl, Nat.le_of_ble_eq_true rfl⟩) hP hD hS hA [0, 1, 2, 3, 4, 5, 6, 7, 8, 9, 10, 11, 12, 13, 14, 15, 16, 17, 18, 19, 20, 21, 22, 23, 24, 25, 26, 27, 28, 29, 30, 31, 32, 33, 34, 35] [36] [1, 2, 3, 4, 5, 6, 7, 8, 9, 10, 11, 12, 13, 14, 15, 16, 17, 18, 19, 20, 21, 22, 23, 24, 25, 26, 27, 28, 29, 30, 31, 32, 33, 34, 35, 36, 0] rfl rfl rfl rfl rfl rfl (fun H locs hP hD hS => ?_)
  generalize eσ_1 : arrE σ cu = σ_1 at hP hD
  refine lv_i2l hx hb dL_arrives_7 rfl ?_
  refine va_last hx hb hK.1 hP hD hS 36 1 rfl rfl (by unfold vp_in; decide) dL_arrives_8 (fun H locs hP hD hS => ?_)
  have hP : va_P D vwCl ((wLan b a a2 cI σ σ_1 ω) ++ [(o, .inl (cJ, 1, .inr (.inl (vp_updL g 0 ((arrR σ cu).toInt64)))))]) H := hP
  have hD : va_D A ((wLan b a a2 cI σ σ_1 ω) ++ [(o, .inl (cJ, 1, .inr (.inl (vp_updL g 0 ((arrR σ cu).toInt64)))))]) := hD
  refine lv_goto (tgt := 15) hx hb dL_arrives_9 (by decide) ?_
  refine lv_iconst (v := 0) hx hb dL_arrives_15 (by decide) ?_
  subst hQ
  have hst_s2 : σ_1 = arrE σ cu := by subst_vars; rfl
  rw [hst_s2] at hP hD
  exact ret_wri hx hb hr rfl hlocks hP hD hS (show 0 = 0 from rfl) dL_arrives_16
set_option maxHeartbeats 4000000 in
set_option maxRecDepth 100000 in
theorem M_L_arrives_e1 (l : Launch) (D : va_G) (cI : ClassId) (b : Nat → Nat) (a : Nat → Nat) (a2 : Nat → Nat) (σ : St) (σ2 : St) (ω : St) (p0 : Int32) (o : Nat) (g : Nat → Int64) (cJ : ClassId) (sz : Nat) (A9 : Nat → Prop) (hst : l.stackTraces = false) (h1 : ¬ (0 ≤ p0 ∧ p0 ≤ σ 17 0 - 1)) : Met l yL_arrives wsL_arrives ({ frames := 7, cells := 1, slots := 6, locals := 103 } : Room) (hxPc [.ref (b 0), .int p0, .ref o] D ((wLan b a a2 cI σ σ2 ω) ++ [(o, .inl (cJ, 1, .inr (.inl g)))]) [(cI, .int), (cJ, .long)] sz A9) (wrQi 1 D ((wLan b a a2 cI σ σ2 ω) ++ [(o, .inl (cJ, 1, .inr (.inl g)))]) (va_A ((wLan b a a2 cI σ σ2 ω) ++ [(o, .inl (cJ, 1, .inr (.inl g)))]) sz)) 1 6 (va_A ((wLan b a a2 cI σ σ2 ω) ++ [(o, .inl (cJ, 1, .inr (.inl g)))]) sz) := by
  refine my_ofWH (cc := cL_arrives) (maxL := 4) (ret := (some .int)) (by decide) rfl ?_
  intro p e s m args below meth c s₁ B hml hv
  obtain ⟨⟨hargs, hsz, hP, hK, hD0⟩, hEX⟩ := hv
  have hx := B.exec
  have hb := B.bytes
  have hr := B.returns
  have hts := atoms_spec (ws := wsL_arrives) B.pre
  have hown : s.vm.findClass RL = some m.cls := findClass_of_methodNamed B.named
  have hlocks := B.notSynchronized
  obtain ⟨_, hN⟩ := id hK
  subst hsz
  have hD := hD0.self (sz := s.heap.size)
  generalize hAe : va_A ((wLan b a a2 cI σ σ2 ω) ++ [(o, .inl (cJ, 1, .inr (.inl g)))]) s.heap.size = A at hD ⊢
  have hA : ∀ q : Nat, s.heap.size ≤ q → A q := fun q h => by rw [← hAe]; exact Or.inr h
  have hS : va_S A s.heap s.heap [] := va_S.rf
  have hP : va_P D vwCl ((wLan b a a2 cI σ σ2 ω) ++ [(o, .inl (cJ, 1, .inr (.inl g)))]) s.heap := hP
  refine my_abs (fun Q hQ => ?_)
  obtain ⟨ls, hl, hent⟩ := my_entry (m := m) (n := 4) hargs (Nat.le_of_ble_eq_true rfl)
  rw [hent]
  have hl : lv_has ls 4 [(0, .ref (b 0)), (1, .int p0), (2, .ref o)] := hl
  show W p l e ({ frames := 7, cells := 1, slots := 6, locals := 103 } : Room) s m args below meth c s.heap [] 0 0 Q (F0 m 0 ls [])
  refine lv_aload_n hx hb dL_arrives_0 rfl (lv_at hl 2 rfl) ?_
  refine lv_iconst (v := 0) hx hb dL_arrives_1 (by decide) ?_
  refine lv_aload_n hx hb dL_arrives_2 rfl (lv_at hl 0 rfl) ?_
  refine lv_iload_n hx hb dL_arrives_3 rfl (lv_at hl 1 rfl) ?_
  refine ex_call (vx_runV (As := [.int p0]) (rest := [.int 0, .ref o]) ⟨hx, hb, hml, hown, hts⟩ (M_X4_arrives_e1 l D cI b a a2 σ σ2 ω p0 A9 hst h1) (cwV 1 hts gL_arrives_X4_arrives rfl rfl rfl (by decide +kernel) ⟨Nat.le_of_ble_eq_true rfl, Nat.le_of_ble_eq_true rfl⟩) (exV hK hP hEX.1 [0, 1, 2, 3, 4, 5, 6, 7, 8, 9, 10, 11, 12, 13, 14, 15, 16, 17, 18, 19, 20, 21, 22, 23, 24, 25, 26, 27, 28, 29, 30, 31, 32, 33, 34, 35] [0] rfl rfl (ci := 4) (q0 := 0) rfl rfl) rfl rfl hl.1 rfl (lv_room (Nat.le_of_ble_eq_true rfl)) dL_arrives_4 ⟨Nat.le_of_ble_eq_true rfl, Nat.le_of_ble_eq_true rfl⟩) hP hD hS (fun ce q9 H locs hP hD hS hce hcv hcl => ?_)
  refine vx_catch (own := RL) (name := "java/lang/IndexOutOfBoundsException") (E := "java/lang/IndexOutOfBoundsException") hown ([] : List ClassFile.ExceptionTableEntry) ⟨0, 9, 12, 13⟩ ([] : List ClassFile.ExceptionTableEntry) ((vx_table (x := yL_arrives) B (hts _ List.mem_cons_self)).trans rfl) (fun z hz => nomatch hz) (by decide) (by decide) (hts (.classLink RL 13 "java/lang/IndexOutOfBoundsException") (by decide +kernel)) (dc_use rfl (hEX.1.1 (.castable "java/lang/IndexOutOfBoundsException" "java/lang/IndexOutOfBoundsException") (by decide +kernel))) hce hcv hcl ?_
  refine lv_astore_n (lv' := [(3, .ref q9), (0, .ref (b 0)), (1, .int p0), (2, .ref o)]) hx hb dL_arrives_12 rfl hl (by decide) rfl (fun ls hl => ?_)
  refine lv_iconst (v := 1) hx hb dL_arrives_13 (by decide) ?_
  subst hQ
  exact ret_wri hx hb hr rfl hlocks hP hD hS (show 1 = 1 from rfl) dL_arrives_14
set_option maxHeartbeats 4000000 in
set_option maxRecDepth 100000 in
theorem M_L_best_ok (l : Launch) (D : va_G) (cI : ClassId) (b : Nat → Nat) (a : Nat → Nat) (a2 : Nat → Nat) (σ : St) (σ2 : St) (ω : St) (cu : Nat) (h : Nat) (nc : Nat) (o : Nat) (g : Nat → Int64) (cJ : ClassId) (sz : Nat) (hok : okR σ h nc) (hbd : h < 2 ^ 29) (hcu : cu < nc) (h1 : (0 ≤ nI cu ∧ nI cu ≤ σ 17 0 - 1)) : Met l yL_best wsL_best ({ frames := 8, cells := 0, slots := 0, locals := 185 } : Room) (wrPc [.ref (b 0), .int (nI cu), .ref o] D ((wLan b a a2 cI σ σ2 ω) ++ [(o, .inl (cJ, 1, .inr (.inl g)))]) [(cI, .int), (cJ, .long)] sz) (wrQi 0 D ((wLan b a a2 cI σ (bcE σ cu 21 σ2) ω) ++ [(o, .inl (cJ, 1, .inr (.inl (vp_updL g 0 (bcR σ cu 21).toInt64))))]) (va_A ((wLan b a a2 cI σ σ2 ω) ++ [(o, .inl (cJ, 1, .inr (.inl g)))]) sz)) 0 0 (va_A ((wLan b a a2 cI σ σ2 ω) ++ [(o, .inl (cJ, 1, .inr (.inl g)))]) sz) := by
  refine my_ofWH (cc := cL_best) (maxL := 4) (ret := (some .int)) (by decide) rfl ?_
  intro p e s m args below meth c s₁ B hml hv
  obtain ⟨hargs, hsz, hP, hK, hD0⟩ := hv
  have hx := B.exec
  have hb := B.bytes
  have hr := B.returns
  have hts := atoms_spec (ws := wsL_best) B.pre
  have hown : s.vm.findClass RL = some m.cls := findClass_of_methodNamed B.named
  have hlocks := B.notSynchronized
  obtain ⟨_, hN⟩ := id hK
  subst hsz
  have hD := hD0.self (sz := s.heap.size)
  generalize hAe : va_A ((wLan b a a2 cI σ σ2 ω) ++ [(o, .inl (cJ, 1, .inr (.inl g)))]) s.heap.size = A at hD ⊢
  have hA : ∀ q : Nat, s.heap.size ≤ q → A q := fun q h => by rw [← hAe]; exact Or.inr h
  have hS : va_S A s.heap s.heap [] := va_S.rf
  have hP : va_P D vwCl ((wLan b a a2 cI σ σ2 ω) ++ [(o, .inl (cJ, 1, .inr (.inl g)))]) s.heap := hP
  refine my_abs (fun Q hQ => ?_)
  obtain ⟨ls, hl, hent⟩ := my_entry (m := m) (n := 4) hargs (Nat.le_of_ble_eq_true rfl)
  rw [hent]
  have hl : lv_has ls 4 [(0, .ref (b 0)), (1, .int (nI cu)), (2, .ref o)] := hl
  show W p l e ({ frames := 8, cells := 0, slots := 0, locals := 185 } : Room) s m args below meth c s.heap [] 0 0 Q (F0 m 0 ls [])
  refine lv_aload_n hx hb dL_best_0 rfl (lv_at hl 2 rfl) ?_
  refine lv_iconst (v := 0) hx hb dL_best_1 (by decide) ?_
  refine lv_aload_n hx hb dL_best_2 rfl (lv_at hl 0 rfl) ?_
  refine lv_iload_n hx hb dL_best_3 rfl (lv_at hl 1 rfl) ?_
  refine wr_i (wn := (wLan b a a2 cI σ (bcE σ cu 21 σ2) ω) ++ [(o, .inl (cJ, 1, .inr (.inl g)))]) (va_runV (As := [.int (nI cu)]) (rest := [.int 0, .ref o]) ⟨hx, hb, hml, hown, hts⟩ (M_X4_best_ok l D cI b a a2 σ σ2 ω cu h nc _ hok hbd hcu h1) (cwV 1 hts gL_best_X4_best rfl rfl rfl (by decide +kernel) ⟨Nat.le_of_ble_eq_true rfl, Nat.le_of_ble_eq_true rfl⟩) (wrV hK hP hD [0, 1, 2, 3, 4, 5, 6, 7, 8, 9, 10, 11, 12, 13, 14, 15, 16, 17, 18, 19, 20, 21, 22, 23, 24, 25, 26, 27, 28, 29, 30, 31, 32, 33, 34, 35] [0] rfl rfl rfl (ci := 4) (q0 := 0) rfl rfl) rfl rfl hl.1 rfl (lv_room (Nat.le_of_ble_eq_true rfl)) dL_best_4 ⟨Nat.le_of_ble_eq_true rfl, Nat.le_of_ble_eq_true rfl⟩) hP hD hS hA [0, 1, 2, 3, 4, 5, 6, 7, 8, 9, 10, 11, 12, 13, 14, 15, 16, 17, 18, 19, 20, 21, 22, 23, 24, 25, 26, 27, 28, 29, 30, 31, 32, 33, 34, 35] [36] [1, 2, 3, 4, 5, 6, 7, 8, 9, 10, 11, 12, 13, 14, 15, 16, 17, 18, 19, 20, 21, 22, 23, 24, 25, 26, 27, 28, 29, 30, 31, 32, 33, 34, 35, 36, 0] rfl rfl rfl rfl rfl rfl (fun H locs hP hD hS => ?_)
  generalize eσ_1 : bcE σ cu 21 σ2 = σ_1 at hP hD
  refine lv_i2l hx hb dL_best_7 rfl ?_
  refine va_last hx hb hK.1 hP hD hS 36 1 rfl rfl (by unfold vp_in; decide) dL_best_8 (fun H locs hP hD hS => ?_)
  have hP : va_P D vwCl ((wLan b a a2 cI σ σ_1 ω) ++ [(o, .inl (cJ, 1, .inr (.inl (vp_updL g 0 ((bcR σ cu 21).toInt64)))))]) H := hP
  have hD : va_D A ((wLan b a a2 cI σ σ_1 ω) ++ [(o, .inl (cJ, 1, .inr (.inl (vp_updL g 0 ((bcR σ cu 21).toInt64)))))]) := hD
  refine lv_goto (tgt := 15) hx hb dL_best_9 (by decide) ?_
  refine lv_iconst (v := 0) hx hb dL_best_15 (by decide) ?_
  subst hQ
  have hst_s2 : σ_1 = bcE σ cu 21 σ2 := by subst_vars; rfl
  rw [hst_s2] at hP hD
  exact ret_wri hx hb hr rfl hlocks hP hD hS (show 0 = 0 from rfl) dL_best_16
set_option maxHeartbeats 4000000 in
set_option maxRecDepth 100000 in
theorem M_L_best_e1 (l : Launch) (D : va_G) (cI : ClassId) (b : Nat → Nat) (a : Nat → Nat) (a2 : Nat → Nat) (σ : St) (σ2 : St) (ω : St) (p0 : Int32) (o : Nat) (g : Nat → Int64) (cJ : ClassId) (sz : Nat) (A9 : Nat → Prop) (hst : l.stackTraces = false) (h1 : ¬ (0 ≤ p0 ∧ p0 ≤ σ 17 0 - 1)) : Met l yL_best wsL_best ({ frames := 7, cells := 1, slots := 6, locals := 104 } : Room) (hxPc [.ref (b 0), .int p0, .ref o] D ((wLan b a a2 cI σ σ2 ω) ++ [(o, .inl (cJ, 1, .inr (.inl g)))]) [(cI, .int), (cJ, .long)] sz A9) (wrQi 1 D ((wLan b a a2 cI σ σ2 ω) ++ [(o, .inl (cJ, 1, .inr (.inl g)))]) (va_A ((wLan b a a2 cI σ σ2 ω) ++ [(o, .inl (cJ, 1, .inr (.inl g)))]) sz)) 1 6 (va_A ((wLan b a a2 cI σ σ2 ω) ++ [(o, .inl (cJ, 1, .inr (.inl g)))]) sz) := by
  refine my_ofWH (cc := cL_best) (maxL := 4) (ret := (some .int)) (by decide) rfl ?_
  intro p e s m args below meth c s₁ B hml hv
  obtain ⟨⟨hargs, hsz, hP, hK, hD0⟩, hEX⟩ := hv
  have hx := B.exec
  have hb := B.bytes
  have hr := B.returns
  have hts := atoms_spec (ws := wsL_best) B.pre
  have hown : s.vm.findClass RL = some m.cls := findClass_of_methodNamed B.named
  have hlocks := B.notSynchronized
  obtain ⟨_, hN⟩ := id hK
  subst hsz
  have hD := hD0.self (sz := s.heap.size)
  generalize hAe : va_A ((wLan b a a2 cI σ σ2 ω) ++ [(o, .inl (cJ, 1, .inr (.inl g)))]) s.heap.size = A at hD ⊢
  have hA : ∀ q : Nat, s.heap.size ≤ q → A q := fun q h => by rw [← hAe]; exact Or.inr h
  have hS : va_S A s.heap s.heap [] := va_S.rf
  have hP : va_P D vwCl ((wLan b a a2 cI σ σ2 ω) ++ [(o, .inl (cJ, 1, .inr (.inl g)))]) s.heap := hP
  refine my_abs (fun Q hQ => ?_)
  obtain ⟨ls, hl, hent⟩ := my_entry (m := m) (n := 4) hargs (Nat.le_of_ble_eq_true rfl)
  rw [hent]
  have hl : lv_has ls 4 [(0, .ref (b 0)), (1, .int p0), (2, .ref o)] := hl
  show W p l e ({ frames := 7, cells := 1, slots := 6, locals := 104 } : Room) s m args below meth c s.heap [] 0 0 Q (F0 m 0 ls [])
  refine lv_aload_n hx hb dL_best_0 rfl (lv_at hl 2 rfl) ?_
  refine lv_iconst (v := 0) hx hb dL_best_1 (by decide) ?_
  refine lv_aload_n hx hb dL_best_2 rfl (lv_at hl 0 rfl) ?_
  refine lv_iload_n hx hb dL_best_3 rfl (lv_at hl 1 rfl) ?_
  refine ex_call (vx_runV (As := [.int p0]) (rest := [.int 0, .ref o]) ⟨hx, hb, hml, hown, hts⟩ (M_X4_best_e1 l D cI b a a2 σ σ2 ω p0 A9 hst h1) (cwV 1 hts gL_best_X4_best rfl rfl rfl (by decide +kernel) ⟨Nat.le_of_ble_eq_true rfl, Nat.le_of_ble_eq_true rfl⟩) (exV hK hP hEX.1 [0, 1, 2, 3, 4, 5, 6, 7, 8, 9, 10, 11, 12, 13, 14, 15, 16, 17, 18, 19, 20, 21, 22, 23, 24, 25, 26, 27, 28, 29, 30, 31, 32, 33, 34, 35] [0] rfl rfl (ci := 4) (q0 := 0) rfl rfl) rfl rfl hl.1 rfl (lv_room (Nat.le_of_ble_eq_true rfl)) dL_best_4 ⟨Nat.le_of_ble_eq_true rfl, Nat.le_of_ble_eq_true rfl⟩) hP hD hS (fun ce q9 H locs hP hD hS hce hcv hcl => ?_)
  refine vx_catch (own := RL) (name := "java/lang/IndexOutOfBoundsException") (E := "java/lang/IndexOutOfBoundsException") hown ([] : List ClassFile.ExceptionTableEntry) ⟨0, 9, 12, 13⟩ ([] : List ClassFile.ExceptionTableEntry) ((vx_table (x := yL_best) B (hts _ List.mem_cons_self)).trans rfl) (fun z hz => nomatch hz) (by decide) (by decide) (hts (.classLink RL 13 "java/lang/IndexOutOfBoundsException") (by decide +kernel)) (dc_use rfl (hEX.1.1 (.castable "java/lang/IndexOutOfBoundsException" "java/lang/IndexOutOfBoundsException") (by decide +kernel))) hce hcv hcl ?_
  refine lv_astore_n (lv' := [(3, .ref q9), (0, .ref (b 0)), (1, .int p0), (2, .ref o)]) hx hb dL_best_12 rfl hl (by decide) rfl (fun ls hl => ?_)
  refine lv_iconst (v := 1) hx hb dL_best_13 (by decide) ?_
  subst hQ
  exact ret_wri hx hb hr rfl hlocks hP hD hS (show 1 = 1 from rfl) dL_best_14
