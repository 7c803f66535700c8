set_option maxHeartbeats 4000000 in
set_option maxRecDepth 100000 in
theorem M_L_setWarm_ok (l : Launch) (D : va_G) (cI : ClassId) (b : Nat → Nat) (a : Nat → Nat) (a2 : Nat → Nat) (σ : St) (σ2 : St) (ω : St) (dy : Nat) (p1 : Int32) (o : Nat) (g : Nat → Int64) (cJ : ClassId) (sz : Nat) (h0 : dy < 14) (h1 : (0 ≤ nI dy ∧ nI dy ≤ 13)) (h2 : ((-9) ≤ p1 ∧ p1 ≤ 9)) : Met l yL_setWarm wsL_setWarm ({ frames := 2, cells := 0, slots := 0, locals := 45 } : Room) (wrPc [.ref (b 0), .int (nI dy), .int p1, .ref o] D ((wLan b a a2 cI σ σ2 ω) ++ [(o, .inl (cJ, 1, .inr (.inl g)))]) [(cI, .int), (cJ, .long)] sz) (wrQi 0 D ((wLan b a a2 cI (put σ 1 (upd (σ 1) dy p1)) σ2 ω) ++ [(o, .inl (cJ, 1, .inr (.inl (vp_updL g 0 (σ 1 dy).toInt64))))]) (va_A ((wLan b a a2 cI σ σ2 ω) ++ [(o, .inl (cJ, 1, .inr (.inl g)))]) sz)) 0 0 (va_A ((wLan b a a2 cI σ σ2 ω) ++ [(o, .inl (cJ, 1, .inr (.inl g)))]) sz) := by
  refine my_ofWH (cc := cL_setWarm) (maxL := 5) (ret := (some .int)) (by decide) rfl ?_
  intro p e s m args below meth c s₁ B hml hv
  obtain ⟨hargs, hsz, hP, hK, hD0⟩ := hv
  have hx := B.exec
  have hb := B.bytes
  have hr := B.returns
  have hts := atoms_spec (ws := wsL_setWarm) B.pre
  have hown : s.vm.findClass RL = some m.cls := findClass_of_methodNamed B.named
  have hlocks := B.notSynchronized
  obtain ⟨_, hN⟩ := id hK
  subst hsz
  have hD := hD0.self (sz := s.heap.size)
  generalize hAe : va_A ((wLan b a a2 cI σ σ2 ω) ++ [(o, .inl (cJ, 1, .inr (.inl g)))]) s.heap.size = A at hD ⊢
  have hA : ∀ q : Nat, s.heap.size ≤ q → A q := fun q h => by rw [← hAe]; exact Or.inr h
  have hS : va_S A s.heap s.heap [] := va_S.rf
  have hP : va_P D vwCl ((wLan b a a2 cI σ σ2 ω) ++ [(o, .inl (cJ, 1, .inr (.inl g)))]) s.heap := hP
  refine my_abs (fun Q hQ => ?_)
  obtain ⟨ls, hl, hent⟩ := my_entry (m := m) (n := 5) hargs (Nat.le_of_ble_eq_true rfl)
  rw [hent]
  have hl : lv_has ls 5 [(0, .ref (b 0)), (1, .int (nI dy)), (2, .int p1), (3, .ref o)] := hl
  show W p l e ({ frames := 2, cells := 0, slots := 0, locals := 45 } : Room) s m args below meth c s.heap [] 0 0 Q (F0 m 0 ls [])
  refine lv_aload_n hx hb dL_setWarm_0 rfl (lv_at hl 3 rfl) ?_
  refine lv_iconst (v := 0) hx hb dL_setWarm_1 (by decide) ?_
  refine lv_aload_n hx hb dL_setWarm_2 rfl (lv_at hl 0 rfl) ?_
  refine lv_iload_n hx hb dL_setWarm_3 rfl (lv_at hl 1 rfl) ?_
  refine lv_iload_n hx hb dL_setWarm_4 rfl (lv_at hl 2 rfl) ?_
  refine wr_i (wn := (wTopE b a a2 ++ (wWag b cI ω ++ (wRivE a cI (σ 0 0) (σ 16 0) (upd ((σ 1)) dy p1) (σ 2) (σ 3) (σ 4) (σ 17 0) (σ 5) (σ 6) (σ 7) (σ 8) (σ 9) (σ 10) (σ 11) (σ 12) (σ 13) ++ wRiv a2 cI σ2))) ++ [(o, .inl (cJ, 1, .inr (.inl g)))]) (va_runV (As := [.int (nI dy), .int p1]) (rest := [.int 0, .ref o]) ⟨hx, hb, hml, hown, hts⟩ (M_X4_setWarm_ok l D cI b a a2 σ σ2 ω dy p1 _ h0 h1 h2) (cwV 2 hts gL_setWarm_X4_setWarm rfl rfl rfl (by decide +kernel) ⟨Nat.le_of_ble_eq_true rfl, Nat.le_of_ble_eq_true rfl⟩) (wrV hK hP hD [0, 1, 2, 3, 4, 5, 6, 7, 8, 9, 10, 11, 12, 13, 14, 15, 16, 17, 18, 19, 20, 21, 22, 23, 24, 25, 26, 27, 28, 29, 30, 31, 32, 33, 34, 35] [0] rfl rfl rfl (ci := 4) (q0 := 0) rfl rfl) rfl rfl hl.1 rfl (lv_room (Nat.le_of_ble_eq_true rfl)) dL_setWarm_5 ⟨Nat.le_of_ble_eq_true rfl, Nat.le_of_ble_eq_true rfl⟩) hP hD hS hA [0, 1, 2, 3, 4, 5, 6, 7, 8, 9, 10, 11, 12, 13, 14, 15, 16, 17, 18, 19, 20, 21, 22, 23, 24, 25, 26, 27, 28, 29, 30, 31, 32, 33, 34, 35] [36] [1, 2, 3, 4, 5, 6, 7, 8, 9, 10, 11, 12, 13, 14, 15, 16, 17, 18, 19, 20, 21, 22, 23, 24, 25, 26, 27, 28, 29, 30, 31, 32, 33, 34, 35, 36, 0] rfl rfl rfl rfl rfl rfl (fun H locs hP hD hS => ?_)
  refine lv_i2l hx hb dL_setWarm_8 rfl ?_
  refine va_last hx hb hK.1 hP hD hS 36 1 rfl rfl (by unfold vp_in; decide) dL_setWarm_9 (fun H locs hP hD hS => ?_)
  have hP : va_P D vwCl ((wTopE b a a2 ++ (wWag b cI ω ++ (wRivE a cI (σ 0 0) (σ 16 0) (upd ((σ 1)) dy p1) (σ 2) (σ 3) (σ 4) (σ 17 0) (σ 5) (σ 6) (σ 7) (σ 8) (σ 9) (σ 10) (σ 11) (σ 12) (σ 13) ++ wRiv a2 cI σ2))) ++ [(o, .inl (cJ, 1, .inr (.inl (vp_updL g 0 (((σ 1) dy).toInt64)))))]) H := hP
  have hD : va_D A ((wTopE b a a2 ++ (wWag b cI ω ++ (wRivE a cI (σ 0 0) (σ 16 0) (upd ((σ 1)) dy p1) (σ 2) (σ 3) (σ 4) (σ 17 0) (σ 5) (σ 6) (σ 7) (σ 8) (σ 9) (σ 10) (σ 11) (σ 12) (σ 13) ++ wRiv a2 cI σ2))) ++ [(o, .inl (cJ, 1, .inr (.inl (vp_updL g 0 (((σ 1) dy).toInt64)))))]) := hD
  refine lv_goto (tgt := 21) hx hb dL_setWarm_10 (by decide) ?_
  refine lv_iconst (v := 0) hx hb dL_setWarm_21 (by decide) ?_
  subst hQ
  have hP : va_P D vwCl ((wLan b a a2 cI (put σ 1 (upd ((σ 1)) dy p1)) σ2 ω) ++ [(o, .inl (cJ, 1, .inr (.inl (vp_updL g 0 (((σ 1) dy).toInt64)))))]) H := hP
  have hD : va_D A ((wLan b a a2 cI (put σ 1 (upd ((σ 1)) dy p1)) σ2 ω) ++ [(o, .inl (cJ, 1, .inr (.inl (vp_updL g 0 (((σ 1) dy).toInt64)))))]) := hD
  have k_1 : (upd ((σ 1)) dy p1 : Nat → Int32) = (upd (σ 1) dy p1) := by rfl
  have hst_s : put σ 1 (upd ((σ 1)) dy p1) = put σ 1 (upd (σ 1) dy p1) := put_cg rfl k_1
  rw [hst_s] at hP hD
  exact ret_wri hx hb hr rfl hlocks hP hD hS (show 0 = 0 from rfl) dL_setWarm_22
set_option maxHeartbeats 4000000 in
set_option maxRecDepth 100000 in
theorem M_L_setWarm_e1 (l : Launch) (D : va_G) (cI : ClassId) (b : Nat → Nat) (a : Nat → Nat) (a2 : Nat → Nat) (σ : St) (σ2 : St) (ω : St) (p0 : Int32) (p1 : Int32) (o : Nat) (g : Nat → Int64) (cJ : ClassId) (sz : Nat) (A9 : Nat → Prop) (hst : l.stackTraces = false) (h1 : ¬ (0 ≤ p0 ∧ p0 ≤ 13)) : Met l yL_setWarm wsL_setWarm ({ frames := 7, cells := 1, slots := 6, locals := 105 } : Room) (hxPc [.ref (b 0), .int p0, .int p1, .ref o] D ((wLan b a a2 cI σ σ2 ω) ++ [(o, .inl (cJ, 1, .inr (.inl g)))]) [(cI, .int), (cJ, .long)] sz A9) (wrQi 1 D ((wLan b a a2 cI σ σ2 ω) ++ [(o, .inl (cJ, 1, .inr (.inl g)))]) (va_A ((wLan b a a2 cI σ σ2 ω) ++ [(o, .inl (cJ, 1, .inr (.inl g)))]) sz)) 1 6 (va_A ((wLan b a a2 cI σ σ2 ω) ++ [(o, .inl (cJ, 1, .inr (.inl g)))]) sz) := by
  refine my_ofWH (cc := cL_setWarm) (maxL := 5) (ret := (some .int)) (by decide) rfl ?_
  intro p e s m args below meth c s₁ B hml hv
  obtain ⟨⟨hargs, hsz, hP, hK, hD0⟩, hEX⟩ := hv
  have hx := B.exec
  have hb := B.bytes
  have hr := B.returns
  have hts := atoms_spec (ws := wsL_setWarm) B.pre
  have hown : s.vm.findClass RL = some m.cls := findClass_of_methodNamed B.named
  have hlocks := B.notSynchronized
  obtain ⟨_, hN⟩ := id hK
  subst hsz
  have hD := hD0.self (sz := s.heap.size)
  generalize hAe : va_A ((wLan b a a2 cI σ σ2 ω) ++ [(o, .inl (cJ, 1, .inr (.inl g)))]) s.heap.size = A at hD ⊢
  have hA : ∀ q : Nat, s.heap.size ≤ q → A q := fun q h => by rw [← hAe]; exact Or.inr h
  have hS : va_S A s.heap s.heap [] := va_S.rf
  have hP : va_P D vwCl ((wLan b a a2 cI σ σ2 ω) ++ [(o, .inl (cJ, 1, .inr (.inl g)))]) s.heap := hP
  refine my_abs (fun Q hQ => ?_)
  obtain ⟨ls, hl, hent⟩ := my_entry (m := m) (n := 5) hargs (Nat.le_of_ble_eq_true rfl)
  rw [hent]
  have hl : lv_has ls 5 [(0, .ref (b 0)), (1, .int p0), (2, .int p1), (3, .ref o)] := hl
  show W p l e ({ frames := 7, cells := 1, slots := 6, locals := 105 } : Room) s m args below meth c s.heap [] 0 0 Q (F0 m 0 ls [])
  refine lv_aload_n hx hb dL_setWarm_0 rfl (lv_at hl 3 rfl) ?_
  refine lv_iconst (v := 0) hx hb dL_setWarm_1 (by decide) ?_
  refine lv_aload_n hx hb dL_setWarm_2 rfl (lv_at hl 0 rfl) ?_
  refine lv_iload_n hx hb dL_setWarm_3 rfl (lv_at hl 1 rfl) ?_
  refine lv_iload_n hx hb dL_setWarm_4 rfl (lv_at hl 2 rfl) ?_
  refine ex_call (vx_runV (As := [.int p0, .int p1]) (rest := [.int 0, .ref o]) ⟨hx, hb, hml, hown, hts⟩ (M_X4_setWarm_e1 l D cI b a a2 σ σ2 ω p0 p1 A9 hst h1) (cwV 2 hts gL_setWarm_X4_setWarm rfl rfl rfl (by decide +kernel) ⟨Nat.le_of_ble_eq_true rfl, Nat.le_of_ble_eq_true rfl⟩) (exV hK hP hEX.1 [0, 1, 2, 3, 4, 5, 6, 7, 8, 9, 10, 11, 12, 13, 14, 15, 16, 17, 18, 19, 20, 21, 22, 23, 24, 25, 26, 27, 28, 29, 30, 31, 32, 33, 34, 35] [0] rfl rfl (ci := 4) (q0 := 0) rfl rfl) rfl rfl hl.1 rfl (lv_room (Nat.le_of_ble_eq_true rfl)) dL_setWarm_5 ⟨Nat.le_of_ble_eq_true rfl, Nat.le_of_ble_eq_true rfl⟩) hP hD hS (fun ce q9 H locs hP hD hS hce hcv hcl => ?_)
  refine vx_catch (own := RL) (name := "java/lang/IndexOutOfBoundsException") (E := "java/lang/IndexOutOfBoundsException") hown ([] : List ClassFile.ExceptionTableEntry) ⟨0, 10, 13, 13⟩ ([⟨0, 10, 17, 15⟩] : List ClassFile.ExceptionTableEntry) ((vx_table (x := yL_setWarm) B (hts _ List.mem_cons_self)).trans rfl) (fun z hz => nomatch hz) (by decide) (by decide) (hts (.classLink RL 13 "java/lang/IndexOutOfBoundsException") (by decide +kernel)) (dc_use rfl (hEX.1.1 (.castable "java/lang/IndexOutOfBoundsException" "java/lang/IndexOutOfBoundsException") (by decide +kernel))) hce hcv hcl ?_
  refine lv_astore (lv' := [(4, .ref q9), (0, .ref (b 0)), (1, .int p0), (2, .int p1), (3, .ref o)]) hx hb dL_setWarm_13 hl (by decide) rfl (fun ls hl => ?_)
  refine lv_iconst (v := 1) hx hb dL_setWarm_15 (by decide) ?_
  subst hQ
  exact ret_wri hx hb hr rfl hlocks hP hD hS (show 1 = 1 from rfl) dL_setWarm_16
set_option maxHeartbeats 4000000 in
set_option maxRecDepth 100000 in
theorem M_L_setWarm_e2 (l : Launch) (D : va_G) (cI : ClassId) (b : Nat → Nat) (a : Nat → Nat) (a2 : Nat → Nat) (σ : St) (σ2 : St) (ω : St) (p0 : Int32) (p1 : Int32) (o : Nat) (g : Nat → Int64) (cJ : ClassId) (sz : Nat) (A9 : Nat → Prop) (hst : l.stackTraces = false) (h1 : (0 ≤ p0 ∧ p0 ≤ 13)) (h2 : ¬ ((-9) ≤ p1 ∧ p1 ≤ 9)) : Met l yL_setWarm wsL_setWarm ({ frames := 7, cells := 1, slots := 6, locals := 105 } : Room) (hxPc [.ref (b 0), .int p0, .int p1, .ref o] D ((wLan b a a2 cI σ σ2 ω) ++ [(o, .inl (cJ, 1, .inr (.inl g)))]) [(cI, .int), (cJ, .long)] sz A9) (wrQi 2 D ((wLan b a a2 cI σ σ2 ω) ++ [(o, .inl (cJ, 1, .inr (.inl g)))]) (va_A ((wLan b a a2 cI σ σ2 ω) ++ [(o, .inl (cJ, 1, .inr (.inl g)))]) sz)) 1 6 (va_A ((wLan b a a2 cI σ σ2 ω) ++ [(o, .inl (cJ, 1, .inr (.inl g)))]) sz) := by
  refine my_ofWH (cc := cL_setWarm) (maxL := 5) (ret := (some .int)) (by decide) rfl ?_
  intro p e s m args below meth c s₁ B hml hv
  obtain ⟨⟨hargs, hsz, hP, hK, hD0⟩, hEX⟩ := hv
  have hx := B.exec
  have hb := B.bytes
  have hr := B.returns
  have hts := atoms_spec (ws := wsL_setWarm) B.pre
  have hown : s.vm.findClass RL = some m.cls := findClass_of_methodNamed B.named
  have hlocks := B.notSynchronized
  obtain ⟨_, hN⟩ := id hK
  subst hsz
  have hD := hD0.self (sz := s.heap.size)
  generalize hAe : va_A ((wLan b a a2 cI σ σ2 ω) ++ [(o, .inl (cJ, 1, .inr (.inl g)))]) s.heap.size = A at hD ⊢
  have hA : ∀ q : Nat, s.heap.size ≤ q → A q := fun q h => by rw [← hAe]; exact Or.inr h
  have hS : va_S A s.heap s.heap [] := va_S.rf
  have hP : va_P D vwCl ((wLan b a a2 cI σ σ2 ω) ++ [(o, .inl (cJ, 1, .inr (.inl g)))]) s.heap := hP
  refine my_abs (fun Q hQ => ?_)
  obtain ⟨ls, hl, hent⟩ := my_entry (m := m) (n := 5) hargs (Nat.le_of_ble_eq_true rfl)
  rw [hent]
  have hl : lv_has ls 5 [(0, .ref (b 0)), (1, .int p0), (2, .int p1), (3, .ref o)] := hl
  show W p l e ({ frames := 7, cells := 1, slots := 6, locals := 105 } : Room) s m args below meth c s.heap [] 0 0 Q (F0 m 0 ls [])
  refine lv_aload_n hx hb dL_setWarm_0 rfl (lv_at hl 3 rfl) ?_
  refine lv_iconst (v := 0) hx hb dL_setWarm_1 (by decide) ?_
  refine lv_aload_n hx hb dL_setWarm_2 rfl (lv_at hl 0 rfl) ?_
  refine lv_iload_n hx hb dL_setWarm_3 rfl (lv_at hl 1 rfl) ?_
  refine lv_iload_n hx hb dL_setWarm_4 rfl (lv_at hl 2 rfl) ?_
  refine ex_call (vx_runV (As := [.int p0, .int p1]) (rest := [.int 0, .ref o]) ⟨hx, hb, hml, hown, hts⟩ (M_X4_setWarm_e2 l D cI b a a2 σ σ2 ω p0 p1 A9 hst h1 h2) (cwV 2 hts gL_setWarm_X4_setWarm rfl rfl rfl (by decide +kernel) ⟨Nat.le_of_ble_eq_true rfl, Nat.le_of_ble_eq_true rfl⟩) (exV hK hP hEX.1 [0, 1, 2, 3, 4, 5, 6, 7, 8, 9, 10, 11, 12, 13, 14, 15, 16, 17, 18, 19, 20, 21, 22, 23, 24, 25, 26, 27, 28, 29, 30, 31, 32, 33, 34, 35] [0] rfl rfl (ci := 4) (q0 := 0) rfl rfl) rfl rfl hl.1 rfl (lv_room (Nat.le_of_ble_eq_true rfl)) dL_setWarm_5 ⟨Nat.le_of_ble_eq_true rfl, Nat.le_of_ble_eq_true rfl⟩) hP hD hS (fun ce q9 H locs hP hD hS hce hcv hcl => ?_)
  refine vx_catch (own := RL) (name := "java/lang/IllegalArgumentException") (E := "java/lang/IllegalArgumentException") hown ([⟨0, 10, 13, 13⟩] : List ClassFile.ExceptionTableEntry) ⟨0, 10, 17, 15⟩ ([] : List ClassFile.ExceptionTableEntry) ((vx_table (x := yL_setWarm) B (hts _ List.mem_cons_self)).trans rfl) (fun z hz => by rcases List.mem_singleton.mp hz with rfl; exact Or.inr ⟨by decide, _, hts (.classLink RL 13 "java/lang/IndexOutOfBoundsException") (by decide +kernel), hEX.2.1⟩) (by decide) (by decide) (hts (.classLink RL 15 "java/lang/IllegalArgumentException") (by decide +kernel)) (dc_use rfl (hEX.1.1 (.castable "java/lang/IllegalArgumentException" "java/lang/IllegalArgumentException") (by decide +kernel))) hce hcv hcl ?_
  refine lv_astore (lv' := [(4, .ref q9), (0, .ref (b 0)), (1, .int p0), (2, .int p1), (3, .ref o)]) hx hb dL_setWarm_17 hl (by decide) rfl (fun ls hl => ?_)
  refine lv_iconst (v := 2) hx hb dL_setWarm_19 (by decide) ?_
  subst hQ
  exact ret_wri hx hb hr rfl hlocks hP hD hS (show 2 = 2 from rfl) dL_setWarm_20
