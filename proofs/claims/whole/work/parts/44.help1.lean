set_option maxHeartbeats 4000000 in
set_option maxRecDepth 100000 in
theorem M_L_setWarm_ok (l : Launch) (D : va_G) (cI : ClassId) (b : Nat → Nat) (a : Nat → Nat) (a2 : Nat → Nat) (σ : St) (σ2 : St) (ω : St) (dy : Nat) (p1 : Int32) (o : Nat) (g : Nat → Int64) (cJ : ClassId) (sz : Nat) (h0 : dy < 14) (h1 : (0 ≤ nI dy ∧ nI dy ≤ 13)) (h2 : ((-9) ≤ p1 ∧ p1 ≤ 9)) : Met l yL_setWarm wsL_setWarm ({ frames := 2, cells := 0, slots := 0, locals := 45 } : Room) (wrPc [.ref (b 0), .int (nI dy), .int p1, .ref o] D ((wLan b a a2 cI σ σ2 ω) ++ [(o, .inl (cJ, 1, .inr (.inl g)))]) [(cI, .int), (cJ, .long)] sz) (wrQi 0 D ((wLan b a a2 cI (put σ 1 (upd (σ 1) dy p1)) σ2 ω) ++ [(o, .inl (cJ, 1, .inr (.inl (vp_updL g 0 (σ 1 dy).toInt64))))]) (va_A ((wLan b a a2 cI σ σ2 ω) ++ [(o, .inl (cJ, 1, .inr (.inl g)))]) sz)) 0 0 (va_A ((wLan b a a2 cI σ σ2 ω) ++ [(o, .inl (cJ, 1, .inr (.inl g)))]) sz) := by
  refine my_ofWH (cc := cL_setWarm) (maxL := 5) (ret := (some .int)) (by decide) rfl ?_
  intro p e s m args below meth c s₁ B hml hv
  obtain ⟨hargs, hsz, hP, hK, hD0⟩ := hv
  have hx := B.exec
  have hb := B.bytes
  have hr := B.returns
  have hts := atoms_spec (ws := wsL_setWarm) B.pre
  have hown : s.vm.findClass RL = some m.cls := findClass_of_methodNamed B.named
  have hlocks := B.notSynchronized
  obtain ⟨_, hN⟩ := id hK
  subst hsz
  have hD := hD0.self (sz := s.heap.size)
  generalize hAe : va_A ((wLan b a a2 cI σ σ2 ω) ++ [(o, .inl (cJ, 1, .inr (.inl g)))]) s.heap.size = A at hD ⊢
  have hA : ∀ q : Nat, s.heap.size ≤ q → A q := fun q h => by rw [← hAe]; exact Or.inr h
  have hS : va_S A s.heap s.heap [] := va_S.rf
  have hP : va_P D vwCl ((wLan b a a2 cI σ σ2 ω) ++ [(o, .inl (cJ, 1, .inr (.inl g)))]) s.heap := hP
  refine my_abs (fun Q hQ => ?_)
  obtain ⟨ls, hl, hent⟩ := my_entry (m := m) (n := 5) hargs (Nat.le_of_ble_eq_true rfl)
  rw [hent]
  have hl : lv_has ls 5 [(0, .ref (b 0)), (1, .int (nI dy)), (2, .int p1), (3, .ref o)] := hl
  show W p l e ({ frames := 2, cells := 0, slots := 0, locals := 45 } : Room) s m args below meth c s.heap [] 0 0 Q (F0 m 0 ls [])
  refine lv_aload_n hx hb dL_setWarm_0 rfl (lv_at hl 3 rfl) ?_
  refine lv_iconst (v := 0) hx hb dL_setWarm_1 (by decide) ?_
  refine lv_aload_n hx hb dL_setWarm_2 rfl (lv_at hl 0 rfl) ?_
  refine lv_iload_n hx hb dL_setWarm_3 rfl (lv_at hl 1 rfl) ?_
  refine lv_iload_n hx hb dL_setWarm_4 rfl (lv_at hl 2 rfl) ?_
  refine wr_i (wn := (wTopE b a a2 ++ (wWag b cI ω ++ (wRivE a cI (σ 0 0) (σ 16 0) (upd ((σ 1)) dy p1) (σ 2) (σ 3) (σ 4) (σ 17 0) (σ 5) (σ 6) (σ 7) (σ 8) (σ 9) (σ 10) (σ 11) (σ 12) (σ 13) ++ wRiv a2 cI σ2))) ++ [(o, .inl (cJ, 1, .inr (.inl g)))]) (va_runV (As := [.int (nI dy), .int p1]) (rest := [.int 0, .ref o]) ⟨hx, hb, hml, hown, hts⟩ (M_X4_setWarm_ok l D cI b a a2 σ σ2 ω dy p1 _ h0 h1 h2) (cwV 2 hts gL_setWarm_X4_setWarm rfl rfl rfl (by decide +kernel) ⟨Nat.le_of_ble_eq_true rfl, Nat.le_of_ble_eq_true rfl⟩) (wrV hK hP hD [0, 1, 2, 3, 4, 5, 6, 7, 8, 9, 10, 11, 12, 13, 14, 15, 16, 17, 18, 19, 20, 21, 22, 23, 24, 25, 26, 27, 28, 29, 30, 31, 32, 33, 34, 35] [0] rfl rfl rfl (ci := 4) (q0 := 0) rfl rfl) rfl rfl hl.1 rfl (lv_room (Nat.le_of_ble_eq_true rfl)) dL_setWarm_5 ⟨Nat.le_of_ble_eq_true rfl, Nat.le_of_ble_eq_true rfl⟩) hP hD hS hA [0, 1, 2, 3, 4, 5, 6, 7, 8, 9, 10, 11, 12, 13, 14, 15, 16, 17, 18, 19, 20, 21, 22, 23, 24, 25, 26, 27, 28, 29, 30, 31, 32, 33, 34, 35] [36] [1, 2, 3, 4, 5, 6, 7, 8, 9, 10, 11, 12, 13, 14, 15, 16, 17, 18, 19, 20, 21, 22, 23, 24, 25, 26, 27, 28, 29, 30, 31, 32, 33, 34, 35, 36, 0] rfl rfl rfl rfl rfl rfl (fun H locs hP hD hS => ?_)
  refine lv_i2l hx hb dL_setWarm_8 rfl ?_
  refine va_last hx hb hK.1 hP hD hS 36 1 rfl rfl (by unfold vp_in; decide) dL_setWarm_9 (fun H locs hP hD hS => ?_)
  have hP : va_P D vwCl ((wTopE b a a2 ++ (wWag b cI ω ++ (wRivE a cI (σ 0 0) (σ 16 0) (upd ((σ 1)) dy p1) (σ 2) (σ 3) (σ 4) (σ 17 0) (σ 5) (σ 6) (σ 7) (σ 8) (σ 9) (σ 10) (σ 11) (σ 12) (σ 13) ++ wRiv a2 cI σ2))) ++ [(o, .inl (cJ, 1, .inr (.inl (vp_updL g 0 (((σ 1) dy).toInt64)))))]) H := hP
  have hD : va_D A ((wTopE b a a2 ++ (wWag b cI ω ++ (wRivE a cI (σ 0 0) (σ 16 0) (upd ((σ 1)) dy p1) (σ 2) (σ 3) (σ 4) (σ 17 0) (σ 5) (σ 6) (σ 7) (σ 8) (σ 9) (σ 10) (σ 11) (σ 12) (σ 13) ++ wRiv a2 cI σ2))) ++ [(o, .inl (cJ, 1, .inr (.inl (vp_updL g 0 (((σ 1) dy).toInt64)))))]) := hD
  refine lv_goto (tgt := 21) hx hb dL_setWarm_10 (by decide) ?_
  refine lv_iconst (v := 0) hx hb dL_setWarm_21 (by decide) ?_
  subst hQ
  have hP : va_P D vwCl ((wLan b a a2 cI (put σ 1 (upd ((σ 1)) dy p1)) σ2 ω) ++ [(o, .inl (cJ, 1, .inr (.inl (vp_updL g 0 (((σ 1) dy).toInt64)))))]) H := hP
  have hD : va_D A ((wLan b a a2 cI (put σ 1 (upd ((σ 1)) dy p1)) σ2 ω) ++ [(o, .inl (cJ, 1, .inr (.inl (vp_updL g 0 (((σ 1) dy).toInt64)))))]) := hD
  have k_1 : (upd ((σ 1)) dy p1 : Nat → Int32) = (upd (σ 1) dy p1) := by rfl
  have hst_s : put σ 1 (upd ((σ 1)) dy p1) = put σ 1 (upd (σ 1) dy p1) := put_cg rfl k_1
  rw [hst_s] at hP hD
  exact ret_wri hx hb hr rfl hlocks hP hD hS (show 0 = 0 from rfl) dL_setWarm_22
set_option maxHeartbeats 4000000 in
set_option maxRecDepth 100000 in
theorem M_L_setWarm_e1 (l : Launch) (D : va_G) (cI : ClassId) (b : Nat → Nat) (a : Nat → Nat) (a2 : Nat → Nat) (σ : St) (σ2 : St) (ω : St) (p0 : Int32) (p1 : Int32) (o : Nat) (g : Nat → Int64) (cJ : ClassId) (sz : Nat) (A9 : Nat → Prop) (hst : l.stackTraces = false) (h1 : ¬ (0 ≤ p0 ∧ p0 ≤ 13)) : Met l yL_setWarm wsL_setWarm ({ frames := 7, cells := 1, slots := 6, locals := 105 } : Room) (hxPc [.ref (b 0), .int p0, .int p1, .ref o] D ((wLan b a a2 cI σ σ2 ω) ++ [(o, .inl (cJ, 1, .inr (.inl g)))]) [(cI, .int), (cJ, .long)] sz A9) (wrQi 1 D ((wLan b a a2 cI σ σ2 ω) ++ [(o, .inl (cJ, 1, .inr (.inl g)))]) (va_A ((wLan b a a2 cI σ σ2 ω) ++ [(o, .inl (cJ, 1, .inr (.inl g)))]) sz)) 1 6 (va_A ((wLan b a a2 cI σ σ2 ω) ++ [(o, .inl (cJ, 1, .inr (.inl g)))]) sz) := by
  refine my_ofWH (cc := cL_setWarm) (maxL := 5) (ret := (some .int)) (by decide) rfl ?_
  intro p e s m args below meth c s₁ B hml hv
  obtain ⟨⟨hargs, hsz, hP, hK, hD0⟩, hEX⟩ := hv
  have hx := B.exec
  have hb := B.bytes
  have hr := B.returns
  have hts := atoms_spec (ws := wsL_setWarm) B.pre
  have hown : s.vm.findClass RL = some m.cls := findClass_of_methodNamed B.named
  have hlocks := B.notSynchronized
  obtain ⟨_, hN⟩ := id hK
  subst hsz
  have hD := hD0.self (sz := s.heap.size)
  generalize hAe : va_A ((wLan b a a2 cI σ σ2 ω) ++ [(o, .inl (cJ, 1, .inr (.inl g)))]) s.heap.size = A at hD ⊢
  have hA : ∀ q : Nat, s.heap.size ≤ q → A q := fun q h => by rw [← hAe]; exact Or.inr h
  have hS : va_S A s.heap s.heap [] := va_S.rf
  have hP : va_P D vwCl ((wLan b a a2 cI σ σ2 ω) ++ [(o, .inl (cJ, 1, .inr (.inl g)))]) s.heap := hP
  refine my_abs (fun Q hQ => ?_)
  obtain ⟨ls, hl, hent⟩ := my_entry (m := m) (n := 5) hargs (Nat.le_of_ble_eq_true rfl)
  rw [hent]
  have hl : lv_has ls 5 [(0, .ref (b 0)), (1, .int p0), (2, .int p1), (3, .ref o)] := hl
  show W p l e ({ frames := 7, cells := 1, slots := 6, locals := 105 } : Room) s m args below meth c s.heap [] 0 0 Q (F0 m 0 ls [])
  refine lv_aload_n hx hb dL_setWarm_0 rfl (lv_at hl 3 rfl) ?_
  refine lv_iconst (v := 0) hx hb dL_setWarm_1 (by decide) ?_
  refine lv_aload_n hx hb dL_setWarm_2 rfl (lv_at hl 0 rfl) ?_
  refine lv_iload_n hx hb dL_setWarm_3 rfl (lv_at hl 1 rfl) ?_
  refine lv_iload_n hx hb dL_setWarm_4 rfl (lv_at hl 2 rfl) ?_
  refine ex_call (vx_runV (As := [.int p0, .int p1]) (rest := [.int 0, .ref o]) ⟨hx, hb, hml, hown, hts⟩ (M_X4_setWarm_e1 l D cI b a a2 σ σ2 ω p0 p1 A9 hst h1) (cwV 2 hts gL_setWarm_X4_setWarm rfl rfl rfl (by decide +kernel) ⟨Nat.le_of_ble_eq_true rfl, Nat.le_of_ble_eq_true rfl⟩) (exV hK hP hEX.1 [0, 1, 2, 3, 4, 5, 6, 7, 8, 9, 10, 11, 12, 13, 14, 15, 16, 17, 18, 19, 20, 21, 22, 23, 24, 25, 26, 27, 28, 29, 30, 31, 32, 33, 34, 35] [0] rfl rfl (ci := 4) (q0 := 0) rfl rfl) rfl rfl hl.1 rfl (lv_room (Nat.le_of_ble_eq_true rfl)) dL_setWarm_5 ⟨Nat.le_of_ble_eq_true rfl, Nat.le_of_ble_eq_true rfl⟩) hP hD hS (fun ce q9 H locs hP hD hS hce hcv hcl => ?_)
  refine vx_catch (own := RL) (name := "java/lang/IndexOutOfBoundsException") (E := "java/lang/IndexOutOfBoundsException") hown ([] : List ClassFile.ExceptionTableEntry) ⟨0, 10, 13, 13⟩ ([⟨0, 10, 17, 15⟩] : List ClassFile.ExceptionTableEntry) ((vx_table (x := yL_setWarm) B (hts _ List.mem_cons_self)).trans rfl) (fun z hz => nomatch hz) (by decide) (by decide) (hts (.classLink RL 13 "java/lang/IndexOutOfBoundsException") (by decide +kernel)) (dc_use rfl (hEX.1.1 (.castable "java/lang/IndexOutOfBoundsException" "java/lang/IndexOutOfBoundsException") (by decide +kernel))) hce hcv hcl ?_
  refine lv_astore (lv' := [(4, .ref q9), (0, .ref (b 0)), (1, .int p0), (2, .int p1), (3, .ref o)]) hx hb dL_setWarm_13 hl (by decide) rfl (fun ls hl => ?_)
  refine lv_iconst (v := 1) hx hb dL_setWarm_15 (by decide) ?_
  subst hQ
  exact ret_wri hx hb hr rfl hlocks hP hD hS (show 1 = 1 from rfl) dL_setWarm_16
set_option maxHeartbeats 4000000 in
set_option maxRecDepth 100000 in
theorem M_L_setWarm_e2 (l : Launch) (D : va_G) (cI : ClassId) (b : Nat → Nat) (a : Nat → Nat) (a2 : Nat → Nat) (σ : St) (σ2 : St) (ω : St) (p0 : Int32) (p1 : Int32) (o : Nat) (g : Nat → Int64) (cJ : ClassId) (sz : Nat) (A9 : Nat → Prop) (hst : l.stackTraces = false) (h1 : (0 ≤ p0 ∧ p0 ≤ 13)) (h2 : ¬ ((-9) ≤ p1 ∧ p1 ≤ 9)) : Met l yL_setWarm wsL_setWarm ({ frames := 7, cells := 1, slots := 6, locals := 105 } : Room) (hxPc [.ref (b 0), .int p0, .int p1, .ref o] D ((wLan b a a2 cI σ σ2 ω) ++ [(o, .inl (cJ, 1, .inr (.inl g)))]) [(cI, .int), (cJ, .long)] sz A9) (wrQi 2 D ((wLan b a a2 cI σ σ2 ω) ++ [(o, .inl (cJ, 1, .inr (.inl g)))]) (va_A ((wLan b a a2 cI σ σ2 ω) ++ [(o, .inl (cJ, 1, .inr (.inl g)))]) sz)) 1 6 (va_A ((wLan b a a2 cI σ σ2 ω) ++ [(o, .inl (cJ, 1, .inr (.inl g)))]) sz) := by
  refine my_ofWH (cc := cL_setWarm) (maxL := 5) (ret := (some .int)) (by decide) rfl ?_
  intro p e s m args below meth c s₁ B hml hv
  obtain ⟨⟨hargs, hsz, hP, hK, hD0⟩, hEX⟩ := hv
  have hx := B.exec
  have hb := B.bytes
  have hr := B.returns
  have hts := atoms_spec (ws := wsL_setWarm) B.pre
  have hown : s.vm.findClass RL = some m.cls := findClass_of_methodNamed B.named
  have hlocks := B.notSynchronized
  obtain ⟨_, hN⟩ := id hK
  subst hsz
  have hD := hD0.self (sz := s.heap.size)
  generalize hAe : va_A ((wLan b a a2 cI σ σ2 ω) ++ [(o, .inl (cJ, 1, .inr (.inl g)))]) s.heap.size = A at hD ⊢
  have hA : ∀ q : Nat, s.heap.size ≤ q → A q := fun q h => by rw [← hAe]; exact Or.inr h
  have hS : va_S A s.heap s.heap [] := va_S.rf
  have hP : va_P D vwCl ((wLan b a a2 cI σ σ2 ω) ++ [(o, .inl (cJ, 1, .inr (.inl g)))]) s.heap := hP
  refine my_abs (fun Q hQ => ?_)
  obtain ⟨ls, hl, hent⟩ := my_entry (m := m) (n := 5) hargs (Nat.le_of_ble_eq_true rfl)
  rw [hent]
  have hl : lv_has ls 5 [(0, .ref (b 0)), (1, .int p0), (2, .int p1), (3, .ref o)] := hl
  show W p l e ({ frames := 7, cells := 1, slots := 6, locals := 105 } : Room) s m args below meth c s.heap [] 0 0 Q (F0 m 0 ls [])
  refine lv_aload_n hx hb dL_setWarm_0 rfl (lv_at hl 3 rfl) ?_
  refine lv_iconst (v := 0) hx hb dL_setWarm_1 (by decide) ?_
  refine lv_aload_n hx hb dL_setWarm_2 rfl (lv_at hl 0 rfl) ?_
  refine lv_iload_n hx hb dL_setWarm_3 rfl (lv_at hl 1 rfl) ?_
  refine lv_iload_n hx hb dL_setWarm_4 rfl (lv_at hl 2 rfl) ?_
  refine ex_call (vx_runV (As := [.int p0, .int p1]) (rest := [.int 0, .ref o]) ⟨hx, hb, hml, hown, hts⟩ (M_X4_setWarm_e2 l D cI b a a2 σ σ2 ω p0 p1 A9 hst h1 h2) (cwV 2 hts gL_setWarm_X4_setWarm rfl rfl rfl (by decide +kernel) ⟨Nat.le_of_ble_eq_true rfl, Nat.le_of_ble_eq_true rfl⟩) (exV hK hP hEX.1 [0, 1, 2, 3, 4, 5, 6, 7, 8, 9, 10, 11, 12, 13, 14, 15, 16, 17, 18, 19, 20, 21, 22, 23, 24, 25, 26, 27, 28, 29, 30, 31, 32, 33, 34, 35] [0] rfl rfl (ci := 4) (q0 := 0) rfl rfl) rfl rfl hl.1 rfl (lv_room (Nat.le_of_ble_eq_true rfl)) dL_setWarm_5 ⟨Nat.le_of_ble_eq_true rfl, Nat.le_of_ble_eq_true rfl⟩) hP hD hS (fun ce q9 H locs hP hD hS hce hcv hcl => ?_)
  refine vx_catch (own := RL) (name := "java/lang/IllegalArgumentException") (E := "java/lang/IllegalArgumentException") hown ([⟨0, 10, 13, 13⟩] : List ClassFile.ExceptionTableEntry) ⟨0, 10, 17, 15⟩ ([] : List ClassFile.ExceptionTableEntry) ((vx_table (x := yL_setWarm) B (hts _ List.mem_cons_self)).trans rfl) (fun z hz => by rcases List.mem_singleton.mp hz with rfl; exact Or.inr ⟨by decide, _, hts (.classLink RL 13 "java/lang/IndexOutOfBoundsException") (by decide +kernel), hEX.2.1⟩) (by decide) (by decide) (hts (.classLink RL 15 "java/lang/IllegalArgumentException") (by decide +kernel)) (dc_use rfl (hEX.1.1 (.castable "java/lang/IllegalArgumentException" "java/lang/IllegalArgumentException") (by decide +kernel))) hce hcv hcl ?_
  refine lv_astore (lv' := [(4, .ref q9), (0, .ref (b 0)), (1, .int p0), (2, .int p1), (3, .ref o)]) hx hb dL_setWarm_17 hl (by decide) rfl (fun ls hl => ?_)
  refine lv_iconst (v := 2) hx hb dL_setWarm_19 (by decide) ?_
  subst hQ
  exact ret_wri hx hb hr rfl hlocks hP hD hS (show 2 = 2 from rfl) dL_setWarm_20
set_option maxHeartbeats 4000000 in
set_option maxRecDepth 100000 in
theorem M_L_setIce_ok (l : Launch) (D : va_G) (cI : ClassId) (b : Nat → Nat) (a : Nat → Nat) (a2 : Nat → Nat) (σ : St) (σ2 : St) (ω : St) (sn : Nat) (ln : Nat) (p2 : Int32) (o : Nat) (g : Nat → Int64) (cJ : ClassId) (sz : Nat) (hs : sn < 12) (hl9 : ln < 3) (h1 : ((0 ≤ nI sn ∧ nI sn ≤ 11) ∧ (0 ≤ nI ln ∧ nI ln ≤ 2))) (h2 : (0 ≤ p2 ∧ p2 ≤ 60)) : Met l yL_setIce wsL_setIce ({ frames := 4, cells := 0, slots := 0, locals := 88 } : Room) (wrPc [.ref (b 0), .int (nI sn), .int (nI ln), .int p2, .ref o] D ((wLan b a a2 cI σ σ2 ω) ++ [(o, .inl (cJ, 1, .inr (.inl g)))]) [(cI, .int), (cJ, .long)] sz) (wrQi 0 D ((wLan b a a2 cI (put σ 3 (upd (σ 3) (3 * sn + ln) p2)) σ2 ω) ++ [(o, .inl (cJ, 1, .inr (.inl (vp_updL g 0 (σ 3 (3 * sn + ln)).toInt64))))]) (va_A ((wLan b a a2 cI σ σ2 ω) ++ [(o, .inl (cJ, 1, .inr (.inl g)))]) sz)) 0 0 (va_A ((wLan b a a2 cI σ σ2 ω) ++ [(o, .inl (cJ, 1, .inr (.inl g)))]) sz) := by
  refine my_ofWH (cc := cL_setIce) (maxL := 6) (ret := (some .int)) (by decide) rfl ?_
  intro p e s m args below meth c s₁ B hml hv
  obtain ⟨hargs, hsz, hP, hK, hD0⟩ := hv
  have hx := B.exec
  have hb := B.bytes
  have hr := B.returns
  have hts := atoms_spec (ws := wsL_setIce) B.pre
  have hown : s.vm.findClass RL = some m.cls := findClass_of_methodNamed B.named
  have hlocks := B.notSynchronized
  obtain ⟨_, hN⟩ := id hK
  subst hsz
  have hD := hD0.self (sz := s.heap.size)
  generalize hAe : va_A ((wLan b a a2 cI σ σ2 ω) ++ [(o, .inl (cJ, 1, .inr (.inl g)))]) s.heap.size = A at hD ⊢
  have hA : ∀ q : Nat, s.heap.size ≤ q → A q := fun q h => by rw [← hAe]; exact Or.inr h
  have hS : va_S A s.heap s.heap [] := va_S.rf
  have hP : va_P D vwCl ((wLan b a a2 cI σ σ2 ω) ++ [(o, .inl (cJ, 1, .inr (.inl g)))]) s.heap := hP
  refine my_abs (fun Q hQ => ?_)
  obtain ⟨ls, hl, hent⟩ := my_entry (m := m) (n := 6) hargs (Nat.le_of_ble_eq_true rfl)
  rw [hent]
  have hl : lv_has ls 6 [(0, .ref (b 0)), (1, .int (nI sn)), (2, .int (nI ln)), (3, .int p2), (4, .ref o)] := hl
  show W p l e ({ frames := 4, cells := 0, slots := 0, locals := 88 } : Room) s m args below meth c s.heap [] 0 0 Q (F0 m 0 ls [])
  refine lv_aload hx hb dL_setIce_0 (lv_at hl 4 rfl) ?_
  refine lv_iconst (v := 0) hx hb dL_setIce_2 (by decide) ?_
  refine lv_aload_n hx hb dL_setIce_3 rfl (lv_at hl 0 rfl) ?_
  refine lv_iload_n hx hb dL_setIce_4 rfl (lv_at hl 1 rfl) ?_
  refine lv_iload_n hx hb dL_setIce_5 rfl (lv_at hl 2 rfl) ?_
  refine lv_iload_n hx hb dL_setIce_6 rfl (lv_at hl 3 rfl) ?_
  refine wr_i (wn := (wTopE b a a2 ++ (wWag b cI ω ++ (wRivE a cI (σ 0 0) (σ 16 0) (σ 1) (σ 2) (upd ((σ 3)) (3 * sn + ln) p2) (σ 4) (σ 17 0) (σ 5) (σ 6) (σ 7) (σ 8) (σ 9) (σ 10) (σ 11) (σ 12) (σ 13) ++ wRiv a2 cI σ2))) ++ [(o, .inl (cJ, 1, .inr (.inl g)))]) (va_runV (As := [.int (nI sn), .int (nI ln), .int p2]) (rest := [.int 0, .ref o]) ⟨hx, hb, hml, hown, hts⟩ (M_X4_setIce_ok l D cI b a a2 σ σ2 ω sn ln p2 _ hs hl9 h1 h2) (cwV 3 hts gL_setIce_X4_setIce rfl rfl rfl (by decide +kernel) ⟨Nat.le_of_ble_eq_true rfl, Nat.le_of_ble_eq_true rfl⟩) (wrV hK hP hD [0, 1, 2, 3, 4, 5, 6, 7, 8, 9, 10, 11, 12, 13, 14, 15, 16, 17, 18, 19, 20, 21, 22, 23, 24, 25, 26, 27, 28, 29, 30, 31, 32, 33, 34, 35] [0] rfl rfl rfl (ci := 4) (q0 := 0) rfl rfl) rfl rfl hl.1 rfl (lv_room (Nat.le_of_ble_eq_true rfl)) dL_setIce_7 ⟨Nat.le_of_ble_eq_true rfl, Nat.le_of_ble_eq_true rfl⟩) hP hD hS hA [0, 1, 2, 3, 4, 5, 6, 7, 8, 9, 10, 11, 12, 13, 14, 15, 16, 17, 18, 19, 20, 21, 22, 23, 24, 25, 26, 27, 28, 29, 30, 31, 32, 33, 34, 35] [36] [1, 2, 3, 4, 5, 6, 7, 8, 9, 10, 11, 12, 13, 14, 15, 16, 17, 18, 19, 20, 21, 22, 23, 24, 25, 26, 27, 28, 29, 30, 31, 32, 33, 34, 35, 36, 0] rfl rfl rfl rfl rfl rfl (fun H locs hP hD hS => ?_)
  refine lv_i2l hx hb dL_setIce_10 rfl ?_
  refine va_last hx hb hK.1 hP hD hS 36 1 rfl rfl (by unfold vp_in; decide) dL_setIce_11 (fun H locs hP hD hS => ?_)
  have hP : va_P D vwCl ((wTopE b a a2 ++ (wWag b cI ω ++ (wRivE a cI (σ 0 0) (σ 16 0) (σ 1) (σ 2) (upd ((σ 3)) (3 * sn + ln) p2) (σ 4) (σ 17 0) (σ 5) (σ 6) (σ 7) (σ 8) (σ 9) (σ 10) (σ 11) (σ 12) (σ 13) ++ wRiv a2 cI σ2))) ++ [(o, .inl (cJ, 1, .inr (.inl (vp_updL g 0 (((σ 3) (3 * sn + ln)).toInt64)))))]) H := hP
  have hD : va_D A ((wTopE b a a2 ++ (wWag b cI ω ++ (wRivE a cI (σ 0 0) (σ 16 0) (σ 1) (σ 2) (upd ((σ 3)) (3 * sn + ln) p2) (σ 4) (σ 17 0) (σ 5) (σ 6) (σ 7) (σ 8) (σ 9) (σ 10) (σ 11) (σ 12) (σ 13) ++ wRiv a2 cI σ2))) ++ [(o, .inl (cJ, 1, .inr (.inl (vp_updL g 0 (((σ 3) (3 * sn + ln)).toInt64)))))]) := hD
  refine lv_goto (tgt := 23) hx hb dL_setIce_12 (by decide) ?_
  refine lv_iconst (v := 0) hx hb dL_setIce_23 (by decide) ?_
  subst hQ
  have hP : va_P D vwCl ((wLan b a a2 cI (put σ 3 (upd ((σ 3)) (3 * sn + ln) p2)) σ2 ω) ++ [(o, .inl (cJ, 1, .inr (.inl (vp_updL g 0 (((σ 3) (3 * sn + ln)).toInt64)))))]) H := hP
  have hD : va_D A ((wLan b a a2 cI (put σ 3 (upd ((σ 3)) (3 * sn + ln) p2)) σ2 ω) ++ [(o, .inl (cJ, 1, .inr (.inl (vp_updL g 0 (((σ 3) (3 * sn + ln)).toInt64)))))]) := hD
  have k_3 : (upd ((σ 3)) (3 * sn + ln) p2 : Nat → Int32) = (upd (σ 3) (3 * sn + ln) p2) := by rfl
  have hst_s : put σ 3 (upd ((σ 3)) (3 * sn + ln) p2) = put σ 3 (upd (σ 3) (3 * sn + ln) p2) := put_cg rfl k_3
  rw [hst_s] at hP hD
  exact ret_wri hx hb hr rfl hlocks hP hD hS (show 0 = 0 from rfl) dL_setIce_24
set_option maxHeartbeats 4000000 in
set_option maxRecDepth 100000 in
theorem M_L_setIce_e1 (l : Launch) (D : va_G) (cI : ClassId) (b : Nat → Nat) (a : Nat → Nat) (a2 : Nat → Nat) (σ : St) (σ2 : St) (ω : St) (p0 : Int32) (p1 : Int32) (p2 : Int32) (o : Nat) (g : Nat → Int64) (cJ : ClassId) (sz : Nat) (A9 : Nat → Prop) (hst : l.stackTraces = false) (h1 : ¬ ((0 ≤ p0 ∧ p0 ≤ 11) ∧ (0 ≤ p1 ∧ p1 ≤ 2))) : Met l yL_setIce wsL_setIce ({ frames := 7, cells := 1, slots := 6, locals := 107 } : Room) (hxPc [.ref (b 0), .int p0, .int p1, .int p2, .ref o] D ((wLan b a a2 cI σ σ2 ω) ++ [(o, .inl (cJ, 1, .inr (.inl g)))]) [(cI, .int), (cJ, .long)] sz A9) (wrQi 1 D ((wLan b a a2 cI σ σ2 ω) ++ [(o, .inl (cJ, 1, .inr (.inl g)))]) (va_A ((wLan b a a2 cI σ σ2 ω) ++ [(o, .inl (cJ, 1, .inr (.inl g)))]) sz)) 1 6 (va_A ((wLan b a a2 cI σ σ2 ω) ++ [(o, .inl (cJ, 1, .inr (.inl g)))]) sz) := by
  refine my_ofWH (cc := cL_setIce) (maxL := 6) (ret := (some .int)) (by decide) rfl ?_
  intro p e s m args below meth c s₁ B hml hv
  obtain ⟨⟨hargs, hsz, hP, hK, hD0⟩, hEX⟩ := hv
  have hx := B.exec
  have hb := B.bytes
  have hr := B.returns
  have hts := atoms_spec (ws := wsL_setIce) B.pre
  have hown : s.vm.findClass RL = some m.cls := findClass_of_methodNamed B.named
  have hlocks := B.notSynchronized
  obtain ⟨_, hN⟩ := id hK
  subst hsz
  have hD := hD0.self (sz := s.heap.size)
  generalize hAe : va_A ((wLan b a a2 cI σ σ2 ω) ++ [(o, .inl (cJ, 1, .inr (.inl g)))]) s.heap.size = A at hD ⊢
  have hA : ∀ q : Nat, s.heap.size ≤ q → A q := fun q h => by rw [← hAe]; exact Or.inr h
  have hS : va_S A s.heap s.heap [] := va_S.rf
  have hP : va_P D vwCl ((wLan b a a2 cI σ σ2 ω) ++ [(o, .inl (cJ, 1, .inr (.inl g)))]) s.heap := hP
  refine my_abs (fun Q hQ => ?_)
  obtain ⟨ls, hl, hent⟩ := my_entry (m := m) (n := 6) hargs (Nat.le_of_ble_eq_true rfl)
  rw [hent]
  have hl : lv_has ls 6 [(0, .ref (b 0)), (1, .int p0), (2, .int p1), (3, .int p2), (4, .ref o)] := hl
  show W p l e ({ frames := 7, cells := 1, slots := 6, locals := 107 } : Room) s m args below meth c s.heap [] 0 0 Q (F0 m 0 ls [])
  refine lv_aload hx hb dL_setIce_0 (lv_at hl 4 rfl) ?_
  refine lv_iconst (v := 0) hx hb dL_setIce_2 (by decide) ?_
  refine lv_aload_n hx hb dL_setIce_3 rfl (lv_at hl 0 rfl) ?_
  refine lv_iload_n hx hb dL_setIce_4 rfl (lv_at hl 1 rfl) ?_
  refine lv_iload_n hx hb dL_setIce_5 rfl (lv_at hl 2 rfl) ?_
  refine lv_iload_n hx hb dL_setIce_6 rfl (lv_at hl 3 rfl) ?_
  refine ex_call (vx_runV (As := [.int p0, .int p1, .int p2]) (rest := [.int 0, .ref o]) ⟨hx, hb, hml, hown, hts⟩ (M_X4_setIce_e1 l D cI b a a2 σ σ2 ω p0 p1 p2 A9 hst h1) (cwV 3 hts gL_setIce_X4_setIce rfl rfl rfl (by decide +kernel) ⟨Nat.le_of_ble_eq_true rfl, Nat.le_of_ble_eq_true rfl⟩) (exV hK hP hEX.1 [0, 1, 2, 3, 4, 5, 6, 7, 8, 9, 10, 11, 12, 13, 14, 15, 16, 17, 18, 19, 20, 21, 22, 23, 24, 25, 26, 27, 28, 29, 30, 31, 32, 33, 34, 35] [0] rfl rfl (ci := 4) (q0 := 0) rfl rfl) rfl rfl hl.1 rfl (lv_room (Nat.le_of_ble_eq_true rfl)) dL_setIce_7 ⟨Nat.le_of_ble_eq_true rfl, Nat.le_of_ble_eq_true rfl⟩) hP hD hS (fun ce q9 H locs hP hD hS hce hcv hcl => ?_)
  refine vx_catch (own := RL) (name := "java/lang/IndexOutOfBoundsException") (E := "java/lang/IndexOutOfBoundsException") hown ([] : List ClassFile.ExceptionTableEntry) ⟨0, 12, 15, 13⟩ ([⟨0, 12, 19, 15⟩] : List ClassFile.ExceptionTableEntry) ((vx_table (x := yL_setIce) B (hts _ List.mem_cons_self)).trans rfl) (fun z hz => nomatch hz) (by decide) (by decide) (hts (.classLink RL 13 "java/lang/IndexOutOfBoundsException") (by decide +kernel)) (dc_use rfl (hEX.1.1 (.castable "java/lang/IndexOutOfBoundsException" "java/lang/IndexOutOfBoundsException") (by decide +kernel))) hce hcv hcl ?_
  refine lv_astore (lv' := [(5, .ref q9), (0, .ref (b 0)), (1, .int p0), (2, .int p1), (3, .int p2), (4, .ref o)]) hx hb dL_setIce_15 hl (by decide) rfl (fun ls hl => ?_)
  refine lv_iconst (v := 1) hx hb dL_setIce_17 (by decide) ?_
  subst hQ
  exact ret_wri hx hb hr rfl hlocks hP hD hS (show 1 = 1 from rfl) dL_setIce_18
set_option maxHeartbeats 4000000 in
set_option maxRecDepth 100000 in
theorem M_L_setIce_e2 (l : Launch) (D : va_G) (cI : ClassId) (b : Nat → Nat) (a : Nat → Nat) (a2 : Nat → Nat) (σ : St) (σ2 : St) (ω : St) (p0 : Int32) (p1 : Int32) (p2 : Int32) (o : Nat) (g : Nat → Int64) (cJ : ClassId) (sz : Nat) (A9 : Nat → Prop) (hst : l.stackTraces = false) (h1 : ((0 ≤ p0 ∧ p0 ≤ 11) ∧ (0 ≤ p1 ∧ p1 ≤ 2))) (h2 : ¬ (0 ≤ p2 ∧ p2 ≤ 60)) : Met l yL_setIce wsL_setIce ({ frames := 7, cells := 1, slots := 6, locals := 107 } : Room) (hxPc [.ref (b 0), .int p0, .int p1, .int p2, .ref o] D ((wLan b a a2 cI σ σ2 ω) ++ [(o, .inl (cJ, 1, .inr (.inl g)))]) [(cI, .int), (cJ, .long)] sz A9) (wrQi 2 D ((wLan b a a2 cI σ σ2 ω) ++ [(o, .inl (cJ, 1, .inr (.inl g)))]) (va_A ((wLan b a a2 cI σ σ2 ω) ++ [(o, .inl (cJ, 1, .inr (.inl g)))]) sz)) 1 6 (va_A ((wLan b a a2 cI σ σ2 ω) ++ [(o, .inl (cJ, 1, .inr (.inl g)))]) sz) := by
  refine my_ofWH (cc := cL_setIce) (maxL := 6) (ret := (some .int)) (by decide) rfl ?_
  intro p e s m args below meth c s₁ B hml hv
  obtain ⟨⟨hargs, hsz, hP, hK, hD0⟩, hEX⟩ := hv
  have hx := B.exec
  have hb := B.bytes
  have hr := B.returns
  have hts := atoms_spec (ws := wsL_setIce) B.pre
  have hown : s.vm.findClass RL = some m.cls := findClass_of_methodNamed B.named
  have hlocks := B.notSynchronized
  obtain ⟨_, hN⟩ := id hK
  subst hsz
  have hD := hD0.self (sz := s.heap.size)
  generalize hAe : va_A ((wLan b a a2 cI σ σ2 ω) ++ [(o, .inl (cJ, 1, .inr (.inl g)))]) s.heap.size = A at hD ⊢
  have hA : ∀ q : Nat, s.heap.size ≤ q → A q := fun q h => by rw [← hAe]; exact Or.inr h
  have hS : va_S A s.heap s.heap [] := va_S.rf
  have hP : va_P D vwCl ((wLan b a a2 cI σ σ2 ω) ++ [(o, .inl (cJ, 1, .inr (.inl g)))]) s.heap := hP
  refine my_abs (fun Q hQ => ?_)
  obtain ⟨ls, hl, hent⟩ := my_entry (m := m) (n := 6) hargs (Nat.le_of_ble_eq_true rfl)
  rw [hent]
  have hl : lv_has ls 6 [(0, .ref (b 0)), (1, .int p0), (2, .int p1), (3, .int p2), (4, .ref o)] := hl
  show W p l e ({ frames := 7, cells := 1, slots := 6, locals := 107 } : Room) s m args below meth c s.heap [] 0 0 Q (F0 m 0 ls [])
  refine lv_aload hx hb dL_setIce_0 (lv_at hl 4 rfl) ?_
  refine lv_iconst (v := 0) hx hb dL_setIce_2 (by decide) ?_
  refine lv_aload_n hx hb dL_setIce_3 rfl (lv_at hl 0 rfl) ?_
  refine lv_iload_n hx hb dL_setIce_4 rfl (lv_at hl 1 rfl) ?_
  refine lv_iload_n hx hb dL_setIce_5 rfl (lv_at hl 2 rfl) ?_
  refine lv_iload_n hx hb dL_setIce_6 rfl (lv_at hl 3 rfl) ?_
  refine ex_call (vx_runV (As := [.int p0, .int p1, .int p2]) (rest := [.int 0, .ref o]) ⟨hx, hb, hml, hown, hts⟩ (M_X4_setIce_e2 l D cI b a a2 σ σ2 ω p0 p1 p2 A9 hst h1 h2) (cwV 3 hts gL_setIce_X4_setIce rfl rfl rfl (by decide +kernel) ⟨Nat.le_of_ble_eq_true rfl, Nat.le_of_ble_eq_true rfl⟩) (exV hK hP hEX.1 [0, 1, 2, 3, 4, 5, 6, 7, 8, 9, 10, 11, 12, 13, 14, 15, 16, 17, 18, 19, 20, 21, 22, 23, 24, 25, 26, 27, 28, 29, 30, 31, 32, 33, 34, 35] [0] rfl rfl (ci := 4) (q0 := 0) rfl rfl) rfl rfl hl.1 rfl (lv_room (Nat.le_of_ble_eq_true rfl)) dL_setIce_7 ⟨Nat.le_of_ble_eq_true rfl, Nat.le_of_ble_eq_true rfl⟩) hP hD hS (fun ce q9 H locs hP hD hS hce hcv hcl => ?_)
  refine vx_catch (own := RL) (name := "java/lang/IllegalArgumentException") (E := "java/lang/IllegalArgumentException") hown ([⟨0, 12, 15, 13⟩] : List ClassFile.ExceptionTableEntry) ⟨0, 12, 19, 15⟩ ([] : List ClassFile.ExceptionTableEntry) ((vx_table (x := yL_setIce) B (hts _ List.mem_cons_self)).trans rfl) (fun z hz => by rcases List.mem_singleton.mp hz with rfl; exact Or.inr ⟨by decide, _, hts (.classLink RL 13 "java/lang/IndexOutOfBoundsException") (by decide +kernel), hEX.2.1⟩) (by decide) (by decide) (hts (.classLink RL 15 "java/lang/IllegalArgumentException") (by decide +kernel)) (dc_use rfl (hEX.1.1 (.castable "java/lang/IllegalArgumentException" "java/lang/IllegalArgumentException") (by decide +kernel))) hce hcv hcl ?_
  refine lv_astore (lv' := [(5, .ref q9), (0, .ref (b 0)), (1, .int p0), (2, .int p1), (3, .int p2), (4, .ref o)]) hx hb dL_setIce_19 hl (by decide) rfl (fun ls hl => ?_)
  refine lv_iconst (v := 2) hx hb dL_setIce_21 (by decide) ?_
  subst hQ
  exact ret_wri hx hb hr rfl hlocks hP hD hS (show 2 = 2 from rfl) dL_setIce_22
set_option maxHeartbeats 4000000 in
set_option maxRecDepth 100000 in
theorem M_L_build_ok (l : Launch) (D : va_G) (cI : ClassId) (b : Nat → Nat) (a : Nat → Nat) (a2 : Nat → Nat) (σ : St) (σ2 : St) (ω : St) (sn : Nat) (o : Nat) (g : Nat → Int64) (cJ : ClassId) (sz : Nat) (hs : sn < 12) (h1 : (0 ≤ nI sn ∧ nI sn ≤ 11)) : Met l yL_build wsL_build ({ frames := 3, cells := 0, slots := 0, locals := 63 } : Room) (wrPc [.ref (b 0), .int (nI sn), .ref o] D ((wLan b a a2 cI σ σ2 ω) ++ [(o, .inl (cJ, 1, .inr (.inl g)))]) [(cI, .int), (cJ, .long)] sz) (wrQi 0 D ((wLan b a a2 cI (put σ 2 (upd (σ 2) sn 1)) σ2 ω) ++ [(o, .inl (cJ, 1, .inr (.inl (vp_updL g 0 (sumF (upd (σ 2) sn 1) 12).toInt64))))]) (va_A ((wLan b a a2 cI σ σ2 ω) ++ [(o, .inl (cJ, 1, .inr (.inl g)))]) sz)) 0 0 (va_A ((wLan b a a2 cI σ σ2 ω) ++ [(o, .inl (cJ, 1, .inr (.inl g)))]) sz) := by
  refine my_ofWH (cc := cL_build) (maxL := 4) (ret := (some .int)) (by decide) rfl ?_
  intro p e s m args below meth c s₁ B hml hv
  obtain ⟨hargs, hsz, hP, hK, hD0⟩ := hv
  have hx := B.exec
  have hb := B.bytes
  have hr := B.returns
  have hts := atoms_spec (ws := wsL_build) B.pre
  have hown : s.vm.findClass RL = some m.cls := findClass_of_methodNamed B.named
  have hlocks := B.notSynchronized
  obtain ⟨_, hN⟩ := id hK
  subst hsz
  have hD := hD0.self (sz := s.heap.size)
  generalize hAe : va_A ((wLan b a a2 cI σ σ2 ω) ++ [(o, .inl (cJ, 1, .inr (.inl g)))]) s.heap.size = A at hD ⊢
  have hA : ∀ q : Nat, s.heap.size ≤ q → A q := fun q h => by rw [← hAe]; exact Or.inr h
  have hS : va_S A s.heap s.heap [] := va_S.rf
  have hP : va_P D vwCl ((wLan b a a2 cI σ σ2 ω) ++ [(o, .inl (cJ, 1, .inr (.inl g)))]) s.heap := hP
  refine my_abs (fun Q hQ => ?_)
  obtain ⟨ls, hl, hent⟩ := my_entry (m := m) (n := 4) hargs (Nat.le_of_ble_eq_true rfl)
  rw [hent]
  have hl : lv_has ls 4 [(0, .ref (b 0)), (1, .int (nI sn)), (2, .ref o)] := hl
  show W p l e ({ frames := 3, cells := 0, slots := 0, locals := 63 } : Room) s m args below meth c s.heap [] 0 0 Q (F0 m 0 ls [])
  refine lv_aload_n hx hb dL_build_0 rfl (lv_at hl 2 rfl) ?_
  refine lv_iconst (v := 0) hx hb dL_build_1 (by decide) ?_
  refine lv_aload_n hx hb dL_build_2 rfl (lv_at hl 0 rfl) ?_
  refine lv_iload_n hx hb dL_build_3 rfl (lv_at hl 1 rfl) ?_
  refine wr_i (wn := (wTopE b a a2 ++ (wWag b cI ω ++ (wRivE a cI (σ 0 0) (σ 16 0) (σ 1) (upd ((σ 2)) sn 1) (σ 3) (σ 4) (σ 17 0) (σ 5) (σ 6) (σ 7) (σ 8) (σ 9) (σ 10) (σ 11) (σ 12) (σ 13) ++ wRiv a2 cI σ2))) ++ [(o, .inl (cJ, 1, .inr (.inl g)))]) (va_runV (As := [.int (nI sn)]) (rest := [.int 0, .ref o]) ⟨hx, hb, hml, hown, hts⟩ (M_X4_build_ok l D cI b a a2 σ σ2 ω sn _ hs h1) (cwV 1 hts gL_build_X4_build rfl rfl rfl (by decide +kernel) ⟨Nat.le_of_ble_eq_true rfl, Nat.le_of_ble_eq_true rfl⟩) (wrV hK hP hD [0, 1, 2, 3, 4, 5, 6, 7, 8, 9, 10, 11, 12, 13, 14, 15, 16, 17, 18, 19, 20, 21, 22, 23, 24, 25, 26, 27, 28, 29, 30, 31, 32, 33, 34, 35] [0] rfl rfl rfl (ci := 4) (q0 := 0) rfl rfl) rfl rfl hl.1 rfl (lv_room (Nat.le_of_ble_eq_true rfl)) dL_build_4 ⟨Nat.le_of_ble_eq_true rfl, Nat.le_of_ble_eq_true rfl⟩) hP hD hS hA [0, 1, 2, 3, 4, 5, 6, 7, 8, 9, 10, 11, 12, 13, 14, 15, 16, 17, 18, 19, 20, 21, 22, 23, 24, 25, 26, 27, 28, 29, 30, 31, 32, 33, 34, 35] [36] [1, 2, 3, 4, 5, 6, 7, 8, 9, 10, 11, 12, 13, 14, 15, 16, 17, 18, 19, 20, 21, 22, 23, 24, 25, 26, 27, 28, 29, 30, 31, 32, 33, 34, 35, 36, 0] rfl rfl rfl rfl rfl rfl (fun H locs hP hD hS => ?_)
  refine lv_i2l hx hb dL_build_7 rfl ?_
  refine va_last hx hb hK.1 hP hD hS 36 1 rfl rfl (by unfold vp_in; decide) dL_build_8 (fun H locs hP hD hS => ?_)
  have hP : va_P D vwCl ((wTopE b a a2 ++ (wWag b cI ω ++ (wRivE a cI (σ 0 0) (σ 16 0) (σ 1) (upd ((σ 2)) sn 1) (σ 3) (σ 4) (σ 17 0) (σ 5) (σ 6) (σ 7) (σ 8) (σ 9) (σ 10) (σ 11) (σ 12) (σ 13) ++ wRiv a2 cI σ2))) ++ [(o, .inl (cJ, 1, .inr (.inl (vp_updL g 0 ((sumF (upd ((σ 2)) sn 1) 12).toInt64)))))]) H := hP
  have hD : va_D A ((wTopE b a a2 ++ (wWag b cI ω ++ (wRivE a cI (σ 0 0) (σ 16 0) (σ 1) (upd ((σ 2)) sn 1) (σ 3) (σ 4) (σ 17 0) (σ 5) (σ 6) (σ 7) (σ 8) (σ 9) (σ 10) (σ 11) (σ 12) (σ 13) ++ wRiv a2 cI σ2))) ++ [(o, .inl (cJ, 1, .inr (.inl (vp_updL g 0 ((sumF (upd ((σ 2)) sn 1) 12).toInt64)))))]) := hD
  refine lv_goto (tgt := 15) hx hb dL_build_9 (by decide) ?_
  refine lv_iconst (v := 0) hx hb dL_build_15 (by decide) ?_
  subst hQ
  have hP : va_P D vwCl ((wLan b a a2 cI (put σ 2 (upd ((σ 2)) sn 1)) σ2 ω) ++ [(o, .inl (cJ, 1, .inr (.inl (vp_updL g 0 ((sumF (upd ((σ 2)) sn 1) 12).toInt64)))))]) H := hP
  have hD : va_D A ((wLan b a a2 cI (put σ 2 (upd ((σ 2)) sn 1)) σ2 ω) ++ [(o, .inl (cJ, 1, .inr (.inl (vp_updL g 0 ((sumF (upd ((σ 2)) sn 1) 12).toInt64)))))]) := hD
  have k_2 : (upd ((σ 2)) sn 1 : Nat → Int32) = (upd (σ 2) sn 1) := by rfl
  have hst_s : put σ 2 (upd ((σ 2)) sn 1) = put σ 2 (upd (σ 2) sn 1) := put_cg rfl k_2
  rw [hst_s] at hP hD
  exact ret_wri hx hb hr rfl hlocks hP hD hS (show 0 = 0 from rfl) dL_build_16
set_option maxHeartbeats 4000000 in
set_option maxRecDepth 100000 in
theorem M_L_build_e1 (l : Launch) (D : va_G) (cI : ClassId) (b : Nat → Nat) (a : Nat → Nat) (a2 : Nat → Nat) (σ : St) (σ2 : St) (ω : St) (p0 : Int32) (o : Nat) (g : Nat → Int64) (cJ : ClassId) (sz : Nat) (A9 : Nat → Prop) (hst : l.stackTraces = false) (h1 : ¬ (0 ≤ p0 ∧ p0 ≤ 11)) : Met l yL_build wsL_build ({ frames := 7, cells := 1, slots := 6, locals := 103 } : Room) (hxPc [.ref (b 0), .int p0, .ref o] D ((wLan b a a2 cI σ σ2 ω) ++ [(o, .inl (cJ, 1, .inr (.inl g)))]) [(cI, .int), (cJ, .long)] sz A9) (wrQi 1 D ((wLan b a a2 cI σ σ2 ω) ++ [(o, .inl (cJ, 1, .inr (.inl g)))]) (va_A ((wLan b a a2 cI σ σ2 ω) ++ [(o, .inl (cJ, 1, .inr (.inl g)))]) sz)) 1 6 (va_A ((wLan b a a2 cI σ σ2 ω) ++ [(o, .inl (cJ, 1, .inr (.inl g)))]) sz) := by
  refine my_ofWH (cc := cL_build) (maxL := 4) (ret := (some .int)) (by decide) rfl ?_
  intro p e s m args below meth c s₁ B hml hv
  obtain ⟨⟨hargs, hsz, hP, hK, hD0⟩, hEX⟩ := hv
  have hx := B.exec
  have hb := B.bytes
  have hr := B.returns
  have hts := atoms_spec (ws := wsL_build) B.pre
  have hown : s.vm.findClass RL = some m.cls := findClass_of_methodNamed B.named
  have hlocks := B.notSynchronized
  obtain ⟨_, hN⟩ := id hK
  subst hsz
  have hD := hD0.self (sz := s.heap.size)
  generalize hAe : va_A ((wLan b a a2 cI σ σ2 ω) ++ [(o, .inl (cJ, 1, .inr (.inl g)))]) s.heap.size = A at hD ⊢
  have hA : ∀ q : Nat, s.heap.size ≤ q → A q := fun q h => by rw [← hAe]; exact Or.inr h
  have hS : va_S A s.heap s.heap [] := va_S.rf
  have hP : va_P D vwCl ((wLan b a a2 cI σ σ2 ω) ++ [(o, .inl (cJ, 1, .inr (.inl g)))]) s.heap := hP
  refine my_abs (fun Q hQ => ?_)
  obtain ⟨ls, hl, hent⟩ := my_entry (m := m) (n := 4) hargs (Nat.le_of_ble_eq_true rfl)
  rw [hent]
  have hl : lv_has ls 4 [(0, .ref (b 0)), (1, .int p0), (2, .ref o)] := hl
  show W p l e ({ frames := 7, cells := 1, slots := 6, locals := 103 } : Room) s m args below meth c s.heap [] 0 0 Q (F0 m 0 ls [])
  refine lv_aload_n hx hb dL_build_0 rfl (lv_at hl 2 rfl) ?_
  refine lv_iconst (v := 0) hx hb dL_build_1 (by decide) ?_
  refine lv_aload_n hx hb dL_build_2 rfl (lv_at hl 0 rfl) ?_
  refine lv_iload_n hx hb dL_build_3 rfl (lv_at hl 1 rfl) ?_
  refine ex_call (vx_runV (As := [.int p0]) (rest := [.int 0, .ref o]) ⟨hx, hb, hml, hown, hts⟩ (M_X4_build_e1 l D cI b a a2 σ σ2 ω p0 A9 hst h1) (cwV 1 hts gL_build_X4_build rfl rfl rfl (by decide +kernel) ⟨Nat.le_of_ble_eq_true rfl, Nat.le_of_ble_eq_true rfl⟩) (exV hK hP hEX.1 [0, 1, 2, 3, 4, 5, 6, 7, 8, 9, 10, 11, 12, 13, 14, 15, 16, 17, 18, 19, 20, 21, 22, 23, 24, 25, 26, 27, 28, 29, 30, 31, 32, 33, 34, 35] [0] rfl rfl (ci := 4) (q0 := 0) rfl rfl) rfl rfl hl.1 rfl (lv_room (Nat.le_of_ble_eq_true rfl)) dL_build_4 ⟨Nat.le_of_ble_eq_true rfl, Nat.le_of_ble_eq_true rfl⟩) hP hD hS (fun ce q9 H locs hP hD hS hce hcv hcl => ?_)
  refine vx_catch (own := RL) (name := "java/lang/IndexOutOfBoundsException") (E := "java/lang/IndexOutOfBoundsException") hown ([] : List ClassFile.ExceptionTableEntry) ⟨0, 9, 12, 13⟩ ([] : List ClassFile.ExceptionTableEntry) ((vx_table (x := yL_build) B (hts _ List.mem_cons_self)).trans rfl) (fun z hz => nomatch hz) (by decide) (by decide) (hts (.classLink RL 13 "java/lang/IndexOutOfBoundsException") (by decide +kernel)) (dc_use rfl (hEX.1.1 (.castable "java/lang/IndexOutOfBoundsException" "java/lang/IndexOutOfBoundsException") (by decide +kernel))) hce hcv hcl ?_
  refine lv_astore_n (lv' := [(3, .ref q9), (0, .ref (b 0)), (1, .int p0), (2, .ref o)]) hx hb dL_build_12 rfl hl (by decide) rfl (fun ls hl => ?_)
  refine lv_iconst (v := 1) hx hb dL_build_13 (by decide) ?_
  subst hQ
  exact ret_wri hx hb hr rfl hlocks hP hD hS (show 1 = 1 from rfl) dL_build_14
set_option maxHeartbeats 4000000 in
set_option maxRecDepth 100000 in
theorem M_L_place_ok (l : Launch) (D : va_G) (cI : ClassId) (b : Nat → Nat) (a : Nat → Nat) (a2 : Nat → Nat) (σ : St) (σ2 : St) (ω : St) (sn : Nat) (ln : Nat) (w : Nat) (nc : Nat) (o : Nat) (g : Nat → Int64) (cJ : ClassId) (sz : Nat) (hs : sn < 12) (hl9 : ln < 3) (h1 : ((0 ≤ nI sn ∧ nI sn ≤ 11) ∧ (0 ≤ nI ln ∧ nI ln ≤ 2))) (h2 : (0 ≤ nI w ∧ nI w ≤ 3)) (hw : w < 4) (hnc : σ 17 0 = nI nc) (hn8 : nc ≤ 8) : Met l yL_place wsL_place ({ frames := 4, cells := 0, slots := 0, locals := 89 } : Room) (wrPc [.ref (b 0), .int (nI sn), .int (nI ln), .int (nI w), .ref o] D ((wLan b a a2 cI σ σ2 ω) ++ [(o, .inl (cJ, 1, .inr (.inl g)))]) [(cI, .int), (cJ, .long)] sz) (wrQi 0 D ((wLan b a a2 cI σ σ2 ω) ++ [(o, .inl (cJ, 1, .inr (.inl (vp_updL g 0 (ptL σ sn ln nc w).toInt64))))]) (va_A ((wLan b a a2 cI σ σ2 ω) ++ [(o, .inl (cJ, 1, .inr (.inl g)))]) sz)) 0 0 (va_A ((wLan b a a2 cI σ σ2 ω) ++ [(o, .inl (cJ, 1, .inr (.inl g)))]) sz) := by
  refine my_ofWH (cc := cL_place) (maxL := 6) (ret := (some .int)) (by decide) rfl ?_
  intro p e s m args below meth c s₁ B hml hv
  obtain ⟨hargs, hsz, hP, hK, hD0⟩ := hv
  have hx := B.exec
  have hb := B.bytes
  have hr := B.returns
  have hts := atoms_spec (ws := wsL_place) B.pre
  have hown : s.vm.findClass RL = some m.cls := findClass_of_methodNamed B.named
  have hlocks := B.notSynchronized
  obtain ⟨_, hN⟩ := id hK
  subst hsz
  have hD := hD0.self (sz := s.heap.size)
  generalize hAe : va_A ((wLan b a a2 cI σ σ2 ω) ++ [(o, .inl (cJ, 1, .inr (.inl g)))]) s.heap.size = A at hD ⊢
  have hA : ∀ q : Nat, s.heap.size ≤ q → A q := fun q h => by rw [← hAe]; exact Or.inr h
  have hS : va_S A s.heap s.heap [] := va_S.rf
  have hP : va_P D vwCl ((wLan b a a2 cI σ σ2 ω) ++ [(o, .inl (cJ, 1, .inr (.inl g)))]) s.heap := hP
  refine my_abs (fun Q hQ => ?_)
  obtain ⟨ls, hl, hent⟩ := my_entry (m := m) (n := 6) hargs (Nat.le_of_ble_eq_true rfl)
  rw [hent]
  have hl : lv_has ls 6 [(0, .ref (b 0)), (1, .int (nI sn)), (2, .int (nI ln)), (3, .int (nI w)), (4, .ref o)] := hl
  show W p l e ({ frames := 4, cells := 0, slots := 0, locals := 89 } : Room) s m args below meth c s.heap [] 0 0 Q (F0 m 0 ls [])
  refine lv_aload hx hb dL_place_0 (lv_at hl 4 rfl) ?_
  refine lv_iconst (v := 0) hx hb dL_place_2 (by decide) ?_
  refine lv_aload_n hx hb dL_place_3 rfl (lv_at hl 0 rfl) ?_
  refine lv_iload_n hx hb dL_place_4 rfl (lv_at hl 1 rfl) ?_
  refine lv_iload_n hx hb dL_place_5 rfl (lv_at hl 2 rfl) ?_
  refine lv_iload_n hx hb dL_place_6 rfl (lv_at hl 3 rfl) ?_
  refine rd_i (va_runV (As := [.int (nI sn), .int (nI ln), .int (nI w)]) (rest := [.int 0, .ref o]) ⟨hx, hb, hml, hown, hts⟩ (M_X4_place_ok l D cI b a a2 σ σ2 ω sn ln w nc hs hl9 h1 h2 hw hnc hn8) (cwV 3 hts gL_place_X4_place rfl rfl rfl (by decide +kernel) ⟨Nat.le_of_ble_eq_true rfl, Nat.le_of_ble_eq_true rfl⟩) (rdV hK hP [0, 1, 2, 3, 4, 5, 6, 7, 8, 9, 10, 11, 12, 13, 14, 15, 16, 17, 18, 19, 20, 21, 22, 23, 24, 25, 26, 27, 28, 29, 30, 31, 32, 33, 34, 35] [0] rfl rfl (ci := 4) (q0 := 0) rfl rfl) rfl rfl hl.1 rfl (lv_room (Nat.le_of_ble_eq_true rfl)) dL_place_7 ⟨Nat.zero_le _, Nat.zero_le _⟩) ?_
  refine lv_i2l hx hb dL_place_10 rfl ?_
  refine va_last hx hb hK.1 hP hD hS 36 1 rfl rfl (by unfold vp_in; decide) dL_place_11 (fun H locs hP hD hS => ?_)
  have hP : va_P D vwCl ((wLan b a a2 cI σ σ2 ω) ++ [(o, .inl (cJ, 1, .inr (.inl (vp_updL g 0 ((ptL σ sn ln nc w).toInt64)))))]) H := hP
  have hD : va_D A ((wLan b a a2 cI σ σ2 ω) ++ [(o, .inl (cJ, 1, .inr (.inl (vp_updL g 0 ((ptL σ sn ln nc w).toInt64)))))]) := hD
  refine lv_goto (tgt := 19) hx hb dL_place_12 (by decide) ?_
  refine lv_iconst (v := 0) hx hb dL_place_19 (by decide) ?_
  subst hQ
  exact ret_wri hx hb hr rfl hlocks hP hD hS (show 0 = 0 from rfl) dL_place_20
set_option maxHeartbeats 4000000 in
set_option maxRecDepth 100000 in
theorem M_L_place_e1 (l : Launch) (D : va_G) (cI : ClassId) (b : Nat → Nat) (a : Nat → Nat) (a2 : Nat → Nat) (σ : St) (σ2 : St) (ω : St) (p0 : Int32) (p1 : Int32) (p2 : Int32) (o : Nat) (g : Nat → Int64) (cJ : ClassId) (sz : Nat) (A9 : Nat → Prop) (hst : l.stackTraces = false) (h1 : ¬ (((0 ≤ p0 ∧ p0 ≤ 11) ∧ (0 ≤ p1 ∧ p1 ≤ 2)) ∧ (0 ≤ p2 ∧ p2 ≤ 3))) : Met l yL_place wsL_place ({ frames := 7, cells := 1, slots := 6, locals := 105 } : Room) (hxPc [.ref (b 0), .int p0, .int p1, .int p2, .ref o] D ((wLan b a a2 cI σ σ2 ω) ++ [(o, .inl (cJ, 1, .inr (.inl g)))]) [(cI, .int), (cJ, .long)] sz A9) (wrQi 1 D ((wLan b a a2 cI σ σ2 ω) ++ [(o, .inl (cJ, 1, .inr (.inl g)))]) (va_A ((wLan b a a2 cI σ σ2 ω) ++ [(o, .inl (cJ, 1, .inr (.inl g)))]) sz)) 1 6 (va_A ((wLan b a a2 cI σ σ2 ω) ++ [(o, .inl (cJ, 1, .inr (.inl g)))]) sz) := by
  refine my_ofWH (cc := cL_place) (maxL := 6) (ret := (some .int)) (by decide) rfl ?_
  intro p e s m args below meth c s₁ B hml hv
  obtain ⟨⟨hargs, hsz, hP, hK, hD0⟩, hEX⟩ := hv
  have hx := B.exec
  have hb := B.bytes
  have hr := B.returns
  have hts := atoms_spec (ws := wsL_place) B.pre
  have hown : s.vm.findClass RL = some m.cls := findClass_of_methodNamed B.named
  have hlocks := B.notSynchronized
  obtain ⟨_, hN⟩ := id hK
  subst hsz
  have hD := hD0.self (sz := s.heap.size)
  generalize hAe : va_A ((wLan b a a2 cI σ σ2 ω) ++ [(o, .inl (cJ, 1, .inr (.inl g)))]) s.heap.size = A at hD ⊢
  have hA : ∀ q : Nat, s.heap.size ≤ q → A q := fun q h => by rw [← hAe]; exact Or.inr h
  have hS : va_S A s.heap s.heap [] := va_S.rf
  have hP : va_P D vwCl ((wLan b a a2 cI σ σ2 ω) ++ [(o, .inl (cJ, 1, .inr (.inl g)))]) s.heap := hP
  refine my_abs (fun Q hQ => ?_)
  obtain ⟨ls, hl, hent⟩ := my_entry (m := m) (n := 6) hargs (Nat.le_of_ble_eq_true rfl)
  rw [hent]
  have hl : lv_has ls 6 [(0, .ref (b 0)), (1, .int p0), (2, .int p1), (3, .int p2), (4, .ref o)] := hl
  show W p l e ({ frames := 7, cells := 1, slots := 6, locals := 105 } : Room) s m args below meth c s.heap [] 0 0 Q (F0 m 0 ls [])
  refine lv_aload hx hb dL_place_0 (lv_at hl 4 rfl) ?_
  refine lv_iconst (v := 0) hx hb dL_place_2 (by decide) ?_
  refine lv_aload_n hx hb dL_place_3 rfl (lv_at hl 0 rfl) ?_
  refine lv_iload_n hx hb dL_place_4 rfl (lv_at hl 1 rfl) ?_
  refine lv_iload_n hx hb dL_place_5 rfl (lv_at hl 2 rfl) ?_
  refine lv_iload_n hx hb dL_place_6 rfl (lv_at hl 3 rfl) ?_
  refine ex_call (vx_runV (As := [.int p0, .int p1, .int p2]) (rest := [.int 0, .ref o]) ⟨hx, hb, hml, hown, hts⟩ (M_X4_place_e1 l D cI b a a2 σ σ2 ω p0 p1 p2 A9 hst h1) (cwV 3 hts gL_place_X4_place rfl rfl rfl (by decide +kernel) ⟨Nat.le_of_ble_eq_true rfl, Nat.le_of_ble_eq_true rfl⟩) (exV hK hP hEX.1 [0, 1, 2, 3, 4, 5, 6, 7, 8, 9, 10, 11, 12, 13, 14, 15, 16, 17, 18, 19, 20, 21, 22, 23, 24, 25, 26, 27, 28, 29, 30, 31, 32, 33, 34, 35] [0] rfl rfl (ci := 4) (q0 := 0) rfl rfl) rfl rfl hl.1 rfl (lv_room (Nat.le_of_ble_eq_true rfl)) dL_place_7 ⟨Nat.le_of_ble_eq_true rfl, Nat.le_of_ble_eq_true rfl⟩) hP hD hS (fun ce q9 H locs hP hD hS hce hcv hcl => ?_)
  refine vx_catch (own := RL) (name := "java/lang/IndexOutOfBoundsException") (E := "java/lang/IndexOutOfBoundsException") hown ([] : List ClassFile.ExceptionTableEntry) ⟨0, 12, 15, 13⟩ ([] : List ClassFile.ExceptionTableEntry) ((vx_table (x := yL_place) B (hts _ List.mem_cons_self)).trans rfl) (fun z hz => nomatch hz) (by decide) (by decide) (hts (.classLink RL 13 "java/lang/IndexOutOfBoundsException") (by decide +kernel)) (dc_use rfl (hEX.1.1 (.castable "java/lang/IndexOutOfBoundsException" "java/lang/IndexOutOfBoundsException") (by decide +kernel))) hce hcv hcl ?_
  refine lv_astore (lv' := [(5, .ref q9), (0, .ref (b 0)), (1, .int p0), (2, .int p1), (3, .int p2), (4, .ref o)]) hx hb dL_place_15 hl (by decide) rfl (fun ls hl => ?_)
  refine lv_iconst (v := 1) hx hb dL_place_17 (by decide) ?_
  subst hQ
  exact ret_wri hx hb hr rfl hlocks hP hD hS (show 1 = 1 from rfl) dL_place_18
set_option maxHeartbeats 4000000 in
set_option maxRecDepth 100000 in
theorem M_L_come_ok0 (l : Launch) (D : va_G) (cI : ClassId) (b : Nat → Nat) (a : Nat → Nat) (a2 : Nat → Nat) (σ : St) (σ2 : St) (ω : St) (sn : Nat) (ln : Nat) (p2 : Int32) (p3 : Int32) (sk : Int32) (nc : Nat) (o : Nat) (g : Nat → Int64) (cJ : ClassId) (sz : Nat) (hs : sn < 12) (hl9 : ln < 3) (h1 : ((0 ≤ nI sn ∧ nI sn ≤ 11) ∧ (0 ≤ nI ln ∧ nI ln ≤ 2))) (h2 : (1 ≤ p2 ∧ p2 ≤ 40)) (h3 : (0 ≤ p3 ∧ p3 ≤ 20)) (hnc : σ 17 0 = nI nc) (hn8 : nc < 8) (h4 : p2 + p3 ≤ sound (σ 3) (σ 4) (nI sn) (nI ln)) (h5 : sk = 0) : Met l yL_come wsL_come ({ frames := 4, cells := 0, slots := 0, locals := 92 } : Room) (wrPc [.ref (b 0), .int (nI sn), .int (nI ln), .int p2, .int p3, .int sk, .ref o] D ((wLan b a a2 cI σ σ2 ω) ++ [(o, .inl (cJ, 1, .inr (.inl g)))]) [(cI, .int), (cJ, .long)] sz) (wrQi 0 D ((wLan b a a2 cI (put (put (put (put (put (put (put (put (put (put σ 5 (upd (σ 5) nc p2)) 6 (upd (σ 6) nc p3)) 7 (upd (σ 7) nc 20)) 8 (upd (σ 8) nc (nI sn))) 9 (upd (σ 9) nc (nI ln))) 10 (upd (σ 10) nc (nI sn))) 11 (upd (σ 11) nc 0)) 12 (upd (σ 12) nc 0)) 13 (upd (σ 13) nc 1)) 17 (fun _ => nI (nc + 1))) σ2 ω) ++ [(o, .inl (cJ, 1, .inr (.inl (vp_updL g 0 (nI nc).toInt64))))]) (va_A ((wLan b a a2 cI σ σ2 ω) ++ [(o, .inl (cJ, 1, .inr (.inl g)))]) sz)) 0 0 (va_A ((wLan b a a2 cI σ σ2 ω) ++ [(o, .inl (cJ, 1, .inr (.inl g)))]) sz) := by
  refine my_ofWH (cc := cL_come) (maxL := 8) (ret := (some .int)) (by decide) rfl ?_
  intro p e s m args below meth c s₁ B hml hv
  obtain ⟨hargs, hsz, hP, hK, hD0⟩ := hv
  have hx := B.exec
  have hb := B.bytes
  have hr := B.returns
  have hts := atoms_spec (ws := wsL_come) B.pre
  have hown : s.vm.findClass RL = some m.cls := findClass_of_methodNamed B.named
  have hlocks := B.notSynchronized
  obtain ⟨_, hN⟩ := id hK
  subst hsz
  have hD := hD0.self (sz := s.heap.size)
  generalize hAe : va_A ((wLan b a a2 cI σ σ2 ω) ++ [(o, .inl (cJ, 1, .inr (.inl g)))]) s.heap.size = A at hD ⊢
  have hA : ∀ q : Nat, s.heap.size ≤ q → A q := fun q h => by rw [← hAe]; exact Or.inr h
  have hS : va_S A s.heap s.heap [] := va_S.rf
  have hP : va_P D vwCl ((wLan b a a2 cI σ σ2 ω) ++ [(o, .inl (cJ, 1, .inr (.inl g)))]) s.heap := hP
  refine my_abs (fun Q hQ => ?_)
  obtain ⟨ls, hl, hent⟩ := my_entry (m := m) (n := 8) hargs (Nat.le_of_ble_eq_true rfl)
  rw [hent]
  have hl : lv_has ls 8 [(0, .ref (b 0)), (1, .int (nI sn)), (2, .int (nI ln)), (3, .int p2), (4, .int p3), (5, .int sk), (6, .ref o)] := hl
  show W p l e ({ frames := 4, cells := 0, slots := 0, locals := 92 } : Room) s m args below meth c s.heap [] 0 0 Q (F0 m 0 ls [])
  refine lv_aload hx hb dL_come_0 (lv_at hl 6 rfl) ?_
  refine lv_iconst (v := 0) hx hb dL_come_2 (by decide) ?_
  refine lv_aload_n hx hb dL_come_3 rfl (lv_at hl 0 rfl) ?_
  refine lv_iload_n hx hb dL_come_4 rfl (lv_at hl 1 rfl) ?_
  refine lv_iload_n hx hb dL_come_5 rfl (lv_at hl 2 rfl) ?_
  refine lv_iload_n hx hb dL_come_6 rfl (lv_at hl 3 rfl) ?_
  refine lv_iload hx hb dL_come_7 (lv_at hl 4 rfl) ?_
  refine lv_iload hx hb dL_come_9 (lv_at hl 5 rfl) ?_
  refine wr_i (wn := (wTopE b a a2 ++ (wWag b cI ω ++ (wRivE a cI (σ 0 0) (σ 16 0) (σ 1) (σ 2) (σ 3) (σ 4) (nI (nc + 1)) (upd ((σ 5)) nc p2) (upd ((σ 6)) nc p3) (upd ((σ 7)) nc 20) (upd ((σ 8)) nc (nI sn)) (upd ((σ 9)) nc (nI ln)) (upd ((σ 10)) nc (nI sn)) (upd ((σ 11)) nc 0) (upd ((σ 12)) nc 0) (upd ((σ 13)) nc 1) ++ wRiv a2 cI σ2))) ++ [(o, .inl (cJ, 1, .inr (.inl g)))]) (va_runV (As := [.int (nI sn), .int (nI ln), .int p2, .int p3, .int sk]) (rest := [.int 0, .ref o]) ⟨hx, hb, hml, hown, hts⟩ (M_X4_come_ok0 l D cI b a a2 σ σ2 ω sn ln p2 p3 sk nc _ hs hl9 h1 h2 h3 hnc hn8 h4 h5) (cwV 5 hts gL_come_X4_come rfl rfl rfl (by decide +kernel) ⟨Nat.le_of_ble_eq_true rfl, Nat.le_of_ble_eq_true rfl⟩) (wrV hK hP hD [0, 1, 2, 3, 4, 5, 6, 7, 8, 9, 10, 11, 12, 13, 14, 15, 16, 17, 18, 19, 20, 21, 22, 23, 24, 25, 26, 27, 28, 29, 30, 31, 32, 33, 34, 35] [0] rfl rfl rfl (ci := 4) (q0 := 0) rfl rfl) rfl rfl hl.1 rfl (lv_room (Nat.le_of_ble_eq_true rfl)) dL_come_11 ⟨Nat.le_of_ble_eq_true rfl, Nat.le_of_ble_eq_true rfl⟩) hP hD hS hA [0, 1, 2, 3, 4, 5, 6, 7, 8, 9, 10, 11, 12, 13, 14, 15, 16, 17, 18, 19, 20, 21, 22, 23, 24, 25, 26, 27, 28, 29, 30, 31, 32, 33, 34, 35] [36] [1, 2, 3, 4, 5, 6, 7, 8, 9, 10, 11, 12, 13, 14, 15, 16, 17, 18, 19, 20, 21, 22, 23, 24, 25, 26, 27, 28, 29, 30, 31, 32, 33, 34, 35, 36, 0] rfl rfl rfl rfl rfl rfl (fun H locs hP hD hS => ?_)
  refine lv_i2l hx hb dL_come_14 rfl ?_
  refine va_last hx hb hK.1 hP hD hS 36 1 rfl rfl (by unfold vp_in; decide) dL_come_15 (fun H locs hP hD hS => ?_)
  have hP : va_P D vwCl ((wTopE b a a2 ++ (wWag b cI ω ++ (wRivE a cI (σ 0 0) (σ 16 0) (σ 1) (σ 2) (σ 3) (σ 4) (nI (nc + 1)) (upd ((σ 5)) nc p2) (upd ((σ 6)) nc p3) (upd ((σ 7)) nc 20) (upd ((σ 8)) nc (nI sn)) (upd ((σ 9)) nc (nI ln)) (upd ((σ 10)) nc (nI sn)) (upd ((σ 11)) nc 0) (upd ((σ 12)) nc 0) (upd ((σ 13)) nc 1) ++ wRiv a2 cI σ2))) ++ [(o, .inl (cJ, 1, .inr (.inl (vp_updL g 0 ((nI nc).toInt64)))))]) H := hP
  have hD : va_D A ((wTopE b a a2 ++ (wWag b cI ω ++ (wRivE a cI (σ 0 0) (σ 16 0) (σ 1) (σ 2) (σ 3) (σ 4) (nI (nc + 1)) (upd ((σ 5)) nc p2) (upd ((σ 6)) nc p3) (upd ((σ 7)) nc 20) (upd ((σ 8)) nc (nI sn)) (upd ((σ 9)) nc (nI ln)) (upd ((σ 10)) nc (nI sn)) (upd ((σ 11)) nc 0) (upd ((σ 12)) nc 0) (upd ((σ 13)) nc 1) ++ wRiv a2 cI σ2))) ++ [(o, .inl (cJ, 1, .inr (.inl (vp_updL g 0 ((nI nc).toInt64)))))]) := hD
  refine lv_goto (tgt := 31) hx hb dL_come_16 (by decide) ?_
  refine lv_iconst (v := 0) hx hb dL_come_31 (by decide) ?_
  subst hQ
  have hP : va_P D vwCl ((wLan b a a2 cI (put (put (put (put (put (put (put (put (put (put σ 5 (upd ((σ 5)) nc p2)) 6 (upd ((σ 6)) nc p3)) 7 (upd ((σ 7)) nc 20)) 8 (upd ((σ 8)) nc (nI sn))) 9 (upd ((σ 9)) nc (nI ln))) 10 (upd ((σ 10)) nc (nI sn))) 11 (upd ((σ 11)) nc 0)) 12 (upd ((σ 12)) nc 0)) 13 (upd ((σ 13)) nc 1)) 17 (fun _ => nI (nc + 1))) σ2 ω) ++ [(o, .inl (cJ, 1, .inr (.inl (vp_updL g 0 ((nI nc).toInt64)))))]) H := hP
  have hD : va_D A ((wLan b a a2 cI (put (put (put (put (put (put (put (put (put (put σ 5 (upd ((σ 5)) nc p2)) 6 (upd ((σ 6)) nc p3)) 7 (upd ((σ 7)) nc 20)) 8 (upd ((σ 8)) nc (nI sn))) 9 (upd ((σ 9)) nc (nI ln))) 10 (upd ((σ 10)) nc (nI sn))) 11 (upd ((σ 11)) nc 0)) 12 (upd ((σ 12)) nc 0)) 13 (upd ((σ 13)) nc 1)) 17 (fun _ => nI (nc + 1))) σ2 ω) ++ [(o, .inl (cJ, 1, .inr (.inl (vp_updL g 0 ((nI nc).toInt64)))))]) := hD
  have k_5 : (upd ((σ 5)) nc p2 : Nat → Int32) = (upd (σ 5) nc p2) := by rfl
  have k_6 : (upd ((σ 6)) nc p3 : Nat → Int32) = (upd (σ 6) nc p3) := by rfl
  have k_7 : (upd ((σ 7)) nc 20 : Nat → Int32) = (upd (σ 7) nc 20) := by rfl
  have k_8 : (upd ((σ 8)) nc (nI sn) : Nat → Int32) = (upd (σ 8) nc (nI sn)) := by rfl
  have k_9 : (upd ((σ 9)) nc (nI ln) : Nat → Int32) = (upd (σ 9) nc (nI ln)) := by rfl
  have k_10 : (upd ((σ 10)) nc (nI sn) : Nat → Int32) = (upd (σ 10) nc (nI sn)) := by rfl
  have k_11 : (upd ((σ 11)) nc 0 : Nat → Int32) = (upd (σ 11) nc 0) := by rfl
  have k_12 : (upd ((σ 12)) nc 0 : Nat → Int32) = (upd (σ 12) nc 0) := by rfl
  have k_13 : (upd ((σ 13)) nc 1 : Nat → Int32) = (upd (σ 13) nc 1) := by rfl
  have hst_s : put (put (put (put (put (put (put (put (put (put σ 5 (upd ((σ 5)) nc p2)) 6 (upd ((σ 6)) nc p3)) 7 (upd ((σ 7)) nc 20)) 8 (upd ((σ 8)) nc (nI sn))) 9 (upd ((σ 9)) nc (nI ln))) 10 (upd ((σ 10)) nc (nI sn))) 11 (upd ((σ 11)) nc 0)) 12 (upd ((σ 12)) nc 0)) 13 (upd ((σ 13)) nc 1)) 17 (fun _ => nI (nc + 1)) = put (put (put (put (put (put (put (put (put (put σ 5 (upd (σ 5) nc p2)) 6 (upd (σ 6) nc p3)) 7 (upd (σ 7) nc 20)) 8 (upd (σ 8) nc (nI sn))) 9 (upd (σ 9) nc (nI ln))) 10 (upd (σ 10) nc (nI sn))) 11 (upd (σ 11) nc 0)) 12 (upd (σ 12) nc 0)) 13 (upd (σ 13) nc 1)) 17 (fun _ => nI (nc + 1)) := put_cg (put_cg (put_cg (put_cg (put_cg (put_cg (put_cg (put_cg (put_cg (put_cg rfl k_5) k_6) k_7) k_8) k_9) k_10) k_11) k_12) k_13) rfl
  rw [hst_s] at hP hD
  exact ret_wri hx hb hr rfl hlocks hP hD hS (show 0 = 0 from rfl) dL_come_32
set_option maxHeartbeats 4000000 in
set_option maxRecDepth 100000 in
theorem M_L_come_ok1 (l : Launch) (D : va_G) (cI : ClassId) (b : Nat → Nat) (a : Nat → Nat) (a2 : Nat → Nat) (σ : St) (σ2 : St) (ω : St) (sn : Nat) (ln : Nat) (p2 : Int32) (p3 : Int32) (sk : Int32) (nc : Nat) (o : Nat) (g : Nat → Int64) (cJ : ClassId) (sz : Nat) (hs : sn < 12) (hl9 : ln < 3) (h1 : ((0 ≤ nI sn ∧ nI sn ≤ 11) ∧ (0 ≤ nI ln ∧ nI ln ≤ 2))) (h2 : (1 ≤ p2 ∧ p2 ≤ 40)) (h3 : (0 ≤ p3 ∧ p3 ≤ 20)) (hnc : σ 17 0 = nI nc) (hn8 : nc < 8) (h4 : p2 + p3 ≤ sound (σ 3) (σ 4) (nI sn) (nI ln)) (h5 : ¬ sk = 0) : Met l yL_come wsL_come ({ frames := 4, cells := 0, slots := 0, locals := 92 } : Room) (wrPc [.ref (b 0), .int (nI sn), .int (nI ln), .int p2, .int p3, .int sk, .ref o] D ((wLan b a a2 cI σ σ2 ω) ++ [(o, .inl (cJ, 1, .inr (.inl g)))]) [(cI, .int), (cJ, .long)] sz) (wrQi 0 D ((wLan b a a2 cI (put (put (put (put (put (put (put (put (put (put σ 5 (upd (σ 5) nc p2)) 6 (upd (σ 6) nc p3)) 7 (upd (σ 7) nc 20)) 8 (upd (σ 8) nc (nI sn))) 9 (upd (σ 9) nc (nI ln))) 10 (upd (σ 10) nc (nI sn))) 11 (upd (σ 11) nc 0)) 12 (upd (σ 12) nc 0)) 13 (upd (σ 13) nc 2)) 17 (fun _ => nI (nc + 1))) σ2 ω) ++ [(o, .inl (cJ, 1, .inr (.inl (vp_updL g 0 (nI nc).toInt64))))]) (va_A ((wLan b a a2 cI σ σ2 ω) ++ [(o, .inl (cJ, 1, .inr (.inl g)))]) sz)) 0 0 (va_A ((wLan b a a2 cI σ σ2 ω) ++ [(o, .inl (cJ, 1, .inr (.inl g)))]) sz) := by
  refine my_ofWH (cc := cL_come) (maxL := 8) (ret := (some .int)) (by decide) rfl ?_
  intro p e s m args below meth c s₁ B hml hv
  obtain ⟨hargs, hsz, hP, hK, hD0⟩ := hv
  have hx := B.exec
  have hb := B.bytes
  have hr := B.returns
  have hts := atoms_spec (ws := wsL_come) B.pre
  have hown : s.vm.findClass RL = some m.cls := findClass_of_methodNamed B.named
  have hlocks := B.notSynchronized
  obtain ⟨_, hN⟩ := id hK
  subst hsz
  have hD := hD0.self (sz := s.heap.size)
  generalize hAe : va_A ((wLan b a a2 cI σ σ2 ω) ++ [(o, .inl (cJ, 1, .inr (.inl g)))]) s.heap.size = A at hD ⊢
  have hA : ∀ q : Nat, s.heap.size ≤ q → A q := fun q h => by rw [← hAe]; exact Or.inr h
  have hS : va_S A s.heap s.heap [] := va_S.rf
  have hP : va_P D vwCl ((wLan b a a2 cI σ σ2 ω) ++ [(o, .inl (cJ, 1, .inr (.inl g)))]) s.heap := hP
  refine my_abs (fun Q hQ => ?_)
  obtain ⟨ls, hl, hent⟩ := my_entry (m := m) (n := 8) hargs (Nat.le_of_ble_eq_true rfl)
  rw [hent]
  have hl : lv_has ls 8 [(0, .ref (b 0)), (1, .int (nI sn)), (2, .int (nI ln)), (3, .int p2), (4, .int p3), (5, .int sk), (6, .ref o)] := hl
  show W p l e ({ frames := 4, cells := 0, slots := 0, locals := 92 } : Room) s m args below meth c s.heap [] 0 0 Q (F0 m 0 ls [])
  refine lv_aload hx hb dL_come_0 (lv_at hl 6 rfl) ?_
  refine lv_iconst (v := 0) hx hb dL_come_2 (by decide) ?_
  refine lv_aload_n hx hb dL_come_3 rfl (lv_at hl 0 rfl) ?_
  refine lv_iload_n hx hb dL_come_4 rfl (lv_at hl 1 rfl) ?_
  refine lv_iload_n hx hb dL_come_5 rfl (lv_at hl 2 rfl) ?_
  refine lv_iload_n hx hb dL_come_6 rfl (lv_at hl 3 rfl) ?_
  refine lv_iload hx hb dL_come_7 (lv_at hl 4 rfl) ?_
  refine lv_iload hx hb dL_come_9 (lv_at hl 5 rfl) ?_
  refine wr_i (wn := (wTopE b a a2 ++ (wWag b cI ω ++ (wRivE a cI (σ 0 0) (σ 16 0) (σ 1) (σ 2) (σ 3) (σ 4) (nI (nc + 1)) (upd ((σ 5)) nc p2) (upd ((σ 6)) nc p3) (upd ((σ 7)) nc 20) (upd ((σ 8)) nc (nI sn)) (upd ((σ 9)) nc (nI ln)) (upd ((σ 10)) nc (nI sn)) (upd ((σ 11)) nc 0) (upd ((σ 12)) nc 0) (upd ((σ 13)) nc 2) ++ wRiv a2 cI σ2))) ++ [(o, .inl (cJ, 1, .inr (.inl g)))]) (va_runV (As := [.int (nI sn), .int (nI ln), .int p2, .int p3, .int sk]) (rest := [.int 0, .ref o]) ⟨hx, hb, hml, hown, hts⟩ (M_X4_come_ok1 l D cI b a a2 σ σ2 ω sn ln p2 p3 sk nc _ hs hl9 h1 h2 h3 hnc hn8 h4 h5) (cwV 5 hts gL_come_X4_come rfl rfl rfl (by decide +kernel) ⟨Nat.le_of_ble_eq_true rfl, Nat.le_of_ble_eq_true rfl⟩) (wrV hK hP hD [0, 1, 2, 3, 4, 5, 6, 7, 8, 9, 10, 11, 12, 13, 14, 15, 16, 17, 18, 19, 20, 21, 22, 23, 24, 25, 26, 27, 28, 29, 30, 31, 32, 33, 34, 35] [0] rfl rfl rfl (ci := 4) (q0 := 0) rfl rfl) rfl rfl hl.1 rfl (lv_room (Nat.le_of_ble_eq_true rfl)) dL_come_11 ⟨Nat.le_of_ble_eq_true rfl, Nat.le_of_ble_eq_true rfl⟩) hP hD hS hA [0, 1, 2, 3, 4, 5, 6, 7, 8, 9, 10, 11, 12, 13, 14, 15, 16, 17, 18, 19, 20, 21, 22, 23, 24, 25, 26, 27, 28, 29, 30, 31, 32, 33, 34, 35] [36] [1, 2, 3, 4, 5, 6, 7, 8, 9, 10, 11, 12, 13, 14, 15, 16, 17, 18, 19, 20, 21, 22, 23, 24, 25, 26, 27, 28, 29, 30, 31, 32, 33, 34, 35, 36, 0] rfl rfl rfl rfl rfl rfl (fun H locs hP hD hS => ?_)
  refine lv_i2l hx hb dL_come_14 rfl ?_
  refine va_last hx hb hK.1 hP hD hS 36 1 rfl rfl (by unfold vp_in; decide) dL_come_15 (fun H locs hP hD hS => ?_)
  have hP : va_P D vwCl ((wTopE b a a2 ++ (wWag b cI ω ++ (wRivE a cI (σ 0 0) (σ 16 0) (σ 1) (σ 2) (σ 3) (σ 4) (nI (nc + 1)) (upd ((σ 5)) nc p2) (upd ((σ 6)) nc p3) (upd ((σ 7)) nc 20) (upd ((σ 8)) nc (nI sn)) (upd ((σ 9)) nc (nI ln)) (upd ((σ 10)) nc (nI sn)) (upd ((σ 11)) nc 0) (upd ((σ 12)) nc 0) (upd ((σ 13)) nc 2) ++ wRiv a2 cI σ2))) ++ [(o, .inl (cJ, 1, .inr (.inl (vp_updL g 0 ((nI nc).toInt64)))))]) H := hP
  have hD : va_D A ((wTopE b a a2 ++ (wWag b cI ω ++ (wRivE a cI (σ 0 0) (σ 16 0) (σ 1) (σ 2) (σ 3) (σ 4) (nI (nc + 1)) (upd ((σ 5)) nc p2) (upd ((σ 6)) nc p3) (upd ((σ 7)) nc 20) (upd ((σ 8)) nc (nI sn)) (upd ((σ 9)) nc (nI ln)) (upd ((σ 10)) nc (nI sn)) (upd ((σ 11)) nc 0) (upd ((σ 12)) nc 0) (upd ((σ 13)) nc 2) ++ wRiv a2 cI σ2))) ++ [(o, .inl (cJ, 1, .inr (.inl (vp_updL g 0 ((nI nc).toInt64)))))]) := hD
  refine lv_goto (tgt := 31) hx hb dL_come_16 (by decide) ?_
  refine lv_iconst (v := 0) hx hb dL_come_31 (by decide) ?_
  subst hQ
  have hP : va_P D vwCl ((wLan b a a2 cI (put (put (put (put (put (put (put (put (put (put σ 5 (upd ((σ 5)) nc p2)) 6 (upd ((σ 6)) nc p3)) 7 (upd ((σ 7)) nc 20)) 8 (upd ((σ 8)) nc (nI sn))) 9 (upd ((σ 9)) nc (nI ln))) 10 (upd ((σ 10)) nc (nI sn))) 11 (upd ((σ 11)) nc 0)) 12 (upd ((σ 12)) nc 0)) 13 (upd ((σ 13)) nc 2)) 17 (fun _ => nI (nc + 1))) σ2 ω) ++ [(o, .inl (cJ, 1, .inr (.inl (vp_updL g 0 ((nI nc).toInt64)))))]) H := hP
  have hD : va_D A ((wLan b a a2 cI (put (put (put (put (put (put (put (put (put (put σ 5 (upd ((σ 5)) nc p2)) 6 (upd ((σ 6)) nc p3)) 7 (upd ((σ 7)) nc 20)) 8 (upd ((σ 8)) nc (nI sn))) 9 (upd ((σ 9)) nc (nI ln))) 10 (upd ((σ 10)) nc (nI sn))) 11 (upd ((σ 11)) nc 0)) 12 (upd ((σ 12)) nc 0)) 13 (upd ((σ 13)) nc 2)) 17 (fun _ => nI (nc + 1))) σ2 ω) ++ [(o, .inl (cJ, 1, .inr (.inl (vp_updL g 0 ((nI nc).toInt64)))))]) := hD
  have k_5 : (upd ((σ 5)) nc p2 : Nat → Int32) = (upd (σ 5) nc p2) := by rfl
  have k_6 : (upd ((σ 6)) nc p3 : Nat → Int32) = (upd (σ 6) nc p3) := by rfl
  have k_7 : (upd ((σ 7)) nc 20 : Nat → Int32) = (upd (σ 7) nc 20) := by rfl
  have k_8 : (upd ((σ 8)) nc (nI sn) : Nat → Int32) = (upd (σ 8) nc (nI sn)) := by rfl
  have k_9 : (upd ((σ 9)) nc (nI ln) : Nat → Int32) = (upd (σ 9) nc (nI ln)) := by rfl
  have k_10 : (upd ((σ 10)) nc (nI sn) : Nat → Int32) = (upd (σ 10) nc (nI sn)) := by rfl
  have k_11 : (upd ((σ 11)) nc 0 : Nat → Int32) = (upd (σ 11) nc 0) := by rfl
  have k_12 : (upd ((σ 12)) nc 0 : Nat → Int32) = (upd (σ 12) nc 0) := by rfl
  have k_13 : (upd ((σ 13)) nc 2 : Nat → Int32) = (upd (σ 13) nc 2) := by rfl
  have hst_s : put (put (put (put (put (put (put (put (put (put σ 5 (upd ((σ 5)) nc p2)) 6 (upd ((σ 6)) nc p3)) 7 (upd ((σ 7)) nc 20)) 8 (upd ((σ 8)) nc (nI sn))) 9 (upd ((σ 9)) nc (nI ln))) 10 (upd ((σ 10)) nc (nI sn))) 11 (upd ((σ 11)) nc 0)) 12 (upd ((σ 12)) nc 0)) 13 (upd ((σ 13)) nc 2)) 17 (fun _ => nI (nc + 1)) = put (put (put (put (put (put (put (put (put (put σ 5 (upd (σ 5) nc p2)) 6 (upd (σ 6) nc p3)) 7 (upd (σ 7) nc 20)) 8 (upd (σ 8) nc (nI sn))) 9 (upd (σ 9) nc (nI ln))) 10 (upd (σ 10) nc (nI sn))) 11 (upd (σ 11) nc 0)) 12 (upd (σ 12) nc 0)) 13 (upd (σ 13) nc 2)) 17 (fun _ => nI (nc + 1)) := put_cg (put_cg (put_cg (put_cg (put_cg (put_cg (put_cg (put_cg (put_cg (put_cg rfl k_5) k_6) k_7) k_8) k_9) k_10) k_11) k_12) k_13) rfl
  rw [hst_s] at hP hD
  exact ret_wri hx hb hr rfl hlocks hP hD hS (show 0 = 0 from rfl) dL_come_32
set_option maxHeartbeats 4000000 in
set_option maxRecDepth 100000 in
theorem M_L_come_e1 (l : Launch) (D : va_G) (cI : ClassId) (b : Nat → Nat) (a : Nat → Nat) (a2 : Nat → Nat) (σ : St) (σ2 : St) (ω : St) (p0 : Int32) (p1 : Int32) (p2 : Int32) (p3 : Int32) (sk : Int32) (o : Nat) (g : Nat → Int64) (cJ : ClassId) (sz : Nat) (A9 : Nat → Prop) (hst : l.stackTraces = false) (h1 : ¬ ((0 ≤ p0 ∧ p0 ≤ 11) ∧ (0 ≤ p1 ∧ p1 ≤ 2))) : Met l yL_come wsL_come ({ frames := 7, cells := 1, slots := 6, locals := 107 } : Room) (hxPc [.ref (b 0), .int p0, .int p1, .int p2, .int p3, .int sk, .ref o] D ((wLan b a a2 cI σ σ2 ω) ++ [(o, .inl (cJ, 1, .inr (.inl g)))]) [(cI, .int), (cJ, .long)] sz A9) (wrQi 1 D ((wLan b a a2 cI σ σ2 ω) ++ [(o, .inl (cJ, 1, .inr (.inl g)))]) (va_A ((wLan b a a2 cI σ σ2 ω) ++ [(o, .inl (cJ, 1, .inr (.inl g)))]) sz)) 1 6 (va_A ((wLan b a a2 cI σ σ2 ω) ++ [(o, .inl (cJ, 1, .inr (.inl g)))]) sz) := by
  refine my_ofWH (cc := cL_come) (maxL := 8) (ret := (some .int)) (by decide) rfl ?_
  intro p e s m args below meth c s₁ B hml hv
  obtain ⟨⟨hargs, hsz, hP, hK, hD0⟩, hEX⟩ := hv
  have hx := B.exec
  have hb := B.bytes
  have hr := B.returns
  have hts := atoms_spec (ws := wsL_come) B.pre
  have hown : s.vm.findClass RL = some m.cls := findClass_of_methodNamed B.named
  have hlocks := B.notSynchronized
  obtain ⟨_, hN⟩ := id hK
  subst hsz
  have hD := hD0.self (sz := s.heap.size)
  generalize hAe : va_A ((wLan b a a2 cI σ σ2 ω) ++ [(o, .inl (cJ, 1, .inr (.inl g)))]) s.heap.size = A at hD ⊢
  have hA : ∀ q : Nat, s.heap.size ≤ q → A q := fun q h => by rw [← hAe]; exact Or.inr h
  have hS : va_S A s.heap s.heap [] := va_S.rf
  have hP : va_P D vwCl ((wLan b a a2 cI σ σ2 ω) ++ [(o, .inl (cJ, 1, .inr (.inl g)))]) s.heap := hP
  refine my_abs (fun Q hQ => ?_)
  obtain ⟨ls, hl, hent⟩ := my_entry (m := m) (n := 8) hargs (Nat.le_of_ble_eq_true rfl)
  rw [hent]
  have hl : lv_has ls 8 [(0, .ref (b 0)), (1, .int p0), (2, .int p1), (3, .int p2), (4, .int p3), (5, .int sk), (6, .ref o)] := hl
  show W p l e ({ frames := 7, cells := 1, slots := 6, locals := 107 } : Room) s m args below meth c s.heap [] 0 0 Q (F0 m 0 ls [])
  refine lv_aload hx hb dL_come_0 (lv_at hl 6 rfl) ?_
  refine lv_iconst (v := 0) hx hb dL_come_2 (by decide) ?_
  refine lv_aload_n hx hb dL_come_3 rfl (lv_at hl 0 rfl) ?_
  refine lv_iload_n hx hb dL_come_4 rfl (lv_at hl 1 rfl) ?_
  refine lv_iload_n hx hb dL_come_5 rfl (lv_at hl 2 rfl) ?_
  refine lv_iload_n hx hb dL_come_6 rfl (lv_at hl 3 rfl) ?_
  refine lv_iload hx hb dL_come_7 (lv_at hl 4 rfl) ?_
  refine lv_iload hx hb dL_come_9 (lv_at hl 5 rfl) ?_
  refine ex_call (vx_runV (As := [.int p0, .int p1, .int p2, .int p3, .int sk]) (rest := [.int 0, .ref o]) ⟨hx, hb, hml, hown, hts⟩ (M_X4_come_e1 l D cI b a a2 σ σ2 ω p0 p1 p2 p3 sk A9 hst h1) (cwV 5 hts gL_come_X4_come rfl rfl rfl (by decide +kernel) ⟨Nat.le_of_ble_eq_true rfl, Nat.le_of_ble_eq_true rfl⟩) (exV hK hP hEX.1 [0, 1, 2, 3, 4, 5, 6, 7, 8, 9, 10, 11, 12, 13, 14, 15, 16, 17, 18, 19, 20, 21, 22, 23, 24, 25, 26, 27, 28, 29, 30, 31, 32, 33, 34, 35] [0] rfl rfl (ci := 4) (q0 := 0) rfl rfl) rfl rfl hl.1 rfl (lv_room (Nat.le_of_ble_eq_true rfl)) dL_come_11 ⟨Nat.le_of_ble_eq_true rfl, Nat.le_of_ble_eq_true rfl⟩) hP hD hS (fun ce q9 H locs hP hD hS hce hcv hcl => ?_)
  refine vx_catch (own := RL) (name := "java/lang/IndexOutOfBoundsException") (E := "java/lang/IndexOutOfBoundsException") hown ([] : List ClassFile.ExceptionTableEntry) ⟨0, 16, 19, 13⟩ ([⟨0, 16, 23, 15⟩, ⟨0, 16, 27, 32⟩] : List ClassFile.ExceptionTableEntry) ((vx_table (x := yL_come) B (hts _ List.mem_cons_self)).trans rfl) (fun z hz => nomatch hz) (by decide) (by decide) (hts (.classLink RL 13 "java/lang/IndexOutOfBoundsException") (by decide +kernel)) (dc_use rfl (hEX.1.1 (.castable "java/lang/IndexOutOfBoundsException" "java/lang/IndexOutOfBoundsException") (by decide +kernel))) hce hcv hcl ?_
  refine lv_astore (lv' := [(7, .ref q9), (0, .ref (b 0)), (1, .int p0), (2, .int p1), (3, .int p2), (4, .int p3), (5, .int sk), (6, .ref o)]) hx hb dL_come_19 hl (by decide) rfl (fun ls hl => ?_)
  refine lv_iconst (v := 1) hx hb dL_come_21 (by decide) ?_
  subst hQ
  exact ret_wri hx hb hr rfl hlocks hP hD hS (show 1 = 1 from rfl) dL_come_22
set_option maxHeartbeats 4000000 in
set_option maxRecDepth 100000 in
theorem M_L_come_e2 (l : Launch) (D : va_G) (cI : ClassId) (b : Nat → Nat) (a : Nat → Nat) (a2 : Nat → Nat) (σ : St) (σ2 : St) (ω : St) (p0 : Int32) (p1 : Int32) (p2 : Int32) (p3 : Int32) (sk : Int32) (o : Nat) (g : Nat → Int64) (cJ : ClassId) (sz : Nat) (A9 : Nat → Prop) (hst : l.stackTraces = false) (h1 : ((0 ≤ p0 ∧ p0 ≤ 11) ∧ (0 ≤ p1 ∧ p1 ≤ 2))) (h2 : ¬ ((1 ≤ p2 ∧ p2 ≤ 40) ∧ (0 ≤ p3 ∧ p3 ≤ 20))) : Met l yL_come wsL_come ({ frames := 7, cells := 1, slots := 6, locals := 107 } : Room) (hxPc [.ref (b 0), .int p0, .int p1, .int p2, .int p3, .int sk, .ref o] D ((wLan b a a2 cI σ σ2 ω) ++ [(o, .inl (cJ, 1, .inr (.inl g)))]) [(cI, .int), (cJ, .long)] sz A9) (wrQi 2 D ((wLan b a a2 cI σ σ2 ω) ++ [(o, .inl (cJ, 1, .inr (.inl g)))]) (va_A ((wLan b a a2 cI σ σ2 ω) ++ [(o, .inl (cJ, 1, .inr (.inl g)))]) sz)) 1 6 (va_A ((wLan b a a2 cI σ σ2 ω) ++ [(o, .inl (cJ, 1, .inr (.inl g)))]) sz) := by
  refine my_ofWH (cc := cL_come) (maxL := 8) (ret := (some .int)) (by decide) rfl ?_
  intro p e s m args below meth c s₁ B hml hv
  obtain ⟨⟨hargs, hsz, hP, hK, hD0⟩, hEX⟩ := hv
  have hx := B.exec
  have hb := B.bytes
  have hr := B.returns
  have hts := atoms_spec (ws := wsL_come) B.pre
  have hown : s.vm.findClass RL = some m.cls := findClass_of_methodNamed B.named
  have hlocks := B.notSynchronized
  obtain ⟨_, hN⟩ := id hK
  subst hsz
  have hD := hD0.self (sz := s.heap.size)
  generalize hAe : va_A ((wLan b a a2 cI σ σ2 ω) ++ [(o, .inl (cJ, 1, .inr (.inl g)))]) s.heap.size = A at hD ⊢
  have hA : ∀ q : Nat, s.heap.size ≤ q → A q := fun q h => by rw [← hAe]; exact Or.inr h
  have hS : va_S A s.heap s.heap [] := va_S.rf
  have hP : va_P D vwCl ((wLan b a a2 cI σ σ2 ω) ++ [(o, .inl (cJ, 1, .inr (.inl g)))]) s.heap := hP
  refine my_abs (fun Q hQ => ?_)
  obtain ⟨ls, hl, hent⟩ := my_entry (m := m) (n := 8) hargs (Nat.le_of_ble_eq_true rfl)
  rw [hent]
  have hl : lv_has ls 8 [(0, .ref (b 0)), (1, .int p0), (2, .int p1), (3, .int p2), (4, .int p3), (5, .int sk), (6, .ref o)] := hl
  show W p l e ({ frames := 7, cells := 1, slots := 6, locals := 107 } : Room) s m args below meth c s.heap [] 0 0 Q (F0 m 0 ls [])
  refine lv_aload hx hb dL_come_0 (lv_at hl 6 rfl) ?_
  refine lv_iconst (v := 0) hx hb dL_come_2 (by decide) ?_
  refine lv_aload_n hx hb dL_come_3 rfl (lv_at hl 0 rfl) ?_
  refine lv_iload_n hx hb dL_come_4 rfl (lv_at hl 1 rfl) ?_
  refine lv_iload_n hx hb dL_come_5 rfl (lv_at hl 2 rfl) ?_
  refine lv_iload_n hx hb dL_come_6 rfl (lv_at hl 3 rfl) ?_
  refine lv_iload hx hb dL_come_7 (lv_at hl 4 rfl) ?_
  refine lv_iload hx hb dL_come_9 (lv_at hl 5 rfl) ?_
  refine ex_call (vx_runV (As := [.int p0, .int p1, .int p2, .int p3, .int sk]) (rest := [.int 0, .ref o]) ⟨hx, hb, hml, hown, hts⟩ (M_X4_come_e2 l D cI b a a2 σ σ2 ω p0 p1 p2 p3 sk A9 hst h1 h2) (cwV 5 hts gL_come_X4_come rfl rfl rfl (by decide +kernel) ⟨Nat.le_of_ble_eq_true rfl, Nat.le_of_ble_eq_true rfl⟩) (exV hK hP hEX.1 [0, 1, 2, 3, 4, 5, 6, 7, 8, 9, 10, 11, 12, 13, 14, 15, 16, 17, 18, 19, 20, 21, 22, 23, 24, 25, 26, 27, 28, 29, 30, 31, 32, 33, 34, 35] [0] rfl rfl (ci := 4) (q0 := 0) rfl rfl) rfl rfl hl.1 rfl (lv_room (Nat.le_of_ble_eq_true rfl)) dL_come_11 ⟨Nat.le_of_ble_eq_true rfl, Nat.le_of_ble_eq_true rfl⟩) hP hD hS (fun ce q9 H locs hP hD hS hce hcv hcl => ?_)
  refine vx_catch (own := RL) (name := "java/lang/IllegalArgumentException") (E := "java/lang/IllegalArgumentException") hown ([⟨0, 16, 19, 13⟩] : List ClassFile.ExceptionTableEntry) ⟨0, 16, 23, 15⟩ ([⟨0, 16, 27, 32⟩] : List ClassFile.ExceptionTableEntry) ((vx_table (x := yL_come) B (hts _ List.mem_cons_self)).trans rfl) (fun z hz => by rcases List.mem_singleton.mp hz with rfl; exact Or.inr ⟨by decide, _, hts (.classLink RL 13 "java/lang/IndexOutOfBoundsException") (by decide +kernel), hEX.2.1⟩) (by decide) (by decide) (hts (.classLink RL 15 "java/lang/IllegalArgumentException") (by decide +kernel)) (dc_use rfl (hEX.1.1 (.castable "java/lang/IllegalArgumentException" "java/lang/IllegalArgumentException") (by decide +kernel))) hce hcv hcl ?_
  refine lv_astore (lv' := [(7, .ref q9), (0, .ref (b 0)), (1, .int p0), (2, .int p1), (3, .int p2), (4, .int p3), (5, .int sk), (6, .ref o)]) hx hb dL_come_23 hl (by decide) rfl (fun ls hl => ?_)
  refine lv_iconst (v := 2) hx hb dL_come_25 (by decide) ?_
  subst hQ
  exact ret_wri hx hb hr rfl hlocks hP hD hS (show 2 = 2 from rfl) dL_come_26
set_option maxHeartbeats 4000000 in
set_option maxRecDepth 100000 in
theorem M_L_come_e3 (l : Launch) (D : va_G) (cI : ClassId) (b : Nat → Nat) (a : Nat → Nat) (a2 : Nat → Nat) (σ : St) (σ2 : St) (ω : St) (sn : Nat) (ln : Nat) (p2 : Int32) (p3 : Int32) (sk : Int32) (o : Nat) (g : Nat → Int64) (cJ : ClassId) (sz : Nat) (A9 : Nat → Prop) (hst : l.stackTraces = false) (hs : sn < 12) (hl9 : ln < 3) (h1 : ((0 ≤ nI sn ∧ nI sn ≤ 11) ∧ (0 ≤ nI ln ∧ nI ln ≤ 2))) (h2 : (1 ≤ p2 ∧ p2 ≤ 40)) (h3 : (0 ≤ p3 ∧ p3 ≤ 20)) (h4 : σ 17 0 = 8 ∨ ¬ p2 + p3 ≤ sound (σ 3) (σ 4) (nI sn) (nI ln)) : Met l yL_come wsL_come ({ frames := 7, cells := 1, slots := 6, locals := 107 } : Room) (hxPc [.ref (b 0), .int (nI sn), .int (nI ln), .int p2, .int p3, .int sk, .ref o] D ((wLan b a a2 cI σ σ2 ω) ++ [(o, .inl (cJ, 1, .inr (.inl g)))]) [(cI, .int), (cJ, .long)] sz A9) (wrQi 3 D ((wLan b a a2 cI σ σ2 ω) ++ [(o, .inl (cJ, 1, .inr (.inl g)))]) (va_A ((wLan b a a2 cI σ σ2 ω) ++ [(o, .inl (cJ, 1, .inr (.inl g)))]) sz)) 1 6 (va_A ((wLan b a a2 cI σ σ2 ω) ++ [(o, .inl (cJ, 1, .inr (.inl g)))]) sz) := by
  refine my_ofWH (cc := cL_come) (maxL := 8) (ret := (some .int)) (by decide) rfl ?_
  intro p e s m args below meth c s₁ B hml hv
  obtain ⟨⟨hargs, hsz, hP, hK, hD0⟩, hEX⟩ := hv
  have hx := B.exec
  have hb := B.bytes
  have hr := B.returns
  have hts := atoms_spec (ws := wsL_come) B.pre
  have hown : s.vm.findClass RL = some m.cls := findClass_of_methodNamed B.named
  have hlocks := B.notSynchronized
  obtain ⟨_, hN⟩ := id hK
  subst hsz
  have hD := hD0.self (sz := s.heap.size)
  generalize hAe : va_A ((wLan b a a2 cI σ σ2 ω) ++ [(o, .inl (cJ, 1, .inr (.inl g)))]) s.heap.size = A at hD ⊢
  have hA : ∀ q : Nat, s.heap.size ≤ q → A q := fun q h => by rw [← hAe]; exact Or.inr h
  have hS : va_S A s.heap s.heap [] := va_S.rf
  have hP : va_P D vwCl ((wLan b a a2 cI σ σ2 ω) ++ [(o, .inl (cJ, 1, .inr (.inl g)))]) s.heap := hP
  refine my_abs (fun Q hQ => ?_)
  obtain ⟨ls, hl, hent⟩ := my_entry (m := m) (n := 8) hargs (Nat.le_of_ble_eq_true rfl)
  rw [hent]
  have hl : lv_has ls 8 [(0, .ref (b 0)), (1, .int (nI sn)), (2, .int (nI ln)), (3, .int p2), (4, .int p3), (5, .int sk), (6, .ref o)] := hl
  show W p l e ({ frames := 7, cells := 1, slots := 6, locals := 107 } : Room) s m args below meth c s.heap [] 0 0 Q (F0 m 0 ls [])
  refine lv_aload hx hb dL_come_0 (lv_at hl 6 rfl) ?_
  refine lv_iconst (v := 0) hx hb dL_come_2 (by decide) ?_
  refine lv_aload_n hx hb dL_come_3 rfl (lv_at hl 0 rfl) ?_
  refine lv_iload_n hx hb dL_come_4 rfl (lv_at hl 1 rfl) ?_
  refine lv_iload_n hx hb dL_come_5 rfl (lv_at hl 2 rfl) ?_
  refine lv_iload_n hx hb dL_come_6 rfl (lv_at hl 3 rfl) ?_
  refine lv_iload hx hb dL_come_7 (lv_at hl 4 rfl) ?_
  refine lv_iload hx hb dL_come_9 (lv_at hl 5 rfl) ?_
  refine ex_call (vx_runV (As := [.int (nI sn), .int (nI ln), .int p2, .int p3, .int sk]) (rest := [.int 0, .ref o]) ⟨hx, hb, hml, hown, hts⟩ (M_X4_come_e3 l D cI b a a2 σ σ2 ω sn ln p2 p3 sk A9 hst hs hl9 h1 h2 h3 h4) (cwV 5 hts gL_come_X4_come rfl rfl rfl (by decide +kernel) ⟨Nat.le_of_ble_eq_true rfl, Nat.le_of_ble_eq_true rfl⟩) (exV hK hP hEX.1 [0, 1, 2, 3, 4, 5, 6, 7, 8, 9, 10, 11, 12, 13, 14, 15, 16, 17, 18, 19, 20, 21, 22, 23, 24, 25, 26, 27, 28, 29, 30, 31, 32, 33, 34, 35] [0] rfl rfl (ci := 4) (q0 := 0) rfl rfl) rfl rfl hl.1 rfl (lv_room (Nat.le_of_ble_eq_true rfl)) dL_come_11 ⟨Nat.le_of_ble_eq_true rfl, Nat.le_of_ble_eq_true rfl⟩) hP hD hS (fun ce q9 H locs hP hD hS hce hcv hcl => ?_)
  refine vx_catch (own := RL) (name := "java/lang/IllegalStateException") (E := "java/lang/IllegalStateException") hown ([⟨0, 16, 19, 13⟩, ⟨0, 16, 23, 15⟩] : List ClassFile.ExceptionTableEntry) ⟨0, 16, 27, 32⟩ ([] : List ClassFile.ExceptionTableEntry) ((vx_table (x := yL_come) B (hts _ List.mem_cons_self)).trans rfl) (fun z hz => by rcases List.mem_cons.mp hz with rfl | hz; exact Or.inr ⟨by decide, _, hts (.classLink RL 13 "java/lang/IndexOutOfBoundsException") (by decide +kernel), hEX.2.2.1⟩; rcases List.mem_singleton.mp hz with rfl; exact Or.inr ⟨by decide, _, hts (.classLink RL 15 "java/lang/IllegalArgumentException") (by decide +kernel), hEX.2.2.2⟩) (by decide) (by decide) (hts (.classLink RL 32 "java/lang/IllegalStateException") (by decide +kernel)) (dc_use rfl (hEX.1.1 (.castable "java/lang/IllegalStateException" "java/lang/IllegalStateException") (by decide +kernel))) hce hcv hcl ?_
  refine lv_astore (lv' := [(7, .ref q9), (0, .ref (b 0)), (1, .int (nI sn)), (2, .int (nI ln)), (3, .int p2), (4, .int p3), (5, .int sk), (6, .ref o)]) hx hb dL_come_27 hl (by decide) rfl (fun ls hl => ?_)
  refine lv_iconst (v := 3) hx hb dL_come_29 (by decide) ?_
  subst hQ
  exact ret_wri hx hb hr rfl hlocks hP hD hS (show 3 = 3 from rfl) dL_come_30
