set_option maxHeartbeats 4000000 in
set_option maxRecDepth 100000 in
theorem M_L_send_ok (l : Launch) (D : va_G) (cI : ClassId) (b : Nat → Nat) (a : Nat → Nat) (a2 : Nat → Nat) (σ : St) (σ2 : St) (ω : St) (cu : Nat) (p1 : Int32) (o : Nat) (g : Nat → Int64) (cJ : ClassId) (sz : Nat) (hcu : cu < 8) (h1 : (0 ≤ nI cu ∧ nI cu ≤ σ 17 0 - 1)) (h2 : (0 ≤ p1 ∧ p1 ≤ 11)) (h3 : ¬ σ 11 cu = 3) : Met l yL_send wsL_send ({ frames := 3, cells := 0, slots := 0, locals := 65 } : Room) (wrPc [.ref (b 0), .int (nI cu), .int p1, .ref o] D ((wLan b a a2 cI σ σ2 ω) ++ [(o, .inl (cJ, 1, .inr (.inl g)))]) [(cI, .int), (cJ, .long)] sz) (wrQi 0 D ((wLan b a a2 cI (put (put σ 10 (upd (σ 10) cu p1)) 11 (upd (σ 11) cu 0)) σ2 ω) ++ [(o, .inl (cJ, 1, .inr (.inl (vp_updL g 0 (ab (σ 8 cu - p1)).toInt64))))]) (va_A ((wLan b a a2 cI σ σ2 ω) ++ [(o, .inl (cJ, 1, .inr (.inl g)))]) sz)) 0 0 (va_A ((wLan b a a2 cI σ σ2 ω) ++ [(o, .inl (cJ, 1, .inr (.inl g)))]) sz) := by
  refine my_ofWH (cc := cL_send) (maxL := 5) (ret := (some .int)) (by decide) rfl ?_
  intro p e s m args below meth c s₁ B hml hv
  obtain ⟨hargs, hsz, hP, hK, hD0⟩ := hv
  have hx := B.exec
  have hb := B.bytes
  have hr := B.returns
  have hts := atoms_spec (ws := wsL_send) B.pre
  have hown : s.vm.findClass RL = some m.cls := findClass_of_methodNamed B.named
  have hlocks := B.notSynchronized
  obtain ⟨_, hN⟩ := id hK
  subst hsz
  have hD := hD0.self (sz := s.heap.size)
  generalize hAe : va_A ((wLan b a a2 cI σ σ2 ω) ++ [(o, .inl (cJ, 1, .inr (.inl g)))]) s.heap.size = A at hD ⊢
  have hA : ∀ q : Nat, s.heap.size ≤ q → A q := fun q h => by rw [← hAe]; exact Or.inr h
  have hS : va_S A s.heap s.heap [] := va_S.rf
  have hP : va_P D vwCl ((wLan b a a2 cI σ σ2 ω) ++ [(o, .inl (cJ, 1, .inr (.inl g)))]) s.heap := hP
  refine my_abs (fun Q hQ => ?_)
  obtain ⟨ls, hl, hent⟩ := my_entry (m := m) (n := 5) hargs (Nat.le_of_ble_eq_true rfl)
  rw [hent]
  have hl : lv_has ls 5 [(0, .ref (b 0)), (1, .int (nI cu)), (2, .int p1), (3, .ref o)] := hl
  show W p l e ({ frames := 3, cells := 0, slots := 0, locals := 65 } : Room) s m args below meth c s.heap [] 0 0 Q (F0 m 0 ls [])
  refine lv_aload_n hx hb dL_send_0 rfl (lv_at hl 3 rfl) ?_
  refine lv_iconst (v := 0) hx hb dL_send_1 (by decide) ?_
  refine lv_aload_n hx hb dL_send_2 rfl (lv_at hl 0 rfl) ?_
  refine lv_iload_n hx hb dL_send_3 rfl (lv_at hl 1 rfl) ?_
  refine lv_iload_n hx hb dL_send_4 rfl (lv_at hl 2 rfl) ?_
  refine wr_i (wn := (wTopE b a a2 ++ (wWag b cI ω ++ (wRivE a cI (σ 0 0) (σ 16 0) (σ 1) (σ 2) (σ 3) (σ 4) (σ 17 0) (σ 5) (σ 6) (σ 7) (σ 8) (σ 9) (upd ((σ 10)) cu p1) (upd ((σ 11)) cu 0) (σ 12) (σ 13) ++ wRiv a2 cI σ2))) ++ [(o, .inl (cJ, 1, .inr (.inl g)))]) (va_runV (As := [.int (nI cu), .int p1]) (rest := [.int 0, .ref o]) ⟨hx, hb, hml, hown, hts⟩ (M_X4_send_ok l D cI b a a2 σ σ2 ω cu p1 _ hcu h1 h2 h3) (cwV 2 hts gL_send_X4_send rfl rfl rfl (by decide +kernel) ⟨Nat.le_of_ble_eq_true rfl, Nat.le_of_ble_eq_true rfl⟩) (wrV hK hP hD [0, 1, 2, 3, 4, 5, 6, 7, 8, 9, 10, 11, 12, 13, 14, 15, 16, 17, 18, 19, 20, 21, 22, 23, 24, 25, 26, 27, 28, 29, 30, 31, 32, 33, 34, 35] [0] rfl rfl rfl (ci := 4) (q0 := 0) rfl rfl) rfl rfl hl.1 rfl (lv_room (Nat.le_of_ble_eq_true rfl)) dL_send_5 ⟨Nat.le_of_ble_eq_true rfl, Nat.le_of_ble_eq_true rfl⟩) hP hD hS hA [0, 1, 2, 3, 4, 5, 6, 7, 8, 9, 10, 11, 12, 13, 14, 15, 16, 17, 18, 19, 20, 21, 22, 23, 24, 25, 26, 27, 28, 29, 30, 31, 32, 33, 34, 35] [36] [1, 2, 3, 4, 5, 6, 7, 8, 9, 10, 11, 12, 13, 14, 15, 16, 17, 18, 19, 20, 21, 22, 23, 24, 25, 26, 27, 28, 29, 30, 31, 32, 33, 34, 35, 36, 0] rfl rfl rfl rfl rfl rfl (fun H locs hP hD hS => ?_)
  refine lv_i2l hx hb dL_send_8 rfl ?_
  refine va_last hx hb hK.1 hP hD hS 36 1 rfl rfl (by unfold vp_in; decide) dL_send_9 (fun H locs hP hD hS => ?_)
  have hP : va_P D vwCl ((wTopE b a a2 ++ (wWag b cI ω ++ (wRivE a cI (σ 0 0) (σ 16 0) (σ 1) (σ 2) (σ 3) (σ 4) (σ 17 0) (σ 5) (σ 6) (σ 7) (σ 8) (σ 9) (upd ((σ 10)) cu p1) (upd ((σ 11)) cu 0) (σ 12) (σ 13) ++ wRiv a2 cI σ2))) ++ [(o, .inl (cJ, 1, .inr (.inl (vp_updL g 0 ((ab ((σ 8) cu - p1)).toInt64)))))]) H := hP
  have hD : va_D A ((wTopE b a a2 ++ (wWag b cI ω ++ (wRivE a cI (σ 0 0) (σ 16 0) (σ 1) (σ 2) (σ 3) (σ 4) (σ 17 0) (σ 5) (σ 6) (σ 7) (σ 8) (σ 9) (upd ((σ 10)) cu p1) (upd ((σ 11)) cu 0) (σ 12) (σ 13) ++ wRiv a2 cI σ2))) ++ [(o, .inl (cJ, 1, .inr (.inl (vp_updL g 0 ((ab ((σ 8) cu - p1)).toInt64)))))]) := hD
  refine lv_goto (tgt := 21) hx hb dL_send_10 (by decide) ?_
  refine lv_iconst (v := 0) hx hb dL_send_21 (by decide) ?_
  subst hQ
  have hP : va_P D vwCl ((wLan b a a2 cI (put (put σ 10 (upd ((σ 10)) cu p1)) 11 (upd ((σ 11)) cu 0)) σ2 ω) ++ [(o, .inl (cJ, 1, .inr (.inl (vp_updL g 0 ((ab ((σ 8) cu - p1)).toInt64)))))]) H := hP
  have hD : va_D A ((wLan b a a2 cI (put (put σ 10 (upd ((σ 10)) cu p1)) 11 (upd ((σ 11)) cu 0)) σ2 ω) ++ [(o, .inl (cJ, 1, .inr (.inl (vp_updL g 0 ((ab ((σ 8) cu - p1)).toInt64)))))]) := hD
  have k_10 : (upd ((σ 10)) cu p1 : Nat → Int32) = (upd (σ 10) cu p1) := by rfl
  have k_11 : (upd ((σ 11)) cu 0 : Nat → Int32) = (upd (σ 11) cu 0) := by rfl
  have hst_s : put (put σ 10 (upd ((σ 10)) cu p1)) 11 (upd ((σ 11)) cu 0) = put (put σ 10 (upd (σ 10) cu p1)) 11 (upd (σ 11) cu 0) := put_cg (put_cg rfl k_10) k_11
  rw [hst_s] at hP hD
  exact ret_wri hx hb hr rfl hlocks hP hD hS (show 0 = 0 from rfl) dL_send_22
set_option maxHeartbeats 4000000 in
set_option maxRecDepth 100000 in
theorem M_L_send_e1 (l : Launch) (D : va_G) (cI : ClassId) (b : Nat → Nat) (a : Nat → Nat) (a2 : Nat → Nat) (σ : St) (σ2 : St) (ω : St) (p0 : Int32) (p1 : Int32) (o : Nat) (g : Nat → Int64) (cJ : ClassId) (sz : Nat) (A9 : Nat → Prop) (hst : l.stackTraces = false) (h1 : ¬ ((0 ≤ p0 ∧ p0 ≤ σ 17 0 - 1) ∧ (0 ≤ p1 ∧ p1 ≤ 11))) : Met l yL_send wsL_send ({ frames := 7, cells := 1, slots := 6, locals := 104 } : Room) (hxPc [.ref (b 0), .int p0, .int p1, .ref o] D ((wLan b a a2 cI σ σ2 ω) ++ [(o, .inl (cJ, 1, .inr (.inl g)))]) [(cI, .int), (cJ, .long)] sz A9) (wrQi 1 D ((wLan b a a2 cI σ σ2 ω) ++ [(o, .inl (cJ, 1, .inr (.inl g)))]) (va_A ((wLan b a a2 cI σ σ2 ω) ++ [(o, .inl (cJ, 1, .inr (.inl g)))]) sz)) 1 6 (va_A ((wLan b a a2 cI σ σ2 ω) ++ [(o, .inl (cJ, 1, .inr (.inl g)))]) sz) := by
  refine my_ofWH (cc := cL_send) (maxL := 5) (ret := (some .int)) (by decide) rfl ?_
  intro p e s m args below meth c s₁ B hml hv
  obtain ⟨⟨hargs, hsz, hP, hK, hD0⟩, hEX⟩ := hv
  have hx := B.exec
  have hb := B.bytes
  have hr := B.returns
  have hts := atoms_spec (ws := wsL_send) B.pre
  have hown : s.vm.findClass RL = some m.cls := findClass_of_methodNamed B.named
  have hlocks := B.notSynchronized
  obtain ⟨_, hN⟩ := id hK
  subst hsz
  have hD := hD0.self (sz := s.heap.size)
  generalize hAe : va_A ((wLan b a a2 cI σ σ2 ω) ++ [(o, .inl (cJ, 1, .inr (.inl g)))]) s.heap.size = A at hD ⊢
  have hA : ∀ q : Nat, s.heap.size ≤ q → A q := fun q h => by rw [← hAe]; exact Or.inr h
  have hS : va_S A s.heap s.heap [] := va_S.rf
  have hP : va_P D vwCl ((wLan b a a2 cI σ σ2 ω) ++ [(o, .inl (cJ, 1, .inr (.inl g)))]) s.heap := hP
  refine my_abs (fun Q hQ => ?_)
  obtain ⟨ls, hl, hent⟩ := my_entry (m := m) (n := 5) hargs (Nat.le_of_ble_eq_true rfl)
  rw [hent]
  have hl : lv_has ls 5 [(0, .ref (b 0)), (1, .int p0), (2, .int p1), (3, .ref o)] := hl
  show W p l e ({ frames := 7, cells := 1, slots := 6, locals := 104 } : Room) s m args below meth c s.heap [] 0 0 Q (F0 m 0 ls [])
  refine lv_aload_n hx hb dL_send_0 rfl (lv_at hl 3 rfl) ?_
  refine lv_iconst (v := 0) hx hb dL_send_1 (by decide) ?_
  refine lv_aload_n hx hb dL_send_2 rfl (lv_at hl 0 rfl) ?_
  refine lv_iload_n hx hb dL_send_3 rfl (lv_at hl 1 rfl) ?_
  refine lv_iload_n hx hb dL_send_4 rfl (lv_at hl 2 rfl) ?_
  refine ex_call (vx_runV (As := [.int p0, .int p1]) (rest := [.int 0, .ref o]) ⟨hx, hb, hml, hown, hts⟩ (M_X4_send_e1 l D cI b a a2 σ σ2 ω p0 p1 A9 hst h1) (cwV 2 hts gL_send_X4_send rfl rfl rfl (by decide +kernel) ⟨Nat.le_of_ble_eq_true rfl, Nat.le_of_ble_eq_true rfl⟩) (exV hK hP hEX.1 [0, 1, 2, 3, 4, 5, 6, 7, 8, 9, 10, 11, 12, 13, 14, 15, 16, 17, 18, 19, 20, 21, 22, 23, 24, 25, 26, 27, 28, 29, 30, 31, 32, 33, 34, 35] [0] rfl rfl (ci := 4) (q0 := 0) rfl rfl) rfl rfl hl.1 rfl (lv_room (Nat.le_of_ble_eq_true rfl)) dL_send_5 ⟨Nat.le_of_ble_eq_true rfl, Nat.le_of_ble_eq_true rfl⟩) hP hD hS (fun ce q9 H locs hP hD hS hce hcv hcl => ?_)
  refine vx_catch (own := RL) (name := "java/lang/IndexOutOfBoundsException") (E := "java/lang/IndexOutOfBoundsException") hown ([] : List ClassFile.ExceptionTableEntry) ⟨0, 10, 13, 13⟩ ([⟨0, 10, 17, 32⟩] : List ClassFile.ExceptionTableEntry) ((vx_table (x := yL_send) B (hts _ List.mem_cons_self)).trans rfl) (fun z hz => nomatch hz) (by decide) (by decide) (hts (.classLink RL 13 "java/lang/IndexOutOfBoundsException") (by decide +kernel)) (dc_use rfl (hEX.1.1 (.castable "java/lang/IndexOutOfBoundsException" "java/lang/IndexOutOfBoundsException") (by decide +kernel))) hce hcv hcl ?_
  refine lv_astore (lv' := [(4, .ref q9), (0, .ref (b 0)), (1, .int p0), (2, .int p1), (3, .ref o)]) hx hb dL_send_13 hl (by decide) rfl (fun ls hl => ?_)
  refine lv_iconst (v := 1) hx hb dL_send_15 (by decide) ?_
  subst hQ
  exact ret_wri hx hb hr rfl hlocks hP hD hS (show 1 = 1 from rfl) dL_send_16
set_option maxHeartbeats 4000000 in
set_option maxRecDepth 100000 in
theorem M_L_send_e2 (l : Launch) (D : va_G) (cI : ClassId) (b : Nat → Nat) (a : Nat → Nat) (a2 : Nat → Nat) (σ : St) (σ2 : St) (ω : St) (cu : Nat) (p1 : Int32) (o : Nat) (g : Nat → Int64) (cJ : ClassId) (sz : Nat) (A9 : Nat → Prop) (hst : l.stackTraces = false) (hcu : cu < 8) (h1 : (0 ≤ nI cu ∧ nI cu ≤ σ 17 0 - 1)) (h2 : (0 ≤ p1 ∧ p1 ≤ 11)) (h3 : σ 11 cu = 3) : Met l yL_send wsL_send ({ frames := 7, cells := 1, slots := 6, locals := 104 } : Room) (hxPc [.ref (b 0), .int (nI cu), .int p1, .ref o] D ((wLan b a a2 cI σ σ2 ω) ++ [(o, .inl (cJ, 1, .inr (.inl g)))]) [(cI, .int), (cJ, .long)] sz A9) (wrQi 2 D ((wLan b a a2 cI σ σ2 ω) ++ [(o, .inl (cJ, 1, .inr (.inl g)))]) (va_A ((wLan b a a2 cI σ σ2 ω) ++ [(o, .inl (cJ, 1, .inr (.inl g)))]) sz)) 1 6 (va_A ((wLan b a a2 cI σ σ2 ω) ++ [(o, .inl (cJ, 1, .inr (.inl g)))]) sz) := by
  refine my_ofWH (cc := cL_send) (maxL := 5) (ret := (some .int)) (by decide) rfl ?_
  intro p e s m args below meth c s₁ B hml hv
  obtain ⟨⟨hargs, hsz, hP, hK, hD0⟩, hEX⟩ := hv
  have hx := B.exec
  have hb := B.bytes
  have hr := B.returns
  have hts := atoms_spec (ws := wsL_send) B.pre
  have hown : s.vm.findClass RL = some m.cls := findClass_of_methodNamed B.named
  have hlocks := B.notSynchronized
  obtain ⟨_, hN⟩ := id hK
  subst hsz
  have hD := hD0.self (sz := s.heap.size)
  generalize hAe : va_A ((wLan b a a2 cI σ σ2 ω) ++ [(o, .inl (cJ, 1, .inr (.inl g)))]) s.heap.size = A at hD ⊢
  have hA : ∀ q : Nat, s.heap.size ≤ q → A q := fun q h => by rw [← hAe]; exact Or.inr h
  have hS : va_S A s.heap s.heap [] := va_S.rf
  have hP : va_P D vwCl ((wLan b a a2 cI σ σ2 ω) ++ [(o, .inl (cJ, 1, .inr (.inl g)))]) s.heap := hP
  refine my_abs (fun Q hQ => ?_)
  obtain ⟨ls, hl, hent⟩ := my_entry (m := m) (n := 5) hargs (Nat.le_of_ble_eq_true rfl)
  rw [hent]
  have hl : lv_has ls 5 [(0, .ref (b 0)), (1, .int (nI cu)), (2, .int p1), (3, .ref o)] := hl
  show W p l e ({ frames := 7, cells := 1, slots := 6, locals := 104 } : Room) s m args below meth c s.heap [] 0 0 Q (F0 m 0 ls [])
  refine lv_aload_n hx hb dL_send_0 rfl (lv_at hl 3 rfl) ?_
  refine lv_iconst (v := 0) hx hb dL_send_1 (by decide) ?_
  refine lv_aload_n hx hb dL_send_2 rfl (lv_at hl 0 rfl) ?_
  refine lv_iload_n hx hb dL_send_3 rfl (lv_at hl 1 rfl) ?_
  refine lv_iload_n hx hb dL_send_4 rfl (lv_at hl 2 rfl) ?_
  refine ex_call (vx_runV (As := [.int (nI cu), .int p1]) (rest := [.int 0, .ref o]) ⟨hx, hb, hml, hown, hts⟩ (M_X4_send_e2 l D cI b a a2 σ σ2 ω cu p1 A9 hst hcu h1 h2 h3) (cwV 2 hts gL_send_X4_send rfl rfl rfl (by decide +kernel) ⟨Nat.le_of_ble_eq_true rfl, Nat.le_of_ble_eq_true rfl⟩) (exV hK hP hEX.1 [0, 1, 2, 3, 4, 5, 6, 7, 8, 9, 10, 11, 12, 13, 14, 15, 16, 17, 18, 19, 20, 21, 22, 23, 24, 25, 26, 27, 28, 29, 30, 31, 32, 33, 34, 35] [0] rfl rfl (ci := 4) (q0 := 0) rfl rfl) rfl rfl hl.1 rfl (lv_room (Nat.le_of_ble_eq_true rfl)) dL_send_5 ⟨Nat.le_of_ble_eq_true rfl, Nat.le_of_ble_eq_true rfl⟩) hP hD hS (fun ce q9 H locs hP hD hS hce hcv hcl => ?_)
  refine vx_catch (own := RL) (name := "java/lang/IllegalStateException") (E := "java/lang/IllegalStateException") hown ([⟨0, 10, 13, 13⟩] : List ClassFile.ExceptionTableEntry) ⟨0, 10, 17, 32⟩ ([] : List ClassFile.ExceptionTableEntry) ((vx_table (x := yL_send) B (hts _ List.mem_cons_self)).trans rfl) (fun z hz => by rcases List.mem_singleton.mp hz with rfl; exact Or.inr ⟨by decide, _, hts (.classLink RL 13 "java/lang/IndexOutOfBoundsException") (by decide +kernel), hEX.2.2.1⟩) (by decide) (by decide) (hts (.classLink RL 32 "java/lang/IllegalStateException") (by decide +kernel)) (dc_use rfl (hEX.1.1 (.castable "java/lang/IllegalStateException" "java/lang/IllegalStateException") (by decide +kernel))) hce hcv hcl ?_
  refine lv_astore (lv' := [(4, .ref q9), (0, .ref (b 0)), (1, .int (nI cu)), (2, .int p1), (3, .ref o)]) hx hb dL_send_17 hl (by decide) rfl (fun ls hl => ?_)
  refine lv_iconst (v := 2) hx hb dL_send_19 (by decide) ?_
  subst hQ
  exact ret_wri hx hb hr rfl hlocks hP hD hS (show 2 = 2 from rfl) dL_send_20
set_option maxHeartbeats 4000000 in
set_option maxRecDepth 100000 in
theorem M_L_load_ok (l : Launch) (D : va_G) (cI : ClassId) (b : Nat → Nat) (a : Nat → Nat) (a2 : Nat → Nat) (σ : St) (σ2 : St) (ω : St) (cu : Nat) (p1 : Int32) (o : Nat) (g : Nat → Int64) (cJ : ClassId) (sz : Nat) (hcu : cu < 8) (h1 : (0 ≤ nI cu ∧ nI cu ≤ σ 17 0 - 1)) (h2 : ¬ p1 = 0) (h3 : ((-20) ≤ p1 ∧ p1 ≤ 20)) (h4 : ¬ σ 11 cu = 3) (h5 : (0 ≤ σ 6 cu + p1 ∧ σ 6 cu + p1 ≤ 20)) (h6 : inS (σ 8 cu)) (h7 : inL (σ 9 cu)) (h8 : σ 5 cu + (σ 6 cu + p1) ≤ sound (σ 3) (σ 4) (σ 8 cu) (σ 9 cu)) : Met l yL_load wsL_load ({ frames := 5, cells := 0, slots := 0, locals := 113 } : Room) (wrPc [.ref (b 0), .int (nI cu), .int p1, .ref o] D ((wLan b a a2 cI σ σ2 ω) ++ [(o, .inl (cJ, 1, .inr (.inl g)))]) [(cI, .int), (cJ, .long)] sz) (wrQi 0 D ((wLan b a a2 cI (put σ 6 (upd (σ 6) cu (σ 6 cu + p1))) σ2 ω) ++ [(o, .inl (cJ, 1, .inr (.inl (vp_updL g 0 (σ 6 cu + p1).toInt64))))]) (va_A ((wLan b a a2 cI σ σ2 ω) ++ [(o, .inl (cJ, 1, .inr (.inl g)))]) sz)) 0 0 (va_A ((wLan b a a2 cI σ σ2 ω) ++ [(o, .inl (cJ, 1, .inr (.inl g)))]) sz) := by
  refine my_ofWH (cc := cL_load) (maxL := 5) (ret := (some .int)) (by decide) rfl ?_
  intro p e s m args below meth c s₁ B hml hv
  obtain ⟨hargs, hsz, hP, hK, hD0⟩ := hv
  have hx := B.exec
  have hb := B.bytes
  have hr := B.returns
  have hts := atoms_spec (ws := wsL_load) B.pre
  have hown : s.vm.findClass RL = some m.cls := findClass_of_methodNamed B.named
  have hlocks := B.notSynchronized
  obtain ⟨_, hN⟩ := id hK
  subst hsz
  have hD := hD0.self (sz := s.heap.size)
  generalize hAe : va_A ((wLan b a a2 cI σ σ2 ω) ++ [(o, .inl (cJ, 1, .inr (.inl g)))]) s.heap.size = A at hD ⊢
  have hA : ∀ q : Nat, s.heap.size ≤ q → A q := fun q h => by rw [← hAe]; exact Or.inr h
  have hS : va_S A s.heap s.heap [] := va_S.rf
  have hP : va_P D vwCl ((wLan b a a2 cI σ σ2 ω) ++ [(o, .inl (cJ, 1, .inr (.inl g)))]) s.heap := hP
  refine my_abs (fun Q hQ => ?_)
  obtain ⟨ls, hl, hent⟩ := my_entry (m := m) (n := 5) hargs (Nat.le_of_ble_eq_true rfl)
  rw [hent]
  have hl : lv_has ls 5 [(0, .ref (b 0)), (1, .int (nI cu)), (2, .int p1), (3, .ref o)] := hl
  show W p l e ({ frames := 5, cells := 0, slots := 0, locals := 113 } : Room) s m args below meth c s.heap [] 0 0 Q (F0 m 0 ls [])
  refine lv_aload_n hx hb dL_load_0 rfl (lv_at hl 3 rfl) ?_
  refine lv_iconst (v := 0) hx hb dL_load_1 (by decide) ?_
  refine lv_aload_n hx hb dL_load_2 rfl (lv_at hl 0 rfl) ?_
  refine lv_iload_n hx hb dL_load_3 rfl (lv_at hl 1 rfl) ?_
  refine lv_iload_n hx hb dL_load_4 rfl (lv_at hl 2 rfl) ?_
  refine wr_i (wn := (wTopE b a a2 ++ (wWag b cI ω ++ (wRivE a cI (σ 0 0) (σ 16 0) (σ 1) (σ 2) (σ 3) (σ 4) (σ 17 0) (σ 5) (upd ((σ 6)) cu ((σ 6) cu + p1)) (σ 7) (σ 8) (σ 9) (σ 10) (σ 11) (σ 12) (σ 13) ++ wRiv a2 cI σ2))) ++ [(o, .inl (cJ, 1, .inr (.inl g)))]) (va_runV (As := [.int (nI cu), .int p1]) (rest := [.int 0, .ref o]) ⟨hx, hb, hml, hown, hts⟩ (M_X4_load_ok l D cI b a a2 σ σ2 ω cu p1 _ hcu h1 h2 h3 h4 h5 h6 h7 h8) (cwV 2 hts gL_load_X4_load rfl rfl rfl (by decide +kernel) ⟨Nat.le_of_ble_eq_true rfl, Nat.le_of_ble_eq_true rfl⟩) (wrV hK hP hD [0, 1, 2, 3, 4, 5, 6, 7, 8, 9, 10, 11, 12, 13, 14, 15, 16, 17, 18, 19, 20, 21, 22, 23, 24, 25, 26, 27, 28, 29, 30, 31, 32, 33, 34, 35] [0] rfl rfl rfl (ci := 4) (q0 := 0) rfl rfl) rfl rfl hl.1 rfl (lv_room (Nat.le_of_ble_eq_true rfl)) dL_load_5 ⟨Nat.le_of_ble_eq_true rfl, Nat.le_of_ble_eq_true rfl⟩) hP hD hS hA [0, 1, 2, 3, 4, 5, 6, 7, 8, 9, 10, 11, 12, 13, 14, 15, 16, 17, 18, 19, 20, 21, 22, 23, 24, 25, 26, 27, 28, 29, 30, 31, 32, 33, 34, 35] [36] [1, 2, 3, 4, 5, 6, 7, 8, 9, 10, 11, 12, 13, 14, 15, 16, 17, 18, 19, 20, 21, 22, 23, 24, 25, 26, 27, 28, 29, 30, 31, 32, 33, 34, 35, 36, 0] rfl rfl rfl rfl rfl rfl (fun H locs hP hD hS => ?_)
  refine lv_i2l hx hb dL_load_8 rfl ?_
  refine va_last hx hb hK.1 hP hD hS 36 1 rfl rfl (by unfold vp_in; decide) dL_load_9 (fun H locs hP hD hS => ?_)
  have hP : va_P D vwCl ((wTopE b a a2 ++ (wWag b cI ω ++ (wRivE a cI (σ 0 0) (σ 16 0) (σ 1) (σ 2) (σ 3) (σ 4) (σ 17 0) (σ 5) (upd ((σ 6)) cu ((σ 6) cu + p1)) (σ 7) (σ 8) (σ 9) (σ 10) (σ 11) (σ 12) (σ 13) ++ wRiv a2 cI σ2))) ++ [(o, .inl (cJ, 1, .inr (.inl (vp_updL g 0 (((σ 6) cu + p1).toInt64)))))]) H := hP
  have hD : va_D A ((wTopE b a a2 ++ (wWag b cI ω ++ (wRivE a cI (σ 0 0) (σ 16 0) (σ 1) (σ 2) (σ 3) (σ 4) (σ 17 0) (σ 5) (upd ((σ 6)) cu ((σ 6) cu + p1)) (σ 7) (σ 8) (σ 9) (σ 10) (σ 11) (σ 12) (σ 13) ++ wRiv a2 cI σ2))) ++ [(o, .inl (cJ, 1, .inr (.inl (vp_updL g 0 (((σ 6) cu + p1).toInt64)))))]) := hD
  refine lv_goto (tgt := 25) hx hb dL_load_10 (by decide) ?_
  refine lv_iconst (v := 0) hx hb dL_load_25 (by decide) ?_
  subst hQ
  have hP : va_P D vwCl ((wLan b a a2 cI (put σ 6 (upd ((σ 6)) cu ((σ 6) cu + p1))) σ2 ω) ++ [(o, .inl (cJ, 1, .inr (.inl (vp_updL g 0 (((σ 6) cu + p1).toInt64)))))]) H := hP
  have hD : va_D A ((wLan b a a2 cI (put σ 6 (upd ((σ 6)) cu ((σ 6) cu + p1))) σ2 ω) ++ [(o, .inl (cJ, 1, .inr (.inl (vp_updL g 0 (((σ 6) cu + p1).toInt64)))))]) := hD
  have k_6 : (upd ((σ 6)) cu ((σ 6) cu + p1) : Nat → Int32) = (upd (σ 6) cu (σ 6 cu + p1)) := by rfl
  have hst_s : put σ 6 (upd ((σ 6)) cu ((σ 6) cu + p1)) = put σ 6 (upd (σ 6) cu (σ 6 cu + p1)) := put_cg rfl k_6
  rw [hst_s] at hP hD
  exact ret_wri hx hb hr rfl hlocks hP hD hS (show 0 = 0 from rfl) dL_load_26
set_option maxHeartbeats 4000000 in
set_option maxRecDepth 100000 in
theorem M_L_load_e1 (l : Launch) (D : va_G) (cI : ClassId) (b : Nat → Nat) (a : Nat → Nat) (a2 : Nat → Nat) (σ : St) (σ2 : St) (ω : St) (p0 : Int32) (p1 : Int32) (o : Nat) (g : Nat → Int64) (cJ : ClassId) (sz : Nat) (A9 : Nat → Prop) (hst : l.stackTraces = false) (h1 : ¬ (0 ≤ p0 ∧ p0 ≤ σ 17 0 - 1)) : Met l yL_load wsL_load ({ frames := 7, cells := 1, slots := 6, locals := 105 } : Room) (hxPc [.ref (b 0), .int p0, .int p1, .ref o] D ((wLan b a a2 cI σ σ2 ω) ++ [(o, .inl (cJ, 1, .inr (.inl g)))]) [(cI, .int), (cJ, .long)] sz A9) (wrQi 1 D ((wLan b a a2 cI σ σ2 ω) ++ [(o, .inl (cJ, 1, .inr (.inl g)))]) (va_A ((wLan b a a2 cI σ σ2 ω) ++ [(o, .inl (cJ, 1, .inr (.inl g)))]) sz)) 1 6 (va_A ((wLan b a a2 cI σ σ2 ω) ++ [(o, .inl (cJ, 1, .inr (.inl g)))]) sz) := by
  refine my_ofWH (cc := cL_load) (maxL := 5) (ret := (some .int)) (by decide) rfl ?_
  intro p e s m args below meth c s₁ B hml hv
  obtain ⟨⟨hargs, hsz, hP, hK, hD0⟩, hEX⟩ := hv
  have hx := B.exec
  have hb := B.bytes
  have hr := B.returns
  have hts := atoms_spec (ws := wsL_load) B.pre
  have hown : s.vm.findClass RL = some m.cls := findClass_of_methodNamed B.named
  have hlocks := B.notSynchronized
  obtain ⟨_, hN⟩ := id hK
  subst hsz
  have hD := hD0.self (sz := s.heap.size)
  generalize hAe : va_A ((wLan b a a2 cI σ σ2 ω) ++ [(o, .inl (cJ, 1, .inr (.inl g)))]) s.heap.size = A at hD ⊢
  have hA : ∀ q : Nat, s.heap.size ≤ q → A q := fun q h => by rw [← hAe]; exact Or.inr h
  have hS : va_S A s.heap s.heap [] := va_S.rf
  have hP : va_P D vwCl ((wLan b a a2 cI σ σ2 ω) ++ [(o, .inl (cJ, 1, .inr (.inl g)))]) s.heap := hP
  refine my_abs (fun Q hQ => ?_)
  obtain ⟨ls, hl, hent⟩ := my_entry (m := m) (n := 5) hargs (Nat.le_of_ble_eq_true rfl)
  rw [hent]
  have hl : lv_has ls 5 [(0, .ref (b 0)), (1, .int p0), (2, .int p1), (3, .ref o)] := hl
  show W p l e ({ frames := 7, cells := 1, slots := 6, locals := 105 } : Room) s m args below meth c s.heap [] 0 0 Q (F0 m 0 ls [])
  refine lv_aload_n hx hb dL_load_0 rfl (lv_at hl 3 rfl) ?_
  refine lv_iconst (v := 0) hx hb dL_load_1 (by decide) ?_
  refine lv_aload_n hx hb dL_load_2 rfl (lv_at hl 0 rfl) ?_
  refine lv_iload_n hx hb dL_load_3 rfl (lv_at hl 1 rfl) ?_
  refine lv_iload_n hx hb dL_load_4 rfl (lv_at hl 2 rfl) ?_
  refine ex_call (vx_runV (As := [.int p0, .int p1]) (rest := [.int 0, .ref o]) ⟨hx, hb, hml, hown, hts⟩ (M_X4_load_e1 l D cI b a a2 σ σ2 ω p0 p1 A9 hst h1) (cwV 2 hts gL_load_X4_load rfl rfl rfl (by decide +kernel) ⟨Nat.le_of_ble_eq_true rfl, Nat.le_of_ble_eq_true rfl⟩) (exV hK hP hEX.1 [0, 1, 2, 3, 4, 5, 6, 7, 8, 9, 10, 11, 12, 13, 14, 15, 16, 17, 18, 19, 20, 21, 22, 23, 24, 25, 26, 27, 28, 29, 30, 31, 32, 33, 34, 35] [0] rfl rfl (ci := 4) (q0 := 0) rfl rfl) rfl rfl hl.1 rfl (lv_room (Nat.le_of_ble_eq_true rfl)) dL_load_5 ⟨Nat.le_of_ble_eq_true rfl, Nat.le_of_ble_eq_true rfl⟩) hP hD hS (fun ce q9 H locs hP hD hS hce hcv hcl => ?_)
  refine vx_catch (own := RL) (name := "java/lang/IndexOutOfBoundsException") (E := "java/lang/IndexOutOfBoundsException") hown ([] : List ClassFile.ExceptionTableEntry) ⟨0, 10, 13, 13⟩ ([⟨0, 10, 17, 15⟩, ⟨0, 10, 21, 32⟩] : List ClassFile.ExceptionTableEntry) ((vx_table (x := yL_load) B (hts _ List.mem_cons_self)).trans rfl) (fun z hz => nomatch hz) (by decide) (by decide) (hts (.classLink RL 13 "java/lang/IndexOutOfBoundsException") (by decide +kernel)) (dc_use rfl (hEX.1.1 (.castable "java/lang/IndexOutOfBoundsException" "java/lang/IndexOutOfBoundsException") (by decide +kernel))) hce hcv hcl ?_
  refine lv_astore (lv' := [(4, .ref q9), (0, .ref (b 0)), (1, .int p0), (2, .int p1), (3, .ref o)]) hx hb dL_load_13 hl (by decide) rfl (fun ls hl => ?_)
  refine lv_iconst (v := 1) hx hb dL_load_15 (by decide) ?_
  subst hQ
  exact ret_wri hx hb hr rfl hlocks hP hD hS (show 1 = 1 from rfl) dL_load_16
set_option maxHeartbeats 4000000 in
set_option maxRecDepth 100000 in
theorem M_L_load_e2 (l : Launch) (D : va_G) (cI : ClassId) (b : Nat → Nat) (a : Nat → Nat) (a2 : Nat → Nat) (σ : St) (σ2 : St) (ω : St) (p0 : Int32) (p1 : Int32) (o : Nat) (g : Nat → Int64) (cJ : ClassId) (sz : Nat) (A9 : Nat → Prop) (hst : l.stackTraces = false) (h1 : (0 ≤ p0 ∧ p0 ≤ σ 17 0 - 1)) (h2 : p1 = 0 ∨ ¬ ((-20) ≤ p1 ∧ p1 ≤ 20)) : Met l yL_load wsL_load ({ frames := 7, cells := 1, slots := 6, locals := 105 } : Room) (hxPc [.ref (b 0), .int p0, .int p1, .ref o] D ((wLan b a a2 cI σ σ2 ω) ++ [(o, .inl (cJ, 1, .inr (.inl g)))]) [(cI, .int), (cJ, .long)] sz A9) (wrQi 2 D ((wLan b a a2 cI σ σ2 ω) ++ [(o, .inl (cJ, 1, .inr (.inl g)))]) (va_A ((wLan b a a2 cI σ σ2 ω) ++ [(o, .inl (cJ, 1, .inr (.inl g)))]) sz)) 1 6 (va_A ((wLan b a a2 cI σ σ2 ω) ++ [(o, .inl (cJ, 1, .inr (.inl g)))]) sz) := by
  refine my_ofWH (cc := cL_load) (maxL := 5) (ret := (some .int)) (by decide) rfl ?_
  intro p e s m args below meth c s₁ B hml hv
  obtain ⟨⟨hargs, hsz, hP, hK, hD0⟩, hEX⟩ := hv
  have hx := B.exec
  have hb := B.bytes
  have hr := B.returns
  have hts := atoms_spec (ws := wsL_load) B.pre
  have hown : s.vm.findClass RL = some m.cls := findClass_of_methodNamed B.named
  have hlocks := B.notSynchronized
  obtain ⟨_, hN⟩ := id hK
  subst hsz
  have hD := hD0.self (sz := s.heap.size)
  generalize hAe : va_A ((wLan b a a2 cI σ σ2 ω) ++ [(o, .inl (cJ, 1, .inr (.inl g)))]) s.heap.size = A at hD ⊢
  have hA : ∀ q : Nat, s.heap.size ≤ q → A q := fun q h => by rw [← hAe]; exact Or.inr h
  have hS : va_S A s.heap s.heap [] := va_S.rf
  have hP : va_P D vwCl ((wLan b a a2 cI σ σ2 ω) ++ [(o, .inl (cJ, 1, .inr (.inl g)))]) s.heap := hP
  refine my_abs (fun Q hQ => ?_)
  obtain ⟨ls, hl, hent⟩ := my_entry (m := m) (n := 5) hargs (Nat.le_of_ble_eq_true rfl)
  rw [hent]
  have hl : lv_has ls 5 [(0, .ref (b 0)), (1, .int p0), (2, .int p1), (3, .ref o)] := hl
  show W p l e ({ frames := 7, cells := 1, slots := 6, locals := 105 } : Room) s m args below meth c s.heap [] 0 0 Q (F0 m 0 ls [])
  refine lv_aload_n hx hb dL_load_0 rfl (lv_at hl 3 rfl) ?_
  refine lv_iconst (v := 0) hx hb dL_load_1 (by decide) ?_
  refine lv_aload_n hx hb dL_load_2 rfl (lv_at hl 0 rfl) ?_
  refine lv_iload_n hx hb dL_load_3 rfl (lv_at hl 1 rfl) ?_
  refine lv_iload_n hx hb dL_load_4 rfl (lv_at hl 2 rfl) ?_
  refine ex_call (vx_runV (As := [.int p0, .int p1]) (rest := [.int 0, .ref o]) ⟨hx, hb, hml, hown, hts⟩ (M_X4_load_e2 l D cI b a a2 σ σ2 ω p0 p1 A9 hst h1 h2) (cwV 2 hts gL_load_X4_load rfl rfl rfl (by decide +kernel) ⟨Nat.le_of_ble_eq_true rfl, Nat.le_of_ble_eq_true rfl⟩) (exV hK hP hEX.1 [0, 1, 2, 3, 4, 5, 6, 7, 8, 9, 10, 11, 12, 13, 14, 15, 16, 17, 18, 19, 20, 21, 22, 23, 24, 25, 26, 27, 28, 29, 30, 31, 32, 33, 34, 35] [0] rfl rfl (ci := 4) (q0 := 0) rfl rfl) rfl rfl hl.1 rfl (lv_room (Nat.le_of_ble_eq_true rfl)) dL_load_5 ⟨Nat.le_of_ble_eq_true rfl, Nat.le_of_ble_eq_true rfl⟩) hP hD hS (fun ce q9 H locs hP hD hS hce hcv hcl => ?_)
  refine vx_catch (own := RL) (name := "java/lang/IllegalArgumentException") (E := "java/lang/IllegalArgumentException") hown ([⟨0, 10, 13, 13⟩] : List ClassFile.ExceptionTableEntry) ⟨0, 10, 17, 15⟩ ([⟨0, 10, 21, 32⟩] : List ClassFile.ExceptionTableEntry) ((vx_table (x := yL_load) B (hts _ List.mem_cons_self)).trans rfl) (fun z hz => by rcases List.mem_singleton.mp hz with rfl; exact Or.inr ⟨by decide, _, hts (.classLink RL 13 "java/lang/IndexOutOfBoundsException") (by decide +kernel), hEX.2.1⟩) (by decide) (by decide) (hts (.classLink RL 15 "java/lang/IllegalArgumentException") (by decide +kernel)) (dc_use rfl (hEX.1.1 (.castable "java/lang/IllegalArgumentException" "java/lang/IllegalArgumentException") (by decide +kernel))) hce hcv hcl ?_
  refine lv_astore (lv' := [(4, .ref q9), (0, .ref (b 0)), (1, .int p0), (2, .int p1), (3, .ref o)]) hx hb dL_load_17 hl (by decide) rfl (fun ls hl => ?_)
  refine lv_iconst (v := 2) hx hb dL_load_19 (by decide) ?_
  subst hQ
  exact ret_wri hx hb hr rfl hlocks hP hD hS (show 2 = 2 from rfl) dL_load_20
set_option maxHeartbeats 4000000 in
set_option maxRecDepth 100000 in
theorem M_L_load_e3 (l : Launch) (D : va_G) (cI : ClassId) (b : Nat → Nat) (a : Nat → Nat) (a2 : Nat → Nat) (σ : St) (σ2 : St) (ω : St) (cu : Nat) (p1 : Int32) (o : Nat) (g : Nat → Int64) (cJ : ClassId) (sz : Nat) (A9 : Nat → Prop) (hst : l.stackTraces = false) (hcu : cu < 8) (h1 : (0 ≤ nI cu ∧ nI cu ≤ σ 17 0 - 1)) (h2 : ¬ p1 = 0) (h3 : ((-20) ≤ p1 ∧ p1 ≤ 20)) (h6 : inS (σ 8 cu)) (h7 : inL (σ 9 cu)) (h4 : σ 11 cu = 3 ∨ ¬ (0 ≤ σ 6 cu + p1 ∧ σ 6 cu + p1 ≤ 20) ∨ ¬ σ 5 cu + (σ 6 cu + p1) ≤ sound (σ 3) (σ 4) (σ 8 cu) (σ 9 cu)) : Met l yL_load wsL_load ({ frames := 7, cells := 1, slots := 6, locals := 113 } : Room) (hxPc [.ref (b 0), .int (nI cu), .int p1, .ref o] D ((wLan b a a2 cI σ σ2 ω) ++ [(o, .inl (cJ, 1, .inr (.inl g)))]) [(cI, .int), (cJ, .long)] sz A9) (wrQi 3 D ((wLan b a a2 cI σ σ2 ω) ++ [(o, .inl (cJ, 1, .inr (.inl g)))]) (va_A ((wLan b a a2 cI σ σ2 ω) ++ [(o, .inl (cJ, 1, .inr (.inl g)))]) sz)) 1 6 (va_A ((wLan b a a2 cI σ σ2 ω) ++ [(o, .inl (cJ, 1, .inr (.inl g)))]) sz) := by
  refine my_ofWH (cc := cL_load) (maxL := 5) (ret := (some .int)) (by decide) rfl ?_
  intro p e s m args below meth c s₁ B hml hv
  obtain ⟨⟨hargs, hsz, hP, hK, hD0⟩, hEX⟩ := hv
  have hx := B.exec
  have hb := B.bytes
  have hr := B.returns
  have hts := atoms_spec (ws := wsL_load) B.pre
  have hown : s.vm.findClass RL = some m.cls := findClass_of_methodNamed B.named
  have hlocks := B.notSynchronized
  obtain ⟨_, hN⟩ := id hK
  subst hsz
  have hD := hD0.self (sz := s.heap.size)
  generalize hAe : va_A ((wLan b a a2 cI σ σ2 ω) ++ [(o, .inl (cJ, 1, .inr (.inl g)))]) s.heap.size = A at hD ⊢
  have hA : ∀ q : Nat, s.heap.size ≤ q → A q := fun q h => by rw [← hAe]; exact Or.inr h
  have hS : va_S A s.heap s.heap [] := va_S.rf
  have hP : va_P D vwCl ((wLan b a a2 cI σ σ2 ω) ++ [(o, .inl (cJ, 1, .inr (.inl g)))]) s.heap := hP
  refine my_abs (fun Q hQ => ?_)
  obtain ⟨ls, hl, hent⟩ := my_entry (m := m) (n := 5) hargs (Nat.le_of_ble_eq_true rfl)
  rw [hent]
  have hl : lv_has ls 5 [(0, .ref (b 0)), (1, .int (nI cu)), (2, .int p1), (3, .ref o)] := hl
  show W p l e ({ frames := 7, cells := 1, slots := 6, locals := 113 } : Room) s m args below meth c s.heap [] 0 0 Q (F0 m 0 ls [])
  refine lv_aload_n hx hb dL_load_0 rfl (lv_at hl 3 rfl) ?_
  refine lv_iconst (v := 0) hx hb dL_load_1 (by decide) ?_
  refine lv_aload_n hx hb dL_load_2 rfl (lv_at hl 0 rfl) ?_
  refine lv_iload_n hx hb dL_load_3 rfl (lv_at hl 1 rfl) ?_
  refine lv_iload_n hx hb dL_load_4 rfl (lv_at hl 2 rfl) ?_
  refine ex_call (vx_runV (As := [.int (nI cu), .int p1]) (rest := [.int 0, .ref o]) ⟨hx, hb, hml, hown, hts⟩ (M_X4_load_e3 l D cI b a a2 σ σ2 ω cu p1 A9 hst hcu h1 h2 h3 h6 h7 h4) (cwV 2 hts gL_load_X4_load rfl rfl rfl (by decide +kernel) ⟨Nat.le_of_ble_eq_true rfl, Nat.le_of_ble_eq_true rfl⟩) (exV hK hP hEX.1 [0, 1, 2, 3, 4, 5, 6, 7, 8, 9, 10, 11, 12, 13, 14, 15, 16, 17, 18, 19, 20, 21, 22, 23, 24, 25, 26, 27, 28, 29, 30, 31, 32, 33, 34, 35] [0] rfl rfl (ci := 4) (q0 := 0) rfl rfl) rfl rfl hl.1 rfl (lv_room (Nat.le_of_ble_eq_true rfl)) dL_load_5 ⟨Nat.le_of_ble_eq_true rfl, Nat.le_of_ble_eq_true rfl⟩) hP hD hS (fun ce q9 H locs hP hD hS hce hcv hcl => ?_)
  refine vx_catch (own := RL) (name := "java/lang/IllegalStateException") (E := "java/lang/IllegalStateException") hown ([⟨0, 10, 13, 13⟩, ⟨0, 10, 17, 15⟩] : List ClassFile.ExceptionTableEntry) ⟨0, 10, 21, 32⟩ ([] : List ClassFile.ExceptionTableEntry) ((vx_table (x := yL_load) B (hts _ List.mem_cons_self)).trans rfl) (fun z hz => by rcases List.mem_cons.mp hz with rfl | hz; exact Or.inr ⟨by decide, _, hts (.classLink RL 13 "java/lang/IndexOutOfBoundsException") (by decide +kernel), hEX.2.2.1⟩; rcases List.mem_singleton.mp hz with rfl; exact Or.inr ⟨by decide, _, hts (.classLink RL 15 "java/lang/IllegalArgumentException") (by decide +kernel), hEX.2.2.2⟩) (by decide) (by decide) (hts (.classLink RL 32 "java/lang/IllegalStateException") (by decide +kernel)) (dc_use rfl (hEX.1.1 (.castable "java/lang/IllegalStateException" "java/lang/IllegalStateException") (by decide +kernel))) hce hcv hcl ?_
  refine lv_astore (lv' := [(4, .ref q9), (0, .ref (b 0)), (1, .int (nI cu)), (2, .int p1), (3, .ref o)]) hx hb dL_load_21 hl (by decide) rfl (fun ls hl => ?_)
  refine lv_iconst (v := 3) hx hb dL_load_23 (by decide) ?_
  subst hQ
  exact ret_wri hx hb hr rfl hlocks hP hD hS (show 3 = 3 from rfl) dL_load_24
set_option maxHeartbeats 4000000 in
set_option maxRecDepth 100000 in
theorem M_L_courier_ok (l : Launch) (D : va_G) (cI : ClassId) (b : Nat → Nat) (a : Nat → Nat) (a2 : Nat → Nat) (σ : St) (σ2 : St) (ω : St) (cu : Nat) (w : Nat) (o : Nat) (g : Nat → Int64) (cJ : ClassId) (sz : Nat) (hcu : cu < 8) (h1 : (0 ≤ nI cu ∧ nI cu ≤ σ 17 0 - 1)) (hw : w < 9) (h2 : (0 ≤ nI w ∧ nI w ≤ 8)) : Met l yL_courier wsL_courier ({ frames := 3, cells := 0, slots := 0, locals := 65 } : Room) (wrPc [.ref (b 0), .int (nI cu), .int (nI w), .ref o] D ((wLan b a a2 cI σ σ2 ω) ++ [(o, .inl (cJ, 1, .inr (.inl g)))]) [(cI, .int), (cJ, .long)] sz) (wrQi 0 D ((wLan b a a2 cI σ σ2 ω) ++ [(o, .inl (cJ, 1, .inr (.inl (vp_updL g 0 (tellF σ cu w).toInt64))))]) (va_A ((wLan b a a2 cI σ σ2 ω) ++ [(o, .inl (cJ, 1, .inr (.inl g)))]) sz)) 0 0 (va_A ((wLan b a a2 cI σ σ2 ω) ++ [(o, .inl (cJ, 1, .inr (.inl g)))]) sz) := by
  refine my_ofWH (cc := cL_courier) (maxL := 5) (ret := (some .int)) (by decide) rfl ?_
  intro p e s m args below meth c s₁ B hml hv
  obtain ⟨hargs, hsz, hP, hK, hD0⟩ := hv
  have hx := B.exec
  have hb := B.bytes
  have hr := B.returns
  have hts := atoms_spec (ws := wsL_courier) B.pre
  have hown : s.vm.findClass RL = some m.cls := findClass_of_methodNamed B.named
  have hlocks := B.notSynchronized
  obtain ⟨_, hN⟩ := id hK
  subst hsz
  have hD := hD0.self (sz := s.heap.size)
  generalize hAe : va_A ((wLan b a a2 cI σ σ2 ω) ++ [(o, .inl (cJ, 1, .inr (.inl g)))]) s.heap.size = A at hD ⊢
  have hA : ∀ q : Nat, s.heap.size ≤ q → A q := fun q h => by rw [← hAe]; exact Or.inr h
  have hS : va_S A s.heap s.heap [] := va_S.rf
  have hP : va_P D vwCl ((wLan b a a2 cI σ σ2 ω) ++ [(o, .inl (cJ, 1, .inr (.inl g)))]) s.heap := hP
  refine my_abs (fun Q hQ => ?_)
  obtain ⟨ls, hl, hent⟩ := my_entry (m := m) (n := 5) hargs (Nat.le_of_ble_eq_true rfl)
  rw [hent]
  have hl : lv_has ls 5 [(0, .ref (b 0)), (1, .int (nI cu)), (2, .int (nI w)), (3, .ref o)] := hl
  show W p l e ({ frames := 3, cells := 0, slots := 0, locals := 65 } : Room) s m args below meth c s.heap [] 0 0 Q (F0 m 0 ls [])
  refine lv_aload_n hx hb dL_courier_0 rfl (lv_at hl 3 rfl) ?_
  refine lv_iconst (v := 0) hx hb dL_courier_1 (by decide) ?_
  refine lv_aload_n hx hb dL_courier_2 rfl (lv_at hl 0 rfl) ?_
  refine lv_iload_n hx hb dL_courier_3 rfl (lv_at hl 1 rfl) ?_
  refine lv_iload_n hx hb dL_courier_4 rfl (lv_at hl 2 rfl) ?_
  refine rd_i (va_runV (As := [.int (nI cu), .int (nI w)]) (rest := [.int 0, .ref o]) ⟨hx, hb, hml, hown, hts⟩ (M_X4_courier_ok l D cI b a a2 σ σ2 ω cu w hcu h1 hw h2) (cwV 2 hts gL_courier_X4_courier rfl rfl rfl (by decide +kernel) ⟨Nat.le_of_ble_eq_true rfl, Nat.le_of_ble_eq_true rfl⟩) (rdV hK hP [0, 1, 2, 3, 4, 5, 6, 7, 8, 9, 10, 11, 12, 13, 14, 15, 16, 17, 18, 19, 20, 21, 22, 23, 24, 25, 26, 27, 28, 29, 30, 31, 32, 33, 34, 35] [0] rfl rfl (ci := 4) (q0 := 0) rfl rfl) rfl rfl hl.1 rfl (lv_room (Nat.le_of_ble_eq_true rfl)) dL_courier_5 ⟨Nat.zero_le _, Nat.zero_le _⟩) ?_
  refine lv_i2l hx hb dL_courier_8 rfl ?_
  refine va_last hx hb hK.1 hP hD hS 36 1 rfl rfl (by unfold vp_in; decide) dL_courier_9 (fun H locs hP hD hS => ?_)
  have hP : va_P D vwCl ((wLan b a a2 cI σ σ2 ω) ++ [(o, .inl (cJ, 1, .inr (.inl (vp_updL g 0 ((tellF σ cu w).toInt64)))))]) H := hP
  have hD : va_D A ((wLan b a a2 cI σ σ2 ω) ++ [(o, .inl (cJ, 1, .inr (.inl (vp_updL g 0 ((tellF σ cu w).toInt64)))))]) := hD
  refine lv_goto (tgt := 17) hx hb dL_courier_10 (by decide) ?_
  refine lv_iconst (v := 0) hx hb dL_courier_17 (by decide) ?_
  subst hQ
  exact ret_wri hx hb hr rfl hlocks hP hD hS (show 0 = 0 from rfl) dL_courier_18
set_option maxHeartbeats 4000000 in
set_option maxRecDepth 100000 in
theorem M_L_courier_e1 (l : Launch) (D : va_G) (cI : ClassId) (b : Nat → Nat) (a : Nat → Nat) (a2 : Nat → Nat) (σ : St) (σ2 : St) (ω : St) (p0 : Int32) (p1 : Int32) (o : Nat) (g : Nat → Int64) (cJ : ClassId) (sz : Nat) (A9 : Nat → Prop) (hst : l.stackTraces = false) (h1 : ¬ ((0 ≤ p0 ∧ p0 ≤ σ 17 0 - 1) ∧ (0 ≤ p1 ∧ p1 ≤ 8))) : Met l yL_courier wsL_courier ({ frames := 7, cells := 1, slots := 6, locals := 104 } : Room) (hxPc [.ref (b 0), .int p0, .int p1, .ref o] D ((wLan b a a2 cI σ σ2 ω) ++ [(o, .inl (cJ, 1, .inr (.inl g)))]) [(cI, .int), (cJ, .long)] sz A9) (wrQi 1 D ((wLan b a a2 cI σ σ2 ω) ++ [(o, .inl (cJ, 1, .inr (.inl g)))]) (va_A ((wLan b a a2 cI σ σ2 ω) ++ [(o, .inl (cJ, 1, .inr (.inl g)))]) sz)) 1 6 (va_A ((wLan b a a2 cI σ σ2 ω) ++ [(o, .inl (cJ, 1, .inr (.inl g)))]) sz) := by
  refine my_ofWH (cc := cL_courier) (maxL := 5) (ret := (some .int)) (by decide) rfl ?_
  intro p e s m args below meth c s₁ B hml hv
  obtain ⟨⟨hargs, hsz, hP, hK, hD0⟩, hEX⟩ := hv
  have hx := B.exec
  have hb := B.bytes
  have hr := B.returns
  have hts := atoms_spec (ws := wsL_courier) B.pre
  have hown : s.vm.findClass RL = some m.cls := findClass_of_methodNamed B.named
  have hlocks := B.notSynchronized
  obtain ⟨_, hN⟩ := id hK
  subst hsz
  have hD := hD0.self (sz := s.heap.size)
  generalize hAe : va_A ((wLan b a a2 cI σ σ2 ω) ++ [(o, .inl (cJ, 1, .inr (.inl g)))]) s.heap.size = A at hD ⊢
  have hA : ∀ q : Nat, s.heap.size ≤ q → A q := fun q h => by rw [← hAe]; exact Or.inr h
  have hS : va_S A s.heap s.heap [] := va_S.rf
  have hP : va_P D vwCl ((wLan b a a2 cI σ σ2 ω) ++ [(o, .inl (cJ, 1, .inr (.inl g)))]) s.heap := hP
  refine my_abs (fun Q hQ => ?_)
  obtain ⟨ls, hl, hent⟩ := my_entry (m := m) (n := 5) hargs (Nat.le_of_ble_eq_true rfl)
  rw [hent]
  have hl : lv_has ls 5 [(0, .ref (b 0)), (1, .int p0), (2, .int p1), (3, .ref o)] := hl
  show W p l e ({ frames := 7, cells := 1, slots := 6, locals := 104 } : Room) s m args below meth c s.heap [] 0 0 Q (F0 m 0 ls [])
  refine lv_aload_n hx hb dL_courier_0 rfl (lv_at hl 3 rfl) ?_
  refine lv_iconst (v := 0) hx hb dL_courier_1 (by decide) ?_
  refine lv_aload_n hx hb dL_courier_2 rfl (lv_at hl 0 rfl) ?_
  refine lv_iload_n hx hb dL_courier_3 rfl (lv_at hl 1 rfl) ?_
  refine lv_iload_n hx hb dL_courier_4 rfl (lv_at hl 2 rfl) ?_
  refine ex_call (vx_runV (As := [.int p0, .int p1]) (rest := [.int 0, .ref o]) ⟨hx, hb, hml, hown, hts⟩ (M_X4_courier_e1 l D cI b a a2 σ σ2 ω p0 p1 A9 hst h1) (cwV 2 hts gL_courier_X4_courier rfl rfl rfl (by decide +kernel) ⟨Nat.le_of_ble_eq_true rfl, Nat.le_of_ble_eq_true rfl⟩) (exV hK hP hEX.1 [0, 1, 2, 3, 4, 5, 6, 7, 8, 9, 10, 11, 12, 13, 14, 15, 16, 17, 18, 19, 20, 21, 22, 23, 24, 25, 26, 27, 28, 29, 30, 31, 32, 33, 34, 35] [0] rfl rfl (ci := 4) (q0 := 0) rfl rfl) rfl rfl hl.1 rfl (lv_room (Nat.le_of_ble_eq_true rfl)) dL_courier_5 ⟨Nat.le_of_ble_eq_true rfl, Nat.le_of_ble_eq_true rfl⟩) hP hD hS (fun ce q9 H locs hP hD hS hce hcv hcl => ?_)
  refine vx_catch (own := RL) (name := "java/lang/IndexOutOfBoundsException") (E := "java/lang/IndexOutOfBoundsException") hown ([] : List ClassFile.ExceptionTableEntry) ⟨0, 10, 13, 13⟩ ([] : List ClassFile.ExceptionTableEntry) ((vx_table (x := yL_courier) B (hts _ List.mem_cons_self)).trans rfl) (fun z hz => nomatch hz) (by decide) (by decide) (hts (.classLink RL 13 "java/lang/IndexOutOfBoundsException") (by decide +kernel)) (dc_use rfl (hEX.1.1 (.castable "java/lang/IndexOutOfBoundsException" "java/lang/IndexOutOfBoundsException") (by decide +kernel))) hce hcv hcl ?_
  refine lv_astore (lv' := [(4, .ref q9), (0, .ref (b 0)), (1, .int p0), (2, .int p1), (3, .ref o)]) hx hb dL_courier_13 hl (by decide) rfl (fun ls hl => ?_)
  refine lv_iconst (v := 1) hx hb dL_courier_15 (by decide) ?_
  subst hQ
  exact ret_wri hx hb hr rfl hlocks hP hD hS (show 1 = 1 from rfl) dL_courier_16
set_option maxHeartbeats 4000000 in
set_option maxRecDepth 100000 in
theorem M_L_wager_ok (l : Launch) (D : va_G) (cI : ClassId) (b : Nat → Nat) (a : Nat → Nat) (a2 : Nat → Nat) (σ : St) (σ2 : St) (ω : St) (p0 : Int32) (p1 : Int32) (nw : Nat) (o : Nat) (g : Nat → Int64) (cJ : ClassId) (sz : Nat) (h1 : (0 ≤ p0 ∧ p0 ≤ 500)) (h2 : (1 ≤ p1 ∧ p1 ≤ 100)) (hnw : ω 19 0 = nI nw) (hw12 : nw < 12) (h3 : σ 16 0 = -1) : Met l yL_wager wsL_wager ({ frames := 2, cells := 0, slots := 0, locals := 45 } : Room) (wrPc [.ref (b 0), .int p0, .int p1, .ref o] D ((wLan b a a2 cI σ σ2 ω) ++ [(o, .inl (cJ, 1, .inr (.inl g)))]) [(cI, .int), (cJ, .long)] sz) (wrQi 0 D ((wLan b a a2 cI σ σ2 (put (put (put ω 14 (upd (ω 14) nw p0)) 15 (upd (ω 15) nw p1)) 19 (fun _ => nI (nw + 1)))) ++ [(o, .inl (cJ, 1, .inr (.inl (vp_updL g 0 (nI nw).toInt64))))]) (va_A ((wLan b a a2 cI σ σ2 ω) ++ [(o, .inl (cJ, 1, .inr (.inl g)))]) sz)) 0 0 (va_A ((wLan b a a2 cI σ σ2 ω) ++ [(o, .inl (cJ, 1, .inr (.inl g)))]) sz) := by
  refine my_ofWH (cc := cL_wager) (maxL := 5) (ret := (some .int)) (by decide) rfl ?_
  intro p e s m args below meth c s₁ B hml hv
  obtain ⟨hargs, hsz, hP, hK, hD0⟩ := hv
  have hx := B.exec
  have hb := B.bytes
  have hr := B.returns
  have hts := atoms_spec (ws := wsL_wager) B.pre
  have hown : s.vm.findClass RL = some m.cls := findClass_of_methodNamed B.named
  have hlocks := B.notSynchronized
  obtain ⟨_, hN⟩ := id hK
  subst hsz
  have hD := hD0.self (sz := s.heap.size)
  generalize hAe : va_A ((wLan b a a2 cI σ σ2 ω) ++ [(o, .inl (cJ, 1, .inr (.inl g)))]) s.heap.size = A at hD ⊢
  have hA : ∀ q : Nat, s.heap.size ≤ q → A q := fun q h => by rw [← hAe]; exact Or.inr h
  have hS : va_S A s.heap s.heap [] := va_S.rf
  have hP : va_P D vwCl ((wLan b a a2 cI σ σ2 ω) ++ [(o, .inl (cJ, 1, .inr (.inl g)))]) s.heap := hP
  refine my_abs (fun Q hQ => ?_)
  obtain ⟨ls, hl, hent⟩ := my_entry (m := m) (n := 5) hargs (Nat.le_of_ble_eq_true rfl)
  rw [hent]
  have hl : lv_has ls 5 [(0, .ref (b 0)), (1, .int p0), (2, .int p1), (3, .ref o)] := hl
  show W p l e ({ frames := 2, cells := 0, slots := 0, locals := 45 } : Room) s m args below meth c s.heap [] 0 0 Q (F0 m 0 ls [])
  refine lv_aload_n hx hb dL_wager_0 rfl (lv_at hl 3 rfl) ?_
  refine lv_iconst (v := 0) hx hb dL_wager_1 (by decide) ?_
  refine lv_aload_n hx hb dL_wager_2 rfl (lv_at hl 0 rfl) ?_
  refine lv_iload_n hx hb dL_wager_3 rfl (lv_at hl 1 rfl) ?_
  refine lv_iload_n hx hb dL_wager_4 rfl (lv_at hl 2 rfl) ?_
  refine wr_i (wn := (wTopE b a a2 ++ (wWagE b cI (nI (nw + 1)) (upd ((ω 14)) nw p0) (upd ((ω 15)) nw p1) ++ (wRiv a cI σ ++ wRiv a2 cI σ2))) ++ [(o, .inl (cJ, 1, .inr (.inl g)))]) (va_runV (As := [.int p0, .int p1]) (rest := [.int 0, .ref o]) ⟨hx, hb, hml, hown, hts⟩ (M_X4_wager_ok l D cI b a a2 σ σ2 ω p0 p1 nw _ h1 h2 hnw hw12 h3) (cwV 2 hts gL_wager_X4_wager rfl rfl rfl (by decide +kernel) ⟨Nat.le_of_ble_eq_true rfl, Nat.le_of_ble_eq_true rfl⟩) (wrV hK hP hD [0, 1, 2, 3, 4, 5, 6, 7, 8, 9, 10, 11, 12, 13, 14, 15, 16, 17, 18, 19, 20, 21, 22, 23, 24, 25, 26, 27, 28, 29, 30, 31, 32, 33, 34, 35] [0] rfl rfl rfl (ci := 4) (q0 := 0) rfl rfl) rfl rfl hl.1 rfl (lv_room (Nat.le_of_ble_eq_true rfl)) dL_wager_5 ⟨Nat.le_of_ble_eq_true rfl, Nat.le_of_ble_eq_true rfl⟩) hP hD hS hA [0, 1, 2, 3, 4, 5, 6, 7, 8, 9, 10, 11, 12, 13, 14, 15, 16, 17, 18, 19, 20, 21, 22, 23, 24, 25, 26, 27, 28, 29, 30, 31, 32, 33, 34, 35] [36] [1, 2, 3, 4, 5, 6, 7, 8, 9, 10, 11, 12, 13, 14, 15, 16, 17, 18, 19, 20, 21, 22, 23, 24, 25, 26, 27, 28, 29, 30, 31, 32, 33, 34, 35, 36, 0] rfl rfl rfl rfl rfl rfl (fun H locs hP hD hS => ?_)
  refine lv_i2l hx hb dL_wager_8 rfl ?_
  refine va_last hx hb hK.1 hP hD hS 36 1 rfl rfl (by unfold vp_in; decide) dL_wager_9 (fun H locs hP hD hS => ?_)
  have hP : va_P D vwCl ((wTopE b a a2 ++ (wWagE b cI (nI (nw + 1)) (upd ((ω 14)) nw p0) (upd ((ω 15)) nw p1) ++ (wRiv a cI σ ++ wRiv a2 cI σ2))) ++ [(o, .inl (cJ, 1, .inr (.inl (vp_updL g 0 ((nI nw).toInt64)))))]) H := hP
  have hD : va_D A ((wTopE b a a2 ++ (wWagE b cI (nI (nw + 1)) (upd ((ω 14)) nw p0) (upd ((ω 15)) nw p1) ++ (wRiv a cI σ ++ wRiv a2 cI σ2))) ++ [(o, .inl (cJ, 1, .inr (.inl (vp_updL g 0 ((nI nw).toInt64)))))]) := hD
  refine lv_goto (tgt := 21) hx hb dL_wager_10 (by decide) ?_
  refine lv_iconst (v := 0) hx hb dL_wager_21 (by decide) ?_
  subst hQ
  have hP : va_P D vwCl ((wLan b a a2 cI σ σ2 (put (put (put ω 14 (upd ((ω 14)) nw p0)) 15 (upd ((ω 15)) nw p1)) 19 (fun _ => nI (nw + 1)))) ++ [(o, .inl (cJ, 1, .inr (.inl (vp_updL g 0 ((nI nw).toInt64)))))]) H := hP
  have hD : va_D A ((wLan b a a2 cI σ σ2 (put (put (put ω 14 (upd ((ω 14)) nw p0)) 15 (upd ((ω 15)) nw p1)) 19 (fun _ => nI (nw + 1)))) ++ [(o, .inl (cJ, 1, .inr (.inl (vp_updL g 0 ((nI nw).toInt64)))))]) := hD
  have k_14 : (upd ((ω 14)) nw p0 : Nat → Int32) = (upd (ω 14) nw p0) := by rfl
  have k_15 : (upd ((ω 15)) nw p1 : Nat → Int32) = (upd (ω 15) nw p1) := by rfl
  have hst_w : put (put (put ω 14 (upd ((ω 14)) nw p0)) 15 (upd ((ω 15)) nw p1)) 19 (fun _ => nI (nw + 1)) = put (put (put ω 14 (upd (ω 14) nw p0)) 15 (upd (ω 15) nw p1)) 19 (fun _ => nI (nw + 1)) := put_cg (put_cg (put_cg rfl k_14) k_15) rfl
  rw [hst_w] at hP hD
  exact ret_wri hx hb hr rfl hlocks hP hD hS (show 0 = 0 from rfl) dL_wager_22
set_option maxHeartbeats 4000000 in
set_option maxRecDepth 100000 in
theorem M_L_wager_e1 (l : Launch) (D : va_G) (cI : ClassId) (b : Nat → Nat) (a : Nat → Nat) (a2 : Nat → Nat) (σ : St) (σ2 : St) (ω : St) (p0 : Int32) (p1 : Int32) (o : Nat) (g : Nat → Int64) (cJ : ClassId) (sz : Nat) (A9 : Nat → Prop) (hst : l.stackTraces = false) (h1 : ¬ ((0 ≤ p0 ∧ p0 ≤ 500) ∧ (1 ≤ p1 ∧ p1 ≤ 100))) : Met l yL_wager wsL_wager ({ frames := 7, cells := 1, slots := 6, locals := 104 } : Room) (hxPc [.ref (b 0), .int p0, .int p1, .ref o] D ((wLan b a a2 cI σ σ2 ω) ++ [(o, .inl (cJ, 1, .inr (.inl g)))]) [(cI, .int), (cJ, .long)] sz A9) (wrQi 1 D ((wLan b a a2 cI σ σ2 ω) ++ [(o, .inl (cJ, 1, .inr (.inl g)))]) (va_A ((wLan b a a2 cI σ σ2 ω) ++ [(o, .inl (cJ, 1, .inr (.inl g)))]) sz)) 1 6 (va_A ((wLan b a a2 cI σ σ2 ω) ++ [(o, .inl (cJ, 1, .inr (.inl g)))]) sz) := by
  refine my_ofWH (cc := cL_wager) (maxL := 5) (ret := (some .int)) (by decide) rfl ?_
  intro p e s m args below meth c s₁ B hml hv
  obtain ⟨⟨hargs, hsz, hP, hK, hD0⟩, hEX⟩ := hv
  have hx := B.exec
  have hb := B.bytes
  have hr := B.returns
  have hts := atoms_spec (ws := wsL_wager) B.pre
  have hown : s.vm.findClass RL = some m.cls := findClass_of_methodNamed B.named
  have hlocks := B.notSynchronized
  obtain ⟨_, hN⟩ := id hK
  subst hsz
  have hD := hD0.self (sz := s.heap.size)
  generalize hAe : va_A ((wLan b a a2 cI σ σ2 ω) ++ [(o, .inl (cJ, 1, .inr (.inl g)))]) s.heap.size = A at hD ⊢
  have hA : ∀ q : Nat, s.heap.size ≤ q → A q := fun q h => by rw [← hAe]; exact Or.inr h
  have hS : va_S A s.heap s.heap [] := va_S.rf
  have hP : va_P D vwCl ((wLan b a a2 cI σ σ2 ω) ++ [(o, .inl (cJ, 1, .inr (.inl g)))]) s.heap := hP
  refine my_abs (fun Q hQ => ?_)
  obtain ⟨ls, hl, hent⟩ := my_entry (m := m) (n := 5) hargs (Nat.le_of_ble_eq_true rfl)
  rw [hent]
  have hl : lv_has ls 5 [(0, .ref (b 0)), (1, .int p0), (2, .int p1), (3, .ref o)] := hl
  show W p l e ({ frames := 7, cells := 1, slots := 6, locals := 104 } : Room) s m args below meth c s.heap [] 0 0 Q (F0 m 0 ls [])
  refine lv_aload_n hx hb dL_wager_0 rfl (lv_at hl 3 rfl) ?_
  refine lv_iconst (v := 0) hx hb dL_wager_1 (by decide) ?_
  refine lv_aload_n hx hb dL_wager_2 rfl (lv_at hl 0 rfl) ?_
  refine lv_iload_n hx hb dL_wager_3 rfl (lv_at hl 1 rfl) ?_
  refine lv_iload_n hx hb dL_wager_4 rfl (lv_at hl 2 rfl) ?_
  refine ex_call (vx_runV (As := [.int p0, .int p1]) (rest := [.int 0, .ref o]) ⟨hx, hb, hml, hown, hts⟩ (M_X4_wager_e1 l D cI b a a2 σ σ2 ω p0 p1 A9 hst h1) (cwV 2 hts gL_wager_X4_wager rfl rfl rfl (by decide +kernel) ⟨Nat.le_of_ble_eq_true rfl, Nat.le_of_ble_eq_true rfl⟩) (exV hK hP hEX.1 [0, 1, 2, 3, 4, 5, 6, 7, 8, 9, 10, 11, 12, 13, 14, 15, 16, 17, 18, 19, 20, 21, 22, 23, 24, 25, 26, 27, 28, 29, 30, 31, 32, 33, 34, 35] [0] rfl rfl (ci := 4) (q0 := 0) rfl rfl) rfl rfl hl.1 rfl (lv_room (Nat.le_of_ble_eq_true rfl)) dL_wager_5 ⟨Nat.le_of_ble_eq_true rfl, Nat.le_of_ble_eq_true rfl⟩) hP hD hS (fun ce q9 H locs hP hD hS hce hcv hcl => ?_)
  refine vx_catch (own := RL) (name := "java/lang/IllegalArgumentException") (E := "java/lang/IllegalArgumentException") hown ([] : List ClassFile.ExceptionTableEntry) ⟨0, 10, 13, 15⟩ ([⟨0, 10, 17, 32⟩] : List ClassFile.ExceptionTableEntry) ((vx_table (x := yL_wager) B (hts _ List.mem_cons_self)).trans rfl) (fun z hz => nomatch hz) (by decide) (by decide) (hts (.classLink RL 15 "java/lang/IllegalArgumentException") (by decide +kernel)) (dc_use rfl (hEX.1.1 (.castable "java/lang/IllegalArgumentException" "java/lang/IllegalArgumentException") (by decide +kernel))) hce hcv hcl ?_
  refine lv_astore (lv' := [(4, .ref q9), (0, .ref (b 0)), (1, .int p0), (2, .int p1), (3, .ref o)]) hx hb dL_wager_13 hl (by decide) rfl (fun ls hl => ?_)
  refine lv_iconst (v := 1) hx hb dL_wager_15 (by decide) ?_
  subst hQ
  exact ret_wri hx hb hr rfl hlocks hP hD hS (show 1 = 1 from rfl) dL_wager_16
set_option maxHeartbeats 4000000 in
set_option maxRecDepth 100000 in
theorem M_L_wager_e2 (l : Launch) (D : va_G) (cI : ClassId) (b : Nat → Nat) (a : Nat → Nat) (a2 : Nat → Nat) (σ : St) (σ2 : St) (ω : St) (p0 : Int32) (p1 : Int32) (o : Nat) (g : Nat → Int64) (cJ : ClassId) (sz : Nat) (A9 : Nat → Prop) (hst : l.stackTraces = false) (h1 : (0 ≤ p0 ∧ p0 ≤ 500)) (h2 : (1 ≤ p1 ∧ p1 ≤ 100)) (h4 : ω 19 0 = 12 ∨ ¬ σ 16 0 = -1) : Met l yL_wager wsL_wager ({ frames := 7, cells := 1, slots := 6, locals := 104 } : Room) (hxPc [.ref (b 0), .int p0, .int p1, .ref o] D ((wLan b a a2 cI σ σ2 ω) ++ [(o, .inl (cJ, 1, .inr (.inl g)))]) [(cI, .int), (cJ, .long)] sz A9) (wrQi 2 D ((wLan b a a2 cI σ σ2 ω) ++ [(o, .inl (cJ, 1, .inr (.inl g)))]) (va_A ((wLan b a a2 cI σ σ2 ω) ++ [(o, .inl (cJ, 1, .inr (.inl g)))]) sz)) 1 6 (va_A ((wLan b a a2 cI σ σ2 ω) ++ [(o, .inl (cJ, 1, .inr (.inl g)))]) sz) := by
  refine my_ofWH (cc := cL_wager) (maxL := 5) (ret := (some .int)) (by decide) rfl ?_
  intro p e s m args below meth c s₁ B hml hv
  obtain ⟨⟨hargs, hsz, hP, hK, hD0⟩, hEX⟩ := hv
  have hx := B.exec
  have hb := B.bytes
  have hr := B.returns
  have hts := atoms_spec (ws := wsL_wager) B.pre
  have hown : s.vm.findClass RL = some m.cls := findClass_of_methodNamed B.named
  have hlocks := B.notSynchronized
  obtain ⟨_, hN⟩ := id hK
  subst hsz
  have hD := hD0.self (sz := s.heap.size)
  generalize hAe : va_A ((wLan b a a2 cI σ σ2 ω) ++ [(o, .inl (cJ, 1, .inr (.inl g)))]) s.heap.size = A at hD ⊢
  have hA : ∀ q : Nat, s.heap.size ≤ q → A q := fun q h => by rw [← hAe]; exact Or.inr h
  have hS : va_S A s.heap s.heap [] := va_S.rf
  have hP : va_P D vwCl ((wLan b a a2 cI σ σ2 ω) ++ [(o, .inl (cJ, 1, .inr (.inl g)))]) s.heap := hP
  refine my_abs (fun Q hQ => ?_)
  obtain ⟨ls, hl, hent⟩ := my_entry (m := m) (n := 5) hargs (Nat.le_of_ble_eq_true rfl)
  rw [hent]
  have hl : lv_has ls 5 [(0, .ref (b 0)), (1, .int p0), (2, .int p1), (3, .ref o)] := hl
  show W p l e ({ frames := 7, cells := 1, slots := 6, locals := 104 } : Room) s m args below meth c s.heap [] 0 0 Q (F0 m 0 ls [])
  refine lv_aload_n hx hb dL_wager_0 rfl (lv_at hl 3 rfl) ?_
  refine lv_iconst (v := 0) hx hb dL_wager_1 (by decide) ?_
  refine lv_aload_n hx hb dL_wager_2 rfl (lv_at hl 0 rfl) ?_
  refine lv_iload_n hx hb dL_wager_3 rfl (lv_at hl 1 rfl) ?_
  refine lv_iload_n hx hb dL_wager_4 rfl (lv_at hl 2 rfl) ?_
  refine ex_call (vx_runV (As := [.int p0, .int p1]) (rest := [.int 0, .ref o]) ⟨hx, hb, hml, hown, hts⟩ (M_X4_wager_e2 l D cI b a a2 σ σ2 ω p0 p1 A9 hst h1 h2 h4) (cwV 2 hts gL_wager_X4_wager rfl rfl rfl (by decide +kernel) ⟨Nat.le_of_ble_eq_true rfl, Nat.le_of_ble_eq_true rfl⟩) (exV hK hP hEX.1 [0, 1, 2, 3, 4, 5, 6, 7, 8, 9, 10, 11, 12, 13, 14, 15, 16, 17, 18, 19, 20, 21, 22, 23, 24, 25, 26, 27, 28, 29, 30, 31, 32, 33, 34, 35] [0] rfl rfl (ci := 4) (q0 := 0) rfl rfl) rfl rfl hl.1 rfl (lv_room (Nat.le_of_ble_eq_true rfl)) dL_wager_5 ⟨Nat.le_of_ble_eq_true rfl, Nat.le_of_ble_eq_true rfl⟩) hP hD hS (fun ce q9 H locs hP hD hS hce hcv hcl => ?_)
  refine vx_catch (own := RL) (name := "java/lang/IllegalStateException") (E := "java/lang/IllegalStateException") hown ([⟨0, 10, 13, 15⟩] : List ClassFile.ExceptionTableEntry) ⟨0, 10, 17, 32⟩ ([] : List ClassFile.ExceptionTableEntry) ((vx_table (x := yL_wager) B (hts _ List.mem_cons_self)).trans rfl) (fun z hz => by rcases List.mem_singleton.mp hz with rfl; exact Or.inr ⟨by decide, _, hts (.classLink RL 15 "java/lang/IllegalArgumentException") (by decide +kernel), hEX.2.2.2⟩) (by decide) (by decide) (hts (.classLink RL 32 "java/lang/IllegalStateException") (by decide +kernel)) (dc_use rfl (hEX.1.1 (.castable "java/lang/IllegalStateException" "java/lang/IllegalStateException") (by decide +kernel))) hce hcv hcl ?_
  refine lv_astore (lv' := [(4, .ref q9), (0, .ref (b 0)), (1, .int p0), (2, .int p1), (3, .ref o)]) hx hb dL_wager_17 hl (by decide) rfl (fun ls hl => ?_)
  refine lv_iconst (v := 2) hx hb dL_wager_19 (by decide) ?_
  subst hQ
  exact ret_wri hx hb hr rfl hlocks hP hD hS (show 2 = 2 from rfl) dL_wager_20
