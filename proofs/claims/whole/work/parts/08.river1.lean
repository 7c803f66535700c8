set_option maxHeartbeats 4000000 in
set_option maxRecDepth 100000 in
theorem M_X2_huts (l : Launch) (D : va_G) (cI : ClassId) (a : Nat → Nat) (σ : St) : Met l yX2_huts wsX2_huts ({ frames := 0, cells := 0, slots := 0, locals := 0 } : Room) (rdPc [.ref (a 0)] D (wRiv a cI σ) [(cI, .int)]) (rdQi (sumF (σ 2) 12)) 0 0 (fun _ => False) := by
  refine Met.ofW (cc := cX2_huts) (maxL := 3) (ret := (some .int)) (by decide) rfl ?_
  intro p e s m args below meth c s₁ B hml hv
  obtain ⟨hargs, hP, hK⟩ := hv
  have hx := B.exec
  have hb := B.bytes
  have hr := B.returns
  have hts := atoms_spec (ws := wsX2_huts) B.pre
  have hown : s.vm.findClass RX2 = some m.cls := findClass_of_methodNamed B.named
  have hlocks := B.notSynchronized
  obtain ⟨_, hN⟩ := id hK
  have hiX2 : ∀ w ∈ wsX20, w ∈ wsX2_huts := by decide +kernel
  refine my_abs (fun Q hQ => ?_)
  obtain ⟨ls, hl, hent⟩ := my_entry (m := m) (n := 3) hargs (Nat.le_of_ble_eq_true rfl)
  rw [hent]
  have hl : lv_has ls 3 [(0, .ref (a 0))] := hl
  show W p l e ({ frames := 0, cells := 0, slots := 0, locals := 0 } : Room) s m args below meth c s.heap [] 0 0 Q (F0 m 0 ls [])
  refine lv_iconst (v := 0) hx hb dX2_huts_0 (by decide) ?_
  refine lv_istore_n (lv' := [(1, .int 0), (0, .ref (a 0))]) hx hb dX2_huts_1 rfl hl (by decide) rfl (fun ls hl => ?_)
  refine lv_iconst (v := 0) hx hb dX2_huts_2 (by decide) ?_
  refine lv_istore_n (lv' := [(2, .int 0), (1, .int 0), (0, .ref (a 0))]) hx hb dX2_huts_3 rfl hl (by decide) rfl (fun ls hl => ?_)
  have loop4 : ∀ (n : Nat) (k : Nat), 12 - k < n → k ≤ 12 → ∀ (ls : Array Slot), lv_has ls 3 [(0, .ref (a 0)), (1, .int (sumF (σ 2) k)), (2, .int (nI k))] → W p l e ({ frames := 0, cells := 0, slots := 0, locals := 0 } : Room) s m args below meth c s.heap [] 0 0 Q (F0 m 4 ls []) := by
    intro n
    induction n with
    | zero => intro k  hf; exact absurd hf (Nat.not_lt_zero _)
    | succ n ih4 =>
      intro k  hf hk ls hl
      refine lv_iload_n hx hb dX2_huts_4 rfl (lv_at hl 2 rfl) ?_
      refine lv_bipush (v := 12) hx hb dX2_huts_5 (by decide) ?_
      refine lv_icmp_ge (tgt := 25) hx hb dX2_huts_7 (by decide) (fun c_1 => ?_) (fun c_1 => ?_)
      · skip
        have hk2 : 12 ≤ k := lp_ge (N := 12) (k := k) c_1 (by omega) (by omega)
        refine lv_iload_n hx hb dX2_huts_25 rfl (lv_at hl 1 rfl) ?_
        subst hQ
        exact ret_rdi hx hb hr rfl hlocks (show sumF (σ 2) k = sumF (σ 2) 12 from (by rw [show k = 12 by omega])) dX2_huts_26
      · skip
        have hk2 : k < 12 := lp_nge (N := 12) (k := k) c_1 (by omega) (by omega)
        refine lv_iload_n hx hb dX2_huts_10 rfl (lv_at hl 1 rfl) ?_
        refine lv_aload_n hx hb dX2_huts_11 rfl (lv_at hl 0 rfl) ?_
        refine va_get (D := D) (ci := 2) (v := .ref (a 2)) (C := RX2) (T := TX2) (N := 6) hx hb hts hiX2 hown hK.1 hP 0 rfl rfl 3 (by decide) (hts (.fieldLink RX2 19 "IceLanes$River" "hut" "[I") (by decide +kernel)) (fun _ h9 => h9) rfl dX2_huts_12 ?_
        refine lv_iload_n hx hb dX2_huts_15 rfl (lv_at hl 2 rfl) ?_
        refine va_iald hx hb hK.1 hP 2 0 rfl rfl (by first | assumption | exact vp_in_nI (by omega) (by decide)) dX2_huts_16 ?_
        rw [nI_clamp (n := k) (by omega)]
        refine lv_iadd hx hb dX2_huts_17 ?_
        refine lv_istore_n (lv' := [(1, .int ((sumF (σ 2) k) + (σ 2 k))), (0, .ref (a 0)), (2, .int (nI k))]) hx hb dX2_huts_18 rfl hl (by decide) rfl (fun ls hl => ?_)
        refine lv_iinc (v := nI (k + 1)) (lv' := [(2, .int (nI (k + 1))), (1, .int ((sumF (σ 2) k) + (σ 2 k))), (0, .ref (a 0))]) hx hb dX2_huts_19 hl (k := 2) rfl (nI_1 k) (by decide) rfl (fun ls hl => ?_)
        refine lv_goto (tgt := 4) hx hb dX2_huts_22 (by decide) ?_
        exact ih4 (k + 1) (by omega) (by omega) ls (lv_sub hl [2, 1, 0] rfl)
  exact loop4 13 0 (by omega) (by omega) ls (lv_sub hl [2, 1, 0] rfl)
set_option maxHeartbeats 4000000 in
set_option maxRecDepth 100000 in
theorem M_X2_hasThawed (l : Launch) (D : va_G) (cI : ClassId) (a : Nat → Nat) (σ : St) : Met l yX2_hasThawed wsX2_hasThawed ({ frames := 0, cells := 0, slots := 0, locals := 0 } : Room) (rdPc [.ref (a 0)] D (wRiv a cI σ) [(cI, .int)]) (rdQi (bI (¬ σ 16 0 = -1))) 0 0 (fun _ => False) := by
  refine Met.ofW (cc := cX2_hasThawed) (maxL := 1) (ret := (some .boolean)) (by decide) rfl ?_
  intro p e s m args below meth c s₁ B hml hv
  obtain ⟨hargs, hP, hK⟩ := hv
  have hx := B.exec
  have hb := B.bytes
  have hr := B.returns
  have hts := atoms_spec (ws := wsX2_hasThawed) B.pre
  have hown : s.vm.findClass RX2 = some m.cls := findClass_of_methodNamed B.named
  have hlocks := B.notSynchronized
  obtain ⟨_, hN⟩ := id hK
  have hiX2 : ∀ w ∈ wsX20, w ∈ wsX2_hasThawed := by decide +kernel
  refine my_abs (fun Q hQ => ?_)
  obtain ⟨ls, hl, hent⟩ := my_entry (m := m) (n := 1) hargs (Nat.le_of_ble_eq_true rfl)
  rw [hent]
  have hl : lv_has ls 1 [(0, .ref (a 0))] := hl
  show W p l e ({ frames := 0, cells := 0, slots := 0, locals := 0 } : Room) s m args below meth c s.heap [] 0 0 Q (F0 m 0 ls [])
  refine lv_aload_n hx hb dX2_hasThawed_0 rfl (lv_at hl 0 rfl) ?_
  refine va_get (D := D) (ci := 2) (v := .int (σ 16 0)) (C := RX2) (T := TX2) (N := 6) hx hb hts hiX2 hown hK.1 hP 0 rfl rfl 1 (by decide) (hts (.fieldLink RX2 9 "IceLanes$River" "thawDay" "I") (by decide +kernel)) (fun _ h9 => h9) rfl dX2_hasThawed_1 ?_
  refine lv_iconst (v := (-1)) hx hb dX2_hasThawed_4 (by decide) ?_
  refine lv_icmp_eq (tgt := 12) hx hb dX2_hasThawed_5 (by decide) (fun c_1 => ?_) (fun c_1 => ?_)
  · skip
    refine lv_iconst (v := 0) hx hb dX2_hasThawed_12 (by decide) ?_
    subst hQ
    exact ret_rdi hx hb hr rfl hlocks (show 0 = bI (¬ σ 16 0 = -1) from (by first | exact bI_t (by assumption) | exact bI_f (fun z => z (by assumption)))) dX2_hasThawed_13
  · skip
    refine lv_iconst (v := 1) hx hb dX2_hasThawed_8 (by decide) ?_
    refine lv_goto (tgt := 13) hx hb dX2_hasThawed_9 (by decide) ?_
    subst hQ
    exact ret_rdi hx hb hr rfl hlocks (show 1 = bI (¬ σ 16 0 = -1) from (by first | exact bI_t (by assumption) | exact bI_f (fun z => z (by assumption)))) dX2_hasThawed_13
set_option maxHeartbeats 4000000 in
set_option maxRecDepth 100000 in
theorem M_X2_holdsCourierWith (l : Launch) (D : va_G) (cI : ClassId) (a : Nat → Nat) (σ : St) (cu : Nat) (le : Int32) (hcu : cu < 8) (h1 : inS (σ 8 cu)) (h2 : inL (σ 9 cu)) : Met l yX2_holdsCourierWith wsX2_holdsCourierWith ({ frames := 3, cells := 0, slots := 0, locals := 67 } : Room) (rdPc [.ref (a 0), .int (nI cu), .int le] D (wRiv a cI σ) [(cI, .int)]) (rdQi (bI (σ 5 cu + le ≤ sound (σ 3) (σ 4) (σ 8 cu) (σ 9 cu)))) 0 0 (fun _ => False) := by
  refine Met.ofW (cc := cX2_holdsCourierWith) (maxL := 4) (ret := (some .boolean)) (by decide) rfl ?_
  intro p e s m args below meth c s₁ B hml hv
  obtain ⟨hargs, hP, hK⟩ := hv
  have hx := B.exec
  have hb := B.bytes
  have hr := B.returns
  have hts := atoms_spec (ws := wsX2_holdsCourierWith) B.pre
  have hown : s.vm.findClass RX2 = some m.cls := findClass_of_methodNamed B.named
  have hlocks := B.notSynchronized
  obtain ⟨_, hN⟩ := id hK
  have hiX0 : ∀ w ∈ wsX00, w ∈ wsX2_holdsCourierWith := by decide +kernel
  have hiX2 : ∀ w ∈ wsX20, w ∈ wsX2_holdsCourierWith := by decide +kernel
  refine my_abs (fun Q hQ => ?_)
  obtain ⟨ls, hl, hent⟩ := my_entry (m := m) (n := 4) hargs (Nat.le_of_ble_eq_true rfl)
  rw [hent]
  have hl : lv_has ls 4 [(0, .ref (a 0)), (1, .int (nI cu)), (2, .int le)] := hl
  show W p l e ({ frames := 3, cells := 0, slots := 0, locals := 67 } : Room) s m args below meth c s.heap [] 0 0 Q (F0 m 0 ls [])
  refine lv_aload_n hx hb dX2_holdsCourierWith_0 rfl (lv_at hl 0 rfl) ?_
  refine va_get (D := D) (ci := 2) (v := .ref (a 6)) (C := RX2) (T := TX2) (N := 6) hx hb hts hiX2 hown hK.1 hP 0 rfl rfl 5 (by decide) (hts (.fieldLink RX2 32 "IceLanes$River" "couriers" "LIceLanes$Couriers;") (by decide +kernel)) (fun _ h9 => h9) rfl dX2_holdsCourierWith_1 ?_
  refine va_getN (D := D) (ci := 0) (v := .ref (a 7)) (C := RX0) (T := TX0) (N := 10) hx hb hts hiX0 hown hK.1 hP 6 rfl rfl 1 (by decide) (va_Nw.use rfl (nX2_52 hN)) (fun _ h9 => h9) rfl dX2_holdsCourierWith_4 ?_
  refine lv_iload_n hx hb dX2_holdsCourierWith_7 rfl (lv_at hl 1 rfl) ?_
  refine va_iald hx hb hK.1 hP 7 0 rfl rfl (by first | assumption | exact vp_in_nI (by omega) (by decide)) dX2_holdsCourierWith_8 ?_
  rw [nI_clamp (n := cu) (by omega)]
  refine lv_iload_n hx hb dX2_holdsCourierWith_9 rfl (lv_at hl 2 rfl) ?_
  refine lv_iadd hx hb dX2_holdsCourierWith_10 ?_
  refine lv_istore_n (lv' := [(3, .int ((σ 5 cu) + le)), (0, .ref (a 0)), (1, .int (nI cu)), (2, .int le)]) hx hb dX2_holdsCourierWith_11 rfl hl (by decide) rfl (fun ls hl => ?_)
  refine lv_aload_n hx hb dX2_holdsCourierWith_12 rfl (lv_at hl 1 rfl) ?_
  refine va_get (D := D) (ci := 2) (v := .ref (a 3)) (C := RX2) (T := TX2) (N := 6) hx hb hts hiX2 hown hK.1 hP 0 rfl rfl 4 (by decide) (hts (.fieldLink RX2 25 "IceLanes$River" "ice" "LIceLanes$Ice;") (by decide +kernel)) (fun _ h9 => h9) rfl dX2_holdsCourierWith_13 ?_
  refine lv_aload_n hx hb dX2_holdsCourierWith_16 rfl (lv_at hl 1 rfl) ?_
  refine va_get (D := D) (ci := 2) (v := .ref (a 6)) (C := RX2) (T := TX2) (N := 6) hx hb hts hiX2 hown hK.1 hP 0 rfl rfl 5 (by decide) (hts (.fieldLink RX2 32 "IceLanes$River" "couriers" "LIceLanes$Couriers;") (by decide +kernel)) (fun _ h9 => h9) rfl dX2_holdsCourierWith_17 ?_
  refine va_getN (D := D) (ci := 0) (v := .ref (a 10)) (C := RX0) (T := TX0) (N := 10) hx hb hts hiX0 hown hK.1 hP 6 rfl rfl 4 (by decide) (va_Nw.use rfl (nX2_55 hN)) (fun _ h9 => h9) rfl dX2_holdsCourierWith_20 ?_
  refine lv_iload_n hx hb dX2_holdsCourierWith_23 rfl (lv_at hl 2 rfl) ?_
  refine va_iald hx hb hK.1 hP 10 0 rfl rfl (by first | assumption | exact vp_in_nI (by omega) (by decide)) dX2_holdsCourierWith_24 ?_
  rw [nI_clamp (n := cu) (by omega)]
  refine lv_aload_n hx hb dX2_holdsCourierWith_25 rfl (lv_at hl 1 rfl) ?_
  refine va_get (D := D) (ci := 2) (v := .ref (a 6)) (C := RX2) (T := TX2) (N := 6) hx hb hts hiX2 hown hK.1 hP 0 rfl rfl 5 (by decide) (hts (.fieldLink RX2 32 "IceLanes$River" "couriers" "LIceLanes$Couriers;") (by decide +kernel)) (fun _ h9 => h9) rfl dX2_holdsCourierWith_26 ?_
  refine va_getN (D := D) (ci := 0) (v := .ref (a 11)) (C := RX0) (T := TX0) (N := 10) hx hb hts hiX0 hown hK.1 hP 6 rfl rfl 5 (by decide) (va_Nw.use rfl (nX2_58 hN)) (fun _ h9 => h9) rfl dX2_holdsCourierWith_29 ?_
  refine lv_iload_n hx hb dX2_holdsCourierWith_32 rfl (lv_at hl 2 rfl) ?_
  refine va_iald hx hb hK.1 hP 11 0 rfl rfl (by first | assumption | exact vp_in_nI (by omega) (by decide)) dX2_holdsCourierWith_33 ?_
  rw [nI_clamp (n := cu) (by omega)]
  refine lv_iload_n hx hb dX2_holdsCourierWith_34 rfl (lv_at hl 0 rfl) ?_
  refine rd_i (va_runVN (As := [.int (σ 8 cu), .int (σ 9 cu), .int ((σ 5 cu) + le)]) (rest := []) ⟨hx, hb, hml, hown, hts⟩ (M_X1_holds l D cI a σ (σ 8 cu) (σ 9 cu) ((σ 5 cu) + le) (by first | assumption | omega) (by first | assumption | omega)) ⟨va_cnB 3 hts gX2_holdsCourierWith_X1_holds_n61 rfl rfl rfl (nX2_61 hN) (hts (.initialized RX1) (by decide +kernel)) (by decide +kernel) ⟨Nat.le_of_ble_eq_true rfl, Nat.le_of_ble_eq_true rfl⟩, hts (.instanceMethod yX1_holds) (by decide +kernel), hts (.selects RX1 yX1_holds yX1_holds) (by decide +kernel)⟩ (rdV hK hP [3, 4, 5] [0] rfl rfl (ci := 1) (q0 := 3) rfl rfl) rfl rfl hl.1 rfl (lv_room (Nat.le_of_ble_eq_true rfl)) dX2_holdsCourierWith_35 ⟨Nat.zero_le _, Nat.zero_le _⟩) ?_
  subst hQ
  exact ret_rdi hx hb hr (bI_nar) hlocks (show bI (((σ 5 cu) + le) ≤ sound ((σ 3)) ((σ 4)) (σ 8 cu) (σ 9 cu)) = bI (σ 5 cu + le ≤ sound (σ 3) (σ 4) (σ 8 cu) (σ 9 cu)) from rfl) dX2_holdsCourierWith_38
set_option maxHeartbeats 4000000 in
set_option maxRecDepth 100000 in
theorem M_X2_step (l : Launch) (D : va_G) (cI : ClassId) (a : Nat → Nat) (σ : St) (cu : Nat) (sz : Nat) (hcu : cu < 8) (hok : okC σ cu) : Met l yX2_step wsX2_step ({ frames := 3, cells := 0, slots := 0, locals := 72 } : Room) (wrPc [.ref (a 0), .int (nI cu)] D (wRiv a cI σ) [(cI, .int)] sz) (wrQv D (wRiv a cI (stepF σ cu)) (va_A (wRiv a cI σ) sz)) 0 0 (va_A (wRiv a cI σ) sz) := by
  refine Met.ofW (cc := cX2_step) (maxL := 5) (ret := none) (by decide) rfl ?_
  intro p e s m args below meth c s₁ B hml hv
  obtain ⟨hargs, hsz, hP, hK, hD0⟩ := hv
  have hx := B.exec
  have hb := B.bytes
  have hr := B.returns
  have hts := atoms_spec (ws := wsX2_step) B.pre
  have hown : s.vm.findClass RX2 = some m.cls := findClass_of_methodNamed B.named
  have hlocks := B.notSynchronized
  obtain ⟨_, hN⟩ := id hK
  have hiX0 : ∀ w ∈ wsX00, w ∈ wsX2_step := by decide +kernel
  have hiX2 : ∀ w ∈ wsX20, w ∈ wsX2_step := by decide +kernel
  subst hsz
  have hD := hD0.self (sz := s.heap.size)
  generalize hAe : va_A (wRiv a cI σ) s.heap.size = A at hD ⊢
  have hA : ∀ q : Nat, s.heap.size ≤ q → A q := fun q h => by rw [← hAe]; exact Or.inr h
  have hS : va_S A s.heap s.heap [] := va_S.rf
  have hP : va_P D vwCl (wRiv a cI σ) s.heap := hP
  refine my_abs (fun Q hQ => ?_)
  obtain ⟨ls, hl, hent⟩ := my_entry (m := m) (n := 5) hargs (Nat.le_of_ble_eq_true rfl)
  rw [hent]
  have hl : lv_has ls 5 [(0, .ref (a 0)), (1, .int (nI cu))] := hl
  show W p l e ({ frames := 3, cells := 0, slots := 0, locals := 72 } : Room) s m args below meth c s.heap [] 0 0 Q (F0 m 0 ls [])
  have hto := inS_nsec hok.1 hok.2.2.1
  refine lv_aload_n hx hb dX2_step_0 rfl (lv_at hl 0 rfl) ?_
  refine va_get (D := D) (ci := 2) (v := .ref (a 6)) (C := RX2) (T := TX2) (N := 6) hx hb hts hiX2 hown hK.1 hP 0 rfl rfl 5 (by decide) (hts (.fieldLink RX2 32 "IceLanes$River" "couriers" "LIceLanes$Couriers;") (by decide +kernel)) (fun _ h9 => h9) rfl dX2_step_1 ?_
  refine lv_iload_n hx hb dX2_step_4 rfl (lv_at hl 1 rfl) ?_
  refine rd_i (va_runVN (As := [.int (nI cu)]) (rest := []) ⟨hx, hb, hml, hown, hts⟩ (M_X0_loadOf l D cI a σ cu (by first | assumption | omega)) ⟨va_cnB 1 hts gX2_step_X0_loadOf_n101 rfl rfl rfl (nX2_101 hN) (hts (.initialized RX0) (by decide +kernel)) (by decide +kernel) ⟨Nat.le_of_ble_eq_true rfl, Nat.le_of_ble_eq_true rfl⟩, hts (.instanceMethod yX0_loadOf) (by decide +kernel), hts (.selects RX0 yX0_loadOf yX0_loadOf) (by decide +kernel)⟩ (rdV hK hP [6, 7, 8, 9, 10, 11, 12, 13, 14, 15] [0] rfl rfl (ci := 0) (q0 := 6) rfl rfl) rfl rfl hl.1 rfl (lv_room (Nat.le_of_ble_eq_true rfl)) dX2_step_5 ⟨Nat.zero_le _, Nat.zero_le _⟩) ?_
  refine lv_topi (fun ld e_ld => ?_)
  refine lv_istore_n (lv' := [(2, .int ld), (0, .ref (a 0)), (1, .int (nI cu))]) hx hb dX2_step_8 rfl hl (by decide) rfl (fun ls hl => ?_)
  refine lv_aload_n hx hb dX2_step_9 rfl (lv_at hl 1 rfl) ?_
  refine va_get (D := D) (ci := 2) (v := .ref (a 6)) (C := RX2) (T := TX2) (N := 6) hx hb hts hiX2 hown hK.1 hP 0 rfl rfl 5 (by decide) (hts (.fieldLink RX2 32 "IceLanes$River" "couriers" "LIceLanes$Couriers;") (by decide +kernel)) (fun _ h9 => h9) rfl dX2_step_10 ?_
  refine lv_iload_n hx hb dX2_step_13 rfl (lv_at hl 2 rfl) ?_
  refine rd_i (va_runVN (As := [.int (nI cu)]) (rest := []) ⟨hx, hb, hml, hown, hts⟩ (M_X0_nextSection l D cI a σ cu (by first | assumption | omega)) ⟨va_cnB 1 hts gX2_step_X0_nextSection_n105 rfl rfl rfl (nX2_105 hN) (hts (.initialized RX0) (by decide +kernel)) (by decide +kernel) ⟨Nat.le_of_ble_eq_true rfl, Nat.le_of_ble_eq_true rfl⟩, hts (.instanceMethod yX0_nextSection) (by decide +kernel), hts (.selects RX0 yX0_nextSection yX0_nextSection) (by decide +kernel)⟩ (rdV hK hP [6, 7, 8, 9, 10, 11, 12, 13, 14, 15] [0] rfl rfl (ci := 0) (q0 := 6) rfl rfl) rfl rfl hl.1 rfl (lv_room (Nat.le_of_ble_eq_true rfl)) dX2_step_14 ⟨Nat.zero_le _, Nat.zero_le _⟩) ?_
  refine lv_topi (fun to e_to => ?_)
  refine lv_istore_n (lv' := [(3, .int to), (2, .int ld), (0, .ref (a 0)), (1, .int (nI cu))]) hx hb dX2_step_17 rfl hl (by decide) rfl (fun ls hl => ?_)
  refine lv_aload_n hx hb dX2_step_18 rfl (lv_at hl 2 rfl) ?_
  refine va_get (D := D) (ci := 2) (v := .ref (a 3)) (C := RX2) (T := TX2) (N := 6) hx hb hts hiX2 hown hK.1 hP 0 rfl rfl 4 (by decide) (hts (.fieldLink RX2 25 "IceLanes$River" "ice" "LIceLanes$Ice;") (by decide +kernel)) (fun _ h9 => h9) rfl dX2_step_19 ?_
  refine lv_iload_n hx hb dX2_step_22 rfl (lv_at hl 0 rfl) ?_
  refine lv_aload_n hx hb dX2_step_23 rfl (lv_at hl 2 rfl) ?_
  refine va_get (D := D) (ci := 2) (v := .ref (a 6)) (C := RX2) (T := TX2) (N := 6) hx hb hts hiX2 hown hK.1 hP 0 rfl rfl 5 (by decide) (hts (.fieldLink RX2 32 "IceLanes$River" "couriers" "LIceLanes$Couriers;") (by decide +kernel)) (fun _ h9 => h9) rfl dX2_step_24 ?_
  refine va_getN (D := D) (ci := 0) (v := .ref (a 11)) (C := RX0) (T := TX0) (N := 10) hx hb hts hiX0 hown hK.1 hP 6 rfl rfl 5 (by decide) (va_Nw.use rfl (nX2_58 hN)) (fun _ h9 => h9) rfl dX2_step_27 ?_
  refine lv_iload_n hx hb dX2_step_30 rfl (lv_at hl 3 rfl) ?_
  refine va_iald hx hb hK.1 hP 11 0 rfl rfl (by first | assumption | exact vp_in_nI (by omega) (by decide)) dX2_step_31 ?_
  rw [nI_clamp (n := cu) (by omega)]
  refine lv_iload_n hx hb dX2_step_32 rfl (lv_at hl 1 rfl) ?_
  refine rd_i (va_runVN (As := [.int to, .int (σ 9 cu), .int ld]) (rest := []) ⟨hx, hb, hml, hown, hts⟩ (M_X1_laneFor l D cI a σ to (σ 9 cu) ld (by rw [e_to]; exact hto) hok.2.1) ⟨va_cnB 3 hts gX2_step_X1_laneFor_n108 rfl rfl rfl (nX2_108 hN) (hts (.initialized RX1) (by decide +kernel)) (by decide +kernel) ⟨Nat.le_of_ble_eq_true rfl, Nat.le_of_ble_eq_true rfl⟩, hts (.instanceMethod yX1_laneFor) (by decide +kernel), hts (.selects RX1 yX1_laneFor yX1_laneFor) (by decide +kernel)⟩ (rdV hK hP [3, 4, 5] [0] rfl rfl (ci := 1) (q0 := 3) rfl rfl) rfl rfl hl.1 rfl (lv_room (Nat.le_of_ble_eq_true rfl)) dX2_step_33 ⟨Nat.zero_le _, Nat.zero_le _⟩) ?_
  refine lv_topi (fun ln e_ln => ?_)
  refine lv_istore (lv' := [(4, .int ln), (3, .int to), (2, .int ld), (0, .ref (a 0)), (1, .int (nI cu))]) hx hb dX2_step_36 hl (by decide) rfl (fun ls hl => ?_)
  refine lv_aload_n hx hb dX2_step_38 rfl (lv_at hl 3 rfl) ?_
  refine va_get (D := D) (ci := 2) (v := .ref (a 6)) (C := RX2) (T := TX2) (N := 6) hx hb hts hiX2 hown hK.1 hP 0 rfl rfl 5 (by decide) (hts (.fieldLink RX2 32 "IceLanes$River" "couriers" "LIceLanes$Couriers;") (by decide +kernel)) (fun _ h9 => h9) rfl dX2_step_39 ?_
  refine va_getN (D := D) (ci := 0) (v := .ref (a 9)) (C := RX0) (T := TX0) (N := 10) hx hb hts hiX0 hown hK.1 hP 6 rfl rfl 3 (by decide) (va_Nw.use rfl (nX2_112 hN)) (fun _ h9 => h9) rfl dX2_step_42 ?_
  refine lv_iload_n hx hb dX2_step_45 rfl (lv_at hl 4 rfl) ?_
  refine va_iald hx hb hK.1 hP 9 0 rfl rfl (by first | assumption | exact vp_in_nI (by omega) (by decide)) dX2_step_46 ?_
  rw [nI_clamp (n := cu) (by omega)]
  refine lv_if_eq (tgt := 56) hx hb dX2_step_47 (by decide) (fun c_1 => ?_) (fun c_1 => ?_)
  · skip
    refine lv_aload_n hx hb dX2_step_56 rfl (lv_at hl 3 rfl) ?_
    refine va_get (D := D) (ci := 2) (v := .ref (a 6)) (C := RX2) (T := TX2) (N := 6) hx hb hts hiX2 hown hK.1 hP 0 rfl rfl 5 (by decide) (hts (.fieldLink RX2 32 "IceLanes$River" "couriers" "LIceLanes$Couriers;") (by decide +kernel)) (fun _ h9 => h9) rfl dX2_step_57 ?_
    refine va_getN (D := D) (ci := 0) (v := .ref (a 13)) (C := RX0) (T := TX0) (N := 10) hx hb hts hiX0 hown hK.1 hP 6 rfl rfl 7 (by decide) (va_Nw.use rfl (nX2_92 hN)) (fun _ h9 => h9) rfl dX2_step_60 ?_
    refine lv_iload_n hx hb dX2_step_63 rfl (lv_at hl 4 rfl) ?_
    refine lv_iconst (v := 0) hx hb dX2_step_64 (by decide) ?_
    refine va_iast hx hb hK.1 hP hD hS 13 0 rfl rfl (by first | assumption | exact vp_in_nI (by omega) (by decide)) dX2_step_65 (fun H locs hP hD hS => ?_)
    rw [nI_clamp (n := cu) (by omega)] at hP hD
    have hP : va_P D vwCl (wRivE a cI (σ 0 0) (σ 16 0) (σ 1) (σ 2) (σ 3) (σ 4) (σ 17 0) (σ 5) (σ 6) (σ 7) (σ 8) (σ 9) (σ 10) (upd (σ 11) cu 0) (σ 12) (σ 13)) H := hP
    have hD : va_D A (wRivE a cI (σ 0 0) (σ 16 0) (σ 1) (σ 2) (σ 3) (σ 4) (σ 17 0) (σ 5) (σ 6) (σ 7) (σ 8) (σ 9) (σ 10) (upd (σ 11) cu 0) (σ 12) (σ 13)) := hD
    subst hQ
    have hP : va_P D vwCl (wRiv a cI (put σ 11 (upd (σ 11) cu 0))) H := hP
    have hD : va_D A (wRiv a cI (put σ 11 (upd (σ 11) cu 0))) := hD
    have hst_s : put σ 11 (upd (σ 11) cu 0) = stepF σ cu := (if_pos (by first | exact Or.inl (by assumption) | exact Or.inr (show lnF σ cu = -1 from (by unfold lnF; rw [← e_to, show ldF σ cu = ld from e_ld.symm, ← e_ln]; assumption)))).symm
    rw [hst_s] at hP hD
    exact ret_wrv hx hb hr hlocks hP hD hS dX2_step_66
  · skip
    refine lv_iload hx hb dX2_step_50 (lv_at hl 0 rfl) ?_
    refine lv_iconst (v := (-1)) hx hb dX2_step_52 (by decide) ?_
    refine lv_icmp_ne (tgt := 67) hx hb dX2_step_53 (by decide) (fun c_2 => ?_) (fun c_2 => ?_)
    · skip
      have hln : inL ln := by rw [e_ln]; exact laneOf_in hok.2.1 (by rw [← e_ln]; assumption)
      have hq : ¬ (σ 7 cu = 0 ∨ lnF σ cu = -1) := fun z => z.elim (fun z => absurd z (by assumption)) (fun z => absurd (show ln = -1 by rw [e_ln, e_to, e_ld]; exact z) (by assumption))
      have hsg : stepF σ cu = stepG σ cu to ln ld := by rw [e_ln, e_to, e_ld]; exact if_neg hq
      refine lv_aload_n hx hb dX2_step_67 rfl (lv_at hl 3 rfl) ?_
      refine va_get (D := D) (ci := 2) (v := .ref (a 6)) (C := RX2) (T := TX2) (N := 6) hx hb hts hiX2 hown hK.1 hP 0 rfl rfl 5 (by decide) (hts (.fieldLink RX2 32 "IceLanes$River" "couriers" "LIceLanes$Couriers;") (by decide +kernel)) (fun _ h9 => h9) rfl dX2_step_68 ?_
      refine va_getN (D := D) (ci := 0) (v := .ref (a 10)) (C := RX0) (T := TX0) (N := 10) hx hb hts hiX0 hown hK.1 hP 6 rfl rfl 4 (by decide) (va_Nw.use rfl (nX2_55 hN)) (fun _ h9 => h9) rfl dX2_step_71 ?_
      refine lv_iload_n hx hb dX2_step_74 rfl (lv_at hl 4 rfl) ?_
      refine lv_iload_n hx hb dX2_step_75 rfl (lv_at hl 1 rfl) ?_
      refine va_iast hx hb hK.1 hP hD hS 10 0 rfl rfl (by first | assumption | exact vp_in_nI (by omega) (by decide)) dX2_step_76 (fun H locs hP hD hS => ?_)
      rw [nI_clamp (n := cu) (by omega)] at hP hD
      have hP : va_P D vwCl (wRivE a cI (σ 0 0) (σ 16 0) (σ 1) (σ 2) (σ 3) (σ 4) (σ 17 0) (σ 5) (σ 6) (σ 7) (upd (σ 8) cu to) (σ 9) (σ 10) (σ 11) (σ 12) (σ 13)) H := hP
      have hD : va_D A (wRivE a cI (σ 0 0) (σ 16 0) (σ 1) (σ 2) (σ 3) (σ 4) (σ 17 0) (σ 5) (σ 6) (σ 7) (upd (σ 8) cu to) (σ 9) (σ 10) (σ 11) (σ 12) (σ 13)) := hD
      refine lv_aload_n hx hb dX2_step_77 rfl (lv_at hl 3 rfl) ?_
      refine va_get (D := D) (ci := 2) (v := .ref (a 6)) (C := RX2) (T := TX2) (N := 6) hx hb hts hiX2 hown hK.1 hP 0 rfl rfl 5 (by decide) (hts (.fieldLink RX2 32 "IceLanes$River" "couriers" "LIceLanes$Couriers;") (by decide +kernel)) (fun _ h9 => h9) rfl dX2_step_78 ?_
      refine va_getN (D := D) (ci := 0) (v := .ref (a 11)) (C := RX0) (T := TX0) (N := 10) hx hb hts hiX0 hown hK.1 hP 6 rfl rfl 5 (by decide) (va_Nw.use rfl (nX2_58 hN)) (fun _ h9 => h9) rfl dX2_step_81 ?_
      refine lv_iload_n hx hb dX2_step_84 rfl (lv_at hl 4 rfl) ?_
      refine lv_iload hx hb dX2_step_85 (lv_at hl 0 rfl) ?_
      refine va_iast hx hb hK.1 hP hD hS 11 0 rfl rfl (by first | assumption | exact vp_in_nI (by omega) (by decide)) dX2_step_87 (fun H locs hP hD hS => ?_)
      rw [nI_clamp (n := cu) (by omega)] at hP hD
      have hP : va_P D vwCl (wRivE a cI (σ 0 0) (σ 16 0) (σ 1) (σ 2) (σ 3) (σ 4) (σ 17 0) (σ 5) (σ 6) (σ 7) (upd (σ 8) cu to) (upd (σ 9) cu ln) (σ 10) (σ 11) (σ 12) (σ 13)) H := hP
      have hD : va_D A (wRivE a cI (σ 0 0) (σ 16 0) (σ 1) (σ 2) (σ 3) (σ 4) (σ 17 0) (σ 5) (σ 6) (σ 7) (upd (σ 8) cu to) (upd (σ 9) cu ln) (σ 10) (σ 11) (σ 12) (σ 13)) := hD
      refine lv_aload_n hx hb dX2_step_88 rfl (lv_at hl 3 rfl) ?_
      refine va_get (D := D) (ci := 2) (v := .ref (a 6)) (C := RX2) (T := TX2) (N := 6) hx hb hts hiX2 hown hK.1 hP 0 rfl rfl 5 (by decide) (hts (.fieldLink RX2 32 "IceLanes$River" "couriers" "LIceLanes$Couriers;") (by decide +kernel)) (fun _ h9 => h9) rfl dX2_step_89 ?_
      refine va_getN (D := D) (ci := 0) (v := .ref (a 9)) (C := RX0) (T := TX0) (N := 10) hx hb hts hiX0 hown hK.1 hP 6 rfl rfl 3 (by decide) (va_Nw.use rfl (nX2_112 hN)) (fun _ h9 => h9) rfl dX2_step_92 ?_
      refine lv_iload_n hx hb dX2_step_95 rfl (lv_at hl 4 rfl) ?_
      refine lv_dup2_11 hx hb dX2_step_96 rfl rfl ?_
      refine va_iald hx hb hK.1 hP 9 0 rfl rfl (by first | assumption | exact vp_in_nI (by omega) (by decide)) dX2_step_97 ?_
      rw [nI_clamp (n := cu) (by omega)]
      refine lv_iconst (v := 1) hx hb dX2_step_98 (by decide) ?_
      refine lv_isub hx hb dX2_step_99 ?_
      refine va_iast hx hb hK.1 hP hD hS 9 0 rfl rfl (by first | assumption | exact vp_in_nI (by omega) (by decide)) dX2_step_100 (fun H locs hP hD hS => ?_)
      rw [nI_clamp (n := cu) (by omega)] at hP hD
      have hP : va_P D vwCl (wRivE a cI (σ 0 0) (σ 16 0) (σ 1) (σ 2) (σ 3) (σ 4) (σ 17 0) (σ 5) (σ 6) (upd (σ 7) cu ((σ 7 cu) - 1)) (upd (σ 8) cu to) (upd (σ 9) cu ln) (σ 10) (σ 11) (σ 12) (σ 13)) H := hP
      have hD : va_D A (wRivE a cI (σ 0 0) (σ 16 0) (σ 1) (σ 2) (σ 3) (σ 4) (σ 17 0) (σ 5) (σ 6) (upd (σ 7) cu ((σ 7 cu) - 1)) (upd (σ 8) cu to) (upd (σ 9) cu ln) (σ 10) (σ 11) (σ 12) (σ 13)) := hD
      refine lv_aload_n hx hb dX2_step_101 rfl (lv_at hl 3 rfl) ?_
      refine va_get (D := D) (ci := 2) (v := .ref (a 6)) (C := RX2) (T := TX2) (N := 6) hx hb hts hiX2 hown hK.1 hP 0 rfl rfl 5 (by decide) (hts (.fieldLink RX2 32 "IceLanes$River" "couriers" "LIceLanes$Couriers;") (by decide +kernel)) (fun _ h9 => h9) rfl dX2_step_102 ?_
      refine va_getN (D := D) (ci := 0) (v := .ref (a 14)) (C := RX0) (T := TX0) (N := 10) hx hb hts hiX0 hown hK.1 hP 6 rfl rfl 8 (by decide) (va_Nw.use rfl (nX2_115 hN)) (fun _ h9 => h9) rfl dX2_step_105 ?_
      refine lv_iload_n hx hb dX2_step_108 rfl (lv_at hl 4 rfl) ?_
      refine lv_dup2_11 hx hb dX2_step_109 rfl rfl ?_
      refine va_iald hx hb hK.1 hP 14 0 rfl rfl (by first | assumption | exact vp_in_nI (by omega) (by decide)) dX2_step_110 ?_
      rw [nI_clamp (n := cu) (by omega)]
      refine lv_iconst (v := 1) hx hb dX2_step_111 (by decide) ?_
      refine lv_iadd hx hb dX2_step_112 ?_
      refine va_iast hx hb hK.1 hP hD hS 14 0 rfl rfl (by first | assumption | exact vp_in_nI (by omega) (by decide)) dX2_step_113 (fun H locs hP hD hS => ?_)
      rw [nI_clamp (n := cu) (by omega)] at hP hD
      have hP : va_P D vwCl (wRivE a cI (σ 0 0) (σ 16 0) (σ 1) (σ 2) (σ 3) (σ 4) (σ 17 0) (σ 5) (σ 6) (upd (σ 7) cu ((σ 7 cu) - 1)) (upd (σ 8) cu to) (upd (σ 9) cu ln) (σ 10) (σ 11) (upd (σ 12) cu ((σ 12 cu) + 1)) (σ 13)) H := hP
      have hD : va_D A (wRivE a cI (σ 0 0) (σ 16 0) (σ 1) (σ 2) (σ 3) (σ 4) (σ 17 0) (σ 5) (σ 6) (upd (σ 7) cu ((σ 7 cu) - 1)) (upd (σ 8) cu to) (upd (σ 9) cu ln) (σ 10) (σ 11) (upd (σ 12) cu ((σ 12 cu) + 1)) (σ 13)) := hD
      have hP : va_P D vwCl (wRiv a cI (put (put (put (put σ 7 (upd (σ 7) cu ((σ 7 cu) - 1))) 8 (upd (σ 8) cu to)) 9 (upd (σ 9) cu ln)) 12 (upd (σ 12) cu ((σ 12 cu) + 1)))) H := hP
      have hD : va_D A (wRiv a cI (put (put (put (put σ 7 (upd (σ 7) cu ((σ 7 cu) - 1))) 8 (upd (σ 8) cu to)) 9 (upd (σ 9) cu ln)) 12 (upd (σ 12) cu ((σ 12 cu) + 1)))) := hD
      generalize e_σa : put (put (put (put σ 7 (upd (σ 7) cu ((σ 7 cu) - 1))) 8 (upd (σ 8) cu to)) 9 (upd (σ 9) cu ln)) 12 (upd (σ 12) cu ((σ 12 cu) + 1)) = σa at hP hD
      have e3 : σa 3 = σ 3 := by rw [← e_σa]; rfl
      have e4 : σa 4 = σ 4 := by rw [← e_σa]; rfl
      have e8 : σa 8 cu = to := by rw [← e_σa]; exact upd_s _ _ _
      have e10 : σa 10 = σ 10 := by rw [← e_σa]; rfl
      refine lv_aload_n hx hb dX2_step_114 rfl (lv_at hl 3 rfl) ?_
      refine va_get (D := D) (ci := 2) (v := .ref (a 3)) (C := RX2) (T := TX2) (N := 6) hx hb hts hiX2 hown hK.1 hP 0 rfl rfl 4 (by decide) (hts (.fieldLink RX2 25 "IceLanes$River" "ice" "LIceLanes$Ice;") (by decide +kernel)) (fun _ h9 => h9) rfl dX2_step_115 ?_
      refine lv_iload_n hx hb dX2_step_118 rfl (lv_at hl 1 rfl) ?_
      refine lv_iload hx hb dX2_step_119 (lv_at hl 0 rfl) ?_
      refine lv_iload_n hx hb dX2_step_121 rfl (lv_at hl 2 rfl) ?_
      refine wr_i (wn := wRivE a cI (σa 0 0) (σa 16 0) (σa 1) (σa 2) (wsT ((σa 3)) ((σa 4)) to ln ld) (wsC ((σa 3)) ((σa 4)) to ln ld) (σa 17 0) (σa 5) (σa 6) (σa 7) (σa 8) (σa 9) (σa 10) (σa 11) (σa 12) (σa 13)) (va_runVN (As := [.int to, .int ln, .int ld]) (rest := []) ⟨hx, hb, hml, hown, hts⟩ (M_X1_withstands l D cI a σa to ln ld _ (by rw [e_to]; exact hto) hln) ⟨va_cnB 3 hts gX2_step_X1_withstands_n118 rfl rfl rfl (nX2_118 hN) (hts (.initialized RX1) (by decide +kernel)) (by decide +kernel) ⟨Nat.le_of_ble_eq_true rfl, Nat.le_of_ble_eq_true rfl⟩, hts (.instanceMethod yX1_withstands) (by decide +kernel), hts (.selects RX1 yX1_withstands yX1_withstands) (by decide +kernel)⟩ (wrV hK hP hD [3, 4, 5] [0] rfl rfl rfl (ci := 1) (q0 := 3) rfl rfl) rfl rfl hl.1 rfl (lv_room (Nat.le_of_ble_eq_true rfl)) dX2_step_122 ⟨Nat.le_of_ble_eq_true rfl, Nat.le_of_ble_eq_true rfl⟩) hP hD hS hA [3, 4, 5] [0, 1, 2, 6, 7, 8, 9, 10, 11, 12, 13, 14, 15] [0, 1, 2, 13, 14, 15, 3, 4, 5, 6, 7, 8, 9, 10, 11, 12] rfl rfl rfl rfl rfl rfl (fun H locs hP hD hS => ?_)
      refine lv_if_ne (tgt := 151) hx hb dX2_step_125 (by decide) (fun c_3 => ?_) (fun c_3 => ?_)
      · skip
        have c_3 : (ld ≤ snd2 ((σa 3)) ((σa 4)) to ln ld) := bI_nz.mp c_3
        rw [e3, e4] at c_3
        have hok2 : ¬ ¬ ld ≤ snd2 (σ 3) (σ 4) to ln ld := fun z => z (by assumption)
        refine lv_aload_n hx hb dX2_step_151 rfl (lv_at hl 3 rfl) ?_
        refine va_get (D := D) (ci := 2) (v := .ref (a 6)) (C := RX2) (T := TX2) (N := 6) hx hb hts hiX2 hown hK.1 hP 0 rfl rfl 5 (by decide) (hts (.fieldLink RX2 32 "IceLanes$River" "couriers" "LIceLanes$Couriers;") (by decide +kernel)) (fun _ h9 => h9) rfl dX2_step_152 ?_
        refine lv_iload_n hx hb dX2_step_155 rfl (lv_at hl 4 rfl) ?_
        refine rd_i (va_runVN (As := [.int (nI cu)]) (rest := []) ⟨hx, hb, hml, hown, hts⟩ (M_X0_isAtGoal l D cI a (put (put σa 3 (wsT ((σa 3)) ((σa 4)) to ln ld)) 4 (wsC ((σa 3)) ((σa 4)) to ln ld)) cu (by first | assumption | omega)) ⟨va_cnB 1 hts gX2_step_X0_isAtGoal_n124 rfl rfl rfl (nX2_124 hN) (hts (.initialized RX0) (by decide +kernel)) (by decide +kernel) ⟨Nat.le_of_ble_eq_true rfl, Nat.le_of_ble_eq_true rfl⟩, hts (.instanceMethod yX0_isAtGoal) (by decide +kernel), hts (.selects RX0 yX0_isAtGoal yX0_isAtGoal) (by decide +kernel)⟩ (rdV hK hP [6, 7, 8, 9, 10, 11, 12, 13, 14, 15] [0] rfl rfl (ci := 0) (q0 := 6) rfl rfl) rfl rfl hl.1 rfl (lv_room (Nat.le_of_ble_eq_true rfl)) dX2_step_156 ⟨Nat.zero_le _, Nat.zero_le _⟩) ?_
        refine W.eq (g2 := F0 m 159 ls [.int (bI ((σa 8) cu = (σa 10) cu))]) rfl ?_
        refine lv_if_eq (tgt := 172) hx hb dX2_step_159 (by decide) (fun c_4 => ?_) (fun c_4 => ?_)
        · skip
          have c_4 : ¬ ((σa 8) cu = (σa 10) cu) := bI_z.mp c_4
          rw [e8, e10] at c_4
          subst hQ
          have hP : va_P D vwCl (wRiv a cI (put (put σa 3 (wsT ((σa 3)) ((σa 4)) to ln ld)) 4 (wsC ((σa 3)) ((σa 4)) to ln ld))) H := hP
          have hD : va_D A (wRiv a cI (put (put σa 3 (wsT ((σa 3)) ((σa 4)) to ln ld)) 4 (wsC ((σa 3)) ((σa 4)) to ln ld))) := hD
          have hst_s : put (put σa 3 (wsT ((σa 3)) ((σa 4)) to ln ld)) 4 (wsC ((σa 3)) ((σa 4)) to ln ld) = stepF σ cu := (by rw [hsg]; unfold stepG; (first | rw [if_pos (by assumption)] | rw [if_neg hok2, if_pos (by assumption)] | rw [if_neg hok2, if_neg (by assumption)]); rw [← e_σa]; rfl)
          rw [hst_s] at hP hD
          exact ret_wrv hx hb hr hlocks hP hD hS dX2_step_172
        · skip
          have c_4 : ((σa 8) cu = (σa 10) cu) := bI_nz.mp c_4
          rw [e8, e10] at c_4
          refine lv_aload_n hx hb dX2_step_162 rfl (lv_at hl 3 rfl) ?_
          refine va_get (D := D) (ci := 2) (v := .ref (a 6)) (C := RX2) (T := TX2) (N := 6) hx hb hts hiX2 hown hK.1 hP 0 rfl rfl 5 (by decide) (hts (.fieldLink RX2 32 "IceLanes$River" "couriers" "LIceLanes$Couriers;") (by decide +kernel)) (fun _ h9 => h9) rfl dX2_step_163 ?_
          refine va_getN (D := D) (ci := 0) (v := .ref (a 13)) (C := RX0) (T := TX0) (N := 10) hx hb hts hiX0 hown hK.1 hP 6 rfl rfl 7 (by decide) (va_Nw.use rfl (nX2_92 hN)) (fun _ h9 => h9) rfl dX2_step_166 ?_
          refine lv_iload_n hx hb dX2_step_169 rfl (lv_at hl 4 rfl) ?_
          refine lv_iconst (v := 2) hx hb dX2_step_170 (by decide) ?_
          refine va_iast hx hb hK.1 hP hD hS 13 0 rfl rfl (by first | assumption | exact vp_in_nI (by omega) (by decide)) dX2_step_171 (fun H locs hP hD hS => ?_)
          rw [nI_clamp (n := cu) (by omega)] at hP hD
          have hP : va_P D vwCl (wRivE a cI (σa 0 0) (σa 16 0) (σa 1) (σa 2) (wsT ((σa 3)) ((σa 4)) to ln ld) (wsC ((σa 3)) ((σa 4)) to ln ld) (σa 17 0) (σa 5) (σa 6) (σa 7) (σa 8) (σa 9) (σa 10) (upd (σa 11) cu 2) (σa 12) (σa 13)) H := hP
          have hD : va_D A (wRivE a cI (σa 0 0) (σa 16 0) (σa 1) (σa 2) (wsT ((σa 3)) ((σa 4)) to ln ld) (wsC ((σa 3)) ((σa 4)) to ln ld) (σa 17 0) (σa 5) (σa 6) (σa 7) (σa 8) (σa 9) (σa 10) (upd (σa 11) cu 2) (σa 12) (σa 13)) := hD
          subst hQ
          have hP : va_P D vwCl (wRivE a cI (σa 0 0) (σa 16 0) (σa 1) (σa 2) (wsT ((σa 3)) ((σa 4)) to ln ld) (wsC ((σa 3)) ((σa 4)) to ln ld) (σa 17 0) (σa 5) (σa 6) (σa 7) (σa 8) (σa 9) (σa 10) (upd (σa 11) cu 2) (σa 12) (σa 13)) H := hP
          have hD : va_D A (wRivE a cI (σa 0 0) (σa 16 0) (σa 1) (σa 2) (wsT ((σa 3)) ((σa 4)) to ln ld) (wsC ((σa 3)) ((σa 4)) to ln ld) (σa 17 0) (σa 5) (σa 6) (σa 7) (σa 8) (σa 9) (σa 10) (upd (σa 11) cu 2) (σa 12) (σa 13)) := hD
          have hP : va_P D vwCl (wRiv a cI (put (put (put (put σa 3 (wsT ((σa 3)) ((σa 4)) to ln ld)) 4 (wsC ((σa 3)) ((σa 4)) to ln ld)) 11 (upd (σa 11) cu 2)) 18 (fun _ => σa 18 0 + 1))) H := hP
          have hD : va_D A (wRiv a cI (put (put (put (put σa 3 (wsT ((σa 3)) ((σa 4)) to ln ld)) 4 (wsC ((σa 3)) ((σa 4)) to ln ld)) 11 (upd (σa 11) cu 2)) 18 (fun _ => σa 18 0 + 1))) := hD
          have hst_s : put (put (put (put σa 3 (wsT ((σa 3)) ((σa 4)) to ln ld)) 4 (wsC ((σa 3)) ((σa 4)) to ln ld)) 11 (upd (σa 11) cu 2)) 18 (fun _ => σa 18 0 + 1) = stepF σ cu := (by rw [hsg]; unfold stepG; (first | rw [if_pos (by assumption)] | rw [if_neg hok2, if_pos (by assumption)] | rw [if_neg hok2, if_neg (by assumption)]); rw [← e_σa]; rfl)
          rw [hst_s] at hP hD
          exact ret_wrv hx hb hr hlocks hP hD hS dX2_step_172
      · skip
        have c_3 : ¬ (ld ≤ snd2 ((σa 3)) ((σa 4)) to ln ld) := bI_z.mp c_3
        rw [e3, e4] at c_3
        refine lv_aload_n hx hb dX2_step_128 rfl (lv_at hl 3 rfl) ?_
        refine va_get (D := D) (ci := 2) (v := .ref (a 6)) (C := RX2) (T := TX2) (N := 6) hx hb hts hiX2 hown hK.1 hP 0 rfl rfl 5 (by decide) (hts (.fieldLink RX2 32 "IceLanes$River" "couriers" "LIceLanes$Couriers;") (by decide +kernel)) (fun _ h9 => h9) rfl dX2_step_129 ?_
        refine va_getN (D := D) (ci := 0) (v := .ref (a 13)) (C := RX0) (T := TX0) (N := 10) hx hb hts hiX0 hown hK.1 hP 6 rfl rfl 7 (by decide) (va_Nw.use rfl (nX2_92 hN)) (fun _ h9 => h9) rfl dX2_step_132 ?_
        refine lv_iload_n hx hb dX2_step_135 rfl (lv_at hl 4 rfl) ?_
        refine lv_iconst (v := 3) hx hb dX2_step_136 (by decide) ?_
        refine va_iast hx hb hK.1 hP hD hS 13 0 rfl rfl (by first | assumption | exact vp_in_nI (by omega) (by decide)) dX2_step_137 (fun H locs hP hD hS => ?_)
        rw [nI_clamp (n := cu) (by omega)] at hP hD
        have hP : va_P D vwCl (wRivE a cI (σa 0 0) (σa 16 0) (σa 1) (σa 2) (wsT ((σa 3)) ((σa 4)) to ln ld) (wsC ((σa 3)) ((σa 4)) to ln ld) (σa 17 0) (σa 5) (σa 6) (σa 7) (σa 8) (σa 9) (σa 10) (upd (σa 11) cu 3) (σa 12) (σa 13)) H := hP
        have hD : va_D A (wRivE a cI (σa 0 0) (σa 16 0) (σa 1) (σa 2) (wsT ((σa 3)) ((σa 4)) to ln ld) (wsC ((σa 3)) ((σa 4)) to ln ld) (σa 17 0) (σa 5) (σa 6) (σa 7) (σa 8) (σa 9) (σa 10) (upd (σa 11) cu 3) (σa 12) (σa 13)) := hD
        refine lv_aload_n hx hb dX2_step_138 rfl (lv_at hl 3 rfl) ?_
        refine va_get (D := D) (ci := 2) (v := .ref (a 6)) (C := RX2) (T := TX2) (N := 6) hx hb hts hiX2 hown hK.1 hP 0 rfl rfl 5 (by decide) (hts (.fieldLink RX2 32 "IceLanes$River" "couriers" "LIceLanes$Couriers;") (by decide +kernel)) (fun _ h9 => h9) rfl dX2_step_139 ?_
        refine va_getN (D := D) (ci := 0) (v := .ref (a 8)) (C := RX0) (T := TX0) (N := 10) hx hb hts hiX0 hown hK.1 hP 6 rfl rfl 2 (by decide) (va_Nw.use rfl (nX2_121 hN)) (fun _ h9 => h9) rfl dX2_step_142 ?_
        refine lv_iload_n hx hb dX2_step_145 rfl (lv_at hl 4 rfl) ?_
        refine lv_iconst (v := 0) hx hb dX2_step_146 (by decide) ?_
        refine va_iast hx hb hK.1 hP hD hS 8 0 rfl rfl (by first | assumption | exact vp_in_nI (by omega) (by decide)) dX2_step_147 (fun H locs hP hD hS => ?_)
        rw [nI_clamp (n := cu) (by omega)] at hP hD
        have hP : va_P D vwCl (wRivE a cI (σa 0 0) (σa 16 0) (σa 1) (σa 2) (wsT ((σa 3)) ((σa 4)) to ln ld) (wsC ((σa 3)) ((σa 4)) to ln ld) (σa 17 0) (σa 5) (upd (σa 6) cu 0) (σa 7) (σa 8) (σa 9) (σa 10) (upd (σa 11) cu 3) (σa 12) (σa 13)) H := hP
        have hD : va_D A (wRivE a cI (σa 0 0) (σa 16 0) (σa 1) (σa 2) (wsT ((σa 3)) ((σa 4)) to ln ld) (wsC ((σa 3)) ((σa 4)) to ln ld) (σa 17 0) (σa 5) (upd (σa 6) cu 0) (σa 7) (σa 8) (σa 9) (σa 10) (upd (σa 11) cu 3) (σa 12) (σa 13)) := hD
        refine lv_goto (tgt := 172) hx hb dX2_step_148 (by decide) ?_
        subst hQ
        have hP : va_P D vwCl (wRiv a cI (put (put (put (put σa 3 (wsT ((σa 3)) ((σa 4)) to ln ld)) 4 (wsC ((σa 3)) ((σa 4)) to ln ld)) 6 (upd (σa 6) cu 0)) 11 (upd (σa 11) cu 3))) H := hP
        have hD : va_D A (wRiv a cI (put (put (put (put σa 3 (wsT ((σa 3)) ((σa 4)) to ln ld)) 4 (wsC ((σa 3)) ((σa 4)) to ln ld)) 6 (upd (σa 6) cu 0)) 11 (upd (σa 11) cu 3))) := hD
        have hst_s : put (put (put (put σa 3 (wsT ((σa 3)) ((σa 4)) to ln ld)) 4 (wsC ((σa 3)) ((σa 4)) to ln ld)) 6 (upd (σa 6) cu 0)) 11 (upd (σa 11) cu 3) = stepF σ cu := (by rw [hsg]; unfold stepG; (first | rw [if_pos (by assumption)] | rw [if_neg hok2, if_pos (by assumption)] | rw [if_neg hok2, if_neg (by assumption)]); rw [← e_σa]; rfl)
        rw [hst_s] at hP hD
        exact ret_wrv hx hb hr hlocks hP hD hS dX2_step_172
    · skip
      refine lv_aload_n hx hb dX2_step_56 rfl (lv_at hl 3 rfl) ?_
      refine va_get (D := D) (ci := 2) (v := .ref (a 6)) (C := RX2) (T := TX2) (N := 6) hx hb hts hiX2 hown hK.1 hP 0 rfl rfl 5 (by decide) (hts (.fieldLink RX2 32 "IceLanes$River" "couriers" "LIceLanes$Couriers;") (by decide +kernel)) (fun _ h9 => h9) rfl dX2_step_57 ?_
      refine va_getN (D := D) (ci := 0) (v := .ref (a 13)) (C := RX0) (T := TX0) (N := 10) hx hb hts hiX0 hown hK.1 hP 6 rfl rfl 7 (by decide) (va_Nw.use rfl (nX2_92 hN)) (fun _ h9 => h9) rfl dX2_step_60 ?_
      refine lv_iload_n hx hb dX2_step_63 rfl (lv_at hl 4 rfl) ?_
      refine lv_iconst (v := 0) hx hb dX2_step_64 (by decide) ?_
      refine va_iast hx hb hK.1 hP hD hS 13 0 rfl rfl (by first | assumption | exact vp_in_nI (by omega) (by decide)) dX2_step_65 (fun H locs hP hD hS => ?_)
      rw [nI_clamp (n := cu) (by omega)] at hP hD
      have hP : va_P D vwCl (wRivE a cI (σ 0 0) (σ 16 0) (σ 1) (σ 2) (σ 3) (σ 4) (σ 17 0) (σ 5) (σ 6) (σ 7) (σ 8) (σ 9) (σ 10) (upd (σ 11) cu 0) (σ 12) (σ 13)) H := hP
      have hD : va_D A (wRivE a cI (σ 0 0) (σ 16 0) (σ 1) (σ 2) (σ 3) (σ 4) (σ 17 0) (σ 5) (σ 6) (σ 7) (σ 8) (σ 9) (σ 10) (upd (σ 11) cu 0) (σ 12) (σ 13)) := hD
      subst hQ
      have hP : va_P D vwCl (wRiv a cI (put σ 11 (upd (σ 11) cu 0))) H := hP
      have hD : va_D A (wRiv a cI (put σ 11 (upd (σ 11) cu 0))) := hD
      have hst_s : put σ 11 (upd (σ 11) cu 0) = stepF σ cu := (if_pos (by first | exact Or.inl (by assumption) | exact Or.inr (show lnF σ cu = -1 from (by unfold lnF; rw [← e_to, show ldF σ cu = ld from e_ld.symm, ← e_ln]; assumption)))).symm
      rw [hst_s] at hP hD
      exact ret_wrv hx hb hr hlocks hP hD hS dX2_step_66
set_option maxHeartbeats 4000000 in
set_option maxRecDepth 100000 in
theorem M_X2_travels (l : Launch) (D : va_G) (cI : ClassId) (a : Nat → Nat) (σ : St) (cu : Nat) (pn : Nat) (sz : Nat) (hcu : cu < 8) (hok : okC σ cu) (hpn : σ 13 cu = nI pn) (hp2 : pn ≤ 2) : Met l yX2_travels wsX2_travels ({ frames := 4, cells := 0, slots := 0, locals := 96 } : Room) (wrPc [.ref (a 0), .int (nI cu)] D (wRiv a cI σ) [(cI, .int)] sz) (wrQi (bI (σ 11 cu = 1 ∧ trvF σ cu 11 cu = 2)) D (wRiv a cI (trvF σ cu)) (va_A (wRiv a cI σ) sz)) 0 0 (va_A (wRiv a cI σ) sz) := by
  refine Met.ofW (cc := cX2_travels) (maxL := 3) (ret := (some .boolean)) (by decide) rfl ?_
  intro p e s m args below meth c s₁ B hml hv
  obtain ⟨hargs, hsz, hP, hK, hD0⟩ := hv
  have hx := B.exec
  have hb := B.bytes
  have hr := B.returns
  have hts := atoms_spec (ws := wsX2_travels) B.pre
  have hown : s.vm.findClass RX2 = some m.cls := findClass_of_methodNamed B.named
  have hlocks := B.notSynchronized
  obtain ⟨_, hN⟩ := id hK
  have hiX0 : ∀ w ∈ wsX00, w ∈ wsX2_travels := by decide +kernel
  have hiX2 : ∀ w ∈ wsX20, w ∈ wsX2_travels := by decide +kernel
  subst hsz
  have hD := hD0.self (sz := s.heap.size)
  generalize hAe : va_A (wRiv a cI σ) s.heap.size = A at hD ⊢
  have hA : ∀ q : Nat, s.heap.size ≤ q → A q := fun q h => by rw [← hAe]; exact Or.inr h
  have hS : va_S A s.heap s.heap [] := va_S.rf
  have hP : va_P D vwCl (wRiv a cI σ) s.heap := hP
  refine my_abs (fun Q hQ => ?_)
  obtain ⟨ls, hl, hent⟩ := my_entry (m := m) (n := 3) hargs (Nat.le_of_ble_eq_true rfl)
  rw [hent]
  have hl : lv_has ls 3 [(0, .ref (a 0)), (1, .int (nI cu))] := hl
  show W p l e ({ frames := 4, cells := 0, slots := 0, locals := 96 } : Room) s m args below meth c s.heap [] 0 0 Q (F0 m 0 ls [])
  have hen : trvF σ cu = itS σ cu pn := by unfold trvF; rw [hpn, nI_clamp (by omega)]
  refine lv_aload_n hx hb dX2_travels_0 rfl (lv_at hl 0 rfl) ?_
  refine va_get (D := D) (ci := 2) (v := .ref (a 6)) (C := RX2) (T := TX2) (N := 6) hx hb hts hiX2 hown hK.1 hP 0 rfl rfl 5 (by decide) (hts (.fieldLink RX2 32 "IceLanes$River" "couriers" "LIceLanes$Couriers;") (by decide +kernel)) (fun _ h9 => h9) rfl dX2_travels_1 ?_
  refine va_getN (D := D) (ci := 0) (v := .ref (a 13)) (C := RX0) (T := TX0) (N := 10) hx hb hts hiX0 hown hK.1 hP 6 rfl rfl 7 (by decide) (va_Nw.use rfl (nX2_92 hN)) (fun _ h9 => h9) rfl dX2_travels_4 ?_
  refine lv_iload_n hx hb dX2_travels_7 rfl (lv_at hl 1 rfl) ?_
  refine va_iald hx hb hK.1 hP 13 0 rfl rfl (by first | assumption | exact vp_in_nI (by omega) (by decide)) dX2_travels_8 ?_
  rw [nI_clamp (n := cu) (by omega)]
  refine lv_iconst (v := 1) hx hb dX2_travels_9 (by decide) ?_
  refine lv_icmp_eq (tgt := 15) hx hb dX2_travels_10 (by decide) (fun c_1 => ?_) (fun c_1 => ?_)
  · skip
    refine lv_iconst (v := 0) hx hb dX2_travels_15 (by decide) ?_
    refine lv_istore_n (lv' := [(2, .int 0), (0, .ref (a 0)), (1, .int (nI cu))]) hx hb dX2_travels_16 rfl hl (by decide) rfl (fun ls hl => ?_)
    have hg : σ 11 cu = 1 := by assumption
    have loop17 : ∀ (n : Nat) (j : Nat) (τ : St), 3 - j < n → (j ≤ pn ∧ τ = itS σ cu j ∧ okC τ cu ∧ τ 13 cu = nI pn) → ∀ (H : Heap) (locs : List Loc), va_P D vwCl (wRiv a cI τ) H → va_D A (wRiv a cI τ) → va_S A s.heap H locs → ∀ (ls : Array Slot), lv_has ls 3 [(0, .ref (a 0)), (1, .int (nI cu)), (2, .int (nI j))] → W p l e ({ frames := 4, cells := 0, slots := 0, locals := 96 } : Room) s m args below meth c H locs 0 0 Q (F0 m 17 ls []) := by
      intro n
      induction n with
      | zero => intro j  τ  hf; exact absurd hf (Nat.not_lt_zero _)
      | succ n ih17 =>
        intro j  τ  hf ⟨hj, hτ, hokτ, hp13⟩ H locs hP hD hS ls hl
        refine lv_iload_n hx hb dX2_travels_17 rfl (lv_at hl 2 rfl) ?_
        refine lv_aload_n hx hb dX2_travels_18 rfl (lv_at hl 0 rfl) ?_
        refine va_get (D := D) (ci := 2) (v := .ref (a 6)) (C := RX2) (T := TX2) (N := 6) hx hb hts hiX2 hown hK.1 hP 0 rfl rfl 5 (by decide) (hts (.fieldLink RX2 32 "IceLanes$River" "couriers" "LIceLanes$Couriers;") (by decide +kernel)) (fun _ h9 => h9) rfl dX2_travels_19 ?_
        refine va_getN (D := D) (ci := 0) (v := .ref (a 15)) (C := RX0) (T := TX0) (N := 10) hx hb hts hiX0 hown hK.1 hP 6 rfl rfl 9 (by decide) (va_Nw.use rfl (nX2_95 hN)) (fun _ h9 => h9) rfl dX2_travels_22 ?_
        refine lv_iload_n hx hb dX2_travels_25 rfl (lv_at hl 1 rfl) ?_
        refine va_iald hx hb hK.1 hP 15 0 rfl rfl (by first | assumption | exact vp_in_nI (by omega) (by decide)) dX2_travels_26 ?_
        rw [nI_clamp (n := cu) (by omega)]
        refine lv_icmp_ge (tgt := 54) hx hb dX2_travels_27 (by decide) (fun c_2 => ?_) (fun c_2 => ?_)
        · skip
          rw [hp13] at c_2
          have hk2 : pn ≤ j := lp_ge (N := pn) (k := j) c_2 (by omega) (by omega)
          have het : τ = trvF σ cu := by rw [hen, hτ, show j = pn by omega]
          refine lv_aload_n hx hb dX2_travels_54 rfl (lv_at hl 0 rfl) ?_
          refine va_get (D := D) (ci := 2) (v := .ref (a 6)) (C := RX2) (T := TX2) (N := 6) hx hb hts hiX2 hown hK.1 hP 0 rfl rfl 5 (by decide) (hts (.fieldLink RX2 32 "IceLanes$River" "couriers" "LIceLanes$Couriers;") (by decide +kernel)) (fun _ h9 => h9) rfl dX2_travels_55 ?_
          refine va_getN (D := D) (ci := 0) (v := .ref (a 13)) (C := RX0) (T := TX0) (N := 10) hx hb hts hiX0 hown hK.1 hP 6 rfl rfl 7 (by decide) (va_Nw.use rfl (nX2_92 hN)) (fun _ h9 => h9) rfl dX2_travels_58 ?_
          refine lv_iload_n hx hb dX2_travels_61 rfl (lv_at hl 1 rfl) ?_
          refine va_iald hx hb hK.1 hP 13 0 rfl rfl (by first | assumption | exact vp_in_nI (by omega) (by decide)) dX2_travels_62 ?_
          rw [nI_clamp (n := cu) (by omega)]
          refine lv_iconst (v := 2) hx hb dX2_travels_63 (by decide) ?_
          refine lv_icmp_ne (tgt := 71) hx hb dX2_travels_64 (by decide) (fun c_3 => ?_) (fun c_3 => ?_)
          · skip
            refine lv_iconst (v := 0) hx hb dX2_travels_71 (by decide) ?_
            subst hQ
            have hst_s : τ = trvF σ cu := het
            rw [hst_s] at hP hD
            exact ret_wri hx hb hr rfl hlocks hP hD hS (show 0 = bI (σ 11 cu = 1 ∧ trvF σ cu 11 cu = 2) from (by rw [← het]; first | exact bI_t ⟨hg, by assumption⟩ | exact bI_f (fun z => absurd z.2 (by assumption)))) dX2_travels_72
          · skip
            refine lv_iconst (v := 1) hx hb dX2_travels_67 (by decide) ?_
            refine lv_goto (tgt := 72) hx hb dX2_travels_68 (by decide) ?_
            subst hQ
            have hst_s : τ = trvF σ cu := het
            rw [hst_s] at hP hD
            exact ret_wri hx hb hr rfl hlocks hP hD hS (show 1 = bI (σ 11 cu = 1 ∧ trvF σ cu 11 cu = 2) from (by rw [← het]; first | exact bI_t ⟨hg, by assumption⟩ | exact bI_f (fun z => absurd z.2 (by assumption)))) dX2_travels_72
        · skip
          rw [hp13] at c_2
          have hk2 : j < pn := lp_nge (N := pn) (k := j) c_2 (by omega) (by omega)
          refine lv_aload_n hx hb dX2_travels_30 rfl (lv_at hl 0 rfl) ?_
          refine va_get (D := D) (ci := 2) (v := .ref (a 6)) (C := RX2) (T := TX2) (N := 6) hx hb hts hiX2 hown hK.1 hP 0 rfl rfl 5 (by decide) (hts (.fieldLink RX2 32 "IceLanes$River" "couriers" "LIceLanes$Couriers;") (by decide +kernel)) (fun _ h9 => h9) rfl dX2_travels_31 ?_
          refine va_getN (D := D) (ci := 0) (v := .ref (a 13)) (C := RX0) (T := TX0) (N := 10) hx hb hts hiX0 hown hK.1 hP 6 rfl rfl 7 (by decide) (va_Nw.use rfl (nX2_92 hN)) (fun _ h9 => h9) rfl dX2_travels_34 ?_
          refine lv_iload_n hx hb dX2_travels_37 rfl (lv_at hl 1 rfl) ?_
          refine va_iald hx hb hK.1 hP 13 0 rfl rfl (by first | assumption | exact vp_in_nI (by omega) (by decide)) dX2_travels_38 ?_
          rw [nI_clamp (n := cu) (by omega)]
          refine lv_iconst (v := 1) hx hb dX2_travels_39 (by decide) ?_
          refine lv_icmp_ne (tgt := 54) hx hb dX2_travels_40 (by decide) (fun c_4 => ?_) (fun c_4 => ?_)
          · skip
            have het : τ = trvF σ cu := by rw [hen, hτ]; exact (itS_stop (by rw [← hτ]; assumption) pn (by omega)).symm
            refine lv_aload_n hx hb dX2_travels_54 rfl (lv_at hl 0 rfl) ?_
            refine va_get (D := D) (ci := 2) (v := .ref (a 6)) (C := RX2) (T := TX2) (N := 6) hx hb hts hiX2 hown hK.1 hP 0 rfl rfl 5 (by decide) (hts (.fieldLink RX2 32 "IceLanes$River" "couriers" "LIceLanes$Couriers;") (by decide +kernel)) (fun _ h9 => h9) rfl dX2_travels_55 ?_
            refine va_getN (D := D) (ci := 0) (v := .ref (a 13)) (C := RX0) (T := TX0) (N := 10) hx hb hts hiX0 hown hK.1 hP 6 rfl rfl 7 (by decide) (va_Nw.use rfl (nX2_92 hN)) (fun _ h9 => h9) rfl dX2_travels_58 ?_
            refine lv_iload_n hx hb dX2_travels_61 rfl (lv_at hl 1 rfl) ?_
            refine va_iald hx hb hK.1 hP 13 0 rfl rfl (by first | assumption | exact vp_in_nI (by omega) (by decide)) dX2_travels_62 ?_
            rw [nI_clamp (n := cu) (by omega)]
            refine lv_iconst (v := 2) hx hb dX2_travels_63 (by decide) ?_
            refine lv_icmp_ne (tgt := 71) hx hb dX2_travels_64 (by decide) (fun c_5 => ?_) (fun c_5 => ?_)
            · skip
              refine lv_iconst (v := 0) hx hb dX2_travels_71 (by decide) ?_
              subst hQ
              have hst_s : τ = trvF σ cu := het
              rw [hst_s] at hP hD
              exact ret_wri hx hb hr rfl hlocks hP hD hS (show 0 = bI (σ 11 cu = 1 ∧ trvF σ cu 11 cu = 2) from (by rw [← het]; first | exact bI_t ⟨hg, by assumption⟩ | exact bI_f (fun z => absurd z.2 (by assumption)))) dX2_travels_72
            · skip
              refine lv_iconst (v := 1) hx hb dX2_travels_67 (by decide) ?_
              refine lv_goto (tgt := 72) hx hb dX2_travels_68 (by decide) ?_
              subst hQ
              have hst_s : τ = trvF σ cu := het
              rw [hst_s] at hP hD
              exact ret_wri hx hb hr rfl hlocks hP hD hS (show 1 = bI (σ 11 cu = 1 ∧ trvF σ cu 11 cu = 2) from (by rw [← het]; first | exact bI_t ⟨hg, by assumption⟩ | exact bI_f (fun z => absurd z.2 (by assumption)))) dX2_travels_72
          · skip
            refine lv_aload_n hx hb dX2_travels_43 rfl (lv_at hl 0 rfl) ?_
            refine lv_iload_n hx hb dX2_travels_44 rfl (lv_at hl 1 rfl) ?_
            refine wr_v (wn := wRiv a cI (stepF τ cu)) (va_runV (As := [.int (nI cu)]) (rest := []) ⟨hx, hb, hml, hown, hts⟩ (M_X2_step l D cI a τ cu _ (by first | assumption | omega) (by first | assumption | omega)) (cwV 1 hts gX2_travels_X2_step rfl rfl rfl (by decide +kernel) ⟨Nat.le_of_ble_eq_true rfl, Nat.le_of_ble_eq_true rfl⟩) (wrV hK hP hD [0, 1, 2, 3, 4, 5, 6, 7, 8, 9, 10, 11, 12, 13, 14, 15] [0] rfl rfl rfl (ci := 2) (q0 := 0) rfl rfl) rfl rfl hl.1 rfl (lv_room (Nat.le_of_ble_eq_true rfl)) dX2_travels_45 ⟨Nat.le_of_ble_eq_true rfl, Nat.le_of_ble_eq_true rfl⟩) hP hD hS hA [0, 1, 2, 3, 4, 5, 6, 7, 8, 9, 10, 11, 12, 13, 14, 15] [] [0, 1, 2, 3, 4, 5, 6, 7, 8, 9, 10, 11, 12, 13, 14, 15] rfl rfl rfl rfl rfl rfl (fun H locs hP hD hS => ?_)
            generalize eσ_6 : stepF τ cu = σ_6 at hP hD
            refine lv_iinc (v := nI (j + 1)) (lv' := [(2, .int (nI (j + 1))), (0, .ref (a 0)), (1, .int (nI cu))]) hx hb dX2_travels_48 hl (k := 2) rfl (nI_1 j) (by decide) rfl (fun ls hl => ?_)
            refine lv_goto (tgt := 17) hx hb dX2_travels_51 (by decide) ?_
            exact ih17 (j + 1) σ_6 (by omega) ⟨by omega, (by rw [← eσ_6, hτ]; exact itS_succ (by rw [← hτ]; assumption)), (by rw [← eσ_6]; exact okC_step hokτ (by assumption)), (by rw [← eσ_6, stepF_k _ _ (by omega)]; exact hp13)⟩ _ _ hP hD hS ls (lv_sub hl [1, 2, 0] rfl)
    exact loop17 4 0 σ (by omega) ⟨by omega, rfl, hok, hpn⟩ _ _ hP hD hS ls (lv_sub hl [1, 2, 0] rfl)
  · skip
    refine lv_iconst (v := 0) hx hb dX2_travels_13 (by decide) ?_
    subst hQ
    have hst_s : σ = trvF σ cu := (by rw [hen]; exact (itS_stop (j := 0) (by assumption) pn (Nat.zero_le _)).symm)
    rw [hst_s] at hP hD
    exact ret_wri hx hb hr rfl hlocks hP hD hS (show 0 = bI (σ 11 cu = 1 ∧ trvF σ cu 11 cu = 2) from (bI_f (fun z => absurd z.1 (by assumption)))) dX2_travels_14
set_option maxHeartbeats 4000000 in
set_option maxRecDepth 100000 in
theorem M_X2_rest (l : Launch) (D : va_G) (cI : ClassId) (a : Nat → Nat) (σ : St) (cu : Nat) (sz : Nat) (hcu : cu < 8) (h1 : inS (σ 8 cu)) : Met l yX2_rest wsX2_rest ({ frames := 1, cells := 0, slots := 0, locals := 21 } : Room) (wrPc [.ref (a 0), .int (nI cu)] D (wRiv a cI σ) [(cI, .int)] sz) (wrQv D (wRiv a cI (restF σ cu)) (va_A (wRiv a cI σ) sz)) 0 0 (va_A (wRiv a cI σ) sz) := by
  refine Met.ofW (cc := cX2_rest) (maxL := 4) (ret := none) (by decide) rfl ?_
  intro p e s m args below meth c s₁ B hml hv
  obtain ⟨hargs, hsz, hP, hK, hD0⟩ := hv
  have hx := B.exec
  have hb := B.bytes
  have hr := B.returns
  have hts := atoms_spec (ws := wsX2_rest) B.pre
  have hown : s.vm.findClass RX2 = some m.cls := findClass_of_methodNamed B.named
  have hlocks := B.notSynchronized
  obtain ⟨_, hN⟩ := id hK
  have hiX0 : ∀ w ∈ wsX00, w ∈ wsX2_rest := by decide +kernel
  have hiX2 : ∀ w ∈ wsX20, w ∈ wsX2_rest := by decide +kernel
  subst hsz
  have hD := hD0.self (sz := s.heap.size)
  generalize hAe : va_A (wRiv a cI σ) s.heap.size = A at hD ⊢
  have hA : ∀ q : Nat, s.heap.size ≤ q → A q := fun q h => by rw [← hAe]; exact Or.inr h
  have hS : va_S A s.heap s.heap [] := va_S.rf
  have hP : va_P D vwCl (wRiv a cI σ) s.heap := hP
  refine my_abs (fun Q hQ => ?_)
  obtain ⟨ls, hl, hent⟩ := my_entry (m := m) (n := 4) hargs (Nat.le_of_ble_eq_true rfl)
  rw [hent]
  have hl : lv_has ls 4 [(0, .ref (a 0)), (1, .int (nI cu))] := hl
  show W p l e ({ frames := 1, cells := 0, slots := 0, locals := 21 } : Room) s m args below meth c s.heap [] 0 0 Q (F0 m 0 ls [])
  refine lv_aload_n hx hb dX2_rest_0 rfl (lv_at hl 0 rfl) ?_
  refine va_get (D := D) (ci := 2) (v := .ref (a 6)) (C := RX2) (T := TX2) (N := 6) hx hb hts hiX2 hown hK.1 hP 0 rfl rfl 5 (by decide) (hts (.fieldLink RX2 32 "IceLanes$River" "couriers" "LIceLanes$Couriers;") (by decide +kernel)) (fun _ h9 => h9) rfl dX2_rest_1 ?_
  refine va_getN (D := D) (ci := 0) (v := .ref (a 13)) (C := RX0) (T := TX0) (N := 10) hx hb hts hiX0 hown hK.1 hP 6 rfl rfl 7 (by decide) (va_Nw.use rfl (nX2_92 hN)) (fun _ h9 => h9) rfl dX2_rest_4 ?_
  refine lv_iload_n hx hb dX2_rest_7 rfl (lv_at hl 1 rfl) ?_
  refine va_iald hx hb hK.1 hP 13 0 rfl rfl (by first | assumption | exact vp_in_nI (by omega) (by decide)) dX2_rest_8 ?_
  rw [nI_clamp (n := cu) (by omega)]
  refine lv_if_eq (tgt := 13) hx hb dX2_rest_9 (by decide) (fun c_1 => ?_) (fun c_1 => ?_)
  · skip
    refine lv_aload_n hx hb dX2_rest_13 rfl (lv_at hl 0 rfl) ?_
    refine va_get (D := D) (ci := 2) (v := .ref (a 2)) (C := RX2) (T := TX2) (N := 6) hx hb hts hiX2 hown hK.1 hP 0 rfl rfl 3 (by decide) (hts (.fieldLink RX2 19 "IceLanes$River" "hut" "[I") (by decide +kernel)) (fun _ h9 => h9) rfl dX2_rest_14 ?_
    refine lv_aload_n hx hb dX2_rest_17 rfl (lv_at hl 0 rfl) ?_
    refine va_get (D := D) (ci := 2) (v := .ref (a 6)) (C := RX2) (T := TX2) (N := 6) hx hb hts hiX2 hown hK.1 hP 0 rfl rfl 5 (by decide) (hts (.fieldLink RX2 32 "IceLanes$River" "couriers" "LIceLanes$Couriers;") (by decide +kernel)) (fun _ h9 => h9) rfl dX2_rest_18 ?_
    refine va_getN (D := D) (ci := 0) (v := .ref (a 10)) (C := RX0) (T := TX0) (N := 10) hx hb hts hiX0 hown hK.1 hP 6 rfl rfl 4 (by decide) (va_Nw.use rfl (nX2_55 hN)) (fun _ h9 => h9) rfl dX2_rest_21 ?_
    refine lv_iload_n hx hb dX2_rest_24 rfl (lv_at hl 1 rfl) ?_
    refine va_iald hx hb hK.1 hP 10 0 rfl rfl (by first | assumption | exact vp_in_nI (by omega) (by decide)) dX2_rest_25 ?_
    rw [nI_clamp (n := cu) (by omega)]
    refine va_iald hx hb hK.1 hP 2 0 rfl rfl (inS_in h1) dX2_rest_26 ?_
    refine lv_iconst (v := 1) hx hb dX2_rest_27 (by decide) ?_
    refine lv_icmp_ne (tgt := 35) hx hb dX2_rest_28 (by decide) (fun c_2 => ?_) (fun c_2 => ?_)
    · skip
      refine lv_iconst (v := 0) hx hb dX2_rest_35 (by decide) ?_
      refine lv_istore_n (lv' := [(2, .int 0), (0, .ref (a 0)), (1, .int (nI cu))]) hx hb dX2_rest_36 rfl hl (by decide) rfl (fun ls hl => ?_)
      refine lv_iconst (v := 1) hx hb dX2_rest_37 (by decide) ?_
      refine lv_iload_n hx hb dX2_rest_38 rfl (lv_at hl 0 rfl) ?_
      refine lv_if_eq (tgt := 46) hx hb dX2_rest_39 (by decide) (fun c_3 => ?_) (fun c_3 => ?_)
      · skip
        refine lv_iconst (v := 0) hx hb dX2_rest_46 (by decide) ?_
        refine lv_iadd hx hb dX2_rest_47 ?_
        rw [show ((1 + 0 : Int32)) = 1 from by decide]
        have hsum : 1 = 1 + hutF σ cu := by unfold hutF; (first | rw [if_pos (by assumption)] | rw [if_neg (by assumption)]); first | done | decide
        rw [hsum]
        refine lv_topi (fun mo e_mo => ?_)
        refine lv_istore_n (lv' := [(3, .int mo), (2, .int 0), (0, .ref (a 0)), (1, .int (nI cu))]) hx hb dX2_rest_48 rfl hl (by decide) rfl (fun ls hl => ?_)
        refine lv_aload_n hx hb dX2_rest_49 rfl (lv_at hl 2 rfl) ?_
        refine va_get (D := D) (ci := 2) (v := .ref (a 6)) (C := RX2) (T := TX2) (N := 6) hx hb hts hiX2 hown hK.1 hP 0 rfl rfl 5 (by decide) (hts (.fieldLink RX2 32 "IceLanes$River" "couriers" "LIceLanes$Couriers;") (by decide +kernel)) (fun _ h9 => h9) rfl dX2_rest_50 ?_
        refine va_getN (D := D) (ci := 0) (v := .ref (a 9)) (C := RX0) (T := TX0) (N := 10) hx hb hts hiX0 hown hK.1 hP 6 rfl rfl 3 (by decide) (va_Nw.use rfl (nX2_112 hN)) (fun _ h9 => h9) rfl dX2_rest_53 ?_
        refine lv_iload_n hx hb dX2_rest_56 rfl (lv_at hl 3 rfl) ?_
        refine lv_bipush (v := 20) hx hb dX2_rest_57 (by decide) ?_
        refine lv_aload_n hx hb dX2_rest_59 rfl (lv_at hl 2 rfl) ?_
        refine va_get (D := D) (ci := 2) (v := .ref (a 6)) (C := RX2) (T := TX2) (N := 6) hx hb hts hiX2 hown hK.1 hP 0 rfl rfl 5 (by decide) (hts (.fieldLink RX2 32 "IceLanes$River" "couriers" "LIceLanes$Couriers;") (by decide +kernel)) (fun _ h9 => h9) rfl dX2_rest_60 ?_
        refine va_getN (D := D) (ci := 0) (v := .ref (a 9)) (C := RX0) (T := TX0) (N := 10) hx hb hts hiX0 hown hK.1 hP 6 rfl rfl 3 (by decide) (va_Nw.use rfl (nX2_112 hN)) (fun _ h9 => h9) rfl dX2_rest_63 ?_
        refine lv_iload_n hx hb dX2_rest_66 rfl (lv_at hl 3 rfl) ?_
        refine va_iald hx hb hK.1 hP 9 0 rfl rfl (by first | assumption | exact vp_in_nI (by omega) (by decide)) dX2_rest_67 ?_
        rw [nI_clamp (n := cu) (by omega)]
        refine lv_iload_n hx hb dX2_rest_68 rfl (lv_at hl 0 rfl) ?_
        refine lv_iadd hx hb dX2_rest_69 ?_
        refine va_mmin hx hb (by rw [hml]; exact hl.1.symm) hown (hts (.methodLink RX2 127 Lib.Math.min.name) (by decide +kernel)) (hts (.static Lib.Math.min.name) (by decide +kernel)) (hts (.initialized "java/lang/Math") (by decide +kernel)) (hts (.code Lib.Math.min.name Lib.Math.min.code 2 (some .int)) (by decide +kernel)) (Nat.le_of_ble_eq_true rfl) (Nat.le_of_ble_eq_true rfl) (Nat.zero_le _) (Nat.zero_le _) dX2_rest_70 ?_
        refine W.eq (g2 := F0 m 73 ls [.int (mn 20 ((σ 7 cu) + mo)), .int (nI cu), .ref (a 9)]) rfl ?_
        refine va_iast hx hb hK.1 hP hD hS 9 0 rfl rfl (by first | assumption | exact vp_in_nI (by omega) (by decide)) dX2_rest_73 (fun H locs hP hD hS => ?_)
        rw [nI_clamp (n := cu) (by omega)] at hP hD
        have hP : va_P D vwCl (wRivE a cI (σ 0 0) (σ 16 0) (σ 1) (σ 2) (σ 3) (σ 4) (σ 17 0) (σ 5) (σ 6) (upd (σ 7) cu (mn 20 ((σ 7 cu) + mo))) (σ 8) (σ 9) (σ 10) (σ 11) (σ 12) (σ 13)) H := hP
        have hD : va_D A (wRivE a cI (σ 0 0) (σ 16 0) (σ 1) (σ 2) (σ 3) (σ 4) (σ 17 0) (σ 5) (σ 6) (upd (σ 7) cu (mn 20 ((σ 7 cu) + mo))) (σ 8) (σ 9) (σ 10) (σ 11) (σ 12) (σ 13)) := hD
        refine lv_aload_n hx hb dX2_rest_74 rfl (lv_at hl 2 rfl) ?_
        refine va_get (D := D) (ci := 2) (v := .ref (a 6)) (C := RX2) (T := TX2) (N := 6) hx hb hts hiX2 hown hK.1 hP 0 rfl rfl 5 (by decide) (hts (.fieldLink RX2 32 "IceLanes$River" "couriers" "LIceLanes$Couriers;") (by decide +kernel)) (fun _ h9 => h9) rfl dX2_rest_75 ?_
        refine lv_iload_n hx hb dX2_rest_78 rfl (lv_at hl 3 rfl) ?_
        refine rd_i (va_runVN (As := [.int (nI cu)]) (rest := []) ⟨hx, hb, hml, hown, hts⟩ (M_X0_isAtGoal l D cI a (put σ 7 (upd (σ 7) cu (mn 20 ((σ 7 cu) + mo)))) cu (by first | assumption | omega)) ⟨va_cnB 1 hts gX2_rest_X0_isAtGoal_n124 rfl rfl rfl (nX2_124 hN) (hts (.initialized RX0) (by decide +kernel)) (by decide +kernel) ⟨Nat.le_of_ble_eq_true rfl, Nat.le_of_ble_eq_true rfl⟩, hts (.instanceMethod yX0_isAtGoal) (by decide +kernel), hts (.selects RX0 yX0_isAtGoal yX0_isAtGoal) (by decide +kernel)⟩ (rdV hK hP [6, 7, 8, 9, 10, 11, 12, 13, 14, 15] [0] rfl rfl (ci := 0) (q0 := 6) rfl rfl) rfl rfl hl.1 rfl (lv_room (Nat.le_of_ble_eq_true rfl)) dX2_rest_79 ⟨Nat.zero_le _, Nat.zero_le _⟩) ?_
        refine W.eq (g2 := F0 m 82 ls [.int (bI ((σ 8) cu = (σ 10) cu))]) rfl ?_
        refine lv_if_ne (tgt := 109) hx hb dX2_rest_82 (by decide) (fun c_4 => ?_) (fun c_4 => ?_)
        · skip
          have c_4 : ((σ 8) cu = (σ 10) cu) := bI_nz.mp c_4
          subst hQ
          have hP : va_P D vwCl (wRiv a cI (put σ 7 (upd (σ 7) cu (mn 20 ((σ 7 cu) + mo))))) H := hP
          have hD : va_D A (wRiv a cI (put σ 7 (upd (σ 7) cu (mn 20 ((σ 7 cu) + mo))))) := hD
          have hst_s : put σ 7 (upd (σ 7) cu (mn 20 ((σ 7 cu) + mo))) = restF σ cu := (by unfold restF rsN; rw [← e_mo]; first | (rw [if_neg (fun z => z (by assumption)), if_pos ⟨by assumption, by have z : ¬ upd (σ 7) cu (mn 20 (σ 7 cu + mo)) cu < 10 := (by assumption); rw [upd_s] at z; rw [i_lt] at z; rw [i_le]; omega⟩]) | (rw [if_neg (fun z => z (by assumption)), if_neg (fun y => absurd (by assumption) y.1)]) | (rw [if_neg (fun z => z (by assumption)), if_neg (fun y => by have z : upd (σ 7) cu (mn 20 (σ 7 cu + mo)) cu < 10 := (by assumption); rw [upd_s, i_lt] at z; have y2 := y.2; rw [i_le] at y2; omega)]))
          rw [hst_s] at hP hD
          exact ret_wrv hx hb hr hlocks hP hD hS dX2_rest_109
        · skip
          have c_4 : ¬ ((σ 8) cu = (σ 10) cu) := bI_z.mp c_4
          refine lv_aload_n hx hb dX2_rest_85 rfl (lv_at hl 2 rfl) ?_
          refine va_get (D := D) (ci := 2) (v := .ref (a 6)) (C := RX2) (T := TX2) (N := 6) hx hb hts hiX2 hown hK.1 hP 0 rfl rfl 5 (by decide) (hts (.fieldLink RX2 32 "IceLanes$River" "couriers" "LIceLanes$Couriers;") (by decide +kernel)) (fun _ h9 => h9) rfl dX2_rest_86 ?_
          refine va_getN (D := D) (ci := 0) (v := .ref (a 9)) (C := RX0) (T := TX0) (N := 10) hx hb hts hiX0 hown hK.1 hP 6 rfl rfl 3 (by decide) (va_Nw.use rfl (nX2_112 hN)) (fun _ h9 => h9) rfl dX2_rest_89 ?_
          refine lv_iload_n hx hb dX2_rest_92 rfl (lv_at hl 3 rfl) ?_
          refine va_iald hx hb hK.1 hP 9 0 rfl rfl (by first | assumption | exact vp_in_nI (by omega) (by decide)) dX2_rest_93 ?_
          rw [nI_clamp (n := cu) (by omega)]
          refine W.eq (g2 := F0 m 94 ls [.int ((upd (σ 7) cu (mn 20 ((σ 7 cu) + mo))) cu)]) rfl ?_
          refine lv_bipush (v := 10) hx hb dX2_rest_94 (by decide) ?_
          refine lv_icmp_lt (tgt := 109) hx hb dX2_rest_96 (by decide) (fun c_5 => ?_) (fun c_5 => ?_)
          · skip
            subst hQ
            have hP : va_P D vwCl (wRiv a cI (put σ 7 (upd (σ 7) cu (mn 20 ((σ 7 cu) + mo))))) H := hP
            have hD : va_D A (wRiv a cI (put σ 7 (upd (σ 7) cu (mn 20 ((σ 7 cu) + mo))))) := hD
            have hst_s : put σ 7 (upd (σ 7) cu (mn 20 ((σ 7 cu) + mo))) = restF σ cu := (by unfold restF rsN; rw [← e_mo]; first | (rw [if_neg (fun z => z (by assumption)), if_pos ⟨by assumption, by have z : ¬ upd (σ 7) cu (mn 20 (σ 7 cu + mo)) cu < 10 := (by assumption); rw [upd_s] at z; rw [i_lt] at z; rw [i_le]; omega⟩]) | (rw [if_neg (fun z => z (by assumption)), if_neg (fun y => absurd (by assumption) y.1)]) | (rw [if_neg (fun z => z (by assumption)), if_neg (fun y => by have z : upd (σ 7) cu (mn 20 (σ 7 cu + mo)) cu < 10 := (by assumption); rw [upd_s, i_lt] at z; have y2 := y.2; rw [i_le] at y2; omega)]))
            rw [hst_s] at hP hD
            exact ret_wrv hx hb hr hlocks hP hD hS dX2_rest_109
          · skip
            refine lv_aload_n hx hb dX2_rest_99 rfl (lv_at hl 2 rfl) ?_
            refine va_get (D := D) (ci := 2) (v := .ref (a 6)) (C := RX2) (T := TX2) (N := 6) hx hb hts hiX2 hown hK.1 hP 0 rfl rfl 5 (by decide) (hts (.fieldLink RX2 32 "IceLanes$River" "couriers" "LIceLanes$Couriers;") (by decide +kernel)) (fun _ h9 => h9) rfl dX2_rest_100 ?_
            refine va_getN (D := D) (ci := 0) (v := .ref (a 13)) (C := RX0) (T := TX0) (N := 10) hx hb hts hiX0 hown hK.1 hP 6 rfl rfl 7 (by decide) (va_Nw.use rfl (nX2_92 hN)) (fun _ h9 => h9) rfl dX2_rest_103 ?_
            refine lv_iload_n hx hb dX2_rest_106 rfl (lv_at hl 3 rfl) ?_
            refine lv_iconst (v := 1) hx hb dX2_rest_107 (by decide) ?_
            refine va_iast hx hb hK.1 hP hD hS 13 0 rfl rfl (by first | assumption | exact vp_in_nI (by omega) (by decide)) dX2_rest_108 (fun H locs hP hD hS => ?_)
            rw [nI_clamp (n := cu) (by omega)] at hP hD
            have hP : va_P D vwCl (wRivE a cI (σ 0 0) (σ 16 0) (σ 1) (σ 2) (σ 3) (σ 4) (σ 17 0) (σ 5) (σ 6) (upd (σ 7) cu (mn 20 ((σ 7 cu) + mo))) (σ 8) (σ 9) (σ 10) (upd (σ 11) cu 1) (σ 12) (σ 13)) H := hP
            have hD : va_D A (wRivE a cI (σ 0 0) (σ 16 0) (σ 1) (σ 2) (σ 3) (σ 4) (σ 17 0) (σ 5) (σ 6) (upd (σ 7) cu (mn 20 ((σ 7 cu) + mo))) (σ 8) (σ 9) (σ 10) (upd (σ 11) cu 1) (σ 12) (σ 13)) := hD
            subst hQ
            have hP : va_P D vwCl (wRiv a cI (put (put σ 7 (upd (σ 7) cu (mn 20 ((σ 7 cu) + mo)))) 11 (upd (σ 11) cu 1))) H := hP
            have hD : va_D A (wRiv a cI (put (put σ 7 (upd (σ 7) cu (mn 20 ((σ 7 cu) + mo)))) 11 (upd (σ 11) cu 1))) := hD
            have hst_s : put (put σ 7 (upd (σ 7) cu (mn 20 ((σ 7 cu) + mo)))) 11 (upd (σ 11) cu 1) = restF σ cu := (by unfold restF rsN; rw [← e_mo]; first | (rw [if_neg (fun z => z (by assumption)), if_pos ⟨by assumption, by have z : ¬ upd (σ 7) cu (mn 20 (σ 7 cu + mo)) cu < 10 := (by assumption); rw [upd_s] at z; rw [i_lt] at z; rw [i_le]; omega⟩]) | (rw [if_neg (fun z => z (by assumption)), if_neg (fun y => absurd (by assumption) y.1)]) | (rw [if_neg (fun z => z (by assumption)), if_neg (fun y => by have z : upd (σ 7) cu (mn 20 (σ 7 cu + mo)) cu < 10 := (by assumption); rw [upd_s, i_lt] at z; have y2 := y.2; rw [i_le] at y2; omega)]))
            rw [hst_s] at hP hD
            exact ret_wrv hx hb hr hlocks hP hD hS dX2_rest_109
      · skip
        exact absurd c_3 (by decide)
    · skip
      refine lv_iconst (v := 1) hx hb dX2_rest_31 (by decide) ?_
      refine lv_goto (tgt := 36) hx hb dX2_rest_32 (by decide) ?_
      refine lv_istore_n (lv' := [(2, .int 1), (0, .ref (a 0)), (1, .int (nI cu))]) hx hb dX2_rest_36 rfl hl (by decide) rfl (fun ls hl => ?_)
      refine lv_iconst (v := 1) hx hb dX2_rest_37 (by decide) ?_
      refine lv_iload_n hx hb dX2_rest_38 rfl (lv_at hl 0 rfl) ?_
      refine lv_if_eq (tgt := 46) hx hb dX2_rest_39 (by decide) (fun c_6 => ?_) (fun c_6 => ?_)
      · skip
        exact absurd c_6 (by decide)
      · skip
        refine lv_iconst (v := 4) hx hb dX2_rest_42 (by decide) ?_
        refine lv_goto (tgt := 47) hx hb dX2_rest_43 (by decide) ?_
        refine lv_iadd hx hb dX2_rest_47 ?_
        rw [show ((1 + 4 : Int32)) = 5 from by decide]
        have hsum : 5 = 1 + hutF σ cu := by unfold hutF; (first | rw [if_pos (by assumption)] | rw [if_neg (by assumption)]); first | done | decide
        rw [hsum]
        refine lv_topi (fun mo e_mo => ?_)
        refine lv_istore_n (lv' := [(3, .int mo), (2, .int 1), (0, .ref (a 0)), (1, .int (nI cu))]) hx hb dX2_rest_48 rfl hl (by decide) rfl (fun ls hl => ?_)
        refine lv_aload_n hx hb dX2_rest_49 rfl (lv_at hl 2 rfl) ?_
        refine va_get (D := D) (ci := 2) (v := .ref (a 6)) (C := RX2) (T := TX2) (N := 6) hx hb hts hiX2 hown hK.1 hP 0 rfl rfl 5 (by decide) (hts (.fieldLink RX2 32 "IceLanes$River" "couriers" "LIceLanes$Couriers;") (by decide +kernel)) (fun _ h9 => h9) rfl dX2_rest_50 ?_
        refine va_getN (D := D) (ci := 0) (v := .ref (a 9)) (C := RX0) (T := TX0) (N := 10) hx hb hts hiX0 hown hK.1 hP 6 rfl rfl 3 (by decide) (va_Nw.use rfl (nX2_112 hN)) (fun _ h9 => h9) rfl dX2_rest_53 ?_
        refine lv_iload_n hx hb dX2_rest_56 rfl (lv_at hl 3 rfl) ?_
        refine lv_bipush (v := 20) hx hb dX2_rest_57 (by decide) ?_
        refine lv_aload_n hx hb dX2_rest_59 rfl (lv_at hl 2 rfl) ?_
        refine va_get (D := D) (ci := 2) (v := .ref (a 6)) (C := RX2) (T := TX2) (N := 6) hx hb hts hiX2 hown hK.1 hP 0 rfl rfl 5 (by decide) (hts (.fieldLink RX2 32 "IceLanes$River" "couriers" "LIceLanes$Couriers;") (by decide +kernel)) (fun _ h9 => h9) rfl dX2_rest_60 ?_
        refine va_getN (D := D) (ci := 0) (v := .ref (a 9)) (C := RX0) (T := TX0) (N := 10) hx hb hts hiX0 hown hK.1 hP 6 rfl rfl 3 (by decide) (va_Nw.use rfl (nX2_112 hN)) (fun _ h9 => h9) rfl dX2_rest_63 ?_
        refine lv_iload_n hx hb dX2_rest_66 rfl (lv_at hl 3 rfl) ?_
        refine va_iald hx hb hK.1 hP 9 0 rfl rfl (by first | assumption | exact vp_in_nI (by omega) (by decide)) dX2_rest_67 ?_
        rw [nI_clamp (n := cu) (by omega)]
        refine lv_iload_n hx hb dX2_rest_68 rfl (lv_at hl 0 rfl) ?_
        refine lv_iadd hx hb dX2_rest_69 ?_
        refine va_mmin hx hb (by rw [hml]; exact hl.1.symm) hown (hts (.methodLink RX2 127 Lib.Math.min.name) (by decide +kernel)) (hts (.static Lib.Math.min.name) (by decide +kernel)) (hts (.initialized "java/lang/Math") (by decide +kernel)) (hts (.code Lib.Math.min.name Lib.Math.min.code 2 (some .int)) (by decide +kernel)) (Nat.le_of_ble_eq_true rfl) (Nat.le_of_ble_eq_true rfl) (Nat.zero_le _) (Nat.zero_le _) dX2_rest_70 ?_
        refine W.eq (g2 := F0 m 73 ls [.int (mn 20 ((σ 7 cu) + mo)), .int (nI cu), .ref (a 9)]) rfl ?_
        refine va_iast hx hb hK.1 hP hD hS 9 0 rfl rfl (by first | assumption | exact vp_in_nI (by omega) (by decide)) dX2_rest_73 (fun H locs hP hD hS => ?_)
        rw [nI_clamp (n := cu) (by omega)] at hP hD
        have hP : va_P D vwCl (wRivE a cI (σ 0 0) (σ 16 0) (σ 1) (σ 2) (σ 3) (σ 4) (σ 17 0) (σ 5) (σ 6) (upd (σ 7) cu (mn 20 ((σ 7 cu) + mo))) (σ 8) (σ 9) (σ 10) (σ 11) (σ 12) (σ 13)) H := hP
        have hD : va_D A (wRivE a cI (σ 0 0) (σ 16 0) (σ 1) (σ 2) (σ 3) (σ 4) (σ 17 0) (σ 5) (σ 6) (upd (σ 7) cu (mn 20 ((σ 7 cu) + mo))) (σ 8) (σ 9) (σ 10) (σ 11) (σ 12) (σ 13)) := hD
        refine lv_aload_n hx hb dX2_rest_74 rfl (lv_at hl 2 rfl) ?_
        refine va_get (D := D) (ci := 2) (v := .ref (a 6)) (C := RX2) (T := TX2) (N := 6) hx hb hts hiX2 hown hK.1 hP 0 rfl rfl 5 (by decide) (hts (.fieldLink RX2 32 "IceLanes$River" "couriers" "LIceLanes$Couriers;") (by decide +kernel)) (fun _ h9 => h9) rfl dX2_rest_75 ?_
        refine lv_iload_n hx hb dX2_rest_78 rfl (lv_at hl 3 rfl) ?_
        refine rd_i (va_runVN (As := [.int (nI cu)]) (rest := []) ⟨hx, hb, hml, hown, hts⟩ (M_X0_isAtGoal l D cI a (put σ 7 (upd (σ 7) cu (mn 20 ((σ 7 cu) + mo)))) cu (by first | assumption | omega)) ⟨va_cnB 1 hts gX2_rest_X0_isAtGoal_n124 rfl rfl rfl (nX2_124 hN) (hts (.initialized RX0) (by decide +kernel)) (by decide +kernel) ⟨Nat.le_of_ble_eq_true rfl, Nat.le_of_ble_eq_true rfl⟩, hts (.instanceMethod yX0_isAtGoal) (by decide +kernel), hts (.selects RX0 yX0_isAtGoal yX0_isAtGoal) (by decide +kernel)⟩ (rdV hK hP [6, 7, 8, 9, 10, 11, 12, 13, 14, 15] [0] rfl rfl (ci := 0) (q0 := 6) rfl rfl) rfl rfl hl.1 rfl (lv_room (Nat.le_of_ble_eq_true rfl)) dX2_rest_79 ⟨Nat.zero_le _, Nat.zero_le _⟩) ?_
        refine W.eq (g2 := F0 m 82 ls [.int (bI ((σ 8) cu = (σ 10) cu))]) rfl ?_
        refine lv_if_ne (tgt := 109) hx hb dX2_rest_82 (by decide) (fun c_7 => ?_) (fun c_7 => ?_)
        · skip
          have c_7 : ((σ 8) cu = (σ 10) cu) := bI_nz.mp c_7
          subst hQ
          have hP : va_P D vwCl (wRiv a cI (put σ 7 (upd (σ 7) cu (mn 20 ((σ 7 cu) + mo))))) H := hP
          have hD : va_D A (wRiv a cI (put σ 7 (upd (σ 7) cu (mn 20 ((σ 7 cu) + mo))))) := hD
          have hst_s : put σ 7 (upd (σ 7) cu (mn 20 ((σ 7 cu) + mo))) = restF σ cu := (by unfold restF rsN; rw [← e_mo]; first | (rw [if_neg (fun z => z (by assumption)), if_pos ⟨by assumption, by have z : ¬ upd (σ 7) cu (mn 20 (σ 7 cu + mo)) cu < 10 := (by assumption); rw [upd_s] at z; rw [i_lt] at z; rw [i_le]; omega⟩]) | (rw [if_neg (fun z => z (by assumption)), if_neg (fun y => absurd (by assumption) y.1)]) | (rw [if_neg (fun z => z (by assumption)), if_neg (fun y => by have z : upd (σ 7) cu (mn 20 (σ 7 cu + mo)) cu < 10 := (by assumption); rw [upd_s, i_lt] at z; have y2 := y.2; rw [i_le] at y2; omega)]))
          rw [hst_s] at hP hD
          exact ret_wrv hx hb hr hlocks hP hD hS dX2_rest_109
        · skip
          have c_7 : ¬ ((σ 8) cu = (σ 10) cu) := bI_z.mp c_7
          refine lv_aload_n hx hb dX2_rest_85 rfl (lv_at hl 2 rfl) ?_
          refine va_get (D := D) (ci := 2) (v := .ref (a 6)) (C := RX2) (T := TX2) (N := 6) hx hb hts hiX2 hown hK.1 hP 0 rfl rfl 5 (by decide) (hts (.fieldLink RX2 32 "IceLanes$River" "couriers" "LIceLanes$Couriers;") (by decide +kernel)) (fun _ h9 => h9) rfl dX2_rest_86 ?_
          refine va_getN (D := D) (ci := 0) (v := .ref (a 9)) (C := RX0) (T := TX0) (N := 10) hx hb hts hiX0 hown hK.1 hP 6 rfl rfl 3 (by decide) (va_Nw.use rfl (nX2_112 hN)) (fun _ h9 => h9) rfl dX2_rest_89 ?_
          refine lv_iload_n hx hb dX2_rest_92 rfl (lv_at hl 3 rfl) ?_
          refine va_iald hx hb hK.1 hP 9 0 rfl rfl (by first | assumption | exact vp_in_nI (by omega) (by decide)) dX2_rest_93 ?_
          rw [nI_clamp (n := cu) (by omega)]
          refine W.eq (g2 := F0 m 94 ls [.int ((upd (σ 7) cu (mn 20 ((σ 7 cu) + mo))) cu)]) rfl ?_
          refine lv_bipush (v := 10) hx hb dX2_rest_94 (by decide) ?_
          refine lv_icmp_lt (tgt := 109) hx hb dX2_rest_96 (by decide) (fun c_8 => ?_) (fun c_8 => ?_)
          · skip
            subst hQ
            have hP : va_P D vwCl (wRiv a cI (put σ 7 (upd (σ 7) cu (mn 20 ((σ 7 cu) + mo))))) H := hP
            have hD : va_D A (wRiv a cI (put σ 7 (upd (σ 7) cu (mn 20 ((σ 7 cu) + mo))))) := hD
            have hst_s : put σ 7 (upd (σ 7) cu (mn 20 ((σ 7 cu) + mo))) = restF σ cu := (by unfold restF rsN; rw [← e_mo]; first | (rw [if_neg (fun z => z (by assumption)), if_pos ⟨by assumption, by have z : ¬ upd (σ 7) cu (mn 20 (σ 7 cu + mo)) cu < 10 := (by assumption); rw [upd_s] at z; rw [i_lt] at z; rw [i_le]; omega⟩]) | (rw [if_neg (fun z => z (by assumption)), if_neg (fun y => absurd (by assumption) y.1)]) | (rw [if_neg (fun z => z (by assumption)), if_neg (fun y => by have z : upd (σ 7) cu (mn 20 (σ 7 cu + mo)) cu < 10 := (by assumption); rw [upd_s, i_lt] at z; have y2 := y.2; rw [i_le] at y2; omega)]))
            rw [hst_s] at hP hD
            exact ret_wrv hx hb hr hlocks hP hD hS dX2_rest_109
          · skip
            refine lv_aload_n hx hb dX2_rest_99 rfl (lv_at hl 2 rfl) ?_
            refine va_get (D := D) (ci := 2) (v := .ref (a 6)) (C := RX2) (T := TX2) (N := 6) hx hb hts hiX2 hown hK.1 hP 0 rfl rfl 5 (by decide) (hts (.fieldLink RX2 32 "IceLanes$River" "couriers" "LIceLanes$Couriers;") (by decide +kernel)) (fun _ h9 => h9) rfl dX2_rest_100 ?_
            refine va_getN (D := D) (ci := 0) (v := .ref (a 13)) (C := RX0) (T := TX0) (N := 10) hx hb hts hiX0 hown hK.1 hP 6 rfl rfl 7 (by decide) (va_Nw.use rfl (nX2_92 hN)) (fun _ h9 => h9) rfl dX2_rest_103 ?_
            refine lv_iload_n hx hb dX2_rest_106 rfl (lv_at hl 3 rfl) ?_
            refine lv_iconst (v := 1) hx hb dX2_rest_107 (by decide) ?_
            refine va_iast hx hb hK.1 hP hD hS 13 0 rfl rfl (by first | assumption | exact vp_in_nI (by omega) (by decide)) dX2_rest_108 (fun H locs hP hD hS => ?_)
            rw [nI_clamp (n := cu) (by omega)] at hP hD
            have hP : va_P D vwCl (wRivE a cI (σ 0 0) (σ 16 0) (σ 1) (σ 2) (σ 3) (σ 4) (σ 17 0) (σ 5) (σ 6) (upd (σ 7) cu (mn 20 ((σ 7 cu) + mo))) (σ 8) (σ 9) (σ 10) (upd (σ 11) cu 1) (σ 12) (σ 13)) H := hP
            have hD : va_D A (wRivE a cI (σ 0 0) (σ 16 0) (σ 1) (σ 2) (σ 3) (σ 4) (σ 17 0) (σ 5) (σ 6) (upd (σ 7) cu (mn 20 ((σ 7 cu) + mo))) (σ 8) (σ 9) (σ 10) (upd (σ 11) cu 1) (σ 12) (σ 13)) := hD
            subst hQ
            have hP : va_P D vwCl (wRiv a cI (put (put σ 7 (upd (σ 7) cu (mn 20 ((σ 7 cu) + mo)))) 11 (upd (σ 11) cu 1))) H := hP
            have hD : va_D A (wRiv a cI (put (put σ 7 (upd (σ 7) cu (mn 20 ((σ 7 cu) + mo)))) 11 (upd (σ 11) cu 1))) := hD
            have hst_s : put (put σ 7 (upd (σ 7) cu (mn 20 ((σ 7 cu) + mo)))) 11 (upd (σ 11) cu 1) = restF σ cu := (by unfold restF rsN; rw [← e_mo]; first | (rw [if_neg (fun z => z (by assumption)), if_pos ⟨by assumption, by have z : ¬ upd (σ 7) cu (mn 20 (σ 7 cu + mo)) cu < 10 := (by assumption); rw [upd_s] at z; rw [i_lt] at z; rw [i_le]; omega⟩]) | (rw [if_neg (fun z => z (by assumption)), if_neg (fun y => absurd (by assumption) y.1)]) | (rw [if_neg (fun z => z (by assumption)), if_neg (fun y => by have z : upd (σ 7) cu (mn 20 (σ 7 cu + mo)) cu < 10 := (by assumption); rw [upd_s, i_lt] at z; have y2 := y.2; rw [i_le] at y2; omega)]))
            rw [hst_s] at hP hD
            exact ret_wrv hx hb hr hlocks hP hD hS dX2_rest_109
  · skip
    subst hQ
    have hst_s : σ = restF σ cu := (show restF σ cu = σ from if_pos (by assumption)).symm
    rw [hst_s] at hP hD
    exact ret_wrv hx hb hr hlocks hP hD hS dX2_rest_12
