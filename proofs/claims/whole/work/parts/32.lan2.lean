set_option maxHeartbeats 4000000 in
set_option maxRecDepth 100000 in
theorem M_X4_setWarm_ok (l : Launch) (D : va_G) (cI : ClassId) (b : Nat → Nat) (a : Nat → Nat) (a2 : Nat → Nat) (σ : St) (σ2 : St) (ω : St) (dy : Nat) (p1 : Int32) (sz : Nat) (h0 : dy < 14) (h1 : (0 ≤ nI dy ∧ nI dy ≤ 13)) (h2 : ((-9) ≤ p1 ∧ p1 ≤ 9)) : Met l yX4_setWarm wsX4_setWarm ({ frames := 1, cells := 0, slots := 0, locals := 22 } : Room) (wrPc [.ref (b 0), .int (nI dy), .int p1] D (wLan b a a2 cI σ σ2 ω) [(cI, .int)] sz) (wrQi (σ 1 dy) D (wLan b a a2 cI (put σ 1 (upd (σ 1) dy p1)) σ2 ω) (va_A (wLan b a a2 cI σ σ2 ω) sz)) 0 0 (va_A (wLan b a a2 cI σ σ2 ω) sz) := by
  refine Met.ofW (cc := cX4_setWarm) (maxL := 4) (ret := (some .int)) (by decide) rfl ?_
  intro p e s m args below meth c s₁ B hml hv
  obtain ⟨hargs, hsz, hP, hK, hD0⟩ := hv
  have hx := B.exec
  have hb := B.bytes
  have hr := B.returns
  have hts := atoms_spec (ws := wsX4_setWarm) B.pre
  have hown : s.vm.findClass RX4 = some m.cls := findClass_of_methodNamed B.named
  have hlocks := B.notSynchronized
  obtain ⟨_, hN⟩ := id hK
  have hiX2 : ∀ w ∈ wsX20, w ∈ wsX4_setWarm := by decide +kernel
  have hiX4 : ∀ w ∈ wsX40, w ∈ wsX4_setWarm := by decide +kernel
  subst hsz
  have hD := hD0.self (sz := s.heap.size)
  generalize hAe : va_A (wLan b a a2 cI σ σ2 ω) s.heap.size = A at hD ⊢
  have hA : ∀ q : Nat, s.heap.size ≤ q → A q := fun q h => by rw [← hAe]; exact Or.inr h
  have hS : va_S A s.heap s.heap [] := va_S.rf
  have hP : va_P D vwCl (wLan b a a2 cI σ σ2 ω) s.heap := hP
  refine my_abs (fun Q hQ => ?_)
  obtain ⟨ls, hl, hent⟩ := my_entry (m := m) (n := 4) hargs (Nat.le_of_ble_eq_true rfl)
  rw [hent]
  have hl : lv_has ls 4 [(0, .ref (b 0)), (1, .int (nI dy)), (2, .int p1)] := hl
  show W p l e ({ frames := 1, cells := 0, slots := 0, locals := 22 } : Room) s m args below meth c s.heap [] 0 0 Q (F0 m 0 ls [])
  refine lv_iload_n hx hb dX4_setWarm_0 rfl (lv_at hl 1 rfl) ?_
  refine lv_iconst (v := 0) hx hb dX4_setWarm_1 (by decide) ?_
  refine lv_bipush (v := 13) hx hb dX4_setWarm_2 (by decide) ?_
  refine rd_i (va_runS (As := [.int (nI dy), .int 0, .int 13]) (rest := []) ⟨hx, hb, hml, hown, hts⟩ (M_X4_isWithin l D cI (nI dy) 0 13 ) (va_cwS 3 hts gX4_setWarm_X4_isWithin rfl rfl rfl (by decide +kernel) ⟨Nat.le_of_ble_eq_true rfl, Nat.le_of_ble_eq_true rfl⟩) (rdS hK hP [] [0] rfl rfl) rfl rfl hl.1 rfl (lv_room (Nat.le_of_ble_eq_true rfl)) dX4_setWarm_4 ⟨Nat.zero_le _, Nat.zero_le _⟩) ?_
  refine lv_if_ne (tgt := 20) hx hb dX4_setWarm_7 (by decide) (fun c_1 => ?_) (fun c_1 => ?_)
  · skip
    have c_1 : (0 ≤ (nI dy) ∧ (nI dy) ≤ 13) := bI_nz.mp c_1
    refine lv_iload_n hx hb dX4_setWarm_20 rfl (lv_at hl 2 rfl) ?_
    refine lv_bipush (v := (-9)) hx hb dX4_setWarm_21 (by decide) ?_
    refine lv_bipush (v := 9) hx hb dX4_setWarm_23 (by decide) ?_
    refine rd_i (va_runS (As := [.int p1, .int (-9), .int 9]) (rest := []) ⟨hx, hb, hml, hown, hts⟩ (M_X4_isWithin l D cI p1 (-9) 9 ) (va_cwS 3 hts gX4_setWarm_X4_isWithin rfl rfl rfl (by decide +kernel) ⟨Nat.le_of_ble_eq_true rfl, Nat.le_of_ble_eq_true rfl⟩) (rdS hK hP [] [0] rfl rfl) rfl rfl hl.1 rfl (lv_room (Nat.le_of_ble_eq_true rfl)) dX4_setWarm_25 ⟨Nat.zero_le _, Nat.zero_le _⟩) ?_
    refine lv_if_ne (tgt := 41) hx hb dX4_setWarm_28 (by decide) (fun c_2 => ?_) (fun c_2 => ?_)
    · skip
      have c_2 : ((-9) ≤ p1 ∧ p1 ≤ 9) := bI_nz.mp c_2
      refine lv_aload_n hx hb dX4_setWarm_41 rfl (lv_at hl 0 rfl) ?_
      refine va_get (D := D) (ci := 4) (v := .ref (a 0)) (C := RX4) (T := TX4) (N := 3) hx hb hts hiX4 hown hK.1 hP 0 rfl rfl 0 (by decide) (hts (.fieldLink RX4 12 "IceLanes" "river" "LIceLanes$River;") (by decide +kernel)) (fun _ h9 => h9) rfl dX4_setWarm_42 ?_
      refine va_getN (D := D) (ci := 2) (v := .ref (a 1)) (C := RX2) (T := TX2) (N := 6) hx hb hts hiX2 hown hK.1 hP 4 rfl rfl 2 (by decide) (va_Nw.use rfl (nX4_42 hN)) (fun _ h9 => h9) rfl dX4_setWarm_45 ?_
      refine lv_iload_n hx hb dX4_setWarm_48 rfl (lv_at hl 1 rfl) ?_
      refine va_iald hx hb hK.1 hP 5 0 rfl rfl (by first | assumption | exact vp_in_nI (by omega) (by decide)) dX4_setWarm_49 ?_
      rw [nI_clamp (n := dy) (by omega)]
      refine lv_istore_n (lv' := [(3, .int (σ 1 dy)), (0, .ref (b 0)), (1, .int (nI dy)), (2, .int p1)]) hx hb dX4_setWarm_50 rfl hl (by decide) rfl (fun ls hl => ?_)
      refine lv_aload_n hx hb dX4_setWarm_51 rfl (lv_at hl 1 rfl) ?_
      refine va_get (D := D) (ci := 4) (v := .ref (a 0)) (C := RX4) (T := TX4) (N := 3) hx hb hts hiX4 hown hK.1 hP 0 rfl rfl 0 (by decide) (hts (.fieldLink RX4 12 "IceLanes" "river" "LIceLanes$River;") (by decide +kernel)) (fun _ h9 => h9) rfl dX4_setWarm_52 ?_
      refine va_getN (D := D) (ci := 2) (v := .ref (a 1)) (C := RX2) (T := TX2) (N := 6) hx hb hts hiX2 hown hK.1 hP 4 rfl rfl 2 (by decide) (va_Nw.use rfl (nX4_42 hN)) (fun _ h9 => h9) rfl dX4_setWarm_55 ?_
      refine lv_iload_n hx hb dX4_setWarm_58 rfl (lv_at hl 2 rfl) ?_
      refine lv_iload_n hx hb dX4_setWarm_59 rfl (lv_at hl 3 rfl) ?_
      refine va_iast hx hb hK.1 hP hD hS 5 0 rfl rfl (by first | assumption | exact vp_in_nI (by omega) (by decide)) dX4_setWarm_60 (fun H locs hP hD hS => ?_)
      rw [nI_clamp (n := dy) (by omega)] at hP hD
      have hP : va_P D vwCl (wTopE b a a2 ++ (wWag b cI ω ++ (wRivE a cI (σ 0 0) (σ 16 0) (upd (σ 1) dy p1) (σ 2) (σ 3) (σ 4) (σ 17 0) (σ 5) (σ 6) (σ 7) (σ 8) (σ 9) (σ 10) (σ 11) (σ 12) (σ 13) ++ wRiv a2 cI σ2))) H := hP
      have hD : va_D A (wTopE b a a2 ++ (wWag b cI ω ++ (wRivE a cI (σ 0 0) (σ 16 0) (upd (σ 1) dy p1) (σ 2) (σ 3) (σ 4) (σ 17 0) (σ 5) (σ 6) (σ 7) (σ 8) (σ 9) (σ 10) (σ 11) (σ 12) (σ 13) ++ wRiv a2 cI σ2))) := hD
      refine lv_iload_n hx hb dX4_setWarm_61 rfl (lv_at hl 0 rfl) ?_
      subst hQ
      have hP : va_P D vwCl (wLan b a a2 cI (put σ 1 (upd (σ 1) dy p1)) σ2 ω) H := hP
      have hD : va_D A (wLan b a a2 cI (put σ 1 (upd (σ 1) dy p1)) σ2 ω) := hD
      exact ret_wri hx hb hr rfl hlocks hP hD hS (show σ 1 dy = σ 1 dy from rfl) dX4_setWarm_62
    · skip
      have c_2 : ¬ ((-9) ≤ p1 ∧ p1 ≤ 9) := bI_z.mp c_2
      first | exact absurd c_2 (by assumption) | exact absurd (by assumption) c_2
  · skip
    have c_1 : ¬ (0 ≤ (nI dy) ∧ (nI dy) ≤ 13) := bI_z.mp c_1
    first | exact absurd c_1 (by assumption) | exact absurd (by assumption) c_1
set_option maxHeartbeats 4000000 in
set_option maxRecDepth 100000 in
theorem M_X4_setIce_ok (l : Launch) (D : va_G) (cI : ClassId) (b : Nat → Nat) (a : Nat → Nat) (a2 : Nat → Nat) (σ : St) (σ2 : St) (ω : St) (sn : Nat) (ln : Nat) (p2 : Int32) (sz : Nat) (hs : sn < 12) (hl9 : ln < 3) (h1 : ((0 ≤ nI sn ∧ nI sn ≤ 11) ∧ (0 ≤ nI ln ∧ nI ln ≤ 2))) (h2 : (0 ≤ p2 ∧ p2 ≤ 60)) : Met l yX4_setIce wsX4_setIce ({ frames := 3, cells := 0, slots := 0, locals := 63 } : Room) (wrPc [.ref (b 0), .int (nI sn), .int (nI ln), .int p2] D (wLan b a a2 cI σ σ2 ω) [(cI, .int)] sz) (wrQi (σ 3 (3 * sn + ln)) D (wLan b a a2 cI (put σ 3 (upd (σ 3) (3 * sn + ln) p2)) σ2 ω) (va_A (wLan b a a2 cI σ σ2 ω) sz)) 0 0 (va_A (wLan b a a2 cI σ σ2 ω) sz) := by
  refine Met.ofW (cc := cX4_setIce) (maxL := 6) (ret := (some .int)) (by decide) rfl ?_
  intro p e s m args below meth c s₁ B hml hv
  obtain ⟨hargs, hsz, hP, hK, hD0⟩ := hv
  have hx := B.exec
  have hb := B.bytes
  have hr := B.returns
  have hts := atoms_spec (ws := wsX4_setIce) B.pre
  have hown : s.vm.findClass RX4 = some m.cls := findClass_of_methodNamed B.named
  have hlocks := B.notSynchronized
  obtain ⟨_, hN⟩ := id hK
  have hiX1 : ∀ w ∈ wsX10, w ∈ wsX4_setIce := by decide +kernel
  have hiX2 : ∀ w ∈ wsX20, w ∈ wsX4_setIce := by decide +kernel
  have hiX4 : ∀ w ∈ wsX40, w ∈ wsX4_setIce := by decide +kernel
  subst hsz
  have hD := hD0.self (sz := s.heap.size)
  generalize hAe : va_A (wLan b a a2 cI σ σ2 ω) s.heap.size = A at hD ⊢
  have hA : ∀ q : Nat, s.heap.size ≤ q → A q := fun q h => by rw [← hAe]; exact Or.inr h
  have hS : va_S A s.heap s.heap [] := va_S.rf
  have hP : va_P D vwCl (wLan b a a2 cI σ σ2 ω) s.heap := hP
  refine my_abs (fun Q hQ => ?_)
  obtain ⟨ls, hl, hent⟩ := my_entry (m := m) (n := 6) hargs (Nat.le_of_ble_eq_true rfl)
  rw [hent]
  have hl : lv_has ls 6 [(0, .ref (b 0)), (1, .int (nI sn)), (2, .int (nI ln)), (3, .int p2)] := hl
  show W p l e ({ frames := 3, cells := 0, slots := 0, locals := 63 } : Room) s m args below meth c s.heap [] 0 0 Q (F0 m 0 ls [])
  refine lv_iload_n hx hb dX4_setIce_0 rfl (lv_at hl 1 rfl) ?_
  refine lv_iload_n hx hb dX4_setIce_1 rfl (lv_at hl 2 rfl) ?_
  refine rd_i (va_runS (As := [.int (nI sn), .int (nI ln)]) (rest := []) ⟨hx, hb, hml, hown, hts⟩ (M_X4_isPlace l D cI (nI sn) (nI ln) ) (va_cwS 2 hts gX4_setIce_X4_isPlace rfl rfl rfl (by decide +kernel) ⟨Nat.le_of_ble_eq_true rfl, Nat.le_of_ble_eq_true rfl⟩) (rdS hK hP [] [0] rfl rfl) rfl rfl hl.1 rfl (lv_room (Nat.le_of_ble_eq_true rfl)) dX4_setIce_2 ⟨Nat.zero_le _, Nat.zero_le _⟩) ?_
  refine lv_if_ne (tgt := 18) hx hb dX4_setIce_5 (by decide) (fun c_1 => ?_) (fun c_1 => ?_)
  · skip
    have c_1 : ((0 ≤ (nI sn) ∧ (nI sn) ≤ 11) ∧ (0 ≤ (nI ln) ∧ (nI ln) ≤ 2)) := bI_nz.mp c_1
    refine lv_iload_n hx hb dX4_setIce_18 rfl (lv_at hl 3 rfl) ?_
    refine lv_iconst (v := 0) hx hb dX4_setIce_19 (by decide) ?_
    refine lv_bipush (v := 60) hx hb dX4_setIce_20 (by decide) ?_
    refine rd_i (va_runS (As := [.int p2, .int 0, .int 60]) (rest := []) ⟨hx, hb, hml, hown, hts⟩ (M_X4_isWithin l D cI p2 0 60 ) (va_cwS 3 hts gX4_setIce_X4_isWithin rfl rfl rfl (by decide +kernel) ⟨Nat.le_of_ble_eq_true rfl, Nat.le_of_ble_eq_true rfl⟩) (rdS hK hP [] [0] rfl rfl) rfl rfl hl.1 rfl (lv_room (Nat.le_of_ble_eq_true rfl)) dX4_setIce_22 ⟨Nat.zero_le _, Nat.zero_le _⟩) ?_
    refine lv_if_ne (tgt := 38) hx hb dX4_setIce_25 (by decide) (fun c_2 => ?_) (fun c_2 => ?_)
    · skip
      have c_2 : (0 ≤ p2 ∧ p2 ≤ 60) := bI_nz.mp c_2
      refine lv_iload_n hx hb dX4_setIce_38 rfl (lv_at hl 1 rfl) ?_
      refine lv_iload_n hx hb dX4_setIce_39 rfl (lv_at hl 2 rfl) ?_
      refine rd_i (va_runS (As := [.int (nI sn), .int (nI ln)]) (rest := []) ⟨hx, hb, hml, hown, hts⟩ (M_X4_placeOf l D cI (nI sn) (nI ln) ) (va_cwS 2 hts gX4_setIce_X4_placeOf rfl rfl rfl (by decide +kernel) ⟨Nat.le_of_ble_eq_true rfl, Nat.le_of_ble_eq_true rfl⟩) (rdS hK hP [] [0] rfl rfl) rfl rfl hl.1 rfl (lv_room (Nat.le_of_ble_eq_true rfl)) dX4_setIce_40 ⟨Nat.zero_le _, Nat.zero_le _⟩) ?_
      rw [pl_nI sn ln]
      refine lv_istore (lv' := [(4, .int (nI (3 * sn + ln))), (0, .ref (b 0)), (1, .int (nI sn)), (2, .int (nI ln)), (3, .int p2)]) hx hb dX4_setIce_43 hl (by decide) rfl (fun ls hl => ?_)
      refine lv_aload_n hx hb dX4_setIce_45 rfl (lv_at hl 1 rfl) ?_
      refine va_get (D := D) (ci := 4) (v := .ref (a 0)) (C := RX4) (T := TX4) (N := 3) hx hb hts hiX4 hown hK.1 hP 0 rfl rfl 0 (by decide) (hts (.fieldLink RX4 12 "IceLanes" "river" "LIceLanes$River;") (by decide +kernel)) (fun _ h9 => h9) rfl dX4_setIce_46 ?_
      refine va_getN (D := D) (ci := 2) (v := .ref (a 3)) (C := RX2) (T := TX2) (N := 6) hx hb hts hiX2 hown hK.1 hP 4 rfl rfl 4 (by decide) (va_Nw.use rfl (nX4_58 hN)) (fun _ h9 => h9) rfl dX4_setIce_49 ?_
      refine va_getN (D := D) (ci := 1) (v := .ref (a 4)) (C := RX1) (T := TX1) (N := 2) hx hb hts hiX1 hown hK.1 hP 7 rfl rfl 0 (by decide) (va_Nw.use rfl (nX4_62 hN)) (fun _ h9 => h9) rfl dX4_setIce_52 ?_
      refine lv_iload hx hb dX4_setIce_55 (lv_at hl 0 rfl) ?_
      refine va_iald hx hb hK.1 hP 8 0 rfl rfl (by first | assumption | exact vp_in_nI (by omega) (by decide)) dX4_setIce_57 ?_
      rw [nI_clamp (n := (3 * sn + ln)) (by omega)]
      refine lv_istore (lv' := [(5, .int (σ 3 (3 * sn + ln))), (4, .int (nI (3 * sn + ln))), (0, .ref (b 0)), (1, .int (nI sn)), (2, .int (nI ln)), (3, .int p2)]) hx hb dX4_setIce_58 hl (by decide) rfl (fun ls hl => ?_)
      refine lv_aload_n hx hb dX4_setIce_60 rfl (lv_at hl 2 rfl) ?_
      refine va_get (D := D) (ci := 4) (v := .ref (a 0)) (C := RX4) (T := TX4) (N := 3) hx hb hts hiX4 hown hK.1 hP 0 rfl rfl 0 (by decide) (hts (.fieldLink RX4 12 "IceLanes" "river" "LIceLanes$River;") (by decide +kernel)) (fun _ h9 => h9) rfl dX4_setIce_61 ?_
      refine va_getN (D := D) (ci := 2) (v := .ref (a 3)) (C := RX2) (T := TX2) (N := 6) hx hb hts hiX2 hown hK.1 hP 4 rfl rfl 4 (by decide) (va_Nw.use rfl (nX4_58 hN)) (fun _ h9 => h9) rfl dX4_setIce_64 ?_
      refine va_getN (D := D) (ci := 1) (v := .ref (a 4)) (C := RX1) (T := TX1) (N := 2) hx hb hts hiX1 hown hK.1 hP 7 rfl rfl 0 (by decide) (va_Nw.use rfl (nX4_62 hN)) (fun _ h9 => h9) rfl dX4_setIce_67 ?_
      refine lv_iload hx hb dX4_setIce_70 (lv_at hl 1 rfl) ?_
      refine lv_iload_n hx hb dX4_setIce_72 rfl (lv_at hl 5 rfl) ?_
      refine va_iast hx hb hK.1 hP hD hS 8 0 rfl rfl (by first | assumption | exact vp_in_nI (by omega) (by decide)) dX4_setIce_73 (fun H locs hP hD hS => ?_)
      rw [nI_clamp (n := (3 * sn + ln)) (by omega)] at hP hD
      have hP : va_P D vwCl (wTopE b a a2 ++ (wWag b cI ω ++ (wRivE a cI (σ 0 0) (σ 16 0) (σ 1) (σ 2) (upd (σ 3) (3 * sn + ln) p2) (σ 4) (σ 17 0) (σ 5) (σ 6) (σ 7) (σ 8) (σ 9) (σ 10) (σ 11) (σ 12) (σ 13) ++ wRiv a2 cI σ2))) H := hP
      have hD : va_D A (wTopE b a a2 ++ (wWag b cI ω ++ (wRivE a cI (σ 0 0) (σ 16 0) (σ 1) (σ 2) (upd (σ 3) (3 * sn + ln) p2) (σ 4) (σ 17 0) (σ 5) (σ 6) (σ 7) (σ 8) (σ 9) (σ 10) (σ 11) (σ 12) (σ 13) ++ wRiv a2 cI σ2))) := hD
      refine lv_iload hx hb dX4_setIce_74 (lv_at hl 0 rfl) ?_
      subst hQ
      have hP : va_P D vwCl (wLan b a a2 cI (put σ 3 (upd (σ 3) (3 * sn + ln) p2)) σ2 ω) H := hP
      have hD : va_D A (wLan b a a2 cI (put σ 3 (upd (σ 3) (3 * sn + ln) p2)) σ2 ω) := hD
      exact ret_wri hx hb hr rfl hlocks hP hD hS (show σ 3 (3 * sn + ln) = σ 3 (3 * sn + ln) from rfl) dX4_setIce_76
    · skip
      have c_2 : ¬ (0 ≤ p2 ∧ p2 ≤ 60) := bI_z.mp c_2
      first | exact absurd c_2 (by assumption) | exact absurd (by assumption) c_2
  · skip
    have c_1 : ¬ ((0 ≤ (nI sn) ∧ (nI sn) ≤ 11) ∧ (0 ≤ (nI ln) ∧ (nI ln) ≤ 2)) := bI_z.mp c_1
    first | exact absurd c_1 (by assumption) | exact absurd (by assumption) c_1
set_option maxHeartbeats 4000000 in
set_option maxRecDepth 100000 in
theorem M_X4_build_ok (l : Launch) (D : va_G) (cI : ClassId) (b : Nat → Nat) (a : Nat → Nat) (a2 : Nat → Nat) (σ : St) (σ2 : St) (ω : St) (sn : Nat) (sz : Nat) (hs : sn < 12) (h1 : (0 ≤ nI sn ∧ nI sn ≤ 11)) : Met l yX4_build wsX4_build ({ frames := 2, cells := 0, slots := 0, locals := 42 } : Room) (wrPc [.ref (b 0), .int (nI sn)] D (wLan b a a2 cI σ σ2 ω) [(cI, .int)] sz) (wrQi (sumF (upd (σ 2) sn 1) 12) D (wLan b a a2 cI (put σ 2 (upd (σ 2) sn 1)) σ2 ω) (va_A (wLan b a a2 cI σ σ2 ω) sz)) 0 0 (va_A (wLan b a a2 cI σ σ2 ω) sz) := by
  refine Met.ofW (cc := cX4_build) (maxL := 2) (ret := (some .int)) (by decide) rfl ?_
  intro p e s m args below meth c s₁ B hml hv
  obtain ⟨hargs, hsz, hP, hK, hD0⟩ := hv
  have hx := B.exec
  have hb := B.bytes
  have hr := B.returns
  have hts := atoms_spec (ws := wsX4_build) B.pre
  have hown : s.vm.findClass RX4 = some m.cls := findClass_of_methodNamed B.named
  have hlocks := B.notSynchronized
  obtain ⟨_, hN⟩ := id hK
  have hiX2 : ∀ w ∈ wsX20, w ∈ wsX4_build := by decide +kernel
  have hiX4 : ∀ w ∈ wsX40, w ∈ wsX4_build := by decide +kernel
  subst hsz
  have hD := hD0.self (sz := s.heap.size)
  generalize hAe : va_A (wLan b a a2 cI σ σ2 ω) s.heap.size = A at hD ⊢
  have hA : ∀ q : Nat, s.heap.size ≤ q → A q := fun q h => by rw [← hAe]; exact Or.inr h
  have hS : va_S A s.heap s.heap [] := va_S.rf
  have hP : va_P D vwCl (wLan b a a2 cI σ σ2 ω) s.heap := hP
  refine my_abs (fun Q hQ => ?_)
  obtain ⟨ls, hl, hent⟩ := my_entry (m := m) (n := 2) hargs (Nat.le_of_ble_eq_true rfl)
  rw [hent]
  have hl : lv_has ls 2 [(0, .ref (b 0)), (1, .int (nI sn))] := hl
  show W p l e ({ frames := 2, cells := 0, slots := 0, locals := 42 } : Room) s m args below meth c s.heap [] 0 0 Q (F0 m 0 ls [])
  refine lv_iload_n hx hb dX4_build_0 rfl (lv_at hl 1 rfl) ?_
  refine rd_i (va_runS (As := [.int (nI sn)]) (rest := []) ⟨hx, hb, hml, hown, hts⟩ (M_X4_isSection l D cI (nI sn) ) (va_cwS 1 hts gX4_build_X4_isSection rfl rfl rfl (by decide +kernel) ⟨Nat.le_of_ble_eq_true rfl, Nat.le_of_ble_eq_true rfl⟩) (rdS hK hP [] [0] rfl rfl) rfl rfl hl.1 rfl (lv_room (Nat.le_of_ble_eq_true rfl)) dX4_build_1 ⟨Nat.zero_le _, Nat.zero_le _⟩) ?_
  refine lv_if_ne (tgt := 17) hx hb dX4_build_4 (by decide) (fun c_1 => ?_) (fun c_1 => ?_)
  · skip
    have c_1 : (0 ≤ (nI sn) ∧ (nI sn) ≤ 11) := bI_nz.mp c_1
    refine lv_aload_n hx hb dX4_build_17 rfl (lv_at hl 0 rfl) ?_
    refine va_get (D := D) (ci := 4) (v := .ref (a 0)) (C := RX4) (T := TX4) (N := 3) hx hb hts hiX4 hown hK.1 hP 0 rfl rfl 0 (by decide) (hts (.fieldLink RX4 12 "IceLanes" "river" "LIceLanes$River;") (by decide +kernel)) (fun _ h9 => h9) rfl dX4_build_18 ?_
    refine va_getN (D := D) (ci := 2) (v := .ref (a 2)) (C := RX2) (T := TX2) (N := 6) hx hb hts hiX2 hown hK.1 hP 4 rfl rfl 3 (by decide) (va_Nw.use rfl (nX4_73 hN)) (fun _ h9 => h9) rfl dX4_build_21 ?_
    refine lv_iload_n hx hb dX4_build_24 rfl (lv_at hl 1 rfl) ?_
    refine lv_iconst (v := 1) hx hb dX4_build_25 (by decide) ?_
    refine va_iast hx hb hK.1 hP hD hS 6 0 rfl rfl (by first | assumption | exact vp_in_nI (by omega) (by decide)) dX4_build_26 (fun H locs hP hD hS => ?_)
    rw [nI_clamp (n := sn) (by omega)] at hP hD
    have hP : va_P D vwCl (wTopE b a a2 ++ (wWag b cI ω ++ (wRivE a cI (σ 0 0) (σ 16 0) (σ 1) (upd (σ 2) sn 1) (σ 3) (σ 4) (σ 17 0) (σ 5) (σ 6) (σ 7) (σ 8) (σ 9) (σ 10) (σ 11) (σ 12) (σ 13) ++ wRiv a2 cI σ2))) H := hP
    have hD : va_D A (wTopE b a a2 ++ (wWag b cI ω ++ (wRivE a cI (σ 0 0) (σ 16 0) (σ 1) (upd (σ 2) sn 1) (σ 3) (σ 4) (σ 17 0) (σ 5) (σ 6) (σ 7) (σ 8) (σ 9) (σ 10) (σ 11) (σ 12) (σ 13) ++ wRiv a2 cI σ2))) := hD
    refine lv_aload_n hx hb dX4_build_27 rfl (lv_at hl 0 rfl) ?_
    refine va_get (D := D) (ci := 4) (v := .ref (a 0)) (C := RX4) (T := TX4) (N := 3) hx hb hts hiX4 hown hK.1 hP 0 rfl rfl 0 (by decide) (hts (.fieldLink RX4 12 "IceLanes" "river" "LIceLanes$River;") (by decide +kernel)) (fun _ h9 => h9) rfl dX4_build_28 ?_
    refine rd_i (va_runVN (As := []) (rest := []) ⟨hx, hb, hml, hown, hts⟩ (M_X2_huts l D cI a (put σ 2 (upd (σ 2) sn 1)) ) ⟨va_cnB 0 hts gX4_build_X2_huts_n76 rfl rfl rfl (nX4_76 hN) (hts (.initialized RX2) (by decide +kernel)) (by decide +kernel) ⟨Nat.le_of_ble_eq_true rfl, Nat.le_of_ble_eq_true rfl⟩, hts (.instanceMethod yX2_huts) (by decide +kernel), hts (.selects RX2 yX2_huts yX2_huts) (by decide +kernel)⟩ (rdV hK hP [4, 5, 6, 7, 8, 9, 10, 11, 12, 13, 14, 15, 16, 17, 18, 19] [0] rfl rfl (ci := 2) (q0 := 4) rfl rfl) rfl rfl hl.1 rfl (lv_room (Nat.le_of_ble_eq_true rfl)) dX4_build_31 ⟨Nat.zero_le _, Nat.zero_le _⟩) ?_
    refine W.eq (g2 := F0 m 34 ls [.int (sumF ((upd (σ 2) sn 1)) 12)]) rfl ?_
    subst hQ
    have hP : va_P D vwCl (wLan b a a2 cI (put σ 2 (upd (σ 2) sn 1)) σ2 ω) H := hP
    have hD : va_D A (wLan b a a2 cI (put σ 2 (upd (σ 2) sn 1)) σ2 ω) := hD
    exact ret_wri hx hb hr rfl hlocks hP hD hS (show sumF ((upd (σ 2) sn 1)) 12 = sumF (upd (σ 2) sn 1) 12 from rfl) dX4_build_34
  · skip
    have c_1 : ¬ (0 ≤ (nI sn) ∧ (nI sn) ≤ 11) := bI_z.mp c_1
    first | exact absurd c_1 (by assumption) | exact absurd (by assumption) c_1
set_option maxHeartbeats 4000000 in
set_option maxRecDepth 100000 in
theorem M_X4_place_ok (l : Launch) (D : va_G) (cI : ClassId) (b : Nat → Nat) (a : Nat → Nat) (a2 : Nat → Nat) (σ : St) (σ2 : St) (ω : St) (sn : Nat) (ln : Nat) (w : Nat) (nc : Nat) (hs : sn < 12) (hl9 : ln < 3) (h1 : ((0 ≤ nI sn ∧ nI sn ≤ 11) ∧ (0 ≤ nI ln ∧ nI ln ≤ 2))) (h2 : (0 ≤ nI w ∧ nI w ≤ 3)) (hw : w < 4) (hnc : σ 17 0 = nI nc) (hn8 : nc ≤ 8) : Met l yX4_place wsX4_place ({ frames := 3, cells := 0, slots := 0, locals := 66 } : Room) (rdPc [.ref (b 0), .int (nI sn), .int (nI ln), .int (nI w)] D (wLan b a a2 cI σ σ2 ω) [(cI, .int)]) (rdQi (ptL σ sn ln nc w)) 0 0 (fun _ => False) := by
  refine Met.ofW (cc := cX4_place) (maxL := 4) (ret := (some .int)) (by decide) rfl ?_
  intro p e s m args below meth c s₁ B hml hv
  obtain ⟨hargs, hP, hK⟩ := hv
  have hx := B.exec
  have hb := B.bytes
  have hr := B.returns
  have hts := atoms_spec (ws := wsX4_place) B.pre
  have hown : s.vm.findClass RX4 = some m.cls := findClass_of_methodNamed B.named
  have hlocks := B.notSynchronized
  obtain ⟨_, hN⟩ := id hK
  have hiX1 : ∀ w ∈ wsX10, w ∈ wsX4_place := by decide +kernel
  have hiX2 : ∀ w ∈ wsX20, w ∈ wsX4_place := by decide +kernel
  have hiX4 : ∀ w ∈ wsX40, w ∈ wsX4_place := by decide +kernel
  refine my_abs (fun Q hQ => ?_)
  obtain ⟨ls, hl, hent⟩ := my_entry (m := m) (n := 4) hargs (Nat.le_of_ble_eq_true rfl)
  rw [hent]
  have hl : lv_has ls 4 [(0, .ref (b 0)), (1, .int (nI sn)), (2, .int (nI ln)), (3, .int (nI w))] := hl
  show W p l e ({ frames := 3, cells := 0, slots := 0, locals := 66 } : Room) s m args below meth c s.heap [] 0 0 Q (F0 m 0 ls [])
  refine lv_iload_n hx hb dX4_place_0 rfl (lv_at hl 1 rfl) ?_
  refine lv_iload_n hx hb dX4_place_1 rfl (lv_at hl 2 rfl) ?_
  refine rd_i (va_runS (As := [.int (nI sn), .int (nI ln)]) (rest := []) ⟨hx, hb, hml, hown, hts⟩ (M_X4_isPlace l D cI (nI sn) (nI ln) ) (va_cwS 2 hts gX4_place_X4_isPlace rfl rfl rfl (by decide +kernel) ⟨Nat.le_of_ble_eq_true rfl, Nat.le_of_ble_eq_true rfl⟩) (rdS hK hP [] [0] rfl rfl) rfl rfl hl.1 rfl (lv_room (Nat.le_of_ble_eq_true rfl)) dX4_place_2 ⟨Nat.zero_le _, Nat.zero_le _⟩) ?_
  refine lv_if_ne (tgt := 18) hx hb dX4_place_5 (by decide) (fun c_1 => ?_) (fun c_1 => ?_)
  · skip
    have c_1 : ((0 ≤ (nI sn) ∧ (nI sn) ≤ 11) ∧ (0 ≤ (nI ln) ∧ (nI ln) ≤ 2)) := bI_nz.mp c_1
    refine lv_iload_n hx hb dX4_place_18 rfl (lv_at hl 3 rfl) ?_
    refine lv_iconst (v := 0) hx hb dX4_place_19 (by decide) ?_
    refine lv_iconst (v := 3) hx hb dX4_place_20 (by decide) ?_
    refine rd_i (va_runS (As := [.int (nI w), .int 0, .int 3]) (rest := []) ⟨hx, hb, hml, hown, hts⟩ (M_X4_isWithin l D cI (nI w) 0 3 ) (va_cwS 3 hts gX4_place_X4_isWithin rfl rfl rfl (by decide +kernel) ⟨Nat.le_of_ble_eq_true rfl, Nat.le_of_ble_eq_true rfl⟩) (rdS hK hP [] [0] rfl rfl) rfl rfl hl.1 rfl (lv_room (Nat.le_of_ble_eq_true rfl)) dX4_place_21 ⟨Nat.zero_le _, Nat.zero_le _⟩) ?_
    refine lv_if_ne (tgt := 37) hx hb dX4_place_24 (by decide) (fun c_2 => ?_) (fun c_2 => ?_)
    · skip
      have c_2 : (0 ≤ (nI w) ∧ (nI w) ≤ 3) := bI_nz.mp c_2
      refine lv_iload_n hx hb dX4_place_37 rfl (lv_at hl 3 rfl) ?_
      rcases (show w = 0 ∨ w = 1 ∨ w = 2 ∨ w = 3 by omega) with rfl | rfl | rfl | rfl
      · skip
        refine lv_tableIn (tgt := 64) hx hb dX4_place_38 (by decide) (by decide) (by rfl) (by decide) ?_
        refine lv_aload_n hx hb dX4_place_64 rfl (lv_at hl 0 rfl) ?_
        refine va_get (D := D) (ci := 4) (v := .ref (a 0)) (C := RX4) (T := TX4) (N := 3) hx hb hts hiX4 hown hK.1 hP 0 rfl rfl 0 (by decide) (hts (.fieldLink RX4 12 "IceLanes" "river" "LIceLanes$River;") (by decide +kernel)) (fun _ h9 => h9) rfl dX4_place_65 ?_
        refine va_getN (D := D) (ci := 2) (v := .ref (a 3)) (C := RX2) (T := TX2) (N := 6) hx hb hts hiX2 hown hK.1 hP 4 rfl rfl 4 (by decide) (va_Nw.use rfl (nX4_58 hN)) (fun _ h9 => h9) rfl dX4_place_68 ?_
        refine va_getN (D := D) (ci := 1) (v := .ref (a 4)) (C := RX1) (T := TX1) (N := 2) hx hb hts hiX1 hown hK.1 hP 7 rfl rfl 0 (by decide) (va_Nw.use rfl (nX4_62 hN)) (fun _ h9 => h9) rfl dX4_place_71 ?_
        refine lv_iload_n hx hb dX4_place_74 rfl (lv_at hl 1 rfl) ?_
        refine lv_iload_n hx hb dX4_place_75 rfl (lv_at hl 2 rfl) ?_
        refine rd_i (va_runS (As := [.int (nI sn), .int (nI ln)]) (rest := [.ref (a 4)]) ⟨hx, hb, hml, hown, hts⟩ (M_X4_placeOf l D cI (nI sn) (nI ln) ) (va_cwS 2 hts gX4_place_X4_placeOf rfl rfl rfl (by decide +kernel) ⟨Nat.le_of_ble_eq_true rfl, Nat.le_of_ble_eq_true rfl⟩) (rdS hK hP [] [0] rfl rfl) rfl rfl hl.1 rfl (lv_room (Nat.le_of_ble_eq_true rfl)) dX4_place_76 ⟨Nat.zero_le _, Nat.zero_le _⟩) ?_
        rw [pl_nI sn ln]
        refine va_iald hx hb hK.1 hP 8 0 rfl rfl (by first | assumption | exact vp_in_nI (by omega) (by decide)) dX4_place_79 ?_
        rw [nI_clamp (n := (3 * sn + ln)) (by omega)]
        subst hQ
        exact ret_rdi hx hb hr rfl hlocks (show σ 3 (3 * sn + ln) = ptL σ sn ln nc 0 from rfl) dX4_place_80
      · skip
        refine lv_tableIn (tgt := 81) hx hb dX4_place_38 (by decide) (by decide) (by rfl) (by decide) ?_
        refine lv_aload_n hx hb dX4_place_81 rfl (lv_at hl 0 rfl) ?_
        refine va_get (D := D) (ci := 4) (v := .ref (a 0)) (C := RX4) (T := TX4) (N := 3) hx hb hts hiX4 hown hK.1 hP 0 rfl rfl 0 (by decide) (hts (.fieldLink RX4 12 "IceLanes" "river" "LIceLanes$River;") (by decide +kernel)) (fun _ h9 => h9) rfl dX4_place_82 ?_
        refine va_getN (D := D) (ci := 2) (v := .ref (a 3)) (C := RX2) (T := TX2) (N := 6) hx hb hts hiX2 hown hK.1 hP 4 rfl rfl 4 (by decide) (va_Nw.use rfl (nX4_58 hN)) (fun _ h9 => h9) rfl dX4_place_85 ?_
        refine va_getN (D := D) (ci := 1) (v := .ref (a 5)) (C := RX1) (T := TX1) (N := 2) hx hb hts hiX1 hown hK.1 hP 7 rfl rfl 1 (by decide) (va_Nw.use rfl (nX4_82 hN)) (fun _ h9 => h9) rfl dX4_place_88 ?_
        refine lv_iload_n hx hb dX4_place_91 rfl (lv_at hl 1 rfl) ?_
        refine lv_iload_n hx hb dX4_place_92 rfl (lv_at hl 2 rfl) ?_
        refine rd_i (va_runS (As := [.int (nI sn), .int (nI ln)]) (rest := [.ref (a 5)]) ⟨hx, hb, hml, hown, hts⟩ (M_X4_placeOf l D cI (nI sn) (nI ln) ) (va_cwS 2 hts gX4_place_X4_placeOf rfl rfl rfl (by decide +kernel) ⟨Nat.le_of_ble_eq_true rfl, Nat.le_of_ble_eq_true rfl⟩) (rdS hK hP [] [0] rfl rfl) rfl rfl hl.1 rfl (lv_room (Nat.le_of_ble_eq_true rfl)) dX4_place_93 ⟨Nat.zero_le _, Nat.zero_le _⟩) ?_
        rw [pl_nI sn ln]
        refine va_iald hx hb hK.1 hP 9 0 rfl rfl (by first | assumption | exact vp_in_nI (by omega) (by decide)) dX4_place_96 ?_
        rw [nI_clamp (n := (3 * sn + ln)) (by omega)]
        subst hQ
        exact ret_rdi hx hb hr rfl hlocks (show σ 4 (3 * sn + ln) = ptL σ sn ln nc 1 from rfl) dX4_place_97
      · skip
        refine lv_tableIn (tgt := 98) hx hb dX4_place_38 (by decide) (by decide) (by rfl) (by decide) ?_
        refine lv_aload_n hx hb dX4_place_98 rfl (lv_at hl 0 rfl) ?_
        refine va_get (D := D) (ci := 4) (v := .ref (a 0)) (C := RX4) (T := TX4) (N := 3) hx hb hts hiX4 hown hK.1 hP 0 rfl rfl 0 (by decide) (hts (.fieldLink RX4 12 "IceLanes" "river" "LIceLanes$River;") (by decide +kernel)) (fun _ h9 => h9) rfl dX4_place_99 ?_
        refine va_getN (D := D) (ci := 2) (v := .ref (a 3)) (C := RX2) (T := TX2) (N := 6) hx hb hts hiX2 hown hK.1 hP 4 rfl rfl 4 (by decide) (va_Nw.use rfl (nX4_58 hN)) (fun _ h9 => h9) rfl dX4_place_102 ?_
        refine lv_iload_n hx hb dX4_place_105 rfl (lv_at hl 1 rfl) ?_
        refine lv_iload_n hx hb dX4_place_106 rfl (lv_at hl 2 rfl) ?_
        refine rd_i (va_runVN (As := [.int (nI sn), .int (nI ln)]) (rest := []) ⟨hx, hb, hml, hown, hts⟩ (M_X1_mostBorneAt l D cI a σ (nI sn) (nI ln) (nI_le11 hs) (nI_le2 hl9)) ⟨va_cnB 2 hts gX4_place_X1_mostBorneAt_n85 rfl rfl rfl (nX4_85 hN) (hts (.initialized RX1) (by decide +kernel)) (by decide +kernel) ⟨Nat.le_of_ble_eq_true rfl, Nat.le_of_ble_eq_true rfl⟩, hts (.instanceMethod yX1_mostBorneAt) (by decide +kernel), hts (.selects RX1 yX1_mostBorneAt yX1_mostBorneAt) (by decide +kernel)⟩ (rdV hK hP [7, 8, 9] [0] rfl rfl (ci := 1) (q0 := 7) rfl rfl) rfl rfl hl.1 rfl (lv_room (Nat.le_of_ble_eq_true rfl)) dX4_place_107 ⟨Nat.zero_le _, Nat.zero_le _⟩) ?_
        subst hQ
        exact ret_rdi hx hb hr rfl hlocks (show mx 0 (sound ((σ 3)) ((σ 4)) (nI sn) (nI ln)) = ptL σ sn ln nc 2 from rfl) dX4_place_110
      · skip
        refine lv_tableOut (tgt := 111) hx hb dX4_place_38 (by decide) (by decide) ?_
        refine lv_aload_n hx hb dX4_place_111 rfl (lv_at hl 0 rfl) ?_
        refine va_get (D := D) (ci := 4) (v := .ref (a 0)) (C := RX4) (T := TX4) (N := 3) hx hb hts hiX4 hown hK.1 hP 0 rfl rfl 0 (by decide) (hts (.fieldLink RX4 12 "IceLanes" "river" "LIceLanes$River;") (by decide +kernel)) (fun _ h9 => h9) rfl dX4_place_112 ?_
        refine va_getN (D := D) (ci := 2) (v := .ref (a 6)) (C := RX2) (T := TX2) (N := 6) hx hb hts hiX2 hown hK.1 hP 4 rfl rfl 5 (by decide) (va_Nw.use rfl (nX4_88 hN)) (fun _ h9 => h9) rfl dX4_place_115 ?_
        refine lv_iload_n hx hb dX4_place_118 rfl (lv_at hl 1 rfl) ?_
        refine lv_iload_n hx hb dX4_place_119 rfl (lv_at hl 2 rfl) ?_
        refine rd_i (va_runVN (As := [.int (nI sn), .int (nI ln)]) (rest := []) ⟨hx, hb, hml, hown, hts⟩ (M_X0_notOutAt l D cI a σ (nI sn) (nI ln) nc (by first | assumption | omega) (by first | assumption | omega)) ⟨va_cnB 2 hts gX4_place_X0_notOutAt_n92 rfl rfl rfl (nX4_92 hN) (hts (.initialized RX0) (by decide +kernel)) (by decide +kernel) ⟨Nat.le_of_ble_eq_true rfl, Nat.le_of_ble_eq_true rfl⟩, hts (.instanceMethod yX0_notOutAt) (by decide +kernel), hts (.selects RX0 yX0_notOutAt yX0_notOutAt) (by decide +kernel)⟩ (rdV hK hP [10, 11, 12, 13, 14, 15, 16, 17, 18, 19] [0] rfl rfl (ci := 0) (q0 := 10) rfl rfl) rfl rfl hl.1 rfl (lv_room (Nat.le_of_ble_eq_true rfl)) dX4_place_120 ⟨Nat.zero_le _, Nat.zero_le _⟩) ?_
        subst hQ
        exact ret_rdi hx hb hr rfl hlocks (show cntF (fun j => decide (((σ 8) j = (nI sn) ∧ (σ 9) j = (nI ln)) ∧ ¬ (σ 11) j = 3)) nc = ptL σ sn ln nc 3 from rfl) dX4_place_123
    · skip
      have c_2 : ¬ (0 ≤ (nI w) ∧ (nI w) ≤ 3) := bI_z.mp c_2
      first | exact absurd c_2 (by assumption) | exact absurd (by assumption) c_2
  · skip
    have c_1 : ¬ ((0 ≤ (nI sn) ∧ (nI sn) ≤ 11) ∧ (0 ≤ (nI ln) ∧ (nI ln) ≤ 2)) := bI_z.mp c_1
    first | exact absurd c_1 (by assumption) | exact absurd (by assumption) c_1
set_option maxHeartbeats 4000000 in
set_option maxRecDepth 100000 in
theorem M_X4_come_ok0 (l : Launch) (D : va_G) (cI : ClassId) (b : Nat → Nat) (a : Nat → Nat) (a2 : Nat → Nat) (σ : St) (σ2 : St) (ω : St) (sn : Nat) (ln : Nat) (p2 : Int32) (p3 : Int32) (sk : Int32) (nc : Nat) (sz : Nat) (hs : sn < 12) (hl9 : ln < 3) (h1 : ((0 ≤ nI sn ∧ nI sn ≤ 11) ∧ (0 ≤ nI ln ∧ nI ln ≤ 2))) (h2 : (1 ≤ p2 ∧ p2 ≤ 40)) (h3 : (0 ≤ p3 ∧ p3 ≤ 20)) (hnc : σ 17 0 = nI nc) (hn8 : nc < 8) (h4 : p2 + p3 ≤ sound (σ 3) (σ 4) (nI sn) (nI ln)) (h5 : sk = 0) : Met l yX4_come wsX4_come ({ frames := 3, cells := 0, slots := 0, locals := 67 } : Room) (wrPc [.ref (b 0), .int (nI sn), .int (nI ln), .int p2, .int p3, .int sk] D (wLan b a a2 cI σ σ2 ω) [(cI, .int)] sz) (wrQi (nI nc) D (wLan b a a2 cI (put (put (put (put (put (put (put (put (put (put σ 5 (upd (σ 5) nc p2)) 6 (upd (σ 6) nc p3)) 7 (upd (σ 7) nc 20)) 8 (upd (σ 8) nc (nI sn))) 9 (upd (σ 9) nc (nI ln))) 10 (upd (σ 10) nc (nI sn))) 11 (upd (σ 11) nc 0)) 12 (upd (σ 12) nc 0)) 13 (upd (σ 13) nc 1)) 17 (fun _ => nI (nc + 1))) σ2 ω) (va_A (wLan b a a2 cI σ σ2 ω) sz)) 0 0 (va_A (wLan b a a2 cI σ σ2 ω) sz) := by
  refine Met.ofW (cc := cX4_come) (maxL := 6) (ret := (some .int)) (by decide) rfl ?_
  intro p e s m args below meth c s₁ B hml hv
  obtain ⟨hargs, hsz, hP, hK, hD0⟩ := hv
  have hx := B.exec
  have hb := B.bytes
  have hr := B.returns
  have hts := atoms_spec (ws := wsX4_come) B.pre
  have hown : s.vm.findClass RX4 = some m.cls := findClass_of_methodNamed B.named
  have hlocks := B.notSynchronized
  obtain ⟨_, hN⟩ := id hK
  have hiX0 : ∀ w ∈ wsX00, w ∈ wsX4_come := by decide +kernel
  have hiX2 : ∀ w ∈ wsX20, w ∈ wsX4_come := by decide +kernel
  have hiX4 : ∀ w ∈ wsX40, w ∈ wsX4_come := by decide +kernel
  subst hsz
  have hD := hD0.self (sz := s.heap.size)
  generalize hAe : va_A (wLan b a a2 cI σ σ2 ω) s.heap.size = A at hD ⊢
  have hA : ∀ q : Nat, s.heap.size ≤ q → A q := fun q h => by rw [← hAe]; exact Or.inr h
  have hS : va_S A s.heap s.heap [] := va_S.rf
  have hP : va_P D vwCl (wLan b a a2 cI σ σ2 ω) s.heap := hP
  refine my_abs (fun Q hQ => ?_)
  obtain ⟨ls, hl, hent⟩ := my_entry (m := m) (n := 6) hargs (Nat.le_of_ble_eq_true rfl)
  rw [hent]
  have hl : lv_has ls 6 [(0, .ref (b 0)), (1, .int (nI sn)), (2, .int (nI ln)), (3, .int p2), (4, .int p3), (5, .int sk)] := hl
  show W p l e ({ frames := 3, cells := 0, slots := 0, locals := 67 } : Room) s m args below meth c s.heap [] 0 0 Q (F0 m 0 ls [])
  refine lv_iload_n hx hb dX4_come_0 rfl (lv_at hl 1 rfl) ?_
  refine lv_iload_n hx hb dX4_come_1 rfl (lv_at hl 2 rfl) ?_
  refine rd_i (va_runS (As := [.int (nI sn), .int (nI ln)]) (rest := []) ⟨hx, hb, hml, hown, hts⟩ (M_X4_isPlace l D cI (nI sn) (nI ln) ) (va_cwS 2 hts gX4_come_X4_isPlace rfl rfl rfl (by decide +kernel) ⟨Nat.le_of_ble_eq_true rfl, Nat.le_of_ble_eq_true rfl⟩) (rdS hK hP [] [0] rfl rfl) rfl rfl hl.1 rfl (lv_room (Nat.le_of_ble_eq_true rfl)) dX4_come_2 ⟨Nat.zero_le _, Nat.zero_le _⟩) ?_
  refine lv_if_ne (tgt := 18) hx hb dX4_come_5 (by decide) (fun c_1 => ?_) (fun c_1 => ?_)
  · skip
    have c_1 : ((0 ≤ (nI sn) ∧ (nI sn) ≤ 11) ∧ (0 ≤ (nI ln) ∧ (nI ln) ≤ 2)) := bI_nz.mp c_1
    refine lv_iload_n hx hb dX4_come_18 rfl (lv_at hl 3 rfl) ?_
    refine lv_iconst (v := 1) hx hb dX4_come_19 (by decide) ?_
    refine lv_bipush (v := 40) hx hb dX4_come_20 (by decide) ?_
    refine rd_i (va_runS (As := [.int p2, .int 1, .int 40]) (rest := []) ⟨hx, hb, hml, hown, hts⟩ (M_X4_isWithin l D cI p2 1 40 ) (va_cwS 3 hts gX4_come_X4_isWithin rfl rfl rfl (by decide +kernel) ⟨Nat.le_of_ble_eq_true rfl, Nat.le_of_ble_eq_true rfl⟩) (rdS hK hP [] [0] rfl rfl) rfl rfl hl.1 rfl (lv_room (Nat.le_of_ble_eq_true rfl)) dX4_come_22 ⟨Nat.zero_le _, Nat.zero_le _⟩) ?_
    refine lv_if_eq (tgt := 39) hx hb dX4_come_25 (by decide) (fun c_2 => ?_) (fun c_2 => ?_)
    · skip
      have c_2 : ¬ (1 ≤ p2 ∧ p2 ≤ 40) := bI_z.mp c_2
      first | exact absurd c_2 (by assumption) | exact absurd (by assumption) c_2
    · skip
      have c_2 : (1 ≤ p2 ∧ p2 ≤ 40) := bI_nz.mp c_2
      refine lv_iload hx hb dX4_come_28 (lv_at hl 4 rfl) ?_
      refine lv_iconst (v := 0) hx hb dX4_come_30 (by decide) ?_
      refine lv_bipush (v := 20) hx hb dX4_come_31 (by decide) ?_
      refine rd_i (va_runS (As := [.int p3, .int 0, .int 20]) (rest := []) ⟨hx, hb, hml, hown, hts⟩ (M_X4_isWithin l D cI p3 0 20 ) (va_cwS 3 hts gX4_come_X4_isWithin rfl rfl rfl (by decide +kernel) ⟨Nat.le_of_ble_eq_true rfl, Nat.le_of_ble_eq_true rfl⟩) (rdS hK hP [] [0] rfl rfl) rfl rfl hl.1 rfl (lv_room (Nat.le_of_ble_eq_true rfl)) dX4_come_33 ⟨Nat.zero_le _, Nat.zero_le _⟩) ?_
      refine lv_if_ne (tgt := 49) hx hb dX4_come_36 (by decide) (fun c_3 => ?_) (fun c_3 => ?_)
      · skip
        have c_3 : (0 ≤ p3 ∧ p3 ≤ 20) := bI_nz.mp c_3
        refine lv_aload_n hx hb dX4_come_49 rfl (lv_at hl 0 rfl) ?_
        refine va_get (D := D) (ci := 4) (v := .ref (a 0)) (C := RX4) (T := TX4) (N := 3) hx hb hts hiX4 hown hK.1 hP 0 rfl rfl 0 (by decide) (hts (.fieldLink RX4 12 "IceLanes" "river" "LIceLanes$River;") (by decide +kernel)) (fun _ h9 => h9) rfl dX4_come_50 ?_
        refine va_getN (D := D) (ci := 2) (v := .ref (a 6)) (C := RX2) (T := TX2) (N := 6) hx hb hts hiX2 hown hK.1 hP 4 rfl rfl 5 (by decide) (va_Nw.use rfl (nX4_88 hN)) (fun _ h9 => h9) rfl dX4_come_53 ?_
        refine va_getN (D := D) (ci := 0) (v := .int (σ 17 0)) (C := RX0) (T := TX0) (N := 10) hx hb hts hiX0 hown hK.1 hP 10 rfl rfl 0 (by decide) (va_Nw.use rfl (nX4_99 hN)) (fun _ h9 => h9) rfl dX4_come_56 ?_
        refine lv_bipush (v := 8) hx hb dX4_come_59 (by decide) ?_
        refine lv_icmp_lt (tgt := 74) hx hb dX4_come_61 (by decide) (fun c_4 => ?_) (fun c_4 => ?_)
        · skip
          refine lv_aload_n hx hb dX4_come_74 rfl (lv_at hl 0 rfl) ?_
          refine va_get (D := D) (ci := 4) (v := .ref (a 0)) (C := RX4) (T := TX4) (N := 3) hx hb hts hiX4 hown hK.1 hP 0 rfl rfl 0 (by decide) (hts (.fieldLink RX4 12 "IceLanes" "river" "LIceLanes$River;") (by decide +kernel)) (fun _ h9 => h9) rfl dX4_come_75 ?_
          refine va_getN (D := D) (ci := 2) (v := .ref (a 3)) (C := RX2) (T := TX2) (N := 6) hx hb hts hiX2 hown hK.1 hP 4 rfl rfl 4 (by decide) (va_Nw.use rfl (nX4_58 hN)) (fun _ h9 => h9) rfl dX4_come_78 ?_
          refine lv_iload_n hx hb dX4_come_81 rfl (lv_at hl 1 rfl) ?_
          refine lv_iload_n hx hb dX4_come_82 rfl (lv_at hl 2 rfl) ?_
          refine lv_iload_n hx hb dX4_come_83 rfl (lv_at hl 3 rfl) ?_
          refine lv_iload hx hb dX4_come_84 (lv_at hl 4 rfl) ?_
          refine lv_iadd hx hb dX4_come_86 ?_
          refine rd_i (va_runVN (As := [.int (nI sn), .int (nI ln), .int (p2 + p3)]) (rest := []) ⟨hx, hb, hml, hown, hts⟩ (M_X1_holds l D cI a σ (nI sn) (nI ln) (p2 + p3) (nI_le11 hs) (nI_le2 hl9)) ⟨va_cnB 3 hts gX4_come_X1_holds_n108 rfl rfl rfl (nX4_108 hN) (hts (.initialized RX1) (by decide +kernel)) (by decide +kernel) ⟨Nat.le_of_ble_eq_true rfl, Nat.le_of_ble_eq_true rfl⟩, hts (.instanceMethod yX1_holds) (by decide +kernel), hts (.selects RX1 yX1_holds yX1_holds) (by decide +kernel)⟩ (rdV hK hP [7, 8, 9] [0] rfl rfl (ci := 1) (q0 := 7) rfl rfl) rfl rfl hl.1 rfl (lv_room (Nat.le_of_ble_eq_true rfl)) dX4_come_87 ⟨Nat.zero_le _, Nat.zero_le _⟩) ?_
          refine lv_if_ne (tgt := 103) hx hb dX4_come_90 (by decide) (fun c_5 => ?_) (fun c_5 => ?_)
          · skip
            have c_5 : ((p2 + p3) ≤ sound ((σ 3)) ((σ 4)) (nI sn) (nI ln)) := bI_nz.mp c_5
            refine lv_aload_n hx hb dX4_come_103 rfl (lv_at hl 0 rfl) ?_
            refine va_get (D := D) (ci := 4) (v := .ref (a 0)) (C := RX4) (T := TX4) (N := 3) hx hb hts hiX4 hown hK.1 hP 0 rfl rfl 0 (by decide) (hts (.fieldLink RX4 12 "IceLanes" "river" "LIceLanes$River;") (by decide +kernel)) (fun _ h9 => h9) rfl dX4_come_104 ?_
            refine va_getN (D := D) (ci := 2) (v := .ref (a 6)) (C := RX2) (T := TX2) (N := 6) hx hb hts hiX2 hown hK.1 hP 4 rfl rfl 5 (by decide) (va_Nw.use rfl (nX4_88 hN)) (fun _ h9 => h9) rfl dX4_come_107 ?_
            refine lv_iload_n hx hb dX4_come_110 rfl (lv_at hl 1 rfl) ?_
            refine lv_iload_n hx hb dX4_come_111 rfl (lv_at hl 2 rfl) ?_
            refine lv_iload_n hx hb dX4_come_112 rfl (lv_at hl 3 rfl) ?_
            refine lv_iload hx hb dX4_come_113 (lv_at hl 4 rfl) ?_
            refine lv_iload hx hb dX4_come_115 (lv_at hl 5 rfl) ?_
            refine lv_if_eq (tgt := 124) hx hb dX4_come_117 (by decide) (fun c_6 => ?_) (fun c_6 => ?_)
            · skip
              refine lv_iconst (v := 1) hx hb dX4_come_124 (by decide) ?_
              refine wr_i (wn := wTopE b a a2 ++ (wWag b cI ω ++ (wRivE a cI (σ 0 0) (σ 16 0) (σ 1) (σ 2) (σ 3) (σ 4) (nI (nc + 1)) (upd ((σ 5)) nc p2) (upd ((σ 6)) nc p3) (upd ((σ 7)) nc 20) (upd ((σ 8)) nc (nI sn)) (upd ((σ 9)) nc (nI ln)) (upd ((σ 10)) nc (nI sn)) (upd ((σ 11)) nc 0) (upd ((σ 12)) nc 0) (upd ((σ 13)) nc 1) ++ wRiv a2 cI σ2))) (va_runVN (As := [.int (nI sn), .int (nI ln), .int p2, .int p3, .int 1]) (rest := []) ⟨hx, hb, hml, hown, hts⟩ (M_X0_add l D cI a σ (nI sn) (nI ln) p2 p3 1 nc _ (by first | assumption | omega) (by first | assumption | omega)) ⟨va_cnB 5 hts gX4_come_X0_add_n113 rfl rfl rfl (nX4_113 hN) (hts (.initialized RX0) (by decide +kernel)) (by decide +kernel) ⟨Nat.le_of_ble_eq_true rfl, Nat.le_of_ble_eq_true rfl⟩, hts (.instanceMethod yX0_add) (by decide +kernel), hts (.selects RX0 yX0_add yX0_add) (by decide +kernel)⟩ (wrV hK hP hD [10, 11, 12, 13, 14, 15, 16, 17, 18, 19] [0] rfl rfl rfl (ci := 0) (q0 := 10) rfl rfl) rfl rfl hl.1 rfl (lv_room (Nat.le_of_ble_eq_true rfl)) dX4_come_125 ⟨Nat.le_of_ble_eq_true rfl, Nat.le_of_ble_eq_true rfl⟩) hP hD hS hA [10, 11, 12, 13, 14, 15, 16, 17, 18, 19] [0, 1, 2, 3, 4, 5, 6, 7, 8, 9, 20, 21, 22, 23, 24, 25, 26, 27, 28, 29, 30, 31, 32, 33, 34, 35] [0, 1, 2, 3, 4, 5, 6, 7, 8, 9, 26, 27, 28, 29, 30, 31, 32, 33, 34, 35, 10, 11, 12, 13, 14, 15, 16, 17, 18, 19, 20, 21, 22, 23, 24, 25] rfl rfl rfl rfl rfl rfl (fun H locs hP hD hS => ?_)
              subst hQ
              have hP : va_P D vwCl (wLan b a a2 cI (put (put (put (put (put (put (put (put (put (put σ 5 (upd ((σ 5)) nc p2)) 6 (upd ((σ 6)) nc p3)) 7 (upd ((σ 7)) nc 20)) 8 (upd ((σ 8)) nc (nI sn))) 9 (upd ((σ 9)) nc (nI ln))) 10 (upd ((σ 10)) nc (nI sn))) 11 (upd ((σ 11)) nc 0)) 12 (upd ((σ 12)) nc 0)) 13 (upd ((σ 13)) nc 1)) 17 (fun _ => nI (nc + 1))) σ2 ω) H := hP
              have hD : va_D A (wLan b a a2 cI (put (put (put (put (put (put (put (put (put (put σ 5 (upd ((σ 5)) nc p2)) 6 (upd ((σ 6)) nc p3)) 7 (upd ((σ 7)) nc 20)) 8 (upd ((σ 8)) nc (nI sn))) 9 (upd ((σ 9)) nc (nI ln))) 10 (upd ((σ 10)) nc (nI sn))) 11 (upd ((σ 11)) nc 0)) 12 (upd ((σ 12)) nc 0)) 13 (upd ((σ 13)) nc 1)) 17 (fun _ => nI (nc + 1))) σ2 ω) := hD
              have k_5 : (upd ((σ 5)) nc p2 : Nat → Int32) = (upd (σ 5) nc p2) := by rfl
              have k_6 : (upd ((σ 6)) nc p3 : Nat → Int32) = (upd (σ 6) nc p3) := by rfl
              have k_7 : (upd ((σ 7)) nc 20 : Nat → Int32) = (upd (σ 7) nc 20) := by rfl
              have k_8 : (upd ((σ 8)) nc (nI sn) : Nat → Int32) = (upd (σ 8) nc (nI sn)) := by rfl
              have k_9 : (upd ((σ 9)) nc (nI ln) : Nat → Int32) = (upd (σ 9) nc (nI ln)) := by rfl
              have k_10 : (upd ((σ 10)) nc (nI sn) : Nat → Int32) = (upd (σ 10) nc (nI sn)) := by rfl
              have k_11 : (upd ((σ 11)) nc 0 : Nat → Int32) = (upd (σ 11) nc 0) := by rfl
              have k_12 : (upd ((σ 12)) nc 0 : Nat → Int32) = (upd (σ 12) nc 0) := by rfl
              have k_13 : (upd ((σ 13)) nc 1 : Nat → Int32) = (upd (σ 13) nc 1) := by rfl
              have hst_s : put (put (put (put (put (put (put (put (put (put σ 5 (upd ((σ 5)) nc p2)) 6 (upd ((σ 6)) nc p3)) 7 (upd ((σ 7)) nc 20)) 8 (upd ((σ 8)) nc (nI sn))) 9 (upd ((σ 9)) nc (nI ln))) 10 (upd ((σ 10)) nc (nI sn))) 11 (upd ((σ 11)) nc 0)) 12 (upd ((σ 12)) nc 0)) 13 (upd ((σ 13)) nc 1)) 17 (fun _ => nI (nc + 1)) = put (put (put (put (put (put (put (put (put (put σ 5 (upd (σ 5) nc p2)) 6 (upd (σ 6) nc p3)) 7 (upd (σ 7) nc 20)) 8 (upd (σ 8) nc (nI sn))) 9 (upd (σ 9) nc (nI ln))) 10 (upd (σ 10) nc (nI sn))) 11 (upd (σ 11) nc 0)) 12 (upd (σ 12) nc 0)) 13 (upd (σ 13) nc 1)) 17 (fun _ => nI (nc + 1)) := put_cg (put_cg (put_cg (put_cg (put_cg (put_cg (put_cg (put_cg (put_cg (put_cg rfl k_5) k_6) k_7) k_8) k_9) k_10) k_11) k_12) k_13) rfl
              rw [hst_s] at hP hD
              exact ret_wri hx hb hr rfl hlocks hP hD hS (show nI nc = nI nc from rfl) dX4_come_128
            · skip
              first | exact absurd c_6 (by assumption) | exact absurd (by assumption) c_6
          · skip
            have c_5 : ¬ ((p2 + p3) ≤ sound ((σ 3)) ((σ 4)) (nI sn) (nI ln)) := bI_z.mp c_5
            first | exact absurd c_5 (by assumption) | exact absurd (by assumption) c_5
        · skip
          exact absurd (by rw [hnc]; exact (nI_ltI (a := nc) (b := 8) (by omega) (by omega)).mpr (by omega)) c_4
      · skip
        have c_3 : ¬ (0 ≤ p3 ∧ p3 ≤ 20) := bI_z.mp c_3
        first | exact absurd c_3 (by assumption) | exact absurd (by assumption) c_3
  · skip
    have c_1 : ¬ ((0 ≤ (nI sn) ∧ (nI sn) ≤ 11) ∧ (0 ≤ (nI ln) ∧ (nI ln) ≤ 2)) := bI_z.mp c_1
    first | exact absurd c_1 (by assumption) | exact absurd (by assumption) c_1
set_option maxHeartbeats 4000000 in
set_option maxRecDepth 100000 in
theorem M_X4_come_ok1 (l : Launch) (D : va_G) (cI : ClassId) (b : Nat → Nat) (a : Nat → Nat) (a2 : Nat → Nat) (σ : St) (σ2 : St) (ω : St) (sn : Nat) (ln : Nat) (p2 : Int32) (p3 : Int32) (sk : Int32) (nc : Nat) (sz : Nat) (hs : sn < 12) (hl9 : ln < 3) (h1 : ((0 ≤ nI sn ∧ nI sn ≤ 11) ∧ (0 ≤ nI ln ∧ nI ln ≤ 2))) (h2 : (1 ≤ p2 ∧ p2 ≤ 40)) (h3 : (0 ≤ p3 ∧ p3 ≤ 20)) (hnc : σ 17 0 = nI nc) (hn8 : nc < 8) (h4 : p2 + p3 ≤ sound (σ 3) (σ 4) (nI sn) (nI ln)) (h5 : ¬ sk = 0) : Met l yX4_come wsX4_come ({ frames := 3, cells := 0, slots := 0, locals := 67 } : Room) (wrPc [.ref (b 0), .int (nI sn), .int (nI ln), .int p2, .int p3, .int sk] D (wLan b a a2 cI σ σ2 ω) [(cI, .int)] sz) (wrQi (nI nc) D (wLan b a a2 cI (put (put (put (put (put (put (put (put (put (put σ 5 (upd (σ 5) nc p2)) 6 (upd (σ 6) nc p3)) 7 (upd (σ 7) nc 20)) 8 (upd (σ 8) nc (nI sn))) 9 (upd (σ 9) nc (nI ln))) 10 (upd (σ 10) nc (nI sn))) 11 (upd (σ 11) nc 0)) 12 (upd (σ 12) nc 0)) 13 (upd (σ 13) nc 2)) 17 (fun _ => nI (nc + 1))) σ2 ω) (va_A (wLan b a a2 cI σ σ2 ω) sz)) 0 0 (va_A (wLan b a a2 cI σ σ2 ω) sz) := by
  refine Met.ofW (cc := cX4_come) (maxL := 6) (ret := (some .int)) (by decide) rfl ?_
  intro p e s m args below meth c s₁ B hml hv
  obtain ⟨hargs, hsz, hP, hK, hD0⟩ := hv
  have hx := B.exec
  have hb := B.bytes
  have hr := B.returns
  have hts := atoms_spec (ws := wsX4_come) B.pre
  have hown : s.vm.findClass RX4 = some m.cls := findClass_of_methodNamed B.named
  have hlocks := B.notSynchronized
  obtain ⟨_, hN⟩ := id hK
  have hiX0 : ∀ w ∈ wsX00, w ∈ wsX4_come := by decide +kernel
  have hiX2 : ∀ w ∈ wsX20, w ∈ wsX4_come := by decide +kernel
  have hiX4 : ∀ w ∈ wsX40, w ∈ wsX4_come := by decide +kernel
  subst hsz
  have hD := hD0.self (sz := s.heap.size)
  generalize hAe : va_A (wLan b a a2 cI σ σ2 ω) s.heap.size = A at hD ⊢
  have hA : ∀ q : Nat, s.heap.size ≤ q → A q := fun q h => by rw [← hAe]; exact Or.inr h
  have hS : va_S A s.heap s.heap [] := va_S.rf
  have hP : va_P D vwCl (wLan b a a2 cI σ σ2 ω) s.heap := hP
  refine my_abs (fun Q hQ => ?_)
  obtain ⟨ls, hl, hent⟩ := my_entry (m := m) (n := 6) hargs (Nat.le_of_ble_eq_true rfl)
  rw [hent]
  have hl : lv_has ls 6 [(0, .ref (b 0)), (1, .int (nI sn)), (2, .int (nI ln)), (3, .int p2), (4, .int p3), (5, .int sk)] := hl
  show W p l e ({ frames := 3, cells := 0, slots := 0, locals := 67 } : Room) s m args below meth c s.heap [] 0 0 Q (F0 m 0 ls [])
  refine lv_iload_n hx hb dX4_come_0 rfl (lv_at hl 1 rfl) ?_
  refine lv_iload_n hx hb dX4_come_1 rfl (lv_at hl 2 rfl) ?_
  refine rd_i (va_runS (As := [.int (nI sn), .int (nI ln)]) (rest := []) ⟨hx, hb, hml, hown, hts⟩ (M_X4_isPlace l D cI (nI sn) (nI ln) ) (va_cwS 2 hts gX4_come_X4_isPlace rfl rfl rfl (by decide +kernel) ⟨Nat.le_of_ble_eq_true rfl, Nat.le_of_ble_eq_true rfl⟩) (rdS hK hP [] [0] rfl rfl) rfl rfl hl.1 rfl (lv_room (Nat.le_of_ble_eq_true rfl)) dX4_come_2 ⟨Nat.zero_le _, Nat.zero_le _⟩) ?_
  refine lv_if_ne (tgt := 18) hx hb dX4_come_5 (by decide) (fun c_1 => ?_) (fun c_1 => ?_)
  · skip
    have c_1 : ((0 ≤ (nI sn) ∧ (nI sn) ≤ 11) ∧ (0 ≤ (nI ln) ∧ (nI ln) ≤ 2)) := bI_nz.mp c_1
    refine lv_iload_n hx hb dX4_come_18 rfl (lv_at hl 3 rfl) ?_
    refine lv_iconst (v := 1) hx hb dX4_come_19 (by decide) ?_
    refine lv_bipush (v := 40) hx hb dX4_come_20 (by decide) ?_
    refine rd_i (va_runS (As := [.int p2, .int 1, .int 40]) (rest := []) ⟨hx, hb, hml, hown, hts⟩ (M_X4_isWithin l D cI p2 1 40 ) (va_cwS 3 hts gX4_come_X4_isWithin rfl rfl rfl (by decide +kernel) ⟨Nat.le_of_ble_eq_true rfl, Nat.le_of_ble_eq_true rfl⟩) (rdS hK hP [] [0] rfl rfl) rfl rfl hl.1 rfl (lv_room (Nat.le_of_ble_eq_true rfl)) dX4_come_22 ⟨Nat.zero_le _, Nat.zero_le _⟩) ?_
    refine lv_if_eq (tgt := 39) hx hb dX4_come_25 (by decide) (fun c_2 => ?_) (fun c_2 => ?_)
    · skip
      have c_2 : ¬ (1 ≤ p2 ∧ p2 ≤ 40) := bI_z.mp c_2
      first | exact absurd c_2 (by assumption) | exact absurd (by assumption) c_2
    · skip
      have c_2 : (1 ≤ p2 ∧ p2 ≤ 40) := bI_nz.mp c_2
      refine lv_iload hx hb dX4_come_28 (lv_at hl 4 rfl) ?_
      refine lv_iconst (v := 0) hx hb dX4_come_30 (by decide) ?_
      refine lv_bipush (v := 20) hx hb dX4_come_31 (by decide) ?_
      refine rd_i (va_runS (As := [.int p3, .int 0, .int 20]) (rest := []) ⟨hx, hb, hml, hown, hts⟩ (M_X4_isWithin l D cI p3 0 20 ) (va_cwS 3 hts gX4_come_X4_isWithin rfl rfl rfl (by decide +kernel) ⟨Nat.le_of_ble_eq_true rfl, Nat.le_of_ble_eq_true rfl⟩) (rdS hK hP [] [0] rfl rfl) rfl rfl hl.1 rfl (lv_room (Nat.le_of_ble_eq_true rfl)) dX4_come_33 ⟨Nat.zero_le _, Nat.zero_le _⟩) ?_
      refine lv_if_ne (tgt := 49) hx hb dX4_come_36 (by decide) (fun c_3 => ?_) (fun c_3 => ?_)
      · skip
        have c_3 : (0 ≤ p3 ∧ p3 ≤ 20) := bI_nz.mp c_3
        refine lv_aload_n hx hb dX4_come_49 rfl (lv_at hl 0 rfl) ?_
        refine va_get (D := D) (ci := 4) (v := .ref (a 0)) (C := RX4) (T := TX4) (N := 3) hx hb hts hiX4 hown hK.1 hP 0 rfl rfl 0 (by decide) (hts (.fieldLink RX4 12 "IceLanes" "river" "LIceLanes$River;") (by decide +kernel)) (fun _ h9 => h9) rfl dX4_come_50 ?_
        refine va_getN (D := D) (ci := 2) (v := .ref (a 6)) (C := RX2) (T := TX2) (N := 6) hx hb hts hiX2 hown hK.1 hP 4 rfl rfl 5 (by decide) (va_Nw.use rfl (nX4_88 hN)) (fun _ h9 => h9) rfl dX4_come_53 ?_
        refine va_getN (D := D) (ci := 0) (v := .int (σ 17 0)) (C := RX0) (T := TX0) (N := 10) hx hb hts hiX0 hown hK.1 hP 10 rfl rfl 0 (by decide) (va_Nw.use rfl (nX4_99 hN)) (fun _ h9 => h9) rfl dX4_come_56 ?_
        refine lv_bipush (v := 8) hx hb dX4_come_59 (by decide) ?_
        refine lv_icmp_lt (tgt := 74) hx hb dX4_come_61 (by decide) (fun c_4 => ?_) (fun c_4 => ?_)
        · skip
          refine lv_aload_n hx hb dX4_come_74 rfl (lv_at hl 0 rfl) ?_
          refine va_get (D := D) (ci := 4) (v := .ref (a 0)) (C := RX4) (T := TX4) (N := 3) hx hb hts hiX4 hown hK.1 hP 0 rfl rfl 0 (by decide) (hts (.fieldLink RX4 12 "IceLanes" "river" "LIceLanes$River;") (by decide +kernel)) (fun _ h9 => h9) rfl dX4_come_75 ?_
          refine va_getN (D := D) (ci := 2) (v := .ref (a 3)) (C := RX2) (T := TX2) (N := 6) hx hb hts hiX2 hown hK.1 hP 4 rfl rfl 4 (by decide) (va_Nw.use rfl (nX4_58 hN)) (fun _ h9 => h9) rfl dX4_come_78 ?_
          refine lv_iload_n hx hb dX4_come_81 rfl (lv_at hl 1 rfl) ?_
          refine lv_iload_n hx hb dX4_come_82 rfl (lv_at hl 2 rfl) ?_
          refine lv_iload_n hx hb dX4_come_83 rfl (lv_at hl 3 rfl) ?_
          refine lv_iload hx hb dX4_come_84 (lv_at hl 4 rfl) ?_
          refine lv_iadd hx hb dX4_come_86 ?_
          refine rd_i (va_runVN (As := [.int (nI sn), .int (nI ln), .int (p2 + p3)]) (rest := []) ⟨hx, hb, hml, hown, hts⟩ (M_X1_holds l D cI a σ (nI sn) (nI ln) (p2 + p3) (nI_le11 hs) (nI_le2 hl9)) ⟨va_cnB 3 hts gX4_come_X1_holds_n108 rfl rfl rfl (nX4_108 hN) (hts (.initialized RX1) (by decide +kernel)) (by decide +kernel) ⟨Nat.le_of_ble_eq_true rfl, Nat.le_of_ble_eq_true rfl⟩, hts (.instanceMethod yX1_holds) (by decide +kernel), hts (.selects RX1 yX1_holds yX1_holds) (by decide +kernel)⟩ (rdV hK hP [7, 8, 9] [0] rfl rfl (ci := 1) (q0 := 7) rfl rfl) rfl rfl hl.1 rfl (lv_room (Nat.le_of_ble_eq_true rfl)) dX4_come_87 ⟨Nat.zero_le _, Nat.zero_le _⟩) ?_
          refine lv_if_ne (tgt := 103) hx hb dX4_come_90 (by decide) (fun c_5 => ?_) (fun c_5 => ?_)
          · skip
            have c_5 : ((p2 + p3) ≤ sound ((σ 3)) ((σ 4)) (nI sn) (nI ln)) := bI_nz.mp c_5
            refine lv_aload_n hx hb dX4_come_103 rfl (lv_at hl 0 rfl) ?_
            refine va_get (D := D) (ci := 4) (v := .ref (a 0)) (C := RX4) (T := TX4) (N := 3) hx hb hts hiX4 hown hK.1 hP 0 rfl rfl 0 (by decide) (hts (.fieldLink RX4 12 "IceLanes" "river" "LIceLanes$River;") (by decide +kernel)) (fun _ h9 => h9) rfl dX4_come_104 ?_
            refine va_getN (D := D) (ci := 2) (v := .ref (a 6)) (C := RX2) (T := TX2) (N := 6) hx hb hts hiX2 hown hK.1 hP 4 rfl rfl 5 (by decide) (va_Nw.use rfl (nX4_88 hN)) (fun _ h9 => h9) rfl dX4_come_107 ?_
            refine lv_iload_n hx hb dX4_come_110 rfl (lv_at hl 1 rfl) ?_
            refine lv_iload_n hx hb dX4_come_111 rfl (lv_at hl 2 rfl) ?_
            refine lv_iload_n hx hb dX4_come_112 rfl (lv_at hl 3 rfl) ?_
            refine lv_iload hx hb dX4_come_113 (lv_at hl 4 rfl) ?_
            refine lv_iload hx hb dX4_come_115 (lv_at hl 5 rfl) ?_
            refine lv_if_eq (tgt := 124) hx hb dX4_come_117 (by decide) (fun c_6 => ?_) (fun c_6 => ?_)
            · skip
              first | exact absurd c_6 (by assumption) | exact absurd (by assumption) c_6
            · skip
              refine lv_iconst (v := 2) hx hb dX4_come_120 (by decide) ?_
              refine lv_goto (tgt := 125) hx hb dX4_come_121 (by decide) ?_
              refine wr_i (wn := wTopE b a a2 ++ (wWag b cI ω ++ (wRivE a cI (σ 0 0) (σ 16 0) (σ 1) (σ 2) (σ 3) (σ 4) (nI (nc + 1)) (upd ((σ 5)) nc p2) (upd ((σ 6)) nc p3) (upd ((σ 7)) nc 20) (upd ((σ 8)) nc (nI sn)) (upd ((σ 9)) nc (nI ln)) (upd ((σ 10)) nc (nI sn)) (upd ((σ 11)) nc 0) (upd ((σ 12)) nc 0) (upd ((σ 13)) nc 2) ++ wRiv a2 cI σ2))) (va_runVN (As := [.int (nI sn), .int (nI ln), .int p2, .int p3, .int 2]) (rest := []) ⟨hx, hb, hml, hown, hts⟩ (M_X0_add l D cI a σ (nI sn) (nI ln) p2 p3 2 nc _ (by first | assumption | omega) (by first | assumption | omega)) ⟨va_cnB 5 hts gX4_come_X0_add_n113 rfl rfl rfl (nX4_113 hN) (hts (.initialized RX0) (by decide +kernel)) (by decide +kernel) ⟨Nat.le_of_ble_eq_true rfl, Nat.le_of_ble_eq_true rfl⟩, hts (.instanceMethod yX0_add) (by decide +kernel), hts (.selects RX0 yX0_add yX0_add) (by decide +kernel)⟩ (wrV hK hP hD [10, 11, 12, 13, 14, 15, 16, 17, 18, 19] [0] rfl rfl rfl (ci := 0) (q0 := 10) rfl rfl) rfl rfl hl.1 rfl (lv_room (Nat.le_of_ble_eq_true rfl)) dX4_come_125 ⟨Nat.le_of_ble_eq_true rfl, Nat.le_of_ble_eq_true rfl⟩) hP hD hS hA [10, 11, 12, 13, 14, 15, 16, 17, 18, 19] [0, 1, 2, 3, 4, 5, 6, 7, 8, 9, 20, 21, 22, 23, 24, 25, 26, 27, 28, 29, 30, 31, 32, 33, 34, 35] [0, 1, 2, 3, 4, 5, 6, 7, 8, 9, 26, 27, 28, 29, 30, 31, 32, 33, 34, 35, 10, 11, 12, 13, 14, 15, 16, 17, 18, 19, 20, 21, 22, 23, 24, 25] rfl rfl rfl rfl rfl rfl (fun H locs hP hD hS => ?_)
              subst hQ
              have hP : va_P D vwCl (wLan b a a2 cI (put (put (put (put (put (put (put (put (put (put σ 5 (upd ((σ 5)) nc p2)) 6 (upd ((σ 6)) nc p3)) 7 (upd ((σ 7)) nc 20)) 8 (upd ((σ 8)) nc (nI sn))) 9 (upd ((σ 9)) nc (nI ln))) 10 (upd ((σ 10)) nc (nI sn))) 11 (upd ((σ 11)) nc 0)) 12 (upd ((σ 12)) nc 0)) 13 (upd ((σ 13)) nc 2)) 17 (fun _ => nI (nc + 1))) σ2 ω) H := hP
              have hD : va_D A (wLan b a a2 cI (put (put (put (put (put (put (put (put (put (put σ 5 (upd ((σ 5)) nc p2)) 6 (upd ((σ 6)) nc p3)) 7 (upd ((σ 7)) nc 20)) 8 (upd ((σ 8)) nc (nI sn))) 9 (upd ((σ 9)) nc (nI ln))) 10 (upd ((σ 10)) nc (nI sn))) 11 (upd ((σ 11)) nc 0)) 12 (upd ((σ 12)) nc 0)) 13 (upd ((σ 13)) nc 2)) 17 (fun _ => nI (nc + 1))) σ2 ω) := hD
              have k_5 : (upd ((σ 5)) nc p2 : Nat → Int32) = (upd (σ 5) nc p2) := by rfl
              have k_6 : (upd ((σ 6)) nc p3 : Nat → Int32) = (upd (σ 6) nc p3) := by rfl
              have k_7 : (upd ((σ 7)) nc 20 : Nat → Int32) = (upd (σ 7) nc 20) := by rfl
              have k_8 : (upd ((σ 8)) nc (nI sn) : Nat → Int32) = (upd (σ 8) nc (nI sn)) := by rfl
              have k_9 : (upd ((σ 9)) nc (nI ln) : Nat → Int32) = (upd (σ 9) nc (nI ln)) := by rfl
              have k_10 : (upd ((σ 10)) nc (nI sn) : Nat → Int32) = (upd (σ 10) nc (nI sn)) := by rfl
              have k_11 : (upd ((σ 11)) nc 0 : Nat → Int32) = (upd (σ 11) nc 0) := by rfl
              have k_12 : (upd ((σ 12)) nc 0 : Nat → Int32) = (upd (σ 12) nc 0) := by rfl
              have k_13 : (upd ((σ 13)) nc 2 : Nat → Int32) = (upd (σ 13) nc 2) := by rfl
              have hst_s : put (put (put (put (put (put (put (put (put (put σ 5 (upd ((σ 5)) nc p2)) 6 (upd ((σ 6)) nc p3)) 7 (upd ((σ 7)) nc 20)) 8 (upd ((σ 8)) nc (nI sn))) 9 (upd ((σ 9)) nc (nI ln))) 10 (upd ((σ 10)) nc (nI sn))) 11 (upd ((σ 11)) nc 0)) 12 (upd ((σ 12)) nc 0)) 13 (upd ((σ 13)) nc 2)) 17 (fun _ => nI (nc + 1)) = put (put (put (put (put (put (put (put (put (put σ 5 (upd (σ 5) nc p2)) 6 (upd (σ 6) nc p3)) 7 (upd (σ 7) nc 20)) 8 (upd (σ 8) nc (nI sn))) 9 (upd (σ 9) nc (nI ln))) 10 (upd (σ 10) nc (nI sn))) 11 (upd (σ 11) nc 0)) 12 (upd (σ 12) nc 0)) 13 (upd (σ 13) nc 2)) 17 (fun _ => nI (nc + 1)) := put_cg (put_cg (put_cg (put_cg (put_cg (put_cg (put_cg (put_cg (put_cg (put_cg rfl k_5) k_6) k_7) k_8) k_9) k_10) k_11) k_12) k_13) rfl
              rw [hst_s] at hP hD
              exact ret_wri hx hb hr rfl hlocks hP hD hS (show nI nc = nI nc from rfl) dX4_come_128
          · skip
            have c_5 : ¬ ((p2 + p3) ≤ sound ((σ 3)) ((σ 4)) (nI sn) (nI ln)) := bI_z.mp c_5
            first | exact absurd c_5 (by assumption) | exact absurd (by assumption) c_5
        · skip
          exact absurd (by rw [hnc]; exact (nI_ltI (a := nc) (b := 8) (by omega) (by omega)).mpr (by omega)) c_4
      · skip
        have c_3 : ¬ (0 ≤ p3 ∧ p3 ≤ 20) := bI_z.mp c_3
        first | exact absurd c_3 (by assumption) | exact absurd (by assumption) c_3
  · skip
    have c_1 : ¬ ((0 ≤ (nI sn) ∧ (nI sn) ≤ 11) ∧ (0 ≤ (nI ln) ∧ (nI ln) ≤ 2)) := bI_z.mp c_1
    first | exact absurd c_1 (by assumption) | exact absurd (by assumption) c_1
set_option maxHeartbeats 4000000 in
set_option maxRecDepth 100000 in
theorem M_X4_send_ok (l : Launch) (D : va_G) (cI : ClassId) (b : Nat → Nat) (a : Nat → Nat) (a2 : Nat → Nat) (σ : St) (σ2 : St) (ω : St) (cu : Nat) (p1 : Int32) (sz : Nat) (hcu : cu < 8) (h1 : (0 ≤ nI cu ∧ nI cu ≤ σ 17 0 - 1)) (h2 : (0 ≤ p1 ∧ p1 ≤ 11)) (h3 : ¬ σ 11 cu = 3) : Met l yX4_send wsX4_send ({ frames := 2, cells := 0, slots := 0, locals := 43 } : Room) (wrPc [.ref (b 0), .int (nI cu), .int p1] D (wLan b a a2 cI σ σ2 ω) [(cI, .int)] sz) (wrQi (ab (σ 8 cu - p1)) D (wLan b a a2 cI (put (put σ 10 (upd (σ 10) cu p1)) 11 (upd (σ 11) cu 0)) σ2 ω) (va_A (wLan b a a2 cI σ σ2 ω) sz)) 0 0 (va_A (wLan b a a2 cI σ σ2 ω) sz) := by
  refine Met.ofW (cc := cX4_send) (maxL := 3) (ret := (some .int)) (by decide) rfl ?_
  intro p e s m args below meth c s₁ B hml hv
  obtain ⟨hargs, hsz, hP, hK, hD0⟩ := hv
  have hx := B.exec
  have hb := B.bytes
  have hr := B.returns
  have hts := atoms_spec (ws := wsX4_send) B.pre
  have hown : s.vm.findClass RX4 = some m.cls := findClass_of_methodNamed B.named
  have hlocks := B.notSynchronized
  obtain ⟨_, hN⟩ := id hK
  have hiX0 : ∀ w ∈ wsX00, w ∈ wsX4_send := by decide +kernel
  have hiX2 : ∀ w ∈ wsX20, w ∈ wsX4_send := by decide +kernel
  have hiX4 : ∀ w ∈ wsX40, w ∈ wsX4_send := by decide +kernel
  subst hsz
  have hD := hD0.self (sz := s.heap.size)
  generalize hAe : va_A (wLan b a a2 cI σ σ2 ω) s.heap.size = A at hD ⊢
  have hA : ∀ q : Nat, s.heap.size ≤ q → A q := fun q h => by rw [← hAe]; exact Or.inr h
  have hS : va_S A s.heap s.heap [] := va_S.rf
  have hP : va_P D vwCl (wLan b a a2 cI σ σ2 ω) s.heap := hP
  refine my_abs (fun Q hQ => ?_)
  obtain ⟨ls, hl, hent⟩ := my_entry (m := m) (n := 3) hargs (Nat.le_of_ble_eq_true rfl)
  rw [hent]
  have hl : lv_has ls 3 [(0, .ref (b 0)), (1, .int (nI cu)), (2, .int p1)] := hl
  show W p l e ({ frames := 2, cells := 0, slots := 0, locals := 43 } : Room) s m args below meth c s.heap [] 0 0 Q (F0 m 0 ls [])
  refine lv_aload_n hx hb dX4_send_0 rfl (lv_at hl 0 rfl) ?_
  refine va_get (D := D) (ci := 4) (v := .ref (a 0)) (C := RX4) (T := TX4) (N := 3) hx hb hts hiX4 hown hK.1 hP 0 rfl rfl 0 (by decide) (hts (.fieldLink RX4 12 "IceLanes" "river" "LIceLanes$River;") (by decide +kernel)) (fun _ h9 => h9) rfl dX4_send_1 ?_
  refine va_getN (D := D) (ci := 2) (v := .ref (a 6)) (C := RX2) (T := TX2) (N := 6) hx hb hts hiX2 hown hK.1 hP 4 rfl rfl 5 (by decide) (va_Nw.use rfl (nX4_88 hN)) (fun _ h9 => h9) rfl dX4_send_4 ?_
  refine lv_iload_n hx hb dX4_send_7 rfl (lv_at hl 1 rfl) ?_
  refine rd_i (va_runVN (As := [.int (nI cu)]) (rest := []) ⟨hx, hb, hml, hown, hts⟩ (M_X0_has l D cI a σ (nI cu) ) ⟨va_cnB 1 hts gX4_send_X0_has_n117 rfl rfl rfl (nX4_117 hN) (hts (.initialized RX0) (by decide +kernel)) (by decide +kernel) ⟨Nat.le_of_ble_eq_true rfl, Nat.le_of_ble_eq_true rfl⟩, hts (.instanceMethod yX0_has) (by decide +kernel), hts (.selects RX0 yX0_has yX0_has) (by decide +kernel)⟩ (rdV hK hP [10, 11, 12, 13, 14, 15, 16, 17, 18, 19] [0] rfl rfl (ci := 0) (q0 := 10) rfl rfl) rfl rfl hl.1 rfl (lv_room (Nat.le_of_ble_eq_true rfl)) dX4_send_8 ⟨Nat.zero_le _, Nat.zero_le _⟩) ?_
  refine lv_if_eq (tgt := 21) hx hb dX4_send_11 (by decide) (fun c_1 => ?_) (fun c_1 => ?_)
  · skip
    have c_1 : ¬ (0 ≤ (nI cu) ∧ (nI cu) ≤ (σ 17 0) - 1) := bI_z.mp c_1
    first | exact absurd c_1 (by assumption) | exact absurd (by assumption) c_1
  · skip
    have c_1 : (0 ≤ (nI cu) ∧ (nI cu) ≤ (σ 17 0) - 1) := bI_nz.mp c_1
    refine lv_iload_n hx hb dX4_send_14 rfl (lv_at hl 2 rfl) ?_
    refine rd_i (va_runS (As := [.int p1]) (rest := []) ⟨hx, hb, hml, hown, hts⟩ (M_X4_isSection l D cI p1 ) (va_cwS 1 hts gX4_send_X4_isSection rfl rfl rfl (by decide +kernel) ⟨Nat.le_of_ble_eq_true rfl, Nat.le_of_ble_eq_true rfl⟩) (rdS hK hP [] [0] rfl rfl) rfl rfl hl.1 rfl (lv_room (Nat.le_of_ble_eq_true rfl)) dX4_send_15 ⟨Nat.zero_le _, Nat.zero_le _⟩) ?_
    refine lv_if_ne (tgt := 31) hx hb dX4_send_18 (by decide) (fun c_2 => ?_) (fun c_2 => ?_)
    · skip
      have c_2 : (0 ≤ p1 ∧ p1 ≤ 11) := bI_nz.mp c_2
      refine lv_aload_n hx hb dX4_send_31 rfl (lv_at hl 0 rfl) ?_
      refine va_get (D := D) (ci := 4) (v := .ref (a 0)) (C := RX4) (T := TX4) (N := 3) hx hb hts hiX4 hown hK.1 hP 0 rfl rfl 0 (by decide) (hts (.fieldLink RX4 12 "IceLanes" "river" "LIceLanes$River;") (by decide +kernel)) (fun _ h9 => h9) rfl dX4_send_32 ?_
      refine va_getN (D := D) (ci := 2) (v := .ref (a 6)) (C := RX2) (T := TX2) (N := 6) hx hb hts hiX2 hown hK.1 hP 4 rfl rfl 5 (by decide) (va_Nw.use rfl (nX4_88 hN)) (fun _ h9 => h9) rfl dX4_send_35 ?_
      refine va_getN (D := D) (ci := 0) (v := .ref (a 13)) (C := RX0) (T := TX0) (N := 10) hx hb hts hiX0 hown hK.1 hP 10 rfl rfl 7 (by decide) (va_Nw.use rfl (nX4_122 hN)) (fun _ h9 => h9) rfl dX4_send_38 ?_
      refine lv_iload_n hx hb dX4_send_41 rfl (lv_at hl 1 rfl) ?_
      refine va_iald hx hb hK.1 hP 17 0 rfl rfl (by first | assumption | exact vp_in_nI (by omega) (by decide)) dX4_send_42 ?_
      rw [nI_clamp (n := cu) (by omega)]
      refine lv_iconst (v := 3) hx hb dX4_send_43 (by decide) ?_
      refine lv_icmp_ne (tgt := 57) hx hb dX4_send_44 (by decide) (fun c_3 => ?_) (fun c_3 => ?_)
      · skip
        refine lv_aload_n hx hb dX4_send_57 rfl (lv_at hl 0 rfl) ?_
        refine va_get (D := D) (ci := 4) (v := .ref (a 0)) (C := RX4) (T := TX4) (N := 3) hx hb hts hiX4 hown hK.1 hP 0 rfl rfl 0 (by decide) (hts (.fieldLink RX4 12 "IceLanes" "river" "LIceLanes$River;") (by decide +kernel)) (fun _ h9 => h9) rfl dX4_send_58 ?_
        refine va_getN (D := D) (ci := 2) (v := .ref (a 6)) (C := RX2) (T := TX2) (N := 6) hx hb hts hiX2 hown hK.1 hP 4 rfl rfl 5 (by decide) (va_Nw.use rfl (nX4_88 hN)) (fun _ h9 => h9) rfl dX4_send_61 ?_
        refine va_getN (D := D) (ci := 0) (v := .ref (a 12)) (C := RX0) (T := TX0) (N := 10) hx hb hts hiX0 hown hK.1 hP 10 rfl rfl 6 (by decide) (va_Nw.use rfl (nX4_127 hN)) (fun _ h9 => h9) rfl dX4_send_64 ?_
        refine lv_iload_n hx hb dX4_send_67 rfl (lv_at hl 1 rfl) ?_
        refine lv_iload_n hx hb dX4_send_68 rfl (lv_at hl 2 rfl) ?_
        refine va_iast hx hb hK.1 hP hD hS 16 0 rfl rfl (by first | assumption | exact vp_in_nI (by omega) (by decide)) dX4_send_69 (fun H locs hP hD hS => ?_)
        rw [nI_clamp (n := cu) (by omega)] at hP hD
        have hP : va_P D vwCl (wTopE b a a2 ++ (wWag b cI ω ++ (wRivE a cI (σ 0 0) (σ 16 0) (σ 1) (σ 2) (σ 3) (σ 4) (σ 17 0) (σ 5) (σ 6) (σ 7) (σ 8) (σ 9) (upd (σ 10) cu p1) (σ 11) (σ 12) (σ 13) ++ wRiv a2 cI σ2))) H := hP
        have hD : va_D A (wTopE b a a2 ++ (wWag b cI ω ++ (wRivE a cI (σ 0 0) (σ 16 0) (σ 1) (σ 2) (σ 3) (σ 4) (σ 17 0) (σ 5) (σ 6) (σ 7) (σ 8) (σ 9) (upd (σ 10) cu p1) (σ 11) (σ 12) (σ 13) ++ wRiv a2 cI σ2))) := hD
        refine lv_aload_n hx hb dX4_send_70 rfl (lv_at hl 0 rfl) ?_
        refine va_get (D := D) (ci := 4) (v := .ref (a 0)) (C := RX4) (T := TX4) (N := 3) hx hb hts hiX4 hown hK.1 hP 0 rfl rfl 0 (by decide) (hts (.fieldLink RX4 12 "IceLanes" "river" "LIceLanes$River;") (by decide +kernel)) (fun _ h9 => h9) rfl dX4_send_71 ?_
        refine va_getN (D := D) (ci := 2) (v := .ref (a 6)) (C := RX2) (T := TX2) (N := 6) hx hb hts hiX2 hown hK.1 hP 4 rfl rfl 5 (by decide) (va_Nw.use rfl (nX4_88 hN)) (fun _ h9 => h9) rfl dX4_send_74 ?_
        refine va_getN (D := D) (ci := 0) (v := .ref (a 13)) (C := RX0) (T := TX0) (N := 10) hx hb hts hiX0 hown hK.1 hP 10 rfl rfl 7 (by decide) (va_Nw.use rfl (nX4_122 hN)) (fun _ h9 => h9) rfl dX4_send_77 ?_
        refine lv_iload_n hx hb dX4_send_80 rfl (lv_at hl 1 rfl) ?_
        refine lv_iconst (v := 0) hx hb dX4_send_81 (by decide) ?_
        refine va_iast hx hb hK.1 hP hD hS 17 0 rfl rfl (by first | assumption | exact vp_in_nI (by omega) (by decide)) dX4_send_82 (fun H locs hP hD hS => ?_)
        rw [nI_clamp (n := cu) (by omega)] at hP hD
        have hP : va_P D vwCl (wTopE b a a2 ++ (wWag b cI ω ++ (wRivE a cI (σ 0 0) (σ 16 0) (σ 1) (σ 2) (σ 3) (σ 4) (σ 17 0) (σ 5) (σ 6) (σ 7) (σ 8) (σ 9) (upd (σ 10) cu p1) (upd (σ 11) cu 0) (σ 12) (σ 13) ++ wRiv a2 cI σ2))) H := hP
        have hD : va_D A (wTopE b a a2 ++ (wWag b cI ω ++ (wRivE a cI (σ 0 0) (σ 16 0) (σ 1) (σ 2) (σ 3) (σ 4) (σ 17 0) (σ 5) (σ 6) (σ 7) (σ 8) (σ 9) (upd (σ 10) cu p1) (upd (σ 11) cu 0) (σ 12) (σ 13) ++ wRiv a2 cI σ2))) := hD
        refine lv_aload_n hx hb dX4_send_83 rfl (lv_at hl 0 rfl) ?_
        refine va_get (D := D) (ci := 4) (v := .ref (a 0)) (C := RX4) (T := TX4) (N := 3) hx hb hts hiX4 hown hK.1 hP 0 rfl rfl 0 (by decide) (hts (.fieldLink RX4 12 "IceLanes" "river" "LIceLanes$River;") (by decide +kernel)) (fun _ h9 => h9) rfl dX4_send_84 ?_
        refine va_getN (D := D) (ci := 2) (v := .ref (a 6)) (C := RX2) (T := TX2) (N := 6) hx hb hts hiX2 hown hK.1 hP 4 rfl rfl 5 (by decide) (va_Nw.use rfl (nX4_88 hN)) (fun _ h9 => h9) rfl dX4_send_87 ?_
        refine va_getN (D := D) (ci := 0) (v := .ref (a 10)) (C := RX0) (T := TX0) (N := 10) hx hb hts hiX0 hown hK.1 hP 10 rfl rfl 4 (by decide) (va_Nw.use rfl (nX4_130 hN)) (fun _ h9 => h9) rfl dX4_send_90 ?_
        refine lv_iload_n hx hb dX4_send_93 rfl (lv_at hl 1 rfl) ?_
        refine va_iald hx hb hK.1 hP 14 0 rfl rfl (by first | assumption | exact vp_in_nI (by omega) (by decide)) dX4_send_94 ?_
        rw [nI_clamp (n := cu) (by omega)]
        refine lv_iload_n hx hb dX4_send_95 rfl (lv_at hl 2 rfl) ?_
        refine lv_isub hx hb dX4_send_96 ?_
        refine va_mabs hx hb (by rw [hml]; exact hl.1.symm) hown (hts (.methodLink RX4 133 Lib.Math.abs.name) (by decide +kernel)) (hts (.static Lib.Math.abs.name) (by decide +kernel)) (hts (.initialized "java/lang/Math") (by decide +kernel)) (hts (.code Lib.Math.abs.name Lib.Math.abs.code 1 (some .int)) (by decide +kernel)) (Nat.le_of_ble_eq_true rfl) (Nat.le_of_ble_eq_true rfl) (Nat.zero_le _) (Nat.zero_le _) dX4_send_97 ?_
        refine W.eq (g2 := F0 m 100 ls [.int (ab ((σ 8 cu) - p1))]) rfl ?_
        subst hQ
        have hP : va_P D vwCl (wLan b a a2 cI (put (put σ 10 (upd (σ 10) cu p1)) 11 (upd (σ 11) cu 0)) σ2 ω) H := hP
        have hD : va_D A (wLan b a a2 cI (put (put σ 10 (upd (σ 10) cu p1)) 11 (upd (σ 11) cu 0)) σ2 ω) := hD
        exact ret_wri hx hb hr rfl hlocks hP hD hS (show ab ((σ 8 cu) - p1) = ab (σ 8 cu - p1) from rfl) dX4_send_100
      · skip
        first | exact absurd c_3 (by assumption) | exact absurd (by assumption) c_3
    · skip
      have c_2 : ¬ (0 ≤ p1 ∧ p1 ≤ 11) := bI_z.mp c_2
      first | exact absurd c_2 (by assumption) | exact absurd (by assumption) c_2
set_option maxHeartbeats 4000000 in
set_option maxRecDepth 100000 in
theorem M_X4_load_ok (l : Launch) (D : va_G) (cI : ClassId) (b : Nat → Nat) (a : Nat → Nat) (a2 : Nat → Nat) (σ : St) (σ2 : St) (ω : St) (cu : Nat) (p1 : Int32) (sz : Nat) (hcu : cu < 8) (h1 : (0 ≤ nI cu ∧ nI cu ≤ σ 17 0 - 1)) (h2 : ¬ p1 = 0) (h3 : ((-20) ≤ p1 ∧ p1 ≤ 20)) (h4 : ¬ σ 11 cu = 3) (h5 : (0 ≤ σ 6 cu + p1 ∧ σ 6 cu + p1 ≤ 20)) (h6 : inS (σ 8 cu)) (h7 : inL (σ 9 cu)) (h8 : σ 5 cu + (σ 6 cu + p1) ≤ sound (σ 3) (σ 4) (σ 8 cu) (σ 9 cu)) : Met l yX4_load wsX4_load ({ frames := 4, cells := 0, slots := 0, locals := 90 } : Room) (wrPc [.ref (b 0), .int (nI cu), .int p1] D (wLan b a a2 cI σ σ2 ω) [(cI, .int)] sz) (wrQi (σ 6 cu + p1) D (wLan b a a2 cI (put σ 6 (upd (σ 6) cu (σ 6 cu + p1))) σ2 ω) (va_A (wLan b a a2 cI σ σ2 ω) sz)) 0 0 (va_A (wLan b a a2 cI σ σ2 ω) sz) := by
  refine Met.ofW (cc := cX4_load) (maxL := 4) (ret := (some .int)) (by decide) rfl ?_
  intro p e s m args below meth c s₁ B hml hv
  obtain ⟨hargs, hsz, hP, hK, hD0⟩ := hv
  have hx := B.exec
  have hb := B.bytes
  have hr := B.returns
  have hts := atoms_spec (ws := wsX4_load) B.pre
  have hown : s.vm.findClass RX4 = some m.cls := findClass_of_methodNamed B.named
  have hlocks := B.notSynchronized
  obtain ⟨_, hN⟩ := id hK
  have hiX0 : ∀ w ∈ wsX00, w ∈ wsX4_load := by decide +kernel
  have hiX2 : ∀ w ∈ wsX20, w ∈ wsX4_load := by decide +kernel
  have hiX4 : ∀ w ∈ wsX40, w ∈ wsX4_load := by decide +kernel
  subst hsz
  have hD := hD0.self (sz := s.heap.size)
  generalize hAe : va_A (wLan b a a2 cI σ σ2 ω) s.heap.size = A at hD ⊢
  have hA : ∀ q : Nat, s.heap.size ≤ q → A q := fun q h => by rw [← hAe]; exact Or.inr h
  have hS : va_S A s.heap s.heap [] := va_S.rf
  have hP : va_P D vwCl (wLan b a a2 cI σ σ2 ω) s.heap := hP
  refine my_abs (fun Q hQ => ?_)
  obtain ⟨ls, hl, hent⟩ := my_entry (m := m) (n := 4) hargs (Nat.le_of_ble_eq_true rfl)
  rw [hent]
  have hl : lv_has ls 4 [(0, .ref (b 0)), (1, .int (nI cu)), (2, .int p1)] := hl
  show W p l e ({ frames := 4, cells := 0, slots := 0, locals := 90 } : Room) s m args below meth c s.heap [] 0 0 Q (F0 m 0 ls [])
  refine lv_aload_n hx hb dX4_load_0 rfl (lv_at hl 0 rfl) ?_
  refine va_get (D := D) (ci := 4) (v := .ref (a 0)) (C := RX4) (T := TX4) (N := 3) hx hb hts hiX4 hown hK.1 hP 0 rfl rfl 0 (by decide) (hts (.fieldLink RX4 12 "IceLanes" "river" "LIceLanes$River;") (by decide +kernel)) (fun _ h9 => h9) rfl dX4_load_1 ?_
  refine va_getN (D := D) (ci := 2) (v := .ref (a 6)) (C := RX2) (T := TX2) (N := 6) hx hb hts hiX2 hown hK.1 hP 4 rfl rfl 5 (by decide) (va_Nw.use rfl (nX4_88 hN)) (fun _ h9 => h9) rfl dX4_load_4 ?_
  refine lv_iload_n hx hb dX4_load_7 rfl (lv_at hl 1 rfl) ?_
  refine rd_i (va_runVN (As := [.int (nI cu)]) (rest := []) ⟨hx, hb, hml, hown, hts⟩ (M_X0_has l D cI a σ (nI cu) ) ⟨va_cnB 1 hts gX4_load_X0_has_n117 rfl rfl rfl (nX4_117 hN) (hts (.initialized RX0) (by decide +kernel)) (by decide +kernel) ⟨Nat.le_of_ble_eq_true rfl, Nat.le_of_ble_eq_true rfl⟩, hts (.instanceMethod yX0_has) (by decide +kernel), hts (.selects RX0 yX0_has yX0_has) (by decide +kernel)⟩ (rdV hK hP [10, 11, 12, 13, 14, 15, 16, 17, 18, 19] [0] rfl rfl (ci := 0) (q0 := 10) rfl rfl) rfl rfl hl.1 rfl (lv_room (Nat.le_of_ble_eq_true rfl)) dX4_load_8 ⟨Nat.zero_le _, Nat.zero_le _⟩) ?_
  refine lv_if_ne (tgt := 24) hx hb dX4_load_11 (by decide) (fun c_1 => ?_) (fun c_1 => ?_)
  · skip
    have c_1 : (0 ≤ (nI cu) ∧ (nI cu) ≤ (σ 17 0) - 1) := bI_nz.mp c_1
    refine lv_iload_n hx hb dX4_load_24 rfl (lv_at hl 2 rfl) ?_
    refine lv_if_eq (tgt := 39) hx hb dX4_load_25 (by decide) (fun c_2 => ?_) (fun c_2 => ?_)
    · skip
      first | exact absurd c_2 (by assumption) | exact absurd (by assumption) c_2
    · skip
      refine lv_iload_n hx hb dX4_load_28 rfl (lv_at hl 2 rfl) ?_
      refine lv_bipush (v := (-20)) hx hb dX4_load_29 (by decide) ?_
      refine lv_bipush (v := 20) hx hb dX4_load_31 (by decide) ?_
      refine rd_i (va_runS (As := [.int p1, .int (-20), .int 20]) (rest := []) ⟨hx, hb, hml, hown, hts⟩ (M_X4_isWithin l D cI p1 (-20) 20 ) (va_cwS 3 hts gX4_load_X4_isWithin rfl rfl rfl (by decide +kernel) ⟨Nat.le_of_ble_eq_true rfl, Nat.le_of_ble_eq_true rfl⟩) (rdS hK hP [] [0] rfl rfl) rfl rfl hl.1 rfl (lv_room (Nat.le_of_ble_eq_true rfl)) dX4_load_33 ⟨Nat.zero_le _, Nat.zero_le _⟩) ?_
      refine lv_if_ne (tgt := 49) hx hb dX4_load_36 (by decide) (fun c_3 => ?_) (fun c_3 => ?_)
      · skip
        have c_3 : ((-20) ≤ p1 ∧ p1 ≤ 20) := bI_nz.mp c_3
        refine lv_aload_n hx hb dX4_load_49 rfl (lv_at hl 0 rfl) ?_
        refine va_get (D := D) (ci := 4) (v := .ref (a 0)) (C := RX4) (T := TX4) (N := 3) hx hb hts hiX4 hown hK.1 hP 0 rfl rfl 0 (by decide) (hts (.fieldLink RX4 12 "IceLanes" "river" "LIceLanes$River;") (by decide +kernel)) (fun _ h9 => h9) rfl dX4_load_50 ?_
        refine va_getN (D := D) (ci := 2) (v := .ref (a 6)) (C := RX2) (T := TX2) (N := 6) hx hb hts hiX2 hown hK.1 hP 4 rfl rfl 5 (by decide) (va_Nw.use rfl (nX4_88 hN)) (fun _ h9 => h9) rfl dX4_load_53 ?_
        refine va_getN (D := D) (ci := 0) (v := .ref (a 13)) (C := RX0) (T := TX0) (N := 10) hx hb hts hiX0 hown hK.1 hP 10 rfl rfl 7 (by decide) (va_Nw.use rfl (nX4_122 hN)) (fun _ h9 => h9) rfl dX4_load_56 ?_
        refine lv_iload_n hx hb dX4_load_59 rfl (lv_at hl 1 rfl) ?_
        refine va_iald hx hb hK.1 hP 17 0 rfl rfl (by first | assumption | exact vp_in_nI (by omega) (by decide)) dX4_load_60 ?_
        rw [nI_clamp (n := cu) (by omega)]
        refine lv_iconst (v := 3) hx hb dX4_load_61 (by decide) ?_
        refine lv_icmp_ne (tgt := 75) hx hb dX4_load_62 (by decide) (fun c_4 => ?_) (fun c_4 => ?_)
        · skip
          refine lv_aload_n hx hb dX4_load_75 rfl (lv_at hl 0 rfl) ?_
          refine va_get (D := D) (ci := 4) (v := .ref (a 0)) (C := RX4) (T := TX4) (N := 3) hx hb hts hiX4 hown hK.1 hP 0 rfl rfl 0 (by decide) (hts (.fieldLink RX4 12 "IceLanes" "river" "LIceLanes$River;") (by decide +kernel)) (fun _ h9 => h9) rfl dX4_load_76 ?_
          refine va_getN (D := D) (ci := 2) (v := .ref (a 6)) (C := RX2) (T := TX2) (N := 6) hx hb hts hiX2 hown hK.1 hP 4 rfl rfl 5 (by decide) (va_Nw.use rfl (nX4_88 hN)) (fun _ h9 => h9) rfl dX4_load_79 ?_
          refine va_getN (D := D) (ci := 0) (v := .ref (a 8)) (C := RX0) (T := TX0) (N := 10) hx hb hts hiX0 hown hK.1 hP 10 rfl rfl 2 (by decide) (va_Nw.use rfl (nX4_143 hN)) (fun _ h9 => h9) rfl dX4_load_82 ?_
          refine lv_iload_n hx hb dX4_load_85 rfl (lv_at hl 1 rfl) ?_
          refine va_iald hx hb hK.1 hP 12 0 rfl rfl (by first | assumption | exact vp_in_nI (by omega) (by decide)) dX4_load_86 ?_
          rw [nI_clamp (n := cu) (by omega)]
          refine lv_iload_n hx hb dX4_load_87 rfl (lv_at hl 2 rfl) ?_
          refine lv_iadd hx hb dX4_load_88 ?_
          refine lv_istore_n (lv' := [(3, .int ((σ 6 cu) + p1)), (0, .ref (b 0)), (1, .int (nI cu)), (2, .int p1)]) hx hb dX4_load_89 rfl hl (by decide) rfl (fun ls hl => ?_)
          refine lv_iload_n hx hb dX4_load_90 rfl (lv_at hl 0 rfl) ?_
          refine lv_iconst (v := 0) hx hb dX4_load_91 (by decide) ?_
          refine lv_bipush (v := 20) hx hb dX4_load_92 (by decide) ?_
          refine rd_i (va_runS (As := [.int ((σ 6 cu) + p1), .int 0, .int 20]) (rest := []) ⟨hx, hb, hml, hown, hts⟩ (M_X4_isWithin l D cI ((σ 6 cu) + p1) 0 20 ) (va_cwS 3 hts gX4_load_X4_isWithin rfl rfl rfl (by decide +kernel) ⟨Nat.le_of_ble_eq_true rfl, Nat.le_of_ble_eq_true rfl⟩) (rdS hK hP [] [0] rfl rfl) rfl rfl hl.1 rfl (lv_room (Nat.le_of_ble_eq_true rfl)) dX4_load_94 ⟨Nat.zero_le _, Nat.zero_le _⟩) ?_
          refine lv_if_ne (tgt := 110) hx hb dX4_load_97 (by decide) (fun c_5 => ?_) (fun c_5 => ?_)
          · skip
            have c_5 : (0 ≤ ((σ 6 cu) + p1) ∧ ((σ 6 cu) + p1) ≤ 20) := bI_nz.mp c_5
            refine lv_aload_n hx hb dX4_load_110 rfl (lv_at hl 1 rfl) ?_
            refine va_get (D := D) (ci := 4) (v := .ref (a 0)) (C := RX4) (T := TX4) (N := 3) hx hb hts hiX4 hown hK.1 hP 0 rfl rfl 0 (by decide) (hts (.fieldLink RX4 12 "IceLanes" "river" "LIceLanes$River;") (by decide +kernel)) (fun _ h9 => h9) rfl dX4_load_111 ?_
            refine lv_iload_n hx hb dX4_load_114 rfl (lv_at hl 2 rfl) ?_
            refine lv_iload_n hx hb dX4_load_115 rfl (lv_at hl 0 rfl) ?_
            refine rd_i (va_runVN (As := [.int (nI cu), .int ((σ 6 cu) + p1)]) (rest := []) ⟨hx, hb, hml, hown, hts⟩ (M_X2_holdsCourierWith l D cI a σ cu ((σ 6 cu) + p1) (by first | assumption | omega) (by first | assumption | omega) (by first | assumption | omega)) ⟨va_cnB 2 hts gX4_load_X2_holdsCourierWith_n148 rfl rfl rfl (nX4_148 hN) (hts (.initialized RX2) (by decide +kernel)) (by decide +kernel) ⟨Nat.le_of_ble_eq_true rfl, Nat.le_of_ble_eq_true rfl⟩, hts (.instanceMethod yX2_holdsCourierWith) (by decide +kernel), hts (.selects RX2 yX2_holdsCourierWith yX2_holdsCourierWith) (by decide +kernel)⟩ (rdV hK hP [4, 5, 6, 7, 8, 9, 10, 11, 12, 13, 14, 15, 16, 17, 18, 19] [0] rfl rfl (ci := 2) (q0 := 4) rfl rfl) rfl rfl hl.1 rfl (lv_room (Nat.le_of_ble_eq_true rfl)) dX4_load_116 ⟨Nat.zero_le _, Nat.zero_le _⟩) ?_
            refine lv_if_ne (tgt := 132) hx hb dX4_load_119 (by decide) (fun c_6 => ?_) (fun c_6 => ?_)
            · skip
              have c_6 : ((σ 5) cu + ((σ 6 cu) + p1) ≤ sound ((σ 3)) ((σ 4)) ((σ 8) cu) ((σ 9) cu)) := bI_nz.mp c_6
              refine lv_aload_n hx hb dX4_load_132 rfl (lv_at hl 1 rfl) ?_
              refine va_get (D := D) (ci := 4) (v := .ref (a 0)) (C := RX4) (T := TX4) (N := 3) hx hb hts hiX4 hown hK.1 hP 0 rfl rfl 0 (by decide) (hts (.fieldLink RX4 12 "IceLanes" "river" "LIceLanes$River;") (by decide +kernel)) (fun _ h9 => h9) rfl dX4_load_133 ?_
              refine va_getN (D := D) (ci := 2) (v := .ref (a 6)) (C := RX2) (T := TX2) (N := 6) hx hb hts hiX2 hown hK.1 hP 4 rfl rfl 5 (by decide) (va_Nw.use rfl (nX4_88 hN)) (fun _ h9 => h9) rfl dX4_load_136 ?_
              refine va_getN (D := D) (ci := 0) (v := .ref (a 8)) (C := RX0) (T := TX0) (N := 10) hx hb hts hiX0 hown hK.1 hP 10 rfl rfl 2 (by decide) (va_Nw.use rfl (nX4_143 hN)) (fun _ h9 => h9) rfl dX4_load_139 ?_
              refine lv_iload_n hx hb dX4_load_142 rfl (lv_at hl 2 rfl) ?_
              refine lv_iload_n hx hb dX4_load_143 rfl (lv_at hl 0 rfl) ?_
              refine va_iast hx hb hK.1 hP hD hS 12 0 rfl rfl (by first | assumption | exact vp_in_nI (by omega) (by decide)) dX4_load_144 (fun H locs hP hD hS => ?_)
              rw [nI_clamp (n := cu) (by omega)] at hP hD
              have hP : va_P D vwCl (wTopE b a a2 ++ (wWag b cI ω ++ (wRivE a cI (σ 0 0) (σ 16 0) (σ 1) (σ 2) (σ 3) (σ 4) (σ 17 0) (σ 5) (upd (σ 6) cu ((σ 6 cu) + p1)) (σ 7) (σ 8) (σ 9) (σ 10) (σ 11) (σ 12) (σ 13) ++ wRiv a2 cI σ2))) H := hP
              have hD : va_D A (wTopE b a a2 ++ (wWag b cI ω ++ (wRivE a cI (σ 0 0) (σ 16 0) (σ 1) (σ 2) (σ 3) (σ 4) (σ 17 0) (σ 5) (upd (σ 6) cu ((σ 6 cu) + p1)) (σ 7) (σ 8) (σ 9) (σ 10) (σ 11) (σ 12) (σ 13) ++ wRiv a2 cI σ2))) := hD
              refine lv_iload_n hx hb dX4_load_145 rfl (lv_at hl 0 rfl) ?_
              subst hQ
              have hP : va_P D vwCl (wLan b a a2 cI (put σ 6 (upd (σ 6) cu ((σ 6 cu) + p1))) σ2 ω) H := hP
              have hD : va_D A (wLan b a a2 cI (put σ 6 (upd (σ 6) cu ((σ 6 cu) + p1))) σ2 ω) := hD
              have k_6 : (upd (σ 6) cu ((σ 6 cu) + p1) : Nat → Int32) = (upd (σ 6) cu (σ 6 cu + p1)) := by rfl
              have hst_s : put σ 6 (upd (σ 6) cu ((σ 6 cu) + p1)) = put σ 6 (upd (σ 6) cu (σ 6 cu + p1)) := put_cg rfl k_6
              rw [hst_s] at hP hD
              exact ret_wri hx hb hr rfl hlocks hP hD hS (show (σ 6 cu) + p1 = σ 6 cu + p1 from rfl) dX4_load_146
            · skip
              have c_6 : ¬ ((σ 5) cu + ((σ 6 cu) + p1) ≤ sound ((σ 3)) ((σ 4)) ((σ 8) cu) ((σ 9) cu)) := bI_z.mp c_6
              first | exact absurd c_6 (by assumption) | exact absurd (by assumption) c_6
          · skip
            have c_5 : ¬ (0 ≤ ((σ 6 cu) + p1) ∧ ((σ 6 cu) + p1) ≤ 20) := bI_z.mp c_5
            first | exact absurd c_5 (by assumption) | exact absurd (by assumption) c_5
        · skip
          first | exact absurd c_4 (by assumption) | exact absurd (by assumption) c_4
      · skip
        have c_3 : ¬ ((-20) ≤ p1 ∧ p1 ≤ 20) := bI_z.mp c_3
        first | exact absurd c_3 (by assumption) | exact absurd (by assumption) c_3
  · skip
    have c_1 : ¬ (0 ≤ (nI cu) ∧ (nI cu) ≤ (σ 17 0) - 1) := bI_z.mp c_1
    first | exact absurd c_1 (by assumption) | exact absurd (by assumption) c_1
set_option maxHeartbeats 4000000 in
set_option maxRecDepth 100000 in
theorem M_X4_courier_ok (l : Launch) (D : va_G) (cI : ClassId) (b : Nat → Nat) (a : Nat → Nat) (a2 : Nat → Nat) (σ : St) (σ2 : St) (ω : St) (cu : Nat) (w : Nat) (hcu : cu < 8) (h1 : (0 ≤ nI cu ∧ nI cu ≤ σ 17 0 - 1)) (hw : w < 9) (h2 : (0 ≤ nI w ∧ nI w ≤ 8)) : Met l yX4_courier wsX4_courier ({ frames := 2, cells := 0, slots := 0, locals := 43 } : Room) (rdPc [.ref (b 0), .int (nI cu), .int (nI w)] D (wLan b a a2 cI σ σ2 ω) [(cI, .int)]) (rdQi (tellF σ cu w)) 0 0 (fun _ => False) := by
  refine Met.ofW (cc := cX4_courier) (maxL := 3) (ret := (some .int)) (by decide) rfl ?_
  intro p e s m args below meth c s₁ B hml hv
  obtain ⟨hargs, hP, hK⟩ := hv
  have hx := B.exec
  have hb := B.bytes
  have hr := B.returns
  have hts := atoms_spec (ws := wsX4_courier) B.pre
  have hown : s.vm.findClass RX4 = some m.cls := findClass_of_methodNamed B.named
  have hlocks := B.notSynchronized
  obtain ⟨_, hN⟩ := id hK
  have hiX2 : ∀ w ∈ wsX20, w ∈ wsX4_courier := by decide +kernel
  have hiX4 : ∀ w ∈ wsX40, w ∈ wsX4_courier := by decide +kernel
  refine my_abs (fun Q hQ => ?_)
  obtain ⟨ls, hl, hent⟩ := my_entry (m := m) (n := 3) hargs (Nat.le_of_ble_eq_true rfl)
  rw [hent]
  have hl : lv_has ls 3 [(0, .ref (b 0)), (1, .int (nI cu)), (2, .int (nI w))] := hl
  show W p l e ({ frames := 2, cells := 0, slots := 0, locals := 43 } : Room) s m args below meth c s.heap [] 0 0 Q (F0 m 0 ls [])
  refine lv_aload_n hx hb dX4_courier_0 rfl (lv_at hl 0 rfl) ?_
  refine va_get (D := D) (ci := 4) (v := .ref (a 0)) (C := RX4) (T := TX4) (N := 3) hx hb hts hiX4 hown hK.1 hP 0 rfl rfl 0 (by decide) (hts (.fieldLink RX4 12 "IceLanes" "river" "LIceLanes$River;") (by decide +kernel)) (fun _ h9 => h9) rfl dX4_courier_1 ?_
  refine va_getN (D := D) (ci := 2) (v := .ref (a 6)) (C := RX2) (T := TX2) (N := 6) hx hb hts hiX2 hown hK.1 hP 4 rfl rfl 5 (by decide) (va_Nw.use rfl (nX4_88 hN)) (fun _ h9 => h9) rfl dX4_courier_4 ?_
  refine lv_iload_n hx hb dX4_courier_7 rfl (lv_at hl 1 rfl) ?_
  refine rd_i (va_runVN (As := [.int (nI cu)]) (rest := []) ⟨hx, hb, hml, hown, hts⟩ (M_X0_has l D cI a σ (nI cu) ) ⟨va_cnB 1 hts gX4_courier_X0_has_n117 rfl rfl rfl (nX4_117 hN) (hts (.initialized RX0) (by decide +kernel)) (by decide +kernel) ⟨Nat.le_of_ble_eq_true rfl, Nat.le_of_ble_eq_true rfl⟩, hts (.instanceMethod yX0_has) (by decide +kernel), hts (.selects RX0 yX0_has yX0_has) (by decide +kernel)⟩ (rdV hK hP [10, 11, 12, 13, 14, 15, 16, 17, 18, 19] [0] rfl rfl (ci := 0) (q0 := 10) rfl rfl) rfl rfl hl.1 rfl (lv_room (Nat.le_of_ble_eq_true rfl)) dX4_courier_8 ⟨Nat.zero_le _, Nat.zero_le _⟩) ?_
  refine lv_if_eq (tgt := 24) hx hb dX4_courier_11 (by decide) (fun c_1 => ?_) (fun c_1 => ?_)
  · skip
    have c_1 : ¬ (0 ≤ (nI cu) ∧ (nI cu) ≤ (σ 17 0) - 1) := bI_z.mp c_1
    first | exact absurd c_1 (by assumption) | exact absurd (by assumption) c_1
  · skip
    have c_1 : (0 ≤ (nI cu) ∧ (nI cu) ≤ (σ 17 0) - 1) := bI_nz.mp c_1
    refine lv_iload_n hx hb dX4_courier_14 rfl (lv_at hl 2 rfl) ?_
    refine lv_iconst (v := 0) hx hb dX4_courier_15 (by decide) ?_
    refine lv_bipush (v := 8) hx hb dX4_courier_16 (by decide) ?_
    refine rd_i (va_runS (As := [.int (nI w), .int 0, .int 8]) (rest := []) ⟨hx, hb, hml, hown, hts⟩ (M_X4_isWithin l D cI (nI w) 0 8 ) (va_cwS 3 hts gX4_courier_X4_isWithin rfl rfl rfl (by decide +kernel) ⟨Nat.le_of_ble_eq_true rfl, Nat.le_of_ble_eq_true rfl⟩) (rdS hK hP [] [0] rfl rfl) rfl rfl hl.1 rfl (lv_room (Nat.le_of_ble_eq_true rfl)) dX4_courier_18 ⟨Nat.zero_le _, Nat.zero_le _⟩) ?_
    refine lv_if_ne (tgt := 34) hx hb dX4_courier_21 (by decide) (fun c_2 => ?_) (fun c_2 => ?_)
    · skip
      have c_2 : (0 ≤ (nI w) ∧ (nI w) ≤ 8) := bI_nz.mp c_2
      refine lv_aload_n hx hb dX4_courier_34 rfl (lv_at hl 0 rfl) ?_
      refine va_get (D := D) (ci := 4) (v := .ref (a 0)) (C := RX4) (T := TX4) (N := 3) hx hb hts hiX4 hown hK.1 hP 0 rfl rfl 0 (by decide) (hts (.fieldLink RX4 12 "IceLanes" "river" "LIceLanes$River;") (by decide +kernel)) (fun _ h9 => h9) rfl dX4_courier_35 ?_
      refine va_getN (D := D) (ci := 2) (v := .ref (a 6)) (C := RX2) (T := TX2) (N := 6) hx hb hts hiX2 hown hK.1 hP 4 rfl rfl 5 (by decide) (va_Nw.use rfl (nX4_88 hN)) (fun _ h9 => h9) rfl dX4_courier_38 ?_
      refine lv_iload_n hx hb dX4_courier_41 rfl (lv_at hl 1 rfl) ?_
      refine lv_iload_n hx hb dX4_courier_42 rfl (lv_at hl 2 rfl) ?_
      refine rd_i (va_runVN (As := [.int (nI cu), .int (nI w)]) (rest := []) ⟨hx, hb, hml, hown, hts⟩ (M_X0_tell l D cI a σ cu w hcu hw) ⟨va_cnB 2 hts gX4_courier_X0_tell_n155 rfl rfl rfl (nX4_155 hN) (hts (.initialized RX0) (by decide +kernel)) (by decide +kernel) ⟨Nat.le_of_ble_eq_true rfl, Nat.le_of_ble_eq_true rfl⟩, hts (.instanceMethod yX0_tell) (by decide +kernel), hts (.selects RX0 yX0_tell yX0_tell) (by decide +kernel)⟩ (rdV hK hP [10, 11, 12, 13, 14, 15, 16, 17, 18, 19] [0] rfl rfl (ci := 0) (q0 := 10) rfl rfl) rfl rfl hl.1 rfl (lv_room (Nat.le_of_ble_eq_true rfl)) dX4_courier_43 ⟨Nat.zero_le _, Nat.zero_le _⟩) ?_
      subst hQ
      exact ret_rdi hx hb hr rfl hlocks (show tellF σ cu w = tellF σ cu w from rfl) dX4_courier_46
    · skip
      have c_2 : ¬ (0 ≤ (nI w) ∧ (nI w) ≤ 8) := bI_z.mp c_2
      first | exact absurd c_2 (by assumption) | exact absurd (by assumption) c_2
set_option maxHeartbeats 4000000 in
set_option maxRecDepth 100000 in
theorem M_X4_wager_ok (l : Launch) (D : va_G) (cI : ClassId) (b : Nat → Nat) (a : Nat → Nat) (a2 : Nat → Nat) (σ : St) (σ2 : St) (ω : St) (p0 : Int32) (p1 : Int32) (nw : Nat) (sz : Nat) (h1 : (0 ≤ p0 ∧ p0 ≤ 500)) (h2 : (1 ≤ p1 ∧ p1 ≤ 100)) (hnw : ω 19 0 = nI nw) (hw12 : nw < 12) (h3 : σ 16 0 = -1) : Met l yX4_wager wsX4_wager ({ frames := 1, cells := 0, slots := 0, locals := 23 } : Room) (wrPc [.ref (b 0), .int p0, .int p1] D (wLan b a a2 cI σ σ2 ω) [(cI, .int)] sz) (wrQi (nI nw) D (wLan b a a2 cI σ σ2 (put (put (put ω 14 (upd (ω 14) nw p0)) 15 (upd (ω 15) nw p1)) 19 (fun _ => nI (nw + 1)))) (va_A (wLan b a a2 cI σ σ2 ω) sz)) 0 0 (va_A (wLan b a a2 cI σ σ2 ω) sz) := by
  refine Met.ofW (cc := cX4_wager) (maxL := 3) (ret := (some .int)) (by decide) rfl ?_
  intro p e s m args below meth c s₁ B hml hv
  obtain ⟨hargs, hsz, hP, hK, hD0⟩ := hv
  have hx := B.exec
  have hb := B.bytes
  have hr := B.returns
  have hts := atoms_spec (ws := wsX4_wager) B.pre
  have hown : s.vm.findClass RX4 = some m.cls := findClass_of_methodNamed B.named
  have hlocks := B.notSynchronized
  obtain ⟨_, hN⟩ := id hK
  have hiX3 : ∀ w ∈ wsX30, w ∈ wsX4_wager := by decide +kernel
  have hiX4 : ∀ w ∈ wsX40, w ∈ wsX4_wager := by decide +kernel
  subst hsz
  have hD := hD0.self (sz := s.heap.size)
  generalize hAe : va_A (wLan b a a2 cI σ σ2 ω) s.heap.size = A at hD ⊢
  have hA : ∀ q : Nat, s.heap.size ≤ q → A q := fun q h => by rw [← hAe]; exact Or.inr h
  have hS : va_S A s.heap s.heap [] := va_S.rf
  have hP : va_P D vwCl (wLan b a a2 cI σ σ2 ω) s.heap := hP
  refine my_abs (fun Q hQ => ?_)
  obtain ⟨ls, hl, hent⟩ := my_entry (m := m) (n := 3) hargs (Nat.le_of_ble_eq_true rfl)
  rw [hent]
  have hl : lv_has ls 3 [(0, .ref (b 0)), (1, .int p0), (2, .int p1)] := hl
  show W p l e ({ frames := 1, cells := 0, slots := 0, locals := 23 } : Room) s m args below meth c s.heap [] 0 0 Q (F0 m 0 ls [])
  refine lv_iload_n hx hb dX4_wager_0 rfl (lv_at hl 1 rfl) ?_
  refine lv_iconst (v := 0) hx hb dX4_wager_1 (by decide) ?_
  refine lv_sipush (v := 500) hx hb dX4_wager_2 (by decide) ?_
  refine rd_i (va_runS (As := [.int p0, .int 0, .int 500]) (rest := []) ⟨hx, hb, hml, hown, hts⟩ (M_X4_isWithin l D cI p0 0 500 ) (va_cwS 3 hts gX4_wager_X4_isWithin rfl rfl rfl (by decide +kernel) ⟨Nat.le_of_ble_eq_true rfl, Nat.le_of_ble_eq_true rfl⟩) (rdS hK hP [] [0] rfl rfl) rfl rfl hl.1 rfl (lv_room (Nat.le_of_ble_eq_true rfl)) dX4_wager_5 ⟨Nat.zero_le _, Nat.zero_le _⟩) ?_
  refine lv_if_eq (tgt := 21) hx hb dX4_wager_8 (by decide) (fun c_1 => ?_) (fun c_1 => ?_)
  · skip
    have c_1 : ¬ (0 ≤ p0 ∧ p0 ≤ 500) := bI_z.mp c_1
    first | exact absurd c_1 (by assumption) | exact absurd (by assumption) c_1
  · skip
    have c_1 : (0 ≤ p0 ∧ p0 ≤ 500) := bI_nz.mp c_1
    refine lv_iload_n hx hb dX4_wager_11 rfl (lv_at hl 2 rfl) ?_
    refine lv_iconst (v := 1) hx hb dX4_wager_12 (by decide) ?_
    refine lv_bipush (v := 100) hx hb dX4_wager_13 (by decide) ?_
    refine rd_i (va_runS (As := [.int p1, .int 1, .int 100]) (rest := []) ⟨hx, hb, hml, hown, hts⟩ (M_X4_isWithin l D cI p1 1 100 ) (va_cwS 3 hts gX4_wager_X4_isWithin rfl rfl rfl (by decide +kernel) ⟨Nat.le_of_ble_eq_true rfl, Nat.le_of_ble_eq_true rfl⟩) (rdS hK hP [] [0] rfl rfl) rfl rfl hl.1 rfl (lv_room (Nat.le_of_ble_eq_true rfl)) dX4_wager_15 ⟨Nat.zero_le _, Nat.zero_le _⟩) ?_
    refine lv_if_ne (tgt := 31) hx hb dX4_wager_18 (by decide) (fun c_2 => ?_) (fun c_2 => ?_)
    · skip
      have c_2 : (1 ≤ p1 ∧ p1 ≤ 100) := bI_nz.mp c_2
      refine lv_aload_n hx hb dX4_wager_31 rfl (lv_at hl 0 rfl) ?_
      refine va_get (D := D) (ci := 4) (v := .ref (b 1)) (C := RX4) (T := TX4) (N := 3) hx hb hts hiX4 hown hK.1 hP 0 rfl rfl 2 (by decide) (hts (.fieldLink RX4 22 "IceLanes" "wagers" "LIceLanes$Wagers;") (by decide +kernel)) (fun _ h9 => h9) rfl dX4_wager_32 ?_
      refine va_getN (D := D) (ci := 3) (v := .int (ω 19 0)) (C := RX3) (T := TX3) (N := 3) hx hb hts hiX3 hown hK.1 hP 1 rfl rfl 0 (by decide) (va_Nw.use rfl (nX4_160 hN)) (fun _ h9 => h9) rfl dX4_wager_35 ?_
      refine lv_bipush (v := 12) hx hb dX4_wager_38 (by decide) ?_
      refine lv_icmp_lt (tgt := 53) hx hb dX4_wager_40 (by decide) (fun c_3 => ?_) (fun c_3 => ?_)
      · skip
        refine lv_aload_n hx hb dX4_wager_53 rfl (lv_at hl 0 rfl) ?_
        refine va_get (D := D) (ci := 4) (v := .ref (a 0)) (C := RX4) (T := TX4) (N := 3) hx hb hts hiX4 hown hK.1 hP 0 rfl rfl 0 (by decide) (hts (.fieldLink RX4 12 "IceLanes" "river" "LIceLanes$River;") (by decide +kernel)) (fun _ h9 => h9) rfl dX4_wager_54 ?_
        refine rd_i (va_runVN (As := []) (rest := []) ⟨hx, hb, hml, hown, hts⟩ (M_X2_hasThawed l D cI a σ ) ⟨va_cnB 0 hts gX4_wager_X2_hasThawed_n163 rfl rfl rfl (nX4_163 hN) (hts (.initialized RX2) (by decide +kernel)) (by decide +kernel) ⟨Nat.le_of_ble_eq_true rfl, Nat.le_of_ble_eq_true rfl⟩, hts (.instanceMethod yX2_hasThawed) (by decide +kernel), hts (.selects RX2 yX2_hasThawed yX2_hasThawed) (by decide +kernel)⟩ (rdV hK hP [4, 5, 6, 7, 8, 9, 10, 11, 12, 13, 14, 15, 16, 17, 18, 19] [0] rfl rfl (ci := 2) (q0 := 4) rfl rfl) rfl rfl hl.1 rfl (lv_room (Nat.le_of_ble_eq_true rfl)) dX4_wager_57 ⟨Nat.zero_le _, Nat.zero_le _⟩) ?_
        refine lv_if_eq (tgt := 73) hx hb dX4_wager_60 (by decide) (fun c_4 => ?_) (fun c_4 => ?_)
        · skip
          have c_4 : ¬ (¬ (σ 16 0) = -1) := bI_z.mp c_4
          refine lv_aload_n hx hb dX4_wager_73 rfl (lv_at hl 0 rfl) ?_
          refine va_get (D := D) (ci := 4) (v := .ref (b 1)) (C := RX4) (T := TX4) (N := 3) hx hb hts hiX4 hown hK.1 hP 0 rfl rfl 2 (by decide) (hts (.fieldLink RX4 22 "IceLanes" "wagers" "LIceLanes$Wagers;") (by decide +kernel)) (fun _ h9 => h9) rfl dX4_wager_74 ?_
          refine lv_iload_n hx hb dX4_wager_77 rfl (lv_at hl 1 rfl) ?_
          refine lv_iload_n hx hb dX4_wager_78 rfl (lv_at hl 2 rfl) ?_
          refine wr_i (wn := wTopE b a a2 ++ (wWagE b cI (nI (nw + 1)) (upd ((ω 14)) nw p0) (upd ((ω 15)) nw p1) ++ (wRiv a cI σ ++ wRiv a2 cI σ2))) (va_runVN (As := [.int p0, .int p1]) (rest := []) ⟨hx, hb, hml, hown, hts⟩ (M_X3_add l D cI b ω p0 p1 nw _ (by first | assumption | omega) (by first | assumption | omega)) ⟨va_cnB 2 hts gX4_wager_X3_add_n169 rfl rfl rfl (nX4_169 hN) (hts (.initialized RX3) (by decide +kernel)) (by decide +kernel) ⟨Nat.le_of_ble_eq_true rfl, Nat.le_of_ble_eq_true rfl⟩, hts (.instanceMethod yX3_add) (by decide +kernel), hts (.selects RX3 yX3_add yX3_add) (by decide +kernel)⟩ (wrV hK hP hD [1, 2, 3] [0] rfl rfl rfl (ci := 3) (q0 := 1) rfl rfl) rfl rfl hl.1 rfl (lv_room (Nat.le_of_ble_eq_true rfl)) dX4_wager_79 ⟨Nat.le_of_ble_eq_true rfl, Nat.le_of_ble_eq_true rfl⟩) hP hD hS hA [1, 2, 3] [0, 4, 5, 6, 7, 8, 9, 10, 11, 12, 13, 14, 15, 16, 17, 18, 19, 20, 21, 22, 23, 24, 25, 26, 27, 28, 29, 30, 31, 32, 33, 34, 35] [0, 33, 34, 35, 1, 2, 3, 4, 5, 6, 7, 8, 9, 10, 11, 12, 13, 14, 15, 16, 17, 18, 19, 20, 21, 22, 23, 24, 25, 26, 27, 28, 29, 30, 31, 32] rfl rfl rfl rfl rfl rfl (fun H locs hP hD hS => ?_)
          subst hQ
          have hP : va_P D vwCl (wLan b a a2 cI σ σ2 (put (put (put ω 14 (upd ((ω 14)) nw p0)) 15 (upd ((ω 15)) nw p1)) 19 (fun _ => nI (nw + 1)))) H := hP
          have hD : va_D A (wLan b a a2 cI σ σ2 (put (put (put ω 14 (upd ((ω 14)) nw p0)) 15 (upd ((ω 15)) nw p1)) 19 (fun _ => nI (nw + 1)))) := hD
          have k_14 : (upd ((ω 14)) nw p0 : Nat → Int32) = (upd (ω 14) nw p0) := by rfl
          have k_15 : (upd ((ω 15)) nw p1 : Nat → Int32) = (upd (ω 15) nw p1) := by rfl
          have hst_w : put (put (put ω 14 (upd ((ω 14)) nw p0)) 15 (upd ((ω 15)) nw p1)) 19 (fun _ => nI (nw + 1)) = put (put (put ω 14 (upd (ω 14) nw p0)) 15 (upd (ω 15) nw p1)) 19 (fun _ => nI (nw + 1)) := put_cg (put_cg (put_cg rfl k_14) k_15) rfl
          rw [hst_w] at hP hD
          exact ret_wri hx hb hr rfl hlocks hP hD hS (show nI nw = nI nw from rfl) dX4_wager_82
        · skip
          have c_4 : (¬ (σ 16 0) = -1) := bI_nz.mp c_4
          exact absurd h3 c_4
      · skip
        exact absurd (by rw [hnw]; exact (nI_ltI (a := nw) (b := 12) (by omega) (by omega)).mpr (by omega)) c_3
    · skip
      have c_2 : ¬ (1 ≤ p1 ∧ p1 ≤ 100) := bI_z.mp c_2
      first | exact absurd c_2 (by assumption) | exact absurd (by assumption) c_2
set_option maxHeartbeats 4000000 in
set_option maxRecDepth 100000 in
theorem M_X4_wins_ok (l : Launch) (D : va_G) (cI : ClassId) (b : Nat → Nat) (a : Nat → Nat) (a2 : Nat → Nat) (σ : St) (σ2 : St) (ω : St) (wg : Nat) (nw : Nat) (h1 : (0 ≤ nI wg ∧ nI wg ≤ ω 19 0 - 1)) (hnw : ω 19 0 = nI nw) (hw12 : nw ≤ 12) (hwg : wg < nw) : Met l yX4_wins wsX4_wins ({ frames := 4, cells := 0, slots := 0, locals := 82 } : Room) (rdPc [.ref (b 0), .int (nI wg)] D (wLan b a a2 cI σ σ2 ω) [(cI, .int)]) (rdQi (wonF σ ω nw wg)) 0 0 (fun _ => False) := by
  refine Met.ofW (cc := cX4_wins) (maxL := 2) (ret := (some .int)) (by decide) rfl ?_
  intro p e s m args below meth c s₁ B hml hv
  obtain ⟨hargs, hP, hK⟩ := hv
  have hx := B.exec
  have hb := B.bytes
  have hr := B.returns
  have hts := atoms_spec (ws := wsX4_wins) B.pre
  have hown : s.vm.findClass RX4 = some m.cls := findClass_of_methodNamed B.named
  have hlocks := B.notSynchronized
  obtain ⟨_, hN⟩ := id hK
  have hiX4 : ∀ w ∈ wsX40, w ∈ wsX4_wins := by decide +kernel
  refine my_abs (fun Q hQ => ?_)
  obtain ⟨ls, hl, hent⟩ := my_entry (m := m) (n := 2) hargs (Nat.le_of_ble_eq_true rfl)
  rw [hent]
  have hl : lv_has ls 2 [(0, .ref (b 0)), (1, .int (nI wg))] := hl
  show W p l e ({ frames := 4, cells := 0, slots := 0, locals := 82 } : Room) s m args below meth c s.heap [] 0 0 Q (F0 m 0 ls [])
  refine lv_aload_n hx hb dX4_wins_0 rfl (lv_at hl 0 rfl) ?_
  refine va_get (D := D) (ci := 4) (v := .ref (b 1)) (C := RX4) (T := TX4) (N := 3) hx hb hts hiX4 hown hK.1 hP 0 rfl rfl 2 (by decide) (hts (.fieldLink RX4 22 "IceLanes" "wagers" "LIceLanes$Wagers;") (by decide +kernel)) (fun _ h9 => h9) rfl dX4_wins_1 ?_
  refine lv_iload_n hx hb dX4_wins_4 rfl (lv_at hl 1 rfl) ?_
  refine rd_i (va_runVN (As := [.int (nI wg)]) (rest := []) ⟨hx, hb, hml, hown, hts⟩ (M_X3_has l D cI b ω (nI wg) ) ⟨va_cnB 1 hts gX4_wins_X3_has_n171 rfl rfl rfl (nX4_171 hN) (hts (.initialized RX3) (by decide +kernel)) (by decide +kernel) ⟨Nat.le_of_ble_eq_true rfl, Nat.le_of_ble_eq_true rfl⟩, hts (.instanceMethod yX3_has) (by decide +kernel), hts (.selects RX3 yX3_has yX3_has) (by decide +kernel)⟩ (rdV hK hP [1, 2, 3] [0] rfl rfl (ci := 3) (q0 := 1) rfl rfl) rfl rfl hl.1 rfl (lv_room (Nat.le_of_ble_eq_true rfl)) dX4_wins_5 ⟨Nat.zero_le _, Nat.zero_le _⟩) ?_
  refine lv_if_ne (tgt := 21) hx hb dX4_wins_8 (by decide) (fun c_1 => ?_) (fun c_1 => ?_)
  · skip
    have c_1 : (0 ≤ (nI wg) ∧ (nI wg) ≤ (ω 19 0) - 1) := bI_nz.mp c_1
    refine lv_aload_n hx hb dX4_wins_21 rfl (lv_at hl 0 rfl) ?_
    refine lv_iload_n hx hb dX4_wins_22 rfl (lv_at hl 1 rfl) ?_
    refine rd_i (va_runV (As := [.int (nI wg)]) (rest := []) ⟨hx, hb, hml, hown, hts⟩ (M_X4_winOf l D cI b a a2 σ σ2 ω wg nw (by first | assumption | omega) (by first | assumption | omega) (by first | assumption | omega)) (cwV 1 hts gX4_wins_X4_winOf rfl rfl rfl (by decide +kernel) ⟨Nat.le_of_ble_eq_true rfl, Nat.le_of_ble_eq_true rfl⟩) (rdV hK hP [0, 1, 2, 3, 4, 5, 6, 7, 8, 9, 10, 11, 12, 13, 14, 15, 16, 17, 18, 19, 20, 21, 22, 23, 24, 25, 26, 27, 28, 29, 30, 31, 32, 33, 34, 35] [0] rfl rfl (ci := 4) (q0 := 0) rfl rfl) rfl rfl hl.1 rfl (lv_room (Nat.le_of_ble_eq_true rfl)) dX4_wins_23 ⟨Nat.zero_le _, Nat.zero_le _⟩) ?_
    subst hQ
    exact ret_rdi hx hb hr rfl hlocks (show wonF σ ω nw wg = wonF σ ω nw wg from rfl) dX4_wins_26
  · skip
    have c_1 : ¬ (0 ≤ (nI wg) ∧ (nI wg) ≤ (ω 19 0) - 1) := bI_z.mp c_1
    first | exact absurd c_1 (by assumption) | exact absurd (by assumption) c_1
set_option maxHeartbeats 4000000 in
set_option maxRecDepth 100000 in
theorem M_X4_pass_ok (l : Launch) (D : va_G) (cI : ClassId) (b : Nat → Nat) (a : Nat → Nat) (a2 : Nat → Nat) (σ : St) (σ2 : St) (ω : St) (n0 : Nat) (h : Nat) (nc : Nat) (sz : Nat) (h1 : (1 ≤ nI n0 ∧ nI n0 ≤ 200)) (hn0 : n0 ≤ 200) (hok : okR σ h nc) (hbd : h + 200 < 2 ^ 30) : Met l yX4_pass wsX4_pass ({ frames := 6, cells := 0, slots := 0, locals := 141 } : Room) (wrPc [.ref (b 0), .int (nI n0)] D (wLan b a a2 cI σ σ2 ω) [(cI, .int)] sz) (wrQi (hsA σ n0) D (wLan b a a2 cI (hoursF n0 σ) σ2 ω) (va_A (wLan b a a2 cI σ σ2 ω) sz)) 0 0 (va_A (wLan b a a2 cI σ σ2 ω) sz) := by
  refine Met.ofW (cc := cX4_pass) (maxL := 4) (ret := (some .int)) (by decide) rfl ?_
  intro p e s m args below meth c s₁ B hml hv
  obtain ⟨hargs, hsz, hP, hK, hD0⟩ := hv
  have hx := B.exec
  have hb := B.bytes
  have hr := B.returns
  have hts := atoms_spec (ws := wsX4_pass) B.pre
  have hown : s.vm.findClass RX4 = some m.cls := findClass_of_methodNamed B.named
  have hlocks := B.notSynchronized
  obtain ⟨_, hN⟩ := id hK
  have hiX4 : ∀ w ∈ wsX40, w ∈ wsX4_pass := by decide +kernel
  subst hsz
  have hD := hD0.self (sz := s.heap.size)
  generalize hAe : va_A (wLan b a a2 cI σ σ2 ω) s.heap.size = A at hD ⊢
  have hA : ∀ q : Nat, s.heap.size ≤ q → A q := fun q h => by rw [← hAe]; exact Or.inr h
  have hS : va_S A s.heap s.heap [] := va_S.rf
  have hP : va_P D vwCl (wLan b a a2 cI σ σ2 ω) s.heap := hP
  refine my_abs (fun Q hQ => ?_)
  obtain ⟨ls, hl, hent⟩ := my_entry (m := m) (n := 4) hargs (Nat.le_of_ble_eq_true rfl)
  rw [hent]
  have hl : lv_has ls 4 [(0, .ref (b 0)), (1, .int (nI n0))] := hl
  show W p l e ({ frames := 6, cells := 0, slots := 0, locals := 141 } : Room) s m args below meth c s.heap [] 0 0 Q (F0 m 0 ls [])
  refine lv_iload_n hx hb dX4_pass_0 rfl (lv_at hl 1 rfl) ?_
  refine lv_iconst (v := 1) hx hb dX4_pass_1 (by decide) ?_
  refine lv_sipush (v := 200) hx hb dX4_pass_2 (by decide) ?_
  refine rd_i (va_runS (As := [.int (nI n0), .int 1, .int 200]) (rest := []) ⟨hx, hb, hml, hown, hts⟩ (M_X4_isWithin l D cI (nI n0) 1 200 ) (va_cwS 3 hts gX4_pass_X4_isWithin rfl rfl rfl (by decide +kernel) ⟨Nat.le_of_ble_eq_true rfl, Nat.le_of_ble_eq_true rfl⟩) (rdS hK hP [] [0] rfl rfl) rfl rfl hl.1 rfl (lv_room (Nat.le_of_ble_eq_true rfl)) dX4_pass_5 ⟨Nat.zero_le _, Nat.zero_le _⟩) ?_
  refine lv_if_ne (tgt := 21) hx hb dX4_pass_8 (by decide) (fun c_1 => ?_) (fun c_1 => ?_)
  · skip
    have c_1 : (1 ≤ (nI n0) ∧ (nI n0) ≤ 200) := bI_nz.mp c_1
    refine lv_iconst (v := 0) hx hb dX4_pass_21 (by decide) ?_
    refine lv_istore_n (lv' := [(2, .int 0), (0, .ref (b 0)), (1, .int (nI n0))]) hx hb dX4_pass_22 rfl hl (by decide) rfl (fun ls hl => ?_)
    refine lv_iconst (v := 0) hx hb dX4_pass_23 (by decide) ?_
    refine lv_istore_n (lv' := [(3, .int 0), (2, .int 0), (0, .ref (b 0)), (1, .int (nI n0))]) hx hb dX4_pass_24 rfl hl (by decide) rfl (fun ls hl => ?_)
    have loop25 : ∀ (n : Nat) (k : Nat) (τ : St), 201 - k < n → (k ≤ n0 ∧ okR τ (h + k) nc ∧ τ = hoursF k σ) → ∀ (H : Heap) (locs : List Loc), va_P D vwCl (wLan b a a2 cI τ σ2 ω) H → va_D A (wLan b a a2 cI τ σ2 ω) → va_S A s.heap H locs → ∀ (ls : Array Slot), lv_has ls 4 [(0, .ref (b 0)), (1, .int (nI n0)), (2, .int (hsA σ k)), (3, .int (nI k))] → W p l e ({ frames := 6, cells := 0, slots := 0, locals := 141 } : Room) s m args below meth c H locs 0 0 Q (F0 m 25 ls []) := by
      intro n
      induction n with
      | zero => intro k  τ  hf; exact absurd hf (Nat.not_lt_zero _)
      | succ n ih25 =>
        intro k  τ  hf ⟨hk, hokτ, hτ⟩ H locs hP hD hS ls hl
        refine lv_iload_n hx hb dX4_pass_25 rfl (lv_at hl 3 rfl) ?_
        refine lv_iload_n hx hb dX4_pass_26 rfl (lv_at hl 1 rfl) ?_
        refine lv_icmp_ge (tgt := 46) hx hb dX4_pass_27 (by decide) (fun c_2 => ?_) (fun c_2 => ?_)
        · skip
          have hk2 : n0 ≤ k := lp_ge (N := n0) (k := k) c_2 (by omega) (by omega)
          have hfin : τ = hoursF n0 σ := by rw [hτ, show k = n0 by omega]
          refine lv_iload_n hx hb dX4_pass_46 rfl (lv_at hl 2 rfl) ?_
          subst hQ
          have hst_s : τ = hoursF n0 σ := hfin
          rw [hst_s] at hP hD
          exact ret_wri hx hb hr rfl hlocks hP hD hS (show hsA σ k = hsA σ n0 from (by rw [show k = n0 by omega])) dX4_pass_47
        · skip
          have hk2 : k < n0 := lp_nge (N := n0) (k := k) c_2 (by omega) (by omega)
          refine lv_iload_n hx hb dX4_pass_30 rfl (lv_at hl 2 rfl) ?_
          refine lv_aload_n hx hb dX4_pass_31 rfl (lv_at hl 0 rfl) ?_
          refine va_get (D := D) (ci := 4) (v := .ref (a 0)) (C := RX4) (T := TX4) (N := 3) hx hb hts hiX4 hown hK.1 hP 0 rfl rfl 0 (by decide) (hts (.fieldLink RX4 12 "IceLanes" "river" "LIceLanes$River;") (by decide +kernel)) (fun _ h9 => h9) rfl dX4_pass_32 ?_
          refine wr_i (wn := wLan b a a2 cI (hourF τ) σ2 ω) (va_runVN (As := []) (rest := [.int (hsA σ k)]) ⟨hx, hb, hml, hown, hts⟩ (M_X2_spendHour l D cI a τ (h + k) nc _ hokτ (by omega)) ⟨va_cnB 0 hts gX4_pass_X2_spendHour_n179 rfl rfl rfl (nX4_179 hN) (hts (.initialized RX2) (by decide +kernel)) (by decide +kernel) ⟨Nat.le_of_ble_eq_true rfl, Nat.le_of_ble_eq_true rfl⟩, hts (.instanceMethod yX2_spendHour) (by decide +kernel), hts (.selects RX2 yX2_spendHour yX2_spendHour) (by decide +kernel)⟩ (wrV hK hP hD [4, 5, 6, 7, 8, 9, 10, 11, 12, 13, 14, 15, 16, 17, 18, 19] [0] rfl rfl rfl (ci := 2) (q0 := 4) rfl rfl) rfl rfl hl.1 rfl (lv_room (Nat.le_of_ble_eq_true rfl)) dX4_pass_35 ⟨Nat.le_of_ble_eq_true rfl, Nat.le_of_ble_eq_true rfl⟩) hP hD hS hA [4, 5, 6, 7, 8, 9, 10, 11, 12, 13, 14, 15, 16, 17, 18, 19] [0, 1, 2, 3, 20, 21, 22, 23, 24, 25, 26, 27, 28, 29, 30, 31, 32, 33, 34, 35] [0, 1, 2, 3, 20, 21, 22, 23, 24, 25, 26, 27, 28, 29, 30, 31, 32, 33, 34, 35, 4, 5, 6, 7, 8, 9, 10, 11, 12, 13, 14, 15, 16, 17, 18, 19] rfl rfl rfl rfl rfl rfl (fun H locs hP hD hS => ?_)
          generalize eσ_3 : hourF τ = σ_3 at hP hD
          refine lv_iadd hx hb dX4_pass_38 ?_
          refine lv_istore_n (lv' := [(2, .int ((hsA σ k) + (hourA τ))), (0, .ref (b 0)), (1, .int (nI n0)), (3, .int (nI k))]) hx hb dX4_pass_39 rfl hl (by decide) rfl (fun ls hl => ?_)
          have hl : lv_has ls 4 [(2, .int (hsA σ (k + 1))), (0, .ref (b 0)), (1, .int (nI n0)), (3, .int (nI k))] := by rw [show hsA σ (k + 1) = (hsA σ k) + (hourA τ) from (by show hsA σ k + hourA (hoursF k σ) = _; rw [hτ])]; exact hl
          refine lv_iinc (v := nI (k + 1)) (lv' := [(3, .int (nI (k + 1))), (2, .int (hsA σ (k + 1))), (0, .ref (b 0)), (1, .int (nI n0))]) hx hb dX4_pass_40 hl (k := 3) rfl (nI_1 k) (by decide) rfl (fun ls hl => ?_)
          refine lv_goto (tgt := 25) hx hb dX4_pass_43 (by decide) ?_
          exact ih25 (k + 1) σ_3 (by omega) ⟨by omega, (by rw [← eσ_3, show h + (k + 1) = (h + k) + 1 by omega]; exact okR_hour hokτ (by omega)), (by rw [← eσ_3, hτ]; rfl)⟩ _ _ hP hD hS ls (lv_sub hl [2, 3, 1, 0] rfl)
    exact loop25 202 0 σ (by omega) ⟨by omega, hok, rfl⟩ _ _ hP hD hS ls (lv_sub hl [2, 3, 1, 0] rfl)
  · skip
    have c_1 : ¬ (1 ≤ (nI n0) ∧ (nI n0) ≤ 200) := bI_z.mp c_1
    first | exact absurd c_1 (by assumption) | exact absurd (by assumption) c_1
set_option maxHeartbeats 4000000 in
set_option maxRecDepth 100000 in
theorem M_X4_count_ok (l : Launch) (D : va_G) (cI : ClassId) (b : Nat → Nat) (a : Nat → Nat) (a2 : Nat → Nat) (σ : St) (σ2 : St) (ω : St) (w : Nat) (nc : Nat) (nw : Nat) (h1 : (0 ≤ nI w ∧ nI w ≤ 10)) (hw11 : w < 11) (hnc : σ 17 0 = nI nc) (hn8 : nc ≤ 8) (he2 : σ 2 = ω 2) (hnw : ω 19 0 = nI nw) (hw12 : nw ≤ 12) : Met l yX4_count wsX4_count ({ frames := 2, cells := 0, slots := 0, locals := 44 } : Room) (rdPc [.ref (b 0), .int (nI w)] D (wLan b a a2 cI σ σ2 ω) [(cI, .int)]) (rdQi (ctF σ ω nc nw w)) 0 0 (fun _ => False) := by
  refine Met.ofW (cc := cX4_count) (maxL := 2) (ret := (some .int)) (by decide) rfl ?_
  intro p e s m args below meth c s₁ B hml hv
  obtain ⟨hargs, hP, hK⟩ := hv
  have hx := B.exec
  have hb := B.bytes
  have hr := B.returns
  have hts := atoms_spec (ws := wsX4_count) B.pre
  have hown : s.vm.findClass RX4 = some m.cls := findClass_of_methodNamed B.named
  have hlocks := B.notSynchronized
  obtain ⟨_, hN⟩ := id hK
  refine my_abs (fun Q hQ => ?_)
  obtain ⟨ls, hl, hent⟩ := my_entry (m := m) (n := 2) hargs (Nat.le_of_ble_eq_true rfl)
  rw [hent]
  have hl : lv_has ls 2 [(0, .ref (b 0)), (1, .int (nI w))] := hl
  show W p l e ({ frames := 2, cells := 0, slots := 0, locals := 44 } : Room) s m args below meth c s.heap [] 0 0 Q (F0 m 0 ls [])
  refine lv_iload_n hx hb dX4_count_0 rfl (lv_at hl 1 rfl) ?_
  refine lv_iconst (v := 0) hx hb dX4_count_1 (by decide) ?_
  refine lv_bipush (v := 10) hx hb dX4_count_2 (by decide) ?_
  refine rd_i (va_runS (As := [.int (nI w), .int 0, .int 10]) (rest := []) ⟨hx, hb, hml, hown, hts⟩ (M_X4_isWithin l D cI (nI w) 0 10 ) (va_cwS 3 hts gX4_count_X4_isWithin rfl rfl rfl (by decide +kernel) ⟨Nat.le_of_ble_eq_true rfl, Nat.le_of_ble_eq_true rfl⟩) (rdS hK hP [] [0] rfl rfl) rfl rfl hl.1 rfl (lv_room (Nat.le_of_ble_eq_true rfl)) dX4_count_4 ⟨Nat.zero_le _, Nat.zero_le _⟩) ?_
  refine lv_if_ne (tgt := 20) hx hb dX4_count_7 (by decide) (fun c_1 => ?_) (fun c_1 => ?_)
  · skip
    have c_1 : (0 ≤ (nI w) ∧ (nI w) ≤ 10) := bI_nz.mp c_1
    refine lv_aload_n hx hb dX4_count_20 rfl (lv_at hl 0 rfl) ?_
    refine lv_iload_n hx hb dX4_count_21 rfl (lv_at hl 1 rfl) ?_
    refine rd_i (va_runV (As := [.int (nI w)]) (rest := []) ⟨hx, hb, hml, hown, hts⟩ (M_X4_counted l D cI b a a2 σ σ2 ω w nc nw (by first | assumption | omega) (by first | assumption | omega) (by first | assumption | omega) (by first | assumption | omega) (by first | assumption | omega) (by first | assumption | omega)) (cwV 1 hts gX4_count_X4_counted rfl rfl rfl (by decide +kernel) ⟨Nat.le_of_ble_eq_true rfl, Nat.le_of_ble_eq_true rfl⟩) (rdV hK hP [0, 1, 2, 3, 4, 5, 6, 7, 8, 9, 10, 11, 12, 13, 14, 15, 16, 17, 18, 19, 20, 21, 22, 23, 24, 25, 26, 27, 28, 29, 30, 31, 32, 33, 34, 35] [0] rfl rfl (ci := 4) (q0 := 0) rfl rfl) rfl rfl hl.1 rfl (lv_room (Nat.le_of_ble_eq_true rfl)) dX4_count_22 ⟨Nat.zero_le _, Nat.zero_le _⟩) ?_
    subst hQ
    exact ret_rdi hx hb hr rfl hlocks (show ctF σ ω nc nw w = ctF σ ω nc nw w from rfl) dX4_count_25
  · skip
    have c_1 : ¬ (0 ≤ (nI w) ∧ (nI w) ≤ 10) := bI_z.mp c_1
    first | exact absurd c_1 (by assumption) | exact absurd (by assumption) c_1
