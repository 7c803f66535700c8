set_option maxHeartbeats 4000000 in
set_option maxRecDepth 100000 in
theorem M_X4_isWithin (l : Launch) (D : va_G) (cI : ClassId) (v : Int32) (lo : Int32) (hi : Int32) : Met l yX4_isWithin wsX4_isWithin ({ frames := 0, cells := 0, slots := 0, locals := 0 } : Room) (rdPc [.int v, .int lo, .int hi] D (([] : va_W)) [(cI, .int)]) (rdQi (bI (lo ≤ v ∧ v ≤ hi))) 0 0 (fun _ => False) := by
  refine Met.ofW (cc := cX4_isWithin) (maxL := 3) (ret := (some .boolean)) (by decide) rfl ?_
  intro p e s m args below meth c s₁ B hml hv
  obtain ⟨hargs, hP, hK⟩ := hv
  have hx := B.exec
  have hb := B.bytes
  have hr := B.returns
  have hts := atoms_spec (ws := wsX4_isWithin) B.pre
  have hown : s.vm.findClass RX4 = some m.cls := findClass_of_methodNamed B.named
  have hlocks := B.notSynchronized
  obtain ⟨_, hN⟩ := id hK
  refine my_abs (fun Q hQ => ?_)
  obtain ⟨ls, hl, hent⟩ := my_entry (m := m) (n := 3) hargs (Nat.le_of_ble_eq_true rfl)
  rw [hent]
  have hl : lv_has ls 3 [(0, .int v), (1, .int lo), (2, .int hi)] := hl
  show W p l e ({ frames := 0, cells := 0, slots := 0, locals := 0 } : Room) s m args below meth c s.heap [] 0 0 Q (F0 m 0 ls [])
  refine lv_iload_n hx hb dX4_isWithin_0 rfl (lv_at hl 1 rfl) ?_
  refine lv_iload_n hx hb dX4_isWithin_1 rfl (lv_at hl 0 rfl) ?_
  refine lv_icmp_gt (tgt := 14) hx hb dX4_isWithin_2 (by decide) (fun c_1 => ?_) (fun c_1 => ?_)
  · skip
    refine lv_iconst (v := 0) hx hb dX4_isWithin_14 (by decide) ?_
    subst hQ
    exact ret_rdi hx hb hr rfl hlocks (show 0 = bI (lo ≤ v ∧ v ≤ hi) from (by first | exact bI_t (by simp only [i_le, i_lt, i_eq, Int32.reduceToInt] at c_1 ⊢; omega) | exact bI_f (by simp only [i_le, i_lt, i_eq, Int32.reduceToInt] at c_1 ⊢; omega))) dX4_isWithin_15
  · skip
    refine lv_iload_n hx hb dX4_isWithin_5 rfl (lv_at hl 0 rfl) ?_
    refine lv_iload_n hx hb dX4_isWithin_6 rfl (lv_at hl 2 rfl) ?_
    refine lv_icmp_gt (tgt := 14) hx hb dX4_isWithin_7 (by decide) (fun c_2 => ?_) (fun c_2 => ?_)
    · skip
      refine lv_iconst (v := 0) hx hb dX4_isWithin_14 (by decide) ?_
      subst hQ
      exact ret_rdi hx hb hr rfl hlocks (show 0 = bI (lo ≤ v ∧ v ≤ hi) from (by first | exact bI_t (by simp only [i_le, i_lt, i_eq, Int32.reduceToInt] at c_1 c_2 ⊢; omega) | exact bI_f (by simp only [i_le, i_lt, i_eq, Int32.reduceToInt] at c_1 c_2 ⊢; omega))) dX4_isWithin_15
    · skip
      refine lv_iconst (v := 1) hx hb dX4_isWithin_10 (by decide) ?_
      refine lv_goto (tgt := 15) hx hb dX4_isWithin_11 (by decide) ?_
      subst hQ
      exact ret_rdi hx hb hr rfl hlocks (show 1 = bI (lo ≤ v ∧ v ≤ hi) from (by first | exact bI_t (by simp only [i_le, i_lt, i_eq, Int32.reduceToInt] at c_1 c_2 ⊢; omega) | exact bI_f (by simp only [i_le, i_lt, i_eq, Int32.reduceToInt] at c_1 c_2 ⊢; omega))) dX4_isWithin_15
set_option maxHeartbeats 4000000 in
set_option maxRecDepth 100000 in
theorem M_X4_isSection (l : Launch) (D : va_G) (cI : ClassId) (v : Int32) : Met l yX4_isSection wsX4_isSection ({ frames := 1, cells := 0, slots := 0, locals := 22 } : Room) (rdPc [.int v] D (([] : va_W)) [(cI, .int)]) (rdQi (bI (0 ≤ v ∧ v ≤ 11))) 0 0 (fun _ => False) := by
  refine Met.ofW (cc := cX4_isSection) (maxL := 1) (ret := (some .boolean)) (by decide) rfl ?_
  intro p e s m args below meth c s₁ B hml hv
  obtain ⟨hargs, hP, hK⟩ := hv
  have hx := B.exec
  have hb := B.bytes
  have hr := B.returns
  have hts := atoms_spec (ws := wsX4_isSection) B.pre
  have hown : s.vm.findClass RX4 = some m.cls := findClass_of_methodNamed B.named
  have hlocks := B.notSynchronized
  obtain ⟨_, hN⟩ := id hK
  refine my_abs (fun Q hQ => ?_)
  obtain ⟨ls, hl, hent⟩ := my_entry (m := m) (n := 1) hargs (Nat.le_of_ble_eq_true rfl)
  rw [hent]
  have hl : lv_has ls 1 [(0, .int v)] := hl
  show W p l e ({ frames := 1, cells := 0, slots := 0, locals := 22 } : Room) s m args below meth c s.heap [] 0 0 Q (F0 m 0 ls [])
  refine lv_iload_n hx hb dX4_isSection_0 rfl (lv_at hl 0 rfl) ?_
  refine lv_iconst (v := 0) hx hb dX4_isSection_1 (by decide) ?_
  refine lv_bipush (v := 11) hx hb dX4_isSection_2 (by decide) ?_
  refine rd_i (va_runS (As := [.int v, .int 0, .int 11]) (rest := []) ⟨hx, hb, hml, hown, hts⟩ (M_X4_isWithin l D cI v 0 11 ) (va_cwS 3 hts gX4_isSection_X4_isWithin rfl rfl rfl (by decide +kernel) ⟨Nat.le_of_ble_eq_true rfl, Nat.le_of_ble_eq_true rfl⟩) (rdS hK hP [] [0] rfl rfl) rfl rfl hl.1 rfl (lv_room (Nat.le_of_ble_eq_true rfl)) dX4_isSection_4 ⟨Nat.zero_le _, Nat.zero_le _⟩) ?_
  subst hQ
  exact ret_rdi hx hb hr (bI_nar) hlocks (show bI (0 ≤ v ∧ v ≤ 11) = bI (0 ≤ v ∧ v ≤ 11) from rfl) dX4_isSection_7
set_option maxHeartbeats 4000000 in
set_option maxRecDepth 100000 in
theorem M_X4_isPlace (l : Launch) (D : va_G) (cI : ClassId) (v : Int32) (u : Int32) : Met l yX4_isPlace wsX4_isPlace ({ frames := 2, cells := 0, slots := 0, locals := 42 } : Room) (rdPc [.int v, .int u] D (([] : va_W)) [(cI, .int)]) (rdQi (bI ((0 ≤ v ∧ v ≤ 11) ∧ (0 ≤ u ∧ u ≤ 2)))) 0 0 (fun _ => False) := by
  refine Met.ofW (cc := cX4_isPlace) (maxL := 2) (ret := (some .boolean)) (by decide) rfl ?_
  intro p e s m args below meth c s₁ B hml hv
  obtain ⟨hargs, hP, hK⟩ := hv
  have hx := B.exec
  have hb := B.bytes
  have hr := B.returns
  have hts := atoms_spec (ws := wsX4_isPlace) B.pre
  have hown : s.vm.findClass RX4 = some m.cls := findClass_of_methodNamed B.named
  have hlocks := B.notSynchronized
  obtain ⟨_, hN⟩ := id hK
  refine my_abs (fun Q hQ => ?_)
  obtain ⟨ls, hl, hent⟩ := my_entry (m := m) (n := 2) hargs (Nat.le_of_ble_eq_true rfl)
  rw [hent]
  have hl : lv_has ls 2 [(0, .int v), (1, .int u)] := hl
  show W p l e ({ frames := 2, cells := 0, slots := 0, locals := 42 } : Room) s m args below meth c s.heap [] 0 0 Q (F0 m 0 ls [])
  refine lv_iload_n hx hb dX4_isPlace_0 rfl (lv_at hl 0 rfl) ?_
  refine rd_i (va_runS (As := [.int v]) (rest := []) ⟨hx, hb, hml, hown, hts⟩ (M_X4_isSection l D cI v ) (va_cwS 1 hts gX4_isPlace_X4_isSection rfl rfl rfl (by decide +kernel) ⟨Nat.le_of_ble_eq_true rfl, Nat.le_of_ble_eq_true rfl⟩) (rdS hK hP [] [0] rfl rfl) rfl rfl hl.1 rfl (lv_room (Nat.le_of_ble_eq_true rfl)) dX4_isPlace_1 ⟨Nat.zero_le _, Nat.zero_le _⟩) ?_
  refine lv_if_eq (tgt := 20) hx hb dX4_isPlace_4 (by decide) (fun c_1 => ?_) (fun c_1 => ?_)
  · skip
    have c_1 : ¬ (0 ≤ v ∧ v ≤ 11) := bI_z.mp c_1
    refine lv_iconst (v := 0) hx hb dX4_isPlace_20 (by decide) ?_
    subst hQ
    exact ret_rdi hx hb hr rfl hlocks (show 0 = bI ((0 ≤ v ∧ v ≤ 11) ∧ (0 ≤ u ∧ u ≤ 2)) from (by first | exact bI_t ⟨by assumption, by assumption⟩ | exact bI_f (fun h => absurd h.1 (by assumption)) | exact bI_f (fun h => absurd h.2 (by assumption)))) dX4_isPlace_21
  · skip
    have c_1 : (0 ≤ v ∧ v ≤ 11) := bI_nz.mp c_1
    refine lv_iload_n hx hb dX4_isPlace_7 rfl (lv_at hl 1 rfl) ?_
    refine lv_iconst (v := 0) hx hb dX4_isPlace_8 (by decide) ?_
    refine lv_iconst (v := 2) hx hb dX4_isPlace_9 (by decide) ?_
    refine rd_i (va_runS (As := [.int u, .int 0, .int 2]) (rest := []) ⟨hx, hb, hml, hown, hts⟩ (M_X4_isWithin l D cI u 0 2 ) (va_cwS 3 hts gX4_isPlace_X4_isWithin rfl rfl rfl (by decide +kernel) ⟨Nat.le_of_ble_eq_true rfl, Nat.le_of_ble_eq_true rfl⟩) (rdS hK hP [] [0] rfl rfl) rfl rfl hl.1 rfl (lv_room (Nat.le_of_ble_eq_true rfl)) dX4_isPlace_10 ⟨Nat.zero_le _, Nat.zero_le _⟩) ?_
    refine lv_if_eq (tgt := 20) hx hb dX4_isPlace_13 (by decide) (fun c_2 => ?_) (fun c_2 => ?_)
    · skip
      have c_2 : ¬ (0 ≤ u ∧ u ≤ 2) := bI_z.mp c_2
      refine lv_iconst (v := 0) hx hb dX4_isPlace_20 (by decide) ?_
      subst hQ
      exact ret_rdi hx hb hr rfl hlocks (show 0 = bI ((0 ≤ v ∧ v ≤ 11) ∧ (0 ≤ u ∧ u ≤ 2)) from (by first | exact bI_t ⟨by assumption, by assumption⟩ | exact bI_f (fun h => absurd h.1 (by assumption)) | exact bI_f (fun h => absurd h.2 (by assumption)))) dX4_isPlace_21
    · skip
      have c_2 : (0 ≤ u ∧ u ≤ 2) := bI_nz.mp c_2
      refine lv_iconst (v := 1) hx hb dX4_isPlace_16 (by decide) ?_
      refine lv_goto (tgt := 21) hx hb dX4_isPlace_17 (by decide) ?_
      subst hQ
      exact ret_rdi hx hb hr rfl hlocks (show 1 = bI ((0 ≤ v ∧ v ≤ 11) ∧ (0 ≤ u ∧ u ≤ 2)) from (by first | exact bI_t ⟨by assumption, by assumption⟩ | exact bI_f (fun h => absurd h.1 (by assumption)) | exact bI_f (fun h => absurd h.2 (by assumption)))) dX4_isPlace_21
set_option maxHeartbeats 4000000 in
set_option maxRecDepth 100000 in
theorem M_X4_placeOf (l : Launch) (D : va_G) (cI : ClassId) (v : Int32) (u : Int32) : Met l yX4_placeOf wsX4_placeOf ({ frames := 0, cells := 0, slots := 0, locals := 0 } : Room) (rdPc [.int v, .int u] D (([] : va_W)) [(cI, .int)]) (rdQi (v * 3 + u)) 0 0 (fun _ => False) := by
  refine Met.ofW (cc := cX4_placeOf) (maxL := 2) (ret := (some .int)) (by decide) rfl ?_
  intro p e s m args below meth c s₁ B hml hv
  obtain ⟨hargs, hP, hK⟩ := hv
  have hx := B.exec
  have hb := B.bytes
  have hr := B.returns
  have hts := atoms_spec (ws := wsX4_placeOf) B.pre
  have hown : s.vm.findClass RX4 = some m.cls := findClass_of_methodNamed B.named
  have hlocks := B.notSynchronized
  obtain ⟨_, hN⟩ := id hK
  refine my_abs (fun Q hQ => ?_)
  obtain ⟨ls, hl, hent⟩ := my_entry (m := m) (n := 2) hargs (Nat.le_of_ble_eq_true rfl)
  rw [hent]
  have hl : lv_has ls 2 [(0, .int v), (1, .int u)] := hl
  show W p l e ({ frames := 0, cells := 0, slots := 0, locals := 0 } : Room) s m args below meth c s.heap [] 0 0 Q (F0 m 0 ls [])
  refine lv_iload_n hx hb dX4_placeOf_0 rfl (lv_at hl 0 rfl) ?_
  refine lv_iconst (v := 3) hx hb dX4_placeOf_1 (by decide) ?_
  refine lv_imul hx hb dX4_placeOf_2 ?_
  refine lv_iload_n hx hb dX4_placeOf_3 rfl (lv_at hl 1 rfl) ?_
  refine lv_iadd hx hb dX4_placeOf_4 ?_
  subst hQ
  exact ret_rdi hx hb hr rfl hlocks (show (v * 3) + u = v * 3 + u from rfl) dX4_placeOf_5
set_option maxHeartbeats 4000000 in
set_option maxRecDepth 100000 in
theorem M_X6_isIn (l : Launch) (D : va_G) (cI : ClassId) (v : Int32) (lo : Int32) (hi : Int32) : Met l yX6_isIn wsX6_isIn ({ frames := 0, cells := 0, slots := 0, locals := 0 } : Room) (rdPc [.int v, .int lo, .int hi] D (([] : va_W)) [(cI, .int)]) (rdQi (bI (lo ≤ v ∧ v ≤ hi))) 0 0 (fun _ => False) := by
  refine Met.ofW (cc := cX6_isIn) (maxL := 3) (ret := (some .boolean)) (by decide) rfl ?_
  intro p e s m args below meth c s₁ B hml hv
  obtain ⟨hargs, hP, hK⟩ := hv
  have hx := B.exec
  have hb := B.bytes
  have hr := B.returns
  have hts := atoms_spec (ws := wsX6_isIn) B.pre
  have hown : s.vm.findClass RX6 = some m.cls := findClass_of_methodNamed B.named
  have hlocks := B.notSynchronized
  obtain ⟨_, hN⟩ := id hK
  refine my_abs (fun Q hQ => ?_)
  obtain ⟨ls, hl, hent⟩ := my_entry (m := m) (n := 3) hargs (Nat.le_of_ble_eq_true rfl)
  rw [hent]
  have hl : lv_has ls 3 [(0, .int v), (1, .int lo), (2, .int hi)] := hl
  show W p l e ({ frames := 0, cells := 0, slots := 0, locals := 0 } : Room) s m args below meth c s.heap [] 0 0 Q (F0 m 0 ls [])
  refine lv_iload_n hx hb dX6_isIn_0 rfl (lv_at hl 0 rfl) ?_
  refine lv_iload_n hx hb dX6_isIn_1 rfl (lv_at hl 1 rfl) ?_
  refine lv_icmp_lt (tgt := 14) hx hb dX6_isIn_2 (by decide) (fun c_1 => ?_) (fun c_1 => ?_)
  · skip
    refine lv_iconst (v := 0) hx hb dX6_isIn_14 (by decide) ?_
    subst hQ
    exact ret_rdi hx hb hr rfl hlocks (show 0 = bI (lo ≤ v ∧ v ≤ hi) from (by first | exact bI_t (by simp only [i_le, i_lt, i_eq, Int32.reduceToInt] at c_1 ⊢; omega) | exact bI_f (by simp only [i_le, i_lt, i_eq, Int32.reduceToInt] at c_1 ⊢; omega))) dX6_isIn_15
  · skip
    refine lv_iload_n hx hb dX6_isIn_5 rfl (lv_at hl 0 rfl) ?_
    refine lv_iload_n hx hb dX6_isIn_6 rfl (lv_at hl 2 rfl) ?_
    refine lv_icmp_gt (tgt := 14) hx hb dX6_isIn_7 (by decide) (fun c_2 => ?_) (fun c_2 => ?_)
    · skip
      refine lv_iconst (v := 0) hx hb dX6_isIn_14 (by decide) ?_
      subst hQ
      exact ret_rdi hx hb hr rfl hlocks (show 0 = bI (lo ≤ v ∧ v ≤ hi) from (by first | exact bI_t (by simp only [i_le, i_lt, i_eq, Int32.reduceToInt] at c_1 c_2 ⊢; omega) | exact bI_f (by simp only [i_le, i_lt, i_eq, Int32.reduceToInt] at c_1 c_2 ⊢; omega))) dX6_isIn_15
    · skip
      refine lv_iconst (v := 1) hx hb dX6_isIn_10 (by decide) ?_
      refine lv_goto (tgt := 15) hx hb dX6_isIn_11 (by decide) ?_
      subst hQ
      exact ret_rdi hx hb hr rfl hlocks (show 1 = bI (lo ≤ v ∧ v ≤ hi) from (by first | exact bI_t (by simp only [i_le, i_lt, i_eq, Int32.reduceToInt] at c_1 c_2 ⊢; omega) | exact bI_f (by simp only [i_le, i_lt, i_eq, Int32.reduceToInt] at c_1 c_2 ⊢; omega))) dX6_isIn_15
set_option maxHeartbeats 4000000 in
set_option maxRecDepth 100000 in
theorem M_X6_isPlace (l : Launch) (D : va_G) (cI : ClassId) (v : Int32) (u : Int32) : Met l yX6_isPlace wsX6_isPlace ({ frames := 1, cells := 0, slots := 0, locals := 22 } : Room) (rdPc [.int v, .int u] D (([] : va_W)) [(cI, .int)]) (rdQi (bI ((0 ≤ v ∧ v ≤ 11) ∧ (0 ≤ u ∧ u ≤ 2)))) 0 0 (fun _ => False) := by
  refine Met.ofW (cc := cX6_isPlace) (maxL := 2) (ret := (some .boolean)) (by decide) rfl ?_
  intro p e s m args below meth c s₁ B hml hv
  obtain ⟨hargs, hP, hK⟩ := hv
  have hx := B.exec
  have hb := B.bytes
  have hr := B.returns
  have hts := atoms_spec (ws := wsX6_isPlace) B.pre
  have hown : s.vm.findClass RX6 = some m.cls := findClass_of_methodNamed B.named
  have hlocks := B.notSynchronized
  obtain ⟨_, hN⟩ := id hK
  refine my_abs (fun Q hQ => ?_)
  obtain ⟨ls, hl, hent⟩ := my_entry (m := m) (n := 2) hargs (Nat.le_of_ble_eq_true rfl)
  rw [hent]
  have hl : lv_has ls 2 [(0, .int v), (1, .int u)] := hl
  show W p l e ({ frames := 1, cells := 0, slots := 0, locals := 22 } : Room) s m args below meth c s.heap [] 0 0 Q (F0 m 0 ls [])
  refine lv_iload_n hx hb dX6_isPlace_0 rfl (lv_at hl 0 rfl) ?_
  refine lv_iconst (v := 0) hx hb dX6_isPlace_1 (by decide) ?_
  refine lv_bipush (v := 11) hx hb dX6_isPlace_2 (by decide) ?_
  refine rd_i (va_runS (As := [.int v, .int 0, .int 11]) (rest := []) ⟨hx, hb, hml, hown, hts⟩ (M_X6_isIn l D cI v 0 11 ) (va_cwS 3 hts gX6_isPlace_X6_isIn rfl rfl rfl (by decide +kernel) ⟨Nat.le_of_ble_eq_true rfl, Nat.le_of_ble_eq_true rfl⟩) (rdS hK hP [] [0] rfl rfl) rfl rfl hl.1 rfl (lv_room (Nat.le_of_ble_eq_true rfl)) dX6_isPlace_4 ⟨Nat.zero_le _, Nat.zero_le _⟩) ?_
  refine lv_if_eq (tgt := 23) hx hb dX6_isPlace_7 (by decide) (fun c_1 => ?_) (fun c_1 => ?_)
  · skip
    have c_1 : ¬ (0 ≤ v ∧ v ≤ 11) := bI_z.mp c_1
    refine lv_iconst (v := 0) hx hb dX6_isPlace_23 (by decide) ?_
    subst hQ
    exact ret_rdi hx hb hr rfl hlocks (show 0 = bI ((0 ≤ v ∧ v ≤ 11) ∧ (0 ≤ u ∧ u ≤ 2)) from (by first | exact bI_t ⟨by assumption, by assumption⟩ | exact bI_f (fun h => absurd h.1 (by assumption)) | exact bI_f (fun h => absurd h.2 (by assumption)))) dX6_isPlace_24
  · skip
    have c_1 : (0 ≤ v ∧ v ≤ 11) := bI_nz.mp c_1
    refine lv_iload_n hx hb dX6_isPlace_10 rfl (lv_at hl 1 rfl) ?_
    refine lv_iconst (v := 0) hx hb dX6_isPlace_11 (by decide) ?_
    refine lv_iconst (v := 2) hx hb dX6_isPlace_12 (by decide) ?_
    refine rd_i (va_runS (As := [.int u, .int 0, .int 2]) (rest := []) ⟨hx, hb, hml, hown, hts⟩ (M_X6_isIn l D cI u 0 2 ) (va_cwS 3 hts gX6_isPlace_X6_isIn rfl rfl rfl (by decide +kernel) ⟨Nat.le_of_ble_eq_true rfl, Nat.le_of_ble_eq_true rfl⟩) (rdS hK hP [] [0] rfl rfl) rfl rfl hl.1 rfl (lv_room (Nat.le_of_ble_eq_true rfl)) dX6_isPlace_13 ⟨Nat.zero_le _, Nat.zero_le _⟩) ?_
    refine lv_if_eq (tgt := 23) hx hb dX6_isPlace_16 (by decide) (fun c_2 => ?_) (fun c_2 => ?_)
    · skip
      have c_2 : ¬ (0 ≤ u ∧ u ≤ 2) := bI_z.mp c_2
      refine lv_iconst (v := 0) hx hb dX6_isPlace_23 (by decide) ?_
      subst hQ
      exact ret_rdi hx hb hr rfl hlocks (show 0 = bI ((0 ≤ v ∧ v ≤ 11) ∧ (0 ≤ u ∧ u ≤ 2)) from (by first | exact bI_t ⟨by assumption, by assumption⟩ | exact bI_f (fun h => absurd h.1 (by assumption)) | exact bI_f (fun h => absurd h.2 (by assumption)))) dX6_isPlace_24
    · skip
      have c_2 : (0 ≤ u ∧ u ≤ 2) := bI_nz.mp c_2
      refine lv_iconst (v := 1) hx hb dX6_isPlace_19 (by decide) ?_
      refine lv_goto (tgt := 24) hx hb dX6_isPlace_20 (by decide) ?_
      subst hQ
      exact ret_rdi hx hb hr rfl hlocks (show 1 = bI ((0 ≤ v ∧ v ≤ 11) ∧ (0 ≤ u ∧ u ≤ 2)) from (by first | exact bI_t ⟨by assumption, by assumption⟩ | exact bI_f (fun h => absurd h.1 (by assumption)) | exact bI_f (fun h => absurd h.2 (by assumption)))) dX6_isPlace_24
set_option maxHeartbeats 4000000 in
set_option maxRecDepth 100000 in
theorem M_X1_soundness (l : Launch) (D : va_G) (cI : ClassId) (a : Nat → Nat) (σ : St) (s1 : Int32) (s2 : Int32) (h1 : inS s1) (h2 : inL s2) : Met l yX1_soundness wsX1_soundness ({ frames := 1, cells := 0, slots := 0, locals := 21 } : Room) (rdPc [.ref (a 3), .int s1, .int s2] D (wIce a cI σ) [(cI, .int)]) (rdQi (sound (σ 3) (σ 4) s1 s2)) 0 0 (fun _ => False) := by
  refine Met.ofW (cc := cX1_soundness) (maxL := 4) (ret := (some .int)) (by decide) rfl ?_
  intro p e s m args below meth c s₁ B hml hv
  obtain ⟨hargs, hP, hK⟩ := hv
  have hx := B.exec
  have hb := B.bytes
  have hr := B.returns
  have hts := atoms_spec (ws := wsX1_soundness) B.pre
  have hown : s.vm.findClass RX1 = some m.cls := findClass_of_methodNamed B.named
  have hlocks := B.notSynchronized
  obtain ⟨_, hN⟩ := id hK
  have hiX1 : ∀ w ∈ wsX10, w ∈ wsX1_soundness := by decide +kernel
  refine my_abs (fun Q hQ => ?_)
  obtain ⟨ls, hl, hent⟩ := my_entry (m := m) (n := 4) hargs (Nat.le_of_ble_eq_true rfl)
  rw [hent]
  have hl : lv_has ls 4 [(0, .ref (a 3)), (1, .int s1), (2, .int s2)] := hl
  show W p l e ({ frames := 1, cells := 0, slots := 0, locals := 21 } : Room) s m args below meth c s.heap [] 0 0 Q (F0 m 0 ls [])
  refine lv_iload_n hx hb dX1_soundness_0 rfl (lv_at hl 1 rfl) ?_
  refine lv_iload_n hx hb dX1_soundness_1 rfl (lv_at hl 2 rfl) ?_
  refine rd_i (va_runSN (As := [.int s1, .int s2]) (rest := []) ⟨hx, hb, hml, hown, hts⟩ (M_X4_placeOf l D cI s1 s2 ) ⟨va_cnB 2 hts gX1_soundness_X4_placeOf_n24 rfl rfl rfl (nX1_24 hN) (hts (.initialized RX4) (by decide +kernel)) (by decide +kernel) ⟨Nat.le_of_ble_eq_true rfl, Nat.le_of_ble_eq_true rfl⟩, hts (.static yX4_placeOf) (by decide +kernel), trivial⟩ (rdS hK hP [] [0] rfl rfl) rfl rfl hl.1 rfl (lv_room (Nat.le_of_ble_eq_true rfl)) dX1_soundness_2 ⟨Nat.zero_le _, Nat.zero_le _⟩) ?_
  refine lv_istore_n (lv' := [(3, .int (s1 * 3 + s2)), (0, .ref (a 3)), (1, .int s1), (2, .int s2)]) hx hb dX1_soundness_5 rfl hl (by decide) rfl (fun ls hl => ?_)
  refine lv_aload_n hx hb dX1_soundness_6 rfl (lv_at hl 1 rfl) ?_
  refine va_get (D := D) (ci := 1) (v := .ref (a 4)) (C := RX1) (T := TX1) (N := 2) hx hb hts hiX1 hown hK.1 hP 0 rfl rfl 0 (by decide) (hts (.fieldLink RX1 9 "IceLanes$Ice" "thickness" "[I") (by decide +kernel)) (fun _ h9 => h9) rfl dX1_soundness_7 ?_
  refine lv_iload_n hx hb dX1_soundness_10 rfl (lv_at hl 0 rfl) ?_
  refine va_iald hx hb hK.1 hP 1 0 rfl rfl (pl_in h1 h2) dX1_soundness_11 ?_
  refine lv_iconst (v := 3) hx hb dX1_soundness_12 (by decide) ?_
  refine lv_aload_n hx hb dX1_soundness_13 rfl (lv_at hl 1 rfl) ?_
  refine va_get (D := D) (ci := 1) (v := .ref (a 5)) (C := RX1) (T := TX1) (N := 2) hx hb hts hiX1 hown hK.1 hP 0 rfl rfl 1 (by decide) (hts (.fieldLink RX1 15 "IceLanes$Ice" "cracks" "[I") (by decide +kernel)) (fun _ h9 => h9) rfl dX1_soundness_14 ?_
  refine lv_iload_n hx hb dX1_soundness_17 rfl (lv_at hl 0 rfl) ?_
  refine va_iald hx hb hK.1 hP 2 0 rfl rfl (pl_in h1 h2) dX1_soundness_18 ?_
  refine lv_imul hx hb dX1_soundness_19 ?_
  refine lv_isub hx hb dX1_soundness_20 ?_
  subst hQ
  exact ret_rdi hx hb hr rfl hlocks (show (σ 3 (s1 * 3 + s2).toNatClampNeg) - (3 * (σ 4 (s1 * 3 + s2).toNatClampNeg)) = sound (σ 3) (σ 4) s1 s2 from rfl) dX1_soundness_21
set_option maxHeartbeats 4000000 in
set_option maxRecDepth 100000 in
theorem M_X1_holds (l : Launch) (D : va_G) (cI : ClassId) (a : Nat → Nat) (σ : St) (s1 : Int32) (s2 : Int32) (ld : Int32) (h1 : inS s1) (h2 : inL s2) : Met l yX1_holds wsX1_holds ({ frames := 2, cells := 0, slots := 0, locals := 44 } : Room) (rdPc [.ref (a 3), .int s1, .int s2, .int ld] D (wIce a cI σ) [(cI, .int)]) (rdQi (bI (ld ≤ sound (σ 3) (σ 4) s1 s2))) 0 0 (fun _ => False) := by
  refine Met.ofW (cc := cX1_holds) (maxL := 4) (ret := (some .boolean)) (by decide) rfl ?_
  intro p e s m args below meth c s₁ B hml hv
  obtain ⟨hargs, hP, hK⟩ := hv
  have hx := B.exec
  have hb := B.bytes
  have hr := B.returns
  have hts := atoms_spec (ws := wsX1_holds) B.pre
  have hown : s.vm.findClass RX1 = some m.cls := findClass_of_methodNamed B.named
  have hlocks := B.notSynchronized
  obtain ⟨_, hN⟩ := id hK
  refine my_abs (fun Q hQ => ?_)
  obtain ⟨ls, hl, hent⟩ := my_entry (m := m) (n := 4) hargs (Nat.le_of_ble_eq_true rfl)
  rw [hent]
  have hl : lv_has ls 4 [(0, .ref (a 3)), (1, .int s1), (2, .int s2), (3, .int ld)] := hl
  show W p l e ({ frames := 2, cells := 0, slots := 0, locals := 44 } : Room) s m args below meth c s.heap [] 0 0 Q (F0 m 0 ls [])
  refine lv_aload_n hx hb dX1_holds_0 rfl (lv_at hl 0 rfl) ?_
  refine lv_iload_n hx hb dX1_holds_1 rfl (lv_at hl 1 rfl) ?_
  refine lv_iload_n hx hb dX1_holds_2 rfl (lv_at hl 2 rfl) ?_
  refine rd_i (va_runV (As := [.int s1, .int s2]) (rest := []) ⟨hx, hb, hml, hown, hts⟩ (M_X1_soundness l D cI a σ s1 s2 (by first | assumption | omega) (by first | assumption | omega)) (cwV 2 hts gX1_holds_X1_soundness rfl rfl rfl (by decide +kernel) ⟨Nat.le_of_ble_eq_true rfl, Nat.le_of_ble_eq_true rfl⟩) (rdV hK hP [0, 1, 2] [0] rfl rfl (ci := 1) (q0 := 0) rfl rfl) rfl rfl hl.1 rfl (lv_room (Nat.le_of_ble_eq_true rfl)) dX1_holds_3 ⟨Nat.zero_le _, Nat.zero_le _⟩) ?_
  refine lv_iload_n hx hb dX1_holds_6 rfl (lv_at hl 3 rfl) ?_
  refine lv_icmp_lt (tgt := 14) hx hb dX1_holds_7 (by decide) (fun c_1 => ?_) (fun c_1 => ?_)
  · skip
    refine lv_iconst (v := 0) hx hb dX1_holds_14 (by decide) ?_
    subst hQ
    exact ret_rdi hx hb hr rfl hlocks (show 0 = bI (ld ≤ sound (σ 3) (σ 4) s1 s2) from (by first | exact bI_t (by simp only [i_le, i_lt, i_eq, Int32.reduceToInt] at c_1 ⊢; omega) | exact bI_f (by simp only [i_le, i_lt, i_eq, Int32.reduceToInt] at c_1 ⊢; omega))) dX1_holds_15
  · skip
    refine lv_iconst (v := 1) hx hb dX1_holds_10 (by decide) ?_
    refine lv_goto (tgt := 15) hx hb dX1_holds_11 (by decide) ?_
    subst hQ
    exact ret_rdi hx hb hr rfl hlocks (show 1 = bI (ld ≤ sound (σ 3) (σ 4) s1 s2) from (by first | exact bI_t (by simp only [i_le, i_lt, i_eq, Int32.reduceToInt] at c_1 ⊢; omega) | exact bI_f (by simp only [i_le, i_lt, i_eq, Int32.reduceToInt] at c_1 ⊢; omega))) dX1_holds_15
set_option maxHeartbeats 4000000 in
set_option maxRecDepth 100000 in
theorem M_X1_mostBorneAt (l : Launch) (D : va_G) (cI : ClassId) (a : Nat → Nat) (σ : St) (s1 : Int32) (s2 : Int32) (h1 : inS s1) (h2 : inL s2) : Met l yX1_mostBorneAt wsX1_mostBorneAt ({ frames := 2, cells := 0, slots := 0, locals := 44 } : Room) (rdPc [.ref (a 3), .int s1, .int s2] D (wIce a cI σ) [(cI, .int)]) (rdQi (mx 0 (sound (σ 3) (σ 4) s1 s2))) 0 0 (fun _ => False) := by
  refine Met.ofW (cc := cX1_mostBorneAt) (maxL := 3) (ret := (some .int)) (by decide) rfl ?_
  intro p e s m args below meth c s₁ B hml hv
  obtain ⟨hargs, hP, hK⟩ := hv
  have hx := B.exec
  have hb := B.bytes
  have hr := B.returns
  have hts := atoms_spec (ws := wsX1_mostBorneAt) B.pre
  have hown : s.vm.findClass RX1 = some m.cls := findClass_of_methodNamed B.named
  have hlocks := B.notSynchronized
  obtain ⟨_, hN⟩ := id hK
  refine my_abs (fun Q hQ => ?_)
  obtain ⟨ls, hl, hent⟩ := my_entry (m := m) (n := 3) hargs (Nat.le_of_ble_eq_true rfl)
  rw [hent]
  have hl : lv_has ls 3 [(0, .ref (a 3)), (1, .int s1), (2, .int s2)] := hl
  show W p l e ({ frames := 2, cells := 0, slots := 0, locals := 44 } : Room) s m args below meth c s.heap [] 0 0 Q (F0 m 0 ls [])
  refine lv_iconst (v := 0) hx hb dX1_mostBorneAt_0 (by decide) ?_
  refine lv_aload_n hx hb dX1_mostBorneAt_1 rfl (lv_at hl 0 rfl) ?_
  refine lv_iload_n hx hb dX1_mostBorneAt_2 rfl (lv_at hl 1 rfl) ?_
  refine lv_iload_n hx hb dX1_mostBorneAt_3 rfl (lv_at hl 2 rfl) ?_
  refine rd_i (va_runV (As := [.int s1, .int s2]) (rest := [.int 0]) ⟨hx, hb, hml, hown, hts⟩ (M_X1_soundness l D cI a σ s1 s2 (by first | assumption | omega) (by first | assumption | omega)) (cwV 2 hts gX1_mostBorneAt_X1_soundness rfl rfl rfl (by decide +kernel) ⟨Nat.le_of_ble_eq_true rfl, Nat.le_of_ble_eq_true rfl⟩) (rdV hK hP [0, 1, 2] [0] rfl rfl (ci := 1) (q0 := 0) rfl rfl) rfl rfl hl.1 rfl (lv_room (Nat.le_of_ble_eq_true rfl)) dX1_mostBorneAt_4 ⟨Nat.zero_le _, Nat.zero_le _⟩) ?_
  refine va_mmax hx hb (by rw [hml]; exact hl.1.symm) hown (hts (.methodLink RX1 31 Lib.Math.max.name) (by decide +kernel)) (hts (.static Lib.Math.max.name) (by decide +kernel)) (hts (.initialized "java/lang/Math") (by decide +kernel)) (hts (.code Lib.Math.max.name Lib.Math.max.code 2 (some .int)) (by decide +kernel)) (Nat.le_of_ble_eq_true rfl) (Nat.le_of_ble_eq_true rfl) (Nat.zero_le _) (Nat.zero_le _) dX1_mostBorneAt_7 ?_
  refine W.eq (g2 := F0 m 10 ls [.int (mx 0 (sound ((σ 3)) ((σ 4)) s1 s2))]) rfl ?_
  subst hQ
  exact ret_rdi hx hb hr rfl hlocks (show mx 0 (sound ((σ 3)) ((σ 4)) s1 s2) = mx 0 (sound (σ 3) (σ 4) s1 s2) from rfl) dX1_mostBorneAt_10
set_option maxHeartbeats 4000000 in
set_option maxRecDepth 100000 in
theorem M_X0_has (l : Launch) (D : va_G) (cI : ClassId) (a : Nat → Nat) (σ : St) (c0 : Int32) : Met l yX0_has wsX0_has ({ frames := 1, cells := 0, slots := 0, locals := 22 } : Room) (rdPc [.ref (a 6), .int c0] D (wCou a cI σ) [(cI, .int)]) (rdQi (bI (0 ≤ c0 ∧ c0 ≤ σ 17 0 - 1))) 0 0 (fun _ => False) := by
  refine Met.ofW (cc := cX0_has) (maxL := 2) (ret := (some .boolean)) (by decide) rfl ?_
  intro p e s m args below meth c s₁ B hml hv
  obtain ⟨hargs, hP, hK⟩ := hv
  have hx := B.exec
  have hb := B.bytes
  have hr := B.returns
  have hts := atoms_spec (ws := wsX0_has) B.pre
  have hown : s.vm.findClass RX0 = some m.cls := findClass_of_methodNamed B.named
  have hlocks := B.notSynchronized
  obtain ⟨_, hN⟩ := id hK
  have hiX0 : ∀ w ∈ wsX00, w ∈ wsX0_has := by decide +kernel
  refine my_abs (fun Q hQ => ?_)
  obtain ⟨ls, hl, hent⟩ := my_entry (m := m) (n := 2) hargs (Nat.le_of_ble_eq_true rfl)
  rw [hent]
  have hl : lv_has ls 2 [(0, .ref (a 6)), (1, .int c0)] := hl
  show W p l e ({ frames := 1, cells := 0, slots := 0, locals := 22 } : Room) s m args below meth c s.heap [] 0 0 Q (F0 m 0 ls [])
  refine lv_iload_n hx hb dX0_has_0 rfl (lv_at hl 1 rfl) ?_
  refine lv_iconst (v := 0) hx hb dX0_has_1 (by decide) ?_
  refine lv_aload_n hx hb dX0_has_2 rfl (lv_at hl 0 rfl) ?_
  refine va_get (D := D) (ci := 0) (v := .int (σ 17 0)) (C := RX0) (T := TX0) (N := 10) hx hb hts hiX0 hown hK.1 hP 0 rfl rfl 0 (by decide) (hts (.fieldLink RX0 39 "IceLanes$Couriers" "number" "I") (by decide +kernel)) (fun _ h9 => h9) rfl dX0_has_3 ?_
  refine lv_iconst (v := 1) hx hb dX0_has_6 (by decide) ?_
  refine lv_isub hx hb dX0_has_7 ?_
  refine rd_i (va_runSN (As := [.int c0, .int 0, .int ((σ 17 0) - 1)]) (rest := []) ⟨hx, hb, hml, hown, hts⟩ (M_X4_isWithin l D cI c0 0 ((σ 17 0) - 1) ) ⟨va_cnB 3 hts gX0_has_X4_isWithin_n49 rfl rfl rfl (nX0_49 hN) (hts (.initialized RX4) (by decide +kernel)) (by decide +kernel) ⟨Nat.le_of_ble_eq_true rfl, Nat.le_of_ble_eq_true rfl⟩, hts (.static yX4_isWithin) (by decide +kernel), trivial⟩ (rdS hK hP [] [0] rfl rfl) rfl rfl hl.1 rfl (lv_room (Nat.le_of_ble_eq_true rfl)) dX0_has_8 ⟨Nat.zero_le _, Nat.zero_le _⟩) ?_
  subst hQ
  exact ret_rdi hx hb hr (bI_nar) hlocks (show bI (0 ≤ c0 ∧ c0 ≤ ((σ 17 0) - 1)) = bI (0 ≤ c0 ∧ c0 ≤ σ 17 0 - 1) from rfl) dX0_has_11
set_option maxHeartbeats 4000000 in
set_option maxRecDepth 100000 in
theorem M_X0_loadOf (l : Launch) (D : va_G) (cI : ClassId) (a : Nat → Nat) (σ : St) (cu : Nat) (hcu : cu < 8) : Met l yX0_loadOf wsX0_loadOf ({ frames := 0, cells := 0, slots := 0, locals := 0 } : Room) (rdPc [.ref (a 6), .int (nI cu)] D (wCou a cI σ) [(cI, .int)]) (rdQi (σ 5 cu + σ 6 cu)) 0 0 (fun _ => False) := by
  refine Met.ofW (cc := cX0_loadOf) (maxL := 2) (ret := (some .int)) (by decide) rfl ?_
  intro p e s m args below meth c s₁ B hml hv
  obtain ⟨hargs, hP, hK⟩ := hv
  have hx := B.exec
  have hb := B.bytes
  have hr := B.returns
  have hts := atoms_spec (ws := wsX0_loadOf) B.pre
  have hown : s.vm.findClass RX0 = some m.cls := findClass_of_methodNamed B.named
  have hlocks := B.notSynchronized
  obtain ⟨_, hN⟩ := id hK
  have hiX0 : ∀ w ∈ wsX00, w ∈ wsX0_loadOf := by decide +kernel
  refine my_abs (fun Q hQ => ?_)
  obtain ⟨ls, hl, hent⟩ := my_entry (m := m) (n := 2) hargs (Nat.le_of_ble_eq_true rfl)
  rw [hent]
  have hl : lv_has ls 2 [(0, .ref (a 6)), (1, .int (nI cu))] := hl
  show W p l e ({ frames := 0, cells := 0, slots := 0, locals := 0 } : Room) s m args below meth c s.heap [] 0 0 Q (F0 m 0 ls [])
  refine lv_aload_n hx hb dX0_loadOf_0 rfl (lv_at hl 0 rfl) ?_
  refine va_get (D := D) (ci := 0) (v := .ref (a 7)) (C := RX0) (T := TX0) (N := 10) hx hb hts hiX0 hown hK.1 hP 0 rfl rfl 1 (by decide) (hts (.fieldLink RX0 9 "IceLanes$Couriers" "weight" "[I") (by decide +kernel)) (fun _ h9 => h9) rfl dX0_loadOf_1 ?_
  refine lv_iload_n hx hb dX0_loadOf_4 rfl (lv_at hl 1 rfl) ?_
  refine va_iald hx hb hK.1 hP 1 0 rfl rfl (by first | assumption | exact vp_in_nI (by omega) (by decide)) dX0_loadOf_5 ?_
  rw [nI_clamp (n := cu) (by omega)]
  refine lv_aload_n hx hb dX0_loadOf_6 rfl (lv_at hl 0 rfl) ?_
  refine va_get (D := D) (ci := 0) (v := .ref (a 8)) (C := RX0) (T := TX0) (N := 10) hx hb hts hiX0 hown hK.1 hP 0 rfl rfl 2 (by decide) (hts (.fieldLink RX0 15 "IceLanes$Couriers" "letters" "[I") (by decide +kernel)) (fun _ h9 => h9) rfl dX0_loadOf_7 ?_
  refine lv_iload_n hx hb dX0_loadOf_10 rfl (lv_at hl 1 rfl) ?_
  refine va_iald hx hb hK.1 hP 2 0 rfl rfl (by first | assumption | exact vp_in_nI (by omega) (by decide)) dX0_loadOf_11 ?_
  rw [nI_clamp (n := cu) (by omega)]
  refine lv_iadd hx hb dX0_loadOf_12 ?_
  subst hQ
  exact ret_rdi hx hb hr rfl hlocks (show (σ 5 cu) + (σ 6 cu) = σ 5 cu + σ 6 cu from rfl) dX0_loadOf_13
set_option maxHeartbeats 4000000 in
set_option maxRecDepth 100000 in
theorem M_X0_isAtGoal (l : Launch) (D : va_G) (cI : ClassId) (a : Nat → Nat) (σ : St) (cu : Nat) (hcu : cu < 8) : Met l yX0_isAtGoal wsX0_isAtGoal ({ frames := 0, cells := 0, slots := 0, locals := 0 } : Room) (rdPc [.ref (a 6), .int (nI cu)] D (wCou a cI σ) [(cI, .int)]) (rdQi (bI (σ 8 cu = σ 10 cu))) 0 0 (fun _ => False) := by
  refine Met.ofW (cc := cX0_isAtGoal) (maxL := 2) (ret := (some .boolean)) (by decide) rfl ?_
  intro p e s m args below meth c s₁ B hml hv
  obtain ⟨hargs, hP, hK⟩ := hv
  have hx := B.exec
  have hb := B.bytes
  have hr := B.returns
  have hts := atoms_spec (ws := wsX0_isAtGoal) B.pre
  have hown : s.vm.findClass RX0 = some m.cls := findClass_of_methodNamed B.named
  have hlocks := B.notSynchronized
  obtain ⟨_, hN⟩ := id hK
  have hiX0 : ∀ w ∈ wsX00, w ∈ wsX0_isAtGoal := by decide +kernel
  refine my_abs (fun Q hQ => ?_)
  obtain ⟨ls, hl, hent⟩ := my_entry (m := m) (n := 2) hargs (Nat.le_of_ble_eq_true rfl)
  rw [hent]
  have hl : lv_has ls 2 [(0, .ref (a 6)), (1, .int (nI cu))] := hl
  show W p l e ({ frames := 0, cells := 0, slots := 0, locals := 0 } : Room) s m args below meth c s.heap [] 0 0 Q (F0 m 0 ls [])
  refine lv_aload_n hx hb dX0_isAtGoal_0 rfl (lv_at hl 0 rfl) ?_
  refine va_get (D := D) (ci := 0) (v := .ref (a 10)) (C := RX0) (T := TX0) (N := 10) hx hb hts hiX0 hown hK.1 hP 0 rfl rfl 4 (by decide) (hts (.fieldLink RX0 21 "IceLanes$Couriers" "section" "[I") (by decide +kernel)) (fun _ h9 => h9) rfl dX0_isAtGoal_1 ?_
  refine lv_iload_n hx hb dX0_isAtGoal_4 rfl (lv_at hl 1 rfl) ?_
  refine va_iald hx hb hK.1 hP 4 0 rfl rfl (by first | assumption | exact vp_in_nI (by omega) (by decide)) dX0_isAtGoal_5 ?_
  rw [nI_clamp (n := cu) (by omega)]
  refine lv_aload_n hx hb dX0_isAtGoal_6 rfl (lv_at hl 0 rfl) ?_
  refine va_get (D := D) (ci := 0) (v := .ref (a 12)) (C := RX0) (T := TX0) (N := 10) hx hb hts hiX0 hown hK.1 hP 0 rfl rfl 6 (by decide) (hts (.fieldLink RX0 27 "IceLanes$Couriers" "goal" "[I") (by decide +kernel)) (fun _ h9 => h9) rfl dX0_isAtGoal_7 ?_
  refine lv_iload_n hx hb dX0_isAtGoal_10 rfl (lv_at hl 1 rfl) ?_
  refine va_iald hx hb hK.1 hP 6 0 rfl rfl (by first | assumption | exact vp_in_nI (by omega) (by decide)) dX0_isAtGoal_11 ?_
  rw [nI_clamp (n := cu) (by omega)]
  refine lv_icmp_ne (tgt := 19) hx hb dX0_isAtGoal_12 (by decide) (fun c_1 => ?_) (fun c_1 => ?_)
  · skip
    refine lv_iconst (v := 0) hx hb dX0_isAtGoal_19 (by decide) ?_
    subst hQ
    exact ret_rdi hx hb hr rfl hlocks (show 0 = bI (σ 8 cu = σ 10 cu) from (by first | exact bI_t (by assumption) | exact bI_f (by assumption))) dX0_isAtGoal_20
  · skip
    refine lv_iconst (v := 1) hx hb dX0_isAtGoal_15 (by decide) ?_
    refine lv_goto (tgt := 20) hx hb dX0_isAtGoal_16 (by decide) ?_
    subst hQ
    exact ret_rdi hx hb hr rfl hlocks (show 1 = bI (σ 8 cu = σ 10 cu) from (by first | exact bI_t (by assumption) | exact bI_f (by assumption))) dX0_isAtGoal_20
