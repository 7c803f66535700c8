set_option maxHeartbeats 4000000 in
set_option maxRecDepth 100000 in
theorem M_J7_fill (l : Launch) (D : va_G) (cI : ClassId) (q : Nat) (N : Nat) (f : Nat → Int32) (v : Int32) (sz : Nat) (hN9 : N < 100) : Met l yJ7_fill_53178 wsJ7_fill_53178 ({ frames := 0, cells := 0, slots := 0, locals := 0 } : Room) (wrPc [.ref q, .int v] D (([(q, .inl (cI, N, .inl f))] : va_W)) [(cI, .int)] sz) (wrQv D ([(q, .inl (cI, N, .inl (fun _ => v)))]) (va_A (([(q, .inl (cI, N, .inl f))] : va_W)) sz)) 0 0 (va_A (([(q, .inl (cI, N, .inl f))] : va_W)) sz) := by
  refine my_ofWF (cc := cJ7_fill_53178) (maxL := 4) (ret := none) (by decide +kernel) rfl ?_
  intro p e s m args below meth c s₁ B hml hv
  obtain ⟨hargs, hsz, hP, hK, hD0⟩ := hv
  have hx := B.exec
  have hb := B.bytes
  have hr := B.returns
  have hts := atoms_spec (ws := wsJ7_fill_53178) B.pre
  have hown : s.vm.findClass RJ7 = some m.cls := findClass_of_methodNamed B.named
  have hlocks := B.notSynchronized
  obtain ⟨_, hN⟩ := id hK
  subst hsz
  have hD := hD0.self (sz := s.heap.size)
  generalize hAe : va_A (([(q, .inl (cI, N, .inl f))] : va_W)) s.heap.size = A at hD ⊢
  have hA : ∀ q : Nat, s.heap.size ≤ q → A q := fun q h => by rw [← hAe]; exact Or.inr h
  have hS : va_S A s.heap s.heap [] := va_S.rf
  have hP : va_P D vwCl (([(q, .inl (cI, N, .inl f))] : va_W)) s.heap := hP
  refine my_abs (fun Q hQ => ?_)
  obtain ⟨ls, hl, hent⟩ := my_entry (m := m) (n := 4) hargs (Nat.le_of_ble_eq_true rfl)
  rw [hent]
  have hl : lv_has ls 4 [(0, .ref q), (1, .int v)] := hl
  show W p l e ({ frames := 0, cells := 0, slots := 0, locals := 0 } : Room) s m args below meth c s.heap [] 0 0 Q (F0 m 0 ls [])
  refine lv_iconst (v := 0) hx hb dJ7_fill_53178_0 (by decide) ?_
  refine lv_istore_n (lv' := [(2, .int 0), (0, .ref q), (1, .int v)]) hx hb dJ7_fill_53178_1 rfl hl (by decide) rfl (fun ls hl => ?_)
  refine lv_aload_n hx hb dJ7_fill_53178_2 rfl (lv_at hl 1 rfl) ?_
  refine va_alen (v := nI N) hx hb hK.1 hP 0 0 rfl (ty := .int) rfl rfl dJ7_fill_53178_3 ?_
  refine lv_istore_n (lv' := [(3, .int (nI N)), (2, .int 0), (0, .ref q), (1, .int v)]) hx hb dJ7_fill_53178_4 rfl hl (by decide) rfl (fun ls hl => ?_)
  have loop5 : ∀ (n : Nat) (k : Nat) (g : Nat → Int32), N - k < n → (k ≤ N ∧ ∀ j, j < k → g j = v) → ∀ (H : Heap) (locs : List Loc), va_P D vwCl (([(q, .inl (cI, N, .inl g))] : va_W)) H → va_D A (([(q, .inl (cI, N, .inl g))] : va_W)) → va_S A s.heap H locs → ∀ (ls : Array Slot), lv_has ls 4 [(0, .ref q), (1, .int v), (2, .int (nI k)), (3, .int (nI N))] → W p l e ({ frames := 0, cells := 0, slots := 0, locals := 0 } : Room) s m args below meth c H locs 0 0 Q (F0 m 5 ls []) := by
    intro n
    induction n with
    | zero => intro k  g  hf; exact absurd hf (Nat.not_lt_zero _)
    | succ n ih5 =>
      intro k  g  hf ⟨hk, hg⟩ H locs hP hD hS ls hl
      refine lv_iload_n hx hb dJ7_fill_53178_5 rfl (lv_at hl 2 rfl) ?_
      refine lv_iload_n hx hb dJ7_fill_53178_6 rfl (lv_at hl 3 rfl) ?_
      refine lv_icmp_ge (tgt := 20) hx hb dJ7_fill_53178_7 (by decide) (fun c_1 => ?_) (fun c_1 => ?_)
      · skip
        have hk2 : N ≤ k := lp_ge (N := N) (k := k) c_1 (by omega) (by omega)
        have hP := row_fix hP (q := 0) (f := fun _ => v) rfl (fun j hj => hg j (by omega))
        have hD := row_fixD (q := 0) (fun _ => v) hD rfl
        subst hQ
        have hP : va_P D vwCl (([(q, .inl (cI, N, .inl (fun _ => v)))] : va_W)) H := hP
        have hD : va_D A (([(q, .inl (cI, N, .inl (fun _ => v)))] : va_W)) := hD
        exact ret_wrv hx hb hr hlocks hP hD hS dJ7_fill_53178_20
      · skip
        have hk2 : k < N := lp_nge (N := N) (k := k) c_1 (by omega) (by omega)
        refine lv_aload_n hx hb dJ7_fill_53178_10 rfl (lv_at hl 0 rfl) ?_
        refine lv_iload_n hx hb dJ7_fill_53178_11 rfl (lv_at hl 2 rfl) ?_
        refine lv_iload_n hx hb dJ7_fill_53178_12 rfl (lv_at hl 1 rfl) ?_
        refine va_iast hx hb hK.1 hP hD hS 0 0 rfl rfl (vp_in_nI hk2 (by omega)) dJ7_fill_53178_13 (fun H locs hP hD hS => ?_)
        rw [nI_clamp (n := k) (by omega)] at hP hD
        have hP : va_P D vwCl (([(q, .inl (cI, N, .inl (upd g k v)))] : va_W)) H := hP
        have hD : va_D A (([(q, .inl (cI, N, .inl (upd g k v)))] : va_W)) := hD
        refine lv_iinc (v := nI (k + 1)) (lv' := [(2, .int (nI (k + 1))), (0, .ref q), (1, .int v), (3, .int (nI N))]) hx hb dJ7_fill_53178_14 hl (k := 2) rfl (nI_1 k) (by decide) rfl (fun ls hl => ?_)
        refine lv_goto (tgt := 5) hx hb dJ7_fill_53178_17 (by decide) ?_
        exact ih5 (k + 1) _ (by omega) ⟨by omega, fun j hj => by unfold upd; split; rfl; exact hg j (by omega)⟩ _ _ hP hD hS ls (lv_sub hl [1, 2, 0, 3] rfl)
  exact loop5 (N + 1) 0 _ (by omega) ⟨by omega, fun j hj => absurd hj (Nat.not_lt_zero j)⟩ _ _ hP hD hS ls (lv_sub hl [2, 3, 1, 0] rfl)
set_option maxHeartbeats 4000000 in
set_option maxRecDepth 100000 in
theorem M_X1_init (l : Launch) (D : va_G) (cI : ClassId) (q : Nat) (sz : Nat) : Met l yX1_init wsX1_init ({ frames := 1, cells := 2, slots := 72, locals := 12 } : Room) (wrPc [.ref q] D (([(q, .inr (1, [.null, .null]))] : va_W)) [(cI, .int)] sz) (iniQ 3 q D (fun a => wIce a cI s0) (va_A (([(q, .inr (1, [.null, .null]))] : va_W)) sz)) 2 72 (va_A (([(q, .inr (1, [.null, .null]))] : va_W)) sz) := by
  refine Met.ofW (cc := cX1_init) (maxL := 2) (ret := none) (by decide) rfl ?_
  intro p e s m args below meth c s₁ B hml hv
  obtain ⟨hargs, hsz, hP, hK, hD0⟩ := hv
  have hx := B.exec
  have hb := B.bytes
  have hr := B.returns
  have hts := atoms_spec (ws := wsX1_init) B.pre
  have hown : s.vm.findClass RX1 = some m.cls := findClass_of_methodNamed B.named
  have hlocks := B.notSynchronized
  have hin : meth.name = "<init>" := (name_of_methodNamed B.named B.method).1
  obtain ⟨_, hN⟩ := id hK
  have hiX1 : ∀ w ∈ wsX10, w ∈ wsX1_init := by decide +kernel
  subst hsz
  have hD := hD0.self (sz := s.heap.size)
  generalize hAe : va_A (([(q, .inr (1, [.null, .null]))] : va_W)) s.heap.size = A at hD ⊢
  have hA : ∀ q : Nat, s.heap.size ≤ q → A q := fun q h => by rw [← hAe]; exact Or.inr h
  have hS : va_S A s.heap s.heap [] := va_S.rf
  have hP : va_P D vwCl (([(q, .inr (1, [.null, .null]))] : va_W)) s.heap := hP
  refine my_abs (fun Q hQ => ?_)
  obtain ⟨ls, hl, hent⟩ := my_entry (m := m) (n := 2) hargs (Nat.le_of_ble_eq_true rfl)
  rw [hent]
  have hl : lv_has ls 2 [(0, .ref q)] := hl
  show W p l e ({ frames := 1, cells := 2, slots := 72, locals := 12 } : Room) s m args below meth c s.heap [] 0 0 Q (F0 m 0 ls [])
  refine lv_aload_n hx hb dX1_init_0 rfl (lv_at hl 0 rfl) ?_
  refine W.objInit hx hb hown (hts (.methodLink RX1 3 objectInit) (by decide +kernel)) (hts (.instanceMethod objectInit) (by decide +kernel)) (hts (.code objectInit ⟨#[0xb1]⟩ 1 none) (by decide +kernel)) rfl (by rw [hml]; exact hl.1) rfl dX1_init_1 (Nat.le_of_ble_eq_true rfl) (Nat.le_of_ble_eq_true rfl) ?_
  refine W.eq (g2 := F0 m 4 ls []) rfl ?_
  refine lv_aload_n hx hb dX1_init_4 rfl (lv_at hl 0 rfl) ?_
  refine lv_bipush (v := 36) hx hb dX1_init_5 (by decide) ?_
  refine my_newi (N := 36) hx hb (hts (.arrayClass .int) (by decide +kernel)) hK.1 hP hD hS hA (by decide) rfl (Nat.le_of_ble_eq_true rfl) (Nat.le_of_ble_eq_true rfl) (Nat.le_of_ble_eq_true rfl) dX1_init_7 (fun q_1 H hP hD hS => ?_)
  have hP : va_P D vwCl (([(q, .inr (1, [.null, .null])), (q_1, .inl (cI, 36, .inl (fun _ => 0)))] : va_W)) H := hP
  have hD : va_D A (([(q, .inr (1, [.null, .null])), (q_1, .inl (cI, 36, .inl (fun _ => 0)))] : va_W)) := hD
  refine va_putF (D := D) (ci := 1) (v := .ref q_1) (ty := tyX1 0) (C := RX1) (T := TX1) (N := 2) hx hb hts hiX1 tyX1 tyX1_ok nmX1 hown hK.1 hP hD hS 0 rfl rfl 0 (by decide) (hts (.fieldLink RX1 9 "IceLanes$Ice" "thickness" "[I") (by decide +kernel)) (fun _ h9 => h9) rfl hin rfl (tyX1_ok 0 (by decide)) rfl rfl (Nat.le_of_ble_eq_true rfl) dX1_init_9 (fun H locs hP hD hS => ?_)
  have hP : va_P D vwCl (([(q, .inr (1, [.ref q_1, .null])), (q_1, .inl (cI, 36, .inl (fun _ => 0)))] : va_W)) H := hP
  have hD : va_D A (([(q, .inr (1, [.ref q_1, .null])), (q_1, .inl (cI, 36, .inl (fun _ => 0)))] : va_W)) := hD
  refine lv_aload_n hx hb dX1_init_12 rfl (lv_at hl 0 rfl) ?_
  refine lv_bipush (v := 36) hx hb dX1_init_13 (by decide) ?_
  refine my_newi (N := 36) hx hb (hts (.arrayClass .int) (by decide +kernel)) hK.1 hP hD hS hA (by decide) rfl (Nat.le_of_ble_eq_true rfl) (Nat.le_of_ble_eq_true rfl) (Nat.le_of_ble_eq_true rfl) dX1_init_15 (fun q_2 H hP hD hS => ?_)
  have hP : va_P D vwCl (([(q, .inr (1, [.ref q_1, .null])), (q_1, .inl (cI, 36, .inl (fun _ => 0))), (q_2, .inl (cI, 36, .inl (fun _ => 0)))] : va_W)) H := hP
  have hD : va_D A (([(q, .inr (1, [.ref q_1, .null])), (q_1, .inl (cI, 36, .inl (fun _ => 0))), (q_2, .inl (cI, 36, .inl (fun _ => 0)))] : va_W)) := hD
  refine va_putF (D := D) (ci := 1) (v := .ref q_2) (ty := tyX1 1) (C := RX1) (T := TX1) (N := 2) hx hb hts hiX1 tyX1 tyX1_ok nmX1 hown hK.1 hP hD hS 0 rfl rfl 1 (by decide) (hts (.fieldLink RX1 15 "IceLanes$Ice" "cracks" "[I") (by decide +kernel)) (fun _ h9 => h9) rfl hin rfl (tyX1_ok 1 (by decide)) rfl rfl (Nat.le_of_ble_eq_true rfl) dX1_init_17 (fun H locs hP hD hS => ?_)
  have hP : va_P D vwCl (([(q, .inr (1, [.ref q_1, .ref q_2])), (q_1, .inl (cI, 36, .inl (fun _ => 0))), (q_2, .inl (cI, 36, .inl (fun _ => 0)))] : va_W)) H := hP
  have hD : va_D A (([(q, .inr (1, [.ref q_1, .ref q_2])), (q_1, .inl (cI, 36, .inl (fun _ => 0))), (q_2, .inl (cI, 36, .inl (fun _ => 0)))] : va_W)) := hD
  refine lv_iconst (v := 0) hx hb dX1_init_20 (by decide) ?_
  refine lv_istore_n (lv' := [(1, .int 0), (0, .ref q)]) hx hb dX1_init_21 rfl hl (by decide) rfl (fun ls hl => ?_)
  have loop22 : ∀ (n : Nat) (k : Nat) (g : Nat → Int32), 36 - k < n → (k ≤ 36 ∧ ∀ j, j < k → g j = 30) → ∀ (H : Heap) (locs : List Loc), va_P D vwCl (([(q, .inr (1, [.ref q_1, .ref q_2])), (q_1, .inl (cI, 36, .inl g)), (q_2, .inl (cI, 36, .inl (fun _ => 0)))] : va_W)) H → va_D A (([(q, .inr (1, [.ref q_1, .ref q_2])), (q_1, .inl (cI, 36, .inl g)), (q_2, .inl (cI, 36, .inl (fun _ => 0)))] : va_W)) → va_S A s.heap H locs → ∀ (ls : Array Slot), lv_has ls 2 [(0, .ref q), (1, .int (nI k))] → W p l e ({ frames := 1, cells := 2, slots := 72, locals := 12 } : Room) s m args below meth c H locs 2 72 Q (F0 m 22 ls []) := by
    intro n
    induction n with
    | zero => intro k  g  hf; exact absurd hf (Nat.not_lt_zero _)
    | succ n ih22 =>
      intro k  g  hf ⟨hk, hg⟩ H locs hP hD hS ls hl
      refine lv_iload_n hx hb dX1_init_22 rfl (lv_at hl 1 rfl) ?_
      refine lv_bipush (v := 36) hx hb dX1_init_23 (by decide) ?_
      refine lv_icmp_ge (tgt := 42) hx hb dX1_init_25 (by decide) (fun c_3 => ?_) (fun c_3 => ?_)
      · skip
        have hk2 : 36 ≤ k := lp_ge (N := 36) (k := k) c_3 (by omega) (by omega)
        have hP := row_fix hP (q := 1) (f := fun _ => 30) rfl (fun j hj => hg j (by omega))
        have hD := row_fixD (q := 1) (fun _ => 30) hD rfl
        subst hQ
        have hP := hP.sub (ws' := wIce (adr [0, 0, 0, q, q_1, q_2]) cI s0) [0, 1, 2] rfl
        have hD := hD.sub (ws' := wIce (adr [0, 0, 0, q, q_1, q_2]) cI s0) [0, 1, 2] (by decide) rfl
        refine W.widen (k := 2) (n := 72) (by omega) (by omega) ?_
        exact ret_ini (w := fun a => wIce a cI s0) (adr [0, 0, 0, q, q_1, q_2]) rfl hx hb hr hlocks hP hD hS dX1_init_42
      · skip
        have hk2 : k < 36 := lp_nge (N := 36) (k := k) c_3 (by omega) (by omega)
        refine lv_aload_n hx hb dX1_init_28 rfl (lv_at hl 0 rfl) ?_
        refine va_get (D := D) (ci := 1) (v := .ref q_1) (C := RX1) (T := TX1) (N := 2) hx hb hts hiX1 hown hK.1 hP 0 rfl rfl 0 (by decide) (hts (.fieldLink RX1 9 "IceLanes$Ice" "thickness" "[I") (by decide +kernel)) (fun _ h9 => h9) rfl dX1_init_29 ?_
        refine lv_iload_n hx hb dX1_init_32 rfl (lv_at hl 1 rfl) ?_
        refine lv_bipush (v := 30) hx hb dX1_init_33 (by decide) ?_
        refine va_iast hx hb hK.1 hP hD hS 1 0 rfl rfl (by first | assumption | exact vp_in_nI (by omega) (by decide)) dX1_init_35 (fun H locs hP hD hS => ?_)
        rw [nI_clamp (n := k) (by omega)] at hP hD
        have hP : va_P D vwCl (([(q, .inr (1, [.ref q_1, .ref q_2])), (q_1, .inl (cI, 36, .inl (upd g k 30))), (q_2, .inl (cI, 36, .inl (fun _ => 0)))] : va_W)) H := hP
        have hD : va_D A (([(q, .inr (1, [.ref q_1, .ref q_2])), (q_1, .inl (cI, 36, .inl (upd g k 30))), (q_2, .inl (cI, 36, .inl (fun _ => 0)))] : va_W)) := hD
        refine lv_iinc (v := nI (k + 1)) (lv' := [(1, .int (nI (k + 1))), (0, .ref q)]) hx hb dX1_init_36 hl (k := 1) rfl (nI_1 k) (by decide) rfl (fun ls hl => ?_)
        refine lv_goto (tgt := 22) hx hb dX1_init_39 (by decide) ?_
        exact ih22 (k + 1) _ (by omega) ⟨by omega, fun j hj => by unfold upd; split; rfl; exact hg j (by omega)⟩ _ _ hP hD hS ls (lv_sub hl [1, 0] rfl)
  exact loop22 37 0 _ (by omega) ⟨by omega, fun j hj => absurd hj (Nat.not_lt_zero j)⟩ _ _ hP hD hS ls (lv_sub hl [1, 0] rfl)
set_option maxHeartbeats 4000000 in
set_option maxRecDepth 100000 in
theorem M_X0_init (l : Launch) (D : va_G) (cI : ClassId) (q : Nat) (sz : Nat) : Met l yX0_init wsX0_init ({ frames := 1, cells := 9, slots := 72, locals := 12 } : Room) (wrPc [.ref q] D (([(q, .inr (0, [.int 0, .null, .null, .null, .null, .null, .null, .null, .null, .null]))] : va_W)) [(cI, .int)] sz) (iniQ 6 q D (fun a => wCou a cI s0) (va_A (([(q, .inr (0, [.int 0, .null, .null, .null, .null, .null, .null, .null, .null, .null]))] : va_W)) sz)) 9 72 (va_A (([(q, .inr (0, [.int 0, .null, .null, .null, .null, .null, .null, .null, .null, .null]))] : va_W)) sz) := by
  refine Met.ofW (cc := cX0_init) (maxL := 1) (ret := none) (by decide) rfl ?_
  intro p e s m args below meth c s₁ B hml hv
  obtain ⟨hargs, hsz, hP, hK, hD0⟩ := hv
  have hx := B.exec
  have hb := B.bytes
  have hr := B.returns
  have hts := atoms_spec (ws := wsX0_init) B.pre
  have hown : s.vm.findClass RX0 = some m.cls := findClass_of_methodNamed B.named
  have hlocks := B.notSynchronized
  have hin : meth.name = "<init>" := (name_of_methodNamed B.named B.method).1
  obtain ⟨_, hN⟩ := id hK
  have hiX0 : ∀ w ∈ wsX00, w ∈ wsX0_init := by decide +kernel
  subst hsz
  have hD := hD0.self (sz := s.heap.size)
  generalize hAe : va_A (([(q, .inr (0, [.int 0, .null, .null, .null, .null, .null, .null, .null, .null, .null]))] : va_W)) s.heap.size = A at hD ⊢
  have hA : ∀ q : Nat, s.heap.size ≤ q → A q := fun q h => by rw [← hAe]; exact Or.inr h
  have hS : va_S A s.heap s.heap [] := va_S.rf
  have hP : va_P D vwCl (([(q, .inr (0, [.int 0, .null, .null, .null, .null, .null, .null, .null, .null, .null]))] : va_W)) s.heap := hP
  refine my_abs (fun Q hQ => ?_)
  obtain ⟨ls, hl, hent⟩ := my_entry (m := m) (n := 1) hargs (Nat.le_of_ble_eq_true rfl)
  rw [hent]
  have hl : lv_has ls 1 [(0, .ref q)] := hl
  show W p l e ({ frames := 1, cells := 9, slots := 72, locals := 12 } : Room) s m args below meth c s.heap [] 0 0 Q (F0 m 0 ls [])
  refine lv_aload_n hx hb dX0_init_0 rfl (lv_at hl 0 rfl) ?_
  refine W.objInit hx hb hown (hts (.methodLink RX0 3 objectInit) (by decide +kernel)) (hts (.instanceMethod objectInit) (by decide +kernel)) (hts (.code objectInit ⟨#[0xb1]⟩ 1 none) (by decide +kernel)) rfl (by rw [hml]; exact hl.1) rfl dX0_init_1 (Nat.le_of_ble_eq_true rfl) (Nat.le_of_ble_eq_true rfl) ?_
  refine W.eq (g2 := F0 m 4 ls []) rfl ?_
  refine lv_aload_n hx hb dX0_init_4 rfl (lv_at hl 0 rfl) ?_
  refine lv_bipush (v := 8) hx hb dX0_init_5 (by decide) ?_
  refine my_newi (N := 8) hx hb (hts (.arrayClass .int) (by decide +kernel)) hK.1 hP hD hS hA (by decide) rfl (Nat.le_of_ble_eq_true rfl) (Nat.le_of_ble_eq_true rfl) (Nat.le_of_ble_eq_true rfl) dX0_init_7 (fun q_1 H hP hD hS => ?_)
  have hP : va_P D vwCl (([(q, .inr (0, [.int 0, .null, .null, .null, .null, .null, .null, .null, .null, .null])), (q_1, .inl (cI, 8, .inl (fun _ => 0)))] : va_W)) H := hP
  have hD : va_D A (([(q, .inr (0, [.int 0, .null, .null, .null, .null, .null, .null, .null, .null, .null])), (q_1, .inl (cI, 8, .inl (fun _ => 0)))] : va_W)) := hD
  refine va_putF (D := D) (ci := 0) (v := .ref q_1) (ty := tyX0 1) (C := RX0) (T := TX0) (N := 10) hx hb hts hiX0 tyX0 tyX0_ok nmX0 hown hK.1 hP hD hS 0 rfl rfl 1 (by decide) (hts (.fieldLink RX0 9 "IceLanes$Couriers" "weight" "[I") (by decide +kernel)) (fun _ h9 => h9) rfl hin rfl (tyX0_ok 1 (by decide)) rfl rfl (Nat.le_of_ble_eq_true rfl) dX0_init_9 (fun H locs hP hD hS => ?_)
  have hP : va_P D vwCl (([(q, .inr (0, [.int 0, .ref q_1, .null, .null, .null, .null, .null, .null, .null, .null])), (q_1, .inl (cI, 8, .inl (fun _ => 0)))] : va_W)) H := hP
  have hD : va_D A (([(q, .inr (0, [.int 0, .ref q_1, .null, .null, .null, .null, .null, .null, .null, .null])), (q_1, .inl (cI, 8, .inl (fun _ => 0)))] : va_W)) := hD
  refine lv_aload_n hx hb dX0_init_12 rfl (lv_at hl 0 rfl) ?_
  refine lv_bipush (v := 8) hx hb dX0_init_13 (by decide) ?_
  refine my_newi (N := 8) hx hb (hts (.arrayClass .int) (by decide +kernel)) hK.1 hP hD hS hA (by decide) rfl (Nat.le_of_ble_eq_true rfl) (Nat.le_of_ble_eq_true rfl) (Nat.le_of_ble_eq_true rfl) dX0_init_15 (fun q_2 H hP hD hS => ?_)
  have hP : va_P D vwCl (([(q, .inr (0, [.int 0, .ref q_1, .null, .null, .null, .null, .null, .null, .null, .null])), (q_1, .inl (cI, 8, .inl (fun _ => 0))), (q_2, .inl (cI, 8, .inl (fun _ => 0)))] : va_W)) H := hP
  have hD : va_D A (([(q, .inr (0, [.int 0, .ref q_1, .null, .null, .null, .null, .null, .null, .null, .null])), (q_1, .inl (cI, 8, .inl (fun _ => 0))), (q_2, .inl (cI, 8, .inl (fun _ => 0)))] : va_W)) := hD
  refine va_putF (D := D) (ci := 0) (v := .ref q_2) (ty := tyX0 2) (C := RX0) (T := TX0) (N := 10) hx hb hts hiX0 tyX0 tyX0_ok nmX0 hown hK.1 hP hD hS 0 rfl rfl 2 (by decide) (hts (.fieldLink RX0 15 "IceLanes$Couriers" "letters" "[I") (by decide +kernel)) (fun _ h9 => h9) rfl hin rfl (tyX0_ok 2 (by decide)) rfl rfl (Nat.le_of_ble_eq_true rfl) dX0_init_17 (fun H locs hP hD hS => ?_)
  have hP : va_P D vwCl (([(q, .inr (0, [.int 0, .ref q_1, .ref q_2, .null, .null, .null, .null, .null, .null, .null])), (q_1, .inl (cI, 8, .inl (fun _ => 0))), (q_2, .inl (cI, 8, .inl (fun _ => 0)))] : va_W)) H := hP
  have hD : va_D A (([(q, .inr (0, [.int 0, .ref q_1, .ref q_2, .null, .null, .null, .null, .null, .null, .null])), (q_1, .inl (cI, 8, .inl (fun _ => 0))), (q_2, .inl (cI, 8, .inl (fun _ => 0)))] : va_W)) := hD
  refine lv_aload_n hx hb dX0_init_20 rfl (lv_at hl 0 rfl) ?_
  refine lv_bipush (v := 8) hx hb dX0_init_21 (by decide) ?_
  refine my_newi (N := 8) hx hb (hts (.arrayClass .int) (by decide +kernel)) hK.1 hP hD hS hA (by decide) rfl (Nat.le_of_ble_eq_true rfl) (Nat.le_of_ble_eq_true rfl) (Nat.le_of_ble_eq_true rfl) dX0_init_23 (fun q_3 H hP hD hS => ?_)
  have hP : va_P D vwCl (([(q, .inr (0, [.int 0, .ref q_1, .ref q_2, .null, .null, .null, .null, .null, .null, .null])), (q_1, .inl (cI, 8, .inl (fun _ => 0))), (q_2, .inl (cI, 8, .inl (fun _ => 0))), (q_3, .inl (cI, 8, .inl (fun _ => 0)))] : va_W)) H := hP
  have hD : va_D A (([(q, .inr (0, [.int 0, .ref q_1, .ref q_2, .null, .null, .null, .null, .null, .null, .null])), (q_1, .inl (cI, 8, .inl (fun _ => 0))), (q_2, .inl (cI, 8, .inl (fun _ => 0))), (q_3, .inl (cI, 8, .inl (fun _ => 0)))] : va_W)) := hD
  refine va_putF (D := D) (ci := 0) (v := .ref q_3) (ty := tyX0 3) (C := RX0) (T := TX0) (N := 10) hx hb hts hiX0 tyX0 tyX0_ok nmX0 hown hK.1 hP hD hS 0 rfl rfl 3 (by decide) (hts (.fieldLink RX0 18 "IceLanes$Couriers" "strength" "[I") (by decide +kernel)) (fun _ h9 => h9) rfl hin rfl (tyX0_ok 3 (by decide)) rfl rfl (Nat.le_of_ble_eq_true rfl) dX0_init_25 (fun H locs hP hD hS => ?_)
  have hP : va_P D vwCl (([(q, .inr (0, [.int 0, .ref q_1, .ref q_2, .ref q_3, .null, .null, .null, .null, .null, .null])), (q_1, .inl (cI, 8, .inl (fun _ => 0))), (q_2, .inl (cI, 8, .inl (fun _ => 0))), (q_3, .inl (cI, 8, .inl (fun _ => 0)))] : va_W)) H := hP
  have hD : va_D A (([(q, .inr (0, [.int 0, .ref q_1, .ref q_2, .ref q_3, .null, .null, .null, .null, .null, .null])), (q_1, .inl (cI, 8, .inl (fun _ => 0))), (q_2, .inl (cI, 8, .inl (fun _ => 0))), (q_3, .inl (cI, 8, .inl (fun _ => 0)))] : va_W)) := hD
  refine lv_aload_n hx hb dX0_init_28 rfl (lv_at hl 0 rfl) ?_
  refine lv_bipush (v := 8) hx hb dX0_init_29 (by decide) ?_
  refine my_newi (N := 8) hx hb (hts (.arrayClass .int) (by decide +kernel)) hK.1 hP hD hS hA (by decide) rfl (Nat.le_of_ble_eq_true rfl) (Nat.le_of_ble_eq_true rfl) (Nat.le_of_ble_eq_true rfl) dX0_init_31 (fun q_4 H hP hD hS => ?_)
  have hP : va_P D vwCl (([(q, .inr (0, [.int 0, .ref q_1, .ref q_2, .ref q_3, .null, .null, .null, .null, .null, .null])), (q_1, .inl (cI, 8, .inl (fun _ => 0))), (q_2, .inl (cI, 8, .inl (fun _ => 0))), (q_3, .inl (cI, 8, .inl (fun _ => 0))), (q_4, .inl (cI, 8, .inl (fun _ => 0)))] : va_W)) H := hP
  have hD : va_D A (([(q, .inr (0, [.int 0, .ref q_1, .ref q_2, .ref q_3, .null, .null, .null, .null, .null, .null])), (q_1, .inl (cI, 8, .inl (fun _ => 0))), (q_2, .inl (cI, 8, .inl (fun _ => 0))), (q_3, .inl (cI, 8, .inl (fun _ => 0))), (q_4, .inl (cI, 8, .inl (fun _ => 0)))] : va_W)) := hD
  refine va_putF (D := D) (ci := 0) (v := .ref q_4) (ty := tyX0 4) (C := RX0) (T := TX0) (N := 10) hx hb hts hiX0 tyX0 tyX0_ok nmX0 hown hK.1 hP hD hS 0 rfl rfl 4 (by decide) (hts (.fieldLink RX0 21 "IceLanes$Couriers" "section" "[I") (by decide +kernel)) (fun _ h9 => h9) rfl hin rfl (tyX0_ok 4 (by decide)) rfl rfl (Nat.le_of_ble_eq_true rfl) dX0_init_33 (fun H locs hP hD hS => ?_)
  have hP : va_P D vwCl (([(q, .inr (0, [.int 0, .ref q_1, .ref q_2, .ref q_3, .ref q_4, .null, .null, .null, .null, .null])), (q_1, .inl (cI, 8, .inl (fun _ => 0))), (q_2, .inl (cI, 8, .inl (fun _ => 0))), (q_3, .inl (cI, 8, .inl (fun _ => 0))), (q_4, .inl (cI, 8, .inl (fun _ => 0)))] : va_W)) H := hP
  have hD : va_D A (([(q, .inr (0, [.int 0, .ref q_1, .ref q_2, .ref q_3, .ref q_4, .null, .null, .null, .null, .null])), (q_1, .inl (cI, 8, .inl (fun _ => 0))), (q_2, .inl (cI, 8, .inl (fun _ => 0))), (q_3, .inl (cI, 8, .inl (fun _ => 0))), (q_4, .inl (cI, 8, .inl (fun _ => 0)))] : va_W)) := hD
  refine lv_aload_n hx hb dX0_init_36 rfl (lv_at hl 0 rfl) ?_
  refine lv_bipush (v := 8) hx hb dX0_init_37 (by decide) ?_
  refine my_newi (N := 8) hx hb (hts (.arrayClass .int) (by decide +kernel)) hK.1 hP hD hS hA (by decide) rfl (Nat.le_of_ble_eq_true rfl) (Nat.le_of_ble_eq_true rfl) (Nat.le_of_ble_eq_true rfl) dX0_init_39 (fun q_5 H hP hD hS => ?_)
  have hP : va_P D vwCl (([(q, .inr (0, [.int 0, .ref q_1, .ref q_2, .ref q_3, .ref q_4, .null, .null, .null, .null, .null])), (q_1, .inl (cI, 8, .inl (fun _ => 0))), (q_2, .inl (cI, 8, .inl (fun _ => 0))), (q_3, .inl (cI, 8, .inl (fun _ => 0))), (q_4, .inl (cI, 8, .inl (fun _ => 0))), (q_5, .inl (cI, 8, .inl (fun _ => 0)))] : va_W)) H := hP
  have hD : va_D A (([(q, .inr (0, [.int 0, .ref q_1, .ref q_2, .ref q_3, .ref q_4, .null, .null, .null, .null, .null])), (q_1, .inl (cI, 8, .inl (fun _ => 0))), (q_2, .inl (cI, 8, .inl (fun _ => 0))), (q_3, .inl (cI, 8, .inl (fun _ => 0))), (q_4, .inl (cI, 8, .inl (fun _ => 0))), (q_5, .inl (cI, 8, .inl (fun _ => 0)))] : va_W)) := hD
  refine va_putF (D := D) (ci := 0) (v := .ref q_5) (ty := tyX0 5) (C := RX0) (T := TX0) (N := 10) hx hb hts hiX0 tyX0 tyX0_ok nmX0 hown hK.1 hP hD hS 0 rfl rfl 5 (by decide) (hts (.fieldLink RX0 24 "IceLanes$Couriers" "lane" "[I") (by decide +kernel)) (fun _ h9 => h9) rfl hin rfl (tyX0_ok 5 (by decide)) rfl rfl (Nat.le_of_ble_eq_true rfl) dX0_init_41 (fun H locs hP hD hS => ?_)
  have hP : va_P D vwCl (([(q, .inr (0, [.int 0, .ref q_1, .ref q_2, .ref q_3, .ref q_4, .ref q_5, .null, .null, .null, .null])), (q_1, .inl (cI, 8, .inl (fun _ => 0))), (q_2, .inl (cI, 8, .inl (fun _ => 0))), (q_3, .inl (cI, 8, .inl (fun _ => 0))), (q_4, .inl (cI, 8, .inl (fun _ => 0))), (q_5, .inl (cI, 8, .inl (fun _ => 0)))] : va_W)) H := hP
  have hD : va_D A (([(q, .inr (0, [.int 0, .ref q_1, .ref q_2, .ref q_3, .ref q_4, .ref q_5, .null, .null, .null, .null])), (q_1, .inl (cI, 8, .inl (fun _ => 0))), (q_2, .inl (cI, 8, .inl (fun _ => 0))), (q_3, .inl (cI, 8, .inl (fun _ => 0))), (q_4, .inl (cI, 8, .inl (fun _ => 0))), (q_5, .inl (cI, 8, .inl (fun _ => 0)))] : va_W)) := hD
  refine lv_aload_n hx hb dX0_init_44 rfl (lv_at hl 0 rfl) ?_
  refine lv_bipush (v := 8) hx hb dX0_init_45 (by decide) ?_
  refine my_newi (N := 8) hx hb (hts (.arrayClass .int) (by decide +kernel)) hK.1 hP hD hS hA (by decide) rfl (Nat.le_of_ble_eq_true rfl) (Nat.le_of_ble_eq_true rfl) (Nat.le_of_ble_eq_true rfl) dX0_init_47 (fun q_6 H hP hD hS => ?_)
  have hP : va_P D vwCl (([(q, .inr (0, [.int 0, .ref q_1, .ref q_2, .ref q_3, .ref q_4, .ref q_5, .null, .null, .null, .null])), (q_1, .inl (cI, 8, .inl (fun _ => 0))), (q_2, .inl (cI, 8, .inl (fun _ => 0))), (q_3, .inl (cI, 8, .inl (fun _ => 0))), (q_4, .inl (cI, 8, .inl (fun _ => 0))), (q_5, .inl (cI, 8, .inl (fun _ => 0))), (q_6, .inl (cI, 8, .inl (fun _ => 0)))] : va_W)) H := hP
  have hD : va_D A (([(q, .inr (0, [.int 0, .ref q_1, .ref q_2, .ref q_3, .ref q_4, .ref q_5, .null, .null, .null, .null])), (q_1, .inl (cI, 8, .inl (fun _ => 0))), (q_2, .inl (cI, 8, .inl (fun _ => 0))), (q_3, .inl (cI, 8, .inl (fun _ => 0))), (q_4, .inl (cI, 8, .inl (fun _ => 0))), (q_5, .inl (cI, 8, .inl (fun _ => 0))), (q_6, .inl (cI, 8, .inl (fun _ => 0)))] : va_W)) := hD
  refine va_putF (D := D) (ci := 0) (v := .ref q_6) (ty := tyX0 6) (C := RX0) (T := TX0) (N := 10) hx hb hts hiX0 tyX0 tyX0_ok nmX0 hown hK.1 hP hD hS 0 rfl rfl 6 (by decide) (hts (.fieldLink RX0 27 "IceLanes$Couriers" "goal" "[I") (by decide +kernel)) (fun _ h9 => h9) rfl hin rfl (tyX0_ok 6 (by decide)) rfl rfl (Nat.le_of_ble_eq_true rfl) dX0_init_49 (fun H locs hP hD hS => ?_)
  have hP : va_P D vwCl (([(q, .inr (0, [.int 0, .ref q_1, .ref q_2, .ref q_3, .ref q_4, .ref q_5, .ref q_6, .null, .null, .null])), (q_1, .inl (cI, 8, .inl (fun _ => 0))), (q_2, .inl (cI, 8, .inl (fun _ => 0))), (q_3, .inl (cI, 8, .inl (fun _ => 0))), (q_4, .inl (cI, 8, .inl (fun _ => 0))), (q_5, .inl (cI, 8, .inl (fun _ => 0))), (q_6, .inl (cI, 8, .inl (fun _ => 0)))] : va_W)) H := hP
  have hD : va_D A (([(q, .inr (0, [.int 0, .ref q_1, .ref q_2, .ref q_3, .ref q_4, .ref q_5, .ref q_6, .null, .null, .null])), (q_1, .inl (cI, 8, .inl (fun _ => 0))), (q_2, .inl (cI, 8, .inl (fun _ => 0))), (q_3, .inl (cI, 8, .inl (fun _ => 0))), (q_4, .inl (cI, 8, .inl (fun _ => 0))), (q_5, .inl (cI, 8, .inl (fun _ => 0))), (q_6, .inl (cI, 8, .inl (fun _ => 0)))] : va_W)) := hD
  refine lv_aload_n hx hb dX0_init_52 rfl (lv_at hl 0 rfl) ?_
  refine lv_bipush (v := 8) hx hb dX0_init_53 (by decide) ?_
  refine my_newi (N := 8) hx hb (hts (.arrayClass .int) (by decide +kernel)) hK.1 hP hD hS hA (by decide) rfl (Nat.le_of_ble_eq_true rfl) (Nat.le_of_ble_eq_true rfl) (Nat.le_of_ble_eq_true rfl) dX0_init_55 (fun q_7 H hP hD hS => ?_)
  have hP : va_P D vwCl (([(q, .inr (0, [.int 0, .ref q_1, .ref q_2, .ref q_3, .ref q_4, .ref q_5, .ref q_6, .null, .null, .null])), (q_1, .inl (cI, 8, .inl (fun _ => 0))), (q_2, .inl (cI, 8, .inl (fun _ => 0))), (q_3, .inl (cI, 8, .inl (fun _ => 0))), (q_4, .inl (cI, 8, .inl (fun _ => 0))), (q_5, .inl (cI, 8, .inl (fun _ => 0))), (q_6, .inl (cI, 8, .inl (fun _ => 0))), (q_7, .inl (cI, 8, .inl (fun _ => 0)))] : va_W)) H := hP
  have hD : va_D A (([(q, .inr (0, [.int 0, .ref q_1, .ref q_2, .ref q_3, .ref q_4, .ref q_5, .ref q_6, .null, .null, .null])), (q_1, .inl (cI, 8, .inl (fun _ => 0))), (q_2, .inl (cI, 8, .inl (fun _ => 0))), (q_3, .inl (cI, 8, .inl (fun _ => 0))), (q_4, .inl (cI, 8, .inl (fun _ => 0))), (q_5, .inl (cI, 8, .inl (fun _ => 0))), (q_6, .inl (cI, 8, .inl (fun _ => 0))), (q_7, .inl (cI, 8, .inl (fun _ => 0)))] : va_W)) := hD
  refine va_putF (D := D) (ci := 0) (v := .ref q_7) (ty := tyX0 7) (C := RX0) (T := TX0) (N := 10) hx hb hts hiX0 tyX0 tyX0_ok nmX0 hown hK.1 hP hD hS 0 rfl rfl 7 (by decide) (hts (.fieldLink RX0 30 "IceLanes$Couriers" "state" "[I") (by decide +kernel)) (fun _ h9 => h9) rfl hin rfl (tyX0_ok 7 (by decide)) rfl rfl (Nat.le_of_ble_eq_true rfl) dX0_init_57 (fun H locs hP hD hS => ?_)
  have hP : va_P D vwCl (([(q, .inr (0, [.int 0, .ref q_1, .ref q_2, .ref q_3, .ref q_4, .ref q_5, .ref q_6, .ref q_7, .null, .null])), (q_1, .inl (cI, 8, .inl (fun _ => 0))), (q_2, .inl (cI, 8, .inl (fun _ => 0))), (q_3, .inl (cI, 8, .inl (fun _ => 0))), (q_4, .inl (cI, 8, .inl (fun _ => 0))), (q_5, .inl (cI, 8, .inl (fun _ => 0))), (q_6, .inl (cI, 8, .inl (fun _ => 0))), (q_7, .inl (cI, 8, .inl (fun _ => 0)))] : va_W)) H := hP
  have hD : va_D A (([(q, .inr (0, [.int 0, .ref q_1, .ref q_2, .ref q_3, .ref q_4, .ref q_5, .ref q_6, .ref q_7, .null, .null])), (q_1, .inl (cI, 8, .inl (fun _ => 0))), (q_2, .inl (cI, 8, .inl (fun _ => 0))), (q_3, .inl (cI, 8, .inl (fun _ => 0))), (q_4, .inl (cI, 8, .inl (fun _ => 0))), (q_5, .inl (cI, 8, .inl (fun _ => 0))), (q_6, .inl (cI, 8, .inl (fun _ => 0))), (q_7, .inl (cI, 8, .inl (fun _ => 0)))] : va_W)) := hD
  refine lv_aload_n hx hb dX0_init_60 rfl (lv_at hl 0 rfl) ?_
  refine lv_bipush (v := 8) hx hb dX0_init_61 (by decide) ?_
  refine my_newi (N := 8) hx hb (hts (.arrayClass .int) (by decide +kernel)) hK.1 hP hD hS hA (by decide) rfl (Nat.le_of_ble_eq_true rfl) (Nat.le_of_ble_eq_true rfl) (Nat.le_of_ble_eq_true rfl) dX0_init_63 (fun q_8 H hP hD hS => ?_)
  have hP : va_P D vwCl (([(q, .inr (0, [.int 0, .ref q_1, .ref q_2, .ref q_3, .ref q_4, .ref q_5, .ref q_6, .ref q_7, .null, .null])), (q_1, .inl (cI, 8, .inl (fun _ => 0))), (q_2, .inl (cI, 8, .inl (fun _ => 0))), (q_3, .inl (cI, 8, .inl (fun _ => 0))), (q_4, .inl (cI, 8, .inl (fun _ => 0))), (q_5, .inl (cI, 8, .inl (fun _ => 0))), (q_6, .inl (cI, 8, .inl (fun _ => 0))), (q_7, .inl (cI, 8, .inl (fun _ => 0))), (q_8, .inl (cI, 8, .inl (fun _ => 0)))] : va_W)) H := hP
  have hD : va_D A (([(q, .inr (0, [.int 0, .ref q_1, .ref q_2, .ref q_3, .ref q_4, .ref q_5, .ref q_6, .ref q_7, .null, .null])), (q_1, .inl (cI, 8, .inl (fun _ => 0))), (q_2, .inl (cI, 8, .inl (fun _ => 0))), (q_3, .inl (cI, 8, .inl (fun _ => 0))), (q_4, .inl (cI, 8, .inl (fun _ => 0))), (q_5, .inl (cI, 8, .inl (fun _ => 0))), (q_6, .inl (cI, 8, .inl (fun _ => 0))), (q_7, .inl (cI, 8, .inl (fun _ => 0))), (q_8, .inl (cI, 8, .inl (fun _ => 0)))] : va_W)) := hD
  refine va_putF (D := D) (ci := 0) (v := .ref q_8) (ty := tyX0 8) (C := RX0) (T := TX0) (N := 10) hx hb hts hiX0 tyX0 tyX0_ok nmX0 hown hK.1 hP hD hS 0 rfl rfl 8 (by decide) (hts (.fieldLink RX0 33 "IceLanes$Couriers" "steps" "[I") (by decide +kernel)) (fun _ h9 => h9) rfl hin rfl (tyX0_ok 8 (by decide)) rfl rfl (Nat.le_of_ble_eq_true rfl) dX0_init_65 (fun H locs hP hD hS => ?_)
  have hP : va_P D vwCl (([(q, .inr (0, [.int 0, .ref q_1, .ref q_2, .ref q_3, .ref q_4, .ref q_5, .ref q_6, .ref q_7, .ref q_8, .null])), (q_1, .inl (cI, 8, .inl (fun _ => 0))), (q_2, .inl (cI, 8, .inl (fun _ => 0))), (q_3, .inl (cI, 8, .inl (fun _ => 0))), (q_4, .inl (cI, 8, .inl (fun _ => 0))), (q_5, .inl (cI, 8, .inl (fun _ => 0))), (q_6, .inl (cI, 8, .inl (fun _ => 0))), (q_7, .inl (cI, 8, .inl (fun _ => 0))), (q_8, .inl (cI, 8, .inl (fun _ => 0)))] : va_W)) H := hP
  have hD : va_D A (([(q, .inr (0, [.int 0, .ref q_1, .ref q_2, .ref q_3, .ref q_4, .ref q_5, .ref q_6, .ref q_7, .ref q_8, .null])), (q_1, .inl (cI, 8, .inl (fun _ => 0))), (q_2, .inl (cI, 8, .inl (fun _ => 0))), (q_3, .inl (cI, 8, .inl (fun _ => 0))), (q_4, .inl (cI, 8, .inl (fun _ => 0))), (q_5, .inl (cI, 8, .inl (fun _ => 0))), (q_6, .inl (cI, 8, .inl (fun _ => 0))), (q_7, .inl (cI, 8, .inl (fun _ => 0))), (q_8, .inl (cI, 8, .inl (fun _ => 0)))] : va_W)) := hD
  refine lv_aload_n hx hb dX0_init_68 rfl (lv_at hl 0 rfl) ?_
  refine lv_bipush (v := 8) hx hb dX0_init_69 (by decide) ?_
  refine my_newi (N := 8) hx hb (hts (.arrayClass .int) (by decide +kernel)) hK.1 hP hD hS hA (by decide) rfl (Nat.le_of_ble_eq_true rfl) (Nat.le_of_ble_eq_true rfl) (Nat.le_of_ble_eq_true rfl) dX0_init_71 (fun q_9 H hP hD hS => ?_)
  have hP : va_P D vwCl (([(q, .inr (0, [.int 0, .ref q_1, .ref q_2, .ref q_3, .ref q_4, .ref q_5, .ref q_6, .ref q_7, .ref q_8, .null])), (q_1, .inl (cI, 8, .inl (fun _ => 0))), (q_2, .inl (cI, 8, .inl (fun _ => 0))), (q_3, .inl (cI, 8, .inl (fun _ => 0))), (q_4, .inl (cI, 8, .inl (fun _ => 0))), (q_5, .inl (cI, 8, .inl (fun _ => 0))), (q_6, .inl (cI, 8, .inl (fun _ => 0))), (q_7, .inl (cI, 8, .inl (fun _ => 0))), (q_8, .inl (cI, 8, .inl (fun _ => 0))), (q_9, .inl (cI, 8, .inl (fun _ => 0)))] : va_W)) H := hP
  have hD : va_D A (([(q, .inr (0, [.int 0, .ref q_1, .ref q_2, .ref q_3, .ref q_4, .ref q_5, .ref q_6, .ref q_7, .ref q_8, .null])), (q_1, .inl (cI, 8, .inl (fun _ => 0))), (q_2, .inl (cI, 8, .inl (fun _ => 0))), (q_3, .inl (cI, 8, .inl (fun _ => 0))), (q_4, .inl (cI, 8, .inl (fun _ => 0))), (q_5, .inl (cI, 8, .inl (fun _ => 0))), (q_6, .inl (cI, 8, .inl (fun _ => 0))), (q_7, .inl (cI, 8, .inl (fun _ => 0))), (q_8, .inl (cI, 8, .inl (fun _ => 0))), (q_9, .inl (cI, 8, .inl (fun _ => 0)))] : va_W)) := hD
  refine va_putF (D := D) (ci := 0) (v := .ref q_9) (ty := tyX0 9) (C := RX0) (T := TX0) (N := 10) hx hb hts hiX0 tyX0 tyX0_ok nmX0 hown hK.1 hP hD hS 0 rfl rfl 9 (by decide) (hts (.fieldLink RX0 36 "IceLanes$Couriers" "pace" "[I") (by decide +kernel)) (fun _ h9 => h9) rfl hin rfl (tyX0_ok 9 (by decide)) rfl rfl (Nat.le_of_ble_eq_true rfl) dX0_init_73 (fun H locs hP hD hS => ?_)
  have hP : va_P D vwCl (([(q, .inr (0, [.int 0, .ref q_1, .ref q_2, .ref q_3, .ref q_4, .ref q_5, .ref q_6, .ref q_7, .ref q_8, .ref q_9])), (q_1, .inl (cI, 8, .inl (fun _ => 0))), (q_2, .inl (cI, 8, .inl (fun _ => 0))), (q_3, .inl (cI, 8, .inl (fun _ => 0))), (q_4, .inl (cI, 8, .inl (fun _ => 0))), (q_5, .inl (cI, 8, .inl (fun _ => 0))), (q_6, .inl (cI, 8, .inl (fun _ => 0))), (q_7, .inl (cI, 8, .inl (fun _ => 0))), (q_8, .inl (cI, 8, .inl (fun _ => 0))), (q_9, .inl (cI, 8, .inl (fun _ => 0)))] : va_W)) H := hP
  have hD : va_D A (([(q, .inr (0, [.int 0, .ref q_1, .ref q_2, .ref q_3, .ref q_4, .ref q_5, .ref q_6, .ref q_7, .ref q_8, .ref q_9])), (q_1, .inl (cI, 8, .inl (fun _ => 0))), (q_2, .inl (cI, 8, .inl (fun _ => 0))), (q_3, .inl (cI, 8, .inl (fun _ => 0))), (q_4, .inl (cI, 8, .inl (fun _ => 0))), (q_5, .inl (cI, 8, .inl (fun _ => 0))), (q_6, .inl (cI, 8, .inl (fun _ => 0))), (q_7, .inl (cI, 8, .inl (fun _ => 0))), (q_8, .inl (cI, 8, .inl (fun _ => 0))), (q_9, .inl (cI, 8, .inl (fun _ => 0)))] : va_W)) := hD
  subst hQ
  have hP := hP.sub (ws' := wCou (adr [0, 0, 0, 0, 0, 0, q, q_1, q_2, q_3, q_4, q_5, q_6, q_7, q_8, q_9]) cI s0) [0, 1, 2, 3, 4, 5, 6, 7, 8, 9] rfl
  have hD := hD.sub (ws' := wCou (adr [0, 0, 0, 0, 0, 0, q, q_1, q_2, q_3, q_4, q_5, q_6, q_7, q_8, q_9]) cI s0) [0, 1, 2, 3, 4, 5, 6, 7, 8, 9] (by decide) rfl
  refine W.widen (k := 9) (n := 72) (by omega) (by omega) ?_
  exact ret_ini (w := fun a => wCou a cI s0) (adr [0, 0, 0, 0, 0, 0, q, q_1, q_2, q_3, q_4, q_5, q_6, q_7, q_8, q_9]) rfl hx hb hr hlocks hP hD hS dX0_init_76
set_option maxHeartbeats 4000000 in
set_option maxRecDepth 100000 in
theorem M_X3_init (l : Launch) (D : va_G) (cI : ClassId) (q : Nat) (sz : Nat) : Met l yX3_init wsX3_init ({ frames := 1, cells := 2, slots := 24, locals := 12 } : Room) (wrPc [.ref q] D (([(q, .inr (3, [.int 0, .null, .null]))] : va_W)) [(cI, .int)] sz) (iniQ 1 q D (fun a => wWag a cI s0) (va_A (([(q, .inr (3, [.int 0, .null, .null]))] : va_W)) sz)) 2 24 (va_A (([(q, .inr (3, [.int 0, .null, .null]))] : va_W)) sz) := by
  refine Met.ofW (cc := cX3_init) (maxL := 1) (ret := none) (by decide) rfl ?_
  intro p e s m args below meth c s₁ B hml hv
  obtain ⟨hargs, hsz, hP, hK, hD0⟩ := hv
  have hx := B.exec
  have hb := B.bytes
  have hr := B.returns
  have hts := atoms_spec (ws := wsX3_init) B.pre
  have hown : s.vm.findClass RX3 = some m.cls := findClass_of_methodNamed B.named
  have hlocks := B.notSynchronized
  have hin : meth.name = "<init>" := (name_of_methodNamed B.named B.method).1
  obtain ⟨_, hN⟩ := id hK
  have hiX3 : ∀ w ∈ wsX30, w ∈ wsX3_init := by decide +kernel
  subst hsz
  have hD := hD0.self (sz := s.heap.size)
  generalize hAe : va_A (([(q, .inr (3, [.int 0, .null, .null]))] : va_W)) s.heap.size = A at hD ⊢
  have hA : ∀ q : Nat, s.heap.size ≤ q → A q := fun q h => by rw [← hAe]; exact Or.inr h
  have hS : va_S A s.heap s.heap [] := va_S.rf
  have hP : va_P D vwCl (([(q, .inr (3, [.int 0, .null, .null]))] : va_W)) s.heap := hP
  refine my_abs (fun Q hQ => ?_)
  obtain ⟨ls, hl, hent⟩ := my_entry (m := m) (n := 1) hargs (Nat.le_of_ble_eq_true rfl)
  rw [hent]
  have hl : lv_has ls 1 [(0, .ref q)] := hl
  show W p l e ({ frames := 1, cells := 2, slots := 24, locals := 12 } : Room) s m args below meth c s.heap [] 0 0 Q (F0 m 0 ls [])
  refine lv_aload_n hx hb dX3_init_0 rfl (lv_at hl 0 rfl) ?_
  refine W.objInit hx hb hown (hts (.methodLink RX3 3 objectInit) (by decide +kernel)) (hts (.instanceMethod objectInit) (by decide +kernel)) (hts (.code objectInit ⟨#[0xb1]⟩ 1 none) (by decide +kernel)) rfl (by rw [hml]; exact hl.1) rfl dX3_init_1 (Nat.le_of_ble_eq_true rfl) (Nat.le_of_ble_eq_true rfl) ?_
  refine W.eq (g2 := F0 m 4 ls []) rfl ?_
  refine lv_aload_n hx hb dX3_init_4 rfl (lv_at hl 0 rfl) ?_
  refine lv_bipush (v := 12) hx hb dX3_init_5 (by decide) ?_
  refine my_newi (N := 12) hx hb (hts (.arrayClass .int) (by decide +kernel)) hK.1 hP hD hS hA (by decide) rfl (Nat.le_of_ble_eq_true rfl) (Nat.le_of_ble_eq_true rfl) (Nat.le_of_ble_eq_true rfl) dX3_init_7 (fun q_1 H hP hD hS => ?_)
  have hP : va_P D vwCl (([(q, .inr (3, [.int 0, .null, .null])), (q_1, .inl (cI, 12, .inl (fun _ => 0)))] : va_W)) H := hP
  have hD : va_D A (([(q, .inr (3, [.int 0, .null, .null])), (q_1, .inl (cI, 12, .inl (fun _ => 0)))] : va_W)) := hD
  refine va_putF (D := D) (ci := 3) (v := .ref q_1) (ty := tyX3 1) (C := RX3) (T := TX3) (N := 3) hx hb hts hiX3 tyX3 tyX3_ok nmX3 hown hK.1 hP hD hS 0 rfl rfl 1 (by decide) (hts (.fieldLink RX3 9 "IceLanes$Wagers" "day" "[I") (by decide +kernel)) (fun _ h9 => h9) rfl hin rfl (tyX3_ok 1 (by decide)) rfl rfl (Nat.le_of_ble_eq_true rfl) dX3_init_9 (fun H locs hP hD hS => ?_)
  have hP : va_P D vwCl (([(q, .inr (3, [.int 0, .ref q_1, .null])), (q_1, .inl (cI, 12, .inl (fun _ => 0)))] : va_W)) H := hP
  have hD : va_D A (([(q, .inr (3, [.int 0, .ref q_1, .null])), (q_1, .inl (cI, 12, .inl (fun _ => 0)))] : va_W)) := hD
  refine lv_aload_n hx hb dX3_init_12 rfl (lv_at hl 0 rfl) ?_
  refine lv_bipush (v := 12) hx hb dX3_init_13 (by decide) ?_
  refine my_newi (N := 12) hx hb (hts (.arrayClass .int) (by decide +kernel)) hK.1 hP hD hS hA (by decide) rfl (Nat.le_of_ble_eq_true rfl) (Nat.le_of_ble_eq_true rfl) (Nat.le_of_ble_eq_true rfl) dX3_init_15 (fun q_2 H hP hD hS => ?_)
  have hP : va_P D vwCl (([(q, .inr (3, [.int 0, .ref q_1, .null])), (q_1, .inl (cI, 12, .inl (fun _ => 0))), (q_2, .inl (cI, 12, .inl (fun _ => 0)))] : va_W)) H := hP
  have hD : va_D A (([(q, .inr (3, [.int 0, .ref q_1, .null])), (q_1, .inl (cI, 12, .inl (fun _ => 0))), (q_2, .inl (cI, 12, .inl (fun _ => 0)))] : va_W)) := hD
  refine va_putF (D := D) (ci := 3) (v := .ref q_2) (ty := tyX3 2) (C := RX3) (T := TX3) (N := 3) hx hb hts hiX3 tyX3 tyX3_ok nmX3 hown hK.1 hP hD hS 0 rfl rfl 2 (by decide) (hts (.fieldLink RX3 15 "IceLanes$Wagers" "stake" "[I") (by decide +kernel)) (fun _ h9 => h9) rfl hin rfl (tyX3_ok 2 (by decide)) rfl rfl (Nat.le_of_ble_eq_true rfl) dX3_init_17 (fun H locs hP hD hS => ?_)
  have hP : va_P D vwCl (([(q, .inr (3, [.int 0, .ref q_1, .ref q_2])), (q_1, .inl (cI, 12, .inl (fun _ => 0))), (q_2, .inl (cI, 12, .inl (fun _ => 0)))] : va_W)) H := hP
  have hD : va_D A (([(q, .inr (3, [.int 0, .ref q_1, .ref q_2])), (q_1, .inl (cI, 12, .inl (fun _ => 0))), (q_2, .inl (cI, 12, .inl (fun _ => 0)))] : va_W)) := hD
  subst hQ
  have hP := hP.sub (ws' := wWag (adr [0, q, q_1, q_2]) cI s0) [0, 1, 2] rfl
  have hD := hD.sub (ws' := wWag (adr [0, q, q_1, q_2]) cI s0) [0, 1, 2] (by decide) rfl
  refine W.widen (k := 2) (n := 24) (by omega) (by omega) ?_
  exact ret_ini (w := fun a => wWag a cI s0) (adr [0, q, q_1, q_2]) rfl hx hb hr hlocks hP hD hS dX3_init_20
set_option maxHeartbeats 4000000 in
set_option maxRecDepth 100000 in
theorem M_X5_init (l : Launch) (D : va_G) (cI : ClassId) (q : Nat) (o : Nat) (sz : Nat) : Met l yX5_init wsX5_init ({ frames := 1, cells := 3, slots := 144, locals := 12 } : Room) (wrPc [.ref q, .ref o] D (([(q, .inr (5, [.int 0, .int 0, .int 0, .int 0, .null, .null, .null, .null]))] : va_W)) [(cI, .int)] sz) (iniQ 0 q D (fun a => wSta a o cI s5) (va_A (([(q, .inr (5, [.int 0, .int 0, .int 0, .int 0, .null, .null, .null, .null]))] : va_W)) sz)) 3 144 (va_A (([(q, .inr (5, [.int 0, .int 0, .int 0, .int 0, .null, .null, .null, .null]))] : va_W)) sz) := by
  refine Met.ofW (cc := cX5_init) (maxL := 2) (ret := none) (by decide) rfl ?_
  intro p e s m args below meth c s₁ B hml hv
  obtain ⟨hargs, hsz, hP, hK, hD0⟩ := hv
  have hx := B.exec
  have hb := B.bytes
  have hr := B.returns
  have hts := atoms_spec (ws := wsX5_init) B.pre
  have hown : s.vm.findClass RX5 = some m.cls := findClass_of_methodNamed B.named
  have hlocks := B.notSynchronized
  have hin : meth.name = "<init>" := (name_of_methodNamed B.named B.method).1
  obtain ⟨_, hN⟩ := id hK
  have hiX5 : ∀ w ∈ wsX50, w ∈ wsX5_init := by decide +kernel
  subst hsz
  have hD := hD0.self (sz := s.heap.size)
  generalize hAe : va_A (([(q, .inr (5, [.int 0, .int 0, .int 0, .int 0, .null, .null, .null, .null]))] : va_W)) s.heap.size = A at hD ⊢
  have hA : ∀ q : Nat, s.heap.size ≤ q → A q := fun q h => by rw [← hAe]; exact Or.inr h
  have hS : va_S A s.heap s.heap [] := va_S.rf
  have hP : va_P D vwCl (([(q, .inr (5, [.int 0, .int 0, .int 0, .int 0, .null, .null, .null, .null]))] : va_W)) s.heap := hP
  refine my_abs (fun Q hQ => ?_)
  obtain ⟨ls, hl, hent⟩ := my_entry (m := m) (n := 2) hargs (Nat.le_of_ble_eq_true rfl)
  rw [hent]
  have hl : lv_has ls 2 [(0, .ref q), (1, .ref o)] := hl
  show W p l e ({ frames := 1, cells := 3, slots := 144, locals := 12 } : Room) s m args below meth c s.heap [] 0 0 Q (F0 m 0 ls [])
  refine lv_aload_n hx hb dX5_init_0 rfl (lv_at hl 0 rfl) ?_
  refine lv_aload_n hx hb dX5_init_1 rfl (lv_at hl 1 rfl) ?_
  refine va_putF (D := D) (ci := 5) (v := .ref o) (ty := tyX5 7) (C := RX5) (T := TX5) (N := 8) hx hb hts hiX5 tyX5 tyX5_ok nmX5 hown hK.1 hP hD hS 0 rfl rfl 7 (by decide) (hts (.fieldLink RX5 3 "IceLanesModel$State" "this$0" "LIceLanesModel;") (by decide +kernel)) (fun _ h9 => h9) rfl hin rfl (tyX5_ok 7 (by decide)) rfl rfl (Nat.le_of_ble_eq_true rfl) dX5_init_2 (fun H locs hP hD hS => ?_)
  have hP : va_P D vwCl (([(q, .inr (5, [.int 0, .int 0, .int 0, .int 0, .null, .null, .null, .ref o]))] : va_W)) H := hP
  have hD : va_D A (([(q, .inr (5, [.int 0, .int 0, .int 0, .int 0, .null, .null, .null, .ref o]))] : va_W)) := hD
  refine lv_aload_n hx hb dX5_init_5 rfl (lv_at hl 0 rfl) ?_
  refine W.objInit hx hb hown (hts (.methodLink RX5 9 objectInit) (by decide +kernel)) (hts (.instanceMethod objectInit) (by decide +kernel)) (hts (.code objectInit ⟨#[0xb1]⟩ 1 none) (by decide +kernel)) rfl (by rw [hml]; exact hl.1) rfl dX5_init_6 (Nat.le_of_ble_eq_true rfl) (Nat.le_of_ble_eq_true rfl) ?_
  refine W.eq (g2 := F0 m 9 ls []) rfl ?_
  refine lv_aload_n hx hb dX5_init_9 rfl (lv_at hl 0 rfl) ?_
  refine lv_iconst (v := (-1)) hx hb dX5_init_10 (by decide) ?_
  refine va_put (D := D) (ci := 5) (v := .int (-1)) (ty := tyX5 2) (C := RX5) (T := TX5) (N := 8) hx hb hts hiX5 tyX5 tyX5_ok nmX5 hown hK.1 hP hD hS 0 rfl rfl 2 (by decide) (hts (.fieldLink RX5 15 "IceLanesModel$State" "thawed" "I") (by decide +kernel)) (fun _ h9 => h9) rfl (tyX5_ok 2 (by decide)) rfl rfl (Nat.le_of_ble_eq_true rfl) dX5_init_11 (fun H locs hP hD hS => ?_)
  have hP : va_P D vwCl (([(q, .inr (5, [.int 0, .int 0, .int (-1), .int 0, .null, .null, .null, .ref o]))] : va_W)) H := hP
  have hD : va_D A (([(q, .inr (5, [.int 0, .int 0, .int (-1), .int 0, .null, .null, .null, .ref o]))] : va_W)) := hD
  refine lv_aload_n hx hb dX5_init_14 rfl (lv_at hl 0 rfl) ?_
  refine lv_bipush (v := 36) hx hb dX5_init_15 (by decide) ?_
  refine my_newi (N := 36) hx hb (hts (.arrayClass .int) (by decide +kernel)) hK.1 hP hD hS hA (by decide) rfl (Nat.le_of_ble_eq_true rfl) (Nat.le_of_ble_eq_true rfl) (Nat.le_of_ble_eq_true rfl) dX5_init_17 (fun q_1 H hP hD hS => ?_)
  have hP : va_P D vwCl (([(q, .inr (5, [.int 0, .int 0, .int (-1), .int 0, .null, .null, .null, .ref o])), (q_1, .inl (cI, 36, .inl (fun _ => 0)))] : va_W)) H := hP
  have hD : va_D A (([(q, .inr (5, [.int 0, .int 0, .int (-1), .int 0, .null, .null, .null, .ref o])), (q_1, .inl (cI, 36, .inl (fun _ => 0)))] : va_W)) := hD
  refine va_putF (D := D) (ci := 5) (v := .ref q_1) (ty := tyX5 4) (C := RX5) (T := TX5) (N := 8) hx hb hts hiX5 tyX5 tyX5_ok nmX5 hown hK.1 hP hD hS 0 rfl rfl 4 (by decide) (hts (.fieldLink RX5 19 "IceLanesModel$State" "ice" "[I") (by decide +kernel)) (fun _ h9 => h9) rfl hin rfl (tyX5_ok 4 (by decide)) rfl rfl (Nat.le_of_ble_eq_true rfl) dX5_init_19 (fun H locs hP hD hS => ?_)
  have hP : va_P D vwCl (([(q, .inr (5, [.int 0, .int 0, .int (-1), .int 0, .ref q_1, .null, .null, .ref o])), (q_1, .inl (cI, 36, .inl (fun _ => 0)))] : va_W)) H := hP
  have hD : va_D A (([(q, .inr (5, [.int 0, .int 0, .int (-1), .int 0, .ref q_1, .null, .null, .ref o])), (q_1, .inl (cI, 36, .inl (fun _ => 0)))] : va_W)) := hD
  refine lv_aload_n hx hb dX5_init_22 rfl (lv_at hl 0 rfl) ?_
  refine lv_bipush (v := 36) hx hb dX5_init_23 (by decide) ?_
  refine my_newi (N := 36) hx hb (hts (.arrayClass .int) (by decide +kernel)) hK.1 hP hD hS hA (by decide) rfl (Nat.le_of_ble_eq_true rfl) (Nat.le_of_ble_eq_true rfl) (Nat.le_of_ble_eq_true rfl) dX5_init_25 (fun q_2 H hP hD hS => ?_)
  have hP : va_P D vwCl (([(q, .inr (5, [.int 0, .int 0, .int (-1), .int 0, .ref q_1, .null, .null, .ref o])), (q_1, .inl (cI, 36, .inl (fun _ => 0))), (q_2, .inl (cI, 36, .inl (fun _ => 0)))] : va_W)) H := hP
  have hD : va_D A (([(q, .inr (5, [.int 0, .int 0, .int (-1), .int 0, .ref q_1, .null, .null, .ref o])), (q_1, .inl (cI, 36, .inl (fun _ => 0))), (q_2, .inl (cI, 36, .inl (fun _ => 0)))] : va_W)) := hD
  refine va_putF (D := D) (ci := 5) (v := .ref q_2) (ty := tyX5 5) (C := RX5) (T := TX5) (N := 8) hx hb hts hiX5 tyX5 tyX5_ok nmX5 hown hK.1 hP hD hS 0 rfl rfl 5 (by decide) (hts (.fieldLink RX5 23 "IceLanesModel$State" "cracks" "[I") (by decide +kernel)) (fun _ h9 => h9) rfl hin rfl (tyX5_ok 5 (by decide)) rfl rfl (Nat.le_of_ble_eq_true rfl) dX5_init_27 (fun H locs hP hD hS => ?_)
  have hP : va_P D vwCl (([(q, .inr (5, [.int 0, .int 0, .int (-1), .int 0, .ref q_1, .ref q_2, .null, .ref o])), (q_1, .inl (cI, 36, .inl (fun _ => 0))), (q_2, .inl (cI, 36, .inl (fun _ => 0)))] : va_W)) H := hP
  have hD : va_D A (([(q, .inr (5, [.int 0, .int 0, .int (-1), .int 0, .ref q_1, .ref q_2, .null, .ref o])), (q_1, .inl (cI, 36, .inl (fun _ => 0))), (q_2, .inl (cI, 36, .inl (fun _ => 0)))] : va_W)) := hD
  refine lv_aload_n hx hb dX5_init_30 rfl (lv_at hl 0 rfl) ?_
  refine lv_bipush (v := 72) hx hb dX5_init_31 (by decide) ?_
  refine my_newi (N := 72) hx hb (hts (.arrayClass .int) (by decide +kernel)) hK.1 hP hD hS hA (by decide) rfl (Nat.le_of_ble_eq_true rfl) (Nat.le_of_ble_eq_true rfl) (Nat.le_of_ble_eq_true rfl) dX5_init_33 (fun q_3 H hP hD hS => ?_)
  have hP : va_P D vwCl (([(q, .inr (5, [.int 0, .int 0, .int (-1), .int 0, .ref q_1, .ref q_2, .null, .ref o])), (q_1, .inl (cI, 36, .inl (fun _ => 0))), (q_2, .inl (cI, 36, .inl (fun _ => 0))), (q_3, .inl (cI, 72, .inl (fun _ => 0)))] : va_W)) H := hP
  have hD : va_D A (([(q, .inr (5, [.int 0, .int 0, .int (-1), .int 0, .ref q_1, .ref q_2, .null, .ref o])), (q_1, .inl (cI, 36, .inl (fun _ => 0))), (q_2, .inl (cI, 36, .inl (fun _ => 0))), (q_3, .inl (cI, 72, .inl (fun _ => 0)))] : va_W)) := hD
  refine va_putF (D := D) (ci := 5) (v := .ref q_3) (ty := tyX5 6) (C := RX5) (T := TX5) (N := 8) hx hb hts hiX5 tyX5 tyX5_ok nmX5 hown hK.1 hP hD hS 0 rfl rfl 6 (by decide) (hts (.fieldLink RX5 26 "IceLanesModel$State" "of" "[I") (by decide +kernel)) (fun _ h9 => h9) rfl hin rfl (tyX5_ok 6 (by decide)) rfl rfl (Nat.le_of_ble_eq_true rfl) dX5_init_35 (fun H locs hP hD hS => ?_)
  have hP : va_P D vwCl (([(q, .inr (5, [.int 0, .int 0, .int (-1), .int 0, .ref q_1, .ref q_2, .ref q_3, .ref o])), (q_1, .inl (cI, 36, .inl (fun _ => 0))), (q_2, .inl (cI, 36, .inl (fun _ => 0))), (q_3, .inl (cI, 72, .inl (fun _ => 0)))] : va_W)) H := hP
  have hD : va_D A (([(q, .inr (5, [.int 0, .int 0, .int (-1), .int 0, .ref q_1, .ref q_2, .ref q_3, .ref o])), (q_1, .inl (cI, 36, .inl (fun _ => 0))), (q_2, .inl (cI, 36, .inl (fun _ => 0))), (q_3, .inl (cI, 72, .inl (fun _ => 0)))] : va_W)) := hD
  have hP := row_fix hP (q := 3) (f := (ofC (s5 5) (s5 6) (s5 7) (s5 8) (s5 9) (s5 10) (s5 11) (s5 12) (s5 13))) rfl (fun j _ => ofC_z (fun _ => rfl) (fun _ => rfl) (fun _ => rfl) (fun _ => rfl) (fun _ => rfl) (fun _ => rfl) (fun _ => rfl) (fun _ => rfl) (fun _ => rfl) j)
  have hD := row_fixD (q := 3) (ofC (s5 5) (s5 6) (s5 7) (s5 8) (s5 9) (s5 10) (s5 11) (s5 12) (s5 13)) hD rfl
  subst hQ
  have hP := hP.sub (ws' := wSta (adr [q, q_1, q_2, q_3]) o cI s5) [0, 1, 2, 3] rfl
  have hD := hD.sub (ws' := wSta (adr [q, q_1, q_2, q_3]) o cI s5) [0, 1, 2, 3] (by decide) rfl
  refine W.widen (k := 3) (n := 144) (by omega) (by omega) ?_
  exact ret_ini (w := fun a => wSta a o cI s5) (adr [q, q_1, q_2, q_3]) rfl hx hb hr hlocks hP hD hS dX5_init_38
