set_option maxHeartbeats 4000000 in
set_option maxRecDepth 100000 in
theorem LW_send_e1 {p : Program} {l : Launch} {e : Env} {s : State} {m : MethodId} {args : Array Value} {below : List Frame} {meth : Method} {c : Code} {A : Nat → Prop} {D : va_G} {cI cJ : ClassId} {bs L : Nat} {xs : Nat → Int32} (C : lwC p l s m args c A D cI cJ bs L xs) (b a a2 n d d2 : Nat → Nat) (o i h nc nw : Nat) (σ σ2 ω τ2 : St) (g : Nat → Int64) (p0 : Int32) (p1 : Int32) (hI : lwI σ ω h nc nw) (hi : 6 * i + 6 ≤ L) (hbd : h + 1000 < 2 ^ 29) (hp1 : xs (6 * i + 1) = p0) (hp2 : xs (6 * i + 2) = p1) (h1 : ¬ ((0 ≤ p0 ∧ p0 ≤ σ 17 0 - 1) ∧ (0 ≤ p1 ∧ p1 ≤ 11))) {H : Heap} {locs : List Loc} {cells slots : Nat} {Q : State → Prop} (hRc : cells + 100 ≤ room_1.cells) (hRs : slots + 1000 ≤ room_1.slots) (hP : va_P D vwCl (wAll b a a2 n d d2 cI cJ o σ σ2 ω τ2 g) H) (hD : va_D A (wAll b a a2 n d d2 cI cJ o σ σ2 ω τ2 g)) (hS : va_S A s.heap H locs) (ls : Array Slot) (hl : lv_has ls 9 [(0, .ref bs), (1, .ref (b 0)), (2, .ref (n 0)), (3, .ref o), (4, .int (nI (6 * i)))]) (kk : lwK p l e s m args below meth c A D cI cJ b a a2 n d d2 o bs i h cells slots Q) : W p l e room_1 s m args below meth c H locs cells slots Q (F0 m 532 ls []) := by
  obtain ⟨hx, hb, hml, hown, hts, hK, hEX, hX, hbl, hbA, hst, hA, hL⟩ := id C
  obtain ⟨hok, hnw, hw12⟩ := id hI
  have hnc := hok.1.2.1
  have hn8 := hok.1.2.2.1
  refine lv_aload_n hx hb dL_law_532 rfl (lv_at hl 1 rfl) ?_
  refine lv_aload_n hx hb dL_law_533 rfl (lv_at hl 0 rfl) ?_
  refine lv_iload hx hb dL_law_534 (lv_at hl 4 rfl) ?_
  refine lv_iconst (v := 1) hx hb dL_law_536 (by decide) ?_
  refine lv_iadd hx hb dL_law_537 ?_
  rw [show nI (6 * i) + 1 = nI (6 * i + 1) from nI_add (6 * i) 1]
  refine va_sld hx hb hX hbl hbA hS (vp_in_nI (show 6 * i + 1 < L by omega) (by omega)) dL_law_538 ?_
  rw [nI_clamp (n := 6 * i + 1) (by omega), hp1]
  refine lv_aload_n hx hb dL_law_539 rfl (lv_at hl 0 rfl) ?_
  refine lv_iload hx hb dL_law_540 (lv_at hl 4 rfl) ?_
  refine lv_iconst (v := 2) hx hb dL_law_542 (by decide) ?_
  refine lv_iadd hx hb dL_law_543 ?_
  rw [show nI (6 * i) + 2 = nI (6 * i + 2) from nI_add (6 * i) 2]
  refine va_sld hx hb hX hbl hbA hS (vp_in_nI (show 6 * i + 2 < L by omega) (by omega)) dL_law_544 ?_
  rw [nI_clamp (n := 6 * i + 2) (by omega), hp2]
  refine lv_aload_n hx hb dL_law_545 rfl (lv_at hl 3 rfl) ?_
  refine sl_i (vx_runSW (As := [.ref (b 0), .int p0, .int p1, .ref o]) (rest := []) ⟨hx, hb, hml, hown, hts⟩ (M_L_send_e1 l D cI b a a2 σ σ2 ω p0 p1 o g cJ _ A hst h1) (vx_cwSW 4 hts gL_law_L_send rfl rfl rfl (by decide +kernel) ⟨Nat.le_of_ble_eq_true rfl, Nat.le_of_ble_eq_true rfl⟩) (hxS0 hK hP.left hD.left hS hEX [0, 1] rfl) rfl rfl hl.1 rfl (lv_room (Nat.le_of_ble_eq_true rfl)) dL_law_546 ⟨(by show cells + _ ≤ room_1.cells; omega), (by show slots + _ ≤ room_1.slots; omega)⟩) hP hD hS hA (fun H locs hP hD hS => ?_)
  have hP : va_P D vwCl (((wLan b a a2 cI σ σ2 ω) ++ [(o, .inl (cJ, 1, .inr (.inl g)))]) ++ (wMod n d d2 cI σ τ2 ω)) H := hP
  have hD : va_D A (((wLan b a a2 cI σ σ2 ω) ++ [(o, .inl (cJ, 1, .inr (.inl g)))]) ++ (wMod n d d2 cI σ τ2 ω)) := hD
  refine lv_istore (lv' := [(5, .int 1), (0, .ref bs), (1, .ref (b 0)), (2, .ref (n 0)), (3, .ref o), (4, .int (nI (6 * i)))]) hx hb dL_law_549 hl (by decide) rfl (fun ls hl => ?_)
  refine lv_aload_n hx hb dL_law_551 rfl (lv_at hl 3 rfl) ?_
  refine lv_aload_n hx hb dL_law_552 rfl (lv_at hl 1 rfl) ?_
  refine lv_iload hx hb dL_law_553 (lv_at hl 5 rfl) ?_
  refine lv_iconst (v := 1) hx hb dL_law_555 (by decide) ?_
  refine lv_iadd hx hb dL_law_556 ?_
  rw [show nI (6 * i) + 1 = nI (6 * i + 1) from nI_add (6 * i) 1]
  refine va_sld hx hb hX hbl hbA hS (vp_in_nI (show 6 * i + 1 < L by omega) (by omega)) dL_law_557 ?_
  rw [nI_clamp (n := 6 * i + 1) (by omega), hp1]
  refine lv_aload_n hx hb dL_law_558 rfl (lv_at hl 1 rfl) ?_
  refine lv_iload hx hb dL_law_559 (lv_at hl 5 rfl) ?_
  refine lv_iconst (v := 2) hx hb dL_law_561 (by decide) ?_
  refine lv_iadd hx hb dL_law_562 ?_
  rw [show nI (6 * i) + 2 = nI (6 * i + 2) from nI_add (6 * i) 2]
  refine va_sld hx hb hX hbl hbA hS (vp_in_nI (show 6 * i + 2 < L by omega) (by omega)) dL_law_563 ?_
  rw [nI_clamp (n := 6 * i + 2) (by omega), hp2]
  refine sr_i (va_runV (As := [.int p0, .int p1]) (rest := []) ⟨hx, hb, hml, hown, hts⟩ (M_X6_send_e1 l D cI n d d2 σ τ2 ω p0 p1 _ h1) (cwV 2 hts gL_law_X6_send rfl rfl rfl (by decide +kernel) ⟨Nat.le_of_ble_eq_true rfl, Nat.le_of_ble_eq_true rfl⟩) (wrV0 hK hP.right hD.right [0] rfl (ci := 6) (q0 := 0) rfl rfl) rfl rfl hl.1 rfl (lv_room (Nat.le_of_ble_eq_true rfl)) dL_law_564 ⟨(by show cells + _ ≤ room_1.cells; omega), (by show slots + _ ≤ room_1.slots; omega)⟩) hP hD hS hA (fun H locs hP hD hS => ?_)
  have hP : va_P D vwCl (((wLan b a a2 cI σ σ2 ω) ++ [(o, .inl (cJ, 1, .inr (.inl g)))]) ++ (wOutE n d d2 cI 1 (ω 19 0) (ω 1) (ω 2) (ω 14) (ω 15) ++ (wSta d (n 0) cI σ ++ wSta d2 (n 0) cI τ2))) H := hP
  have hD : va_D A (((wLan b a a2 cI σ σ2 ω) ++ [(o, .inl (cJ, 1, .inr (.inl g)))]) ++ (wOutE n d d2 cI 1 (ω 19 0) (ω 1) (ω 2) (ω 14) (ω 15) ++ (wSta d (n 0) cI σ ++ wSta d2 (n 0) cI τ2))) := hD
  refine lv_istore (lv' := [(6, .int 0), (5, .int 1), (0, .ref bs), (1, .ref (b 0)), (2, .ref (n 0)), (3, .ref o), (4, .int (nI (6 * i)))]) hx hb dL_law_567 hl (by decide) rfl (fun ls hl => ?_)
  refine lv_aload_n hx hb dL_law_569 rfl (lv_at hl 4 rfl) ?_
  refine rd_i (va_runV (As := []) (rest := []) ⟨hx, hb, hml, hown, hts⟩ (M_X6_thrown l D cI n d d2 σ τ2 (put ω 20 (fun _ => 1)) ) (cwV 0 hts gL_law_X6_thrown rfl rfl rfl (by decide +kernel) ⟨Nat.le_of_ble_eq_true rfl, Nat.le_of_ble_eq_true rfl⟩) (rdV0 hK hP.right [0] rfl (ci := 6) (q0 := 0) rfl rfl) rfl rfl hl.1 rfl (lv_room (Nat.le_of_ble_eq_true rfl)) dL_law_570 ⟨(by show cells + _ ≤ room_1.cells; omega), (by show slots + _ ≤ room_1.slots; omega)⟩) ?_
  refine W.eq (g2 := F0 m 573 ls [.int 1]) rfl ?_
  refine lv_iload hx hb dL_law_573 (lv_at hl 1 rfl) ?_
  refine lv_icmp_eq (tgt := 580) hx hb dL_law_575 (by decide) (fun c_1 => ?_) (fun c_1 => ?_)
  · skip
    refine lv_iload hx hb dL_law_580 (lv_at hl 1 rfl) ?_
    refine lv_if_ne (tgt := 597) hx hb dL_law_582 (by decide) (fun c_2 => ?_) (fun c_2 => ?_)
    · skip
      refine lv_goto (tgt := 1220) hx hb dL_law_597 (by decide) ?_
      have hP : va_P D vwCl (wAll b a a2 n d d2 cI cJ o σ σ2 (put ω 20 (fun _ => 1)) τ2 g) H := hP
      have hD : va_D A (wAll b a a2 n d d2 cI cJ o σ σ2 (put ω 20 (fun _ => 1)) τ2 g) := hD
      refine W.widen (k := cells + 23) (n := slots + 200) (by omega) (by omega) ?_
      exact kk σ σ2 (put ω 20 (fun _ => 1)) τ2 g h nc nw (iv_w (fun _ => 1) hI) (by omega) H locs hP hD hS ls (lv_sub hl [2, 3, 4, 5, 6] rfl)
    · skip
      exact absurd c_2 (by decide)
  · skip
    exact absurd rfl c_1
set_option maxHeartbeats 4000000 in
set_option maxRecDepth 100000 in
theorem LW_send_e2 {p : Program} {l : Launch} {e : Env} {s : State} {m : MethodId} {args : Array Value} {below : List Frame} {meth : Method} {c : Code} {A : Nat → Prop} {D : va_G} {cI cJ : ClassId} {bs L : Nat} {xs : Nat → Int32} (C : lwC p l s m args c A D cI cJ bs L xs) (b a a2 n d d2 : Nat → Nat) (o i h nc nw : Nat) (σ σ2 ω τ2 : St) (g : Nat → Int64) (cu : Nat) (p1 : Int32) (hI : lwI σ ω h nc nw) (hi : 6 * i + 6 ≤ L) (hbd : h + 1000 < 2 ^ 29) (hp1 : xs (6 * i + 1) = nI cu) (hp2 : xs (6 * i + 2) = p1) (hcu : cu < 8) (h1 : (0 ≤ nI cu ∧ nI cu ≤ σ 17 0 - 1)) (h2 : (0 ≤ p1 ∧ p1 ≤ 11)) (h3 : σ 11 cu = 3) {H : Heap} {locs : List Loc} {cells slots : Nat} {Q : State → Prop} (hRc : cells + 100 ≤ room_1.cells) (hRs : slots + 1000 ≤ room_1.slots) (hP : va_P D vwCl (wAll b a a2 n d d2 cI cJ o σ σ2 ω τ2 g) H) (hD : va_D A (wAll b a a2 n d d2 cI cJ o σ σ2 ω τ2 g)) (hS : va_S A s.heap H locs) (ls : Array Slot) (hl : lv_has ls 9 [(0, .ref bs), (1, .ref (b 0)), (2, .ref (n 0)), (3, .ref o), (4, .int (nI (6 * i)))]) (kk : lwK p l e s m args below meth c A D cI cJ b a a2 n d d2 o bs i h cells slots Q) : W p l e room_1 s m args below meth c H locs cells slots Q (F0 m 532 ls []) := by
  obtain ⟨hx, hb, hml, hown, hts, hK, hEX, hX, hbl, hbA, hst, hA, hL⟩ := id C
  obtain ⟨hok, hnw, hw12⟩ := id hI
  have hnc := hok.1.2.1
  have hn8 := hok.1.2.2.1
  refine lv_aload_n hx hb dL_law_532 rfl (lv_at hl 1 rfl) ?_
  refine lv_aload_n hx hb dL_law_533 rfl (lv_at hl 0 rfl) ?_
  refine lv_iload hx hb dL_law_534 (lv_at hl 4 rfl) ?_
  refine lv_iconst (v := 1) hx hb dL_law_536 (by decide) ?_
  refine lv_iadd hx hb dL_law_537 ?_
  rw [show nI (6 * i) + 1 = nI (6 * i + 1) from nI_add (6 * i) 1]
  refine va_sld hx hb hX hbl hbA hS (vp_in_nI (show 6 * i + 1 < L by omega) (by omega)) dL_law_538 ?_
  rw [nI_clamp (n := 6 * i + 1) (by omega), hp1]
  refine lv_aload_n hx hb dL_law_539 rfl (lv_at hl 0 rfl) ?_
  refine lv_iload hx hb dL_law_540 (lv_at hl 4 rfl) ?_
  refine lv_iconst (v := 2) hx hb dL_law_542 (by decide) ?_
  refine lv_iadd hx hb dL_law_543 ?_
  rw [show nI (6 * i) + 2 = nI (6 * i + 2) from nI_add (6 * i) 2]
  refine va_sld hx hb hX hbl hbA hS (vp_in_nI (show 6 * i + 2 < L by omega) (by omega)) dL_law_544 ?_
  rw [nI_clamp (n := 6 * i + 2) (by omega), hp2]
  refine lv_aload_n hx hb dL_law_545 rfl (lv_at hl 3 rfl) ?_
  refine sl_i (vx_runSW (As := [.ref (b 0), .int (nI cu), .int p1, .ref o]) (rest := []) ⟨hx, hb, hml, hown, hts⟩ (M_L_send_e2 l D cI b a a2 σ σ2 ω cu p1 o g cJ _ A hst hcu h1 h2 h3) (vx_cwSW 4 hts gL_law_L_send rfl rfl rfl (by decide +kernel) ⟨Nat.le_of_ble_eq_true rfl, Nat.le_of_ble_eq_true rfl⟩) (hxS0 hK hP.left hD.left hS hEX [0, 1] rfl) rfl rfl hl.1 rfl (lv_room (Nat.le_of_ble_eq_true rfl)) dL_law_546 ⟨(by show cells + _ ≤ room_1.cells; omega), (by show slots + _ ≤ room_1.slots; omega)⟩) hP hD hS hA (fun H locs hP hD hS => ?_)
  have hP : va_P D vwCl (((wLan b a a2 cI σ σ2 ω) ++ [(o, .inl (cJ, 1, .inr (.inl g)))]) ++ (wMod n d d2 cI σ τ2 ω)) H := hP
  have hD : va_D A (((wLan b a a2 cI σ σ2 ω) ++ [(o, .inl (cJ, 1, .inr (.inl g)))]) ++ (wMod n d d2 cI σ τ2 ω)) := hD
  refine lv_istore (lv' := [(5, .int 2), (0, .ref bs), (1, .ref (b 0)), (2, .ref (n 0)), (3, .ref o), (4, .int (nI (6 * i)))]) hx hb dL_law_549 hl (by decide) rfl (fun ls hl => ?_)
  refine lv_aload_n hx hb dL_law_551 rfl (lv_at hl 3 rfl) ?_
  refine lv_aload_n hx hb dL_law_552 rfl (lv_at hl 1 rfl) ?_
  refine lv_iload hx hb dL_law_553 (lv_at hl 5 rfl) ?_
  refine lv_iconst (v := 1) hx hb dL_law_555 (by decide) ?_
  refine lv_iadd hx hb dL_law_556 ?_
  rw [show nI (6 * i) + 1 = nI (6 * i + 1) from nI_add (6 * i) 1]
  refine va_sld hx hb hX hbl hbA hS (vp_in_nI (show 6 * i + 1 < L by omega) (by omega)) dL_law_557 ?_
  rw [nI_clamp (n := 6 * i + 1) (by omega), hp1]
  refine lv_aload_n hx hb dL_law_558 rfl (lv_at hl 1 rfl) ?_
  refine lv_iload hx hb dL_law_559 (lv_at hl 5 rfl) ?_
  refine lv_iconst (v := 2) hx hb dL_law_561 (by decide) ?_
  refine lv_iadd hx hb dL_law_562 ?_
  rw [show nI (6 * i) + 2 = nI (6 * i + 2) from nI_add (6 * i) 2]
  refine va_sld hx hb hX hbl hbA hS (vp_in_nI (show 6 * i + 2 < L by omega) (by omega)) dL_law_563 ?_
  rw [nI_clamp (n := 6 * i + 2) (by omega), hp2]
  refine sr_i (va_runV (As := [.int (nI cu), .int p1]) (rest := []) ⟨hx, hb, hml, hown, hts⟩ (M_X6_send_e2 l D cI n d d2 σ τ2 ω cu p1 _ hcu h1 h2 h3) (cwV 2 hts gL_law_X6_send rfl rfl rfl (by decide +kernel) ⟨Nat.le_of_ble_eq_true rfl, Nat.le_of_ble_eq_true rfl⟩) (wrV0 hK hP.right hD.right [0] rfl (ci := 6) (q0 := 0) rfl rfl) rfl rfl hl.1 rfl (lv_room (Nat.le_of_ble_eq_true rfl)) dL_law_564 ⟨(by show cells + _ ≤ room_1.cells; omega), (by show slots + _ ≤ room_1.slots; omega)⟩) hP hD hS hA (fun H locs hP hD hS => ?_)
  have hP : va_P D vwCl (((wLan b a a2 cI σ σ2 ω) ++ [(o, .inl (cJ, 1, .inr (.inl g)))]) ++ (wOutE n d d2 cI 2 (ω 19 0) (ω 1) (ω 2) (ω 14) (ω 15) ++ (wSta d (n 0) cI σ ++ wSta d2 (n 0) cI τ2))) H := hP
  have hD : va_D A (((wLan b a a2 cI σ σ2 ω) ++ [(o, .inl (cJ, 1, .inr (.inl g)))]) ++ (wOutE n d d2 cI 2 (ω 19 0) (ω 1) (ω 2) (ω 14) (ω 15) ++ (wSta d (n 0) cI σ ++ wSta d2 (n 0) cI τ2))) := hD
  refine lv_istore (lv' := [(6, .int 0), (5, .int 2), (0, .ref bs), (1, .ref (b 0)), (2, .ref (n 0)), (3, .ref o), (4, .int (nI (6 * i)))]) hx hb dL_law_567 hl (by decide) rfl (fun ls hl => ?_)
  refine lv_aload_n hx hb dL_law_569 rfl (lv_at hl 4 rfl) ?_
  refine rd_i (va_runV (As := []) (rest := []) ⟨hx, hb, hml, hown, hts⟩ (M_X6_thrown l D cI n d d2 σ τ2 (put ω 20 (fun _ => 2)) ) (cwV 0 hts gL_law_X6_thrown rfl rfl rfl (by decide +kernel) ⟨Nat.le_of_ble_eq_true rfl, Nat.le_of_ble_eq_true rfl⟩) (rdV0 hK hP.right [0] rfl (ci := 6) (q0 := 0) rfl rfl) rfl rfl hl.1 rfl (lv_room (Nat.le_of_ble_eq_true rfl)) dL_law_570 ⟨(by show cells + _ ≤ room_1.cells; omega), (by show slots + _ ≤ room_1.slots; omega)⟩) ?_
  refine W.eq (g2 := F0 m 573 ls [.int 2]) rfl ?_
  refine lv_iload hx hb dL_law_573 (lv_at hl 1 rfl) ?_
  refine lv_icmp_eq (tgt := 580) hx hb dL_law_575 (by decide) (fun c_1 => ?_) (fun c_1 => ?_)
  · skip
    refine lv_iload hx hb dL_law_580 (lv_at hl 1 rfl) ?_
    refine lv_if_ne (tgt := 597) hx hb dL_law_582 (by decide) (fun c_2 => ?_) (fun c_2 => ?_)
    · skip
      refine lv_goto (tgt := 1220) hx hb dL_law_597 (by decide) ?_
      have hP : va_P D vwCl (wAll b a a2 n d d2 cI cJ o σ σ2 (put ω 20 (fun _ => 2)) τ2 g) H := hP
      have hD : va_D A (wAll b a a2 n d d2 cI cJ o σ σ2 (put ω 20 (fun _ => 2)) τ2 g) := hD
      refine W.widen (k := cells + 23) (n := slots + 200) (by omega) (by omega) ?_
      exact kk σ σ2 (put ω 20 (fun _ => 2)) τ2 g h nc nw (iv_w (fun _ => 2) hI) (by omega) H locs hP hD hS ls (lv_sub hl [2, 3, 4, 5, 6] rfl)
    · skip
      exact absurd c_2 (by decide)
  · skip
    exact absurd rfl c_1
set_option maxHeartbeats 4000000 in
set_option maxRecDepth 100000 in
theorem LW_send_ok {p : Program} {l : Launch} {e : Env} {s : State} {m : MethodId} {args : Array Value} {below : List Frame} {meth : Method} {c : Code} {A : Nat → Prop} {D : va_G} {cI cJ : ClassId} {bs L : Nat} {xs : Nat → Int32} (C : lwC p l s m args c A D cI cJ bs L xs) (b a a2 n d d2 : Nat → Nat) (o i h nc nw : Nat) (σ σ2 ω τ2 : St) (g : Nat → Int64) (cu : Nat) (p1 : Int32) (hI : lwI σ ω h nc nw) (hi : 6 * i + 6 ≤ L) (hbd : h + 1000 < 2 ^ 29) (hp1 : xs (6 * i + 1) = nI cu) (hp2 : xs (6 * i + 2) = p1) (hcu : cu < 8) (h1 : (0 ≤ nI cu ∧ nI cu ≤ σ 17 0 - 1)) (h2 : (0 ≤ p1 ∧ p1 ≤ 11)) (h3 : ¬ σ 11 cu = 3) (hcn : cu < nc) {H : Heap} {locs : List Loc} {cells slots : Nat} {Q : State → Prop} (hRc : cells + 100 ≤ room_1.cells) (hRs : slots + 1000 ≤ room_1.slots) (hP : va_P D vwCl (wAll b a a2 n d d2 cI cJ o σ σ2 ω τ2 g) H) (hD : va_D A (wAll b a a2 n d d2 cI cJ o σ σ2 ω τ2 g)) (hS : va_S A s.heap H locs) (ls : Array Slot) (hl : lv_has ls 9 [(0, .ref bs), (1, .ref (b 0)), (2, .ref (n 0)), (3, .ref o), (4, .int (nI (6 * i)))]) (kk : lwK p l e s m args below meth c A D cI cJ b a a2 n d d2 o bs i h cells slots Q) : W p l e room_1 s m args below meth c H locs cells slots Q (F0 m 532 ls []) := by
  obtain ⟨hx, hb, hml, hown, hts, hK, hEX, hX, hbl, hbA, hst, hA, hL⟩ := id C
  obtain ⟨hok, hnw, hw12⟩ := id hI
  have hnc := hok.1.2.1
  have hn8 := hok.1.2.2.1
  refine lv_aload_n hx hb dL_law_532 rfl (lv_at hl 1 rfl) ?_
  refine lv_aload_n hx hb dL_law_533 rfl (lv_at hl 0 rfl) ?_
  refine lv_iload hx hb dL_law_534 (lv_at hl 4 rfl) ?_
  refine lv_iconst (v := 1) hx hb dL_law_536 (by decide) ?_
  refine lv_iadd hx hb dL_law_537 ?_
  rw [show nI (6 * i) + 1 = nI (6 * i + 1) from nI_add (6 * i) 1]
  refine va_sld hx hb hX hbl hbA hS (vp_in_nI (show 6 * i + 1 < L by omega) (by omega)) dL_law_538 ?_
  rw [nI_clamp (n := 6 * i + 1) (by omega), hp1]
  refine lv_aload_n hx hb dL_law_539 rfl (lv_at hl 0 rfl) ?_
  refine lv_iload hx hb dL_law_540 (lv_at hl 4 rfl) ?_
  refine lv_iconst (v := 2) hx hb dL_law_542 (by decide) ?_
  refine lv_iadd hx hb dL_law_543 ?_
  rw [show nI (6 * i) + 2 = nI (6 * i + 2) from nI_add (6 * i) 2]
  refine va_sld hx hb hX hbl hbA hS (vp_in_nI (show 6 * i + 2 < L by omega) (by omega)) dL_law_544 ?_
  rw [nI_clamp (n := 6 * i + 2) (by omega), hp2]
  refine lv_aload_n hx hb dL_law_545 rfl (lv_at hl 3 rfl) ?_
  refine sl_i (vx_runSW (As := [.ref (b 0), .int (nI cu), .int p1, .ref o]) (rest := []) ⟨hx, hb, hml, hown, hts⟩ (M_L_send_ok l D cI b a a2 σ σ2 ω cu p1 o g cJ _ hcu h1 h2 h3) (vx_cwSW 4 hts gL_law_L_send rfl rfl rfl (by decide +kernel) ⟨Nat.le_of_ble_eq_true rfl, Nat.le_of_ble_eq_true rfl⟩) (wrS0 hK hP.left hD.left [0, 1] rfl) rfl rfl hl.1 rfl (lv_room (Nat.le_of_ble_eq_true rfl)) dL_law_546 ⟨(by show cells + _ ≤ room_1.cells; omega), (by show slots + _ ≤ room_1.slots; omega)⟩) hP hD hS hA (fun H locs hP hD hS => ?_)
  have hP : va_P D vwCl (((wTopE b a a2 ++ (wWag b cI ω ++ (wRivE a cI (σ 0 0) (σ 16 0) (σ 1) (σ 2) (σ 3) (σ 4) (σ 17 0) (σ 5) (σ 6) (σ 7) (σ 8) (σ 9) (upd ((σ 10)) cu p1) (upd ((σ 11)) cu 0) (σ 12) (σ 13) ++ wRiv a2 cI σ2))) ++ [(o, .inl (cJ, 1, .inr (.inl (vp_updL g 0 (ab ((σ 8) cu - p1)).toInt64))))]) ++ (wMod n d d2 cI σ τ2 ω)) H := hP
  have hD : va_D A (((wTopE b a a2 ++ (wWag b cI ω ++ (wRivE a cI (σ 0 0) (σ 16 0) (σ 1) (σ 2) (σ 3) (σ 4) (σ 17 0) (σ 5) (σ 6) (σ 7) (σ 8) (σ 9) (upd ((σ 10)) cu p1) (upd ((σ 11)) cu 0) (σ 12) (σ 13) ++ wRiv a2 cI σ2))) ++ [(o, .inl (cJ, 1, .inr (.inl (vp_updL g 0 (ab ((σ 8) cu - p1)).toInt64))))]) ++ (wMod n d d2 cI σ τ2 ω)) := hD
  refine lv_istore (lv' := [(5, .int 0), (0, .ref bs), (1, .ref (b 0)), (2, .ref (n 0)), (3, .ref o), (4, .int (nI (6 * i)))]) hx hb dL_law_549 hl (by decide) rfl (fun ls hl => ?_)
  refine lv_aload_n hx hb dL_law_551 rfl (lv_at hl 3 rfl) ?_
  refine lv_aload_n hx hb dL_law_552 rfl (lv_at hl 1 rfl) ?_
  refine lv_iload hx hb dL_law_553 (lv_at hl 5 rfl) ?_
  refine lv_iconst (v := 1) hx hb dL_law_555 (by decide) ?_
  refine lv_iadd hx hb dL_law_556 ?_
  rw [show nI (6 * i) + 1 = nI (6 * i + 1) from nI_add (6 * i) 1]
  refine va_sld hx hb hX hbl hbA hS (vp_in_nI (show 6 * i + 1 < L by omega) (by omega)) dL_law_557 ?_
  rw [nI_clamp (n := 6 * i + 1) (by omega), hp1]
  refine lv_aload_n hx hb dL_law_558 rfl (lv_at hl 1 rfl) ?_
  refine lv_iload hx hb dL_law_559 (lv_at hl 5 rfl) ?_
  refine lv_iconst (v := 2) hx hb dL_law_561 (by decide) ?_
  refine lv_iadd hx hb dL_law_562 ?_
  rw [show nI (6 * i) + 2 = nI (6 * i + 2) from nI_add (6 * i) 2]
  refine va_sld hx hb hX hbl hbA hS (vp_in_nI (show 6 * i + 2 < L by omega) (by omega)) dL_law_563 ?_
  rw [nI_clamp (n := 6 * i + 2) (by omega), hp2]
  refine sr_i (va_runV (As := [.int (nI cu), .int p1]) (rest := []) ⟨hx, hb, hml, hown, hts⟩ (M_X6_send_ok l D cI n d d2 σ τ2 ω cu p1 _ hcu h1 h2 h3) (cwV 2 hts gL_law_X6_send rfl rfl rfl (by decide +kernel) ⟨Nat.le_of_ble_eq_true rfl, Nat.le_of_ble_eq_true rfl⟩) (wrV0 hK hP.right hD.right [0] rfl (ci := 6) (q0 := 0) rfl rfl) rfl rfl hl.1 rfl (lv_room (Nat.le_of_ble_eq_true rfl)) dL_law_564 ⟨(by show cells + _ ≤ room_1.cells; omega), (by show slots + _ ≤ room_1.slots; omega)⟩) hP hD hS hA (fun H locs hP hD hS => ?_)
  have hP : va_P D vwCl (((wTopE b a a2 ++ (wWag b cI ω ++ (wRivE a cI (σ 0 0) (σ 16 0) (σ 1) (σ 2) (σ 3) (σ 4) (σ 17 0) (σ 5) (σ 6) (σ 7) (σ 8) (σ 9) (upd ((σ 10)) cu p1) (upd ((σ 11)) cu 0) (σ 12) (σ 13) ++ wRiv a2 cI σ2))) ++ [(o, .inl (cJ, 1, .inr (.inl (vp_updL g 0 (ab ((σ 8) cu - p1)).toInt64))))]) ++ (wOutE n d d2 cI 0 (ω 19 0) (ω 1) (ω 2) (ω 14) (ω 15) ++ (wStaE d (n 0) cI (σ 0 0) (σ 17 0) (σ 16 0) (σ 18 0) (σ 3) (σ 4) (σ 5) (σ 6) (σ 7) (σ 8) (σ 9) (upd ((σ 10)) cu p1) (upd ((σ 11)) cu 0) (σ 12) (σ 13) ++ wSta d2 (n 0) cI τ2))) H := hP
  have hD : va_D A (((wTopE b a a2 ++ (wWag b cI ω ++ (wRivE a cI (σ 0 0) (σ 16 0) (σ 1) (σ 2) (σ 3) (σ 4) (σ 17 0) (σ 5) (σ 6) (σ 7) (σ 8) (σ 9) (upd ((σ 10)) cu p1) (upd ((σ 11)) cu 0) (σ 12) (σ 13) ++ wRiv a2 cI σ2))) ++ [(o, .inl (cJ, 1, .inr (.inl (vp_updL g 0 (ab ((σ 8) cu - p1)).toInt64))))]) ++ (wOutE n d d2 cI 0 (ω 19 0) (ω 1) (ω 2) (ω 14) (ω 15) ++ (wStaE d (n 0) cI (σ 0 0) (σ 17 0) (σ 16 0) (σ 18 0) (σ 3) (σ 4) (σ 5) (σ 6) (σ 7) (σ 8) (σ 9) (upd ((σ 10)) cu p1) (upd ((σ 11)) cu 0) (σ 12) (σ 13) ++ wSta d2 (n 0) cI τ2))) := hD
  rw [show ab (p1 - σ 8 cu) = ab (σ 8 cu - p1) from ab_sym h2 (hok.1.2.2.2 cu hcn).1]
  refine lv_istore (lv' := [(6, .int (ab (σ 8 cu - p1))), (5, .int 0), (0, .ref bs), (1, .ref (b 0)), (2, .ref (n 0)), (3, .ref o), (4, .int (nI (6 * i)))]) hx hb dL_law_567 hl (by decide) rfl (fun ls hl => ?_)
  refine lv_aload_n hx hb dL_law_569 rfl (lv_at hl 4 rfl) ?_
  refine rd_i (va_runV (As := []) (rest := []) ⟨hx, hb, hml, hown, hts⟩ (M_X6_thrown l D cI n d d2 (put (put σ 10 (upd ((σ 10)) cu p1)) 11 (upd ((σ 11)) cu 0)) τ2 (put ω 20 (fun _ => 0)) ) (cwV 0 hts gL_law_X6_thrown rfl rfl rfl (by decide +kernel) ⟨Nat.le_of_ble_eq_true rfl, Nat.le_of_ble_eq_true rfl⟩) (rdV0 hK hP.right [0] rfl (ci := 6) (q0 := 0) rfl rfl) rfl rfl hl.1 rfl (lv_room (Nat.le_of_ble_eq_true rfl)) dL_law_570 ⟨(by show cells + _ ≤ room_1.cells; omega), (by show slots + _ ≤ room_1.slots; omega)⟩) ?_
  refine W.eq (g2 := F0 m 573 ls [.int 0]) rfl ?_
  refine lv_iload hx hb dL_law_573 (lv_at hl 1 rfl) ?_
  refine lv_icmp_eq (tgt := 580) hx hb dL_law_575 (by decide) (fun c_1 => ?_) (fun c_1 => ?_)
  · skip
    refine lv_iload hx hb dL_law_580 (lv_at hl 1 rfl) ?_
    refine lv_if_ne (tgt := 597) hx hb dL_law_582 (by decide) (fun c_2 => ?_) (fun c_2 => ?_)
    · skip
      exact absurd c_2 (by decide)
    · skip
      refine lv_aload_n hx hb dL_law_585 rfl (lv_at hl 5 rfl) ?_
      refine lv_iconst (v := 0) hx hb dL_law_586 (by decide) ?_
      refine va_lald hx hb hK.1 hP 36 1 rfl rfl (by unfold vp_in; decide) dL_law_587 ?_
      refine W.eq (g2 := F0 m 588 ls [.long ((ab ((σ 8) cu - p1)).toInt64)]) rfl ?_
      refine lv_iload hx hb dL_law_588 (lv_at hl 0 rfl) ?_
      refine lv_i2l hx hb dL_law_590 rfl ?_
      skip
      refine my_lcmpE hx hb dL_law_591 ?_
      refine lv_if_eq (tgt := 597) hx hb dL_law_592 (by decide) (fun c_3 => ?_) (fun c_3 => ?_)
      · skip
        refine lv_goto (tgt := 1220) hx hb dL_law_597 (by decide) ?_
        have hP : va_P D vwCl (wAll b a a2 n d d2 cI cJ o (put (put σ 10 (upd ((σ 10)) cu p1)) 11 (upd ((σ 11)) cu 0)) σ2 (put ω 20 (fun _ => 0)) τ2 (vp_updL g 0 (ab ((σ 8) cu - p1)).toInt64)) H := hP
        have hD : va_D A (wAll b a a2 n d d2 cI cJ o (put (put σ 10 (upd ((σ 10)) cu p1)) 11 (upd ((σ 11)) cu 0)) σ2 (put ω 20 (fun _ => 0)) τ2 (vp_updL g 0 (ab ((σ 8) cu - p1)).toInt64)) := hD
        refine W.widen (k := cells + 23) (n := slots + 200) (by omega) (by omega) ?_
        exact kk (put (put σ 10 (upd ((σ 10)) cu p1)) 11 (upd ((σ 11)) cu 0)) σ2 (put ω 20 (fun _ => 0)) τ2 (vp_updL g 0 (ab ((σ 8) cu - p1)).toInt64) h nc nw (iv_send (fun _ => 0) h2 hI) (by omega) H locs hP hD hS ls (lv_sub hl [2, 3, 4, 5, 6] rfl)
      · skip
        exact absurd c_3 (by decide)
  · skip
    exact absurd rfl c_1
set_option maxHeartbeats 4000000 in
set_option maxRecDepth 100000 in
theorem LW_load_e1 {p : Program} {l : Launch} {e : Env} {s : State} {m : MethodId} {args : Array Value} {below : List Frame} {meth : Method} {c : Code} {A : Nat → Prop} {D : va_G} {cI cJ : ClassId} {bs L : Nat} {xs : Nat → Int32} (C : lwC p l s m args c A D cI cJ bs L xs) (b a a2 n d d2 : Nat → Nat) (o i h nc nw : Nat) (σ σ2 ω τ2 : St) (g : Nat → Int64) (p0 : Int32) (p1 : Int32) (hI : lwI σ ω h nc nw) (hi : 6 * i + 6 ≤ L) (hbd : h + 1000 < 2 ^ 29) (hp1 : xs (6 * i + 1) = p0) (hp2 : xs (6 * i + 2) = p1) (h1 : ¬ (0 ≤ p0 ∧ p0 ≤ σ 17 0 - 1)) {H : Heap} {locs : List Loc} {cells slots : Nat} {Q : State → Prop} (hRc : cells + 100 ≤ room_1.cells) (hRs : slots + 1000 ≤ room_1.slots) (hP : va_P D vwCl (wAll b a a2 n d d2 cI cJ o σ σ2 ω τ2 g) H) (hD : va_D A (wAll b a a2 n d d2 cI cJ o σ σ2 ω τ2 g)) (hS : va_S A s.heap H locs) (ls : Array Slot) (hl : lv_has ls 9 [(0, .ref bs), (1, .ref (b 0)), (2, .ref (n 0)), (3, .ref o), (4, .int (nI (6 * i)))]) (kk : lwK p l e s m args below meth c A D cI cJ b a a2 n d d2 o bs i h cells slots Q) : W p l e room_1 s m args below meth c H locs cells slots Q (F0 m 600 ls []) := by
  obtain ⟨hx, hb, hml, hown, hts, hK, hEX, hX, hbl, hbA, hst, hA, hL⟩ := id C
  obtain ⟨hok, hnw, hw12⟩ := id hI
  have hnc := hok.1.2.1
  have hn8 := hok.1.2.2.1
  refine lv_aload_n hx hb dL_law_600 rfl (lv_at hl 1 rfl) ?_
  refine lv_aload_n hx hb dL_law_601 rfl (lv_at hl 0 rfl) ?_
  refine lv_iload hx hb dL_law_602 (lv_at hl 4 rfl) ?_
  refine lv_iconst (v := 1) hx hb dL_law_604 (by decide) ?_
  refine lv_iadd hx hb dL_law_605 ?_
  rw [show nI (6 * i) + 1 = nI (6 * i + 1) from nI_add (6 * i) 1]
  refine va_sld hx hb hX hbl hbA hS (vp_in_nI (show 6 * i + 1 < L by omega) (by omega)) dL_law_606 ?_
  rw [nI_clamp (n := 6 * i + 1) (by omega), hp1]
  refine lv_aload_n hx hb dL_law_607 rfl (lv_at hl 0 rfl) ?_
  refine lv_iload hx hb dL_law_608 (lv_at hl 4 rfl) ?_
  refine lv_iconst (v := 2) hx hb dL_law_610 (by decide) ?_
  refine lv_iadd hx hb dL_law_611 ?_
  rw [show nI (6 * i) + 2 = nI (6 * i + 2) from nI_add (6 * i) 2]
  refine va_sld hx hb hX hbl hbA hS (vp_in_nI (show 6 * i + 2 < L by omega) (by omega)) dL_law_612 ?_
  rw [nI_clamp (n := 6 * i + 2) (by omega), hp2]
  refine lv_aload_n hx hb dL_law_613 rfl (lv_at hl 3 rfl) ?_
  refine sl_i (vx_runSW (As := [.ref (b 0), .int p0, .int p1, .ref o]) (rest := []) ⟨hx, hb, hml, hown, hts⟩ (M_L_load_e1 l D cI b a a2 σ σ2 ω p0 p1 o g cJ _ A hst h1) (vx_cwSW 4 hts gL_law_L_load rfl rfl rfl (by decide +kernel) ⟨Nat.le_of_ble_eq_true rfl, Nat.le_of_ble_eq_true rfl⟩) (hxS0 hK hP.left hD.left hS hEX [0, 1] rfl) rfl rfl hl.1 rfl (lv_room (Nat.le_of_ble_eq_true rfl)) dL_law_614 ⟨(by show cells + _ ≤ room_1.cells; omega), (by show slots + _ ≤ room_1.slots; omega)⟩) hP hD hS hA (fun H locs hP hD hS => ?_)
  have hP : va_P D vwCl (((wLan b a a2 cI σ σ2 ω) ++ [(o, .inl (cJ, 1, .inr (.inl g)))]) ++ (wMod n d d2 cI σ τ2 ω)) H := hP
  have hD : va_D A (((wLan b a a2 cI σ σ2 ω) ++ [(o, .inl (cJ, 1, .inr (.inl g)))]) ++ (wMod n d d2 cI σ τ2 ω)) := hD
  refine lv_istore (lv' := [(5, .int 1), (0, .ref bs), (1, .ref (b 0)), (2, .ref (n 0)), (3, .ref o), (4, .int (nI (6 * i)))]) hx hb dL_law_617 hl (by decide) rfl (fun ls hl => ?_)
  refine lv_aload_n hx hb dL_law_619 rfl (lv_at hl 3 rfl) ?_
  refine lv_aload_n hx hb dL_law_620 rfl (lv_at hl 1 rfl) ?_
  refine lv_iload hx hb dL_law_621 (lv_at hl 5 rfl) ?_
  refine lv_iconst (v := 1) hx hb dL_law_623 (by decide) ?_
  refine lv_iadd hx hb dL_law_624 ?_
  rw [show nI (6 * i) + 1 = nI (6 * i + 1) from nI_add (6 * i) 1]
  refine va_sld hx hb hX hbl hbA hS (vp_in_nI (show 6 * i + 1 < L by omega) (by omega)) dL_law_625 ?_
  rw [nI_clamp (n := 6 * i + 1) (by omega), hp1]
  refine lv_aload_n hx hb dL_law_626 rfl (lv_at hl 1 rfl) ?_
  refine lv_iload hx hb dL_law_627 (lv_at hl 5 rfl) ?_
  refine lv_iconst (v := 2) hx hb dL_law_629 (by decide) ?_
  refine lv_iadd hx hb dL_law_630 ?_
  rw [show nI (6 * i) + 2 = nI (6 * i + 2) from nI_add (6 * i) 2]
  refine va_sld hx hb hX hbl hbA hS (vp_in_nI (show 6 * i + 2 < L by omega) (by omega)) dL_law_631 ?_
  rw [nI_clamp (n := 6 * i + 2) (by omega), hp2]
  refine sr_i (va_runV (As := [.int p0, .int p1]) (rest := []) ⟨hx, hb, hml, hown, hts⟩ (M_X6_load_e1 l D cI n d d2 σ τ2 ω p0 p1 _ h1) (cwV 2 hts gL_law_X6_load rfl rfl rfl (by decide +kernel) ⟨Nat.le_of_ble_eq_true rfl, Nat.le_of_ble_eq_true rfl⟩) (wrV0 hK hP.right hD.right [0] rfl (ci := 6) (q0 := 0) rfl rfl) rfl rfl hl.1 rfl (lv_room (Nat.le_of_ble_eq_true rfl)) dL_law_632 ⟨(by show cells + _ ≤ room_1.cells; omega), (by show slots + _ ≤ room_1.slots; omega)⟩) hP hD hS hA (fun H locs hP hD hS => ?_)
  have hP : va_P D vwCl (((wLan b a a2 cI σ σ2 ω) ++ [(o, .inl (cJ, 1, .inr (.inl g)))]) ++ (wOutE n d d2 cI 1 (ω 19 0) (ω 1) (ω 2) (ω 14) (ω 15) ++ (wSta d (n 0) cI σ ++ wSta d2 (n 0) cI τ2))) H := hP
  have hD : va_D A (((wLan b a a2 cI σ σ2 ω) ++ [(o, .inl (cJ, 1, .inr (.inl g)))]) ++ (wOutE n d d2 cI 1 (ω 19 0) (ω 1) (ω 2) (ω 14) (ω 15) ++ (wSta d (n 0) cI σ ++ wSta d2 (n 0) cI τ2))) := hD
  refine lv_istore (lv' := [(6, .int 0), (5, .int 1), (0, .ref bs), (1, .ref (b 0)), (2, .ref (n 0)), (3, .ref o), (4, .int (nI (6 * i)))]) hx hb dL_law_635 hl (by decide) rfl (fun ls hl => ?_)
  refine lv_aload_n hx hb dL_law_637 rfl (lv_at hl 4 rfl) ?_
  refine rd_i (va_runV (As := []) (rest := []) ⟨hx, hb, hml, hown, hts⟩ (M_X6_thrown l D cI n d d2 σ τ2 (put ω 20 (fun _ => 1)) ) (cwV 0 hts gL_law_X6_thrown rfl rfl rfl (by decide +kernel) ⟨Nat.le_of_ble_eq_true rfl, Nat.le_of_ble_eq_true rfl⟩) (rdV0 hK hP.right [0] rfl (ci := 6) (q0 := 0) rfl rfl) rfl rfl hl.1 rfl (lv_room (Nat.le_of_ble_eq_true rfl)) dL_law_638 ⟨(by show cells + _ ≤ room_1.cells; omega), (by show slots + _ ≤ room_1.slots; omega)⟩) ?_
  refine W.eq (g2 := F0 m 641 ls [.int 1]) rfl ?_
  refine lv_iload hx hb dL_law_641 (lv_at hl 1 rfl) ?_
  refine lv_icmp_eq (tgt := 648) hx hb dL_law_643 (by decide) (fun c_1 => ?_) (fun c_1 => ?_)
  · skip
    refine lv_iload hx hb dL_law_648 (lv_at hl 1 rfl) ?_
    refine lv_if_ne (tgt := 665) hx hb dL_law_650 (by decide) (fun c_2 => ?_) (fun c_2 => ?_)
    · skip
      refine lv_goto (tgt := 1220) hx hb dL_law_665 (by decide) ?_
      have hP : va_P D vwCl (wAll b a a2 n d d2 cI cJ o σ σ2 (put ω 20 (fun _ => 1)) τ2 g) H := hP
      have hD : va_D A (wAll b a a2 n d d2 cI cJ o σ σ2 (put ω 20 (fun _ => 1)) τ2 g) := hD
      refine W.widen (k := cells + 23) (n := slots + 200) (by omega) (by omega) ?_
      exact kk σ σ2 (put ω 20 (fun _ => 1)) τ2 g h nc nw (iv_w (fun _ => 1) hI) (by omega) H locs hP hD hS ls (lv_sub hl [2, 3, 4, 5, 6] rfl)
    · skip
      exact absurd c_2 (by decide)
  · skip
    exact absurd rfl c_1
set_option maxHeartbeats 4000000 in
set_option maxRecDepth 100000 in
theorem LW_load_e2 {p : Program} {l : Launch} {e : Env} {s : State} {m : MethodId} {args : Array Value} {below : List Frame} {meth : Method} {c : Code} {A : Nat → Prop} {D : va_G} {cI cJ : ClassId} {bs L : Nat} {xs : Nat → Int32} (C : lwC p l s m args c A D cI cJ bs L xs) (b a a2 n d d2 : Nat → Nat) (o i h nc nw : Nat) (σ σ2 ω τ2 : St) (g : Nat → Int64) (cu : Nat) (p1 : Int32) (hI : lwI σ ω h nc nw) (hi : 6 * i + 6 ≤ L) (hbd : h + 1000 < 2 ^ 29) (hp1 : xs (6 * i + 1) = nI cu) (hp2 : xs (6 * i + 2) = p1) (hcu : cu < 8) (h1 : (0 ≤ nI cu ∧ nI cu ≤ σ 17 0 - 1)) (h2 : p1 = 0 ∨ ¬ ((-20) ≤ p1 ∧ p1 ≤ 20)) {H : Heap} {locs : List Loc} {cells slots : Nat} {Q : State → Prop} (hRc : cells + 100 ≤ room_1.cells) (hRs : slots + 1000 ≤ room_1.slots) (hP : va_P D vwCl (wAll b a a2 n d d2 cI cJ o σ σ2 ω τ2 g) H) (hD : va_D A (wAll b a a2 n d d2 cI cJ o σ σ2 ω τ2 g)) (hS : va_S A s.heap H locs) (ls : Array Slot) (hl : lv_has ls 9 [(0, .ref bs), (1, .ref (b 0)), (2, .ref (n 0)), (3, .ref o), (4, .int (nI (6 * i)))]) (kk : lwK p l e s m args below meth c A D cI cJ b a a2 n d d2 o bs i h cells slots Q) : W p l e room_1 s m args below meth c H locs cells slots Q (F0 m 600 ls []) := by
  obtain ⟨hx, hb, hml, hown, hts, hK, hEX, hX, hbl, hbA, hst, hA, hL⟩ := id C
  obtain ⟨hok, hnw, hw12⟩ := id hI
  have hnc := hok.1.2.1
  have hn8 := hok.1.2.2.1
  refine lv_aload_n hx hb dL_law_600 rfl (lv_at hl 1 rfl) ?_
  refine lv_aload_n hx hb dL_law_601 rfl (lv_at hl 0 rfl) ?_
  refine lv_iload hx hb dL_law_602 (lv_at hl 4 rfl) ?_
  refine lv_iconst (v := 1) hx hb dL_law_604 (by decide) ?_
  refine lv_iadd hx hb dL_law_605 ?_
  rw [show nI (6 * i) + 1 = nI (6 * i + 1) from nI_add (6 * i) 1]
  refine va_sld hx hb hX hbl hbA hS (vp_in_nI (show 6 * i + 1 < L by omega) (by omega)) dL_law_606 ?_
  rw [nI_clamp (n := 6 * i + 1) (by omega), hp1]
  refine lv_aload_n hx hb dL_law_607 rfl (lv_at hl 0 rfl) ?_
  refine lv_iload hx hb dL_law_608 (lv_at hl 4 rfl) ?_
  refine lv_iconst (v := 2) hx hb dL_law_610 (by decide) ?_
  refine lv_iadd hx hb dL_law_611 ?_
  rw [show nI (6 * i) + 2 = nI (6 * i + 2) from nI_add (6 * i) 2]
  refine va_sld hx hb hX hbl hbA hS (vp_in_nI (show 6 * i + 2 < L by omega) (by omega)) dL_law_612 ?_
  rw [nI_clamp (n := 6 * i + 2) (by omega), hp2]
  refine lv_aload_n hx hb dL_law_613 rfl (lv_at hl 3 rfl) ?_
  refine sl_i (vx_runSW (As := [.ref (b 0), .int (nI cu), .int p1, .ref o]) (rest := []) ⟨hx, hb, hml, hown, hts⟩ (M_L_load_e2 l D cI b a a2 σ σ2 ω (nI cu) p1 o g cJ _ A hst h1 h2) (vx_cwSW 4 hts gL_law_L_load rfl rfl rfl (by decide +kernel) ⟨Nat.le_of_ble_eq_true rfl, Nat.le_of_ble_eq_true rfl⟩) (hxS0 hK hP.left hD.left hS hEX [0, 1] rfl) rfl rfl hl.1 rfl (lv_room (Nat.le_of_ble_eq_true rfl)) dL_law_614 ⟨(by show cells + _ ≤ room_1.cells; omega), (by show slots + _ ≤ room_1.slots; omega)⟩) hP hD hS hA (fun H locs hP hD hS => ?_)
  have hP : va_P D vwCl (((wLan b a a2 cI σ σ2 ω) ++ [(o, .inl (cJ, 1, .inr (.inl g)))]) ++ (wMod n d d2 cI σ τ2 ω)) H := hP
  have hD : va_D A (((wLan b a a2 cI σ σ2 ω) ++ [(o, .inl (cJ, 1, .inr (.inl g)))]) ++ (wMod n d d2 cI σ τ2 ω)) := hD
  refine lv_istore (lv' := [(5, .int 2), (0, .ref bs), (1, .ref (b 0)), (2, .ref (n 0)), (3, .ref o), (4, .int (nI (6 * i)))]) hx hb dL_law_617 hl (by decide) rfl (fun ls hl => ?_)
  refine lv_aload_n hx hb dL_law_619 rfl (lv_at hl 3 rfl) ?_
  refine lv_aload_n hx hb dL_law_620 rfl (lv_at hl 1 rfl) ?_
  refine lv_iload hx hb dL_law_621 (lv_at hl 5 rfl) ?_
  refine lv_iconst (v := 1) hx hb dL_law_623 (by decide) ?_
  refine lv_iadd hx hb dL_law_624 ?_
  rw [show nI (6 * i) + 1 = nI (6 * i + 1) from nI_add (6 * i) 1]
  refine va_sld hx hb hX hbl hbA hS (vp_in_nI (show 6 * i + 1 < L by omega) (by omega)) dL_law_625 ?_
  rw [nI_clamp (n := 6 * i + 1) (by omega), hp1]
  refine lv_aload_n hx hb dL_law_626 rfl (lv_at hl 1 rfl) ?_
  refine lv_iload hx hb dL_law_627 (lv_at hl 5 rfl) ?_
  refine lv_iconst (v := 2) hx hb dL_law_629 (by decide) ?_
  refine lv_iadd hx hb dL_law_630 ?_
  rw [show nI (6 * i) + 2 = nI (6 * i + 2) from nI_add (6 * i) 2]
  refine va_sld hx hb hX hbl hbA hS (vp_in_nI (show 6 * i + 2 < L by omega) (by omega)) dL_law_631 ?_
  rw [nI_clamp (n := 6 * i + 2) (by omega), hp2]
  refine sr_i (va_runV (As := [.int (nI cu), .int p1]) (rest := []) ⟨hx, hb, hml, hown, hts⟩ (M_X6_load_e2 l D cI n d d2 σ τ2 ω cu p1 _ hcu h1 h2) (cwV 2 hts gL_law_X6_load rfl rfl rfl (by decide +kernel) ⟨Nat.le_of_ble_eq_true rfl, Nat.le_of_ble_eq_true rfl⟩) (wrV0 hK hP.right hD.right [0] rfl (ci := 6) (q0 := 0) rfl rfl) rfl rfl hl.1 rfl (lv_room (Nat.le_of_ble_eq_true rfl)) dL_law_632 ⟨(by show cells + _ ≤ room_1.cells; omega), (by show slots + _ ≤ room_1.slots; omega)⟩) hP hD hS hA (fun H locs hP hD hS => ?_)
  have hP : va_P D vwCl (((wLan b a a2 cI σ σ2 ω) ++ [(o, .inl (cJ, 1, .inr (.inl g)))]) ++ (wOutE n d d2 cI 2 (ω 19 0) (ω 1) (ω 2) (ω 14) (ω 15) ++ (wSta d (n 0) cI σ ++ wSta d2 (n 0) cI τ2))) H := hP
  have hD : va_D A (((wLan b a a2 cI σ σ2 ω) ++ [(o, .inl (cJ, 1, .inr (.inl g)))]) ++ (wOutE n d d2 cI 2 (ω 19 0) (ω 1) (ω 2) (ω 14) (ω 15) ++ (wSta d (n 0) cI σ ++ wSta d2 (n 0) cI τ2))) := hD
  refine lv_istore (lv' := [(6, .int 0), (5, .int 2), (0, .ref bs), (1, .ref (b 0)), (2, .ref (n 0)), (3, .ref o), (4, .int (nI (6 * i)))]) hx hb dL_law_635 hl (by decide) rfl (fun ls hl => ?_)
  refine lv_aload_n hx hb dL_law_637 rfl (lv_at hl 4 rfl) ?_
  refine rd_i (va_runV (As := []) (rest := []) ⟨hx, hb, hml, hown, hts⟩ (M_X6_thrown l D cI n d d2 σ τ2 (put ω 20 (fun _ => 2)) ) (cwV 0 hts gL_law_X6_thrown rfl rfl rfl (by decide +kernel) ⟨Nat.le_of_ble_eq_true rfl, Nat.le_of_ble_eq_true rfl⟩) (rdV0 hK hP.right [0] rfl (ci := 6) (q0 := 0) rfl rfl) rfl rfl hl.1 rfl (lv_room (Nat.le_of_ble_eq_true rfl)) dL_law_638 ⟨(by show cells + _ ≤ room_1.cells; omega), (by show slots + _ ≤ room_1.slots; omega)⟩) ?_
  refine W.eq (g2 := F0 m 641 ls [.int 2]) rfl ?_
  refine lv_iload hx hb dL_law_641 (lv_at hl 1 rfl) ?_
  refine lv_icmp_eq (tgt := 648) hx hb dL_law_643 (by decide) (fun c_1 => ?_) (fun c_1 => ?_)
  · skip
    refine lv_iload hx hb dL_law_648 (lv_at hl 1 rfl) ?_
    refine lv_if_ne (tgt := 665) hx hb dL_law_650 (by decide) (fun c_2 => ?_) (fun c_2 => ?_)
    · skip
      refine lv_goto (tgt := 1220) hx hb dL_law_665 (by decide) ?_
      have hP : va_P D vwCl (wAll b a a2 n d d2 cI cJ o σ σ2 (put ω 20 (fun _ => 2)) τ2 g) H := hP
      have hD : va_D A (wAll b a a2 n d d2 cI cJ o σ σ2 (put ω 20 (fun _ => 2)) τ2 g) := hD
      refine W.widen (k := cells + 23) (n := slots + 200) (by omega) (by omega) ?_
      exact kk σ σ2 (put ω 20 (fun _ => 2)) τ2 g h nc nw (iv_w (fun _ => 2) hI) (by omega) H locs hP hD hS ls (lv_sub hl [2, 3, 4, 5, 6] rfl)
    · skip
      exact absurd c_2 (by decide)
  · skip
    exact absurd rfl c_1
set_option maxHeartbeats 4000000 in
set_option maxRecDepth 100000 in
theorem LW_load_e3 {p : Program} {l : Launch} {e : Env} {s : State} {m : MethodId} {args : Array Value} {below : List Frame} {meth : Method} {c : Code} {A : Nat → Prop} {D : va_G} {cI cJ : ClassId} {bs L : Nat} {xs : Nat → Int32} (C : lwC p l s m args c A D cI cJ bs L xs) (b a a2 n d d2 : Nat → Nat) (o i h nc nw : Nat) (σ σ2 ω τ2 : St) (g : Nat → Int64) (cu : Nat) (p1 : Int32) (sn : Nat) (ln : Nat) (hI : lwI σ ω h nc nw) (hi : 6 * i + 6 ≤ L) (hbd : h + 1000 < 2 ^ 29) (hp1 : xs (6 * i + 1) = nI cu) (hp2 : xs (6 * i + 2) = p1) (hcu : cu < 8) (h1 : (0 ≤ nI cu ∧ nI cu ≤ σ 17 0 - 1)) (h2 : ¬ p1 = 0) (h3 : ((-20) ≤ p1 ∧ p1 ≤ 20)) (hs8 : σ 8 cu = nI sn) (hs9 : σ 9 cu = nI ln) (hs : sn < 12) (hl9 : ln < 3) (h4 : σ 11 cu = 3 ∨ ¬ (0 ≤ σ 6 cu + p1 ∧ σ 6 cu + p1 ≤ 20) ∨ ¬ σ 5 cu + (σ 6 cu + p1) ≤ sound (σ 3) (σ 4) (σ 8 cu) (σ 9 cu)) {H : Heap} {locs : List Loc} {cells slots : Nat} {Q : State → Prop} (hRc : cells + 100 ≤ room_1.cells) (hRs : slots + 1000 ≤ room_1.slots) (hP : va_P D vwCl (wAll b a a2 n d d2 cI cJ o σ σ2 ω τ2 g) H) (hD : va_D A (wAll b a a2 n d d2 cI cJ o σ σ2 ω τ2 g)) (hS : va_S A s.heap H locs) (ls : Array Slot) (hl : lv_has ls 9 [(0, .ref bs), (1, .ref (b 0)), (2, .ref (n 0)), (3, .ref o), (4, .int (nI (6 * i)))]) (kk : lwK p l e s m args below meth c A D cI cJ b a a2 n d d2 o bs i h cells slots Q) : W p l e room_1 s m args below meth c H locs cells slots Q (F0 m 600 ls []) := by
  obtain ⟨hx, hb, hml, hown, hts, hK, hEX, hX, hbl, hbA, hst, hA, hL⟩ := id C
  obtain ⟨hok, hnw, hw12⟩ := id hI
  have hnc := hok.1.2.1
  have hn8 := hok.1.2.2.1
  refine lv_aload_n hx hb dL_law_600 rfl (lv_at hl 1 rfl) ?_
  refine lv_aload_n hx hb dL_law_601 rfl (lv_at hl 0 rfl) ?_
  refine lv_iload hx hb dL_law_602 (lv_at hl 4 rfl) ?_
  refine lv_iconst (v := 1) hx hb dL_law_604 (by decide) ?_
  refine lv_iadd hx hb dL_law_605 ?_
  rw [show nI (6 * i) + 1 = nI (6 * i + 1) from nI_add (6 * i) 1]
  refine va_sld hx hb hX hbl hbA hS (vp_in_nI (show 6 * i + 1 < L by omega) (by omega)) dL_law_606 ?_
  rw [nI_clamp (n := 6 * i + 1) (by omega), hp1]
  refine lv_aload_n hx hb dL_law_607 rfl (lv_at hl 0 rfl) ?_
  refine lv_iload hx hb dL_law_608 (lv_at hl 4 rfl) ?_
  refine lv_iconst (v := 2) hx hb dL_law_610 (by decide) ?_
  refine lv_iadd hx hb dL_law_611 ?_
  rw [show nI (6 * i) + 2 = nI (6 * i + 2) from nI_add (6 * i) 2]
  refine va_sld hx hb hX hbl hbA hS (vp_in_nI (show 6 * i + 2 < L by omega) (by omega)) dL_law_612 ?_
  rw [nI_clamp (n := 6 * i + 2) (by omega), hp2]
  refine lv_aload_n hx hb dL_law_613 rfl (lv_at hl 3 rfl) ?_
  refine sl_i (vx_runSW (As := [.ref (b 0), .int (nI cu), .int p1, .ref o]) (rest := []) ⟨hx, hb, hml, hown, hts⟩ (M_L_load_e3 l D cI b a a2 σ σ2 ω cu p1 o g cJ _ A hst hcu h1 h2 h3 (by rw [hs8]; exact nI_le11 hs) (by rw [hs9]; exact nI_le2 hl9) h4) (vx_cwSW 4 hts gL_law_L_load rfl rfl rfl (by decide +kernel) ⟨Nat.le_of_ble_eq_true rfl, Nat.le_of_ble_eq_true rfl⟩) (hxS0 hK hP.left hD.left hS hEX [0, 1] rfl) rfl rfl hl.1 rfl (lv_room (Nat.le_of_ble_eq_true rfl)) dL_law_614 ⟨(by show cells + _ ≤ room_1.cells; omega), (by show slots + _ ≤ room_1.slots; omega)⟩) hP hD hS hA (fun H locs hP hD hS => ?_)
  have hP : va_P D vwCl (((wLan b a a2 cI σ σ2 ω) ++ [(o, .inl (cJ, 1, .inr (.inl g)))]) ++ (wMod n d d2 cI σ τ2 ω)) H := hP
  have hD : va_D A (((wLan b a a2 cI σ σ2 ω) ++ [(o, .inl (cJ, 1, .inr (.inl g)))]) ++ (wMod n d d2 cI σ τ2 ω)) := hD
  refine lv_istore (lv' := [(5, .int 3), (0, .ref bs), (1, .ref (b 0)), (2, .ref (n 0)), (3, .ref o), (4, .int (nI (6 * i)))]) hx hb dL_law_617 hl (by decide) rfl (fun ls hl => ?_)
  refine lv_aload_n hx hb dL_law_619 rfl (lv_at hl 3 rfl) ?_
  refine lv_aload_n hx hb dL_law_620 rfl (lv_at hl 1 rfl) ?_
  refine lv_iload hx hb dL_law_621 (lv_at hl 5 rfl) ?_
  refine lv_iconst (v := 1) hx hb dL_law_623 (by decide) ?_
  refine lv_iadd hx hb dL_law_624 ?_
  rw [show nI (6 * i) + 1 = nI (6 * i + 1) from nI_add (6 * i) 1]
  refine va_sld hx hb hX hbl hbA hS (vp_in_nI (show 6 * i + 1 < L by omega) (by omega)) dL_law_625 ?_
  rw [nI_clamp (n := 6 * i + 1) (by omega), hp1]
  refine lv_aload_n hx hb dL_law_626 rfl (lv_at hl 1 rfl) ?_
  refine lv_iload hx hb dL_law_627 (lv_at hl 5 rfl) ?_
  refine lv_iconst (v := 2) hx hb dL_law_629 (by decide) ?_
  refine lv_iadd hx hb dL_law_630 ?_
  rw [show nI (6 * i) + 2 = nI (6 * i + 2) from nI_add (6 * i) 2]
  refine va_sld hx hb hX hbl hbA hS (vp_in_nI (show 6 * i + 2 < L by omega) (by omega)) dL_law_631 ?_
  rw [nI_clamp (n := 6 * i + 2) (by omega), hp2]
  refine sr_i (va_runV (As := [.int (nI cu), .int p1]) (rest := []) ⟨hx, hb, hml, hown, hts⟩ (M_X6_load_e3 l D cI n d d2 σ τ2 ω cu p1 sn ln _ hcu h1 h2 h3 hs8 hs9 hs hl9 (by rw [← sound_nI, ← hs8, ← hs9]; exact h4)) (cwV 2 hts gL_law_X6_load rfl rfl rfl (by decide +kernel) ⟨Nat.le_of_ble_eq_true rfl, Nat.le_of_ble_eq_true rfl⟩) (wrV0 hK hP.right hD.right [0] rfl (ci := 6) (q0 := 0) rfl rfl) rfl rfl hl.1 rfl (lv_room (Nat.le_of_ble_eq_true rfl)) dL_law_632 ⟨(by show cells + _ ≤ room_1.cells; omega), (by show slots + _ ≤ room_1.slots; omega)⟩) hP hD hS hA (fun H locs hP hD hS => ?_)
  have hP : va_P D vwCl (((wLan b a a2 cI σ σ2 ω) ++ [(o, .inl (cJ, 1, .inr (.inl g)))]) ++ (wOutE n d d2 cI 3 (ω 19 0) (ω 1) (ω 2) (ω 14) (ω 15) ++ (wSta d (n 0) cI σ ++ wSta d2 (n 0) cI τ2))) H := hP
  have hD : va_D A (((wLan b a a2 cI σ σ2 ω) ++ [(o, .inl (cJ, 1, .inr (.inl g)))]) ++ (wOutE n d d2 cI 3 (ω 19 0) (ω 1) (ω 2) (ω 14) (ω 15) ++ (wSta d (n 0) cI σ ++ wSta d2 (n 0) cI τ2))) := hD
  refine lv_istore (lv' := [(6, .int 0), (5, .int 3), (0, .ref bs), (1, .ref (b 0)), (2, .ref (n 0)), (3, .ref o), (4, .int (nI (6 * i)))]) hx hb dL_law_635 hl (by decide) rfl (fun ls hl => ?_)
  refine lv_aload_n hx hb dL_law_637 rfl (lv_at hl 4 rfl) ?_
  refine rd_i (va_runV (As := []) (rest := []) ⟨hx, hb, hml, hown, hts⟩ (M_X6_thrown l D cI n d d2 σ τ2 (put ω 20 (fun _ => 3)) ) (cwV 0 hts gL_law_X6_thrown rfl rfl rfl (by decide +kernel) ⟨Nat.le_of_ble_eq_true rfl, Nat.le_of_ble_eq_true rfl⟩) (rdV0 hK hP.right [0] rfl (ci := 6) (q0 := 0) rfl rfl) rfl rfl hl.1 rfl (lv_room (Nat.le_of_ble_eq_true rfl)) dL_law_638 ⟨(by show cells + _ ≤ room_1.cells; omega), (by show slots + _ ≤ room_1.slots; omega)⟩) ?_
  refine W.eq (g2 := F0 m 641 ls [.int 3]) rfl ?_
  refine lv_iload hx hb dL_law_641 (lv_at hl 1 rfl) ?_
  refine lv_icmp_eq (tgt := 648) hx hb dL_law_643 (by decide) (fun c_1 => ?_) (fun c_1 => ?_)
  · skip
    refine lv_iload hx hb dL_law_648 (lv_at hl 1 rfl) ?_
    refine lv_if_ne (tgt := 665) hx hb dL_law_650 (by decide) (fun c_2 => ?_) (fun c_2 => ?_)
    · skip
      refine lv_goto (tgt := 1220) hx hb dL_law_665 (by decide) ?_
      have hP : va_P D vwCl (wAll b a a2 n d d2 cI cJ o σ σ2 (put ω 20 (fun _ => 3)) τ2 g) H := hP
      have hD : va_D A (wAll b a a2 n d d2 cI cJ o σ σ2 (put ω 20 (fun _ => 3)) τ2 g) := hD
      refine W.widen (k := cells + 23) (n := slots + 200) (by omega) (by omega) ?_
      exact kk σ σ2 (put ω 20 (fun _ => 3)) τ2 g h nc nw (iv_w (fun _ => 3) hI) (by omega) H locs hP hD hS ls (lv_sub hl [2, 3, 4, 5, 6] rfl)
    · skip
      exact absurd c_2 (by decide)
  · skip
    exact absurd rfl c_1
set_option maxHeartbeats 4000000 in
set_option maxRecDepth 100000 in
theorem LW_load_ok {p : Program} {l : Launch} {e : Env} {s : State} {m : MethodId} {args : Array Value} {below : List Frame} {meth : Method} {c : Code} {A : Nat → Prop} {D : va_G} {cI cJ : ClassId} {bs L : Nat} {xs : Nat → Int32} (C : lwC p l s m args c A D cI cJ bs L xs) (b a a2 n d d2 : Nat → Nat) (o i h nc nw : Nat) (σ σ2 ω τ2 : St) (g : Nat → Int64) (cu : Nat) (p1 : Int32) (sn : Nat) (ln : Nat) (hI : lwI σ ω h nc nw) (hi : 6 * i + 6 ≤ L) (hbd : h + 1000 < 2 ^ 29) (hp1 : xs (6 * i + 1) = nI cu) (hp2 : xs (6 * i + 2) = p1) (hcu : cu < 8) (h1 : (0 ≤ nI cu ∧ nI cu ≤ σ 17 0 - 1)) (h2 : ¬ p1 = 0) (h3 : ((-20) ≤ p1 ∧ p1 ≤ 20)) (hs8 : σ 8 cu = nI sn) (hs9 : σ 9 cu = nI ln) (hs : sn < 12) (hl9 : ln < 3) (h4 : ¬ σ 11 cu = 3) (h5 : (0 ≤ σ 6 cu + p1 ∧ σ 6 cu + p1 ≤ 20)) (h8 : σ 5 cu + (σ 6 cu + p1) ≤ sound (σ 3) (σ 4) (σ 8 cu) (σ 9 cu)) {H : Heap} {locs : List Loc} {cells slots : Nat} {Q : State → Prop} (hRc : cells + 100 ≤ room_1.cells) (hRs : slots + 1000 ≤ room_1.slots) (hP : va_P D vwCl (wAll b a a2 n d d2 cI cJ o σ σ2 ω τ2 g) H) (hD : va_D A (wAll b a a2 n d d2 cI cJ o σ σ2 ω τ2 g)) (hS : va_S A s.heap H locs) (ls : Array Slot) (hl : lv_has ls 9 [(0, .ref bs), (1, .ref (b 0)), (2, .ref (n 0)), (3, .ref o), (4, .int (nI (6 * i)))]) (kk : lwK p l e s m args below meth c A D cI cJ b a a2 n d d2 o bs i h cells slots Q) : W p l e room_1 s m args below meth c H locs cells slots Q (F0 m 600 ls []) := by
  obtain ⟨hx, hb, hml, hown, hts, hK, hEX, hX, hbl, hbA, hst, hA, hL⟩ := id C
  obtain ⟨hok, hnw, hw12⟩ := id hI
  have hnc := hok.1.2.1
  have hn8 := hok.1.2.2.1
  refine lv_aload_n hx hb dL_law_600 rfl (lv_at hl 1 rfl) ?_
  refine lv_aload_n hx hb dL_law_601 rfl (lv_at hl 0 rfl) ?_
  refine lv_iload hx hb dL_law_602 (lv_at hl 4 rfl) ?_
  refine lv_iconst (v := 1) hx hb dL_law_604 (by decide) ?_
  refine lv_iadd hx hb dL_law_605 ?_
  rw [show nI (6 * i) + 1 = nI (6 * i + 1) from nI_add (6 * i) 1]
  refine va_sld hx hb hX hbl hbA hS (vp_in_nI (show 6 * i + 1 < L by omega) (by omega)) dL_law_606 ?_
  rw [nI_clamp (n := 6 * i + 1) (by omega), hp1]
  refine lv_aload_n hx hb dL_law_607 rfl (lv_at hl 0 rfl) ?_
  refine lv_iload hx hb dL_law_608 (lv_at hl 4 rfl) ?_
  refine lv_iconst (v := 2) hx hb dL_law_610 (by decide) ?_
  refine lv_iadd hx hb dL_law_611 ?_
  rw [show nI (6 * i) + 2 = nI (6 * i + 2) from nI_add (6 * i) 2]
  refine va_sld hx hb hX hbl hbA hS (vp_in_nI (show 6 * i + 2 < L by omega) (by omega)) dL_law_612 ?_
  rw [nI_clamp (n := 6 * i + 2) (by omega), hp2]
  refine lv_aload_n hx hb dL_law_613 rfl (lv_at hl 3 rfl) ?_
  refine sl_i (vx_runSW (As := [.ref (b 0), .int (nI cu), .int p1, .ref o]) (rest := []) ⟨hx, hb, hml, hown, hts⟩ (M_L_load_ok l D cI b a a2 σ σ2 ω cu p1 o g cJ _ hcu h1 h2 h3 h4 h5 (by rw [hs8]; exact nI_le11 hs) (by rw [hs9]; exact nI_le2 hl9) h8) (vx_cwSW 4 hts gL_law_L_load rfl rfl rfl (by decide +kernel) ⟨Nat.le_of_ble_eq_true rfl, Nat.le_of_ble_eq_true rfl⟩) (wrS0 hK hP.left hD.left [0, 1] rfl) rfl rfl hl.1 rfl (lv_room (Nat.le_of_ble_eq_true rfl)) dL_law_614 ⟨(by show cells + _ ≤ room_1.cells; omega), (by show slots + _ ≤ room_1.slots; omega)⟩) hP hD hS hA (fun H locs hP hD hS => ?_)
  have hP : va_P D vwCl (((wTopE b a a2 ++ (wWag b cI ω ++ (wRivE a cI (σ 0 0) (σ 16 0) (σ 1) (σ 2) (σ 3) (σ 4) (σ 17 0) (σ 5) (upd ((σ 6)) cu ((σ 6) cu + p1)) (σ 7) (σ 8) (σ 9) (σ 10) (σ 11) (σ 12) (σ 13) ++ wRiv a2 cI σ2))) ++ [(o, .inl (cJ, 1, .inr (.inl (vp_updL g 0 ((σ 6) cu + p1).toInt64))))]) ++ (wMod n d d2 cI σ τ2 ω)) H := hP
  have hD : va_D A (((wTopE b a a2 ++ (wWag b cI ω ++ (wRivE a cI (σ 0 0) (σ 16 0) (σ 1) (σ 2) (σ 3) (σ 4) (σ 17 0) (σ 5) (upd ((σ 6)) cu ((σ 6) cu + p1)) (σ 7) (σ 8) (σ 9) (σ 10) (σ 11) (σ 12) (σ 13) ++ wRiv a2 cI σ2))) ++ [(o, .inl (cJ, 1, .inr (.inl (vp_updL g 0 ((σ 6) cu + p1).toInt64))))]) ++ (wMod n d d2 cI σ τ2 ω)) := hD
  refine lv_istore (lv' := [(5, .int 0), (0, .ref bs), (1, .ref (b 0)), (2, .ref (n 0)), (3, .ref o), (4, .int (nI (6 * i)))]) hx hb dL_law_617 hl (by decide) rfl (fun ls hl => ?_)
  refine lv_aload_n hx hb dL_law_619 rfl (lv_at hl 3 rfl) ?_
  refine lv_aload_n hx hb dL_law_620 rfl (lv_at hl 1 rfl) ?_
  refine lv_iload hx hb dL_law_621 (lv_at hl 5 rfl) ?_
  refine lv_iconst (v := 1) hx hb dL_law_623 (by decide) ?_
  refine lv_iadd hx hb dL_law_624 ?_
  rw [show nI (6 * i) + 1 = nI (6 * i + 1) from nI_add (6 * i) 1]
  refine va_sld hx hb hX hbl hbA hS (vp_in_nI (show 6 * i + 1 < L by omega) (by omega)) dL_law_625 ?_
  rw [nI_clamp (n := 6 * i + 1) (by omega), hp1]
  refine lv_aload_n hx hb dL_law_626 rfl (lv_at hl 1 rfl) ?_
  refine lv_iload hx hb dL_law_627 (lv_at hl 5 rfl) ?_
  refine lv_iconst (v := 2) hx hb dL_law_629 (by decide) ?_
  refine lv_iadd hx hb dL_law_630 ?_
  rw [show nI (6 * i) + 2 = nI (6 * i + 2) from nI_add (6 * i) 2]
  refine va_sld hx hb hX hbl hbA hS (vp_in_nI (show 6 * i + 2 < L by omega) (by omega)) dL_law_631 ?_
  rw [nI_clamp (n := 6 * i + 2) (by omega), hp2]
  refine sr_i (va_runV (As := [.int (nI cu), .int p1]) (rest := []) ⟨hx, hb, hml, hown, hts⟩ (M_X6_load_ok l D cI n d d2 σ τ2 ω cu p1 sn ln _ hcu h1 h2 h3 hs8 hs9 hs hl9 h4 h5 (by rw [← sound_nI, ← hs8, ← hs9]; exact h8)) (cwV 2 hts gL_law_X6_load rfl rfl rfl (by decide +kernel) ⟨Nat.le_of_ble_eq_true rfl, Nat.le_of_ble_eq_true rfl⟩) (wrV0 hK hP.right hD.right [0] rfl (ci := 6) (q0 := 0) rfl rfl) rfl rfl hl.1 rfl (lv_room (Nat.le_of_ble_eq_true rfl)) dL_law_632 ⟨(by show cells + _ ≤ room_1.cells; omega), (by show slots + _ ≤ room_1.slots; omega)⟩) hP hD hS hA (fun H locs hP hD hS => ?_)
  have hP : va_P D vwCl (((wTopE b a a2 ++ (wWag b cI ω ++ (wRivE a cI (σ 0 0) (σ 16 0) (σ 1) (σ 2) (σ 3) (σ 4) (σ 17 0) (σ 5) (upd ((σ 6)) cu ((σ 6) cu + p1)) (σ 7) (σ 8) (σ 9) (σ 10) (σ 11) (σ 12) (σ 13) ++ wRiv a2 cI σ2))) ++ [(o, .inl (cJ, 1, .inr (.inl (vp_updL g 0 ((σ 6) cu + p1).toInt64))))]) ++ (wOutE n d d2 cI 0 (ω 19 0) (ω 1) (ω 2) (ω 14) (ω 15) ++ (wStaE d (n 0) cI (σ 0 0) (σ 17 0) (σ 16 0) (σ 18 0) (σ 3) (σ 4) (σ 5) (upd ((σ 6)) cu ((σ 6) cu + p1)) (σ 7) (σ 8) (σ 9) (σ 10) (σ 11) (σ 12) (σ 13) ++ wSta d2 (n 0) cI τ2))) H := hP
  have hD : va_D A (((wTopE b a a2 ++ (wWag b cI ω ++ (wRivE a cI (σ 0 0) (σ 16 0) (σ 1) (σ 2) (σ 3) (σ 4) (σ 17 0) (σ 5) (upd ((σ 6)) cu ((σ 6) cu + p1)) (σ 7) (σ 8) (σ 9) (σ 10) (σ 11) (σ 12) (σ 13) ++ wRiv a2 cI σ2))) ++ [(o, .inl (cJ, 1, .inr (.inl (vp_updL g 0 ((σ 6) cu + p1).toInt64))))]) ++ (wOutE n d d2 cI 0 (ω 19 0) (ω 1) (ω 2) (ω 14) (ω 15) ++ (wStaE d (n 0) cI (σ 0 0) (σ 17 0) (σ 16 0) (σ 18 0) (σ 3) (σ 4) (σ 5) (upd ((σ 6)) cu ((σ 6) cu + p1)) (σ 7) (σ 8) (σ 9) (σ 10) (σ 11) (σ 12) (σ 13) ++ wSta d2 (n 0) cI τ2))) := hD
  refine lv_istore (lv' := [(6, .int ((σ 6) cu + p1)), (5, .int 0), (0, .ref bs), (1, .ref (b 0)), (2, .ref (n 0)), (3, .ref o), (4, .int (nI (6 * i)))]) hx hb dL_law_635 hl (by decide) rfl (fun ls hl => ?_)
  refine lv_aload_n hx hb dL_law_637 rfl (lv_at hl 4 rfl) ?_
  refine rd_i (va_runV (As := []) (rest := []) ⟨hx, hb, hml, hown, hts⟩ (M_X6_thrown l D cI n d d2 (put σ 6 (upd ((σ 6)) cu ((σ 6) cu + p1))) τ2 (put ω 20 (fun _ => 0)) ) (cwV 0 hts gL_law_X6_thrown rfl rfl rfl (by decide +kernel) ⟨Nat.le_of_ble_eq_true rfl, Nat.le_of_ble_eq_true rfl⟩) (rdV0 hK hP.right [0] rfl (ci := 6) (q0 := 0) rfl rfl) rfl rfl hl.1 rfl (lv_room (Nat.le_of_ble_eq_true rfl)) dL_law_638 ⟨(by show cells + _ ≤ room_1.cells; omega), (by show slots + _ ≤ room_1.slots; omega)⟩) ?_
  refine W.eq (g2 := F0 m 641 ls [.int 0]) rfl ?_
  refine lv_iload hx hb dL_law_641 (lv_at hl 1 rfl) ?_
  refine lv_icmp_eq (tgt := 648) hx hb dL_law_643 (by decide) (fun c_1 => ?_) (fun c_1 => ?_)
  · skip
    refine lv_iload hx hb dL_law_648 (lv_at hl 1 rfl) ?_
    refine lv_if_ne (tgt := 665) hx hb dL_law_650 (by decide) (fun c_2 => ?_) (fun c_2 => ?_)
    · skip
      exact absurd c_2 (by decide)
    · skip
      refine lv_aload_n hx hb dL_law_653 rfl (lv_at hl 5 rfl) ?_
      refine lv_iconst (v := 0) hx hb dL_law_654 (by decide) ?_
      refine va_lald hx hb hK.1 hP 36 1 rfl rfl (by unfold vp_in; decide) dL_law_655 ?_
      refine W.eq (g2 := F0 m 656 ls [.long (((σ 6) cu + p1).toInt64)]) rfl ?_
      refine lv_iload hx hb dL_law_656 (lv_at hl 0 rfl) ?_
      refine lv_i2l hx hb dL_law_658 rfl ?_
      refine my_lcmpE hx hb dL_law_659 ?_
      refine lv_if_eq (tgt := 665) hx hb dL_law_660 (by decide) (fun c_3 => ?_) (fun c_3 => ?_)
      · skip
        refine lv_goto (tgt := 1220) hx hb dL_law_665 (by decide) ?_
        have hP : va_P D vwCl (wAll b a a2 n d d2 cI cJ o (put σ 6 (upd ((σ 6)) cu ((σ 6) cu + p1))) σ2 (put ω 20 (fun _ => 0)) τ2 (vp_updL g 0 ((σ 6) cu + p1).toInt64)) H := hP
        have hD : va_D A (wAll b a a2 n d d2 cI cJ o (put σ 6 (upd ((σ 6)) cu ((σ 6) cu + p1))) σ2 (put ω 20 (fun _ => 0)) τ2 (vp_updL g 0 ((σ 6) cu + p1).toInt64)) := hD
        refine W.widen (k := cells + 23) (n := slots + 200) (by omega) (by omega) ?_
        exact kk (put σ 6 (upd ((σ 6)) cu ((σ 6) cu + p1))) σ2 (put ω 20 (fun _ => 0)) τ2 (vp_updL g 0 ((σ 6) cu + p1).toInt64) h nc nw (iv_load (fun _ => 0) hI) (by omega) H locs hP hD hS ls (lv_sub hl [2, 3, 4, 5, 6] rfl)
      · skip
        exact absurd c_3 (by decide)
  · skip
    exact absurd rfl c_1
set_option maxHeartbeats 4000000 in
set_option maxRecDepth 100000 in
theorem LW_courier_e1 {p : Program} {l : Launch} {e : Env} {s : State} {m : MethodId} {args : Array Value} {below : List Frame} {meth : Method} {c : Code} {A : Nat → Prop} {D : va_G} {cI cJ : ClassId} {bs L : Nat} {xs : Nat → Int32} (C : lwC p l s m args c A D cI cJ bs L xs) (b a a2 n d d2 : Nat → Nat) (o i h nc nw : Nat) (σ σ2 ω τ2 : St) (g : Nat → Int64) (p0 : Int32) (p1 : Int32) (hI : lwI σ ω h nc nw) (hi : 6 * i + 6 ≤ L) (hbd : h + 1000 < 2 ^ 29) (hp1 : xs (6 * i + 1) = p0) (hp2 : xs (6 * i + 2) = p1) (h1 : ¬ ((0 ≤ p0 ∧ p0 ≤ σ 17 0 - 1) ∧ (0 ≤ p1 ∧ p1 ≤ 8))) {H : Heap} {locs : List Loc} {cells slots : Nat} {Q : State → Prop} (hRc : cells + 100 ≤ room_1.cells) (hRs : slots + 1000 ≤ room_1.slots) (hP : va_P D vwCl (wAll b a a2 n d d2 cI cJ o σ σ2 ω τ2 g) H) (hD : va_D A (wAll b a a2 n d d2 cI cJ o σ σ2 ω τ2 g)) (hS : va_S A s.heap H locs) (ls : Array Slot) (hl : lv_has ls 9 [(0, .ref bs), (1, .ref (b 0)), (2, .ref (n 0)), (3, .ref o), (4, .int (nI (6 * i)))]) (kk : lwK p l e s m args below meth c A D cI cJ b a a2 n d d2 o bs i h cells slots Q) : W p l e room_1 s m args below meth c H locs cells slots Q (F0 m 668 ls []) := by
  obtain ⟨hx, hb, hml, hown, hts, hK, hEX, hX, hbl, hbA, hst, hA, hL⟩ := id C
  obtain ⟨hok, hnw, hw12⟩ := id hI
  have hnc := hok.1.2.1
  have hn8 := hok.1.2.2.1
  refine lv_aload_n hx hb dL_law_668 rfl (lv_at hl 1 rfl) ?_
  refine lv_aload_n hx hb dL_law_669 rfl (lv_at hl 0 rfl) ?_
  refine lv_iload hx hb dL_law_670 (lv_at hl 4 rfl) ?_
  refine lv_iconst (v := 1) hx hb dL_law_672 (by decide) ?_
  refine lv_iadd hx hb dL_law_673 ?_
  rw [show nI (6 * i) + 1 = nI (6 * i + 1) from nI_add (6 * i) 1]
  refine va_sld hx hb hX hbl hbA hS (vp_in_nI (show 6 * i + 1 < L by omega) (by omega)) dL_law_674 ?_
  rw [nI_clamp (n := 6 * i + 1) (by omega), hp1]
  refine lv_aload_n hx hb dL_law_675 rfl (lv_at hl 0 rfl) ?_
  refine lv_iload hx hb dL_law_676 (lv_at hl 4 rfl) ?_
  refine lv_iconst (v := 2) hx hb dL_law_678 (by decide) ?_
  refine lv_iadd hx hb dL_law_679 ?_
  rw [show nI (6 * i) + 2 = nI (6 * i + 2) from nI_add (6 * i) 2]
  refine va_sld hx hb hX hbl hbA hS (vp_in_nI (show 6 * i + 2 < L by omega) (by omega)) dL_law_680 ?_
  rw [nI_clamp (n := 6 * i + 2) (by omega), hp2]
  refine lv_aload_n hx hb dL_law_681 rfl (lv_at hl 3 rfl) ?_
  refine sl_i (vx_runSW (As := [.ref (b 0), .int p0, .int p1, .ref o]) (rest := []) ⟨hx, hb, hml, hown, hts⟩ (M_L_courier_e1 l D cI b a a2 σ σ2 ω p0 p1 o g cJ _ A hst h1) (vx_cwSW 4 hts gL_law_L_courier rfl rfl rfl (by decide +kernel) ⟨Nat.le_of_ble_eq_true rfl, Nat.le_of_ble_eq_true rfl⟩) (hxS0 hK hP.left hD.left hS hEX [0, 1] rfl) rfl rfl hl.1 rfl (lv_room (Nat.le_of_ble_eq_true rfl)) dL_law_682 ⟨(by show cells + _ ≤ room_1.cells; omega), (by show slots + _ ≤ room_1.slots; omega)⟩) hP hD hS hA (fun H locs hP hD hS => ?_)
  have hP : va_P D vwCl (((wLan b a a2 cI σ σ2 ω) ++ [(o, .inl (cJ, 1, .inr (.inl g)))]) ++ (wMod n d d2 cI σ τ2 ω)) H := hP
  have hD : va_D A (((wLan b a a2 cI σ σ2 ω) ++ [(o, .inl (cJ, 1, .inr (.inl g)))]) ++ (wMod n d d2 cI σ τ2 ω)) := hD
  refine lv_istore (lv' := [(5, .int 1), (0, .ref bs), (1, .ref (b 0)), (2, .ref (n 0)), (3, .ref o), (4, .int (nI (6 * i)))]) hx hb dL_law_685 hl (by decide) rfl (fun ls hl => ?_)
  refine lv_aload_n hx hb dL_law_687 rfl (lv_at hl 3 rfl) ?_
  refine lv_aload_n hx hb dL_law_688 rfl (lv_at hl 1 rfl) ?_
  refine lv_iload hx hb dL_law_689 (lv_at hl 5 rfl) ?_
  refine lv_iconst (v := 1) hx hb dL_law_691 (by decide) ?_
  refine lv_iadd hx hb dL_law_692 ?_
  rw [show nI (6 * i) + 1 = nI (6 * i + 1) from nI_add (6 * i) 1]
  refine va_sld hx hb hX hbl hbA hS (vp_in_nI (show 6 * i + 1 < L by omega) (by omega)) dL_law_693 ?_
  rw [nI_clamp (n := 6 * i + 1) (by omega), hp1]
  refine lv_aload_n hx hb dL_law_694 rfl (lv_at hl 1 rfl) ?_
  refine lv_iload hx hb dL_law_695 (lv_at hl 5 rfl) ?_
  refine lv_iconst (v := 2) hx hb dL_law_697 (by decide) ?_
  refine lv_iadd hx hb dL_law_698 ?_
  rw [show nI (6 * i) + 2 = nI (6 * i + 2) from nI_add (6 * i) 2]
  refine va_sld hx hb hX hbl hbA hS (vp_in_nI (show 6 * i + 2 < L by omega) (by omega)) dL_law_699 ?_
  rw [nI_clamp (n := 6 * i + 2) (by omega), hp2]
  refine sr_i (va_runV (As := [.int p0, .int p1]) (rest := []) ⟨hx, hb, hml, hown, hts⟩ (M_X6_courier_e1 l D cI n d d2 σ τ2 ω p0 p1 _ h1) (cwV 2 hts gL_law_X6_courier rfl rfl rfl (by decide +kernel) ⟨Nat.le_of_ble_eq_true rfl, Nat.le_of_ble_eq_true rfl⟩) (wrV0 hK hP.right hD.right [0] rfl (ci := 6) (q0 := 0) rfl rfl) rfl rfl hl.1 rfl (lv_room (Nat.le_of_ble_eq_true rfl)) dL_law_700 ⟨(by show cells + _ ≤ room_1.cells; omega), (by show slots + _ ≤ room_1.slots; omega)⟩) hP hD hS hA (fun H locs hP hD hS => ?_)
  have hP : va_P D vwCl (((wLan b a a2 cI σ σ2 ω) ++ [(o, .inl (cJ, 1, .inr (.inl g)))]) ++ (wOutE n d d2 cI 1 (ω 19 0) (ω 1) (ω 2) (ω 14) (ω 15) ++ (wSta d (n 0) cI σ ++ wSta d2 (n 0) cI τ2))) H := hP
  have hD : va_D A (((wLan b a a2 cI σ σ2 ω) ++ [(o, .inl (cJ, 1, .inr (.inl g)))]) ++ (wOutE n d d2 cI 1 (ω 19 0) (ω 1) (ω 2) (ω 14) (ω 15) ++ (wSta d (n 0) cI σ ++ wSta d2 (n 0) cI τ2))) := hD
  refine lv_istore (lv' := [(6, .int 0), (5, .int 1), (0, .ref bs), (1, .ref (b 0)), (2, .ref (n 0)), (3, .ref o), (4, .int (nI (6 * i)))]) hx hb dL_law_703 hl (by decide) rfl (fun ls hl => ?_)
  refine lv_aload_n hx hb dL_law_705 rfl (lv_at hl 4 rfl) ?_
  refine rd_i (va_runV (As := []) (rest := []) ⟨hx, hb, hml, hown, hts⟩ (M_X6_thrown l D cI n d d2 σ τ2 (put ω 20 (fun _ => 1)) ) (cwV 0 hts gL_law_X6_thrown rfl rfl rfl (by decide +kernel) ⟨Nat.le_of_ble_eq_true rfl, Nat.le_of_ble_eq_true rfl⟩) (rdV0 hK hP.right [0] rfl (ci := 6) (q0 := 0) rfl rfl) rfl rfl hl.1 rfl (lv_room (Nat.le_of_ble_eq_true rfl)) dL_law_706 ⟨(by show cells + _ ≤ room_1.cells; omega), (by show slots + _ ≤ room_1.slots; omega)⟩) ?_
  refine W.eq (g2 := F0 m 709 ls [.int 1]) rfl ?_
  refine lv_iload hx hb dL_law_709 (lv_at hl 1 rfl) ?_
  refine lv_icmp_eq (tgt := 716) hx hb dL_law_711 (by decide) (fun c_1 => ?_) (fun c_1 => ?_)
  · skip
    refine lv_iload hx hb dL_law_716 (lv_at hl 1 rfl) ?_
    refine lv_if_ne (tgt := 733) hx hb dL_law_718 (by decide) (fun c_2 => ?_) (fun c_2 => ?_)
    · skip
      refine lv_goto (tgt := 1220) hx hb dL_law_733 (by decide) ?_
      have hP : va_P D vwCl (wAll b a a2 n d d2 cI cJ o σ σ2 (put ω 20 (fun _ => 1)) τ2 g) H := hP
      have hD : va_D A (wAll b a a2 n d d2 cI cJ o σ σ2 (put ω 20 (fun _ => 1)) τ2 g) := hD
      refine W.widen (k := cells + 23) (n := slots + 200) (by omega) (by omega) ?_
      exact kk σ σ2 (put ω 20 (fun _ => 1)) τ2 g h nc nw (iv_w (fun _ => 1) hI) (by omega) H locs hP hD hS ls (lv_sub hl [2, 3, 4, 5, 6] rfl)
    · skip
      exact absurd c_2 (by decide)
  · skip
    exact absurd rfl c_1
set_option maxHeartbeats 4000000 in
set_option maxRecDepth 100000 in
theorem LW_courier_ok {p : Program} {l : Launch} {e : Env} {s : State} {m : MethodId} {args : Array Value} {below : List Frame} {meth : Method} {c : Code} {A : Nat → Prop} {D : va_G} {cI cJ : ClassId} {bs L : Nat} {xs : Nat → Int32} (C : lwC p l s m args c A D cI cJ bs L xs) (b a a2 n d d2 : Nat → Nat) (o i h nc nw : Nat) (σ σ2 ω τ2 : St) (g : Nat → Int64) (cu : Nat) (w : Nat) (hI : lwI σ ω h nc nw) (hi : 6 * i + 6 ≤ L) (hbd : h + 1000 < 2 ^ 29) (hp1 : xs (6 * i + 1) = nI cu) (hp2 : xs (6 * i + 2) = nI w) (hcu : cu < 8) (h1 : (0 ≤ nI cu ∧ nI cu ≤ σ 17 0 - 1)) (hw : w < 9) (h2 : (0 ≤ nI w ∧ nI w ≤ 8)) {H : Heap} {locs : List Loc} {cells slots : Nat} {Q : State → Prop} (hRc : cells + 100 ≤ room_1.cells) (hRs : slots + 1000 ≤ room_1.slots) (hP : va_P D vwCl (wAll b a a2 n d d2 cI cJ o σ σ2 ω τ2 g) H) (hD : va_D A (wAll b a a2 n d d2 cI cJ o σ σ2 ω τ2 g)) (hS : va_S A s.heap H locs) (ls : Array Slot) (hl : lv_has ls 9 [(0, .ref bs), (1, .ref (b 0)), (2, .ref (n 0)), (3, .ref o), (4, .int (nI (6 * i)))]) (kk : lwK p l e s m args below meth c A D cI cJ b a a2 n d d2 o bs i h cells slots Q) : W p l e room_1 s m args below meth c H locs cells slots Q (F0 m 668 ls []) := by
  obtain ⟨hx, hb, hml, hown, hts, hK, hEX, hX, hbl, hbA, hst, hA, hL⟩ := id C
  obtain ⟨hok, hnw, hw12⟩ := id hI
  have hnc := hok.1.2.1
  have hn8 := hok.1.2.2.1
  refine lv_aload_n hx hb dL_law_668 rfl (lv_at hl 1 rfl) ?_
  refine lv_aload_n hx hb dL_law_669 rfl (lv_at hl 0 rfl) ?_
  refine lv_iload hx hb dL_law_670 (lv_at hl 4 rfl) ?_
  refine lv_iconst (v := 1) hx hb dL_law_672 (by decide) ?_
  refine lv_iadd hx hb dL_law_673 ?_
  rw [show nI (6 * i) + 1 = nI (6 * i + 1) from nI_add (6 * i) 1]
  refine va_sld hx hb hX hbl hbA hS (vp_in_nI (show 6 * i + 1 < L by omega) (by omega)) dL_law_674 ?_
  rw [nI_clamp (n := 6 * i + 1) (by omega), hp1]
  refine lv_aload_n hx hb dL_law_675 rfl (lv_at hl 0 rfl) ?_
  refine lv_iload hx hb dL_law_676 (lv_at hl 4 rfl) ?_
  refine lv_iconst (v := 2) hx hb dL_law_678 (by decide) ?_
  refine lv_iadd hx hb dL_law_679 ?_
  rw [show nI (6 * i) + 2 = nI (6 * i + 2) from nI_add (6 * i) 2]
  refine va_sld hx hb hX hbl hbA hS (vp_in_nI (show 6 * i + 2 < L by omega) (by omega)) dL_law_680 ?_
  rw [nI_clamp (n := 6 * i + 2) (by omega), hp2]
  refine lv_aload_n hx hb dL_law_681 rfl (lv_at hl 3 rfl) ?_
  refine sl_i (vx_runSW (As := [.ref (b 0), .int (nI cu), .int (nI w), .ref o]) (rest := []) ⟨hx, hb, hml, hown, hts⟩ (M_L_courier_ok l D cI b a a2 σ σ2 ω cu w o g cJ _ hcu h1 hw h2) (vx_cwSW 4 hts gL_law_L_courier rfl rfl rfl (by decide +kernel) ⟨Nat.le_of_ble_eq_true rfl, Nat.le_of_ble_eq_true rfl⟩) (wrS0 hK hP.left hD.left [0, 1] rfl) rfl rfl hl.1 rfl (lv_room (Nat.le_of_ble_eq_true rfl)) dL_law_682 ⟨(by show cells + _ ≤ room_1.cells; omega), (by show slots + _ ≤ room_1.slots; omega)⟩) hP hD hS hA (fun H locs hP hD hS => ?_)
  have hP : va_P D vwCl (((wLan b a a2 cI σ σ2 ω) ++ [(o, .inl (cJ, 1, .inr (.inl (vp_updL g 0 (tellF σ cu w).toInt64))))]) ++ (wMod n d d2 cI σ τ2 ω)) H := hP
  have hD : va_D A (((wLan b a a2 cI σ σ2 ω) ++ [(o, .inl (cJ, 1, .inr (.inl (vp_updL g 0 (tellF σ cu w).toInt64))))]) ++ (wMod n d d2 cI σ τ2 ω)) := hD
  refine lv_istore (lv' := [(5, .int 0), (0, .ref bs), (1, .ref (b 0)), (2, .ref (n 0)), (3, .ref o), (4, .int (nI (6 * i)))]) hx hb dL_law_685 hl (by decide) rfl (fun ls hl => ?_)
  refine lv_aload_n hx hb dL_law_687 rfl (lv_at hl 3 rfl) ?_
  refine lv_aload_n hx hb dL_law_688 rfl (lv_at hl 1 rfl) ?_
  refine lv_iload hx hb dL_law_689 (lv_at hl 5 rfl) ?_
  refine lv_iconst (v := 1) hx hb dL_law_691 (by decide) ?_
  refine lv_iadd hx hb dL_law_692 ?_
  rw [show nI (6 * i) + 1 = nI (6 * i + 1) from nI_add (6 * i) 1]
  refine va_sld hx hb hX hbl hbA hS (vp_in_nI (show 6 * i + 1 < L by omega) (by omega)) dL_law_693 ?_
  rw [nI_clamp (n := 6 * i + 1) (by omega), hp1]
  refine lv_aload_n hx hb dL_law_694 rfl (lv_at hl 1 rfl) ?_
  refine lv_iload hx hb dL_law_695 (lv_at hl 5 rfl) ?_
  refine lv_iconst (v := 2) hx hb dL_law_697 (by decide) ?_
  refine lv_iadd hx hb dL_law_698 ?_
  rw [show nI (6 * i) + 2 = nI (6 * i + 2) from nI_add (6 * i) 2]
  refine va_sld hx hb hX hbl hbA hS (vp_in_nI (show 6 * i + 2 < L by omega) (by omega)) dL_law_699 ?_
  rw [nI_clamp (n := 6 * i + 2) (by omega), hp2]
  refine sr_i (va_runV (As := [.int (nI cu), .int (nI w)]) (rest := []) ⟨hx, hb, hml, hown, hts⟩ (M_X6_courier_ok l D cI n d d2 σ τ2 ω cu w _ hcu h1 h2 hw) (cwV 2 hts gL_law_X6_courier rfl rfl rfl (by decide +kernel) ⟨Nat.le_of_ble_eq_true rfl, Nat.le_of_ble_eq_true rfl⟩) (wrV0 hK hP.right hD.right [0] rfl (ci := 6) (q0 := 0) rfl rfl) rfl rfl hl.1 rfl (lv_room (Nat.le_of_ble_eq_true rfl)) dL_law_700 ⟨(by show cells + _ ≤ room_1.cells; omega), (by show slots + _ ≤ room_1.slots; omega)⟩) hP hD hS hA (fun H locs hP hD hS => ?_)
  have hP : va_P D vwCl (((wLan b a a2 cI σ σ2 ω) ++ [(o, .inl (cJ, 1, .inr (.inl (vp_updL g 0 (tellF σ cu w).toInt64))))]) ++ (wOutE n d d2 cI 0 (ω 19 0) (ω 1) (ω 2) (ω 14) (ω 15) ++ (wSta d (n 0) cI σ ++ wSta d2 (n 0) cI τ2))) H := hP
  have hD : va_D A (((wLan b a a2 cI σ σ2 ω) ++ [(o, .inl (cJ, 1, .inr (.inl (vp_updL g 0 (tellF σ cu w).toInt64))))]) ++ (wOutE n d d2 cI 0 (ω 19 0) (ω 1) (ω 2) (ω 14) (ω 15) ++ (wSta d (n 0) cI σ ++ wSta d2 (n 0) cI τ2))) := hD
  refine lv_istore (lv' := [(6, .int (tellF σ cu w)), (5, .int 0), (0, .ref bs), (1, .ref (b 0)), (2, .ref (n 0)), (3, .ref o), (4, .int (nI (6 * i)))]) hx hb dL_law_703 hl (by decide) rfl (fun ls hl => ?_)
  refine lv_aload_n hx hb dL_law_705 rfl (lv_at hl 4 rfl) ?_
  refine rd_i (va_runV (As := []) (rest := []) ⟨hx, hb, hml, hown, hts⟩ (M_X6_thrown l D cI n d d2 σ τ2 (put ω 20 (fun _ => 0)) ) (cwV 0 hts gL_law_X6_thrown rfl rfl rfl (by decide +kernel) ⟨Nat.le_of_ble_eq_true rfl, Nat.le_of_ble_eq_true rfl⟩) (rdV0 hK hP.right [0] rfl (ci := 6) (q0 := 0) rfl rfl) rfl rfl hl.1 rfl (lv_room (Nat.le_of_ble_eq_true rfl)) dL_law_706 ⟨(by show cells + _ ≤ room_1.cells; omega), (by show slots + _ ≤ room_1.slots; omega)⟩) ?_
  refine W.eq (g2 := F0 m 709 ls [.int 0]) rfl ?_
  refine lv_iload hx hb dL_law_709 (lv_at hl 1 rfl) ?_
  refine lv_icmp_eq (tgt := 716) hx hb dL_law_711 (by decide) (fun c_1 => ?_) (fun c_1 => ?_)
  · skip
    refine lv_iload hx hb dL_law_716 (lv_at hl 1 rfl) ?_
    refine lv_if_ne (tgt := 733) hx hb dL_law_718 (by decide) (fun c_2 => ?_) (fun c_2 => ?_)
    · skip
      exact absurd c_2 (by decide)
    · skip
      refine lv_aload_n hx hb dL_law_721 rfl (lv_at hl 5 rfl) ?_
      refine lv_iconst (v := 0) hx hb dL_law_722 (by decide) ?_
      refine va_lald hx hb hK.1 hP 36 1 rfl rfl (by unfold vp_in; decide) dL_law_723 ?_
      refine W.eq (g2 := F0 m 724 ls [.long ((tellF σ cu w).toInt64)]) rfl ?_
      refine lv_iload hx hb dL_law_724 (lv_at hl 0 rfl) ?_
      refine lv_i2l hx hb dL_law_726 rfl ?_
      refine my_lcmpE hx hb dL_law_727 ?_
      refine lv_if_eq (tgt := 733) hx hb dL_law_728 (by decide) (fun c_3 => ?_) (fun c_3 => ?_)
      · skip
        refine lv_goto (tgt := 1220) hx hb dL_law_733 (by decide) ?_
        have hP : va_P D vwCl (wAll b a a2 n d d2 cI cJ o σ σ2 (put ω 20 (fun _ => 0)) τ2 (vp_updL g 0 (tellF σ cu w).toInt64)) H := hP
        have hD : va_D A (wAll b a a2 n d d2 cI cJ o σ σ2 (put ω 20 (fun _ => 0)) τ2 (vp_updL g 0 (tellF σ cu w).toInt64)) := hD
        refine W.widen (k := cells + 23) (n := slots + 200) (by omega) (by omega) ?_
        exact kk σ σ2 (put ω 20 (fun _ => 0)) τ2 (vp_updL g 0 (tellF σ cu w).toInt64) h nc nw (iv_w (fun _ => 0) hI) (by omega) H locs hP hD hS ls (lv_sub hl [2, 3, 4, 5, 6] rfl)
      · skip
        exact absurd c_3 (by decide)
  · skip
    exact absurd rfl c_1
set_option maxHeartbeats 4000000 in
set_option maxRecDepth 100000 in
theorem LW_wager_e1 {p : Program} {l : Launch} {e : Env} {s : State} {m : MethodId} {args : Array Value} {below : List Frame} {meth : Method} {c : Code} {A : Nat → Prop} {D : va_G} {cI cJ : ClassId} {bs L : Nat} {xs : Nat → Int32} (C : lwC p l s m args c A D cI cJ bs L xs) (b a a2 n d d2 : Nat → Nat) (o i h nc nw : Nat) (σ σ2 ω τ2 : St) (g : Nat → Int64) (p0 : Int32) (p1 : Int32) (hI : lwI σ ω h nc nw) (hi : 6 * i + 6 ≤ L) (hbd : h + 1000 < 2 ^ 29) (hp1 : xs (6 * i + 1) = p0) (hp2 : xs (6 * i + 2) = p1) (h1 : ¬ ((0 ≤ p0 ∧ p0 ≤ 500) ∧ (1 ≤ p1 ∧ p1 ≤ 100))) {H : Heap} {locs : List Loc} {cells slots : Nat} {Q : State → Prop} (hRc : cells + 100 ≤ room_1.cells) (hRs : slots + 1000 ≤ room_1.slots) (hP : va_P D vwCl (wAll b a a2 n d d2 cI cJ o σ σ2 ω τ2 g) H) (hD : va_D A (wAll b a a2 n d d2 cI cJ o σ σ2 ω τ2 g)) (hS : va_S A s.heap H locs) (ls : Array Slot) (hl : lv_has ls 9 [(0, .ref bs), (1, .ref (b 0)), (2, .ref (n 0)), (3, .ref o), (4, .int (nI (6 * i)))]) (kk : lwK p l e s m args below meth c A D cI cJ b a a2 n d d2 o bs i h cells slots Q) : W p l e room_1 s m args below meth c H locs cells slots Q (F0 m 736 ls []) := by
  obtain ⟨hx, hb, hml, hown, hts, hK, hEX, hX, hbl, hbA, hst, hA, hL⟩ := id C
  obtain ⟨hok, hnw, hw12⟩ := id hI
  have hnc := hok.1.2.1
  have hn8 := hok.1.2.2.1
  refine lv_aload_n hx hb dL_law_736 rfl (lv_at hl 1 rfl) ?_
  refine lv_aload_n hx hb dL_law_737 rfl (lv_at hl 0 rfl) ?_
  refine lv_iload hx hb dL_law_738 (lv_at hl 4 rfl) ?_
  refine lv_iconst (v := 1) hx hb dL_law_740 (by decide) ?_
  refine lv_iadd hx hb dL_law_741 ?_
  rw [show nI (6 * i) + 1 = nI (6 * i + 1) from nI_add (6 * i) 1]
  refine va_sld hx hb hX hbl hbA hS (vp_in_nI (show 6 * i + 1 < L by omega) (by omega)) dL_law_742 ?_
  rw [nI_clamp (n := 6 * i + 1) (by omega), hp1]
  refine lv_aload_n hx hb dL_law_743 rfl (lv_at hl 0 rfl) ?_
  refine lv_iload hx hb dL_law_744 (lv_at hl 4 rfl) ?_
  refine lv_iconst (v := 2) hx hb dL_law_746 (by decide) ?_
  refine lv_iadd hx hb dL_law_747 ?_
  rw [show nI (6 * i) + 2 = nI (6 * i + 2) from nI_add (6 * i) 2]
  refine va_sld hx hb hX hbl hbA hS (vp_in_nI (show 6 * i + 2 < L by omega) (by omega)) dL_law_748 ?_
  rw [nI_clamp (n := 6 * i + 2) (by omega), hp2]
  refine lv_aload_n hx hb dL_law_749 rfl (lv_at hl 3 rfl) ?_
  refine sl_i (vx_runSW (As := [.ref (b 0), .int p0, .int p1, .ref o]) (rest := []) ⟨hx, hb, hml, hown, hts⟩ (M_L_wager_e1 l D cI b a a2 σ σ2 ω p0 p1 o g cJ _ A hst h1) (vx_cwSW 4 hts gL_law_L_wager rfl rfl rfl (by decide +kernel) ⟨Nat.le_of_ble_eq_true rfl, Nat.le_of_ble_eq_true rfl⟩) (hxS0 hK hP.left hD.left hS hEX [0, 1] rfl) rfl rfl hl.1 rfl (lv_room (Nat.le_of_ble_eq_true rfl)) dL_law_750 ⟨(by show cells + _ ≤ room_1.cells; omega), (by show slots + _ ≤ room_1.slots; omega)⟩) hP hD hS hA (fun H locs hP hD hS => ?_)
  have hP : va_P D vwCl (((wLan b a a2 cI σ σ2 ω) ++ [(o, .inl (cJ, 1, .inr (.inl g)))]) ++ (wMod n d d2 cI σ τ2 ω)) H := hP
  have hD : va_D A (((wLan b a a2 cI σ σ2 ω) ++ [(o, .inl (cJ, 1, .inr (.inl g)))]) ++ (wMod n d d2 cI σ τ2 ω)) := hD
  refine lv_istore (lv' := [(5, .int 1), (0, .ref bs), (1, .ref (b 0)), (2, .ref (n 0)), (3, .ref o), (4, .int (nI (6 * i)))]) hx hb dL_law_753 hl (by decide) rfl (fun ls hl => ?_)
  refine lv_aload_n hx hb dL_law_755 rfl (lv_at hl 3 rfl) ?_
  refine lv_aload_n hx hb dL_law_756 rfl (lv_at hl 1 rfl) ?_
  refine lv_iload hx hb dL_law_757 (lv_at hl 5 rfl) ?_
  refine lv_iconst (v := 1) hx hb dL_law_759 (by decide) ?_
  refine lv_iadd hx hb dL_law_760 ?_
  rw [show nI (6 * i) + 1 = nI (6 * i + 1) from nI_add (6 * i) 1]
  refine va_sld hx hb hX hbl hbA hS (vp_in_nI (show 6 * i + 1 < L by omega) (by omega)) dL_law_761 ?_
  rw [nI_clamp (n := 6 * i + 1) (by omega), hp1]
  refine lv_aload_n hx hb dL_law_762 rfl (lv_at hl 1 rfl) ?_
  refine lv_iload hx hb dL_law_763 (lv_at hl 5 rfl) ?_
  refine lv_iconst (v := 2) hx hb dL_law_765 (by decide) ?_
  refine lv_iadd hx hb dL_law_766 ?_
  rw [show nI (6 * i) + 2 = nI (6 * i + 2) from nI_add (6 * i) 2]
  refine va_sld hx hb hX hbl hbA hS (vp_in_nI (show 6 * i + 2 < L by omega) (by omega)) dL_law_767 ?_
  rw [nI_clamp (n := 6 * i + 2) (by omega), hp2]
  refine sr_i (va_runV (As := [.int p0, .int p1]) (rest := []) ⟨hx, hb, hml, hown, hts⟩ (M_X6_wager_e1 l D cI n d d2 σ τ2 ω p0 p1 _ h1) (cwV 2 hts gL_law_X6_wager rfl rfl rfl (by decide +kernel) ⟨Nat.le_of_ble_eq_true rfl, Nat.le_of_ble_eq_true rfl⟩) (wrV0 hK hP.right hD.right [0] rfl (ci := 6) (q0 := 0) rfl rfl) rfl rfl hl.1 rfl (lv_room (Nat.le_of_ble_eq_true rfl)) dL_law_768 ⟨(by show cells + _ ≤ room_1.cells; omega), (by show slots + _ ≤ room_1.slots; omega)⟩) hP hD hS hA (fun H locs hP hD hS => ?_)
  have hP : va_P D vwCl (((wLan b a a2 cI σ σ2 ω) ++ [(o, .inl (cJ, 1, .inr (.inl g)))]) ++ (wOutE n d d2 cI 1 (ω 19 0) (ω 1) (ω 2) (ω 14) (ω 15) ++ (wSta d (n 0) cI σ ++ wSta d2 (n 0) cI τ2))) H := hP
  have hD : va_D A (((wLan b a a2 cI σ σ2 ω) ++ [(o, .inl (cJ, 1, .inr (.inl g)))]) ++ (wOutE n d d2 cI 1 (ω 19 0) (ω 1) (ω 2) (ω 14) (ω 15) ++ (wSta d (n 0) cI σ ++ wSta d2 (n 0) cI τ2))) := hD
  refine lv_istore (lv' := [(6, .int 0), (5, .int 1), (0, .ref bs), (1, .ref (b 0)), (2, .ref (n 0)), (3, .ref o), (4, .int (nI (6 * i)))]) hx hb dL_law_771 hl (by decide) rfl (fun ls hl => ?_)
  refine lv_aload_n hx hb dL_law_773 rfl (lv_at hl 4 rfl) ?_
  refine rd_i (va_runV (As := []) (rest := []) ⟨hx, hb, hml, hown, hts⟩ (M_X6_thrown l D cI n d d2 σ τ2 (put ω 20 (fun _ => 1)) ) (cwV 0 hts gL_law_X6_thrown rfl rfl rfl (by decide +kernel) ⟨Nat.le_of_ble_eq_true rfl, Nat.le_of_ble_eq_true rfl⟩) (rdV0 hK hP.right [0] rfl (ci := 6) (q0 := 0) rfl rfl) rfl rfl hl.1 rfl (lv_room (Nat.le_of_ble_eq_true rfl)) dL_law_774 ⟨(by show cells + _ ≤ room_1.cells; omega), (by show slots + _ ≤ room_1.slots; omega)⟩) ?_
  refine W.eq (g2 := F0 m 777 ls [.int 1]) rfl ?_
  refine lv_iload hx hb dL_law_777 (lv_at hl 1 rfl) ?_
  refine lv_icmp_eq (tgt := 784) hx hb dL_law_779 (by decide) (fun c_1 => ?_) (fun c_1 => ?_)
  · skip
    refine lv_iload hx hb dL_law_784 (lv_at hl 1 rfl) ?_
    refine lv_if_ne (tgt := 801) hx hb dL_law_786 (by decide) (fun c_2 => ?_) (fun c_2 => ?_)
    · skip
      refine lv_goto (tgt := 1220) hx hb dL_law_801 (by decide) ?_
      have hP : va_P D vwCl (wAll b a a2 n d d2 cI cJ o σ σ2 (put ω 20 (fun _ => 1)) τ2 g) H := hP
      have hD : va_D A (wAll b a a2 n d d2 cI cJ o σ σ2 (put ω 20 (fun _ => 1)) τ2 g) := hD
      refine W.widen (k := cells + 23) (n := slots + 200) (by omega) (by omega) ?_
      exact kk σ σ2 (put ω 20 (fun _ => 1)) τ2 g h nc nw (iv_w (fun _ => 1) hI) (by omega) H locs hP hD hS ls (lv_sub hl [2, 3, 4, 5, 6] rfl)
    · skip
      exact absurd c_2 (by decide)
  · skip
    exact absurd rfl c_1
set_option maxHeartbeats 4000000 in
set_option maxRecDepth 100000 in
theorem LW_wager_e2 {p : Program} {l : Launch} {e : Env} {s : State} {m : MethodId} {args : Array Value} {below : List Frame} {meth : Method} {c : Code} {A : Nat → Prop} {D : va_G} {cI cJ : ClassId} {bs L : Nat} {xs : Nat → Int32} (C : lwC p l s m args c A D cI cJ bs L xs) (b a a2 n d d2 : Nat → Nat) (o i h nc nw : Nat) (σ σ2 ω τ2 : St) (g : Nat → Int64) (p0 : Int32) (p1 : Int32) (hI : lwI σ ω h nc nw) (hi : 6 * i + 6 ≤ L) (hbd : h + 1000 < 2 ^ 29) (hp1 : xs (6 * i + 1) = p0) (hp2 : xs (6 * i + 2) = p1) (h1 : (0 ≤ p0 ∧ p0 ≤ 500)) (h2 : (1 ≤ p1 ∧ p1 ≤ 100)) (h4 : ω 19 0 = 12 ∨ ¬ σ 16 0 = -1) {H : Heap} {locs : List Loc} {cells slots : Nat} {Q : State → Prop} (hRc : cells + 100 ≤ room_1.cells) (hRs : slots + 1000 ≤ room_1.slots) (hP : va_P D vwCl (wAll b a a2 n d d2 cI cJ o σ σ2 ω τ2 g) H) (hD : va_D A (wAll b a a2 n d d2 cI cJ o σ σ2 ω τ2 g)) (hS : va_S A s.heap H locs) (ls : Array Slot) (hl : lv_has ls 9 [(0, .ref bs), (1, .ref (b 0)), (2, .ref (n 0)), (3, .ref o), (4, .int (nI (6 * i)))]) (kk : lwK p l e s m args below meth c A D cI cJ b a a2 n d d2 o bs i h cells slots Q) : W p l e room_1 s m args below meth c H locs cells slots Q (F0 m 736 ls []) := by
  obtain ⟨hx, hb, hml, hown, hts, hK, hEX, hX, hbl, hbA, hst, hA, hL⟩ := id C
  obtain ⟨hok, hnw, hw12⟩ := id hI
  have hnc := hok.1.2.1
  have hn8 := hok.1.2.2.1
  refine lv_aload_n hx hb dL_law_736 rfl (lv_at hl 1 rfl) ?_
  refine lv_aload_n hx hb dL_law_737 rfl (lv_at hl 0 rfl) ?_
  refine lv_iload hx hb dL_law_738 (lv_at hl 4 rfl) ?_
  refine lv_iconst (v := 1) hx hb dL_law_740 (by decide) ?_
  refine lv_iadd hx hb dL_law_741 ?_
  rw [show nI (6 * i) + 1 = nI (6 * i + 1) from nI_add (6 * i) 1]
  refine va_sld hx hb hX hbl hbA hS (vp_in_nI (show 6 * i + 1 < L by omega) (by omega)) dL_law_742 ?_
  rw [nI_clamp (n := 6 * i + 1) (by omega), hp1]
  refine lv_aload_n hx hb dL_law_743 rfl (lv_at hl 0 rfl) ?_
  refine lv_iload hx hb dL_law_744 (lv_at hl 4 rfl) ?_
  refine lv_iconst (v := 2) hx hb dL_law_746 (by decide) ?_
  refine lv_iadd hx hb dL_law_747 ?_
  rw [show nI (6 * i) + 2 = nI (6 * i + 2) from nI_add (6 * i) 2]
  refine va_sld hx hb hX hbl hbA hS (vp_in_nI (show 6 * i + 2 < L by omega) (by omega)) dL_law_748 ?_
  rw [nI_clamp (n := 6 * i + 2) (by omega), hp2]
  refine lv_aload_n hx hb dL_law_749 rfl (lv_at hl 3 rfl) ?_
  refine sl_i (vx_runSW (As := [.ref (b 0), .int p0, .int p1, .ref o]) (rest := []) ⟨hx, hb, hml, hown, hts⟩ (M_L_wager_e2 l D cI b a a2 σ σ2 ω p0 p1 o g cJ _ A hst h1 h2 h4) (vx_cwSW 4 hts gL_law_L_wager rfl rfl rfl (by decide +kernel) ⟨Nat.le_of_ble_eq_true rfl, Nat.le_of_ble_eq_true rfl⟩) (hxS0 hK hP.left hD.left hS hEX [0, 1] rfl) rfl rfl hl.1 rfl (lv_room (Nat.le_of_ble_eq_true rfl)) dL_law_750 ⟨(by show cells + _ ≤ room_1.cells; omega), (by show slots + _ ≤ room_1.slots; omega)⟩) hP hD hS hA (fun H locs hP hD hS => ?_)
  have hP : va_P D vwCl (((wLan b a a2 cI σ σ2 ω) ++ [(o, .inl (cJ, 1, .inr (.inl g)))]) ++ (wMod n d d2 cI σ τ2 ω)) H := hP
  have hD : va_D A (((wLan b a a2 cI σ σ2 ω) ++ [(o, .inl (cJ, 1, .inr (.inl g)))]) ++ (wMod n d d2 cI σ τ2 ω)) := hD
  refine lv_istore (lv' := [(5, .int 2), (0, .ref bs), (1, .ref (b 0)), (2, .ref (n 0)), (3, .ref o), (4, .int (nI (6 * i)))]) hx hb dL_law_753 hl (by decide) rfl (fun ls hl => ?_)
  refine lv_aload_n hx hb dL_law_755 rfl (lv_at hl 3 rfl) ?_
  refine lv_aload_n hx hb dL_law_756 rfl (lv_at hl 1 rfl) ?_
  refine lv_iload hx hb dL_law_757 (lv_at hl 5 rfl) ?_
  refine lv_iconst (v := 1) hx hb dL_law_759 (by decide) ?_
  refine lv_iadd hx hb dL_law_760 ?_
  rw [show nI (6 * i) + 1 = nI (6 * i + 1) from nI_add (6 * i) 1]
  refine va_sld hx hb hX hbl hbA hS (vp_in_nI (show 6 * i + 1 < L by omega) (by omega)) dL_law_761 ?_
  rw [nI_clamp (n := 6 * i + 1) (by omega), hp1]
  refine lv_aload_n hx hb dL_law_762 rfl (lv_at hl 1 rfl) ?_
  refine lv_iload hx hb dL_law_763 (lv_at hl 5 rfl) ?_
  refine lv_iconst (v := 2) hx hb dL_law_765 (by decide) ?_
  refine lv_iadd hx hb dL_law_766 ?_
  rw [show nI (6 * i) + 2 = nI (6 * i + 2) from nI_add (6 * i) 2]
  refine va_sld hx hb hX hbl hbA hS (vp_in_nI (show 6 * i + 2 < L by omega) (by omega)) dL_law_767 ?_
  rw [nI_clamp (n := 6 * i + 2) (by omega), hp2]
  refine sr_i (va_runV (As := [.int p0, .int p1]) (rest := []) ⟨hx, hb, hml, hown, hts⟩ (M_X6_wager_e2 l D cI n d d2 σ τ2 ω p0 p1 _ h1 h2 h4) (cwV 2 hts gL_law_X6_wager rfl rfl rfl (by decide +kernel) ⟨Nat.le_of_ble_eq_true rfl, Nat.le_of_ble_eq_true rfl⟩) (wrV0 hK hP.right hD.right [0] rfl (ci := 6) (q0 := 0) rfl rfl) rfl rfl hl.1 rfl (lv_room (Nat.le_of_ble_eq_true rfl)) dL_law_768 ⟨(by show cells + _ ≤ room_1.cells; omega), (by show slots + _ ≤ room_1.slots; omega)⟩) hP hD hS hA (fun H locs hP hD hS => ?_)
  have hP : va_P D vwCl (((wLan b a a2 cI σ σ2 ω) ++ [(o, .inl (cJ, 1, .inr (.inl g)))]) ++ (wOutE n d d2 cI 2 (ω 19 0) (ω 1) (ω 2) (ω 14) (ω 15) ++ (wSta d (n 0) cI σ ++ wSta d2 (n 0) cI τ2))) H := hP
  have hD : va_D A (((wLan b a a2 cI σ σ2 ω) ++ [(o, .inl (cJ, 1, .inr (.inl g)))]) ++ (wOutE n d d2 cI 2 (ω 19 0) (ω 1) (ω 2) (ω 14) (ω 15) ++ (wSta d (n 0) cI σ ++ wSta d2 (n 0) cI τ2))) := hD
  refine lv_istore (lv' := [(6, .int 0), (5, .int 2), (0, .ref bs), (1, .ref (b 0)), (2, .ref (n 0)), (3, .ref o), (4, .int (nI (6 * i)))]) hx hb dL_law_771 hl (by decide) rfl (fun ls hl => ?_)
  refine lv_aload_n hx hb dL_law_773 rfl (lv_at hl 4 rfl) ?_
  refine rd_i (va_runV (As := []) (rest := []) ⟨hx, hb, hml, hown, hts⟩ (M_X6_thrown l D cI n d d2 σ τ2 (put ω 20 (fun _ => 2)) ) (cwV 0 hts gL_law_X6_thrown rfl rfl rfl (by decide +kernel) ⟨Nat.le_of_ble_eq_true rfl, Nat.le_of_ble_eq_true rfl⟩) (rdV0 hK hP.right [0] rfl (ci := 6) (q0 := 0) rfl rfl) rfl rfl hl.1 rfl (lv_room (Nat.le_of_ble_eq_true rfl)) dL_law_774 ⟨(by show cells + _ ≤ room_1.cells; omega), (by show slots + _ ≤ room_1.slots; omega)⟩) ?_
  refine W.eq (g2 := F0 m 777 ls [.int 2]) rfl ?_
  refine lv_iload hx hb dL_law_777 (lv_at hl 1 rfl) ?_
  refine lv_icmp_eq (tgt := 784) hx hb dL_law_779 (by decide) (fun c_1 => ?_) (fun c_1 => ?_)
  · skip
    refine lv_iload hx hb dL_law_784 (lv_at hl 1 rfl) ?_
    refine lv_if_ne (tgt := 801) hx hb dL_law_786 (by decide) (fun c_2 => ?_) (fun c_2 => ?_)
    · skip
      refine lv_goto (tgt := 1220) hx hb dL_law_801 (by decide) ?_
      have hP : va_P D vwCl (wAll b a a2 n d d2 cI cJ o σ σ2 (put ω 20 (fun _ => 2)) τ2 g) H := hP
      have hD : va_D A (wAll b a a2 n d d2 cI cJ o σ σ2 (put ω 20 (fun _ => 2)) τ2 g) := hD
      refine W.widen (k := cells + 23) (n := slots + 200) (by omega) (by omega) ?_
      exact kk σ σ2 (put ω 20 (fun _ => 2)) τ2 g h nc nw (iv_w (fun _ => 2) hI) (by omega) H locs hP hD hS ls (lv_sub hl [2, 3, 4, 5, 6] rfl)
    · skip
      exact absurd c_2 (by decide)
  · skip
    exact absurd rfl c_1
set_option maxHeartbeats 4000000 in
set_option maxRecDepth 100000 in
theorem LW_wager_ok {p : Program} {l : Launch} {e : Env} {s : State} {m : MethodId} {args : Array Value} {below : List Frame} {meth : Method} {c : Code} {A : Nat → Prop} {D : va_G} {cI cJ : ClassId} {bs L : Nat} {xs : Nat → Int32} (C : lwC p l s m args c A D cI cJ bs L xs) (b a a2 n d d2 : Nat → Nat) (o i h nc nw : Nat) (σ σ2 ω τ2 : St) (g : Nat → Int64) (p0 : Int32) (p1 : Int32) (hI : lwI σ ω h nc nw) (hi : 6 * i + 6 ≤ L) (hbd : h + 1000 < 2 ^ 29) (hp1 : xs (6 * i + 1) = p0) (hp2 : xs (6 * i + 2) = p1) (h1 : (0 ≤ p0 ∧ p0 ≤ 500)) (h2 : (1 ≤ p1 ∧ p1 ≤ 100)) (hw11 : nw < 12) (h3 : σ 16 0 = -1) {H : Heap} {locs : List Loc} {cells slots : Nat} {Q : State → Prop} (hRc : cells + 100 ≤ room_1.cells) (hRs : slots + 1000 ≤ room_1.slots) (hP : va_P D vwCl (wAll b a a2 n d d2 cI cJ o σ σ2 ω τ2 g) H) (hD : va_D A (wAll b a a2 n d d2 cI cJ o σ σ2 ω τ2 g)) (hS : va_S A s.heap H locs) (ls : Array Slot) (hl : lv_has ls 9 [(0, .ref bs), (1, .ref (b 0)), (2, .ref (n 0)), (3, .ref o), (4, .int (nI (6 * i)))]) (kk : lwK p l e s m args below meth c A D cI cJ b a a2 n d d2 o bs i h cells slots Q) : W p l e room_1 s m args below meth c H locs cells slots Q (F0 m 736 ls []) := by
  obtain ⟨hx, hb, hml, hown, hts, hK, hEX, hX, hbl, hbA, hst, hA, hL⟩ := id C
  obtain ⟨hok, hnw, hw12⟩ := id hI
  have hnc := hok.1.2.1
  have hn8 := hok.1.2.2.1
  refine lv_aload_n hx hb dL_law_736 rfl (lv_at hl 1 rfl) ?_
  refine lv_aload_n hx hb dL_law_737 rfl (lv_at hl 0 rfl) ?_
  refine lv_iload hx hb dL_law_738 (lv_at hl 4 rfl) ?_
  refine lv_iconst (v := 1) hx hb dL_law_740 (by decide) ?_
  refine lv_iadd hx hb dL_law_741 ?_
  rw [show nI (6 * i) + 1 = nI (6 * i + 1) from nI_add (6 * i) 1]
  refine va_sld hx hb hX hbl hbA hS (vp_in_nI (show 6 * i + 1 < L by omega) (by omega)) dL_law_742 ?_
  rw [nI_clamp (n := 6 * i + 1) (by omega), hp1]
  refine lv_aload_n hx hb dL_law_743 rfl (lv_at hl 0 rfl) ?_
  refine lv_iload hx hb dL_law_744 (lv_at hl 4 rfl) ?_
  refine lv_iconst (v := 2) hx hb dL_law_746 (by decide) ?_
  refine lv_iadd hx hb dL_law_747 ?_
  rw [show nI (6 * i) + 2 = nI (6 * i + 2) from nI_add (6 * i) 2]
  refine va_sld hx hb hX hbl hbA hS (vp_in_nI (show 6 * i + 2 < L by omega) (by omega)) dL_law_748 ?_
  rw [nI_clamp (n := 6 * i + 2) (by omega), hp2]
  refine lv_aload_n hx hb dL_law_749 rfl (lv_at hl 3 rfl) ?_
  refine sl_i (vx_runSW (As := [.ref (b 0), .int p0, .int p1, .ref o]) (rest := []) ⟨hx, hb, hml, hown, hts⟩ (M_L_wager_ok l D cI b a a2 σ σ2 ω p0 p1 nw o g cJ _ h1 h2 hnw hw11 h3) (vx_cwSW 4 hts gL_law_L_wager rfl rfl rfl (by decide +kernel) ⟨Nat.le_of_ble_eq_true rfl, Nat.le_of_ble_eq_true rfl⟩) (wrS0 hK hP.left hD.left [0, 1] rfl) rfl rfl hl.1 rfl (lv_room (Nat.le_of_ble_eq_true rfl)) dL_law_750 ⟨(by show cells + _ ≤ room_1.cells; omega), (by show slots + _ ≤ room_1.slots; omega)⟩) hP hD hS hA (fun H locs hP hD hS => ?_)
  have hP : va_P D vwCl (((wTopE b a a2 ++ (wWagE b cI (nI (nw + 1)) (upd ((ω 14)) nw p0) (upd ((ω 15)) nw p1) ++ (wRiv a cI σ ++ wRiv a2 cI σ2))) ++ [(o, .inl (cJ, 1, .inr (.inl (vp_updL g 0 (nI nw).toInt64))))]) ++ (wMod n d d2 cI σ τ2 ω)) H := hP
  have hD : va_D A (((wTopE b a a2 ++ (wWagE b cI (nI (nw + 1)) (upd ((ω 14)) nw p0) (upd ((ω 15)) nw p1) ++ (wRiv a cI σ ++ wRiv a2 cI σ2))) ++ [(o, .inl (cJ, 1, .inr (.inl (vp_updL g 0 (nI nw).toInt64))))]) ++ (wMod n d d2 cI σ τ2 ω)) := hD
  refine lv_istore (lv' := [(5, .int 0), (0, .ref bs), (1, .ref (b 0)), (2, .ref (n 0)), (3, .ref o), (4, .int (nI (6 * i)))]) hx hb dL_law_753 hl (by decide) rfl (fun ls hl => ?_)
  refine lv_aload_n hx hb dL_law_755 rfl (lv_at hl 3 rfl) ?_
  refine lv_aload_n hx hb dL_law_756 rfl (lv_at hl 1 rfl) ?_
  refine lv_iload hx hb dL_law_757 (lv_at hl 5 rfl) ?_
  refine lv_iconst (v := 1) hx hb dL_law_759 (by decide) ?_
  refine lv_iadd hx hb dL_law_760 ?_
  rw [show nI (6 * i) + 1 = nI (6 * i + 1) from nI_add (6 * i) 1]
  refine va_sld hx hb hX hbl hbA hS (vp_in_nI (show 6 * i + 1 < L by omega) (by omega)) dL_law_761 ?_
  rw [nI_clamp (n := 6 * i + 1) (by omega), hp1]
  refine lv_aload_n hx hb dL_law_762 rfl (lv_at hl 1 rfl) ?_
  refine lv_iload hx hb dL_law_763 (lv_at hl 5 rfl) ?_
  refine lv_iconst (v := 2) hx hb dL_law_765 (by decide) ?_
  refine lv_iadd hx hb dL_law_766 ?_
  rw [show nI (6 * i) + 2 = nI (6 * i + 2) from nI_add (6 * i) 2]
  refine va_sld hx hb hX hbl hbA hS (vp_in_nI (show 6 * i + 2 < L by omega) (by omega)) dL_law_767 ?_
  rw [nI_clamp (n := 6 * i + 2) (by omega), hp2]
  refine sr_i (va_runV (As := [.int p0, .int p1]) (rest := []) ⟨hx, hb, hml, hown, hts⟩ (M_X6_wager_ok l D cI n d d2 σ τ2 ω p0 p1 nw _ h1 h2 hnw hw11 h3) (cwV 2 hts gL_law_X6_wager rfl rfl rfl (by decide +kernel) ⟨Nat.le_of_ble_eq_true rfl, Nat.le_of_ble_eq_true rfl⟩) (wrV0 hK hP.right hD.right [0] rfl (ci := 6) (q0 := 0) rfl rfl) rfl rfl hl.1 rfl (lv_room (Nat.le_of_ble_eq_true rfl)) dL_law_768 ⟨(by show cells + _ ≤ room_1.cells; omega), (by show slots + _ ≤ room_1.slots; omega)⟩) hP hD hS hA (fun H locs hP hD hS => ?_)
  have hP : va_P D vwCl (((wTopE b a a2 ++ (wWagE b cI (nI (nw + 1)) (upd ((ω 14)) nw p0) (upd ((ω 15)) nw p1) ++ (wRiv a cI σ ++ wRiv a2 cI σ2))) ++ [(o, .inl (cJ, 1, .inr (.inl (vp_updL g 0 (nI nw).toInt64))))]) ++ (wOutE n d d2 cI 0 (nI (nw + 1)) (ω 1) (ω 2) (upd ((ω 14)) nw p0) (upd ((ω 15)) nw p1) ++ (wSta d (n 0) cI σ ++ wSta d2 (n 0) cI τ2))) H := hP
  have hD : va_D A (((wTopE b a a2 ++ (wWagE b cI (nI (nw + 1)) (upd ((ω 14)) nw p0) (upd ((ω 15)) nw p1) ++ (wRiv a cI σ ++ wRiv a2 cI σ2))) ++ [(o, .inl (cJ, 1, .inr (.inl (vp_updL g 0 (nI nw).toInt64))))]) ++ (wOutE n d d2 cI 0 (nI (nw + 1)) (ω 1) (ω 2) (upd ((ω 14)) nw p0) (upd ((ω 15)) nw p1) ++ (wSta d (n 0) cI σ ++ wSta d2 (n 0) cI τ2))) := hD
  refine lv_istore (lv' := [(6, .int (nI nw)), (5, .int 0), (0, .ref bs), (1, .ref (b 0)), (2, .ref (n 0)), (3, .ref o), (4, .int (nI (6 * i)))]) hx hb dL_law_771 hl (by decide) rfl (fun ls hl => ?_)
  refine lv_aload_n hx hb dL_law_773 rfl (lv_at hl 4 rfl) ?_
  refine rd_i (va_runV (As := []) (rest := []) ⟨hx, hb, hml, hown, hts⟩ (M_X6_thrown l D cI n d d2 σ τ2 (put (put (put (put ω 14 (upd ((ω 14)) nw p0)) 15 (upd ((ω 15)) nw p1)) 19 (fun _ => nI (nw + 1))) 20 (fun _ => 0)) ) (cwV 0 hts gL_law_X6_thrown rfl rfl rfl (by decide +kernel) ⟨Nat.le_of_ble_eq_true rfl, Nat.le_of_ble_eq_true rfl⟩) (rdV0 hK hP.right [0] rfl (ci := 6) (q0 := 0) rfl rfl) rfl rfl hl.1 rfl (lv_room (Nat.le_of_ble_eq_true rfl)) dL_law_774 ⟨(by show cells + _ ≤ room_1.cells; omega), (by show slots + _ ≤ room_1.slots; omega)⟩) ?_
  refine W.eq (g2 := F0 m 777 ls [.int 0]) rfl ?_
  refine lv_iload hx hb dL_law_777 (lv_at hl 1 rfl) ?_
  refine lv_icmp_eq (tgt := 784) hx hb dL_law_779 (by decide) (fun c_1 => ?_) (fun c_1 => ?_)
  · skip
    refine lv_iload hx hb dL_law_784 (lv_at hl 1 rfl) ?_
    refine lv_if_ne (tgt := 801) hx hb dL_law_786 (by decide) (fun c_2 => ?_) (fun c_2 => ?_)
    · skip
      exact absurd c_2 (by decide)
    · skip
      refine lv_aload_n hx hb dL_law_789 rfl (lv_at hl 5 rfl) ?_
      refine lv_iconst (v := 0) hx hb dL_law_790 (by decide) ?_
      refine va_lald hx hb hK.1 hP 36 1 rfl rfl (by unfold vp_in; decide) dL_law_791 ?_
      refine W.eq (g2 := F0 m 792 ls [.long ((nI nw).toInt64)]) rfl ?_
      refine lv_iload hx hb dL_law_792 (lv_at hl 0 rfl) ?_
      refine lv_i2l hx hb dL_law_794 rfl ?_
      refine my_lcmpE hx hb dL_law_795 ?_
      refine lv_if_eq (tgt := 801) hx hb dL_law_796 (by decide) (fun c_3 => ?_) (fun c_3 => ?_)
      · skip
        refine lv_goto (tgt := 1220) hx hb dL_law_801 (by decide) ?_
        have hP : va_P D vwCl (wAll b a a2 n d d2 cI cJ o σ σ2 (put (put (put (put ω 14 (upd ((ω 14)) nw p0)) 15 (upd ((ω 15)) nw p1)) 19 (fun _ => nI (nw + 1))) 20 (fun _ => 0)) τ2 (vp_updL g 0 (nI nw).toInt64)) H := hP
        have hD : va_D A (wAll b a a2 n d d2 cI cJ o σ σ2 (put (put (put (put ω 14 (upd ((ω 14)) nw p0)) 15 (upd ((ω 15)) nw p1)) 19 (fun _ => nI (nw + 1))) 20 (fun _ => 0)) τ2 (vp_updL g 0 (nI nw).toInt64)) := hD
        refine W.widen (k := cells + 23) (n := slots + 200) (by omega) (by omega) ?_
        exact kk σ σ2 (put (put (put (put ω 14 (upd ((ω 14)) nw p0)) 15 (upd ((ω 15)) nw p1)) 19 (fun _ => nI (nw + 1))) 20 (fun _ => 0)) τ2 (vp_updL g 0 (nI nw).toInt64) h nc (nw + 1) (iv_wager (fun _ => 0) hw11 hI) (by omega) H locs hP hD hS ls (lv_sub hl [2, 3, 4, 5, 6] rfl)
      · skip
        exact absurd c_3 (by decide)
  · skip
    exact absurd rfl c_1
