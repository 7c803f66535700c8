set_option maxHeartbeats 4000000 in
set_option maxRecDepth 100000 in
theorem LW_come_e1_0 {p : Program} {l : Launch} {e : Env} {s : State} {m : MethodId} {args : Array Value} {below : List Frame} {meth : Method} {c : Code} {A : Nat → Prop} {D : va_G} {cI cJ : ClassId} {bs L : Nat} {xs : Nat → Int32} (C : lwC p l s m args c A D cI cJ bs L xs) (b a a2 n d d2 : Nat → Nat) (o i h nc nw : Nat) (σ σ2 ω τ2 : St) (g : Nat → Int64) (p0 : Int32) (p1 : Int32) (p2 : Int32) (p3 : Int32) (z5 : Int32) (hI : lwI σ ω h nc nw) (hi : 6 * i + 6 ≤ L) (hbd : h + 1000 < 2 ^ 29) (hp1 : xs (6 * i + 1) = p0) (hp2 : xs (6 * i + 2) = p1) (hp3 : xs (6 * i + 3) = p2) (hp4 : xs (6 * i + 4) = p3) (hp5 : xs (6 * i + 5) = z5) (h1 : ¬ ((0 ≤ p0 ∧ p0 ≤ 11) ∧ (0 ≤ p1 ∧ p1 ≤ 2))) (hz : z5 = 0) {H : Heap} {locs : List Loc} {cells slots : Nat} {Q : State → Prop} (hRc : cells + 100 ≤ room_1.cells) (hRs : slots + 1000 ≤ room_1.slots) (hP : va_P D vwCl (wAll b a a2 n d d2 cI cJ o σ σ2 ω τ2 g) H) (hD : va_D A (wAll b a a2 n d d2 cI cJ o σ σ2 ω τ2 g)) (hS : va_S A s.heap H locs) (ls : Array Slot) (hl : lv_has ls 9 [(0, .ref bs), (1, .ref (b 0)), (2, .ref (n 0)), (3, .ref o), (4, .int (nI (6 * i)))]) (kk : lwK p l e s m args below meth c A D cI cJ b a a2 n d d2 o bs i h cells slots Q) : W p l e room_1 s m args below meth c H locs cells slots Q (F0 m 412 ls []) := by
  obtain ⟨hx, hb, hml, hown, hts, hK, hEX, hX, hbl, hbA, hst, hA, hL⟩ := id C
  obtain ⟨hok, hnw, hw12⟩ := id hI
  have hnc := hok.1.2.1
  have hn8 := hok.1.2.2.1
  refine lv_aload_n hx hb dL_law_412 rfl (lv_at hl 1 rfl) ?_
  refine lv_aload_n hx hb dL_law_413 rfl (lv_at hl 0 rfl) ?_
  refine lv_iload hx hb dL_law_414 (lv_at hl 4 rfl) ?_
  refine lv_iconst (v := 1) hx hb dL_law_416 (by decide) ?_
  refine lv_iadd hx hb dL_law_417 ?_
  rw [show nI (6 * i) + 1 = nI (6 * i + 1) from nI_add (6 * i) 1]
  refine va_sld hx hb hX hbl hbA hS (vp_in_nI (show 6 * i + 1 < L by omega) (by omega)) dL_law_418 ?_
  rw [nI_clamp (n := 6 * i + 1) (by omega), hp1]
  refine lv_aload_n hx hb dL_law_419 rfl (lv_at hl 0 rfl) ?_
  refine lv_iload hx hb dL_law_420 (lv_at hl 4 rfl) ?_
  refine lv_iconst (v := 2) hx hb dL_law_422 (by decide) ?_
  refine lv_iadd hx hb dL_law_423 ?_
  rw [show nI (6 * i) + 2 = nI (6 * i + 2) from nI_add (6 * i) 2]
  refine va_sld hx hb hX hbl hbA hS (vp_in_nI (show 6 * i + 2 < L by omega) (by omega)) dL_law_424 ?_
  rw [nI_clamp (n := 6 * i + 2) (by omega), hp2]
  refine lv_aload_n hx hb dL_law_425 rfl (lv_at hl 0 rfl) ?_
  refine lv_iload hx hb dL_law_426 (lv_at hl 4 rfl) ?_
  refine lv_iconst (v := 3) hx hb dL_law_428 (by decide) ?_
  refine lv_iadd hx hb dL_law_429 ?_
  rw [show nI (6 * i) + 3 = nI (6 * i + 3) from nI_add (6 * i) 3]
  refine va_sld hx hb hX hbl hbA hS (vp_in_nI (show 6 * i + 3 < L by omega) (by omega)) dL_law_430 ?_
  rw [nI_clamp (n := 6 * i + 3) (by omega), hp3]
  refine lv_aload_n hx hb dL_law_431 rfl (lv_at hl 0 rfl) ?_
  refine lv_iload hx hb dL_law_432 (lv_at hl 4 rfl) ?_
  refine lv_iconst (v := 4) hx hb dL_law_434 (by decide) ?_
  refine lv_iadd hx hb dL_law_435 ?_
  rw [show nI (6 * i) + 4 = nI (6 * i + 4) from nI_add (6 * i) 4]
  refine va_sld hx hb hX hbl hbA hS (vp_in_nI (show 6 * i + 4 < L by omega) (by omega)) dL_law_436 ?_
  rw [nI_clamp (n := 6 * i + 4) (by omega), hp4]
  refine lv_aload_n hx hb dL_law_437 rfl (lv_at hl 0 rfl) ?_
  refine lv_iload hx hb dL_law_438 (lv_at hl 4 rfl) ?_
  refine lv_iconst (v := 5) hx hb dL_law_440 (by decide) ?_
  refine lv_iadd hx hb dL_law_441 ?_
  rw [show nI (6 * i) + 5 = nI (6 * i + 5) from nI_add (6 * i) 5]
  refine va_sld hx hb hX hbl hbA hS (vp_in_nI (show 6 * i + 5 < L by omega) (by omega)) dL_law_442 ?_
  rw [nI_clamp (n := 6 * i + 5) (by omega), hp5]
  refine lv_if_eq (tgt := 450) hx hb dL_law_443 (by decide) (fun c_1 => ?_) (fun c_1 => ?_)
  · skip
    refine lv_iconst (v := 0) hx hb dL_law_450 (by decide) ?_
    refine lv_aload_n hx hb dL_law_451 rfl (lv_at hl 3 rfl) ?_
    refine sl_i (vx_runSW (As := [.ref (b 0), .int p0, .int p1, .int p2, .int p3, .int 0, .ref o]) (rest := []) ⟨hx, hb, hml, hown, hts⟩ (M_L_come_e1 l D cI b a a2 σ σ2 ω p0 p1 p2 p3 0 o g cJ _ A hst h1) (vx_cwSW 7 hts gL_law_L_come rfl rfl rfl (by decide +kernel) ⟨Nat.le_of_ble_eq_true rfl, Nat.le_of_ble_eq_true rfl⟩) (hxS0 hK hP.left hD.left hS hEX [0, 1] rfl) rfl rfl hl.1 rfl (lv_room (Nat.le_of_ble_eq_true rfl)) dL_law_452 ⟨(by show cells + _ ≤ room_1.cells; omega), (by show slots + _ ≤ room_1.slots; omega)⟩) hP hD hS hA (fun H locs hP hD hS => ?_)
    have hP : va_P D vwCl (((wLan b a a2 cI σ σ2 ω) ++ [(o, .inl (cJ, 1, .inr (.inl g)))]) ++ (wMod n d d2 cI σ τ2 ω)) H := hP
    have hD : va_D A (((wLan b a a2 cI σ σ2 ω) ++ [(o, .inl (cJ, 1, .inr (.inl g)))]) ++ (wMod n d d2 cI σ τ2 ω)) := hD
    refine lv_istore (lv' := [(5, .int 1), (0, .ref bs), (1, .ref (b 0)), (2, .ref (n 0)), (3, .ref o), (4, .int (nI (6 * i)))]) hx hb dL_law_455 hl (by decide) rfl (fun ls hl => ?_)
    refine lv_aload_n hx hb dL_law_457 rfl (lv_at hl 3 rfl) ?_
    refine lv_aload_n hx hb dL_law_458 rfl (lv_at hl 1 rfl) ?_
    refine lv_iload hx hb dL_law_459 (lv_at hl 5 rfl) ?_
    refine lv_iconst (v := 1) hx hb dL_law_461 (by decide) ?_
    refine lv_iadd hx hb dL_law_462 ?_
    rw [show nI (6 * i) + 1 = nI (6 * i + 1) from nI_add (6 * i) 1]
    refine va_sld hx hb hX hbl hbA hS (vp_in_nI (show 6 * i + 1 < L by omega) (by omega)) dL_law_463 ?_
    rw [nI_clamp (n := 6 * i + 1) (by omega), hp1]
    refine lv_aload_n hx hb dL_law_464 rfl (lv_at hl 1 rfl) ?_
    refine lv_iload hx hb dL_law_465 (lv_at hl 5 rfl) ?_
    refine lv_iconst (v := 2) hx hb dL_law_467 (by decide) ?_
    refine lv_iadd hx hb dL_law_468 ?_
    rw [show nI (6 * i) + 2 = nI (6 * i + 2) from nI_add (6 * i) 2]
    refine va_sld hx hb hX hbl hbA hS (vp_in_nI (show 6 * i + 2 < L by omega) (by omega)) dL_law_469 ?_
    rw [nI_clamp (n := 6 * i + 2) (by omega), hp2]
    refine lv_aload_n hx hb dL_law_470 rfl (lv_at hl 1 rfl) ?_
    refine lv_iload hx hb dL_law_471 (lv_at hl 5 rfl) ?_
    refine lv_iconst (v := 3) hx hb dL_law_473 (by decide) ?_
    refine lv_iadd hx hb dL_law_474 ?_
    rw [show nI (6 * i) + 3 = nI (6 * i + 3) from nI_add (6 * i) 3]
    refine va_sld hx hb hX hbl hbA hS (vp_in_nI (show 6 * i + 3 < L by omega) (by omega)) dL_law_475 ?_
    rw [nI_clamp (n := 6 * i + 3) (by omega), hp3]
    refine lv_aload_n hx hb dL_law_476 rfl (lv_at hl 1 rfl) ?_
    refine lv_iload hx hb dL_law_477 (lv_at hl 5 rfl) ?_
    refine lv_iconst (v := 4) hx hb dL_law_479 (by decide) ?_
    refine lv_iadd hx hb dL_law_480 ?_
    rw [show nI (6 * i) + 4 = nI (6 * i + 4) from nI_add (6 * i) 4]
    refine va_sld hx hb hX hbl hbA hS (vp_in_nI (show 6 * i + 4 < L by omega) (by omega)) dL_law_481 ?_
    rw [nI_clamp (n := 6 * i + 4) (by omega), hp4]
    refine lv_aload_n hx hb dL_law_482 rfl (lv_at hl 1 rfl) ?_
    refine lv_iload hx hb dL_law_483 (lv_at hl 5 rfl) ?_
    refine lv_iconst (v := 5) hx hb dL_law_485 (by decide) ?_
    refine lv_iadd hx hb dL_law_486 ?_
    rw [show nI (6 * i) + 5 = nI (6 * i + 5) from nI_add (6 * i) 5]
    refine va_sld hx hb hX hbl hbA hS (vp_in_nI (show 6 * i + 5 < L by omega) (by omega)) dL_law_487 ?_
    rw [nI_clamp (n := 6 * i + 5) (by omega), hp5]
    refine lv_if_eq (tgt := 495) hx hb dL_law_488 (by decide) (fun c_2 => ?_) (fun c_2 => ?_)
    · skip
      refine lv_iconst (v := 0) hx hb dL_law_495 (by decide) ?_
      refine sr_i (va_runV (As := [.int p0, .int p1, .int p2, .int p3, .int 0]) (rest := []) ⟨hx, hb, hml, hown, hts⟩ (M_X6_come_e1 l D cI n d d2 σ τ2 ω p0 p1 p2 p3 0 _ h1) (cwV 5 hts gL_law_X6_come rfl rfl rfl (by decide +kernel) ⟨Nat.le_of_ble_eq_true rfl, Nat.le_of_ble_eq_true rfl⟩) (wrV0 hK hP.right hD.right [0] rfl (ci := 6) (q0 := 0) rfl rfl) rfl rfl hl.1 rfl (lv_room (Nat.le_of_ble_eq_true rfl)) dL_law_496 ⟨(by show cells + _ ≤ room_1.cells; omega), (by show slots + _ ≤ room_1.slots; omega)⟩) hP hD hS hA (fun H locs hP hD hS => ?_)
      have hP : va_P D vwCl (((wLan b a a2 cI σ σ2 ω) ++ [(o, .inl (cJ, 1, .inr (.inl g)))]) ++ (wOutE n d d2 cI 1 (ω 19 0) (ω 1) (ω 2) (ω 14) (ω 15) ++ (wSta d (n 0) cI σ ++ wSta d2 (n 0) cI τ2))) H := hP
      have hD : va_D A (((wLan b a a2 cI σ σ2 ω) ++ [(o, .inl (cJ, 1, .inr (.inl g)))]) ++ (wOutE n d d2 cI 1 (ω 19 0) (ω 1) (ω 2) (ω 14) (ω 15) ++ (wSta d (n 0) cI σ ++ wSta d2 (n 0) cI τ2))) := hD
      refine lv_istore (lv' := [(6, .int 0), (5, .int 1), (0, .ref bs), (1, .ref (b 0)), (2, .ref (n 0)), (3, .ref o), (4, .int (nI (6 * i)))]) hx hb dL_law_499 hl (by decide) rfl (fun ls hl => ?_)
      refine lv_aload_n hx hb dL_law_501 rfl (lv_at hl 4 rfl) ?_
      refine rd_i (va_runV (As := []) (rest := []) ⟨hx, hb, hml, hown, hts⟩ (M_X6_thrown l D cI n d d2 σ τ2 (put ω 20 (fun _ => 1)) ) (cwV 0 hts gL_law_X6_thrown rfl rfl rfl (by decide +kernel) ⟨Nat.le_of_ble_eq_true rfl, Nat.le_of_ble_eq_true rfl⟩) (rdV0 hK hP.right [0] rfl (ci := 6) (q0 := 0) rfl rfl) rfl rfl hl.1 rfl (lv_room (Nat.le_of_ble_eq_true rfl)) dL_law_502 ⟨(by show cells + _ ≤ room_1.cells; omega), (by show slots + _ ≤ room_1.slots; omega)⟩) ?_
      refine W.eq (g2 := F0 m 505 ls [.int 1]) rfl ?_
      refine lv_iload hx hb dL_law_505 (lv_at hl 1 rfl) ?_
      refine lv_icmp_eq (tgt := 512) hx hb dL_law_507 (by decide) (fun c_3 => ?_) (fun c_3 => ?_)
      · skip
        refine lv_iload hx hb dL_law_512 (lv_at hl 1 rfl) ?_
        refine lv_if_ne (tgt := 529) hx hb dL_law_514 (by decide) (fun c_4 => ?_) (fun c_4 => ?_)
        · skip
          refine lv_goto (tgt := 1220) hx hb dL_law_529 (by decide) ?_
          have hP : va_P D vwCl (wAll b a a2 n d d2 cI cJ o σ σ2 (put ω 20 (fun _ => 1)) τ2 g) H := hP
          have hD : va_D A (wAll b a a2 n d d2 cI cJ o σ σ2 (put ω 20 (fun _ => 1)) τ2 g) := hD
          refine W.widen (k := cells + 23) (n := slots + 200) (by omega) (by omega) ?_
          exact kk σ σ2 (put ω 20 (fun _ => 1)) τ2 g h nc nw (iv_w (fun _ => 1) hI) (by omega) H locs hP hD hS ls (lv_sub hl [2, 3, 4, 5, 6] rfl)
        · skip
          exact absurd c_4 (by decide)
      · skip
        exact absurd rfl c_3
    · skip
      exact absurd hz c_2
  · skip
    exact absurd hz c_1
set_option maxHeartbeats 4000000 in
set_option maxRecDepth 100000 in
theorem LW_come_e2_0 {p : Program} {l : Launch} {e : Env} {s : State} {m : MethodId} {args : Array Value} {below : List Frame} {meth : Method} {c : Code} {A : Nat → Prop} {D : va_G} {cI cJ : ClassId} {bs L : Nat} {xs : Nat → Int32} (C : lwC p l s m args c A D cI cJ bs L xs) (b a a2 n d d2 : Nat → Nat) (o i h nc nw : Nat) (σ σ2 ω τ2 : St) (g : Nat → Int64) (p0 : Int32) (p1 : Int32) (p2 : Int32) (p3 : Int32) (z5 : Int32) (hI : lwI σ ω h nc nw) (hi : 6 * i + 6 ≤ L) (hbd : h + 1000 < 2 ^ 29) (hp1 : xs (6 * i + 1) = p0) (hp2 : xs (6 * i + 2) = p1) (hp3 : xs (6 * i + 3) = p2) (hp4 : xs (6 * i + 4) = p3) (hp5 : xs (6 * i + 5) = z5) (h1 : ((0 ≤ p0 ∧ p0 ≤ 11) ∧ (0 ≤ p1 ∧ p1 ≤ 2))) (h2 : ¬ ((1 ≤ p2 ∧ p2 ≤ 40) ∧ (0 ≤ p3 ∧ p3 ≤ 20))) (hz : z5 = 0) {H : Heap} {locs : List Loc} {cells slots : Nat} {Q : State → Prop} (hRc : cells + 100 ≤ room_1.cells) (hRs : slots + 1000 ≤ room_1.slots) (hP : va_P D vwCl (wAll b a a2 n d d2 cI cJ o σ σ2 ω τ2 g) H) (hD : va_D A (wAll b a a2 n d d2 cI cJ o σ σ2 ω τ2 g)) (hS : va_S A s.heap H locs) (ls : Array Slot) (hl : lv_has ls 9 [(0, .ref bs), (1, .ref (b 0)), (2, .ref (n 0)), (3, .ref o), (4, .int (nI (6 * i)))]) (kk : lwK p l e s m args below meth c A D cI cJ b a a2 n d d2 o bs i h cells slots Q) : W p l e room_1 s m args below meth c H locs cells slots Q (F0 m 412 ls []) := by
  obtain ⟨hx, hb, hml, hown, hts, hK, hEX, hX, hbl, hbA, hst, hA, hL⟩ := id C
  obtain ⟨hok, hnw, hw12⟩ := id hI
  have hnc := hok.1.2.1
  have hn8 := hok.1.2.2.1
  refine lv_aload_n hx hb dL_law_412 rfl (lv_at hl 1 rfl) ?_
  refine lv_aload_n hx hb dL_law_413 rfl (lv_at hl 0 rfl) ?_
  refine lv_iload hx hb dL_law_414 (lv_at hl 4 rfl) ?_
  refine lv_iconst (v := 1) hx hb dL_law_416 (by decide) ?_
  refine lv_iadd hx hb dL_law_417 ?_
  rw [show nI (6 * i) + 1 = nI (6 * i + 1) from nI_add (6 * i) 1]
  refine va_sld hx hb hX hbl hbA hS (vp_in_nI (show 6 * i + 1 < L by omega) (by omega)) dL_law_418 ?_
  rw [nI_clamp (n := 6 * i + 1) (by omega), hp1]
  refine lv_aload_n hx hb dL_law_419 rfl (lv_at hl 0 rfl) ?_
  refine lv_iload hx hb dL_law_420 (lv_at hl 4 rfl) ?_
  refine lv_iconst (v := 2) hx hb dL_law_422 (by decide) ?_
  refine lv_iadd hx hb dL_law_423 ?_
  rw [show nI (6 * i) + 2 = nI (6 * i + 2) from nI_add (6 * i) 2]
  refine va_sld hx hb hX hbl hbA hS (vp_in_nI (show 6 * i + 2 < L by omega) (by omega)) dL_law_424 ?_
  rw [nI_clamp (n := 6 * i + 2) (by omega), hp2]
  refine lv_aload_n hx hb dL_law_425 rfl (lv_at hl 0 rfl) ?_
  refine lv_iload hx hb dL_law_426 (lv_at hl 4 rfl) ?_
  refine lv_iconst (v := 3) hx hb dL_law_428 (by decide) ?_
  refine lv_iadd hx hb dL_law_429 ?_
  rw [show nI (6 * i) + 3 = nI (6 * i + 3) from nI_add (6 * i) 3]
  refine va_sld hx hb hX hbl hbA hS (vp_in_nI (show 6 * i + 3 < L by omega) (by omega)) dL_law_430 ?_
  rw [nI_clamp (n := 6 * i + 3) (by omega), hp3]
  refine lv_aload_n hx hb dL_law_431 rfl (lv_at hl 0 rfl) ?_
  refine lv_iload hx hb dL_law_432 (lv_at hl 4 rfl) ?_
  refine lv_iconst (v := 4) hx hb dL_law_434 (by decide) ?_
  refine lv_iadd hx hb dL_law_435 ?_
  rw [show nI (6 * i) + 4 = nI (6 * i + 4) from nI_add (6 * i) 4]
  refine va_sld hx hb hX hbl hbA hS (vp_in_nI (show 6 * i + 4 < L by omega) (by omega)) dL_law_436 ?_
  rw [nI_clamp (n := 6 * i + 4) (by omega), hp4]
  refine lv_aload_n hx hb dL_law_437 rfl (lv_at hl 0 rfl) ?_
  refine lv_iload hx hb dL_law_438 (lv_at hl 4 rfl) ?_
  refine lv_iconst (v := 5) hx hb dL_law_440 (by decide) ?_
  refine lv_iadd hx hb dL_law_441 ?_
  rw [show nI (6 * i) + 5 = nI (6 * i + 5) from nI_add (6 * i) 5]
  refine va_sld hx hb hX hbl hbA hS (vp_in_nI (show 6 * i + 5 < L by omega) (by omega)) dL_law_442 ?_
  rw [nI_clamp (n := 6 * i + 5) (by omega), hp5]
  refine lv_if_eq (tgt := 450) hx hb dL_law_443 (by decide) (fun c_1 => ?_) (fun c_1 => ?_)
  · skip
    refine lv_iconst (v := 0) hx hb dL_law_450 (by decide) ?_
    refine lv_aload_n hx hb dL_law_451 rfl (lv_at hl 3 rfl) ?_
    refine sl_i (vx_runSW (As := [.ref (b 0), .int p0, .int p1, .int p2, .int p3, .int 0, .ref o]) (rest := []) ⟨hx, hb, hml, hown, hts⟩ (M_L_come_e2 l D cI b a a2 σ σ2 ω p0 p1 p2 p3 0 o g cJ _ A hst h1 h2) (vx_cwSW 7 hts gL_law_L_come rfl rfl rfl (by decide +kernel) ⟨Nat.le_of_ble_eq_true rfl, Nat.le_of_ble_eq_true rfl⟩) (hxS0 hK hP.left hD.left hS hEX [0, 1] rfl) rfl rfl hl.1 rfl (lv_room (Nat.le_of_ble_eq_true rfl)) dL_law_452 ⟨(by show cells + _ ≤ room_1.cells; omega), (by show slots + _ ≤ room_1.slots; omega)⟩) hP hD hS hA (fun H locs hP hD hS => ?_)
    have hP : va_P D vwCl (((wLan b a a2 cI σ σ2 ω) ++ [(o, .inl (cJ, 1, .inr (.inl g)))]) ++ (wMod n d d2 cI σ τ2 ω)) H := hP
    have hD : va_D A (((wLan b a a2 cI σ σ2 ω) ++ [(o, .inl (cJ, 1, .inr (.inl g)))]) ++ (wMod n d d2 cI σ τ2 ω)) := hD
    refine lv_istore (lv' := [(5, .int 2), (0, .ref bs), (1, .ref (b 0)), (2, .ref (n 0)), (3, .ref o), (4, .int (nI (6 * i)))]) hx hb dL_law_455 hl (by decide) rfl (fun ls hl => ?_)
    refine lv_aload_n hx hb dL_law_457 rfl (lv_at hl 3 rfl) ?_
    refine lv_aload_n hx hb dL_law_458 rfl (lv_at hl 1 rfl) ?_
    refine lv_iload hx hb dL_law_459 (lv_at hl 5 rfl) ?_
    refine lv_iconst (v := 1) hx hb dL_law_461 (by decide) ?_
    refine lv_iadd hx hb dL_law_462 ?_
    rw [show nI (6 * i) + 1 = nI (6 * i + 1) from nI_add (6 * i) 1]
    refine va_sld hx hb hX hbl hbA hS (vp_in_nI (show 6 * i + 1 < L by omega) (by omega)) dL_law_463 ?_
    rw [nI_clamp (n := 6 * i + 1) (by omega), hp1]
    refine lv_aload_n hx hb dL_law_464 rfl (lv_at hl 1 rfl) ?_
    refine lv_iload hx hb dL_law_465 (lv_at hl 5 rfl) ?_
    refine lv_iconst (v := 2) hx hb dL_law_467 (by decide) ?_
    refine lv_iadd hx hb dL_law_468 ?_
    rw [show nI (6 * i) + 2 = nI (6 * i + 2) from nI_add (6 * i) 2]
    refine va_sld hx hb hX hbl hbA hS (vp_in_nI (show 6 * i + 2 < L by omega) (by omega)) dL_law_469 ?_
    rw [nI_clamp (n := 6 * i + 2) (by omega), hp2]
    refine lv_aload_n hx hb dL_law_470 rfl (lv_at hl 1 rfl) ?_
    refine lv_iload hx hb dL_law_471 (lv_at hl 5 rfl) ?_
    refine lv_iconst (v := 3) hx hb dL_law_473 (by decide) ?_
    refine lv_iadd hx hb dL_law_474 ?_
    rw [show nI (6 * i) + 3 = nI (6 * i + 3) from nI_add (6 * i) 3]
    refine va_sld hx hb hX hbl hbA hS (vp_in_nI (show 6 * i + 3 < L by omega) (by omega)) dL_law_475 ?_
    rw [nI_clamp (n := 6 * i + 3) (by omega), hp3]
    refine lv_aload_n hx hb dL_law_476 rfl (lv_at hl 1 rfl) ?_
    refine lv_iload hx hb dL_law_477 (lv_at hl 5 rfl) ?_
    refine lv_iconst (v := 4) hx hb dL_law_479 (by decide) ?_
    refine lv_iadd hx hb dL_law_480 ?_
    rw [show nI (6 * i) + 4 = nI (6 * i + 4) from nI_add (6 * i) 4]
    refine va_sld hx hb hX hbl hbA hS (vp_in_nI (show 6 * i + 4 < L by omega) (by omega)) dL_law_481 ?_
    rw [nI_clamp (n := 6 * i + 4) (by omega), hp4]
    refine lv_aload_n hx hb dL_law_482 rfl (lv_at hl 1 rfl) ?_
    refine lv_iload hx hb dL_law_483 (lv_at hl 5 rfl) ?_
    refine lv_iconst (v := 5) hx hb dL_law_485 (by decide) ?_
    refine lv_iadd hx hb dL_law_486 ?_
    rw [show nI (6 * i) + 5 = nI (6 * i + 5) from nI_add (6 * i) 5]
    refine va_sld hx hb hX hbl hbA hS (vp_in_nI (show 6 * i + 5 < L by omega) (by omega)) dL_law_487 ?_
    rw [nI_clamp (n := 6 * i + 5) (by omega), hp5]
    refine lv_if_eq (tgt := 495) hx hb dL_law_488 (by decide) (fun c_2 => ?_) (fun c_2 => ?_)
    · skip
      refine lv_iconst (v := 0) hx hb dL_law_495 (by decide) ?_
      refine sr_i (va_runV (As := [.int p0, .int p1, .int p2, .int p3, .int 0]) (rest := []) ⟨hx, hb, hml, hown, hts⟩ (M_X6_come_e2 l D cI n d d2 σ τ2 ω p0 p1 p2 p3 0 _ h1 h2) (cwV 5 hts gL_law_X6_come rfl rfl rfl (by decide +kernel) ⟨Nat.le_of_ble_eq_true rfl, Nat.le_of_ble_eq_true rfl⟩) (wrV0 hK hP.right hD.right [0] rfl (ci := 6) (q0 := 0) rfl rfl) rfl rfl hl.1 rfl (lv_room (Nat.le_of_ble_eq_true rfl)) dL_law_496 ⟨(by show cells + _ ≤ room_1.cells; omega), (by show slots + _ ≤ room_1.slots; omega)⟩) hP hD hS hA (fun H locs hP hD hS => ?_)
      have hP : va_P D vwCl (((wLan b a a2 cI σ σ2 ω) ++ [(o, .inl (cJ, 1, .inr (.inl g)))]) ++ (wOutE n d d2 cI 2 (ω 19 0) (ω 1) (ω 2) (ω 14) (ω 15) ++ (wSta d (n 0) cI σ ++ wSta d2 (n 0) cI τ2))) H := hP
      have hD : va_D A (((wLan b a a2 cI σ σ2 ω) ++ [(o, .inl (cJ, 1, .inr (.inl g)))]) ++ (wOutE n d d2 cI 2 (ω 19 0) (ω 1) (ω 2) (ω 14) (ω 15) ++ (wSta d (n 0) cI σ ++ wSta d2 (n 0) cI τ2))) := hD
      refine lv_istore (lv' := [(6, .int 0), (5, .int 2), (0, .ref bs), (1, .ref (b 0)), (2, .ref (n 0)), (3, .ref o), (4, .int (nI (6 * i)))]) hx hb dL_law_499 hl (by decide) rfl (fun ls hl => ?_)
      refine lv_aload_n hx hb dL_law_501 rfl (lv_at hl 4 rfl) ?_
      refine rd_i (va_runV (As := []) (rest := []) ⟨hx, hb, hml, hown, hts⟩ (M_X6_thrown l D cI n d d2 σ τ2 (put ω 20 (fun _ => 2)) ) (cwV 0 hts gL_law_X6_thrown rfl rfl rfl (by decide +kernel) ⟨Nat.le_of_ble_eq_true rfl, Nat.le_of_ble_eq_true rfl⟩) (rdV0 hK hP.right [0] rfl (ci := 6) (q0 := 0) rfl rfl) rfl rfl hl.1 rfl (lv_room (Nat.le_of_ble_eq_true rfl)) dL_law_502 ⟨(by show cells + _ ≤ room_1.cells; omega), (by show slots + _ ≤ room_1.slots; omega)⟩) ?_
      refine W.eq (g2 := F0 m 505 ls [.int 2]) rfl ?_
      refine lv_iload hx hb dL_law_505 (lv_at hl 1 rfl) ?_
      refine lv_icmp_eq (tgt := 512) hx hb dL_law_507 (by decide) (fun c_3 => ?_) (fun c_3 => ?_)
      · skip
        refine lv_iload hx hb dL_law_512 (lv_at hl 1 rfl) ?_
        refine lv_if_ne (tgt := 529) hx hb dL_law_514 (by decide) (fun c_4 => ?_) (fun c_4 => ?_)
        · skip
          refine lv_goto (tgt := 1220) hx hb dL_law_529 (by decide) ?_
          have hP : va_P D vwCl (wAll b a a2 n d d2 cI cJ o σ σ2 (put ω 20 (fun _ => 2)) τ2 g) H := hP
          have hD : va_D A (wAll b a a2 n d d2 cI cJ o σ σ2 (put ω 20 (fun _ => 2)) τ2 g) := hD
          refine W.widen (k := cells + 23) (n := slots + 200) (by omega) (by omega) ?_
          exact kk σ σ2 (put ω 20 (fun _ => 2)) τ2 g h nc nw (iv_w (fun _ => 2) hI) (by omega) H locs hP hD hS ls (lv_sub hl [2, 3, 4, 5, 6] rfl)
        · skip
          exact absurd c_4 (by decide)
      · skip
        exact absurd rfl c_3
    · skip
      exact absurd hz c_2
  · skip
    exact absurd hz c_1
set_option maxHeartbeats 4000000 in
set_option maxRecDepth 100000 in
theorem LW_come_e3_0 {p : Program} {l : Launch} {e : Env} {s : State} {m : MethodId} {args : Array Value} {below : List Frame} {meth : Method} {c : Code} {A : Nat → Prop} {D : va_G} {cI cJ : ClassId} {bs L : Nat} {xs : Nat → Int32} (C : lwC p l s m args c A D cI cJ bs L xs) (b a a2 n d d2 : Nat → Nat) (o i h nc nw : Nat) (σ σ2 ω τ2 : St) (g : Nat → Int64) (sn : Nat) (ln : Nat) (p2 : Int32) (p3 : Int32) (z5 : Int32) (hI : lwI σ ω h nc nw) (hi : 6 * i + 6 ≤ L) (hbd : h + 1000 < 2 ^ 29) (hp1 : xs (6 * i + 1) = nI sn) (hp2 : xs (6 * i + 2) = nI ln) (hp3 : xs (6 * i + 3) = p2) (hp4 : xs (6 * i + 4) = p3) (hp5 : xs (6 * i + 5) = z5) (hs : sn < 12) (hl9 : ln < 3) (h1 : ((0 ≤ nI sn ∧ nI sn ≤ 11) ∧ (0 ≤ nI ln ∧ nI ln ≤ 2))) (h2 : (1 ≤ p2 ∧ p2 ≤ 40)) (h3 : (0 ≤ p3 ∧ p3 ≤ 20)) (h4 : σ 17 0 = 8 ∨ ¬ p2 + p3 ≤ sound (σ 3) (σ 4) (nI sn) (nI ln)) (hz : z5 = 0) {H : Heap} {locs : List Loc} {cells slots : Nat} {Q : State → Prop} (hRc : cells + 100 ≤ room_1.cells) (hRs : slots + 1000 ≤ room_1.slots) (hP : va_P D vwCl (wAll b a a2 n d d2 cI cJ o σ σ2 ω τ2 g) H) (hD : va_D A (wAll b a a2 n d d2 cI cJ o σ σ2 ω τ2 g)) (hS : va_S A s.heap H locs) (ls : Array Slot) (hl : lv_has ls 9 [(0, .ref bs), (1, .ref (b 0)), (2, .ref (n 0)), (3, .ref o), (4, .int (nI (6 * i)))]) (kk : lwK p l e s m args below meth c A D cI cJ b a a2 n d d2 o bs i h cells slots Q) : W p l e room_1 s m args below meth c H locs cells slots Q (F0 m 412 ls []) := by
  obtain ⟨hx, hb, hml, hown, hts, hK, hEX, hX, hbl, hbA, hst, hA, hL⟩ := id C
  obtain ⟨hok, hnw, hw12⟩ := id hI
  have hnc := hok.1.2.1
  have hn8 := hok.1.2.2.1
  refine lv_aload_n hx hb dL_law_412 rfl (lv_at hl 1 rfl) ?_
  refine lv_aload_n hx hb dL_law_413 rfl (lv_at hl 0 rfl) ?_
  refine lv_iload hx hb dL_law_414 (lv_at hl 4 rfl) ?_
  refine lv_iconst (v := 1) hx hb dL_law_416 (by decide) ?_
  refine lv_iadd hx hb dL_law_417 ?_
  rw [show nI (6 * i) + 1 = nI (6 * i + 1) from nI_add (6 * i) 1]
  refine va_sld hx hb hX hbl hbA hS (vp_in_nI (show 6 * i + 1 < L by omega) (by omega)) dL_law_418 ?_
  rw [nI_clamp (n := 6 * i + 1) (by omega), hp1]
  refine lv_aload_n hx hb dL_law_419 rfl (lv_at hl 0 rfl) ?_
  refine lv_iload hx hb dL_law_420 (lv_at hl 4 rfl) ?_
  refine lv_iconst (v := 2) hx hb dL_law_422 (by decide) ?_
  refine lv_iadd hx hb dL_law_423 ?_
  rw [show nI (6 * i) + 2 = nI (6 * i + 2) from nI_add (6 * i) 2]
  refine va_sld hx hb hX hbl hbA hS (vp_in_nI (show 6 * i + 2 < L by omega) (by omega)) dL_law_424 ?_
  rw [nI_clamp (n := 6 * i + 2) (by omega), hp2]
  refine lv_aload_n hx hb dL_law_425 rfl (lv_at hl 0 rfl) ?_
  refine lv_iload hx hb dL_law_426 (lv_at hl 4 rfl) ?_
  refine lv_iconst (v := 3) hx hb dL_law_428 (by decide) ?_
  refine lv_iadd hx hb dL_law_429 ?_
  rw [show nI (6 * i) + 3 = nI (6 * i + 3) from nI_add (6 * i) 3]
  refine va_sld hx hb hX hbl hbA hS (vp_in_nI (show 6 * i + 3 < L by omega) (by omega)) dL_law_430 ?_
  rw [nI_clamp (n := 6 * i + 3) (by omega), hp3]
  refine lv_aload_n hx hb dL_law_431 rfl (lv_at hl 0 rfl) ?_
  refine lv_iload hx hb dL_law_432 (lv_at hl 4 rfl) ?_
  refine lv_iconst (v := 4) hx hb dL_law_434 (by decide) ?_
  refine lv_iadd hx hb dL_law_435 ?_
  rw [show nI (6 * i) + 4 = nI (6 * i + 4) from nI_add (6 * i) 4]
  refine va_sld hx hb hX hbl hbA hS (vp_in_nI (show 6 * i + 4 < L by omega) (by omega)) dL_law_436 ?_
  rw [nI_clamp (n := 6 * i + 4) (by omega), hp4]
  refine lv_aload_n hx hb dL_law_437 rfl (lv_at hl 0 rfl) ?_
  refine lv_iload hx hb dL_law_438 (lv_at hl 4 rfl) ?_
  refine lv_iconst (v := 5) hx hb dL_law_440 (by decide) ?_
  refine lv_iadd hx hb dL_law_441 ?_
  rw [show nI (6 * i) + 5 = nI (6 * i + 5) from nI_add (6 * i) 5]
  refine va_sld hx hb hX hbl hbA hS (vp_in_nI (show 6 * i + 5 < L by omega) (by omega)) dL_law_442 ?_
  rw [nI_clamp (n := 6 * i + 5) (by omega), hp5]
  refine lv_if_eq (tgt := 450) hx hb dL_law_443 (by decide) (fun c_1 => ?_) (fun c_1 => ?_)
  · skip
    refine lv_iconst (v := 0) hx hb dL_law_450 (by decide) ?_
    refine lv_aload_n hx hb dL_law_451 rfl (lv_at hl 3 rfl) ?_
    refine sl_i (vx_runSW (As := [.ref (b 0), .int (nI sn), .int (nI ln), .int p2, .int p3, .int 0, .ref o]) (rest := []) ⟨hx, hb, hml, hown, hts⟩ (M_L_come_e3 l D cI b a a2 σ σ2 ω sn ln p2 p3 0 o g cJ _ A hst hs hl9 h1 h2 h3 h4) (vx_cwSW 7 hts gL_law_L_come rfl rfl rfl (by decide +kernel) ⟨Nat.le_of_ble_eq_true rfl, Nat.le_of_ble_eq_true rfl⟩) (hxS0 hK hP.left hD.left hS hEX [0, 1] rfl) rfl rfl hl.1 rfl (lv_room (Nat.le_of_ble_eq_true rfl)) dL_law_452 ⟨(by show cells + _ ≤ room_1.cells; omega), (by show slots + _ ≤ room_1.slots; omega)⟩) hP hD hS hA (fun H locs hP hD hS => ?_)
    have hP : va_P D vwCl (((wLan b a a2 cI σ σ2 ω) ++ [(o, .inl (cJ, 1, .inr (.inl g)))]) ++ (wMod n d d2 cI σ τ2 ω)) H := hP
    have hD : va_D A (((wLan b a a2 cI σ σ2 ω) ++ [(o, .inl (cJ, 1, .inr (.inl g)))]) ++ (wMod n d d2 cI σ τ2 ω)) := hD
    refine lv_istore (lv' := [(5, .int 3), (0, .ref bs), (1, .ref (b 0)), (2, .ref (n 0)), (3, .ref o), (4, .int (nI (6 * i)))]) hx hb dL_law_455 hl (by decide) rfl (fun ls hl => ?_)
    refine lv_aload_n hx hb dL_law_457 rfl (lv_at hl 3 rfl) ?_
    refine lv_aload_n hx hb dL_law_458 rfl (lv_at hl 1 rfl) ?_
    refine lv_iload hx hb dL_law_459 (lv_at hl 5 rfl) ?_
    refine lv_iconst (v := 1) hx hb dL_law_461 (by decide) ?_
    refine lv_iadd hx hb dL_law_462 ?_
    rw [show nI (6 * i) + 1 = nI (6 * i + 1) from nI_add (6 * i) 1]
    refine va_sld hx hb hX hbl hbA hS (vp_in_nI (show 6 * i + 1 < L by omega) (by omega)) dL_law_463 ?_
    rw [nI_clamp (n := 6 * i + 1) (by omega), hp1]
    refine lv_aload_n hx hb dL_law_464 rfl (lv_at hl 1 rfl) ?_
    refine lv_iload hx hb dL_law_465 (lv_at hl 5 rfl) ?_
    refine lv_iconst (v := 2) hx hb dL_law_467 (by decide) ?_
    refine lv_iadd hx hb dL_law_468 ?_
    rw [show nI (6 * i) + 2 = nI (6 * i + 2) from nI_add (6 * i) 2]
    refine va_sld hx hb hX hbl hbA hS (vp_in_nI (show 6 * i + 2 < L by omega) (by omega)) dL_law_469 ?_
    rw [nI_clamp (n := 6 * i + 2) (by omega), hp2]
    refine lv_aload_n hx hb dL_law_470 rfl (lv_at hl 1 rfl) ?_
    refine lv_iload hx hb dL_law_471 (lv_at hl 5 rfl) ?_
    refine lv_iconst (v := 3) hx hb dL_law_473 (by decide) ?_
    refine lv_iadd hx hb dL_law_474 ?_
    rw [show nI (6 * i) + 3 = nI (6 * i + 3) from nI_add (6 * i) 3]
    refine va_sld hx hb hX hbl hbA hS (vp_in_nI (show 6 * i + 3 < L by omega) (by omega)) dL_law_475 ?_
    rw [nI_clamp (n := 6 * i + 3) (by omega), hp3]
    refine lv_aload_n hx hb dL_law_476 rfl (lv_at hl 1 rfl) ?_
    refine lv_iload hx hb dL_law_477 (lv_at hl 5 rfl) ?_
    refine lv_iconst (v := 4) hx hb dL_law_479 (by decide) ?_
    refine lv_iadd hx hb dL_law_480 ?_
    rw [show nI (6 * i) + 4 = nI (6 * i + 4) from nI_add (6 * i) 4]
    refine va_sld hx hb hX hbl hbA hS (vp_in_nI (show 6 * i + 4 < L by omega) (by omega)) dL_law_481 ?_
    rw [nI_clamp (n := 6 * i + 4) (by omega), hp4]
    refine lv_aload_n hx hb dL_law_482 rfl (lv_at hl 1 rfl) ?_
    refine lv_iload hx hb dL_law_483 (lv_at hl 5 rfl) ?_
    refine lv_iconst (v := 5) hx hb dL_law_485 (by decide) ?_
    refine lv_iadd hx hb dL_law_486 ?_
    rw [show nI (6 * i) + 5 = nI (6 * i + 5) from nI_add (6 * i) 5]
    refine va_sld hx hb hX hbl hbA hS (vp_in_nI (show 6 * i + 5 < L by omega) (by omega)) dL_law_487 ?_
    rw [nI_clamp (n := 6 * i + 5) (by omega), hp5]
    refine lv_if_eq (tgt := 495) hx hb dL_law_488 (by decide) (fun c_2 => ?_) (fun c_2 => ?_)
    · skip
      refine lv_iconst (v := 0) hx hb dL_law_495 (by decide) ?_
      refine sr_i (va_runV (As := [.int (nI sn), .int (nI ln), .int p2, .int p3, .int 0]) (rest := []) ⟨hx, hb, hml, hown, hts⟩ (M_X6_come_e3 l D cI n d d2 σ τ2 ω sn ln p2 p3 0 _ hs hl9 h1 h2 h3 (by rw [← sound_nI]; exact h4)) (cwV 5 hts gL_law_X6_come rfl rfl rfl (by decide +kernel) ⟨Nat.le_of_ble_eq_true rfl, Nat.le_of_ble_eq_true rfl⟩) (wrV0 hK hP.right hD.right [0] rfl (ci := 6) (q0 := 0) rfl rfl) rfl rfl hl.1 rfl (lv_room (Nat.le_of_ble_eq_true rfl)) dL_law_496 ⟨(by show cells + _ ≤ room_1.cells; omega), (by show slots + _ ≤ room_1.slots; omega)⟩) hP hD hS hA (fun H locs hP hD hS => ?_)
      have hP : va_P D vwCl (((wLan b a a2 cI σ σ2 ω) ++ [(o, .inl (cJ, 1, .inr (.inl g)))]) ++ (wOutE n d d2 cI 3 (ω 19 0) (ω 1) (ω 2) (ω 14) (ω 15) ++ (wSta d (n 0) cI σ ++ wSta d2 (n 0) cI τ2))) H := hP
      have hD : va_D A (((wLan b a a2 cI σ σ2 ω) ++ [(o, .inl (cJ, 1, .inr (.inl g)))]) ++ (wOutE n d d2 cI 3 (ω 19 0) (ω 1) (ω 2) (ω 14) (ω 15) ++ (wSta d (n 0) cI σ ++ wSta d2 (n 0) cI τ2))) := hD
      refine lv_istore (lv' := [(6, .int 0), (5, .int 3), (0, .ref bs), (1, .ref (b 0)), (2, .ref (n 0)), (3, .ref o), (4, .int (nI (6 * i)))]) hx hb dL_law_499 hl (by decide) rfl (fun ls hl => ?_)
      refine lv_aload_n hx hb dL_law_501 rfl (lv_at hl 4 rfl) ?_
      refine rd_i (va_runV (As := []) (rest := []) ⟨hx, hb, hml, hown, hts⟩ (M_X6_thrown l D cI n d d2 σ τ2 (put ω 20 (fun _ => 3)) ) (cwV 0 hts gL_law_X6_thrown rfl rfl rfl (by decide +kernel) ⟨Nat.le_of_ble_eq_true rfl, Nat.le_of_ble_eq_true rfl⟩) (rdV0 hK hP.right [0] rfl (ci := 6) (q0 := 0) rfl rfl) rfl rfl hl.1 rfl (lv_room (Nat.le_of_ble_eq_true rfl)) dL_law_502 ⟨(by show cells + _ ≤ room_1.cells; omega), (by show slots + _ ≤ room_1.slots; omega)⟩) ?_
      refine W.eq (g2 := F0 m 505 ls [.int 3]) rfl ?_
      refine lv_iload hx hb dL_law_505 (lv_at hl 1 rfl) ?_
      refine lv_icmp_eq (tgt := 512) hx hb dL_law_507 (by decide) (fun c_3 => ?_) (fun c_3 => ?_)
      · skip
        refine lv_iload hx hb dL_law_512 (lv_at hl 1 rfl) ?_
        refine lv_if_ne (tgt := 529) hx hb dL_law_514 (by decide) (fun c_4 => ?_) (fun c_4 => ?_)
        · skip
          refine lv_goto (tgt := 1220) hx hb dL_law_529 (by decide) ?_
          have hP : va_P D vwCl (wAll b a a2 n d d2 cI cJ o σ σ2 (put ω 20 (fun _ => 3)) τ2 g) H := hP
          have hD : va_D A (wAll b a a2 n d d2 cI cJ o σ σ2 (put ω 20 (fun _ => 3)) τ2 g) := hD
          refine W.widen (k := cells + 23) (n := slots + 200) (by omega) (by omega) ?_
          exact kk σ σ2 (put ω 20 (fun _ => 3)) τ2 g h nc nw (iv_w (fun _ => 3) hI) (by omega) H locs hP hD hS ls (lv_sub hl [2, 3, 4, 5, 6] rfl)
        · skip
          exact absurd c_4 (by decide)
      · skip
        exact absurd rfl c_3
    · skip
      exact absurd hz c_2
  · skip
    exact absurd hz c_1
set_option maxHeartbeats 4000000 in
set_option maxRecDepth 100000 in
theorem LW_come_ok0 {p : Program} {l : Launch} {e : Env} {s : State} {m : MethodId} {args : Array Value} {below : List Frame} {meth : Method} {c : Code} {A : Nat → Prop} {D : va_G} {cI cJ : ClassId} {bs L : Nat} {xs : Nat → Int32} (C : lwC p l s m args c A D cI cJ bs L xs) (b a a2 n d d2 : Nat → Nat) (o i h nc nw : Nat) (σ σ2 ω τ2 : St) (g : Nat → Int64) (sn : Nat) (ln : Nat) (p2 : Int32) (p3 : Int32) (z5 : Int32) (hI : lwI σ ω h nc nw) (hi : 6 * i + 6 ≤ L) (hbd : h + 1000 < 2 ^ 29) (hp1 : xs (6 * i + 1) = nI sn) (hp2 : xs (6 * i + 2) = nI ln) (hp3 : xs (6 * i + 3) = p2) (hp4 : xs (6 * i + 4) = p3) (hp5 : xs (6 * i + 5) = z5) (hs : sn < 12) (hl9 : ln < 3) (h1 : ((0 ≤ nI sn ∧ nI sn ≤ 11) ∧ (0 ≤ nI ln ∧ nI ln ≤ 2))) (h2 : (1 ≤ p2 ∧ p2 ≤ 40)) (h3 : (0 ≤ p3 ∧ p3 ≤ 20)) (hn7 : nc < 8) (h4 : p2 + p3 ≤ sound (σ 3) (σ 4) (nI sn) (nI ln)) (hz : z5 = 0) {H : Heap} {locs : List Loc} {cells slots : Nat} {Q : State → Prop} (hRc : cells + 100 ≤ room_1.cells) (hRs : slots + 1000 ≤ room_1.slots) (hP : va_P D vwCl (wAll b a a2 n d d2 cI cJ o σ σ2 ω τ2 g) H) (hD : va_D A (wAll b a a2 n d d2 cI cJ o σ σ2 ω τ2 g)) (hS : va_S A s.heap H locs) (ls : Array Slot) (hl : lv_has ls 9 [(0, .ref bs), (1, .ref (b 0)), (2, .ref (n 0)), (3, .ref o), (4, .int (nI (6 * i)))]) (kk : lwK p l e s m args below meth c A D cI cJ b a a2 n d d2 o bs i h cells slots Q) : W p l e room_1 s m args below meth c H locs cells slots Q (F0 m 412 ls []) := by
  obtain ⟨hx, hb, hml, hown, hts, hK, hEX, hX, hbl, hbA, hst, hA, hL⟩ := id C
  obtain ⟨hok, hnw, hw12⟩ := id hI
  have hnc := hok.1.2.1
  have hn8 := hok.1.2.2.1
  refine lv_aload_n hx hb dL_law_412 rfl (lv_at hl 1 rfl) ?_
  refine lv_aload_n hx hb dL_law_413 rfl (lv_at hl 0 rfl) ?_
  refine lv_iload hx hb dL_law_414 (lv_at hl 4 rfl) ?_
  refine lv_iconst (v := 1) hx hb dL_law_416 (by decide) ?_
  refine lv_iadd hx hb dL_law_417 ?_
  rw [show nI (6 * i) + 1 = nI (6 * i + 1) from nI_add (6 * i) 1]
  refine va_sld hx hb hX hbl hbA hS (vp_in_nI (show 6 * i + 1 < L by omega) (by omega)) dL_law_418 ?_
  rw [nI_clamp (n := 6 * i + 1) (by omega), hp1]
  refine lv_aload_n hx hb dL_law_419 rfl (lv_at hl 0 rfl) ?_
  refine lv_iload hx hb dL_law_420 (lv_at hl 4 rfl) ?_
  refine lv_iconst (v := 2) hx hb dL_law_422 (by decide) ?_
  refine lv_iadd hx hb dL_law_423 ?_
  rw [show nI (6 * i) + 2 = nI (6 * i + 2) from nI_add (6 * i) 2]
  refine va_sld hx hb hX hbl hbA hS (vp_in_nI (show 6 * i + 2 < L by omega) (by omega)) dL_law_424 ?_
  rw [nI_clamp (n := 6 * i + 2) (by omega), hp2]
  refine lv_aload_n hx hb dL_law_425 rfl (lv_at hl 0 rfl) ?_
  refine lv_iload hx hb dL_law_426 (lv_at hl 4 rfl) ?_
  refine lv_iconst (v := 3) hx hb dL_law_428 (by decide) ?_
  refine lv_iadd hx hb dL_law_429 ?_
  rw [show nI (6 * i) + 3 = nI (6 * i + 3) from nI_add (6 * i) 3]
  refine va_sld hx hb hX hbl hbA hS (vp_in_nI (show 6 * i + 3 < L by omega) (by omega)) dL_law_430 ?_
  rw [nI_clamp (n := 6 * i + 3) (by omega), hp3]
  refine lv_aload_n hx hb dL_law_431 rfl (lv_at hl 0 rfl) ?_
  refine lv_iload hx hb dL_law_432 (lv_at hl 4 rfl) ?_
  refine lv_iconst (v := 4) hx hb dL_law_434 (by decide) ?_
  refine lv_iadd hx hb dL_law_435 ?_
  rw [show nI (6 * i) + 4 = nI (6 * i + 4) from nI_add (6 * i) 4]
  refine va_sld hx hb hX hbl hbA hS (vp_in_nI (show 6 * i + 4 < L by omega) (by omega)) dL_law_436 ?_
  rw [nI_clamp (n := 6 * i + 4) (by omega), hp4]
  refine lv_aload_n hx hb dL_law_437 rfl (lv_at hl 0 rfl) ?_
  refine lv_iload hx hb dL_law_438 (lv_at hl 4 rfl) ?_
  refine lv_iconst (v := 5) hx hb dL_law_440 (by decide) ?_
  refine lv_iadd hx hb dL_law_441 ?_
  rw [show nI (6 * i) + 5 = nI (6 * i + 5) from nI_add (6 * i) 5]
  refine va_sld hx hb hX hbl hbA hS (vp_in_nI (show 6 * i + 5 < L by omega) (by omega)) dL_law_442 ?_
  rw [nI_clamp (n := 6 * i + 5) (by omega), hp5]
  refine lv_if_eq (tgt := 450) hx hb dL_law_443 (by decide) (fun c_1 => ?_) (fun c_1 => ?_)
  · skip
    refine lv_iconst (v := 0) hx hb dL_law_450 (by decide) ?_
    refine lv_aload_n hx hb dL_law_451 rfl (lv_at hl 3 rfl) ?_
    refine sl_i (vx_runSW (As := [.ref (b 0), .int (nI sn), .int (nI ln), .int p2, .int p3, .int 0, .ref o]) (rest := []) ⟨hx, hb, hml, hown, hts⟩ (M_L_come_ok0 l D cI b a a2 σ σ2 ω sn ln p2 p3 0 nc o g cJ _ hs hl9 h1 h2 h3 hnc hn7 h4 (by decide)) (vx_cwSW 7 hts gL_law_L_come rfl rfl rfl (by decide +kernel) ⟨Nat.le_of_ble_eq_true rfl, Nat.le_of_ble_eq_true rfl⟩) (wrS0 hK hP.left hD.left [0, 1] rfl) rfl rfl hl.1 rfl (lv_room (Nat.le_of_ble_eq_true rfl)) dL_law_452 ⟨(by show cells + _ ≤ room_1.cells; omega), (by show slots + _ ≤ room_1.slots; omega)⟩) hP hD hS hA (fun H locs hP hD hS => ?_)
    have hP : va_P D vwCl (((wTopE b a a2 ++ (wWag b cI ω ++ (wRivE a cI (σ 0 0) (σ 16 0) (σ 1) (σ 2) (σ 3) (σ 4) (nI (nc + 1)) (upd ((σ 5)) nc p2) (upd ((σ 6)) nc p3) (upd ((σ 7)) nc 20) (upd ((σ 8)) nc (nI sn)) (upd ((σ 9)) nc (nI ln)) (upd ((σ 10)) nc (nI sn)) (upd ((σ 11)) nc 0) (upd ((σ 12)) nc 0) (upd ((σ 13)) nc 1) ++ wRiv a2 cI σ2))) ++ [(o, .inl (cJ, 1, .inr (.inl (vp_updL g 0 (nI nc).toInt64))))]) ++ (wMod n d d2 cI σ τ2 ω)) H := hP
    have hD : va_D A (((wTopE b a a2 ++ (wWag b cI ω ++ (wRivE a cI (σ 0 0) (σ 16 0) (σ 1) (σ 2) (σ 3) (σ 4) (nI (nc + 1)) (upd ((σ 5)) nc p2) (upd ((σ 6)) nc p3) (upd ((σ 7)) nc 20) (upd ((σ 8)) nc (nI sn)) (upd ((σ 9)) nc (nI ln)) (upd ((σ 10)) nc (nI sn)) (upd ((σ 11)) nc 0) (upd ((σ 12)) nc 0) (upd ((σ 13)) nc 1) ++ wRiv a2 cI σ2))) ++ [(o, .inl (cJ, 1, .inr (.inl (vp_updL g 0 (nI nc).toInt64))))]) ++ (wMod n d d2 cI σ τ2 ω)) := hD
    refine lv_istore (lv' := [(5, .int 0), (0, .ref bs), (1, .ref (b 0)), (2, .ref (n 0)), (3, .ref o), (4, .int (nI (6 * i)))]) hx hb dL_law_455 hl (by decide) rfl (fun ls hl => ?_)
    refine lv_aload_n hx hb dL_law_457 rfl (lv_at hl 3 rfl) ?_
    refine lv_aload_n hx hb dL_law_458 rfl (lv_at hl 1 rfl) ?_
    refine lv_iload hx hb dL_law_459 (lv_at hl 5 rfl) ?_
    refine lv_iconst (v := 1) hx hb dL_law_461 (by decide) ?_
    refine lv_iadd hx hb dL_law_462 ?_
    rw [show nI (6 * i) + 1 = nI (6 * i + 1) from nI_add (6 * i) 1]
    refine va_sld hx hb hX hbl hbA hS (vp_in_nI (show 6 * i + 1 < L by omega) (by omega)) dL_law_463 ?_
    rw [nI_clamp (n := 6 * i + 1) (by omega), hp1]
    refine lv_aload_n hx hb dL_law_464 rfl (lv_at hl 1 rfl) ?_
    refine lv_iload hx hb dL_law_465 (lv_at hl 5 rfl) ?_
    refine lv_iconst (v := 2) hx hb dL_law_467 (by decide) ?_
    refine lv_iadd hx hb dL_law_468 ?_
    rw [show nI (6 * i) + 2 = nI (6 * i + 2) from nI_add (6 * i) 2]
    refine va_sld hx hb hX hbl hbA hS (vp_in_nI (show 6 * i + 2 < L by omega) (by omega)) dL_law_469 ?_
    rw [nI_clamp (n := 6 * i + 2) (by omega), hp2]
    refine lv_aload_n hx hb dL_law_470 rfl (lv_at hl 1 rfl) ?_
    refine lv_iload hx hb dL_law_471 (lv_at hl 5 rfl) ?_
    refine lv_iconst (v := 3) hx hb dL_law_473 (by decide) ?_
    refine lv_iadd hx hb dL_law_474 ?_
    rw [show nI (6 * i) + 3 = nI (6 * i + 3) from nI_add (6 * i) 3]
    refine va_sld hx hb hX hbl hbA hS (vp_in_nI (show 6 * i + 3 < L by omega) (by omega)) dL_law_475 ?_
    rw [nI_clamp (n := 6 * i + 3) (by omega), hp3]
    refine lv_aload_n hx hb dL_law_476 rfl (lv_at hl 1 rfl) ?_
    refine lv_iload hx hb dL_law_477 (lv_at hl 5 rfl) ?_
    refine lv_iconst (v := 4) hx hb dL_law_479 (by decide) ?_
    refine lv_iadd hx hb dL_law_480 ?_
    rw [show nI (6 * i) + 4 = nI (6 * i + 4) from nI_add (6 * i) 4]
    refine va_sld hx hb hX hbl hbA hS (vp_in_nI (show 6 * i + 4 < L by omega) (by omega)) dL_law_481 ?_
    rw [nI_clamp (n := 6 * i + 4) (by omega), hp4]
    refine lv_aload_n hx hb dL_law_482 rfl (lv_at hl 1 rfl) ?_
    refine lv_iload hx hb dL_law_483 (lv_at hl 5 rfl) ?_
    refine lv_iconst (v := 5) hx hb dL_law_485 (by decide) ?_
    refine lv_iadd hx hb dL_law_486 ?_
    rw [show nI (6 * i) + 5 = nI (6 * i + 5) from nI_add (6 * i) 5]
    refine va_sld hx hb hX hbl hbA hS (vp_in_nI (show 6 * i + 5 < L by omega) (by omega)) dL_law_487 ?_
    rw [nI_clamp (n := 6 * i + 5) (by omega), hp5]
    refine lv_if_eq (tgt := 495) hx hb dL_law_488 (by decide) (fun c_2 => ?_) (fun c_2 => ?_)
    · skip
      refine lv_iconst (v := 0) hx hb dL_law_495 (by decide) ?_
      refine sr_i (va_runV (As := [.int (nI sn), .int (nI ln), .int p2, .int p3, .int 0]) (rest := []) ⟨hx, hb, hml, hown, hts⟩ (M_X6_come_ok l D cI n d d2 σ τ2 ω sn ln p2 p3 0 1 nc _ hs hl9 h1 h2 h3 hnc hn7 (by rw [← sound_nI]; exact h4) (by decide)) (cwV 5 hts gL_law_X6_come rfl rfl rfl (by decide +kernel) ⟨Nat.le_of_ble_eq_true rfl, Nat.le_of_ble_eq_true rfl⟩) (wrV0 hK hP.right hD.right [0] rfl (ci := 6) (q0 := 0) rfl rfl) rfl rfl hl.1 rfl (lv_room (Nat.le_of_ble_eq_true rfl)) dL_law_496 ⟨(by show cells + _ ≤ room_1.cells; omega), (by show slots + _ ≤ room_1.slots; omega)⟩) hP hD hS hA (fun H locs hP hD hS => ?_)
      have hP : va_P D vwCl (((wTopE b a a2 ++ (wWag b cI ω ++ (wRivE a cI (σ 0 0) (σ 16 0) (σ 1) (σ 2) (σ 3) (σ 4) (nI (nc + 1)) (upd ((σ 5)) nc p2) (upd ((σ 6)) nc p3) (upd ((σ 7)) nc 20) (upd ((σ 8)) nc (nI sn)) (upd ((σ 9)) nc (nI ln)) (upd ((σ 10)) nc (nI sn)) (upd ((σ 11)) nc 0) (upd ((σ 12)) nc 0) (upd ((σ 13)) nc 1) ++ wRiv a2 cI σ2))) ++ [(o, .inl (cJ, 1, .inr (.inl (vp_updL g 0 (nI nc).toInt64))))]) ++ (wOutE n d d2 cI 0 (ω 19 0) (ω 1) (ω 2) (ω 14) (ω 15) ++ (wStaE d (n 0) cI (σ 0 0) (nI (nc + 1)) (σ 16 0) (σ 18 0) (σ 3) (σ 4) (upd ((σ 5)) nc p2) (upd ((σ 6)) nc p3) (upd ((σ 7)) nc 20) (upd ((σ 8)) nc (nI sn)) (upd ((σ 9)) nc (nI ln)) (upd ((σ 10)) nc (nI sn)) (upd ((σ 11)) nc 0) (upd ((σ 12)) nc 0) (upd ((σ 13)) nc 1) ++ wSta d2 (n 0) cI τ2))) H := hP
      have hD : va_D A (((wTopE b a a2 ++ (wWag b cI ω ++ (wRivE a cI (σ 0 0) (σ 16 0) (σ 1) (σ 2) (σ 3) (σ 4) (nI (nc + 1)) (upd ((σ 5)) nc p2) (upd ((σ 6)) nc p3) (upd ((σ 7)) nc 20) (upd ((σ 8)) nc (nI sn)) (upd ((σ 9)) nc (nI ln)) (upd ((σ 10)) nc (nI sn)) (upd ((σ 11)) nc 0) (upd ((σ 12)) nc 0) (upd ((σ 13)) nc 1) ++ wRiv a2 cI σ2))) ++ [(o, .inl (cJ, 1, .inr (.inl (vp_updL g 0 (nI nc).toInt64))))]) ++ (wOutE n d d2 cI 0 (ω 19 0) (ω 1) (ω 2) (ω 14) (ω 15) ++ (wStaE d (n 0) cI (σ 0 0) (nI (nc + 1)) (σ 16 0) (σ 18 0) (σ 3) (σ 4) (upd ((σ 5)) nc p2) (upd ((σ 6)) nc p3) (upd ((σ 7)) nc 20) (upd ((σ 8)) nc (nI sn)) (upd ((σ 9)) nc (nI ln)) (upd ((σ 10)) nc (nI sn)) (upd ((σ 11)) nc 0) (upd ((σ 12)) nc 0) (upd ((σ 13)) nc 1) ++ wSta d2 (n 0) cI τ2))) := hD
      refine lv_istore (lv' := [(6, .int (nI nc)), (5, .int 0), (0, .ref bs), (1, .ref (b 0)), (2, .ref (n 0)), (3, .ref o), (4, .int (nI (6 * i)))]) hx hb dL_law_499 hl (by decide) rfl (fun ls hl => ?_)
      refine lv_aload_n hx hb dL_law_501 rfl (lv_at hl 4 rfl) ?_
      refine rd_i (va_runV (As := []) (rest := []) ⟨hx, hb, hml, hown, hts⟩ (M_X6_thrown l D cI n d d2 (put (put (put (put (put (put (put (put (put (put σ 5 (upd ((σ 5)) nc p2)) 6 (upd ((σ 6)) nc p3)) 7 (upd ((σ 7)) nc 20)) 8 (upd ((σ 8)) nc (nI sn))) 9 (upd ((σ 9)) nc (nI ln))) 10 (upd ((σ 10)) nc (nI sn))) 11 (upd ((σ 11)) nc 0)) 12 (upd ((σ 12)) nc 0)) 13 (upd ((σ 13)) nc 1)) 17 (fun _ => nI (nc + 1))) τ2 (put ω 20 (fun _ => 0)) ) (cwV 0 hts gL_law_X6_thrown rfl rfl rfl (by decide +kernel) ⟨Nat.le_of_ble_eq_true rfl, Nat.le_of_ble_eq_true rfl⟩) (rdV0 hK hP.right [0] rfl (ci := 6) (q0 := 0) rfl rfl) rfl rfl hl.1 rfl (lv_room (Nat.le_of_ble_eq_true rfl)) dL_law_502 ⟨(by show cells + _ ≤ room_1.cells; omega), (by show slots + _ ≤ room_1.slots; omega)⟩) ?_
      refine W.eq (g2 := F0 m 505 ls [.int 0]) rfl ?_
      refine lv_iload hx hb dL_law_505 (lv_at hl 1 rfl) ?_
      refine lv_icmp_eq (tgt := 512) hx hb dL_law_507 (by decide) (fun c_3 => ?_) (fun c_3 => ?_)
      · skip
        refine lv_iload hx hb dL_law_512 (lv_at hl 1 rfl) ?_
        refine lv_if_ne (tgt := 529) hx hb dL_law_514 (by decide) (fun c_4 => ?_) (fun c_4 => ?_)
        · skip
          exact absurd c_4 (by decide)
        · skip
          refine lv_aload_n hx hb dL_law_517 rfl (lv_at hl 5 rfl) ?_
          refine lv_iconst (v := 0) hx hb dL_law_518 (by decide) ?_
          refine va_lald hx hb hK.1 hP 36 1 rfl rfl (by unfold vp_in; decide) dL_law_519 ?_
          refine W.eq (g2 := F0 m 520 ls [.long ((nI nc).toInt64)]) rfl ?_
          refine lv_iload hx hb dL_law_520 (lv_at hl 0 rfl) ?_
          refine lv_i2l hx hb dL_law_522 rfl ?_
          refine my_lcmpE hx hb dL_law_523 ?_
          refine lv_if_eq (tgt := 529) hx hb dL_law_524 (by decide) (fun c_5 => ?_) (fun c_5 => ?_)
          · skip
            refine lv_goto (tgt := 1220) hx hb dL_law_529 (by decide) ?_
            have hP : va_P D vwCl (wAll b a a2 n d d2 cI cJ o (cmF σ nc p2 p3 (nI sn) (nI ln) 1) σ2 (put ω 20 (fun _ => 0)) τ2 (vp_updL g 0 (nI nc).toInt64)) H := hP
            have hD : va_D A (wAll b a a2 n d d2 cI cJ o (cmF σ nc p2 p3 (nI sn) (nI ln) 1) σ2 (put ω 20 (fun _ => 0)) τ2 (vp_updL g 0 (nI nc).toInt64)) := hD
            refine W.widen (k := cells + 23) (n := slots + 200) (by omega) (by omega) ?_
            exact kk (cmF σ nc p2 p3 (nI sn) (nI ln) 1) σ2 (put ω 20 (fun _ => 0)) τ2 (vp_updL g 0 (nI nc).toInt64) h (nc + 1) nw (iv_come (fun _ => 0) hn7 (nI_le11 hs) (nI_le2 hl9) (by decide) hI) (by omega) H locs hP hD hS ls (lv_sub hl [2, 3, 4, 5, 6] rfl)
          · skip
            exact absurd c_5 (by decide)
      · skip
        exact absurd rfl c_3
    · skip
      exact absurd hz c_2
  · skip
    exact absurd hz c_1
set_option maxHeartbeats 4000000 in
set_option maxRecDepth 100000 in
theorem LW_come_e1_1 {p : Program} {l : Launch} {e : Env} {s : State} {m : MethodId} {args : Array Value} {below : List Frame} {meth : Method} {c : Code} {A : Nat → Prop} {D : va_G} {cI cJ : ClassId} {bs L : Nat} {xs : Nat → Int32} (C : lwC p l s m args c A D cI cJ bs L xs) (b a a2 n d d2 : Nat → Nat) (o i h nc nw : Nat) (σ σ2 ω τ2 : St) (g : Nat → Int64) (p0 : Int32) (p1 : Int32) (p2 : Int32) (p3 : Int32) (z5 : Int32) (hI : lwI σ ω h nc nw) (hi : 6 * i + 6 ≤ L) (hbd : h + 1000 < 2 ^ 29) (hp1 : xs (6 * i + 1) = p0) (hp2 : xs (6 * i + 2) = p1) (hp3 : xs (6 * i + 3) = p2) (hp4 : xs (6 * i + 4) = p3) (hp5 : xs (6 * i + 5) = z5) (h1 : ¬ ((0 ≤ p0 ∧ p0 ≤ 11) ∧ (0 ≤ p1 ∧ p1 ≤ 2))) (hz : ¬ z5 = 0) {H : Heap} {locs : List Loc} {cells slots : Nat} {Q : State → Prop} (hRc : cells + 100 ≤ room_1.cells) (hRs : slots + 1000 ≤ room_1.slots) (hP : va_P D vwCl (wAll b a a2 n d d2 cI cJ o σ σ2 ω τ2 g) H) (hD : va_D A (wAll b a a2 n d d2 cI cJ o σ σ2 ω τ2 g)) (hS : va_S A s.heap H locs) (ls : Array Slot) (hl : lv_has ls 9 [(0, .ref bs), (1, .ref (b 0)), (2, .ref (n 0)), (3, .ref o), (4, .int (nI (6 * i)))]) (kk : lwK p l e s m args below meth c A D cI cJ b a a2 n d d2 o bs i h cells slots Q) : W p l e room_1 s m args below meth c H locs cells slots Q (F0 m 412 ls []) := by
  obtain ⟨hx, hb, hml, hown, hts, hK, hEX, hX, hbl, hbA, hst, hA, hL⟩ := id C
  obtain ⟨hok, hnw, hw12⟩ := id hI
  have hnc := hok.1.2.1
  have hn8 := hok.1.2.2.1
  refine lv_aload_n hx hb dL_law_412 rfl (lv_at hl 1 rfl) ?_
  refine lv_aload_n hx hb dL_law_413 rfl (lv_at hl 0 rfl) ?_
  refine lv_iload hx hb dL_law_414 (lv_at hl 4 rfl) ?_
  refine lv_iconst (v := 1) hx hb dL_law_416 (by decide) ?_
  refine lv_iadd hx hb dL_law_417 ?_
  rw [show nI (6 * i) + 1 = nI (6 * i + 1) from nI_add (6 * i) 1]
  refine va_sld hx hb hX hbl hbA hS (vp_in_nI (show 6 * i + 1 < L by omega) (by omega)) dL_law_418 ?_
  rw [nI_clamp (n := 6 * i + 1) (by omega), hp1]
  refine lv_aload_n hx hb dL_law_419 rfl (lv_at hl 0 rfl) ?_
  refine lv_iload hx hb dL_law_420 (lv_at hl 4 rfl) ?_
  refine lv_iconst (v := 2) hx hb dL_law_422 (by decide) ?_
  refine lv_iadd hx hb dL_law_423 ?_
  rw [show nI (6 * i) + 2 = nI (6 * i + 2) from nI_add (6 * i) 2]
  refine va_sld hx hb hX hbl hbA hS (vp_in_nI (show 6 * i + 2 < L by omega) (by omega)) dL_law_424 ?_
  rw [nI_clamp (n := 6 * i + 2) (by omega), hp2]
  refine lv_aload_n hx hb dL_law_425 rfl (lv_at hl 0 rfl) ?_
  refine lv_iload hx hb dL_law_426 (lv_at hl 4 rfl) ?_
  refine lv_iconst (v := 3) hx hb dL_law_428 (by decide) ?_
  refine lv_iadd hx hb dL_law_429 ?_
  rw [show nI (6 * i) + 3 = nI (6 * i + 3) from nI_add (6 * i) 3]
  refine va_sld hx hb hX hbl hbA hS (vp_in_nI (show 6 * i + 3 < L by omega) (by omega)) dL_law_430 ?_
  rw [nI_clamp (n := 6 * i + 3) (by omega), hp3]
  refine lv_aload_n hx hb dL_law_431 rfl (lv_at hl 0 rfl) ?_
  refine lv_iload hx hb dL_law_432 (lv_at hl 4 rfl) ?_
  refine lv_iconst (v := 4) hx hb dL_law_434 (by decide) ?_
  refine lv_iadd hx hb dL_law_435 ?_
  rw [show nI (6 * i) + 4 = nI (6 * i + 4) from nI_add (6 * i) 4]
  refine va_sld hx hb hX hbl hbA hS (vp_in_nI (show 6 * i + 4 < L by omega) (by omega)) dL_law_436 ?_
  rw [nI_clamp (n := 6 * i + 4) (by omega), hp4]
  refine lv_aload_n hx hb dL_law_437 rfl (lv_at hl 0 rfl) ?_
  refine lv_iload hx hb dL_law_438 (lv_at hl 4 rfl) ?_
  refine lv_iconst (v := 5) hx hb dL_law_440 (by decide) ?_
  refine lv_iadd hx hb dL_law_441 ?_
  rw [show nI (6 * i) + 5 = nI (6 * i + 5) from nI_add (6 * i) 5]
  refine va_sld hx hb hX hbl hbA hS (vp_in_nI (show 6 * i + 5 < L by omega) (by omega)) dL_law_442 ?_
  rw [nI_clamp (n := 6 * i + 5) (by omega), hp5]
  refine lv_if_eq (tgt := 450) hx hb dL_law_443 (by decide) (fun c_1 => ?_) (fun c_1 => ?_)
  · skip
    exact absurd c_1 hz
  · skip
    refine lv_iconst (v := 1) hx hb dL_law_446 (by decide) ?_
    refine lv_goto (tgt := 451) hx hb dL_law_447 (by decide) ?_
    refine lv_aload_n hx hb dL_law_451 rfl (lv_at hl 3 rfl) ?_
    refine sl_i (vx_runSW (As := [.ref (b 0), .int p0, .int p1, .int p2, .int p3, .int 1, .ref o]) (rest := []) ⟨hx, hb, hml, hown, hts⟩ (M_L_come_e1 l D cI b a a2 σ σ2 ω p0 p1 p2 p3 1 o g cJ _ A hst h1) (vx_cwSW 7 hts gL_law_L_come rfl rfl rfl (by decide +kernel) ⟨Nat.le_of_ble_eq_true rfl, Nat.le_of_ble_eq_true rfl⟩) (hxS0 hK hP.left hD.left hS hEX [0, 1] rfl) rfl rfl hl.1 rfl (lv_room (Nat.le_of_ble_eq_true rfl)) dL_law_452 ⟨(by show cells + _ ≤ room_1.cells; omega), (by show slots + _ ≤ room_1.slots; omega)⟩) hP hD hS hA (fun H locs hP hD hS => ?_)
    have hP : va_P D vwCl (((wLan b a a2 cI σ σ2 ω) ++ [(o, .inl (cJ, 1, .inr (.inl g)))]) ++ (wMod n d d2 cI σ τ2 ω)) H := hP
    have hD : va_D A (((wLan b a a2 cI σ σ2 ω) ++ [(o, .inl (cJ, 1, .inr (.inl g)))]) ++ (wMod n d d2 cI σ τ2 ω)) := hD
    refine lv_istore (lv' := [(5, .int 1), (0, .ref bs), (1, .ref (b 0)), (2, .ref (n 0)), (3, .ref o), (4, .int (nI (6 * i)))]) hx hb dL_law_455 hl (by decide) rfl (fun ls hl => ?_)
    refine lv_aload_n hx hb dL_law_457 rfl (lv_at hl 3 rfl) ?_
    refine lv_aload_n hx hb dL_law_458 rfl (lv_at hl 1 rfl) ?_
    refine lv_iload hx hb dL_law_459 (lv_at hl 5 rfl) ?_
    refine lv_iconst (v := 1) hx hb dL_law_461 (by decide) ?_
    refine lv_iadd hx hb dL_law_462 ?_
    rw [show nI (6 * i) + 1 = nI (6 * i + 1) from nI_add (6 * i) 1]
    refine va_sld hx hb hX hbl hbA hS (vp_in_nI (show 6 * i + 1 < L by omega) (by omega)) dL_law_463 ?_
    rw [nI_clamp (n := 6 * i + 1) (by omega), hp1]
    refine lv_aload_n hx hb dL_law_464 rfl (lv_at hl 1 rfl) ?_
    refine lv_iload hx hb dL_law_465 (lv_at hl 5 rfl) ?_
    refine lv_iconst (v := 2) hx hb dL_law_467 (by decide) ?_
    refine lv_iadd hx hb dL_law_468 ?_
    rw [show nI (6 * i) + 2 = nI (6 * i + 2) from nI_add (6 * i) 2]
    refine va_sld hx hb hX hbl hbA hS (vp_in_nI (show 6 * i + 2 < L by omega) (by omega)) dL_law_469 ?_
    rw [nI_clamp (n := 6 * i + 2) (by omega), hp2]
    refine lv_aload_n hx hb dL_law_470 rfl (lv_at hl 1 rfl) ?_
    refine lv_iload hx hb dL_law_471 (lv_at hl 5 rfl) ?_
    refine lv_iconst (v := 3) hx hb dL_law_473 (by decide) ?_
    refine lv_iadd hx hb dL_law_474 ?_
    rw [show nI (6 * i) + 3 = nI (6 * i + 3) from nI_add (6 * i) 3]
    refine va_sld hx hb hX hbl hbA hS (vp_in_nI (show 6 * i + 3 < L by omega) (by omega)) dL_law_475 ?_
    rw [nI_clamp (n := 6 * i + 3) (by omega), hp3]
    refine lv_aload_n hx hb dL_law_476 rfl (lv_at hl 1 rfl) ?_
    refine lv_iload hx hb dL_law_477 (lv_at hl 5 rfl) ?_
    refine lv_iconst (v := 4) hx hb dL_law_479 (by decide) ?_
    refine lv_iadd hx hb dL_law_480 ?_
    rw [show nI (6 * i) + 4 = nI (6 * i + 4) from nI_add (6 * i) 4]
    refine va_sld hx hb hX hbl hbA hS (vp_in_nI (show 6 * i + 4 < L by omega) (by omega)) dL_law_481 ?_
    rw [nI_clamp (n := 6 * i + 4) (by omega), hp4]
    refine lv_aload_n hx hb dL_law_482 rfl (lv_at hl 1 rfl) ?_
    refine lv_iload hx hb dL_law_483 (lv_at hl 5 rfl) ?_
    refine lv_iconst (v := 5) hx hb dL_law_485 (by decide) ?_
    refine lv_iadd hx hb dL_law_486 ?_
    rw [show nI (6 * i) + 5 = nI (6 * i + 5) from nI_add (6 * i) 5]
    refine va_sld hx hb hX hbl hbA hS (vp_in_nI (show 6 * i + 5 < L by omega) (by omega)) dL_law_487 ?_
    rw [nI_clamp (n := 6 * i + 5) (by omega), hp5]
    refine lv_if_eq (tgt := 495) hx hb dL_law_488 (by decide) (fun c_2 => ?_) (fun c_2 => ?_)
    · skip
      exact absurd c_2 hz
    · skip
      refine lv_iconst (v := 1) hx hb dL_law_491 (by decide) ?_
      refine lv_goto (tgt := 496) hx hb dL_law_492 (by decide) ?_
      refine sr_i (va_runV (As := [.int p0, .int p1, .int p2, .int p3, .int 1]) (rest := []) ⟨hx, hb, hml, hown, hts⟩ (M_X6_come_e1 l D cI n d d2 σ τ2 ω p0 p1 p2 p3 1 _ h1) (cwV 5 hts gL_law_X6_come rfl rfl rfl (by decide +kernel) ⟨Nat.le_of_ble_eq_true rfl, Nat.le_of_ble_eq_true rfl⟩) (wrV0 hK hP.right hD.right [0] rfl (ci := 6) (q0 := 0) rfl rfl) rfl rfl hl.1 rfl (lv_room (Nat.le_of_ble_eq_true rfl)) dL_law_496 ⟨(by show cells + _ ≤ room_1.cells; omega), (by show slots + _ ≤ room_1.slots; omega)⟩) hP hD hS hA (fun H locs hP hD hS => ?_)
      have hP : va_P D vwCl (((wLan b a a2 cI σ σ2 ω) ++ [(o, .inl (cJ, 1, .inr (.inl g)))]) ++ (wOutE n d d2 cI 1 (ω 19 0) (ω 1) (ω 2) (ω 14) (ω 15) ++ (wSta d (n 0) cI σ ++ wSta d2 (n 0) cI τ2))) H := hP
      have hD : va_D A (((wLan b a a2 cI σ σ2 ω) ++ [(o, .inl (cJ, 1, .inr (.inl g)))]) ++ (wOutE n d d2 cI 1 (ω 19 0) (ω 1) (ω 2) (ω 14) (ω 15) ++ (wSta d (n 0) cI σ ++ wSta d2 (n 0) cI τ2))) := hD
      refine lv_istore (lv' := [(6, .int 0), (5, .int 1), (0, .ref bs), (1, .ref (b 0)), (2, .ref (n 0)), (3, .ref o), (4, .int (nI (6 * i)))]) hx hb dL_law_499 hl (by decide) rfl (fun ls hl => ?_)
      refine lv_aload_n hx hb dL_law_501 rfl (lv_at hl 4 rfl) ?_
      refine rd_i (va_runV (As := []) (rest := []) ⟨hx, hb, hml, hown, hts⟩ (M_X6_thrown l D cI n d d2 σ τ2 (put ω 20 (fun _ => 1)) ) (cwV 0 hts gL_law_X6_thrown rfl rfl rfl (by decide +kernel) ⟨Nat.le_of_ble_eq_true rfl, Nat.le_of_ble_eq_true rfl⟩) (rdV0 hK hP.right [0] rfl (ci := 6) (q0 := 0) rfl rfl) rfl rfl hl.1 rfl (lv_room (Nat.le_of_ble_eq_true rfl)) dL_law_502 ⟨(by show cells + _ ≤ room_1.cells; omega), (by show slots + _ ≤ room_1.slots; omega)⟩) ?_
      refine W.eq (g2 := F0 m 505 ls [.int 1]) rfl ?_
      refine lv_iload hx hb dL_law_505 (lv_at hl 1 rfl) ?_
      refine lv_icmp_eq (tgt := 512) hx hb dL_law_507 (by decide) (fun c_3 => ?_) (fun c_3 => ?_)
      · skip
        refine lv_iload hx hb dL_law_512 (lv_at hl 1 rfl) ?_
        refine lv_if_ne (tgt := 529) hx hb dL_law_514 (by decide) (fun c_4 => ?_) (fun c_4 => ?_)
        · skip
          refine lv_goto (tgt := 1220) hx hb dL_law_529 (by decide) ?_
          have hP : va_P D vwCl (wAll b a a2 n d d2 cI cJ o σ σ2 (put ω 20 (fun _ => 1)) τ2 g) H := hP
          have hD : va_D A (wAll b a a2 n d d2 cI cJ o σ σ2 (put ω 20 (fun _ => 1)) τ2 g) := hD
          refine W.widen (k := cells + 23) (n := slots + 200) (by omega) (by omega) ?_
          exact kk σ σ2 (put ω 20 (fun _ => 1)) τ2 g h nc nw (iv_w (fun _ => 1) hI) (by omega) H locs hP hD hS ls (lv_sub hl [2, 3, 4, 5, 6] rfl)
        · skip
          exact absurd c_4 (by decide)
      · skip
        exact absurd rfl c_3
set_option maxHeartbeats 4000000 in
set_option maxRecDepth 100000 in
theorem LW_come_e2_1 {p : Program} {l : Launch} {e : Env} {s : State} {m : MethodId} {args : Array Value} {below : List Frame} {meth : Method} {c : Code} {A : Nat → Prop} {D : va_G} {cI cJ : ClassId} {bs L : Nat} {xs : Nat → Int32} (C : lwC p l s m args c A D cI cJ bs L xs) (b a a2 n d d2 : Nat → Nat) (o i h nc nw : Nat) (σ σ2 ω τ2 : St) (g : Nat → Int64) (p0 : Int32) (p1 : Int32) (p2 : Int32) (p3 : Int32) (z5 : Int32) (hI : lwI σ ω h nc nw) (hi : 6 * i + 6 ≤ L) (hbd : h + 1000 < 2 ^ 29) (hp1 : xs (6 * i + 1) = p0) (hp2 : xs (6 * i + 2) = p1) (hp3 : xs (6 * i + 3) = p2) (hp4 : xs (6 * i + 4) = p3) (hp5 : xs (6 * i + 5) = z5) (h1 : ((0 ≤ p0 ∧ p0 ≤ 11) ∧ (0 ≤ p1 ∧ p1 ≤ 2))) (h2 : ¬ ((1 ≤ p2 ∧ p2 ≤ 40) ∧ (0 ≤ p3 ∧ p3 ≤ 20))) (hz : ¬ z5 = 0) {H : Heap} {locs : List Loc} {cells slots : Nat} {Q : State → Prop} (hRc : cells + 100 ≤ room_1.cells) (hRs : slots + 1000 ≤ room_1.slots) (hP : va_P D vwCl (wAll b a a2 n d d2 cI cJ o σ σ2 ω τ2 g) H) (hD : va_D A (wAll b a a2 n d d2 cI cJ o σ σ2 ω τ2 g)) (hS : va_S A s.heap H locs) (ls : Array Slot) (hl : lv_has ls 9 [(0, .ref bs), (1, .ref (b 0)), (2, .ref (n 0)), (3, .ref o), (4, .int (nI (6 * i)))]) (kk : lwK p l e s m args below meth c A D cI cJ b a a2 n d d2 o bs i h cells slots Q) : W p l e room_1 s m args below meth c H locs cells slots Q (F0 m 412 ls []) := by
  obtain ⟨hx, hb, hml, hown, hts, hK, hEX, hX, hbl, hbA, hst, hA, hL⟩ := id C
  obtain ⟨hok, hnw, hw12⟩ := id hI
  have hnc := hok.1.2.1
  have hn8 := hok.1.2.2.1
  refine lv_aload_n hx hb dL_law_412 rfl (lv_at hl 1 rfl) ?_
  refine lv_aload_n hx hb dL_law_413 rfl (lv_at hl 0 rfl) ?_
  refine lv_iload hx hb dL_law_414 (lv_at hl 4 rfl) ?_
  refine lv_iconst (v := 1) hx hb dL_law_416 (by decide) ?_
  refine lv_iadd hx hb dL_law_417 ?_
  rw [show nI (6 * i) + 1 = nI (6 * i + 1) from nI_add (6 * i) 1]
  refine va_sld hx hb hX hbl hbA hS (vp_in_nI (show 6 * i + 1 < L by omega) (by omega)) dL_law_418 ?_
  rw [nI_clamp (n := 6 * i + 1) (by omega), hp1]
  refine lv_aload_n hx hb dL_law_419 rfl (lv_at hl 0 rfl) ?_
  refine lv_iload hx hb dL_law_420 (lv_at hl 4 rfl) ?_
  refine lv_iconst (v := 2) hx hb dL_law_422 (by decide) ?_
  refine lv_iadd hx hb dL_law_423 ?_
  rw [show nI (6 * i) + 2 = nI (6 * i + 2) from nI_add (6 * i) 2]
  refine va_sld hx hb hX hbl hbA hS (vp_in_nI (show 6 * i + 2 < L by omega) (by omega)) dL_law_424 ?_
  rw [nI_clamp (n := 6 * i + 2) (by omega), hp2]
  refine lv_aload_n hx hb dL_law_425 rfl (lv_at hl 0 rfl) ?_
  refine lv_iload hx hb dL_law_426 (lv_at hl 4 rfl) ?_
  refine lv_iconst (v := 3) hx hb dL_law_428 (by decide) ?_
  refine lv_iadd hx hb dL_law_429 ?_
  rw [show nI (6 * i) + 3 = nI (6 * i + 3) from nI_add (6 * i) 3]
  refine va_sld hx hb hX hbl hbA hS (vp_in_nI (show 6 * i + 3 < L by omega) (by omega)) dL_law_430 ?_
  rw [nI_clamp (n := 6 * i + 3) (by omega), hp3]
  refine lv_aload_n hx hb dL_law_431 rfl (lv_at hl 0 rfl) ?_
  refine lv_iload hx hb dL_law_432 (lv_at hl 4 rfl) ?_
  refine lv_iconst (v := 4) hx hb dL_law_434 (by decide) ?_
  refine lv_iadd hx hb dL_law_435 ?_
  rw [show nI (6 * i) + 4 = nI (6 * i + 4) from nI_add (6 * i) 4]
  refine va_sld hx hb hX hbl hbA hS (vp_in_nI (show 6 * i + 4 < L by omega) (by omega)) dL_law_436 ?_
  rw [nI_clamp (n := 6 * i + 4) (by omega), hp4]
  refine lv_aload_n hx hb dL_law_437 rfl (lv_at hl 0 rfl) ?_
  refine lv_iload hx hb dL_law_438 (lv_at hl 4 rfl) ?_
  refine lv_iconst (v := 5) hx hb dL_law_440 (by decide) ?_
  refine lv_iadd hx hb dL_law_441 ?_
  rw [show nI (6 * i) + 5 = nI (6 * i + 5) from nI_add (6 * i) 5]
  refine va_sld hx hb hX hbl hbA hS (vp_in_nI (show 6 * i + 5 < L by omega) (by omega)) dL_law_442 ?_
  rw [nI_clamp (n := 6 * i + 5) (by omega), hp5]
  refine lv_if_eq (tgt := 450) hx hb dL_law_443 (by decide) (fun c_1 => ?_) (fun c_1 => ?_)
  · skip
    exact absurd c_1 hz
  · skip
    refine lv_iconst (v := 1) hx hb dL_law_446 (by decide) ?_
    refine lv_goto (tgt := 451) hx hb dL_law_447 (by decide) ?_
    refine lv_aload_n hx hb dL_law_451 rfl (lv_at hl 3 rfl) ?_
    refine sl_i (vx_runSW (As := [.ref (b 0), .int p0, .int p1, .int p2, .int p3, .int 1, .ref o]) (rest := []) ⟨hx, hb, hml, hown, hts⟩ (M_L_come_e2 l D cI b a a2 σ σ2 ω p0 p1 p2 p3 1 o g cJ _ A hst h1 h2) (vx_cwSW 7 hts gL_law_L_come rfl rfl rfl (by decide +kernel) ⟨Nat.le_of_ble_eq_true rfl, Nat.le_of_ble_eq_true rfl⟩) (hxS0 hK hP.left hD.left hS hEX [0, 1] rfl) rfl rfl hl.1 rfl (lv_room (Nat.le_of_ble_eq_true rfl)) dL_law_452 ⟨(by show cells + _ ≤ room_1.cells; omega), (by show slots + _ ≤ room_1.slots; omega)⟩) hP hD hS hA (fun H locs hP hD hS => ?_)
    have hP : va_P D vwCl (((wLan b a a2 cI σ σ2 ω) ++ [(o, .inl (cJ, 1, .inr (.inl g)))]) ++ (wMod n d d2 cI σ τ2 ω)) H := hP
    have hD : va_D A (((wLan b a a2 cI σ σ2 ω) ++ [(o, .inl (cJ, 1, .inr (.inl g)))]) ++ (wMod n d d2 cI σ τ2 ω)) := hD
    refine lv_istore (lv' := [(5, .int 2), (0, .ref bs), (1, .ref (b 0)), (2, .ref (n 0)), (3, .ref o), (4, .int (nI (6 * i)))]) hx hb dL_law_455 hl (by decide) rfl (fun ls hl => ?_)
    refine lv_aload_n hx hb dL_law_457 rfl (lv_at hl 3 rfl) ?_
    refine lv_aload_n hx hb dL_law_458 rfl (lv_at hl 1 rfl) ?_
    refine lv_iload hx hb dL_law_459 (lv_at hl 5 rfl) ?_
    refine lv_iconst (v := 1) hx hb dL_law_461 (by decide) ?_
    refine lv_iadd hx hb dL_law_462 ?_
    rw [show nI (6 * i) + 1 = nI (6 * i + 1) from nI_add (6 * i) 1]
    refine va_sld hx hb hX hbl hbA hS (vp_in_nI (show 6 * i + 1 < L by omega) (by omega)) dL_law_463 ?_
    rw [nI_clamp (n := 6 * i + 1) (by omega), hp1]
    refine lv_aload_n hx hb dL_law_464 rfl (lv_at hl 1 rfl) ?_
    refine lv_iload hx hb dL_law_465 (lv_at hl 5 rfl) ?_
    refine lv_iconst (v := 2) hx hb dL_law_467 (by decide) ?_
    refine lv_iadd hx hb dL_law_468 ?_
    rw [show nI (6 * i) + 2 = nI (6 * i + 2) from nI_add (6 * i) 2]
    refine va_sld hx hb hX hbl hbA hS (vp_in_nI (show 6 * i + 2 < L by omega) (by omega)) dL_law_469 ?_
    rw [nI_clamp (n := 6 * i + 2) (by omega), hp2]
    refine lv_aload_n hx hb dL_law_470 rfl (lv_at hl 1 rfl) ?_
    refine lv_iload hx hb dL_law_471 (lv_at hl 5 rfl) ?_
    refine lv_iconst (v := 3) hx hb dL_law_473 (by decide) ?_
    refine lv_iadd hx hb dL_law_474 ?_
    rw [show nI (6 * i) + 3 = nI (6 * i + 3) from nI_add (6 * i) 3]
    refine va_sld hx hb hX hbl hbA hS (vp_in_nI (show 6 * i + 3 < L by omega) (by omega)) dL_law_475 ?_
    rw [nI_clamp (n := 6 * i + 3) (by omega), hp3]
    refine lv_aload_n hx hb dL_law_476 rfl (lv_at hl 1 rfl) ?_
    refine lv_iload hx hb dL_law_477 (lv_at hl 5 rfl) ?_
    refine lv_iconst (v := 4) hx hb dL_law_479 (by decide) ?_
    refine lv_iadd hx hb dL_law_480 ?_
    rw [show nI (6 * i) + 4 = nI (6 * i + 4) from nI_add (6 * i) 4]
    refine va_sld hx hb hX hbl hbA hS (vp_in_nI (show 6 * i + 4 < L by omega) (by omega)) dL_law_481 ?_
    rw [nI_clamp (n := 6 * i + 4) (by omega), hp4]
    refine lv_aload_n hx hb dL_law_482 rfl (lv_at hl 1 rfl) ?_
    refine lv_iload hx hb dL_law_483 (lv_at hl 5 rfl) ?_
    refine lv_iconst (v := 5) hx hb dL_law_485 (by decide) ?_
    refine lv_iadd hx hb dL_law_486 ?_
    rw [show nI (6 * i) + 5 = nI (6 * i + 5) from nI_add (6 * i) 5]
    refine va_sld hx hb hX hbl hbA hS (vp_in_nI (show 6 * i + 5 < L by omega) (by omega)) dL_law_487 ?_
    rw [nI_clamp (n := 6 * i + 5) (by omega), hp5]
    refine lv_if_eq (tgt := 495) hx hb dL_law_488 (by decide) (fun c_2 => ?_) (fun c_2 => ?_)
    · skip
      exact absurd c_2 hz
    · skip
      refine lv_iconst (v := 1) hx hb dL_law_491 (by decide) ?_
      refine lv_goto (tgt := 496) hx hb dL_law_492 (by decide) ?_
      refine sr_i (va_runV (As := [.int p0, .int p1, .int p2, .int p3, .int 1]) (rest := []) ⟨hx, hb, hml, hown, hts⟩ (M_X6_come_e2 l D cI n d d2 σ τ2 ω p0 p1 p2 p3 1 _ h1 h2) (cwV 5 hts gL_law_X6_come rfl rfl rfl (by decide +kernel) ⟨Nat.le_of_ble_eq_true rfl, Nat.le_of_ble_eq_true rfl⟩) (wrV0 hK hP.right hD.right [0] rfl (ci := 6) (q0 := 0) rfl rfl) rfl rfl hl.1 rfl (lv_room (Nat.le_of_ble_eq_true rfl)) dL_law_496 ⟨(by show cells + _ ≤ room_1.cells; omega), (by show slots + _ ≤ room_1.slots; omega)⟩) hP hD hS hA (fun H locs hP hD hS => ?_)
      have hP : va_P D vwCl (((wLan b a a2 cI σ σ2 ω) ++ [(o, .inl (cJ, 1, .inr (.inl g)))]) ++ (wOutE n d d2 cI 2 (ω 19 0) (ω 1) (ω 2) (ω 14) (ω 15) ++ (wSta d (n 0) cI σ ++ wSta d2 (n 0) cI τ2))) H := hP
      have hD : va_D A (((wLan b a a2 cI σ σ2 ω) ++ [(o, .inl (cJ, 1, .inr (.inl g)))]) ++ (wOutE n d d2 cI 2 (ω 19 0) (ω 1) (ω 2) (ω 14) (ω 15) ++ (wSta d (n 0) cI σ ++ wSta d2 (n 0) cI τ2))) := hD
      refine lv_istore (lv' := [(6, .int 0), (5, .int 2), (0, .ref bs), (1, .ref (b 0)), (2, .ref (n 0)), (3, .ref o), (4, .int (nI (6 * i)))]) hx hb dL_law_499 hl (by decide) rfl (fun ls hl => ?_)
      refine lv_aload_n hx hb dL_law_501 rfl (lv_at hl 4 rfl) ?_
      refine rd_i (va_runV (As := []) (rest := []) ⟨hx, hb, hml, hown, hts⟩ (M_X6_thrown l D cI n d d2 σ τ2 (put ω 20 (fun _ => 2)) ) (cwV 0 hts gL_law_X6_thrown rfl rfl rfl (by decide +kernel) ⟨Nat.le_of_ble_eq_true rfl, Nat.le_of_ble_eq_true rfl⟩) (rdV0 hK hP.right [0] rfl (ci := 6) (q0 := 0) rfl rfl) rfl rfl hl.1 rfl (lv_room (Nat.le_of_ble_eq_true rfl)) dL_law_502 ⟨(by show cells + _ ≤ room_1.cells; omega), (by show slots + _ ≤ room_1.slots; omega)⟩) ?_
      refine W.eq (g2 := F0 m 505 ls [.int 2]) rfl ?_
      refine lv_iload hx hb dL_law_505 (lv_at hl 1 rfl) ?_
      refine lv_icmp_eq (tgt := 512) hx hb dL_law_507 (by decide) (fun c_3 => ?_) (fun c_3 => ?_)
      · skip
        refine lv_iload hx hb dL_law_512 (lv_at hl 1 rfl) ?_
        refine lv_if_ne (tgt := 529) hx hb dL_law_514 (by decide) (fun c_4 => ?_) (fun c_4 => ?_)
        · skip
          refine lv_goto (tgt := 1220) hx hb dL_law_529 (by decide) ?_
          have hP : va_P D vwCl (wAll b a a2 n d d2 cI cJ o σ σ2 (put ω 20 (fun _ => 2)) τ2 g) H := hP
          have hD : va_D A (wAll b a a2 n d d2 cI cJ o σ σ2 (put ω 20 (fun _ => 2)) τ2 g) := hD
          refine W.widen (k := cells + 23) (n := slots + 200) (by omega) (by omega) ?_
          exact kk σ σ2 (put ω 20 (fun _ => 2)) τ2 g h nc nw (iv_w (fun _ => 2) hI) (by omega) H locs hP hD hS ls (lv_sub hl [2, 3, 4, 5, 6] rfl)
        · skip
          exact absurd c_4 (by decide)
      · skip
        exact absurd rfl c_3
set_option maxHeartbeats 4000000 in
set_option maxRecDepth 100000 in
theorem LW_come_e3_1 {p : Program} {l : Launch} {e : Env} {s : State} {m : MethodId} {args : Array Value} {below : List Frame} {meth : Method} {c : Code} {A : Nat → Prop} {D : va_G} {cI cJ : ClassId} {bs L : Nat} {xs : Nat → Int32} (C : lwC p l s m args c A D cI cJ bs L xs) (b a a2 n d d2 : Nat → Nat) (o i h nc nw : Nat) (σ σ2 ω τ2 : St) (g : Nat → Int64) (sn : Nat) (ln : Nat) (p2 : Int32) (p3 : Int32) (z5 : Int32) (hI : lwI σ ω h nc nw) (hi : 6 * i + 6 ≤ L) (hbd : h + 1000 < 2 ^ 29) (hp1 : xs (6 * i + 1) = nI sn) (hp2 : xs (6 * i + 2) = nI ln) (hp3 : xs (6 * i + 3) = p2) (hp4 : xs (6 * i + 4) = p3) (hp5 : xs (6 * i + 5) = z5) (hs : sn < 12) (hl9 : ln < 3) (h1 : ((0 ≤ nI sn ∧ nI sn ≤ 11) ∧ (0 ≤ nI ln ∧ nI ln ≤ 2))) (h2 : (1 ≤ p2 ∧ p2 ≤ 40)) (h3 : (0 ≤ p3 ∧ p3 ≤ 20)) (h4 : σ 17 0 = 8 ∨ ¬ p2 + p3 ≤ sound (σ 3) (σ 4) (nI sn) (nI ln)) (hz : ¬ z5 = 0) {H : Heap} {locs : List Loc} {cells slots : Nat} {Q : State → Prop} (hRc : cells + 100 ≤ room_1.cells) (hRs : slots + 1000 ≤ room_1.slots) (hP : va_P D vwCl (wAll b a a2 n d d2 cI cJ o σ σ2 ω τ2 g) H) (hD : va_D A (wAll b a a2 n d d2 cI cJ o σ σ2 ω τ2 g)) (hS : va_S A s.heap H locs) (ls : Array Slot) (hl : lv_has ls 9 [(0, .ref bs), (1, .ref (b 0)), (2, .ref (n 0)), (3, .ref o), (4, .int (nI (6 * i)))]) (kk : lwK p l e s m args below meth c A D cI cJ b a a2 n d d2 o bs i h cells slots Q) : W p l e room_1 s m args below meth c H locs cells slots Q (F0 m 412 ls []) := by
  obtain ⟨hx, hb, hml, hown, hts, hK, hEX, hX, hbl, hbA, hst, hA, hL⟩ := id C
  obtain ⟨hok, hnw, hw12⟩ := id hI
  have hnc := hok.1.2.1
  have hn8 := hok.1.2.2.1
  refine lv_aload_n hx hb dL_law_412 rfl (lv_at hl 1 rfl) ?_
  refine lv_aload_n hx hb dL_law_413 rfl (lv_at hl 0 rfl) ?_
  refine lv_iload hx hb dL_law_414 (lv_at hl 4 rfl) ?_
  refine lv_iconst (v := 1) hx hb dL_law_416 (by decide) ?_
  refine lv_iadd hx hb dL_law_417 ?_
  rw [show nI (6 * i) + 1 = nI (6 * i + 1) from nI_add (6 * i) 1]
  refine va_sld hx hb hX hbl hbA hS (vp_in_nI (show 6 * i + 1 < L by omega) (by omega)) dL_law_418 ?_
  rw [nI_clamp (n := 6 * i + 1) (by omega), hp1]
  refine lv_aload_n hx hb dL_law_419 rfl (lv_at hl 0 rfl) ?_
  refine lv_iload hx hb dL_law_420 (lv_at hl 4 rfl) ?_
  refine lv_iconst (v := 2) hx hb dL_law_422 (by decide) ?_
  refine lv_iadd hx hb dL_law_423 ?_
  rw [show nI (6 * i) + 2 = nI (6 * i + 2) from nI_add (6 * i) 2]
  refine va_sld hx hb hX hbl hbA hS (vp_in_nI (show 6 * i + 2 < L by omega) (by omega)) dL_law_424 ?_
  rw [nI_clamp (n := 6 * i + 2) (by omega), hp2]
  refine lv_aload_n hx hb dL_law_425 rfl (lv_at hl 0 rfl) ?_
  refine lv_iload hx hb dL_law_426 (lv_at hl 4 rfl) ?_
  refine lv_iconst (v := 3) hx hb dL_law_428 (by decide) ?_
  refine lv_iadd hx hb dL_law_429 ?_
  rw [show nI (6 * i) + 3 = nI (6 * i + 3) from nI_add (6 * i) 3]
  refine va_sld hx hb hX hbl hbA hS (vp_in_nI (show 6 * i + 3 < L by omega) (by omega)) dL_law_430 ?_
  rw [nI_clamp (n := 6 * i + 3) (by omega), hp3]
  refine lv_aload_n hx hb dL_law_431 rfl (lv_at hl 0 rfl) ?_
  refine lv_iload hx hb dL_law_432 (lv_at hl 4 rfl) ?_
  refine lv_iconst (v := 4) hx hb dL_law_434 (by decide) ?_
  refine lv_iadd hx hb dL_law_435 ?_
  rw [show nI (6 * i) + 4 = nI (6 * i + 4) from nI_add (6 * i) 4]
  refine va_sld hx hb hX hbl hbA hS (vp_in_nI (show 6 * i + 4 < L by omega) (by omega)) dL_law_436 ?_
  rw [nI_clamp (n := 6 * i + 4) (by omega), hp4]
  refine lv_aload_n hx hb dL_law_437 rfl (lv_at hl 0 rfl) ?_
  refine lv_iload hx hb dL_law_438 (lv_at hl 4 rfl) ?_
  refine lv_iconst (v := 5) hx hb dL_law_440 (by decide) ?_
  refine lv_iadd hx hb dL_law_441 ?_
  rw [show nI (6 * i) + 5 = nI (6 * i + 5) from nI_add (6 * i) 5]
  refine va_sld hx hb hX hbl hbA hS (vp_in_nI (show 6 * i + 5 < L by omega) (by omega)) dL_law_442 ?_
  rw [nI_clamp (n := 6 * i + 5) (by omega), hp5]
  refine lv_if_eq (tgt := 450) hx hb dL_law_443 (by decide) (fun c_1 => ?_) (fun c_1 => ?_)
  · skip
    exact absurd c_1 hz
  · skip
    refine lv_iconst (v := 1) hx hb dL_law_446 (by decide) ?_
    refine lv_goto (tgt := 451) hx hb dL_law_447 (by decide) ?_
    refine lv_aload_n hx hb dL_law_451 rfl (lv_at hl 3 rfl) ?_
    refine sl_i (vx_runSW (As := [.ref (b 0), .int (nI sn), .int (nI ln), .int p2, .int p3, .int 1, .ref o]) (rest := []) ⟨hx, hb, hml, hown, hts⟩ (M_L_come_e3 l D cI b a a2 σ σ2 ω sn ln p2 p3 1 o g cJ _ A hst hs hl9 h1 h2 h3 h4) (vx_cwSW 7 hts gL_law_L_come rfl rfl rfl (by decide +kernel) ⟨Nat.le_of_ble_eq_true rfl, Nat.le_of_ble_eq_true rfl⟩) (hxS0 hK hP.left hD.left hS hEX [0, 1] rfl) rfl rfl hl.1 rfl (lv_room (Nat.le_of_ble_eq_true rfl)) dL_law_452 ⟨(by show cells + _ ≤ room_1.cells; omega), (by show slots + _ ≤ room_1.slots; omega)⟩) hP hD hS hA (fun H locs hP hD hS => ?_)
    have hP : va_P D vwCl (((wLan b a a2 cI σ σ2 ω) ++ [(o, .inl (cJ, 1, .inr (.inl g)))]) ++ (wMod n d d2 cI σ τ2 ω)) H := hP
    have hD : va_D A (((wLan b a a2 cI σ σ2 ω) ++ [(o, .inl (cJ, 1, .inr (.inl g)))]) ++ (wMod n d d2 cI σ τ2 ω)) := hD
    refine lv_istore (lv' := [(5, .int 3), (0, .ref bs), (1, .ref (b 0)), (2, .ref (n 0)), (3, .ref o), (4, .int (nI (6 * i)))]) hx hb dL_law_455 hl (by decide) rfl (fun ls hl => ?_)
    refine lv_aload_n hx hb dL_law_457 rfl (lv_at hl 3 rfl) ?_
    refine lv_aload_n hx hb dL_law_458 rfl (lv_at hl 1 rfl) ?_
    refine lv_iload hx hb dL_law_459 (lv_at hl 5 rfl) ?_
    refine lv_iconst (v := 1) hx hb dL_law_461 (by decide) ?_
    refine lv_iadd hx hb dL_law_462 ?_
    rw [show nI (6 * i) + 1 = nI (6 * i + 1) from nI_add (6 * i) 1]
    refine va_sld hx hb hX hbl hbA hS (vp_in_nI (show 6 * i + 1 < L by omega) (by omega)) dL_law_463 ?_
    rw [nI_clamp (n := 6 * i + 1) (by omega), hp1]
    refine lv_aload_n hx hb dL_law_464 rfl (lv_at hl 1 rfl) ?_
    refine lv_iload hx hb dL_law_465 (lv_at hl 5 rfl) ?_
    refine lv_iconst (v := 2) hx hb dL_law_467 (by decide) ?_
    refine lv_iadd hx hb dL_law_468 ?_
    rw [show nI (6 * i) + 2 = nI (6 * i + 2) from nI_add (6 * i) 2]
    refine va_sld hx hb hX hbl hbA hS (vp_in_nI (show 6 * i + 2 < L by omega) (by omega)) dL_law_469 ?_
    rw [nI_clamp (n := 6 * i + 2) (by omega), hp2]
    refine lv_aload_n hx hb dL_law_470 rfl (lv_at hl 1 rfl) ?_
    refine lv_iload hx hb dL_law_471 (lv_at hl 5 rfl) ?_
    refine lv_iconst (v := 3) hx hb dL_law_473 (by decide) ?_
    refine lv_iadd hx hb dL_law_474 ?_
    rw [show nI (6 * i) + 3 = nI (6 * i + 3) from nI_add (6 * i) 3]
    refine va_sld hx hb hX hbl hbA hS (vp_in_nI (show 6 * i + 3 < L by omega) (by omega)) dL_law_475 ?_
    rw [nI_clamp (n := 6 * i + 3) (by omega), hp3]
    refine lv_aload_n hx hb dL_law_476 rfl (lv_at hl 1 rfl) ?_
    refine lv_iload hx hb dL_law_477 (lv_at hl 5 rfl) ?_
    refine lv_iconst (v := 4) hx hb dL_law_479 (by decide) ?_
    refine lv_iadd hx hb dL_law_480 ?_
    rw [show nI (6 * i) + 4 = nI (6 * i + 4) from nI_add (6 * i) 4]
    refine va_sld hx hb hX hbl hbA hS (vp_in_nI (show 6 * i + 4 < L by omega) (by omega)) dL_law_481 ?_
    rw [nI_clamp (n := 6 * i + 4) (by omega), hp4]
    refine lv_aload_n hx hb dL_law_482 rfl (lv_at hl 1 rfl) ?_
    refine lv_iload hx hb dL_law_483 (lv_at hl 5 rfl) ?_
    refine lv_iconst (v := 5) hx hb dL_law_485 (by decide) ?_
    refine lv_iadd hx hb dL_law_486 ?_
    rw [show nI (6 * i) + 5 = nI (6 * i + 5) from nI_add (6 * i) 5]
    refine va_sld hx hb hX hbl hbA hS (vp_in_nI (show 6 * i + 5 < L by omega) (by omega)) dL_law_487 ?_
    rw [nI_clamp (n := 6 * i + 5) (by omega), hp5]
    refine lv_if_eq (tgt := 495) hx hb dL_law_488 (by decide) (fun c_2 => ?_) (fun c_2 => ?_)
    · skip
      exact absurd c_2 hz
    · skip
      refine lv_iconst (v := 1) hx hb dL_law_491 (by decide) ?_
      refine lv_goto (tgt := 496) hx hb dL_law_492 (by decide) ?_
      refine sr_i (va_runV (As := [.int (nI sn), .int (nI ln), .int p2, .int p3, .int 1]) (rest := []) ⟨hx, hb, hml, hown, hts⟩ (M_X6_come_e3 l D cI n d d2 σ τ2 ω sn ln p2 p3 1 _ hs hl9 h1 h2 h3 (by rw [← sound_nI]; exact h4)) (cwV 5 hts gL_law_X6_come rfl rfl rfl (by decide +kernel) ⟨Nat.le_of_ble_eq_true rfl, Nat.le_of_ble_eq_true rfl⟩) (wrV0 hK hP.right hD.right [0] rfl (ci := 6) (q0 := 0) rfl rfl) rfl rfl hl.1 rfl (lv_room (Nat.le_of_ble_eq_true rfl)) dL_law_496 ⟨(by show cells + _ ≤ room_1.cells; omega), (by show slots + _ ≤ room_1.slots; omega)⟩) hP hD hS hA (fun H locs hP hD hS => ?_)
      have hP : va_P D vwCl (((wLan b a a2 cI σ σ2 ω) ++ [(o, .inl (cJ, 1, .inr (.inl g)))]) ++ (wOutE n d d2 cI 3 (ω 19 0) (ω 1) (ω 2) (ω 14) (ω 15) ++ (wSta d (n 0) cI σ ++ wSta d2 (n 0) cI τ2))) H := hP
      have hD : va_D A (((wLan b a a2 cI σ σ2 ω) ++ [(o, .inl (cJ, 1, .inr (.inl g)))]) ++ (wOutE n d d2 cI 3 (ω 19 0) (ω 1) (ω 2) (ω 14) (ω 15) ++ (wSta d (n 0) cI σ ++ wSta d2 (n 0) cI τ2))) := hD
      refine lv_istore (lv' := [(6, .int 0), (5, .int 3), (0, .ref bs), (1, .ref (b 0)), (2, .ref (n 0)), (3, .ref o), (4, .int (nI (6 * i)))]) hx hb dL_law_499 hl (by decide) rfl (fun ls hl => ?_)
      refine lv_aload_n hx hb dL_law_501 rfl (lv_at hl 4 rfl) ?_
      refine rd_i (va_runV (As := []) (rest := []) ⟨hx, hb, hml, hown, hts⟩ (M_X6_thrown l D cI n d d2 σ τ2 (put ω 20 (fun _ => 3)) ) (cwV 0 hts gL_law_X6_thrown rfl rfl rfl (by decide +kernel) ⟨Nat.le_of_ble_eq_true rfl, Nat.le_of_ble_eq_true rfl⟩) (rdV0 hK hP.right [0] rfl (ci := 6) (q0 := 0) rfl rfl) rfl rfl hl.1 rfl (lv_room (Nat.le_of_ble_eq_true rfl)) dL_law_502 ⟨(by show cells + _ ≤ room_1.cells; omega), (by show slots + _ ≤ room_1.slots; omega)⟩) ?_
      refine W.eq (g2 := F0 m 505 ls [.int 3]) rfl ?_
      refine lv_iload hx hb dL_law_505 (lv_at hl 1 rfl) ?_
      refine lv_icmp_eq (tgt := 512) hx hb dL_law_507 (by decide) (fun c_3 => ?_) (fun c_3 => ?_)
      · skip
        refine lv_iload hx hb dL_law_512 (lv_at hl 1 rfl) ?_
        refine lv_if_ne (tgt := 529) hx hb dL_law_514 (by decide) (fun c_4 => ?_) (fun c_4 => ?_)
        · skip
          refine lv_goto (tgt := 1220) hx hb dL_law_529 (by decide) ?_
          have hP : va_P D vwCl (wAll b a a2 n d d2 cI cJ o σ σ2 (put ω 20 (fun _ => 3)) τ2 g) H := hP
          have hD : va_D A (wAll b a a2 n d d2 cI cJ o σ σ2 (put ω 20 (fun _ => 3)) τ2 g) := hD
          refine W.widen (k := cells + 23) (n := slots + 200) (by omega) (by omega) ?_
          exact kk σ σ2 (put ω 20 (fun _ => 3)) τ2 g h nc nw (iv_w (fun _ => 3) hI) (by omega) H locs hP hD hS ls (lv_sub hl [2, 3, 4, 5, 6] rfl)
        · skip
          exact absurd c_4 (by decide)
      · skip
        exact absurd rfl c_3
set_option maxHeartbeats 4000000 in
set_option maxRecDepth 100000 in
theorem LW_come_ok1 {p : Program} {l : Launch} {e : Env} {s : State} {m : MethodId} {args : Array Value} {below : List Frame} {meth : Method} {c : Code} {A : Nat → Prop} {D : va_G} {cI cJ : ClassId} {bs L : Nat} {xs : Nat → Int32} (C : lwC p l s m args c A D cI cJ bs L xs) (b a a2 n d d2 : Nat → Nat) (o i h nc nw : Nat) (σ σ2 ω τ2 : St) (g : Nat → Int64) (sn : Nat) (ln : Nat) (p2 : Int32) (p3 : Int32) (z5 : Int32) (hI : lwI σ ω h nc nw) (hi : 6 * i + 6 ≤ L) (hbd : h + 1000 < 2 ^ 29) (hp1 : xs (6 * i + 1) = nI sn) (hp2 : xs (6 * i + 2) = nI ln) (hp3 : xs (6 * i + 3) = p2) (hp4 : xs (6 * i + 4) = p3) (hp5 : xs (6 * i + 5) = z5) (hs : sn < 12) (hl9 : ln < 3) (h1 : ((0 ≤ nI sn ∧ nI sn ≤ 11) ∧ (0 ≤ nI ln ∧ nI ln ≤ 2))) (h2 : (1 ≤ p2 ∧ p2 ≤ 40)) (h3 : (0 ≤ p3 ∧ p3 ≤ 20)) (hn7 : nc < 8) (h4 : p2 + p3 ≤ sound (σ 3) (σ 4) (nI sn) (nI ln)) (hz : ¬ z5 = 0) {H : Heap} {locs : List Loc} {cells slots : Nat} {Q : State → Prop} (hRc : cells + 100 ≤ room_1.cells) (hRs : slots + 1000 ≤ room_1.slots) (hP : va_P D vwCl (wAll b a a2 n d d2 cI cJ o σ σ2 ω τ2 g) H) (hD : va_D A (wAll b a a2 n d d2 cI cJ o σ σ2 ω τ2 g)) (hS : va_S A s.heap H locs) (ls : Array Slot) (hl : lv_has ls 9 [(0, .ref bs), (1, .ref (b 0)), (2, .ref (n 0)), (3, .ref o), (4, .int (nI (6 * i)))]) (kk : lwK p l e s m args below meth c A D cI cJ b a a2 n d d2 o bs i h cells slots Q) : W p l e room_1 s m args below meth c H locs cells slots Q (F0 m 412 ls []) := by
  obtain ⟨hx, hb, hml, hown, hts, hK, hEX, hX, hbl, hbA, hst, hA, hL⟩ := id C
  obtain ⟨hok, hnw, hw12⟩ := id hI
  have hnc := hok.1.2.1
  have hn8 := hok.1.2.2.1
  refine lv_aload_n hx hb dL_law_412 rfl (lv_at hl 1 rfl) ?_
  refine lv_aload_n hx hb dL_law_413 rfl (lv_at hl 0 rfl) ?_
  refine lv_iload hx hb dL_law_414 (lv_at hl 4 rfl) ?_
  refine lv_iconst (v := 1) hx hb dL_law_416 (by decide) ?_
  refine lv_iadd hx hb dL_law_417 ?_
  rw [show nI (6 * i) + 1 = nI (6 * i + 1) from nI_add (6 * i) 1]
  refine va_sld hx hb hX hbl hbA hS (vp_in_nI (show 6 * i + 1 < L by omega) (by omega)) dL_law_418 ?_
  rw [nI_clamp (n := 6 * i + 1) (by omega), hp1]
  refine lv_aload_n hx hb dL_law_419 rfl (lv_at hl 0 rfl) ?_
  refine lv_iload hx hb dL_law_420 (lv_at hl 4 rfl) ?_
  refine lv_iconst (v := 2) hx hb dL_law_422 (by decide) ?_
  refine lv_iadd hx hb dL_law_423 ?_
  rw [show nI (6 * i) + 2 = nI (6 * i + 2) from nI_add (6 * i) 2]
  refine va_sld hx hb hX hbl hbA hS (vp_in_nI (show 6 * i + 2 < L by omega) (by omega)) dL_law_424 ?_
  rw [nI_clamp (n := 6 * i + 2) (by omega), hp2]
  refine lv_aload_n hx hb dL_law_425 rfl (lv_at hl 0 rfl) ?_
  refine lv_iload hx hb dL_law_426 (lv_at hl 4 rfl) ?_
  refine lv_iconst (v := 3) hx hb dL_law_428 (by decide) ?_
  refine lv_iadd hx hb dL_law_429 ?_
  rw [show nI (6 * i) + 3 = nI (6 * i + 3) from nI_add (6 * i) 3]
  refine va_sld hx hb hX hbl hbA hS (vp_in_nI (show 6 * i + 3 < L by omega) (by omega)) dL_law_430 ?_
  rw [nI_clamp (n := 6 * i + 3) (by omega), hp3]
  refine lv_aload_n hx hb dL_law_431 rfl (lv_at hl 0 rfl) ?_
  refine lv_iload hx hb dL_law_432 (lv_at hl 4 rfl) ?_
  refine lv_iconst (v := 4) hx hb dL_law_434 (by decide) ?_
  refine lv_iadd hx hb dL_law_435 ?_
  rw [show nI (6 * i) + 4 = nI (6 * i + 4) from nI_add (6 * i) 4]
  refine va_sld hx hb hX hbl hbA hS (vp_in_nI (show 6 * i + 4 < L by omega) (by omega)) dL_law_436 ?_
  rw [nI_clamp (n := 6 * i + 4) (by omega), hp4]
  refine lv_aload_n hx hb dL_law_437 rfl (lv_at hl 0 rfl) ?_
  refine lv_iload hx hb dL_law_438 (lv_at hl 4 rfl) ?_
  refine lv_iconst (v := 5) hx hb dL_law_440 (by decide) ?_
  refine lv_iadd hx hb dL_law_441 ?_
  rw [show nI (6 * i) + 5 = nI (6 * i + 5) from nI_add (6 * i) 5]
  refine va_sld hx hb hX hbl hbA hS (vp_in_nI (show 6 * i + 5 < L by omega) (by omega)) dL_law_442 ?_
  rw [nI_clamp (n := 6 * i + 5) (by omega), hp5]
  refine lv_if_eq (tgt := 450) hx hb dL_law_443 (by decide) (fun c_1 => ?_) (fun c_1 => ?_)
  · skip
    exact absurd c_1 hz
  · skip
    refine lv_iconst (v := 1) hx hb dL_law_446 (by decide) ?_
    refine lv_goto (tgt := 451) hx hb dL_law_447 (by decide) ?_
    refine lv_aload_n hx hb dL_law_451 rfl (lv_at hl 3 rfl) ?_
    refine sl_i (vx_runSW (As := [.ref (b 0), .int (nI sn), .int (nI ln), .int p2, .int p3, .int 1, .ref o]) (rest := []) ⟨hx, hb, hml, hown, hts⟩ (M_L_come_ok1 l D cI b a a2 σ σ2 ω sn ln p2 p3 1 nc o g cJ _ hs hl9 h1 h2 h3 hnc hn7 h4 (by decide)) (vx_cwSW 7 hts gL_law_L_come rfl rfl rfl (by decide +kernel) ⟨Nat.le_of_ble_eq_true rfl, Nat.le_of_ble_eq_true rfl⟩) (wrS0 hK hP.left hD.left [0, 1] rfl) rfl rfl hl.1 rfl (lv_room (Nat.le_of_ble_eq_true rfl)) dL_law_452 ⟨(by show cells + _ ≤ room_1.cells; omega), (by show slots + _ ≤ room_1.slots; omega)⟩) hP hD hS hA (fun H locs hP hD hS => ?_)
    have hP : va_P D vwCl (((wTopE b a a2 ++ (wWag b cI ω ++ (wRivE a cI (σ 0 0) (σ 16 0) (σ 1) (σ 2) (σ 3) (σ 4) (nI (nc + 1)) (upd ((σ 5)) nc p2) (upd ((σ 6)) nc p3) (upd ((σ 7)) nc 20) (upd ((σ 8)) nc (nI sn)) (upd ((σ 9)) nc (nI ln)) (upd ((σ 10)) nc (nI sn)) (upd ((σ 11)) nc 0) (upd ((σ 12)) nc 0) (upd ((σ 13)) nc 2) ++ wRiv a2 cI σ2))) ++ [(o, .inl (cJ, 1, .inr (.inl (vp_updL g 0 (nI nc).toInt64))))]) ++ (wMod n d d2 cI σ τ2 ω)) H := hP
    have hD : va_D A (((wTopE b a a2 ++ (wWag b cI ω ++ (wRivE a cI (σ 0 0) (σ 16 0) (σ 1) (σ 2) (σ 3) (σ 4) (nI (nc + 1)) (upd ((σ 5)) nc p2) (upd ((σ 6)) nc p3) (upd ((σ 7)) nc 20) (upd ((σ 8)) nc (nI sn)) (upd ((σ 9)) nc (nI ln)) (upd ((σ 10)) nc (nI sn)) (upd ((σ 11)) nc 0) (upd ((σ 12)) nc 0) (upd ((σ 13)) nc 2) ++ wRiv a2 cI σ2))) ++ [(o, .inl (cJ, 1, .inr (.inl (vp_updL g 0 (nI nc).toInt64))))]) ++ (wMod n d d2 cI σ τ2 ω)) := hD
    refine lv_istore (lv' := [(5, .int 0), (0, .ref bs), (1, .ref (b 0)), (2, .ref (n 0)), (3, .ref o), (4, .int (nI (6 * i)))]) hx hb dL_law_455 hl (by decide) rfl (fun ls hl => ?_)
    refine lv_aload_n hx hb dL_law_457 rfl (lv_at hl 3 rfl) ?_
    refine lv_aload_n hx hb dL_law_458 rfl (lv_at hl 1 rfl) ?_
    refine lv_iload hx hb dL_law_459 (lv_at hl 5 rfl) ?_
    refine lv_iconst (v := 1) hx hb dL_law_461 (by decide) ?_
    refine lv_iadd hx hb dL_law_462 ?_
    rw [show nI (6 * i) + 1 = nI (6 * i + 1) from nI_add (6 * i) 1]
    refine va_sld hx hb hX hbl hbA hS (vp_in_nI (show 6 * i + 1 < L by omega) (by omega)) dL_law_463 ?_
    rw [nI_clamp (n := 6 * i + 1) (by omega), hp1]
    refine lv_aload_n hx hb dL_law_464 rfl (lv_at hl 1 rfl) ?_
    refine lv_iload hx hb dL_law_465 (lv_at hl 5 rfl) ?_
    refine lv_iconst (v := 2) hx hb dL_law_467 (by decide) ?_
    refine lv_iadd hx hb dL_law_468 ?_
    rw [show nI (6 * i) + 2 = nI (6 * i + 2) from nI_add (6 * i) 2]
    refine va_sld hx hb hX hbl hbA hS (vp_in_nI (show 6 * i + 2 < L by omega) (by omega)) dL_law_469 ?_
    rw [nI_clamp (n := 6 * i + 2) (by omega), hp2]
    refine lv_aload_n hx hb dL_law_470 rfl (lv_at hl 1 rfl) ?_
    refine lv_iload hx hb dL_law_471 (lv_at hl 5 rfl) ?_
    refine lv_iconst (v := 3) hx hb dL_law_473 (by decide) ?_
    refine lv_iadd hx hb dL_law_474 ?_
    rw [show nI (6 * i) + 3 = nI (6 * i + 3) from nI_add (6 * i) 3]
    refine va_sld hx hb hX hbl hbA hS (vp_in_nI (show 6 * i + 3 < L by omega) (by omega)) dL_law_475 ?_
    rw [nI_clamp (n := 6 * i + 3) (by omega), hp3]
    refine lv_aload_n hx hb dL_law_476 rfl (lv_at hl 1 rfl) ?_
    refine lv_iload hx hb dL_law_477 (lv_at hl 5 rfl) ?_
    refine lv_iconst (v := 4) hx hb dL_law_479 (by decide) ?_
    refine lv_iadd hx hb dL_law_480 ?_
    rw [show nI (6 * i) + 4 = nI (6 * i + 4) from nI_add (6 * i) 4]
    refine va_sld hx hb hX hbl hbA hS (vp_in_nI (show 6 * i + 4 < L by omega) (by omega)) dL_law_481 ?_
    rw [nI_clamp (n := 6 * i + 4) (by omega), hp4]
    refine lv_aload_n hx hb dL_law_482 rfl (lv_at hl 1 rfl) ?_
    refine lv_iload hx hb dL_law_483 (lv_at hl 5 rfl) ?_
    refine lv_iconst (v := 5) hx hb dL_law_485 (by decide) ?_
    refine lv_iadd hx hb dL_law_486 ?_
    rw [show nI (6 * i) + 5 = nI (6 * i + 5) from nI_add (6 * i) 5]
    refine va_sld hx hb hX hbl hbA hS (vp_in_nI (show 6 * i + 5 < L by omega) (by omega)) dL_law_487 ?_
    rw [nI_clamp (n := 6 * i + 5) (by omega), hp5]
    refine lv_if_eq (tgt := 495) hx hb dL_law_488 (by decide) (fun c_2 => ?_) (fun c_2 => ?_)
    · skip
      exact absurd c_2 hz
    · skip
      refine lv_iconst (v := 1) hx hb dL_law_491 (by decide) ?_
      refine lv_goto (tgt := 496) hx hb dL_law_492 (by decide) ?_
      refine sr_i (va_runV (As := [.int (nI sn), .int (nI ln), .int p2, .int p3, .int 1]) (rest := []) ⟨hx, hb, hml, hown, hts⟩ (M_X6_come_ok l D cI n d d2 σ τ2 ω sn ln p2 p3 1 2 nc _ hs hl9 h1 h2 h3 hnc hn7 (by rw [← sound_nI]; exact h4) (by decide)) (cwV 5 hts gL_law_X6_come rfl rfl rfl (by decide +kernel) ⟨Nat.le_of_ble_eq_true rfl, Nat.le_of_ble_eq_true rfl⟩) (wrV0 hK hP.right hD.right [0] rfl (ci := 6) (q0 := 0) rfl rfl) rfl rfl hl.1 rfl (lv_room (Nat.le_of_ble_eq_true rfl)) dL_law_496 ⟨(by show cells + _ ≤ room_1.cells; omega), (by show slots + _ ≤ room_1.slots; omega)⟩) hP hD hS hA (fun H locs hP hD hS => ?_)
      have hP : va_P D vwCl (((wTopE b a a2 ++ (wWag b cI ω ++ (wRivE a cI (σ 0 0) (σ 16 0) (σ 1) (σ 2) (σ 3) (σ 4) (nI (nc + 1)) (upd ((σ 5)) nc p2) (upd ((σ 6)) nc p3) (upd ((σ 7)) nc 20) (upd ((σ 8)) nc (nI sn)) (upd ((σ 9)) nc (nI ln)) (upd ((σ 10)) nc (nI sn)) (upd ((σ 11)) nc 0) (upd ((σ 12)) nc 0) (upd ((σ 13)) nc 2) ++ wRiv a2 cI σ2))) ++ [(o, .inl (cJ, 1, .inr (.inl (vp_updL g 0 (nI nc).toInt64))))]) ++ (wOutE n d d2 cI 0 (ω 19 0) (ω 1) (ω 2) (ω 14) (ω 15) ++ (wStaE d (n 0) cI (σ 0 0) (nI (nc + 1)) (σ 16 0) (σ 18 0) (σ 3) (σ 4) (upd ((σ 5)) nc p2) (upd ((σ 6)) nc p3) (upd ((σ 7)) nc 20) (upd ((σ 8)) nc (nI sn)) (upd ((σ 9)) nc (nI ln)) (upd ((σ 10)) nc (nI sn)) (upd ((σ 11)) nc 0) (upd ((σ 12)) nc 0) (upd ((σ 13)) nc 2) ++ wSta d2 (n 0) cI τ2))) H := hP
      have hD : va_D A (((wTopE b a a2 ++ (wWag b cI ω ++ (wRivE a cI (σ 0 0) (σ 16 0) (σ 1) (σ 2) (σ 3) (σ 4) (nI (nc + 1)) (upd ((σ 5)) nc p2) (upd ((σ 6)) nc p3) (upd ((σ 7)) nc 20) (upd ((σ 8)) nc (nI sn)) (upd ((σ 9)) nc (nI ln)) (upd ((σ 10)) nc (nI sn)) (upd ((σ 11)) nc 0) (upd ((σ 12)) nc 0) (upd ((σ 13)) nc 2) ++ wRiv a2 cI σ2))) ++ [(o, .inl (cJ, 1, .inr (.inl (vp_updL g 0 (nI nc).toInt64))))]) ++ (wOutE n d d2 cI 0 (ω 19 0) (ω 1) (ω 2) (ω 14) (ω 15) ++ (wStaE d (n 0) cI (σ 0 0) (nI (nc + 1)) (σ 16 0) (σ 18 0) (σ 3) (σ 4) (upd ((σ 5)) nc p2) (upd ((σ 6)) nc p3) (upd ((σ 7)) nc 20) (upd ((σ 8)) nc (nI sn)) (upd ((σ 9)) nc (nI ln)) (upd ((σ 10)) nc (nI sn)) (upd ((σ 11)) nc 0) (upd ((σ 12)) nc 0) (upd ((σ 13)) nc 2) ++ wSta d2 (n 0) cI τ2))) := hD
      refine lv_istore (lv' := [(6, .int (nI nc)), (5, .int 0), (0, .ref bs), (1, .ref (b 0)), (2, .ref (n 0)), (3, .ref o), (4, .int (nI (6 * i)))]) hx hb dL_law_499 hl (by decide) rfl (fun ls hl => ?_)
      refine lv_aload_n hx hb dL_law_501 rfl (lv_at hl 4 rfl) ?_
      refine rd_i (va_runV (As := []) (rest := []) ⟨hx, hb, hml, hown, hts⟩ (M_X6_thrown l D cI n d d2 (put (put (put (put (put (put (put (put (put (put σ 5 (upd ((σ 5)) nc p2)) 6 (upd ((σ 6)) nc p3)) 7 (upd ((σ 7)) nc 20)) 8 (upd ((σ 8)) nc (nI sn))) 9 (upd ((σ 9)) nc (nI ln))) 10 (upd ((σ 10)) nc (nI sn))) 11 (upd ((σ 11)) nc 0)) 12 (upd ((σ 12)) nc 0)) 13 (upd ((σ 13)) nc 2)) 17 (fun _ => nI (nc + 1))) τ2 (put ω 20 (fun _ => 0)) ) (cwV 0 hts gL_law_X6_thrown rfl rfl rfl (by decide +kernel) ⟨Nat.le_of_ble_eq_true rfl, Nat.le_of_ble_eq_true rfl⟩) (rdV0 hK hP.right [0] rfl (ci := 6) (q0 := 0) rfl rfl) rfl rfl hl.1 rfl (lv_room (Nat.le_of_ble_eq_true rfl)) dL_law_502 ⟨(by show cells + _ ≤ room_1.cells; omega), (by show slots + _ ≤ room_1.slots; omega)⟩) ?_
      refine W.eq (g2 := F0 m 505 ls [.int 0]) rfl ?_
      refine lv_iload hx hb dL_law_505 (lv_at hl 1 rfl) ?_
      refine lv_icmp_eq (tgt := 512) hx hb dL_law_507 (by decide) (fun c_3 => ?_) (fun c_3 => ?_)
      · skip
        refine lv_iload hx hb dL_law_512 (lv_at hl 1 rfl) ?_
        refine lv_if_ne (tgt := 529) hx hb dL_law_514 (by decide) (fun c_4 => ?_) (fun c_4 => ?_)
        · skip
          exact absurd c_4 (by decide)
        · skip
          refine lv_aload_n hx hb dL_law_517 rfl (lv_at hl 5 rfl) ?_
          refine lv_iconst (v := 0) hx hb dL_law_518 (by decide) ?_
          refine va_lald hx hb hK.1 hP 36 1 rfl rfl (by unfold vp_in; decide) dL_law_519 ?_
          refine W.eq (g2 := F0 m 520 ls [.long ((nI nc).toInt64)]) rfl ?_
          refine lv_iload hx hb dL_law_520 (lv_at hl 0 rfl) ?_
          refine lv_i2l hx hb dL_law_522 rfl ?_
          refine my_lcmpE hx hb dL_law_523 ?_
          refine lv_if_eq (tgt := 529) hx hb dL_law_524 (by decide) (fun c_5 => ?_) (fun c_5 => ?_)
          · skip
            refine lv_goto (tgt := 1220) hx hb dL_law_529 (by decide) ?_
            have hP : va_P D vwCl (wAll b a a2 n d d2 cI cJ o (cmF σ nc p2 p3 (nI sn) (nI ln) 2) σ2 (put ω 20 (fun _ => 0)) τ2 (vp_updL g 0 (nI nc).toInt64)) H := hP
            have hD : va_D A (wAll b a a2 n d d2 cI cJ o (cmF σ nc p2 p3 (nI sn) (nI ln) 2) σ2 (put ω 20 (fun _ => 0)) τ2 (vp_updL g 0 (nI nc).toInt64)) := hD
            refine W.widen (k := cells + 23) (n := slots + 200) (by omega) (by omega) ?_
            exact kk (cmF σ nc p2 p3 (nI sn) (nI ln) 2) σ2 (put ω 20 (fun _ => 0)) τ2 (vp_updL g 0 (nI nc).toInt64) h (nc + 1) nw (iv_come (fun _ => 0) hn7 (nI_le11 hs) (nI_le2 hl9) (by decide) hI) (by omega) H locs hP hD hS ls (lv_sub hl [2, 3, 4, 5, 6] rfl)
          · skip
            exact absurd c_5 (by decide)
      · skip
        exact absurd rfl c_3
