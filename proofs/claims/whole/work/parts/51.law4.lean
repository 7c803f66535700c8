set_option maxHeartbeats 4000000 in
set_option maxRecDepth 100000 in
theorem LW_wins_e1 {p : Program} {l : Launch} {e : Env} {s : State} {m : MethodId} {args : Array Value} {below : List Frame} {meth : Method} {c : Code} {A : Nat → Prop} {D : va_G} {cI cJ : ClassId} {bs L : Nat} {xs : Nat → Int32} (C : lwC p l s m args c A D cI cJ bs L xs) (b a a2 n d d2 : Nat → Nat) (o i h nc nw : Nat) (σ σ2 ω τ2 : St) (g : Nat → Int64) (p0 : Int32) (hI : lwI σ ω h nc nw) (hi : 6 * i + 6 ≤ L) (hbd : h + 1000 < 2 ^ 29) (hp1 : xs (6 * i + 1) = p0) (h1 : ¬ (0 ≤ p0 ∧ p0 ≤ ω 19 0 - 1)) {H : Heap} {locs : List Loc} {cells slots : Nat} {Q : State → Prop} (hRc : cells + 100 ≤ room_1.cells) (hRs : slots + 1000 ≤ room_1.slots) (hP : va_P D vwCl (wAll b a a2 n d d2 cI cJ o σ σ2 ω τ2 g) H) (hD : va_D A (wAll b a a2 n d d2 cI cJ o σ σ2 ω τ2 g)) (hS : va_S A s.heap H locs) (ls : Array Slot) (hl : lv_has ls 9 [(0, .ref bs), (1, .ref (b 0)), (2, .ref (n 0)), (3, .ref o), (4, .int (nI (6 * i)))]) (kk : lwK p l e s m args below meth c A D cI cJ b a a2 n d d2 o bs i h cells slots Q) : W p l e room_1 s m args below meth c H locs cells slots Q (F0 m 804 ls []) := by
  obtain ⟨hx, hb, hml, hown, hts, hK, hEX, hX, hbl, hbA, hst, hA, hL⟩ := id C
  obtain ⟨hok, hnw, hw12⟩ := id hI
  have hnc := hok.1.2.1
  have hn8 := hok.1.2.2.1
  refine lv_aload_n hx hb dL_law_804 rfl (lv_at hl 1 rfl) ?_
  refine lv_aload_n hx hb dL_law_805 rfl (lv_at hl 0 rfl) ?_
  refine lv_iload hx hb dL_law_806 (lv_at hl 4 rfl) ?_
  refine lv_iconst (v := 1) hx hb dL_law_808 (by decide) ?_
  refine lv_iadd hx hb dL_law_809 ?_
  rw [show nI (6 * i) + 1 = nI (6 * i + 1) from nI_add (6 * i) 1]
  refine va_sld hx hb hX hbl hbA hS (vp_in_nI (show 6 * i + 1 < L by omega) (by omega)) dL_law_810 ?_
  rw [nI_clamp (n := 6 * i + 1) (by omega), hp1]
  refine lv_aload_n hx hb dL_law_811 rfl (lv_at hl 3 rfl) ?_
  refine sl_i (vx_runSW (As := [.ref (b 0), .int p0, .ref o]) (rest := []) ⟨hx, hb, hml, hown, hts⟩ (M_L_wins_e1 l D cI b a a2 σ σ2 ω p0 o g cJ _ A hst h1) (vx_cwSW 3 hts gL_law_L_wins rfl rfl rfl (by decide +kernel) ⟨Nat.le_of_ble_eq_true rfl, Nat.le_of_ble_eq_true rfl⟩) (hxS0 hK hP.left hD.left hS hEX [0, 1] rfl) rfl rfl hl.1 rfl (lv_room (Nat.le_of_ble_eq_true rfl)) dL_law_812 ⟨(by show cells + _ ≤ room_1.cells; omega), (by show slots + _ ≤ room_1.slots; omega)⟩) hP hD hS hA (fun H locs hP hD hS => ?_)
  have hP : va_P D vwCl (((wLan b a a2 cI σ σ2 ω) ++ [(o, .inl (cJ, 1, .inr (.inl g)))]) ++ (wMod n d d2 cI σ τ2 ω)) H := hP
  have hD : va_D A (((wLan b a a2 cI σ σ2 ω) ++ [(o, .inl (cJ, 1, .inr (.inl g)))]) ++ (wMod n d d2 cI σ τ2 ω)) := hD
  refine lv_istore (lv' := [(5, .int 1), (0, .ref bs), (1, .ref (b 0)), (2, .ref (n 0)), (3, .ref o), (4, .int (nI (6 * i)))]) hx hb dL_law_815 hl (by decide) rfl (fun ls hl => ?_)
  refine lv_aload_n hx hb dL_law_817 rfl (lv_at hl 3 rfl) ?_
  refine lv_aload_n hx hb dL_law_818 rfl (lv_at hl 1 rfl) ?_
  refine lv_iload hx hb dL_law_819 (lv_at hl 5 rfl) ?_
  refine lv_iconst (v := 1) hx hb dL_law_821 (by decide) ?_
  refine lv_iadd hx hb dL_law_822 ?_
  rw [show nI (6 * i) + 1 = nI (6 * i + 1) from nI_add (6 * i) 1]
  refine va_sld hx hb hX hbl hbA hS (vp_in_nI (show 6 * i + 1 < L by omega) (by omega)) dL_law_823 ?_
  rw [nI_clamp (n := 6 * i + 1) (by omega), hp1]
  refine sr_i (va_runV (As := [.int p0]) (rest := []) ⟨hx, hb, hml, hown, hts⟩ (M_X6_wins_e1 l D cI n d d2 σ τ2 ω p0 _ h1) (cwV 1 hts gL_law_X6_wins rfl rfl rfl (by decide +kernel) ⟨Nat.le_of_ble_eq_true rfl, Nat.le_of_ble_eq_true rfl⟩) (wrV0 hK hP.right hD.right [0] rfl (ci := 6) (q0 := 0) rfl rfl) rfl rfl hl.1 rfl (lv_room (Nat.le_of_ble_eq_true rfl)) dL_law_824 ⟨(by show cells + _ ≤ room_1.cells; omega), (by show slots + _ ≤ room_1.slots; omega)⟩) hP hD hS hA (fun H locs hP hD hS => ?_)
  have hP : va_P D vwCl (((wLan b a a2 cI σ σ2 ω) ++ [(o, .inl (cJ, 1, .inr (.inl g)))]) ++ (wOutE n d d2 cI 1 (ω 19 0) (ω 1) (ω 2) (ω 14) (ω 15) ++ (wSta d (n 0) cI σ ++ wSta d2 (n 0) cI τ2))) H := hP
  have hD : va_D A (((wLan b a a2 cI σ σ2 ω) ++ [(o, .inl (cJ, 1, .inr (.inl g)))]) ++ (wOutE n d d2 cI 1 (ω 19 0) (ω 1) (ω 2) (ω 14) (ω 15) ++ (wSta d (n 0) cI σ ++ wSta d2 (n 0) cI τ2))) := hD
  refine lv_istore (lv' := [(6, .int 0), (5, .int 1), (0, .ref bs), (1, .ref (b 0)), (2, .ref (n 0)), (3, .ref o), (4, .int (nI (6 * i)))]) hx hb dL_law_827 hl (by decide) rfl (fun ls hl => ?_)
  refine lv_aload_n hx hb dL_law_829 rfl (lv_at hl 4 rfl) ?_
  refine rd_i (va_runV (As := []) (rest := []) ⟨hx, hb, hml, hown, hts⟩ (M_X6_thrown l D cI n d d2 σ τ2 (put ω 20 (fun _ => 1)) ) (cwV 0 hts gL_law_X6_thrown rfl rfl rfl (by decide +kernel) ⟨Nat.le_of_ble_eq_true rfl, Nat.le_of_ble_eq_true rfl⟩) (rdV0 hK hP.right [0] rfl (ci := 6) (q0 := 0) rfl rfl) rfl rfl hl.1 rfl (lv_room (Nat.le_of_ble_eq_true rfl)) dL_law_830 ⟨(by show cells + _ ≤ room_1.cells; omega), (by show slots + _ ≤ room_1.slots; omega)⟩) ?_
  refine W.eq (g2 := F0 m 833 ls [.int 1]) rfl ?_
  refine lv_iload hx hb dL_law_833 (lv_at hl 1 rfl) ?_
  refine lv_icmp_eq (tgt := 840) hx hb dL_law_835 (by decide) (fun c_1 => ?_) (fun c_1 => ?_)
  · skip
    refine lv_iload hx hb dL_law_840 (lv_at hl 1 rfl) ?_
    refine lv_if_ne (tgt := 857) hx hb dL_law_842 (by decide) (fun c_2 => ?_) (fun c_2 => ?_)
    · skip
      refine lv_goto (tgt := 1220) hx hb dL_law_857 (by decide) ?_
      have hP : va_P D vwCl (wAll b a a2 n d d2 cI cJ o σ σ2 (put ω 20 (fun _ => 1)) τ2 g) H := hP
      have hD : va_D A (wAll b a a2 n d d2 cI cJ o σ σ2 (put ω 20 (fun _ => 1)) τ2 g) := hD
      refine W.widen (k := cells + 23) (n := slots + 200) (by omega) (by omega) ?_
      exact kk σ σ2 (put ω 20 (fun _ => 1)) τ2 g h nc nw (iv_w (fun _ => 1) hI) (by omega) H locs hP hD hS ls (lv_sub hl [2, 3, 4, 5, 6] rfl)
    · skip
      exact absurd c_2 (by decide)
  · skip
    exact absurd rfl c_1
set_option maxHeartbeats 4000000 in
set_option maxRecDepth 100000 in
theorem LW_wins_ok {p : Program} {l : Launch} {e : Env} {s : State} {m : MethodId} {args : Array Value} {below : List Frame} {meth : Method} {c : Code} {A : Nat → Prop} {D : va_G} {cI cJ : ClassId} {bs L : Nat} {xs : Nat → Int32} (C : lwC p l s m args c A D cI cJ bs L xs) (b a a2 n d d2 : Nat → Nat) (o i h nc nw : Nat) (σ σ2 ω τ2 : St) (g : Nat → Int64) (wg : Nat) (hI : lwI σ ω h nc nw) (hi : 6 * i + 6 ≤ L) (hbd : h + 1000 < 2 ^ 29) (hp1 : xs (6 * i + 1) = nI wg) (h1 : (0 ≤ nI wg ∧ nI wg ≤ ω 19 0 - 1)) (hwg : wg < nw) {H : Heap} {locs : List Loc} {cells slots : Nat} {Q : State → Prop} (hRc : cells + 100 ≤ room_1.cells) (hRs : slots + 1000 ≤ room_1.slots) (hP : va_P D vwCl (wAll b a a2 n d d2 cI cJ o σ σ2 ω τ2 g) H) (hD : va_D A (wAll b a a2 n d d2 cI cJ o σ σ2 ω τ2 g)) (hS : va_S A s.heap H locs) (ls : Array Slot) (hl : lv_has ls 9 [(0, .ref bs), (1, .ref (b 0)), (2, .ref (n 0)), (3, .ref o), (4, .int (nI (6 * i)))]) (kk : lwK p l e s m args below meth c A D cI cJ b a a2 n d d2 o bs i h cells slots Q) : W p l e room_1 s m args below meth c H locs cells slots Q (F0 m 804 ls []) := by
  obtain ⟨hx, hb, hml, hown, hts, hK, hEX, hX, hbl, hbA, hst, hA, hL⟩ := id C
  obtain ⟨hok, hnw, hw12⟩ := id hI
  have hnc := hok.1.2.1
  have hn8 := hok.1.2.2.1
  refine lv_aload_n hx hb dL_law_804 rfl (lv_at hl 1 rfl) ?_
  refine lv_aload_n hx hb dL_law_805 rfl (lv_at hl 0 rfl) ?_
  refine lv_iload hx hb dL_law_806 (lv_at hl 4 rfl) ?_
  refine lv_iconst (v := 1) hx hb dL_law_808 (by decide) ?_
  refine lv_iadd hx hb dL_law_809 ?_
  rw [show nI (6 * i) + 1 = nI (6 * i + 1) from nI_add (6 * i) 1]
  refine va_sld hx hb hX hbl hbA hS (vp_in_nI (show 6 * i + 1 < L by omega) (by omega)) dL_law_810 ?_
  rw [nI_clamp (n := 6 * i + 1) (by omega), hp1]
  refine lv_aload_n hx hb dL_law_811 rfl (lv_at hl 3 rfl) ?_
  refine sl_i (vx_runSW (As := [.ref (b 0), .int (nI wg), .ref o]) (rest := []) ⟨hx, hb, hml, hown, hts⟩ (M_L_wins_ok l D cI b a a2 σ σ2 ω wg nw o g cJ _ h1 hnw hw12 hwg) (vx_cwSW 3 hts gL_law_L_wins rfl rfl rfl (by decide +kernel) ⟨Nat.le_of_ble_eq_true rfl, Nat.le_of_ble_eq_true rfl⟩) (wrS0 hK hP.left hD.left [0, 1] rfl) rfl rfl hl.1 rfl (lv_room (Nat.le_of_ble_eq_true rfl)) dL_law_812 ⟨(by show cells + _ ≤ room_1.cells; omega), (by show slots + _ ≤ room_1.slots; omega)⟩) hP hD hS hA (fun H locs hP hD hS => ?_)
  have hP : va_P D vwCl (((wLan b a a2 cI σ σ2 ω) ++ [(o, .inl (cJ, 1, .inr (.inl (vp_updL g 0 (wonF σ ω nw wg).toInt64))))]) ++ (wMod n d d2 cI σ τ2 ω)) H := hP
  have hD : va_D A (((wLan b a a2 cI σ σ2 ω) ++ [(o, .inl (cJ, 1, .inr (.inl (vp_updL g 0 (wonF σ ω nw wg).toInt64))))]) ++ (wMod n d d2 cI σ τ2 ω)) := hD
  refine lv_istore (lv' := [(5, .int 0), (0, .ref bs), (1, .ref (b 0)), (2, .ref (n 0)), (3, .ref o), (4, .int (nI (6 * i)))]) hx hb dL_law_815 hl (by decide) rfl (fun ls hl => ?_)
  refine lv_aload_n hx hb dL_law_817 rfl (lv_at hl 3 rfl) ?_
  refine lv_aload_n hx hb dL_law_818 rfl (lv_at hl 1 rfl) ?_
  refine lv_iload hx hb dL_law_819 (lv_at hl 5 rfl) ?_
  refine lv_iconst (v := 1) hx hb dL_law_821 (by decide) ?_
  refine lv_iadd hx hb dL_law_822 ?_
  rw [show nI (6 * i) + 1 = nI (6 * i + 1) from nI_add (6 * i) 1]
  refine va_sld hx hb hX hbl hbA hS (vp_in_nI (show 6 * i + 1 < L by omega) (by omega)) dL_law_823 ?_
  rw [nI_clamp (n := 6 * i + 1) (by omega), hp1]
  refine sr_i (va_runV (As := [.int (nI wg)]) (rest := []) ⟨hx, hb, hml, hown, hts⟩ (M_X6_wins_ok l D cI n d d2 σ τ2 ω wg nw _ h1 hnw hw12 hwg) (cwV 1 hts gL_law_X6_wins rfl rfl rfl (by decide +kernel) ⟨Nat.le_of_ble_eq_true rfl, Nat.le_of_ble_eq_true rfl⟩) (wrV0 hK hP.right hD.right [0] rfl (ci := 6) (q0 := 0) rfl rfl) rfl rfl hl.1 rfl (lv_room (Nat.le_of_ble_eq_true rfl)) dL_law_824 ⟨(by show cells + _ ≤ room_1.cells; omega), (by show slots + _ ≤ room_1.slots; omega)⟩) hP hD hS hA (fun H locs hP hD hS => ?_)
  have hP : va_P D vwCl (((wLan b a a2 cI σ σ2 ω) ++ [(o, .inl (cJ, 1, .inr (.inl (vp_updL g 0 (wonF σ ω nw wg).toInt64))))]) ++ (wOutE n d d2 cI 0 (ω 19 0) (ω 1) (ω 2) (ω 14) (ω 15) ++ (wSta d (n 0) cI σ ++ wSta d2 (n 0) cI τ2))) H := hP
  have hD : va_D A (((wLan b a a2 cI σ σ2 ω) ++ [(o, .inl (cJ, 1, .inr (.inl (vp_updL g 0 (wonF σ ω nw wg).toInt64))))]) ++ (wOutE n d d2 cI 0 (ω 19 0) (ω 1) (ω 2) (ω 14) (ω 15) ++ (wSta d (n 0) cI σ ++ wSta d2 (n 0) cI τ2))) := hD
  refine lv_istore (lv' := [(6, .int (wonF σ ω nw wg)), (5, .int 0), (0, .ref bs), (1, .ref (b 0)), (2, .ref (n 0)), (3, .ref o), (4, .int (nI (6 * i)))]) hx hb dL_law_827 hl (by decide) rfl (fun ls hl => ?_)
  refine lv_aload_n hx hb dL_law_829 rfl (lv_at hl 4 rfl) ?_
  refine rd_i (va_runV (As := []) (rest := []) ⟨hx, hb, hml, hown, hts⟩ (M_X6_thrown l D cI n d d2 σ τ2 (put ω 20 (fun _ => 0)) ) (cwV 0 hts gL_law_X6_thrown rfl rfl rfl (by decide +kernel) ⟨Nat.le_of_ble_eq_true rfl, Nat.le_of_ble_eq_true rfl⟩) (rdV0 hK hP.right [0] rfl (ci := 6) (q0 := 0) rfl rfl) rfl rfl hl.1 rfl (lv_room (Nat.le_of_ble_eq_true rfl)) dL_law_830 ⟨(by show cells + _ ≤ room_1.cells; omega), (by show slots + _ ≤ room_1.slots; omega)⟩) ?_
  refine W.eq (g2 := F0 m 833 ls [.int 0]) rfl ?_
  refine lv_iload hx hb dL_law_833 (lv_at hl 1 rfl) ?_
  refine lv_icmp_eq (tgt := 840) hx hb dL_law_835 (by decide) (fun c_1 => ?_) (fun c_1 => ?_)
  · skip
    refine lv_iload hx hb dL_law_840 (lv_at hl 1 rfl) ?_
    refine lv_if_ne (tgt := 857) hx hb dL_law_842 (by decide) (fun c_2 => ?_) (fun c_2 => ?_)
    · skip
      exact absurd c_2 (by decide)
    · skip
      refine lv_aload_n hx hb dL_law_845 rfl (lv_at hl 5 rfl) ?_
      refine lv_iconst (v := 0) hx hb dL_law_846 (by decide) ?_
      refine va_lald hx hb hK.1 hP 36 1 rfl rfl (by unfold vp_in; decide) dL_law_847 ?_
      refine W.eq (g2 := F0 m 848 ls [.long ((wonF σ ω nw wg).toInt64)]) rfl ?_
      refine lv_iload hx hb dL_law_848 (lv_at hl 0 rfl) ?_
      refine lv_i2l hx hb dL_law_850 rfl ?_
      refine my_lcmpE hx hb dL_law_851 ?_
      refine lv_if_eq (tgt := 857) hx hb dL_law_852 (by decide) (fun c_3 => ?_) (fun c_3 => ?_)
      · skip
        refine lv_goto (tgt := 1220) hx hb dL_law_857 (by decide) ?_
        have hP : va_P D vwCl (wAll b a a2 n d d2 cI cJ o σ σ2 (put ω 20 (fun _ => 0)) τ2 (vp_updL g 0 (wonF σ ω nw wg).toInt64)) H := hP
        have hD : va_D A (wAll b a a2 n d d2 cI cJ o σ σ2 (put ω 20 (fun _ => 0)) τ2 (vp_updL g 0 (wonF σ ω nw wg).toInt64)) := hD
        refine W.widen (k := cells + 23) (n := slots + 200) (by omega) (by omega) ?_
        exact kk σ σ2 (put ω 20 (fun _ => 0)) τ2 (vp_updL g 0 (wonF σ ω nw wg).toInt64) h nc nw (iv_w (fun _ => 0) hI) (by omega) H locs hP hD hS ls (lv_sub hl [2, 3, 4, 5, 6] rfl)
      · skip
        exact absurd c_3 (by decide)
  · skip
    exact absurd rfl c_1
set_option maxHeartbeats 4000000 in
set_option maxRecDepth 100000 in
theorem LW_pass_e1 {p : Program} {l : Launch} {e : Env} {s : State} {m : MethodId} {args : Array Value} {below : List Frame} {meth : Method} {c : Code} {A : Nat → Prop} {D : va_G} {cI cJ : ClassId} {bs L : Nat} {xs : Nat → Int32} (C : lwC p l s m args c A D cI cJ bs L xs) (b a a2 n d d2 : Nat → Nat) (o i h nc nw : Nat) (σ σ2 ω τ2 : St) (g : Nat → Int64) (p0 : Int32) (hI : lwI σ ω h nc nw) (hi : 6 * i + 6 ≤ L) (hbd : h + 1000 < 2 ^ 29) (hp1 : xs (6 * i + 1) = p0) (h1 : ¬ (1 ≤ p0 ∧ p0 ≤ 200)) {H : Heap} {locs : List Loc} {cells slots : Nat} {Q : State → Prop} (hRc : cells + 100 ≤ room_1.cells) (hRs : slots + 1000 ≤ room_1.slots) (hP : va_P D vwCl (wAll b a a2 n d d2 cI cJ o σ σ2 ω τ2 g) H) (hD : va_D A (wAll b a a2 n d d2 cI cJ o σ σ2 ω τ2 g)) (hS : va_S A s.heap H locs) (ls : Array Slot) (hl : lv_has ls 9 [(0, .ref bs), (1, .ref (b 0)), (2, .ref (n 0)), (3, .ref o), (4, .int (nI (6 * i)))]) (kk : lwK p l e s m args below meth c A D cI cJ b a a2 n d d2 o bs i h cells slots Q) : W p l e room_1 s m args below meth c H locs cells slots Q (F0 m 860 ls []) := by
  obtain ⟨hx, hb, hml, hown, hts, hK, hEX, hX, hbl, hbA, hst, hA, hL⟩ := id C
  obtain ⟨hok, hnw, hw12⟩ := id hI
  have hnc := hok.1.2.1
  have hn8 := hok.1.2.2.1
  refine lv_aload_n hx hb dL_law_860 rfl (lv_at hl 1 rfl) ?_
  refine lv_aload_n hx hb dL_law_861 rfl (lv_at hl 0 rfl) ?_
  refine lv_iload hx hb dL_law_862 (lv_at hl 4 rfl) ?_
  refine lv_iconst (v := 1) hx hb dL_law_864 (by decide) ?_
  refine lv_iadd hx hb dL_law_865 ?_
  rw [show nI (6 * i) + 1 = nI (6 * i + 1) from nI_add (6 * i) 1]
  refine va_sld hx hb hX hbl hbA hS (vp_in_nI (show 6 * i + 1 < L by omega) (by omega)) dL_law_866 ?_
  rw [nI_clamp (n := 6 * i + 1) (by omega), hp1]
  refine lv_aload_n hx hb dL_law_867 rfl (lv_at hl 3 rfl) ?_
  refine sl_i (vx_runSW (As := [.ref (b 0), .int p0, .ref o]) (rest := []) ⟨hx, hb, hml, hown, hts⟩ (M_L_pass_e1 l D cI b a a2 σ σ2 ω p0 o g cJ _ A hst h1) (vx_cwSW 3 hts gL_law_L_pass rfl rfl rfl (by decide +kernel) ⟨Nat.le_of_ble_eq_true rfl, Nat.le_of_ble_eq_true rfl⟩) (hxS0 hK hP.left hD.left hS hEX [0, 1] rfl) rfl rfl hl.1 rfl (lv_room (Nat.le_of_ble_eq_true rfl)) dL_law_868 ⟨(by show cells + _ ≤ room_1.cells; omega), (by show slots + _ ≤ room_1.slots; omega)⟩) hP hD hS hA (fun H locs hP hD hS => ?_)
  have hP : va_P D vwCl (((wLan b a a2 cI σ σ2 ω) ++ [(o, .inl (cJ, 1, .inr (.inl g)))]) ++ (wMod n d d2 cI σ τ2 ω)) H := hP
  have hD : va_D A (((wLan b a a2 cI σ σ2 ω) ++ [(o, .inl (cJ, 1, .inr (.inl g)))]) ++ (wMod n d d2 cI σ τ2 ω)) := hD
  refine lv_istore (lv' := [(5, .int 1), (0, .ref bs), (1, .ref (b 0)), (2, .ref (n 0)), (3, .ref o), (4, .int (nI (6 * i)))]) hx hb dL_law_871 hl (by decide) rfl (fun ls hl => ?_)
  refine lv_aload_n hx hb dL_law_873 rfl (lv_at hl 3 rfl) ?_
  refine lv_aload_n hx hb dL_law_874 rfl (lv_at hl 1 rfl) ?_
  refine lv_iload hx hb dL_law_875 (lv_at hl 5 rfl) ?_
  refine lv_iconst (v := 1) hx hb dL_law_877 (by decide) ?_
  refine lv_iadd hx hb dL_law_878 ?_
  rw [show nI (6 * i) + 1 = nI (6 * i + 1) from nI_add (6 * i) 1]
  refine va_sld hx hb hX hbl hbA hS (vp_in_nI (show 6 * i + 1 < L by omega) (by omega)) dL_law_879 ?_
  rw [nI_clamp (n := 6 * i + 1) (by omega), hp1]
  refine sr_i (va_runV (As := [.int p0]) (rest := []) ⟨hx, hb, hml, hown, hts⟩ (M_X6_pass_e1 l D cI n d d2 σ τ2 ω p0 _ h1) (cwV 1 hts gL_law_X6_pass rfl rfl rfl (by decide +kernel) ⟨Nat.le_of_ble_eq_true rfl, Nat.le_of_ble_eq_true rfl⟩) (wrV0 hK hP.right hD.right [0] rfl (ci := 6) (q0 := 0) rfl rfl) rfl rfl hl.1 rfl (lv_room (Nat.le_of_ble_eq_true rfl)) dL_law_880 ⟨(by show cells + _ ≤ room_1.cells; omega), (by show slots + _ ≤ room_1.slots; omega)⟩) hP hD hS hA (fun H locs hP hD hS => ?_)
  have hP : va_P D vwCl (((wLan b a a2 cI σ σ2 ω) ++ [(o, .inl (cJ, 1, .inr (.inl g)))]) ++ (wOutE n d d2 cI 1 (ω 19 0) (ω 1) (ω 2) (ω 14) (ω 15) ++ (wSta d (n 0) cI σ ++ wSta d2 (n 0) cI τ2))) H := hP
  have hD : va_D A (((wLan b a a2 cI σ σ2 ω) ++ [(o, .inl (cJ, 1, .inr (.inl g)))]) ++ (wOutE n d d2 cI 1 (ω 19 0) (ω 1) (ω 2) (ω 14) (ω 15) ++ (wSta d (n 0) cI σ ++ wSta d2 (n 0) cI τ2))) := hD
  refine lv_istore (lv' := [(6, .int 0), (5, .int 1), (0, .ref bs), (1, .ref (b 0)), (2, .ref (n 0)), (3, .ref o), (4, .int (nI (6 * i)))]) hx hb dL_law_883 hl (by decide) rfl (fun ls hl => ?_)
  refine lv_aload_n hx hb dL_law_885 rfl (lv_at hl 4 rfl) ?_
  refine rd_i (va_runV (As := []) (rest := []) ⟨hx, hb, hml, hown, hts⟩ (M_X6_thrown l D cI n d d2 σ τ2 (put ω 20 (fun _ => 1)) ) (cwV 0 hts gL_law_X6_thrown rfl rfl rfl (by decide +kernel) ⟨Nat.le_of_ble_eq_true rfl, Nat.le_of_ble_eq_true rfl⟩) (rdV0 hK hP.right [0] rfl (ci := 6) (q0 := 0) rfl rfl) rfl rfl hl.1 rfl (lv_room (Nat.le_of_ble_eq_true rfl)) dL_law_886 ⟨(by show cells + _ ≤ room_1.cells; omega), (by show slots + _ ≤ room_1.slots; omega)⟩) ?_
  refine W.eq (g2 := F0 m 889 ls [.int 1]) rfl ?_
  refine lv_iload hx hb dL_law_889 (lv_at hl 1 rfl) ?_
  refine lv_icmp_eq (tgt := 896) hx hb dL_law_891 (by decide) (fun c_1 => ?_) (fun c_1 => ?_)
  · skip
    refine lv_iload hx hb dL_law_896 (lv_at hl 1 rfl) ?_
    refine lv_if_ne (tgt := 913) hx hb dL_law_898 (by decide) (fun c_2 => ?_) (fun c_2 => ?_)
    · skip
      refine lv_goto (tgt := 1220) hx hb dL_law_913 (by decide) ?_
      have hP : va_P D vwCl (wAll b a a2 n d d2 cI cJ o σ σ2 (put ω 20 (fun _ => 1)) τ2 g) H := hP
      have hD : va_D A (wAll b a a2 n d d2 cI cJ o σ σ2 (put ω 20 (fun _ => 1)) τ2 g) := hD
      refine W.widen (k := cells + 23) (n := slots + 200) (by omega) (by omega) ?_
      exact kk σ σ2 (put ω 20 (fun _ => 1)) τ2 g h nc nw (iv_w (fun _ => 1) hI) (by omega) H locs hP hD hS ls (lv_sub hl [2, 3, 4, 5, 6] rfl)
    · skip
      exact absurd c_2 (by decide)
  · skip
    exact absurd rfl c_1
set_option maxHeartbeats 4000000 in
set_option maxRecDepth 100000 in
theorem LW_pass_ok {p : Program} {l : Launch} {e : Env} {s : State} {m : MethodId} {args : Array Value} {below : List Frame} {meth : Method} {c : Code} {A : Nat → Prop} {D : va_G} {cI cJ : ClassId} {bs L : Nat} {xs : Nat → Int32} (C : lwC p l s m args c A D cI cJ bs L xs) (b a a2 n d d2 : Nat → Nat) (o i h nc nw : Nat) (σ σ2 ω τ2 : St) (g : Nat → Int64) (n0 : Nat) (hI : lwI σ ω h nc nw) (hi : 6 * i + 6 ≤ L) (hbd : h + 1000 < 2 ^ 29) (hp1 : xs (6 * i + 1) = nI n0) (h1 : (1 ≤ nI n0 ∧ nI n0 ≤ 200)) (hn0 : n0 ≤ 200) {H : Heap} {locs : List Loc} {cells slots : Nat} {Q : State → Prop} (hRc : cells + 100 ≤ room_1.cells) (hRs : slots + 1000 ≤ room_1.slots) (hP : va_P D vwCl (wAll b a a2 n d d2 cI cJ o σ σ2 ω τ2 g) H) (hD : va_D A (wAll b a a2 n d d2 cI cJ o σ σ2 ω τ2 g)) (hS : va_S A s.heap H locs) (ls : Array Slot) (hl : lv_has ls 9 [(0, .ref bs), (1, .ref (b 0)), (2, .ref (n 0)), (3, .ref o), (4, .int (nI (6 * i)))]) (kk : lwK p l e s m args below meth c A D cI cJ b a a2 n d d2 o bs i h cells slots Q) : W p l e room_1 s m args below meth c H locs cells slots Q (F0 m 860 ls []) := by
  obtain ⟨hx, hb, hml, hown, hts, hK, hEX, hX, hbl, hbA, hst, hA, hL⟩ := id C
  obtain ⟨hok, hnw, hw12⟩ := id hI
  have hnc := hok.1.2.1
  have hn8 := hok.1.2.2.1
  refine lv_aload_n hx hb dL_law_860 rfl (lv_at hl 1 rfl) ?_
  refine lv_aload_n hx hb dL_law_861 rfl (lv_at hl 0 rfl) ?_
  refine lv_iload hx hb dL_law_862 (lv_at hl 4 rfl) ?_
  refine lv_iconst (v := 1) hx hb dL_law_864 (by decide) ?_
  refine lv_iadd hx hb dL_law_865 ?_
  rw [show nI (6 * i) + 1 = nI (6 * i + 1) from nI_add (6 * i) 1]
  refine va_sld hx hb hX hbl hbA hS (vp_in_nI (show 6 * i + 1 < L by omega) (by omega)) dL_law_866 ?_
  rw [nI_clamp (n := 6 * i + 1) (by omega), hp1]
  refine lv_aload_n hx hb dL_law_867 rfl (lv_at hl 3 rfl) ?_
  refine sl_i (vx_runSW (As := [.ref (b 0), .int (nI n0), .ref o]) (rest := []) ⟨hx, hb, hml, hown, hts⟩ (M_L_pass_ok l D cI b a a2 σ σ2 ω n0 h nc o g cJ _ h1 hn0 hok.1 (by omega)) (vx_cwSW 3 hts gL_law_L_pass rfl rfl rfl (by decide +kernel) ⟨Nat.le_of_ble_eq_true rfl, Nat.le_of_ble_eq_true rfl⟩) (wrS0 hK hP.left hD.left [0, 1] rfl) rfl rfl hl.1 rfl (lv_room (Nat.le_of_ble_eq_true rfl)) dL_law_868 ⟨(by show cells + _ ≤ room_1.cells; omega), (by show slots + _ ≤ room_1.slots; omega)⟩) hP hD hS hA (fun H locs hP hD hS => ?_)
  have hP : va_P D vwCl (((wLan b a a2 cI (hoursF n0 σ) σ2 ω) ++ [(o, .inl (cJ, 1, .inr (.inl (vp_updL g 0 (hsA σ n0).toInt64))))]) ++ (wMod n d d2 cI σ τ2 ω)) H := hP
  have hD : va_D A (((wLan b a a2 cI (hoursF n0 σ) σ2 ω) ++ [(o, .inl (cJ, 1, .inr (.inl (vp_updL g 0 (hsA σ n0).toInt64))))]) ++ (wMod n d d2 cI σ τ2 ω)) := hD
  refine lv_istore (lv' := [(5, .int 0), (0, .ref bs), (1, .ref (b 0)), (2, .ref (n 0)), (3, .ref o), (4, .int (nI (6 * i)))]) hx hb dL_law_871 hl (by decide) rfl (fun ls hl => ?_)
  refine lv_aload_n hx hb dL_law_873 rfl (lv_at hl 3 rfl) ?_
  refine lv_aload_n hx hb dL_law_874 rfl (lv_at hl 1 rfl) ?_
  refine lv_iload hx hb dL_law_875 (lv_at hl 5 rfl) ?_
  refine lv_iconst (v := 1) hx hb dL_law_877 (by decide) ?_
  refine lv_iadd hx hb dL_law_878 ?_
  rw [show nI (6 * i) + 1 = nI (6 * i + 1) from nI_add (6 * i) 1]
  refine va_sld hx hb hX hbl hbA hS (vp_in_nI (show 6 * i + 1 < L by omega) (by omega)) dL_law_879 ?_
  rw [nI_clamp (n := 6 * i + 1) (by omega), hp1]
  refine sr_i (va_runV (As := [.int (nI n0)]) (rest := []) ⟨hx, hb, hml, hown, hts⟩ (M_X6_pass_ok l D cI n d d2 σ τ2 ω n0 h nc _ h1 hn0 hok (by omega)) (cwV 1 hts gL_law_X6_pass rfl rfl rfl (by decide +kernel) ⟨Nat.le_of_ble_eq_true rfl, Nat.le_of_ble_eq_true rfl⟩) (wrV0 hK hP.right hD.right [0] rfl (ci := 6) (q0 := 0) rfl rfl) rfl rfl hl.1 rfl (lv_room (Nat.le_of_ble_eq_true rfl)) dL_law_880 ⟨(by show cells + _ ≤ room_1.cells; omega), (by show slots + _ ≤ room_1.slots; omega)⟩) hP hD hS hA (fun H locs hP hD hS => ?_)
  have hP : va_P D vwCl (((wLan b a a2 cI (hoursF n0 σ) σ2 ω) ++ [(o, .inl (cJ, 1, .inr (.inl (vp_updL g 0 (hsA σ n0).toInt64))))]) ++ (wMod n d d2 cI (hoursF n0 σ) τ2 (put ω 20 (fun _ => 0)))) H := hP
  have hD : va_D A (((wLan b a a2 cI (hoursF n0 σ) σ2 ω) ++ [(o, .inl (cJ, 1, .inr (.inl (vp_updL g 0 (hsA σ n0).toInt64))))]) ++ (wMod n d d2 cI (hoursF n0 σ) τ2 (put ω 20 (fun _ => 0)))) := hD
  rw [show hoursF n0 σ 18 0 - σ 18 0 = hsA σ n0 from (hsA_eq σ n0).symm]
  refine lv_istore (lv' := [(6, .int (hsA σ n0)), (5, .int 0), (0, .ref bs), (1, .ref (b 0)), (2, .ref (n 0)), (3, .ref o), (4, .int (nI (6 * i)))]) hx hb dL_law_883 hl (by decide) rfl (fun ls hl => ?_)
  refine lv_aload_n hx hb dL_law_885 rfl (lv_at hl 4 rfl) ?_
  refine rd_i (va_runV (As := []) (rest := []) ⟨hx, hb, hml, hown, hts⟩ (M_X6_thrown l D cI n d d2 (hoursF n0 σ) τ2 (put ω 20 (fun _ => 0)) ) (cwV 0 hts gL_law_X6_thrown rfl rfl rfl (by decide +kernel) ⟨Nat.le_of_ble_eq_true rfl, Nat.le_of_ble_eq_true rfl⟩) (rdV0 hK hP.right [0] rfl (ci := 6) (q0 := 0) rfl rfl) rfl rfl hl.1 rfl (lv_room (Nat.le_of_ble_eq_true rfl)) dL_law_886 ⟨(by show cells + _ ≤ room_1.cells; omega), (by show slots + _ ≤ room_1.slots; omega)⟩) ?_
  refine W.eq (g2 := F0 m 889 ls [.int 0]) rfl ?_
  refine lv_iload hx hb dL_law_889 (lv_at hl 1 rfl) ?_
  refine lv_icmp_eq (tgt := 896) hx hb dL_law_891 (by decide) (fun c_1 => ?_) (fun c_1 => ?_)
  · skip
    refine lv_iload hx hb dL_law_896 (lv_at hl 1 rfl) ?_
    refine lv_if_ne (tgt := 913) hx hb dL_law_898 (by decide) (fun c_2 => ?_) (fun c_2 => ?_)
    · skip
      exact absurd c_2 (by decide)
    · skip
      refine lv_aload_n hx hb dL_law_901 rfl (lv_at hl 5 rfl) ?_
      refine lv_iconst (v := 0) hx hb dL_law_902 (by decide) ?_
      refine va_lald hx hb hK.1 hP 36 1 rfl rfl (by unfold vp_in; decide) dL_law_903 ?_
      refine W.eq (g2 := F0 m 904 ls [.long ((hsA σ n0).toInt64)]) rfl ?_
      refine lv_iload hx hb dL_law_904 (lv_at hl 0 rfl) ?_
      refine lv_i2l hx hb dL_law_906 rfl ?_
      refine my_lcmpE hx hb dL_law_907 ?_
      refine lv_if_eq (tgt := 913) hx hb dL_law_908 (by decide) (fun c_3 => ?_) (fun c_3 => ?_)
      · skip
        refine lv_goto (tgt := 1220) hx hb dL_law_913 (by decide) ?_
        have hP : va_P D vwCl (wAll b a a2 n d d2 cI cJ o (hoursF n0 σ) σ2 (put ω 20 (fun _ => 0)) τ2 (vp_updL g 0 (hsA σ n0).toInt64)) H := hP
        have hD : va_D A (wAll b a a2 n d d2 cI cJ o (hoursF n0 σ) σ2 (put ω 20 (fun _ => 0)) τ2 (vp_updL g 0 (hsA σ n0).toInt64)) := hD
        refine W.widen (k := cells + 23) (n := slots + 200) (by omega) (by omega) ?_
        exact kk (hoursF n0 σ) σ2 (put ω 20 (fun _ => 0)) τ2 (vp_updL g 0 (hsA σ n0).toInt64) (h + n0) nc nw (iv_pass (fun _ => 0) (by omega) hn0 hI) (by omega) H locs hP hD hS ls (lv_sub hl [2, 3, 4, 5, 6] rfl)
      · skip
        exact absurd c_3 (by decide)
  · skip
    exact absurd rfl c_1
set_option maxHeartbeats 4000000 in
set_option maxRecDepth 100000 in
theorem LW_count_e1 {p : Program} {l : Launch} {e : Env} {s : State} {m : MethodId} {args : Array Value} {below : List Frame} {meth : Method} {c : Code} {A : Nat → Prop} {D : va_G} {cI cJ : ClassId} {bs L : Nat} {xs : Nat → Int32} (C : lwC p l s m args c A D cI cJ bs L xs) (b a a2 n d d2 : Nat → Nat) (o i h nc nw : Nat) (σ σ2 ω τ2 : St) (g : Nat → Int64) (p0 : Int32) (hI : lwI σ ω h nc nw) (hi : 6 * i + 6 ≤ L) (hbd : h + 1000 < 2 ^ 29) (hp1 : xs (6 * i + 1) = p0) (h1 : ¬ (0 ≤ p0 ∧ p0 ≤ 10)) {H : Heap} {locs : List Loc} {cells slots : Nat} {Q : State → Prop} (hRc : cells + 100 ≤ room_1.cells) (hRs : slots + 1000 ≤ room_1.slots) (hP : va_P D vwCl (wAll b a a2 n d d2 cI cJ o σ σ2 ω τ2 g) H) (hD : va_D A (wAll b a a2 n d d2 cI cJ o σ σ2 ω τ2 g)) (hS : va_S A s.heap H locs) (ls : Array Slot) (hl : lv_has ls 9 [(0, .ref bs), (1, .ref (b 0)), (2, .ref (n 0)), (3, .ref o), (4, .int (nI (6 * i)))]) (kk : lwK p l e s m args below meth c A D cI cJ b a a2 n d d2 o bs i h cells slots Q) : W p l e room_1 s m args below meth c H locs cells slots Q (F0 m 916 ls []) := by
  obtain ⟨hx, hb, hml, hown, hts, hK, hEX, hX, hbl, hbA, hst, hA, hL⟩ := id C
  obtain ⟨hok, hnw, hw12⟩ := id hI
  have hnc := hok.1.2.1
  have hn8 := hok.1.2.2.1
  refine lv_aload_n hx hb dL_law_916 rfl (lv_at hl 1 rfl) ?_
  refine lv_aload_n hx hb dL_law_917 rfl (lv_at hl 0 rfl) ?_
  refine lv_iload hx hb dL_law_918 (lv_at hl 4 rfl) ?_
  refine lv_iconst (v := 1) hx hb dL_law_920 (by decide) ?_
  refine lv_iadd hx hb dL_law_921 ?_
  rw [show nI (6 * i) + 1 = nI (6 * i + 1) from nI_add (6 * i) 1]
  refine va_sld hx hb hX hbl hbA hS (vp_in_nI (show 6 * i + 1 < L by omega) (by omega)) dL_law_922 ?_
  rw [nI_clamp (n := 6 * i + 1) (by omega), hp1]
  refine lv_aload_n hx hb dL_law_923 rfl (lv_at hl 3 rfl) ?_
  refine sl_i (vx_runSW (As := [.ref (b 0), .int p0, .ref o]) (rest := []) ⟨hx, hb, hml, hown, hts⟩ (M_L_count_e1 l D cI b a a2 σ σ2 ω p0 o g cJ _ A hst h1) (vx_cwSW 3 hts gL_law_L_count rfl rfl rfl (by decide +kernel) ⟨Nat.le_of_ble_eq_true rfl, Nat.le_of_ble_eq_true rfl⟩) (hxS0 hK hP.left hD.left hS hEX [0, 1] rfl) rfl rfl hl.1 rfl (lv_room (Nat.le_of_ble_eq_true rfl)) dL_law_924 ⟨(by show cells + _ ≤ room_1.cells; omega), (by show slots + _ ≤ room_1.slots; omega)⟩) hP hD hS hA (fun H locs hP hD hS => ?_)
  have hP : va_P D vwCl (((wLan b a a2 cI σ σ2 ω) ++ [(o, .inl (cJ, 1, .inr (.inl g)))]) ++ (wMod n d d2 cI σ τ2 ω)) H := hP
  have hD : va_D A (((wLan b a a2 cI σ σ2 ω) ++ [(o, .inl (cJ, 1, .inr (.inl g)))]) ++ (wMod n d d2 cI σ τ2 ω)) := hD
  refine lv_istore (lv' := [(5, .int 1), (0, .ref bs), (1, .ref (b 0)), (2, .ref (n 0)), (3, .ref o), (4, .int (nI (6 * i)))]) hx hb dL_law_927 hl (by decide) rfl (fun ls hl => ?_)
  refine lv_aload_n hx hb dL_law_929 rfl (lv_at hl 3 rfl) ?_
  refine lv_aload_n hx hb dL_law_930 rfl (lv_at hl 1 rfl) ?_
  refine lv_iload hx hb dL_law_931 (lv_at hl 5 rfl) ?_
  refine lv_iconst (v := 1) hx hb dL_law_933 (by decide) ?_
  refine lv_iadd hx hb dL_law_934 ?_
  rw [show nI (6 * i) + 1 = nI (6 * i + 1) from nI_add (6 * i) 1]
  refine va_sld hx hb hX hbl hbA hS (vp_in_nI (show 6 * i + 1 < L by omega) (by omega)) dL_law_935 ?_
  rw [nI_clamp (n := 6 * i + 1) (by omega), hp1]
  refine sr_i (va_runV (As := [.int p0]) (rest := []) ⟨hx, hb, hml, hown, hts⟩ (M_X6_count_e1 l D cI n d d2 σ τ2 ω p0 _ h1) (cwV 1 hts gL_law_X6_count rfl rfl rfl (by decide +kernel) ⟨Nat.le_of_ble_eq_true rfl, Nat.le_of_ble_eq_true rfl⟩) (wrV0 hK hP.right hD.right [0] rfl (ci := 6) (q0 := 0) rfl rfl) rfl rfl hl.1 rfl (lv_room (Nat.le_of_ble_eq_true rfl)) dL_law_936 ⟨(by show cells + _ ≤ room_1.cells; omega), (by show slots + _ ≤ room_1.slots; omega)⟩) hP hD hS hA (fun H locs hP hD hS => ?_)
  have hP : va_P D vwCl (((wLan b a a2 cI σ σ2 ω) ++ [(o, .inl (cJ, 1, .inr (.inl g)))]) ++ (wOutE n d d2 cI 1 (ω 19 0) (ω 1) (ω 2) (ω 14) (ω 15) ++ (wSta d (n 0) cI σ ++ wSta d2 (n 0) cI τ2))) H := hP
  have hD : va_D A (((wLan b a a2 cI σ σ2 ω) ++ [(o, .inl (cJ, 1, .inr (.inl g)))]) ++ (wOutE n d d2 cI 1 (ω 19 0) (ω 1) (ω 2) (ω 14) (ω 15) ++ (wSta d (n 0) cI σ ++ wSta d2 (n 0) cI τ2))) := hD
  refine lv_istore (lv' := [(6, .int 0), (5, .int 1), (0, .ref bs), (1, .ref (b 0)), (2, .ref (n 0)), (3, .ref o), (4, .int (nI (6 * i)))]) hx hb dL_law_939 hl (by decide) rfl (fun ls hl => ?_)
  refine lv_aload_n hx hb dL_law_941 rfl (lv_at hl 4 rfl) ?_
  refine rd_i (va_runV (As := []) (rest := []) ⟨hx, hb, hml, hown, hts⟩ (M_X6_thrown l D cI n d d2 σ τ2 (put ω 20 (fun _ => 1)) ) (cwV 0 hts gL_law_X6_thrown rfl rfl rfl (by decide +kernel) ⟨Nat.le_of_ble_eq_true rfl, Nat.le_of_ble_eq_true rfl⟩) (rdV0 hK hP.right [0] rfl (ci := 6) (q0 := 0) rfl rfl) rfl rfl hl.1 rfl (lv_room (Nat.le_of_ble_eq_true rfl)) dL_law_942 ⟨(by show cells + _ ≤ room_1.cells; omega), (by show slots + _ ≤ room_1.slots; omega)⟩) ?_
  refine W.eq (g2 := F0 m 945 ls [.int 1]) rfl ?_
  refine lv_iload hx hb dL_law_945 (lv_at hl 1 rfl) ?_
  refine lv_icmp_eq (tgt := 952) hx hb dL_law_947 (by decide) (fun c_1 => ?_) (fun c_1 => ?_)
  · skip
    refine lv_iload hx hb dL_law_952 (lv_at hl 1 rfl) ?_
    refine lv_if_ne (tgt := 969) hx hb dL_law_954 (by decide) (fun c_2 => ?_) (fun c_2 => ?_)
    · skip
      refine lv_goto (tgt := 1220) hx hb dL_law_969 (by decide) ?_
      have hP : va_P D vwCl (wAll b a a2 n d d2 cI cJ o σ σ2 (put ω 20 (fun _ => 1)) τ2 g) H := hP
      have hD : va_D A (wAll b a a2 n d d2 cI cJ o σ σ2 (put ω 20 (fun _ => 1)) τ2 g) := hD
      refine W.widen (k := cells + 23) (n := slots + 200) (by omega) (by omega) ?_
      exact kk σ σ2 (put ω 20 (fun _ => 1)) τ2 g h nc nw (iv_w (fun _ => 1) hI) (by omega) H locs hP hD hS ls (lv_sub hl [2, 3, 4, 5, 6] rfl)
    · skip
      exact absurd c_2 (by decide)
  · skip
    exact absurd rfl c_1
set_option maxHeartbeats 4000000 in
set_option maxRecDepth 100000 in
theorem LW_count_ok {p : Program} {l : Launch} {e : Env} {s : State} {m : MethodId} {args : Array Value} {below : List Frame} {meth : Method} {c : Code} {A : Nat → Prop} {D : va_G} {cI cJ : ClassId} {bs L : Nat} {xs : Nat → Int32} (C : lwC p l s m args c A D cI cJ bs L xs) (b a a2 n d d2 : Nat → Nat) (o i h nc nw : Nat) (σ σ2 ω τ2 : St) (g : Nat → Int64) (w : Nat) (hI : lwI σ ω h nc nw) (hi : 6 * i + 6 ≤ L) (hbd : h + 1000 < 2 ^ 29) (hp1 : xs (6 * i + 1) = nI w) (h1 : (0 ≤ nI w ∧ nI w ≤ 10)) (hw11 : w < 11) {H : Heap} {locs : List Loc} {cells slots : Nat} {Q : State → Prop} (hRc : cells + 100 ≤ room_1.cells) (hRs : slots + 1000 ≤ room_1.slots) (hP : va_P D vwCl (wAll b a a2 n d d2 cI cJ o σ σ2 ω τ2 g) H) (hD : va_D A (wAll b a a2 n d d2 cI cJ o σ σ2 ω τ2 g)) (hS : va_S A s.heap H locs) (ls : Array Slot) (hl : lv_has ls 9 [(0, .ref bs), (1, .ref (b 0)), (2, .ref (n 0)), (3, .ref o), (4, .int (nI (6 * i)))]) (kk : lwK p l e s m args below meth c A D cI cJ b a a2 n d d2 o bs i h cells slots Q) : W p l e room_1 s m args below meth c H locs cells slots Q (F0 m 916 ls []) := by
  obtain ⟨hx, hb, hml, hown, hts, hK, hEX, hX, hbl, hbA, hst, hA, hL⟩ := id C
  obtain ⟨hok, hnw, hw12⟩ := id hI
  have hnc := hok.1.2.1
  have hn8 := hok.1.2.2.1
  refine lv_aload_n hx hb dL_law_916 rfl (lv_at hl 1 rfl) ?_
  refine lv_aload_n hx hb dL_law_917 rfl (lv_at hl 0 rfl) ?_
  refine lv_iload hx hb dL_law_918 (lv_at hl 4 rfl) ?_
  refine lv_iconst (v := 1) hx hb dL_law_920 (by decide) ?_
  refine lv_iadd hx hb dL_law_921 ?_
  rw [show nI (6 * i) + 1 = nI (6 * i + 1) from nI_add (6 * i) 1]
  refine va_sld hx hb hX hbl hbA hS (vp_in_nI (show 6 * i + 1 < L by omega) (by omega)) dL_law_922 ?_
  rw [nI_clamp (n := 6 * i + 1) (by omega), hp1]
  refine lv_aload_n hx hb dL_law_923 rfl (lv_at hl 3 rfl) ?_
  refine sl_i (vx_runSW (As := [.ref (b 0), .int (nI w), .ref o]) (rest := []) ⟨hx, hb, hml, hown, hts⟩ (M_L_count_ok l D cI b a a2 σ σ2 ω w nc nw o g cJ _ h1 hw11 hnc hn8 hok.2.2.2.1 hnw hw12) (vx_cwSW 3 hts gL_law_L_count rfl rfl rfl (by decide +kernel) ⟨Nat.le_of_ble_eq_true rfl, Nat.le_of_ble_eq_true rfl⟩) (wrS0 hK hP.left hD.left [0, 1] rfl) rfl rfl hl.1 rfl (lv_room (Nat.le_of_ble_eq_true rfl)) dL_law_924 ⟨(by show cells + _ ≤ room_1.cells; omega), (by show slots + _ ≤ room_1.slots; omega)⟩) hP hD hS hA (fun H locs hP hD hS => ?_)
  have hP : va_P D vwCl (((wLan b a a2 cI σ σ2 ω) ++ [(o, .inl (cJ, 1, .inr (.inl (vp_updL g 0 (ctF σ ω nc nw w).toInt64))))]) ++ (wMod n d d2 cI σ τ2 ω)) H := hP
  have hD : va_D A (((wLan b a a2 cI σ σ2 ω) ++ [(o, .inl (cJ, 1, .inr (.inl (vp_updL g 0 (ctF σ ω nc nw w).toInt64))))]) ++ (wMod n d d2 cI σ τ2 ω)) := hD
  refine lv_istore (lv' := [(5, .int 0), (0, .ref bs), (1, .ref (b 0)), (2, .ref (n 0)), (3, .ref o), (4, .int (nI (6 * i)))]) hx hb dL_law_927 hl (by decide) rfl (fun ls hl => ?_)
  refine lv_aload_n hx hb dL_law_929 rfl (lv_at hl 3 rfl) ?_
  refine lv_aload_n hx hb dL_law_930 rfl (lv_at hl 1 rfl) ?_
  refine lv_iload hx hb dL_law_931 (lv_at hl 5 rfl) ?_
  refine lv_iconst (v := 1) hx hb dL_law_933 (by decide) ?_
  refine lv_iadd hx hb dL_law_934 ?_
  rw [show nI (6 * i) + 1 = nI (6 * i + 1) from nI_add (6 * i) 1]
  refine va_sld hx hb hX hbl hbA hS (vp_in_nI (show 6 * i + 1 < L by omega) (by omega)) dL_law_935 ?_
  rw [nI_clamp (n := 6 * i + 1) (by omega), hp1]
  refine sr_i (va_runV (As := [.int (nI w)]) (rest := []) ⟨hx, hb, hml, hown, hts⟩ (M_X6_count_ok l D cI n d d2 σ τ2 ω w nc nw _ h1 hw11 hnc hn8 hok.1.2.2.2 hnw hw12) (cwV 1 hts gL_law_X6_count rfl rfl rfl (by decide +kernel) ⟨Nat.le_of_ble_eq_true rfl, Nat.le_of_ble_eq_true rfl⟩) (wrV0 hK hP.right hD.right [0] rfl (ci := 6) (q0 := 0) rfl rfl) rfl rfl hl.1 rfl (lv_room (Nat.le_of_ble_eq_true rfl)) dL_law_936 ⟨(by show cells + _ ≤ room_1.cells; omega), (by show slots + _ ≤ room_1.slots; omega)⟩) hP hD hS hA (fun H locs hP hD hS => ?_)
  have hP : va_P D vwCl (((wLan b a a2 cI σ σ2 ω) ++ [(o, .inl (cJ, 1, .inr (.inl (vp_updL g 0 (ctF σ ω nc nw w).toInt64))))]) ++ (wOutE n d d2 cI 0 (ω 19 0) (ω 1) (ω 2) (ω 14) (ω 15) ++ (wSta d (n 0) cI σ ++ wSta d2 (n 0) cI τ2))) H := hP
  have hD : va_D A (((wLan b a a2 cI σ σ2 ω) ++ [(o, .inl (cJ, 1, .inr (.inl (vp_updL g 0 (ctF σ ω nc nw w).toInt64))))]) ++ (wOutE n d d2 cI 0 (ω 19 0) (ω 1) (ω 2) (ω 14) (ω 15) ++ (wSta d (n 0) cI σ ++ wSta d2 (n 0) cI τ2))) := hD
  refine lv_istore (lv' := [(6, .int (ctF σ ω nc nw w)), (5, .int 0), (0, .ref bs), (1, .ref (b 0)), (2, .ref (n 0)), (3, .ref o), (4, .int (nI (6 * i)))]) hx hb dL_law_939 hl (by decide) rfl (fun ls hl => ?_)
  refine lv_aload_n hx hb dL_law_941 rfl (lv_at hl 4 rfl) ?_
  refine rd_i (va_runV (As := []) (rest := []) ⟨hx, hb, hml, hown, hts⟩ (M_X6_thrown l D cI n d d2 σ τ2 (put ω 20 (fun _ => 0)) ) (cwV 0 hts gL_law_X6_thrown rfl rfl rfl (by decide +kernel) ⟨Nat.le_of_ble_eq_true rfl, Nat.le_of_ble_eq_true rfl⟩) (rdV0 hK hP.right [0] rfl (ci := 6) (q0 := 0) rfl rfl) rfl rfl hl.1 rfl (lv_room (Nat.le_of_ble_eq_true rfl)) dL_law_942 ⟨(by show cells + _ ≤ room_1.cells; omega), (by show slots + _ ≤ room_1.slots; omega)⟩) ?_
  refine W.eq (g2 := F0 m 945 ls [.int 0]) rfl ?_
  refine lv_iload hx hb dL_law_945 (lv_at hl 1 rfl) ?_
  refine lv_icmp_eq (tgt := 952) hx hb dL_law_947 (by decide) (fun c_1 => ?_) (fun c_1 => ?_)
  · skip
    refine lv_iload hx hb dL_law_952 (lv_at hl 1 rfl) ?_
    refine lv_if_ne (tgt := 969) hx hb dL_law_954 (by decide) (fun c_2 => ?_) (fun c_2 => ?_)
    · skip
      exact absurd c_2 (by decide)
    · skip
      refine lv_aload_n hx hb dL_law_957 rfl (lv_at hl 5 rfl) ?_
      refine lv_iconst (v := 0) hx hb dL_law_958 (by decide) ?_
      refine va_lald hx hb hK.1 hP 36 1 rfl rfl (by unfold vp_in; decide) dL_law_959 ?_
      refine W.eq (g2 := F0 m 960 ls [.long ((ctF σ ω nc nw w).toInt64)]) rfl ?_
      refine lv_iload hx hb dL_law_960 (lv_at hl 0 rfl) ?_
      refine lv_i2l hx hb dL_law_962 rfl ?_
      refine my_lcmpE hx hb dL_law_963 ?_
      refine lv_if_eq (tgt := 969) hx hb dL_law_964 (by decide) (fun c_3 => ?_) (fun c_3 => ?_)
      · skip
        refine lv_goto (tgt := 1220) hx hb dL_law_969 (by decide) ?_
        have hP : va_P D vwCl (wAll b a a2 n d d2 cI cJ o σ σ2 (put ω 20 (fun _ => 0)) τ2 (vp_updL g 0 (ctF σ ω nc nw w).toInt64)) H := hP
        have hD : va_D A (wAll b a a2 n d d2 cI cJ o σ σ2 (put ω 20 (fun _ => 0)) τ2 (vp_updL g 0 (ctF σ ω nc nw w).toInt64)) := hD
        refine W.widen (k := cells + 23) (n := slots + 200) (by omega) (by omega) ?_
        exact kk σ σ2 (put ω 20 (fun _ => 0)) τ2 (vp_updL g 0 (ctF σ ω nc nw w).toInt64) h nc nw (iv_w (fun _ => 0) hI) (by omega) H locs hP hD hS ls (lv_sub hl [2, 3, 4, 5, 6] rfl)
      · skip
        exact absurd c_3 (by decide)
  · skip
    exact absurd rfl c_1
set_option maxHeartbeats 4000000 in
set_option maxRecDepth 100000 in
theorem LW_bears_e1 {p : Program} {l : Launch} {e : Env} {s : State} {m : MethodId} {args : Array Value} {below : List Frame} {meth : Method} {c : Code} {A : Nat → Prop} {D : va_G} {cI cJ : ClassId} {bs L : Nat} {xs : Nat → Int32} (C : lwC p l s m args c A D cI cJ bs L xs) (b a a2 n d d2 : Nat → Nat) (o i h nc nw : Nat) (σ σ2 ω τ2 : St) (g : Nat → Int64) (p0 : Int32) (p1 : Int32) (hI : lwI σ ω h nc nw) (hi : 6 * i + 6 ≤ L) (hbd : h + 1000 < 2 ^ 29) (hp1 : xs (6 * i + 1) = p0) (hp2 : xs (6 * i + 2) = p1) (h1 : ¬ ((0 ≤ p0 ∧ p0 ≤ 11) ∧ (0 ≤ p1 ∧ p1 ≤ 11))) {H : Heap} {locs : List Loc} {cells slots : Nat} {Q : State → Prop} (hRc : cells + 100 ≤ room_1.cells) (hRs : slots + 1000 ≤ room_1.slots) (hP : va_P D vwCl (wAll b a a2 n d d2 cI cJ o σ σ2 ω τ2 g) H) (hD : va_D A (wAll b a a2 n d d2 cI cJ o σ σ2 ω τ2 g)) (hS : va_S A s.heap H locs) (ls : Array Slot) (hl : lv_has ls 9 [(0, .ref bs), (1, .ref (b 0)), (2, .ref (n 0)), (3, .ref o), (4, .int (nI (6 * i)))]) (kk : lwK p l e s m args below meth c A D cI cJ b a a2 n d d2 o bs i h cells slots Q) : W p l e room_1 s m args below meth c H locs cells slots Q (F0 m 972 ls []) := by
  obtain ⟨hx, hb, hml, hown, hts, hK, hEX, hX, hbl, hbA, hst, hA, hL⟩ := id C
  obtain ⟨hok, hnw, hw12⟩ := id hI
  have hnc := hok.1.2.1
  have hn8 := hok.1.2.2.1
  refine lv_aload_n hx hb dL_law_972 rfl (lv_at hl 1 rfl) ?_
  refine lv_aload_n hx hb dL_law_973 rfl (lv_at hl 0 rfl) ?_
  refine lv_iload hx hb dL_law_974 (lv_at hl 4 rfl) ?_
  refine lv_iconst (v := 1) hx hb dL_law_976 (by decide) ?_
  refine lv_iadd hx hb dL_law_977 ?_
  rw [show nI (6 * i) + 1 = nI (6 * i + 1) from nI_add (6 * i) 1]
  refine va_sld hx hb hX hbl hbA hS (vp_in_nI (show 6 * i + 1 < L by omega) (by omega)) dL_law_978 ?_
  rw [nI_clamp (n := 6 * i + 1) (by omega), hp1]
  refine lv_aload_n hx hb dL_law_979 rfl (lv_at hl 0 rfl) ?_
  refine lv_iload hx hb dL_law_980 (lv_at hl 4 rfl) ?_
  refine lv_iconst (v := 2) hx hb dL_law_982 (by decide) ?_
  refine lv_iadd hx hb dL_law_983 ?_
  rw [show nI (6 * i) + 2 = nI (6 * i + 2) from nI_add (6 * i) 2]
  refine va_sld hx hb hX hbl hbA hS (vp_in_nI (show 6 * i + 2 < L by omega) (by omega)) dL_law_984 ?_
  rw [nI_clamp (n := 6 * i + 2) (by omega), hp2]
  refine lv_aload_n hx hb dL_law_985 rfl (lv_at hl 3 rfl) ?_
  refine sl_i (vx_runSW (As := [.ref (b 0), .int p0, .int p1, .ref o]) (rest := []) ⟨hx, hb, hml, hown, hts⟩ (M_L_bears_e1 l D cI b a a2 σ σ2 ω p0 p1 o g cJ _ A hst h1) (vx_cwSW 4 hts gL_law_L_bears rfl rfl rfl (by decide +kernel) ⟨Nat.le_of_ble_eq_true rfl, Nat.le_of_ble_eq_true rfl⟩) (hxS0 hK hP.left hD.left hS hEX [0, 1] rfl) rfl rfl hl.1 rfl (lv_room (Nat.le_of_ble_eq_true rfl)) dL_law_986 ⟨(by show cells + _ ≤ room_1.cells; omega), (by show slots + _ ≤ room_1.slots; omega)⟩) hP hD hS hA (fun H locs hP hD hS => ?_)
  have hP : va_P D vwCl (((wLan b a a2 cI σ σ2 ω) ++ [(o, .inl (cJ, 1, .inr (.inl g)))]) ++ (wMod n d d2 cI σ τ2 ω)) H := hP
  have hD : va_D A (((wLan b a a2 cI σ σ2 ω) ++ [(o, .inl (cJ, 1, .inr (.inl g)))]) ++ (wMod n d d2 cI σ τ2 ω)) := hD
  refine lv_istore (lv' := [(5, .int 1), (0, .ref bs), (1, .ref (b 0)), (2, .ref (n 0)), (3, .ref o), (4, .int (nI (6 * i)))]) hx hb dL_law_989 hl (by decide) rfl (fun ls hl => ?_)
  refine lv_aload_n hx hb dL_law_991 rfl (lv_at hl 3 rfl) ?_
  refine lv_aload_n hx hb dL_law_992 rfl (lv_at hl 1 rfl) ?_
  refine lv_iload hx hb dL_law_993 (lv_at hl 5 rfl) ?_
  refine lv_iconst (v := 1) hx hb dL_law_995 (by decide) ?_
  refine lv_iadd hx hb dL_law_996 ?_
  rw [show nI (6 * i) + 1 = nI (6 * i + 1) from nI_add (6 * i) 1]
  refine va_sld hx hb hX hbl hbA hS (vp_in_nI (show 6 * i + 1 < L by omega) (by omega)) dL_law_997 ?_
  rw [nI_clamp (n := 6 * i + 1) (by omega), hp1]
  refine lv_aload_n hx hb dL_law_998 rfl (lv_at hl 1 rfl) ?_
  refine lv_iload hx hb dL_law_999 (lv_at hl 5 rfl) ?_
  refine lv_iconst (v := 2) hx hb dL_law_1001 (by decide) ?_
  refine lv_iadd hx hb dL_law_1002 ?_
  rw [show nI (6 * i) + 2 = nI (6 * i + 2) from nI_add (6 * i) 2]
  refine va_sld hx hb hX hbl hbA hS (vp_in_nI (show 6 * i + 2 < L by omega) (by omega)) dL_law_1003 ?_
  rw [nI_clamp (n := 6 * i + 2) (by omega), hp2]
  refine sr_i (va_runV (As := [.int p0, .int p1]) (rest := []) ⟨hx, hb, hml, hown, hts⟩ (M_X6_bears_e1 l D cI n d d2 σ τ2 ω p0 p1 _ h1) (cwV 2 hts gL_law_X6_bears rfl rfl rfl (by decide +kernel) ⟨Nat.le_of_ble_eq_true rfl, Nat.le_of_ble_eq_true rfl⟩) (wrV0 hK hP.right hD.right [0] rfl (ci := 6) (q0 := 0) rfl rfl) rfl rfl hl.1 rfl (lv_room (Nat.le_of_ble_eq_true rfl)) dL_law_1004 ⟨(by show cells + _ ≤ room_1.cells; omega), (by show slots + _ ≤ room_1.slots; omega)⟩) hP hD hS hA (fun H locs hP hD hS => ?_)
  have hP : va_P D vwCl (((wLan b a a2 cI σ σ2 ω) ++ [(o, .inl (cJ, 1, .inr (.inl g)))]) ++ (wOutE n d d2 cI 1 (ω 19 0) (ω 1) (ω 2) (ω 14) (ω 15) ++ (wSta d (n 0) cI σ ++ wSta d2 (n 0) cI τ2))) H := hP
  have hD : va_D A (((wLan b a a2 cI σ σ2 ω) ++ [(o, .inl (cJ, 1, .inr (.inl g)))]) ++ (wOutE n d d2 cI 1 (ω 19 0) (ω 1) (ω 2) (ω 14) (ω 15) ++ (wSta d (n 0) cI σ ++ wSta d2 (n 0) cI τ2))) := hD
  refine lv_istore (lv' := [(6, .int 0), (5, .int 1), (0, .ref bs), (1, .ref (b 0)), (2, .ref (n 0)), (3, .ref o), (4, .int (nI (6 * i)))]) hx hb dL_law_1007 hl (by decide) rfl (fun ls hl => ?_)
  refine lv_aload_n hx hb dL_law_1009 rfl (lv_at hl 4 rfl) ?_
  refine rd_i (va_runV (As := []) (rest := []) ⟨hx, hb, hml, hown, hts⟩ (M_X6_thrown l D cI n d d2 σ τ2 (put ω 20 (fun _ => 1)) ) (cwV 0 hts gL_law_X6_thrown rfl rfl rfl (by decide +kernel) ⟨Nat.le_of_ble_eq_true rfl, Nat.le_of_ble_eq_true rfl⟩) (rdV0 hK hP.right [0] rfl (ci := 6) (q0 := 0) rfl rfl) rfl rfl hl.1 rfl (lv_room (Nat.le_of_ble_eq_true rfl)) dL_law_1010 ⟨(by show cells + _ ≤ room_1.cells; omega), (by show slots + _ ≤ room_1.slots; omega)⟩) ?_
  refine W.eq (g2 := F0 m 1013 ls [.int 1]) rfl ?_
  refine lv_iload hx hb dL_law_1013 (lv_at hl 1 rfl) ?_
  refine lv_icmp_eq (tgt := 1020) hx hb dL_law_1015 (by decide) (fun c_1 => ?_) (fun c_1 => ?_)
  · skip
    refine lv_iload hx hb dL_law_1020 (lv_at hl 1 rfl) ?_
    refine lv_if_ne (tgt := 1037) hx hb dL_law_1022 (by decide) (fun c_2 => ?_) (fun c_2 => ?_)
    · skip
      refine lv_goto (tgt := 1220) hx hb dL_law_1037 (by decide) ?_
      have hP : va_P D vwCl (wAll b a a2 n d d2 cI cJ o σ σ2 (put ω 20 (fun _ => 1)) τ2 g) H := hP
      have hD : va_D A (wAll b a a2 n d d2 cI cJ o σ σ2 (put ω 20 (fun _ => 1)) τ2 g) := hD
      refine W.widen (k := cells + 23) (n := slots + 200) (by omega) (by omega) ?_
      exact kk σ σ2 (put ω 20 (fun _ => 1)) τ2 g h nc nw (iv_w (fun _ => 1) hI) (by omega) H locs hP hD hS ls (lv_sub hl [2, 3, 4, 5, 6] rfl)
    · skip
      exact absurd c_2 (by decide)
  · skip
    exact absurd rfl c_1
set_option maxHeartbeats 4000000 in
set_option maxRecDepth 100000 in
theorem LW_bears_ok1 {p : Program} {l : Launch} {e : Env} {s : State} {m : MethodId} {args : Array Value} {below : List Frame} {meth : Method} {c : Code} {A : Nat → Prop} {D : va_G} {cI cJ : ClassId} {bs L : Nat} {xs : Nat → Int32} (C : lwC p l s m args c A D cI cJ bs L xs) (b a a2 n d d2 : Nat → Nat) (o i h nc nw : Nat) (σ σ2 ω τ2 : St) (g : Nat → Int64) (f0 : Nat) (t0 : Nat) (hI : lwI σ ω h nc nw) (hi : 6 * i + 6 ≤ L) (hbd : h + 1000 < 2 ^ 29) (hp1 : xs (6 * i + 1) = nI f0) (hp2 : xs (6 * i + 2) = nI t0) (h1 : (0 ≤ nI f0 ∧ nI f0 ≤ 11)) (h2 : (0 ≤ nI t0 ∧ nI t0 ≤ 11)) (hf : f0 < 12) (ht : t0 < 12) (hft : f0 ≤ t0) {H : Heap} {locs : List Loc} {cells slots : Nat} {Q : State → Prop} (hRc : cells + 100 ≤ room_1.cells) (hRs : slots + 1000 ≤ room_1.slots) (hP : va_P D vwCl (wAll b a a2 n d d2 cI cJ o σ σ2 ω τ2 g) H) (hD : va_D A (wAll b a a2 n d d2 cI cJ o σ σ2 ω τ2 g)) (hS : va_S A s.heap H locs) (ls : Array Slot) (hl : lv_has ls 9 [(0, .ref bs), (1, .ref (b 0)), (2, .ref (n 0)), (3, .ref o), (4, .int (nI (6 * i)))]) (kk : lwK p l e s m args below meth c A D cI cJ b a a2 n d d2 o bs i h cells slots Q) : W p l e room_1 s m args below meth c H locs cells slots Q (F0 m 972 ls []) := by
  obtain ⟨hx, hb, hml, hown, hts, hK, hEX, hX, hbl, hbA, hst, hA, hL⟩ := id C
  obtain ⟨hok, hnw, hw12⟩ := id hI
  have hnc := hok.1.2.1
  have hn8 := hok.1.2.2.1
  refine lv_aload_n hx hb dL_law_972 rfl (lv_at hl 1 rfl) ?_
  refine lv_aload_n hx hb dL_law_973 rfl (lv_at hl 0 rfl) ?_
  refine lv_iload hx hb dL_law_974 (lv_at hl 4 rfl) ?_
  refine lv_iconst (v := 1) hx hb dL_law_976 (by decide) ?_
  refine lv_iadd hx hb dL_law_977 ?_
  rw [show nI (6 * i) + 1 = nI (6 * i + 1) from nI_add (6 * i) 1]
  refine va_sld hx hb hX hbl hbA hS (vp_in_nI (show 6 * i + 1 < L by omega) (by omega)) dL_law_978 ?_
  rw [nI_clamp (n := 6 * i + 1) (by omega), hp1]
  refine lv_aload_n hx hb dL_law_979 rfl (lv_at hl 0 rfl) ?_
  refine lv_iload hx hb dL_law_980 (lv_at hl 4 rfl) ?_
  refine lv_iconst (v := 2) hx hb dL_law_982 (by decide) ?_
  refine lv_iadd hx hb dL_law_983 ?_
  rw [show nI (6 * i) + 2 = nI (6 * i + 2) from nI_add (6 * i) 2]
  refine va_sld hx hb hX hbl hbA hS (vp_in_nI (show 6 * i + 2 < L by omega) (by omega)) dL_law_984 ?_
  rw [nI_clamp (n := 6 * i + 2) (by omega), hp2]
  refine lv_aload_n hx hb dL_law_985 rfl (lv_at hl 3 rfl) ?_
  refine sl_i (vx_runSW (As := [.ref (b 0), .int (nI f0), .int (nI t0), .ref o]) (rest := []) ⟨hx, hb, hml, hown, hts⟩ (M_L_bears_ok1 l D cI b a a2 σ σ2 ω f0 t0 o g cJ _ h1 h2 hf ht hft) (vx_cwSW 4 hts gL_law_L_bears rfl rfl rfl (by decide +kernel) ⟨Nat.le_of_ble_eq_true rfl, Nat.le_of_ble_eq_true rfl⟩) (wrS0 hK hP.left hD.left [0, 1] rfl) rfl rfl hl.1 rfl (lv_room (Nat.le_of_ble_eq_true rfl)) dL_law_986 ⟨(by show cells + _ ≤ room_1.cells; omega), (by show slots + _ ≤ room_1.slots; omega)⟩) hP hD hS hA (fun H locs hP hD hS => ?_)
  have hP : va_P D vwCl (((wLan b a a2 cI σ σ2 ω) ++ [(o, .inl (cJ, 1, .inr (.inl (vp_updL g 0 (bbM (bb ((σ 3)) ((σ 4)) f0 (t0 - f0))).toInt64))))]) ++ (wMod n d d2 cI σ τ2 ω)) H := hP
  have hD : va_D A (((wLan b a a2 cI σ σ2 ω) ++ [(o, .inl (cJ, 1, .inr (.inl (vp_updL g 0 (bbM (bb ((σ 3)) ((σ 4)) f0 (t0 - f0))).toInt64))))]) ++ (wMod n d d2 cI σ τ2 ω)) := hD
  refine lv_istore (lv' := [(5, .int 0), (0, .ref bs), (1, .ref (b 0)), (2, .ref (n 0)), (3, .ref o), (4, .int (nI (6 * i)))]) hx hb dL_law_989 hl (by decide) rfl (fun ls hl => ?_)
  refine lv_aload_n hx hb dL_law_991 rfl (lv_at hl 3 rfl) ?_
  refine lv_aload_n hx hb dL_law_992 rfl (lv_at hl 1 rfl) ?_
  refine lv_iload hx hb dL_law_993 (lv_at hl 5 rfl) ?_
  refine lv_iconst (v := 1) hx hb dL_law_995 (by decide) ?_
  refine lv_iadd hx hb dL_law_996 ?_
  rw [show nI (6 * i) + 1 = nI (6 * i + 1) from nI_add (6 * i) 1]
  refine va_sld hx hb hX hbl hbA hS (vp_in_nI (show 6 * i + 1 < L by omega) (by omega)) dL_law_997 ?_
  rw [nI_clamp (n := 6 * i + 1) (by omega), hp1]
  refine lv_aload_n hx hb dL_law_998 rfl (lv_at hl 1 rfl) ?_
  refine lv_iload hx hb dL_law_999 (lv_at hl 5 rfl) ?_
  refine lv_iconst (v := 2) hx hb dL_law_1001 (by decide) ?_
  refine lv_iadd hx hb dL_law_1002 ?_
  rw [show nI (6 * i) + 2 = nI (6 * i + 2) from nI_add (6 * i) 2]
  refine va_sld hx hb hX hbl hbA hS (vp_in_nI (show 6 * i + 2 < L by omega) (by omega)) dL_law_1003 ?_
  rw [nI_clamp (n := 6 * i + 2) (by omega), hp2]
  refine sr_i (va_runV (As := [.int (nI f0), .int (nI t0)]) (rest := []) ⟨hx, hb, hml, hown, hts⟩ (M_X6_bears_ok l D cI n d d2 σ τ2 ω f0 t0 _ h1 h2 hf ht) (cwV 2 hts gL_law_X6_bears rfl rfl rfl (by decide +kernel) ⟨Nat.le_of_ble_eq_true rfl, Nat.le_of_ble_eq_true rfl⟩) (wrV0 hK hP.right hD.right [0] rfl (ci := 6) (q0 := 0) rfl rfl) rfl rfl hl.1 rfl (lv_room (Nat.le_of_ble_eq_true rfl)) dL_law_1004 ⟨(by show cells + _ ≤ room_1.cells; omega), (by show slots + _ ≤ room_1.slots; omega)⟩) hP hD hS hA (fun H locs hP hD hS => ?_)
  have hP : va_P D vwCl (((wLan b a a2 cI σ σ2 ω) ++ [(o, .inl (cJ, 1, .inr (.inl (vp_updL g 0 (bbM (bb ((σ 3)) ((σ 4)) f0 (t0 - f0))).toInt64))))]) ++ (wOutE n d d2 cI 0 (ω 19 0) (ω 1) (ω 2) (ω 14) (ω 15) ++ (wSta d (n 0) cI σ ++ wSta d2 (n 0) cI τ2))) H := hP
  have hD : va_D A (((wLan b a a2 cI σ σ2 ω) ++ [(o, .inl (cJ, 1, .inr (.inl (vp_updL g 0 (bbM (bb ((σ 3)) ((σ 4)) f0 (t0 - f0))).toInt64))))]) ++ (wOutE n d d2 cI 0 (ω 19 0) (ω 1) (ω 2) (ω 14) (ω 15) ++ (wSta d (n 0) cI σ ++ wSta d2 (n 0) cI τ2))) := hD
  rw [show brF (σ 3) (σ 4) f0 t0 = bbM (bb (σ 3) (σ 4) f0 (t0 - f0)) from (bears_up hft).symm]
  refine lv_istore (lv' := [(6, .int (bbM (bb (σ 3) (σ 4) f0 (t0 - f0)))), (5, .int 0), (0, .ref bs), (1, .ref (b 0)), (2, .ref (n 0)), (3, .ref o), (4, .int (nI (6 * i)))]) hx hb dL_law_1007 hl (by decide) rfl (fun ls hl => ?_)
  refine lv_aload_n hx hb dL_law_1009 rfl (lv_at hl 4 rfl) ?_
  refine rd_i (va_runV (As := []) (rest := []) ⟨hx, hb, hml, hown, hts⟩ (M_X6_thrown l D cI n d d2 σ τ2 (put ω 20 (fun _ => 0)) ) (cwV 0 hts gL_law_X6_thrown rfl rfl rfl (by decide +kernel) ⟨Nat.le_of_ble_eq_true rfl, Nat.le_of_ble_eq_true rfl⟩) (rdV0 hK hP.right [0] rfl (ci := 6) (q0 := 0) rfl rfl) rfl rfl hl.1 rfl (lv_room (Nat.le_of_ble_eq_true rfl)) dL_law_1010 ⟨(by show cells + _ ≤ room_1.cells; omega), (by show slots + _ ≤ room_1.slots; omega)⟩) ?_
  refine W.eq (g2 := F0 m 1013 ls [.int 0]) rfl ?_
  refine lv_iload hx hb dL_law_1013 (lv_at hl 1 rfl) ?_
  refine lv_icmp_eq (tgt := 1020) hx hb dL_law_1015 (by decide) (fun c_1 => ?_) (fun c_1 => ?_)
  · skip
    refine lv_iload hx hb dL_law_1020 (lv_at hl 1 rfl) ?_
    refine lv_if_ne (tgt := 1037) hx hb dL_law_1022 (by decide) (fun c_2 => ?_) (fun c_2 => ?_)
    · skip
      exact absurd c_2 (by decide)
    · skip
      refine lv_aload_n hx hb dL_law_1025 rfl (lv_at hl 5 rfl) ?_
      refine lv_iconst (v := 0) hx hb dL_law_1026 (by decide) ?_
      refine va_lald hx hb hK.1 hP 36 1 rfl rfl (by unfold vp_in; decide) dL_law_1027 ?_
      refine W.eq (g2 := F0 m 1028 ls [.long ((bbM (bb ((σ 3)) ((σ 4)) f0 (t0 - f0))).toInt64)]) rfl ?_
      refine lv_iload hx hb dL_law_1028 (lv_at hl 0 rfl) ?_
      refine lv_i2l hx hb dL_law_1030 rfl ?_
      skip
      refine my_lcmpE hx hb dL_law_1031 ?_
      refine lv_if_eq (tgt := 1037) hx hb dL_law_1032 (by decide) (fun c_3 => ?_) (fun c_3 => ?_)
      · skip
        refine lv_goto (tgt := 1220) hx hb dL_law_1037 (by decide) ?_
        have hP : va_P D vwCl (wAll b a a2 n d d2 cI cJ o σ σ2 (put ω 20 (fun _ => 0)) τ2 (vp_updL g 0 (bbM (bb ((σ 3)) ((σ 4)) f0 (t0 - f0))).toInt64)) H := hP
        have hD : va_D A (wAll b a a2 n d d2 cI cJ o σ σ2 (put ω 20 (fun _ => 0)) τ2 (vp_updL g 0 (bbM (bb ((σ 3)) ((σ 4)) f0 (t0 - f0))).toInt64)) := hD
        refine W.widen (k := cells + 23) (n := slots + 200) (by omega) (by omega) ?_
        exact kk σ σ2 (put ω 20 (fun _ => 0)) τ2 (vp_updL g 0 (bbM (bb ((σ 3)) ((σ 4)) f0 (t0 - f0))).toInt64) h nc nw (iv_w (fun _ => 0) hI) (by omega) H locs hP hD hS ls (lv_sub hl [2, 3, 4, 5, 6] rfl)
      · skip
        exact absurd c_3 (by decide)
  · skip
    exact absurd rfl c_1
set_option maxHeartbeats 4000000 in
set_option maxRecDepth 100000 in
theorem LW_bears_ok2 {p : Program} {l : Launch} {e : Env} {s : State} {m : MethodId} {args : Array Value} {below : List Frame} {meth : Method} {c : Code} {A : Nat → Prop} {D : va_G} {cI cJ : ClassId} {bs L : Nat} {xs : Nat → Int32} (C : lwC p l s m args c A D cI cJ bs L xs) (b a a2 n d d2 : Nat → Nat) (o i h nc nw : Nat) (σ σ2 ω τ2 : St) (g : Nat → Int64) (f0 : Nat) (t0 : Nat) (hI : lwI σ ω h nc nw) (hi : 6 * i + 6 ≤ L) (hbd : h + 1000 < 2 ^ 29) (hp1 : xs (6 * i + 1) = nI f0) (hp2 : xs (6 * i + 2) = nI t0) (h1 : (0 ≤ nI f0 ∧ nI f0 ≤ 11)) (h2 : (0 ≤ nI t0 ∧ nI t0 ≤ 11)) (hf : f0 < 12) (ht : t0 < 12) (hft : t0 ≤ f0) {H : Heap} {locs : List Loc} {cells slots : Nat} {Q : State → Prop} (hRc : cells + 100 ≤ room_1.cells) (hRs : slots + 1000 ≤ room_1.slots) (hP : va_P D vwCl (wAll b a a2 n d d2 cI cJ o σ σ2 ω τ2 g) H) (hD : va_D A (wAll b a a2 n d d2 cI cJ o σ σ2 ω τ2 g)) (hS : va_S A s.heap H locs) (ls : Array Slot) (hl : lv_has ls 9 [(0, .ref bs), (1, .ref (b 0)), (2, .ref (n 0)), (3, .ref o), (4, .int (nI (6 * i)))]) (kk : lwK p l e s m args below meth c A D cI cJ b a a2 n d d2 o bs i h cells slots Q) : W p l e room_1 s m args below meth c H locs cells slots Q (F0 m 972 ls []) := by
  obtain ⟨hx, hb, hml, hown, hts, hK, hEX, hX, hbl, hbA, hst, hA, hL⟩ := id C
  obtain ⟨hok, hnw, hw12⟩ := id hI
  have hnc := hok.1.2.1
  have hn8 := hok.1.2.2.1
  refine lv_aload_n hx hb dL_law_972 rfl (lv_at hl 1 rfl) ?_
  refine lv_aload_n hx hb dL_law_973 rfl (lv_at hl 0 rfl) ?_
  refine lv_iload hx hb dL_law_974 (lv_at hl 4 rfl) ?_
  refine lv_iconst (v := 1) hx hb dL_law_976 (by decide) ?_
  refine lv_iadd hx hb dL_law_977 ?_
  rw [show nI (6 * i) + 1 = nI (6 * i + 1) from nI_add (6 * i) 1]
  refine va_sld hx hb hX hbl hbA hS (vp_in_nI (show 6 * i + 1 < L by omega) (by omega)) dL_law_978 ?_
  rw [nI_clamp (n := 6 * i + 1) (by omega), hp1]
  refine lv_aload_n hx hb dL_law_979 rfl (lv_at hl 0 rfl) ?_
  refine lv_iload hx hb dL_law_980 (lv_at hl 4 rfl) ?_
  refine lv_iconst (v := 2) hx hb dL_law_982 (by decide) ?_
  refine lv_iadd hx hb dL_law_983 ?_
  rw [show nI (6 * i) + 2 = nI (6 * i + 2) from nI_add (6 * i) 2]
  refine va_sld hx hb hX hbl hbA hS (vp_in_nI (show 6 * i + 2 < L by omega) (by omega)) dL_law_984 ?_
  rw [nI_clamp (n := 6 * i + 2) (by omega), hp2]
  refine lv_aload_n hx hb dL_law_985 rfl (lv_at hl 3 rfl) ?_
  refine sl_i (vx_runSW (As := [.ref (b 0), .int (nI f0), .int (nI t0), .ref o]) (rest := []) ⟨hx, hb, hml, hown, hts⟩ (M_L_bears_ok2 l D cI b a a2 σ σ2 ω f0 t0 o g cJ _ h1 h2 hf ht hft) (vx_cwSW 4 hts gL_law_L_bears rfl rfl rfl (by decide +kernel) ⟨Nat.le_of_ble_eq_true rfl, Nat.le_of_ble_eq_true rfl⟩) (wrS0 hK hP.left hD.left [0, 1] rfl) rfl rfl hl.1 rfl (lv_room (Nat.le_of_ble_eq_true rfl)) dL_law_986 ⟨(by show cells + _ ≤ room_1.cells; omega), (by show slots + _ ≤ room_1.slots; omega)⟩) hP hD hS hA (fun H locs hP hD hS => ?_)
  have hP : va_P D vwCl (((wLan b a a2 cI σ σ2 ω) ++ [(o, .inl (cJ, 1, .inr (.inl (vp_updL g 0 (bbM (bb ((σ 3)) ((σ 4)) t0 (f0 - t0))).toInt64))))]) ++ (wMod n d d2 cI σ τ2 ω)) H := hP
  have hD : va_D A (((wLan b a a2 cI σ σ2 ω) ++ [(o, .inl (cJ, 1, .inr (.inl (vp_updL g 0 (bbM (bb ((σ 3)) ((σ 4)) t0 (f0 - t0))).toInt64))))]) ++ (wMod n d d2 cI σ τ2 ω)) := hD
  refine lv_istore (lv' := [(5, .int 0), (0, .ref bs), (1, .ref (b 0)), (2, .ref (n 0)), (3, .ref o), (4, .int (nI (6 * i)))]) hx hb dL_law_989 hl (by decide) rfl (fun ls hl => ?_)
  refine lv_aload_n hx hb dL_law_991 rfl (lv_at hl 3 rfl) ?_
  refine lv_aload_n hx hb dL_law_992 rfl (lv_at hl 1 rfl) ?_
  refine lv_iload hx hb dL_law_993 (lv_at hl 5 rfl) ?_
  refine lv_iconst (v := 1) hx hb dL_law_995 (by decide) ?_
  refine lv_iadd hx hb dL_law_996 ?_
  rw [show nI (6 * i) + 1 = nI (6 * i + 1) from nI_add (6 * i) 1]
  refine va_sld hx hb hX hbl hbA hS (vp_in_nI (show 6 * i + 1 < L by omega) (by omega)) dL_law_997 ?_
  rw [nI_clamp (n := 6 * i + 1) (by omega), hp1]
  refine lv_aload_n hx hb dL_law_998 rfl (lv_at hl 1 rfl) ?_
  refine lv_iload hx hb dL_law_999 (lv_at hl 5 rfl) ?_
  refine lv_iconst (v := 2) hx hb dL_law_1001 (by decide) ?_
  refine lv_iadd hx hb dL_law_1002 ?_
  rw [show nI (6 * i) + 2 = nI (6 * i + 2) from nI_add (6 * i) 2]
  refine va_sld hx hb hX hbl hbA hS (vp_in_nI (show 6 * i + 2 < L by omega) (by omega)) dL_law_1003 ?_
  rw [nI_clamp (n := 6 * i + 2) (by omega), hp2]
  refine sr_i (va_runV (As := [.int (nI f0), .int (nI t0)]) (rest := []) ⟨hx, hb, hml, hown, hts⟩ (M_X6_bears_ok l D cI n d d2 σ τ2 ω f0 t0 _ h1 h2 hf ht) (cwV 2 hts gL_law_X6_bears rfl rfl rfl (by decide +kernel) ⟨Nat.le_of_ble_eq_true rfl, Nat.le_of_ble_eq_true rfl⟩) (wrV0 hK hP.right hD.right [0] rfl (ci := 6) (q0 := 0) rfl rfl) rfl rfl hl.1 rfl (lv_room (Nat.le_of_ble_eq_true rfl)) dL_law_1004 ⟨(by show cells + _ ≤ room_1.cells; omega), (by show slots + _ ≤ room_1.slots; omega)⟩) hP hD hS hA (fun H locs hP hD hS => ?_)
  have hP : va_P D vwCl (((wLan b a a2 cI σ σ2 ω) ++ [(o, .inl (cJ, 1, .inr (.inl (vp_updL g 0 (bbM (bb ((σ 3)) ((σ 4)) t0 (f0 - t0))).toInt64))))]) ++ (wOutE n d d2 cI 0 (ω 19 0) (ω 1) (ω 2) (ω 14) (ω 15) ++ (wSta d (n 0) cI σ ++ wSta d2 (n 0) cI τ2))) H := hP
  have hD : va_D A (((wLan b a a2 cI σ σ2 ω) ++ [(o, .inl (cJ, 1, .inr (.inl (vp_updL g 0 (bbM (bb ((σ 3)) ((σ 4)) t0 (f0 - t0))).toInt64))))]) ++ (wOutE n d d2 cI 0 (ω 19 0) (ω 1) (ω 2) (ω 14) (ω 15) ++ (wSta d (n 0) cI σ ++ wSta d2 (n 0) cI τ2))) := hD
  rw [show brF (σ 3) (σ 4) f0 t0 = bbM (bb (σ 3) (σ 4) t0 (f0 - t0)) from (bears_dn hft).symm]
  refine lv_istore (lv' := [(6, .int (bbM (bb (σ 3) (σ 4) t0 (f0 - t0)))), (5, .int 0), (0, .ref bs), (1, .ref (b 0)), (2, .ref (n 0)), (3, .ref o), (4, .int (nI (6 * i)))]) hx hb dL_law_1007 hl (by decide) rfl (fun ls hl => ?_)
  refine lv_aload_n hx hb dL_law_1009 rfl (lv_at hl 4 rfl) ?_
  refine rd_i (va_runV (As := []) (rest := []) ⟨hx, hb, hml, hown, hts⟩ (M_X6_thrown l D cI n d d2 σ τ2 (put ω 20 (fun _ => 0)) ) (cwV 0 hts gL_law_X6_thrown rfl rfl rfl (by decide +kernel) ⟨Nat.le_of_ble_eq_true rfl, Nat.le_of_ble_eq_true rfl⟩) (rdV0 hK hP.right [0] rfl (ci := 6) (q0 := 0) rfl rfl) rfl rfl hl.1 rfl (lv_room (Nat.le_of_ble_eq_true rfl)) dL_law_1010 ⟨(by show cells + _ ≤ room_1.cells; omega), (by show slots + _ ≤ room_1.slots; omega)⟩) ?_
  refine W.eq (g2 := F0 m 1013 ls [.int 0]) rfl ?_
  refine lv_iload hx hb dL_law_1013 (lv_at hl 1 rfl) ?_
  refine lv_icmp_eq (tgt := 1020) hx hb dL_law_1015 (by decide) (fun c_1 => ?_) (fun c_1 => ?_)
  · skip
    refine lv_iload hx hb dL_law_1020 (lv_at hl 1 rfl) ?_
    refine lv_if_ne (tgt := 1037) hx hb dL_law_1022 (by decide) (fun c_2 => ?_) (fun c_2 => ?_)
    · skip
      exact absurd c_2 (by decide)
    · skip
      refine lv_aload_n hx hb dL_law_1025 rfl (lv_at hl 5 rfl) ?_
      refine lv_iconst (v := 0) hx hb dL_law_1026 (by decide) ?_
      refine va_lald hx hb hK.1 hP 36 1 rfl rfl (by unfold vp_in; decide) dL_law_1027 ?_
      refine W.eq (g2 := F0 m 1028 ls [.long ((bbM (bb ((σ 3)) ((σ 4)) t0 (f0 - t0))).toInt64)]) rfl ?_
      refine lv_iload hx hb dL_law_1028 (lv_at hl 0 rfl) ?_
      refine lv_i2l hx hb dL_law_1030 rfl ?_
      skip
      refine my_lcmpE hx hb dL_law_1031 ?_
      refine lv_if_eq (tgt := 1037) hx hb dL_law_1032 (by decide) (fun c_3 => ?_) (fun c_3 => ?_)
      · skip
        refine lv_goto (tgt := 1220) hx hb dL_law_1037 (by decide) ?_
        have hP : va_P D vwCl (wAll b a a2 n d d2 cI cJ o σ σ2 (put ω 20 (fun _ => 0)) τ2 (vp_updL g 0 (bbM (bb ((σ 3)) ((σ 4)) t0 (f0 - t0))).toInt64)) H := hP
        have hD : va_D A (wAll b a a2 n d d2 cI cJ o σ σ2 (put ω 20 (fun _ => 0)) τ2 (vp_updL g 0 (bbM (bb ((σ 3)) ((σ 4)) t0 (f0 - t0))).toInt64)) := hD
        refine W.widen (k := cells + 23) (n := slots + 200) (by omega) (by omega) ?_
        exact kk σ σ2 (put ω 20 (fun _ => 0)) τ2 (vp_updL g 0 (bbM (bb ((σ 3)) ((σ 4)) t0 (f0 - t0))).toInt64) h nc nw (iv_w (fun _ => 0) hI) (by omega) H locs hP hD hS ls (lv_sub hl [2, 3, 4, 5, 6] rfl)
      · skip
        exact absurd c_3 (by decide)
  · skip
    exact absurd rfl c_1
set_option maxHeartbeats 4000000 in
set_option maxRecDepth 100000 in
theorem LW_arrives_e1 {p : Program} {l : Launch} {e : Env} {s : State} {m : MethodId} {args : Array Value} {below : List Frame} {meth : Method} {c : Code} {A : Nat → Prop} {D : va_G} {cI cJ : ClassId} {bs L : Nat} {xs : Nat → Int32} (C : lwC p l s m args c A D cI cJ bs L xs) (b a a2 n d d2 : Nat → Nat) (o i h nc nw : Nat) (σ σ2 ω τ2 : St) (g : Nat → Int64) (p0 : Int32) (hI : lwI σ ω h nc nw) (hi : 6 * i + 6 ≤ L) (hbd : h + 1000 < 2 ^ 29) (hp1 : xs (6 * i + 1) = p0) (h1 : ¬ (0 ≤ p0 ∧ p0 ≤ σ 17 0 - 1)) {H : Heap} {locs : List Loc} {cells slots : Nat} {Q : State → Prop} (hRc : cells + 100 ≤ room_1.cells) (hRs : slots + 1000 ≤ room_1.slots) (hP : va_P D vwCl (wAll b a a2 n d d2 cI cJ o σ σ2 ω τ2 g) H) (hD : va_D A (wAll b a a2 n d d2 cI cJ o σ σ2 ω τ2 g)) (hS : va_S A s.heap H locs) (ls : Array Slot) (hl : lv_has ls 9 [(0, .ref bs), (1, .ref (b 0)), (2, .ref (n 0)), (3, .ref o), (4, .int (nI (6 * i)))]) (kk : lwK p l e s m args below meth c A D cI cJ b a a2 n d d2 o bs i h cells slots Q) : W p l e room_1 s m args below meth c H locs cells slots Q (F0 m 1040 ls []) := by
  obtain ⟨hx, hb, hml, hown, hts, hK, hEX, hX, hbl, hbA, hst, hA, hL⟩ := id C
  obtain ⟨hok, hnw, hw12⟩ := id hI
  have hnc := hok.1.2.1
  have hn8 := hok.1.2.2.1
  refine lv_aload_n hx hb dL_law_1040 rfl (lv_at hl 1 rfl) ?_
  refine lv_aload_n hx hb dL_law_1041 rfl (lv_at hl 0 rfl) ?_
  refine lv_iload hx hb dL_law_1042 (lv_at hl 4 rfl) ?_
  refine lv_iconst (v := 1) hx hb dL_law_1044 (by decide) ?_
  refine lv_iadd hx hb dL_law_1045 ?_
  rw [show nI (6 * i) + 1 = nI (6 * i + 1) from nI_add (6 * i) 1]
  refine va_sld hx hb hX hbl hbA hS (vp_in_nI (show 6 * i + 1 < L by omega) (by omega)) dL_law_1046 ?_
  rw [nI_clamp (n := 6 * i + 1) (by omega), hp1]
  refine lv_aload_n hx hb dL_law_1047 rfl (lv_at hl 3 rfl) ?_
  refine sl_i (vx_runSW (As := [.ref (b 0), .int p0, .ref o]) (rest := []) ⟨hx, hb, hml, hown, hts⟩ (M_L_arrives_e1 l D cI b a a2 σ σ2 ω p0 o g cJ _ A hst h1) (vx_cwSW 3 hts gL_law_L_arrives rfl rfl rfl (by decide +kernel) ⟨Nat.le_of_ble_eq_true rfl, Nat.le_of_ble_eq_true rfl⟩) (hxS0 hK hP.left hD.left hS hEX [0, 1] rfl) rfl rfl hl.1 rfl (lv_room (Nat.le_of_ble_eq_true rfl)) dL_law_1048 ⟨(by show cells + _ ≤ room_1.cells; omega), (by show slots + _ ≤ room_1.slots; omega)⟩) hP hD hS hA (fun H locs hP hD hS => ?_)
  have hP : va_P D vwCl (((wLan b a a2 cI σ σ2 ω) ++ [(o, .inl (cJ, 1, .inr (.inl g)))]) ++ (wMod n d d2 cI σ τ2 ω)) H := hP
  have hD : va_D A (((wLan b a a2 cI σ σ2 ω) ++ [(o, .inl (cJ, 1, .inr (.inl g)))]) ++ (wMod n d d2 cI σ τ2 ω)) := hD
  refine lv_istore (lv' := [(5, .int 1), (0, .ref bs), (1, .ref (b 0)), (2, .ref (n 0)), (3, .ref o), (4, .int (nI (6 * i)))]) hx hb dL_law_1051 hl (by decide) rfl (fun ls hl => ?_)
  refine lv_aload_n hx hb dL_law_1053 rfl (lv_at hl 3 rfl) ?_
  refine lv_aload_n hx hb dL_law_1054 rfl (lv_at hl 1 rfl) ?_
  refine lv_iload hx hb dL_law_1055 (lv_at hl 5 rfl) ?_
  refine lv_iconst (v := 1) hx hb dL_law_1057 (by decide) ?_
  refine lv_iadd hx hb dL_law_1058 ?_
  rw [show nI (6 * i) + 1 = nI (6 * i + 1) from nI_add (6 * i) 1]
  refine va_sld hx hb hX hbl hbA hS (vp_in_nI (show 6 * i + 1 < L by omega) (by omega)) dL_law_1059 ?_
  rw [nI_clamp (n := 6 * i + 1) (by omega), hp1]
  refine sr_i (va_runV (As := [.int p0]) (rest := []) ⟨hx, hb, hml, hown, hts⟩ (M_X6_arrives_e1 l D cI n d d2 σ τ2 ω p0 _ h1) (cwV 1 hts gL_law_X6_arrives rfl rfl rfl (by decide +kernel) ⟨Nat.le_of_ble_eq_true rfl, Nat.le_of_ble_eq_true rfl⟩) (wrV0 hK hP.right hD.right [0] rfl (ci := 6) (q0 := 0) rfl rfl) rfl rfl hl.1 rfl (lv_room (Nat.le_of_ble_eq_true rfl)) dL_law_1060 ⟨(by show cells + _ ≤ room_1.cells; omega), (by show slots + _ ≤ room_1.slots; omega)⟩) hP hD hS hA (fun H locs hP hD hS => ?_)
  have hP : va_P D vwCl (((wLan b a a2 cI σ σ2 ω) ++ [(o, .inl (cJ, 1, .inr (.inl g)))]) ++ (wOutE n d d2 cI 1 (ω 19 0) (ω 1) (ω 2) (ω 14) (ω 15) ++ (wSta d (n 0) cI σ ++ wSta d2 (n 0) cI τ2))) H := hP
  have hD : va_D A (((wLan b a a2 cI σ σ2 ω) ++ [(o, .inl (cJ, 1, .inr (.inl g)))]) ++ (wOutE n d d2 cI 1 (ω 19 0) (ω 1) (ω 2) (ω 14) (ω 15) ++ (wSta d (n 0) cI σ ++ wSta d2 (n 0) cI τ2))) := hD
  refine lv_istore (lv' := [(6, .int 0), (5, .int 1), (0, .ref bs), (1, .ref (b 0)), (2, .ref (n 0)), (3, .ref o), (4, .int (nI (6 * i)))]) hx hb dL_law_1063 hl (by decide) rfl (fun ls hl => ?_)
  refine lv_aload_n hx hb dL_law_1065 rfl (lv_at hl 4 rfl) ?_
  refine rd_i (va_runV (As := []) (rest := []) ⟨hx, hb, hml, hown, hts⟩ (M_X6_thrown l D cI n d d2 σ τ2 (put ω 20 (fun _ => 1)) ) (cwV 0 hts gL_law_X6_thrown rfl rfl rfl (by decide +kernel) ⟨Nat.le_of_ble_eq_true rfl, Nat.le_of_ble_eq_true rfl⟩) (rdV0 hK hP.right [0] rfl (ci := 6) (q0 := 0) rfl rfl) rfl rfl hl.1 rfl (lv_room (Nat.le_of_ble_eq_true rfl)) dL_law_1066 ⟨(by show cells + _ ≤ room_1.cells; omega), (by show slots + _ ≤ room_1.slots; omega)⟩) ?_
  refine W.eq (g2 := F0 m 1069 ls [.int 1]) rfl ?_
  refine lv_iload hx hb dL_law_1069 (lv_at hl 1 rfl) ?_
  refine lv_icmp_eq (tgt := 1076) hx hb dL_law_1071 (by decide) (fun c_1 => ?_) (fun c_1 => ?_)
  · skip
    refine lv_iload hx hb dL_law_1076 (lv_at hl 1 rfl) ?_
    refine lv_if_ne (tgt := 1093) hx hb dL_law_1078 (by decide) (fun c_2 => ?_) (fun c_2 => ?_)
    · skip
      refine lv_goto (tgt := 1220) hx hb dL_law_1093 (by decide) ?_
      have hP : va_P D vwCl (wAll b a a2 n d d2 cI cJ o σ σ2 (put ω 20 (fun _ => 1)) τ2 g) H := hP
      have hD : va_D A (wAll b a a2 n d d2 cI cJ o σ σ2 (put ω 20 (fun _ => 1)) τ2 g) := hD
      refine W.widen (k := cells + 23) (n := slots + 200) (by omega) (by omega) ?_
      exact kk σ σ2 (put ω 20 (fun _ => 1)) τ2 g h nc nw (iv_w (fun _ => 1) hI) (by omega) H locs hP hD hS ls (lv_sub hl [2, 3, 4, 5, 6] rfl)
    · skip
      exact absurd c_2 (by decide)
  · skip
    exact absurd rfl c_1
set_option maxHeartbeats 4000000 in
set_option maxRecDepth 100000 in
theorem LW_best_e1 {p : Program} {l : Launch} {e : Env} {s : State} {m : MethodId} {args : Array Value} {below : List Frame} {meth : Method} {c : Code} {A : Nat → Prop} {D : va_G} {cI cJ : ClassId} {bs L : Nat} {xs : Nat → Int32} (C : lwC p l s m args c A D cI cJ bs L xs) (b a a2 n d d2 : Nat → Nat) (o i h nc nw : Nat) (σ σ2 ω τ2 : St) (g : Nat → Int64) (p0 : Int32) (hI : lwI σ ω h nc nw) (hi : 6 * i + 6 ≤ L) (hbd : h + 1000 < 2 ^ 29) (hp1 : xs (6 * i + 1) = p0) (h1 : ¬ (0 ≤ p0 ∧ p0 ≤ σ 17 0 - 1)) {H : Heap} {locs : List Loc} {cells slots : Nat} {Q : State → Prop} (hRc : cells + 100 ≤ room_1.cells) (hRs : slots + 1000 ≤ room_1.slots) (hP : va_P D vwCl (wAll b a a2 n d d2 cI cJ o σ σ2 ω τ2 g) H) (hD : va_D A (wAll b a a2 n d d2 cI cJ o σ σ2 ω τ2 g)) (hS : va_S A s.heap H locs) (ls : Array Slot) (hl : lv_has ls 9 [(0, .ref bs), (1, .ref (b 0)), (2, .ref (n 0)), (3, .ref o), (4, .int (nI (6 * i)))]) (kk : lwK p l e s m args below meth c A D cI cJ b a a2 n d d2 o bs i h cells slots Q) : W p l e room_1 s m args below meth c H locs cells slots Q (F0 m 1096 ls []) := by
  obtain ⟨hx, hb, hml, hown, hts, hK, hEX, hX, hbl, hbA, hst, hA, hL⟩ := id C
  obtain ⟨hok, hnw, hw12⟩ := id hI
  have hnc := hok.1.2.1
  have hn8 := hok.1.2.2.1
  refine lv_aload_n hx hb dL_law_1096 rfl (lv_at hl 1 rfl) ?_
  refine lv_aload_n hx hb dL_law_1097 rfl (lv_at hl 0 rfl) ?_
  refine lv_iload hx hb dL_law_1098 (lv_at hl 4 rfl) ?_
  refine lv_iconst (v := 1) hx hb dL_law_1100 (by decide) ?_
  refine lv_iadd hx hb dL_law_1101 ?_
  rw [show nI (6 * i) + 1 = nI (6 * i + 1) from nI_add (6 * i) 1]
  refine va_sld hx hb hX hbl hbA hS (vp_in_nI (show 6 * i + 1 < L by omega) (by omega)) dL_law_1102 ?_
  rw [nI_clamp (n := 6 * i + 1) (by omega), hp1]
  refine lv_aload_n hx hb dL_law_1103 rfl (lv_at hl 3 rfl) ?_
  refine sl_i (vx_runSW (As := [.ref (b 0), .int p0, .ref o]) (rest := []) ⟨hx, hb, hml, hown, hts⟩ (M_L_best_e1 l D cI b a a2 σ σ2 ω p0 o g cJ _ A hst h1) (vx_cwSW 3 hts gL_law_L_best rfl rfl rfl (by decide +kernel) ⟨Nat.le_of_ble_eq_true rfl, Nat.le_of_ble_eq_true rfl⟩) (hxS0 hK hP.left hD.left hS hEX [0, 1] rfl) rfl rfl hl.1 rfl (lv_room (Nat.le_of_ble_eq_true rfl)) dL_law_1104 ⟨(by show cells + _ ≤ room_1.cells; omega), (by show slots + _ ≤ room_1.slots; omega)⟩) hP hD hS hA (fun H locs hP hD hS => ?_)
  have hP : va_P D vwCl (((wLan b a a2 cI σ σ2 ω) ++ [(o, .inl (cJ, 1, .inr (.inl g)))]) ++ (wMod n d d2 cI σ τ2 ω)) H := hP
  have hD : va_D A (((wLan b a a2 cI σ σ2 ω) ++ [(o, .inl (cJ, 1, .inr (.inl g)))]) ++ (wMod n d d2 cI σ τ2 ω)) := hD
  refine lv_istore (lv' := [(5, .int 1), (0, .ref bs), (1, .ref (b 0)), (2, .ref (n 0)), (3, .ref o), (4, .int (nI (6 * i)))]) hx hb dL_law_1107 hl (by decide) rfl (fun ls hl => ?_)
  refine lv_aload_n hx hb dL_law_1109 rfl (lv_at hl 3 rfl) ?_
  refine lv_aload_n hx hb dL_law_1110 rfl (lv_at hl 1 rfl) ?_
  refine lv_iload hx hb dL_law_1111 (lv_at hl 5 rfl) ?_
  refine lv_iconst (v := 1) hx hb dL_law_1113 (by decide) ?_
  refine lv_iadd hx hb dL_law_1114 ?_
  rw [show nI (6 * i) + 1 = nI (6 * i + 1) from nI_add (6 * i) 1]
  refine va_sld hx hb hX hbl hbA hS (vp_in_nI (show 6 * i + 1 < L by omega) (by omega)) dL_law_1115 ?_
  rw [nI_clamp (n := 6 * i + 1) (by omega), hp1]
  refine sr_i (va_runV (As := [.int p0]) (rest := []) ⟨hx, hb, hml, hown, hts⟩ (M_X6_best_e1 l D cI n d d2 σ τ2 ω p0 _ h1) (cwV 1 hts gL_law_X6_best rfl rfl rfl (by decide +kernel) ⟨Nat.le_of_ble_eq_true rfl, Nat.le_of_ble_eq_true rfl⟩) (wrV0 hK hP.right hD.right [0] rfl (ci := 6) (q0 := 0) rfl rfl) rfl rfl hl.1 rfl (lv_room (Nat.le_of_ble_eq_true rfl)) dL_law_1116 ⟨(by show cells + _ ≤ room_1.cells; omega), (by show slots + _ ≤ room_1.slots; omega)⟩) hP hD hS hA (fun H locs hP hD hS => ?_)
  have hP : va_P D vwCl (((wLan b a a2 cI σ σ2 ω) ++ [(o, .inl (cJ, 1, .inr (.inl g)))]) ++ (wOutE n d d2 cI 1 (ω 19 0) (ω 1) (ω 2) (ω 14) (ω 15) ++ (wSta d (n 0) cI σ ++ wSta d2 (n 0) cI τ2))) H := hP
  have hD : va_D A (((wLan b a a2 cI σ σ2 ω) ++ [(o, .inl (cJ, 1, .inr (.inl g)))]) ++ (wOutE n d d2 cI 1 (ω 19 0) (ω 1) (ω 2) (ω 14) (ω 15) ++ (wSta d (n 0) cI σ ++ wSta d2 (n 0) cI τ2))) := hD
  refine lv_istore (lv' := [(6, .int 0), (5, .int 1), (0, .ref bs), (1, .ref (b 0)), (2, .ref (n 0)), (3, .ref o), (4, .int (nI (6 * i)))]) hx hb dL_law_1119 hl (by decide) rfl (fun ls hl => ?_)
  refine lv_aload_n hx hb dL_law_1121 rfl (lv_at hl 4 rfl) ?_
  refine rd_i (va_runV (As := []) (rest := []) ⟨hx, hb, hml, hown, hts⟩ (M_X6_thrown l D cI n d d2 σ τ2 (put ω 20 (fun _ => 1)) ) (cwV 0 hts gL_law_X6_thrown rfl rfl rfl (by decide +kernel) ⟨Nat.le_of_ble_eq_true rfl, Nat.le_of_ble_eq_true rfl⟩) (rdV0 hK hP.right [0] rfl (ci := 6) (q0 := 0) rfl rfl) rfl rfl hl.1 rfl (lv_room (Nat.le_of_ble_eq_true rfl)) dL_law_1122 ⟨(by show cells + _ ≤ room_1.cells; omega), (by show slots + _ ≤ room_1.slots; omega)⟩) ?_
  refine W.eq (g2 := F0 m 1125 ls [.int 1]) rfl ?_
  refine lv_iload hx hb dL_law_1125 (lv_at hl 1 rfl) ?_
  refine lv_icmp_eq (tgt := 1132) hx hb dL_law_1127 (by decide) (fun c_1 => ?_) (fun c_1 => ?_)
  · skip
    refine lv_iload hx hb dL_law_1132 (lv_at hl 1 rfl) ?_
    refine lv_if_ne (tgt := 1149) hx hb dL_law_1134 (by decide) (fun c_2 => ?_) (fun c_2 => ?_)
    · skip
      refine lv_goto (tgt := 1220) hx hb dL_law_1149 (by decide) ?_
      have hP : va_P D vwCl (wAll b a a2 n d d2 cI cJ o σ σ2 (put ω 20 (fun _ => 1)) τ2 g) H := hP
      have hD : va_D A (wAll b a a2 n d d2 cI cJ o σ σ2 (put ω 20 (fun _ => 1)) τ2 g) := hD
      refine W.widen (k := cells + 23) (n := slots + 200) (by omega) (by omega) ?_
      exact kk σ σ2 (put ω 20 (fun _ => 1)) τ2 g h nc nw (iv_w (fun _ => 1) hI) (by omega) H locs hP hD hS ls (lv_sub hl [2, 3, 4, 5, 6] rfl)
    · skip
      exact absurd c_2 (by decide)
  · skip
    exact absurd rfl c_1
set_option maxHeartbeats 4000000 in
set_option maxRecDepth 100000 in
theorem LW_arrives_ok {p : Program} {l : Launch} {e : Env} {s : State} {m : MethodId} {args : Array Value} {below : List Frame} {meth : Method} {c : Code} {A : Nat → Prop} {D : va_G} {cI cJ : ClassId} {bs L : Nat} {xs : Nat → Int32} (C : lwC p l s m args c A D cI cJ bs L xs) (b a a2 n d d2 : Nat → Nat) (o i h nc nw : Nat) (σ σ2 ω τ2 : St) (g : Nat → Int64) (cu : Nat) (hI : lwI σ ω h nc nw) (hi : 6 * i + 6 ≤ L) (hbd : h + 1000 < 2 ^ 29) (hp1 : xs (6 * i + 1) = nI cu) (h1 : (0 ≤ nI cu ∧ nI cu ≤ σ 17 0 - 1)) (hcn : cu < nc) {H : Heap} {locs : List Loc} {cells slots : Nat} {Q : State → Prop} (hRc : cells + 100 ≤ room_1.cells) (hRs : slots + 1000 ≤ room_1.slots) (hP : va_P D vwCl (wAll b a a2 n d d2 cI cJ o σ σ2 ω τ2 g) H) (hD : va_D A (wAll b a a2 n d d2 cI cJ o σ σ2 ω τ2 g)) (hS : va_S A s.heap H locs) (ls : Array Slot) (hl : lv_has ls 9 [(0, .ref bs), (1, .ref (b 0)), (2, .ref (n 0)), (3, .ref o), (4, .int (nI (6 * i)))]) (kk : lwK p l e s m args below meth c A D cI cJ b a a2 n d d2 o bs i h cells slots Q) : W p l e room_1 s m args below meth c H locs cells slots Q (F0 m 1040 ls []) := by
  obtain ⟨hx, hb, hml, hown, hts, hK, hEX, hX, hbl, hbA, hst, hA, hL⟩ := id C
  obtain ⟨hok, hnw, hw12⟩ := id hI
  have hnc := hok.1.2.1
  have hn8 := hok.1.2.2.1
  refine lv_aload_n hx hb dL_law_1040 rfl (lv_at hl 1 rfl) ?_
  refine lv_aload_n hx hb dL_law_1041 rfl (lv_at hl 0 rfl) ?_
  refine lv_iload hx hb dL_law_1042 (lv_at hl 4 rfl) ?_
  refine lv_iconst (v := 1) hx hb dL_law_1044 (by decide) ?_
  refine lv_iadd hx hb dL_law_1045 ?_
  rw [show nI (6 * i) + 1 = nI (6 * i + 1) from nI_add (6 * i) 1]
  refine va_sld hx hb hX hbl hbA hS (vp_in_nI (show 6 * i + 1 < L by omega) (by omega)) dL_law_1046 ?_
  rw [nI_clamp (n := 6 * i + 1) (by omega), hp1]
  refine lv_aload_n hx hb dL_law_1047 rfl (lv_at hl 3 rfl) ?_
  refine sl_i (vx_runSW (As := [.ref (b 0), .int (nI cu), .ref o]) (rest := []) ⟨hx, hb, hml, hown, hts⟩ (M_L_arrives_ok l D cI b a a2 σ σ2 ω cu h nc o g cJ _ hok.1 (by omega) hcn h1) (vx_cwSW 3 hts gL_law_L_arrives rfl rfl rfl (by decide +kernel) ⟨Nat.le_of_ble_eq_true rfl, Nat.le_of_ble_eq_true rfl⟩) (wrS0 hK hP.left hD.left [0, 1] rfl) rfl rfl hl.1 rfl (lv_room (Nat.le_of_ble_eq_true rfl)) dL_law_1048 ⟨(by show cells + _ ≤ room_1.cells; omega), (by show slots + _ ≤ room_1.slots; omega)⟩) hP hD hS hA (fun H locs hP hD hS => ?_)
  have hP : va_P D vwCl (((wLan b a a2 cI σ (arrE σ cu) ω) ++ [(o, .inl (cJ, 1, .inr (.inl (vp_updL g 0 (arrR σ cu).toInt64))))]) ++ (wMod n d d2 cI σ τ2 ω)) H := hP
  have hD : va_D A (((wLan b a a2 cI σ (arrE σ cu) ω) ++ [(o, .inl (cJ, 1, .inr (.inl (vp_updL g 0 (arrR σ cu).toInt64))))]) ++ (wMod n d d2 cI σ τ2 ω)) := hD
  refine lv_istore (lv' := [(5, .int 0), (0, .ref bs), (1, .ref (b 0)), (2, .ref (n 0)), (3, .ref o), (4, .int (nI (6 * i)))]) hx hb dL_law_1051 hl (by decide) rfl (fun ls hl => ?_)
  refine lv_aload_n hx hb dL_law_1053 rfl (lv_at hl 3 rfl) ?_
  refine lv_aload_n hx hb dL_law_1054 rfl (lv_at hl 1 rfl) ?_
  refine lv_iload hx hb dL_law_1055 (lv_at hl 5 rfl) ?_
  refine lv_iconst (v := 1) hx hb dL_law_1057 (by decide) ?_
  refine lv_iadd hx hb dL_law_1058 ?_
  rw [show nI (6 * i) + 1 = nI (6 * i + 1) from nI_add (6 * i) 1]
  refine va_sld hx hb hX hbl hbA hS (vp_in_nI (show 6 * i + 1 < L by omega) (by omega)) dL_law_1059 ?_
  rw [nI_clamp (n := 6 * i + 1) (by omega), hp1]
  refine sr_i (va_runV (As := [.int (nI cu)]) (rest := []) ⟨hx, hb, hml, hown, hts⟩ (M_X6_arrives_ok l D cI n d d2 σ τ2 ω cu h nc _ h1 hcn hok (by omega)) (cwV 1 hts gL_law_X6_arrives rfl rfl rfl (by decide +kernel) ⟨Nat.le_of_ble_eq_true rfl, Nat.le_of_ble_eq_true rfl⟩) (wrV0 hK hP.right hD.right [0] rfl (ci := 6) (q0 := 0) rfl rfl) rfl rfl hl.1 rfl (lv_room (Nat.le_of_ble_eq_true rfl)) dL_law_1060 ⟨(by show cells + _ ≤ room_1.cells; omega), (by show slots + _ ≤ room_1.slots; omega)⟩) hP hD hS hA (fun H locs hP hD hS => ?_)
  have hP : va_P D vwCl (((wLan b a a2 cI σ (arrE σ cu) ω) ++ [(o, .inl (cJ, 1, .inr (.inl (vp_updL g 0 (arrR σ cu).toInt64))))]) ++ (wMod n d d2 cI σ (amE cu 151 σ) (put ω 20 (fun _ => 0)))) H := hP
  have hD : va_D A (((wLan b a a2 cI σ (arrE σ cu) ω) ++ [(o, .inl (cJ, 1, .inr (.inl (vp_updL g 0 (arrR σ cu).toInt64))))]) ++ (wMod n d d2 cI σ (amE cu 151 σ) (put ω 20 (fun _ => 0)))) := hD
  rw [show amR cu 151 0 σ = arrR σ cu from (arr_am (hok.1.2.2.2 cu hcn)).symm]
  refine lv_istore (lv' := [(6, .int (arrR σ cu)), (5, .int 0), (0, .ref bs), (1, .ref (b 0)), (2, .ref (n 0)), (3, .ref o), (4, .int (nI (6 * i)))]) hx hb dL_law_1063 hl (by decide) rfl (fun ls hl => ?_)
  refine lv_aload_n hx hb dL_law_1065 rfl (lv_at hl 4 rfl) ?_
  refine rd_i (va_runV (As := []) (rest := []) ⟨hx, hb, hml, hown, hts⟩ (M_X6_thrown l D cI n d d2 σ (amE cu 151 σ) (put ω 20 (fun _ => 0)) ) (cwV 0 hts gL_law_X6_thrown rfl rfl rfl (by decide +kernel) ⟨Nat.le_of_ble_eq_true rfl, Nat.le_of_ble_eq_true rfl⟩) (rdV0 hK hP.right [0] rfl (ci := 6) (q0 := 0) rfl rfl) rfl rfl hl.1 rfl (lv_room (Nat.le_of_ble_eq_true rfl)) dL_law_1066 ⟨(by show cells + _ ≤ room_1.cells; omega), (by show slots + _ ≤ room_1.slots; omega)⟩) ?_
  refine W.eq (g2 := F0 m 1069 ls [.int 0]) rfl ?_
  refine lv_iload hx hb dL_law_1069 (lv_at hl 1 rfl) ?_
  refine lv_icmp_eq (tgt := 1076) hx hb dL_law_1071 (by decide) (fun c_1 => ?_) (fun c_1 => ?_)
  · skip
    refine lv_iload hx hb dL_law_1076 (lv_at hl 1 rfl) ?_
    refine lv_if_ne (tgt := 1093) hx hb dL_law_1078 (by decide) (fun c_2 => ?_) (fun c_2 => ?_)
    · skip
      exact absurd c_2 (by decide)
    · skip
      refine lv_aload_n hx hb dL_law_1081 rfl (lv_at hl 5 rfl) ?_
      refine lv_iconst (v := 0) hx hb dL_law_1082 (by decide) ?_
      refine va_lald hx hb hK.1 hP 36 1 rfl rfl (by unfold vp_in; decide) dL_law_1083 ?_
      refine W.eq (g2 := F0 m 1084 ls [.long ((arrR σ cu).toInt64)]) rfl ?_
      refine lv_iload hx hb dL_law_1084 (lv_at hl 0 rfl) ?_
      refine lv_i2l hx hb dL_law_1086 rfl ?_
      refine my_lcmpE hx hb dL_law_1087 ?_
      refine lv_if_eq (tgt := 1093) hx hb dL_law_1088 (by decide) (fun c_3 => ?_) (fun c_3 => ?_)
      · skip
        refine lv_goto (tgt := 1220) hx hb dL_law_1093 (by decide) ?_
        have hP : va_P D vwCl (wAll b a a2 n d d2 cI cJ o σ (arrE σ cu) (put ω 20 (fun _ => 0)) (amE cu 151 σ) (vp_updL g 0 (arrR σ cu).toInt64)) H := hP
        have hD : va_D A (wAll b a a2 n d d2 cI cJ o σ (arrE σ cu) (put ω 20 (fun _ => 0)) (amE cu 151 σ) (vp_updL g 0 (arrR σ cu).toInt64)) := hD
        refine W.widen (k := cells + 23) (n := slots + 200) (by omega) (by omega) ?_
        exact kk σ (arrE σ cu) (put ω 20 (fun _ => 0)) (amE cu 151 σ) (vp_updL g 0 (arrR σ cu).toInt64) h nc nw (iv_w (fun _ => 0) hI) (by omega) H locs hP hD hS ls (lv_sub hl [2, 3, 4, 5, 6] rfl)
      · skip
        exact absurd c_3 (by decide)
  · skip
    exact absurd rfl c_1
set_option maxHeartbeats 4000000 in
set_option maxRecDepth 100000 in
theorem LW_best_ok {p : Program} {l : Launch} {e : Env} {s : State} {m : MethodId} {args : Array Value} {below : List Frame} {meth : Method} {c : Code} {A : Nat → Prop} {D : va_G} {cI cJ : ClassId} {bs L : Nat} {xs : Nat → Int32} (C : lwC p l s m args c A D cI cJ bs L xs) (b a a2 n d d2 : Nat → Nat) (o i h nc nw : Nat) (σ σ2 ω τ2 : St) (g : Nat → Int64) (cu : Nat) (hI : lwI σ ω h nc nw) (hi : 6 * i + 6 ≤ L) (hbd : h + 1000 < 2 ^ 29) (hp1 : xs (6 * i + 1) = nI cu) (h1 : (0 ≤ nI cu ∧ nI cu ≤ σ 17 0 - 1)) (hcn : cu < nc) {H : Heap} {locs : List Loc} {cells slots : Nat} {Q : State → Prop} (hRc : cells + 100 ≤ room_1.cells) (hRs : slots + 1000 ≤ room_1.slots) (hP : va_P D vwCl (wAll b a a2 n d d2 cI cJ o σ σ2 ω τ2 g) H) (hD : va_D A (wAll b a a2 n d d2 cI cJ o σ σ2 ω τ2 g)) (hS : va_S A s.heap H locs) (ls : Array Slot) (hl : lv_has ls 9 [(0, .ref bs), (1, .ref (b 0)), (2, .ref (n 0)), (3, .ref o), (4, .int (nI (6 * i)))]) (kk : lwK p l e s m args below meth c A D cI cJ b a a2 n d d2 o bs i h cells slots Q) : W p l e room_1 s m args below meth c H locs cells slots Q (F0 m 1096 ls []) := by
  obtain ⟨hx, hb, hml, hown, hts, hK, hEX, hX, hbl, hbA, hst, hA, hL⟩ := id C
  obtain ⟨hok, hnw, hw12⟩ := id hI
  have hnc := hok.1.2.1
  have hn8 := hok.1.2.2.1
  refine lv_aload_n hx hb dL_law_1096 rfl (lv_at hl 1 rfl) ?_
  refine lv_aload_n hx hb dL_law_1097 rfl (lv_at hl 0 rfl) ?_
  refine lv_iload hx hb dL_law_1098 (lv_at hl 4 rfl) ?_
  refine lv_iconst (v := 1) hx hb dL_law_1100 (by decide) ?_
  refine lv_iadd hx hb dL_law_1101 ?_
  rw [show nI (6 * i) + 1 = nI (6 * i + 1) from nI_add (6 * i) 1]
  refine va_sld hx hb hX hbl hbA hS (vp_in_nI (show 6 * i + 1 < L by omega) (by omega)) dL_law_1102 ?_
  rw [nI_clamp (n := 6 * i + 1) (by omega), hp1]
  refine lv_aload_n hx hb dL_law_1103 rfl (lv_at hl 3 rfl) ?_
  refine sl_i (vx_runSW (As := [.ref (b 0), .int (nI cu), .ref o]) (rest := []) ⟨hx, hb, hml, hown, hts⟩ (M_L_best_ok l D cI b a a2 σ σ2 ω cu h nc o g cJ _ hok.1 (by omega) hcn h1) (vx_cwSW 3 hts gL_law_L_best rfl rfl rfl (by decide +kernel) ⟨Nat.le_of_ble_eq_true rfl, Nat.le_of_ble_eq_true rfl⟩) (wrS0 hK hP.left hD.left [0, 1] rfl) rfl rfl hl.1 rfl (lv_room (Nat.le_of_ble_eq_true rfl)) dL_law_1104 ⟨(by show cells + _ ≤ room_1.cells; omega), (by show slots + _ ≤ room_1.slots; omega)⟩) hP hD hS hA (fun H locs hP hD hS => ?_)
  have hP : va_P D vwCl (((wLan b a a2 cI σ (bcE σ cu 21 σ2) ω) ++ [(o, .inl (cJ, 1, .inr (.inl (vp_updL g 0 (bcR σ cu 21).toInt64))))]) ++ (wMod n d d2 cI σ τ2 ω)) H := hP
  have hD : va_D A (((wLan b a a2 cI σ (bcE σ cu 21 σ2) ω) ++ [(o, .inl (cJ, 1, .inr (.inl (vp_updL g 0 (bcR σ cu 21).toInt64))))]) ++ (wMod n d d2 cI σ τ2 ω)) := hD
  refine lv_istore (lv' := [(5, .int 0), (0, .ref bs), (1, .ref (b 0)), (2, .ref (n 0)), (3, .ref o), (4, .int (nI (6 * i)))]) hx hb dL_law_1107 hl (by decide) rfl (fun ls hl => ?_)
  refine lv_aload_n hx hb dL_law_1109 rfl (lv_at hl 3 rfl) ?_
  refine lv_aload_n hx hb dL_law_1110 rfl (lv_at hl 1 rfl) ?_
  refine lv_iload hx hb dL_law_1111 (lv_at hl 5 rfl) ?_
  refine lv_iconst (v := 1) hx hb dL_law_1113 (by decide) ?_
  refine lv_iadd hx hb dL_law_1114 ?_
  rw [show nI (6 * i) + 1 = nI (6 * i + 1) from nI_add (6 * i) 1]
  refine va_sld hx hb hX hbl hbA hS (vp_in_nI (show 6 * i + 1 < L by omega) (by omega)) dL_law_1115 ?_
  rw [nI_clamp (n := 6 * i + 1) (by omega), hp1]
  refine sr_i (va_runV (As := [.int (nI cu)]) (rest := []) ⟨hx, hb, hml, hown, hts⟩ (M_X6_best_ok l D cI n d d2 σ τ2 ω cu h nc _ h1 hcn hok (by omega)) (cwV 1 hts gL_law_X6_best rfl rfl rfl (by decide +kernel) ⟨Nat.le_of_ble_eq_true rfl, Nat.le_of_ble_eq_true rfl⟩) (wrV0 hK hP.right hD.right [0] rfl (ci := 6) (q0 := 0) rfl rfl) rfl rfl hl.1 rfl (lv_room (Nat.le_of_ble_eq_true rfl)) dL_law_1116 ⟨(by show cells + _ ≤ room_1.cells; omega), (by show slots + _ ≤ room_1.slots; omega)⟩) hP hD hS hA (fun H locs hP hD hS => ?_)
  have hP : va_P D vwCl (((wLan b a a2 cI σ (bcE σ cu 21 σ2) ω) ++ [(o, .inl (cJ, 1, .inr (.inl (vp_updL g 0 (bcR σ cu 21).toInt64))))]) ++ (wMod n d d2 cI σ (bsE σ cu 21 τ2) (put ω 20 (fun _ => 0)))) H := hP
  have hD : va_D A (((wLan b a a2 cI σ (bcE σ cu 21 σ2) ω) ++ [(o, .inl (cJ, 1, .inr (.inl (vp_updL g 0 (bcR σ cu 21).toInt64))))]) ++ (wMod n d d2 cI σ (bsE σ cu 21 τ2) (put ω 20 (fun _ => 0)))) := hD
  rw [show bsR σ cu 21 = bcR σ cu 21 from (bc_bs (hok.1.2.2.2 cu hcn) 21).symm]
  refine lv_istore (lv' := [(6, .int (bcR σ cu 21)), (5, .int 0), (0, .ref bs), (1, .ref (b 0)), (2, .ref (n 0)), (3, .ref o), (4, .int (nI (6 * i)))]) hx hb dL_law_1119 hl (by decide) rfl (fun ls hl => ?_)
  refine lv_aload_n hx hb dL_law_1121 rfl (lv_at hl 4 rfl) ?_
  refine rd_i (va_runV (As := []) (rest := []) ⟨hx, hb, hml, hown, hts⟩ (M_X6_thrown l D cI n d d2 σ (bsE σ cu 21 τ2) (put ω 20 (fun _ => 0)) ) (cwV 0 hts gL_law_X6_thrown rfl rfl rfl (by decide +kernel) ⟨Nat.le_of_ble_eq_true rfl, Nat.le_of_ble_eq_true rfl⟩) (rdV0 hK hP.right [0] rfl (ci := 6) (q0 := 0) rfl rfl) rfl rfl hl.1 rfl (lv_room (Nat.le_of_ble_eq_true rfl)) dL_law_1122 ⟨(by show cells + _ ≤ room_1.cells; omega), (by show slots + _ ≤ room_1.slots; omega)⟩) ?_
  refine W.eq (g2 := F0 m 1125 ls [.int 0]) rfl ?_
  refine lv_iload hx hb dL_law_1125 (lv_at hl 1 rfl) ?_
  refine lv_icmp_eq (tgt := 1132) hx hb dL_law_1127 (by decide) (fun c_1 => ?_) (fun c_1 => ?_)
  · skip
    refine lv_iload hx hb dL_law_1132 (lv_at hl 1 rfl) ?_
    refine lv_if_ne (tgt := 1149) hx hb dL_law_1134 (by decide) (fun c_2 => ?_) (fun c_2 => ?_)
    · skip
      exact absurd c_2 (by decide)
    · skip
      refine lv_aload_n hx hb dL_law_1137 rfl (lv_at hl 5 rfl) ?_
      refine lv_iconst (v := 0) hx hb dL_law_1138 (by decide) ?_
      refine va_lald hx hb hK.1 hP 36 1 rfl rfl (by unfold vp_in; decide) dL_law_1139 ?_
      refine W.eq (g2 := F0 m 1140 ls [.long ((bcR σ cu 21).toInt64)]) rfl ?_
      refine lv_iload hx hb dL_law_1140 (lv_at hl 0 rfl) ?_
      refine lv_i2l hx hb dL_law_1142 rfl ?_
      refine my_lcmpE hx hb dL_law_1143 ?_
      refine lv_if_eq (tgt := 1149) hx hb dL_law_1144 (by decide) (fun c_3 => ?_) (fun c_3 => ?_)
      · skip
        refine lv_goto (tgt := 1220) hx hb dL_law_1149 (by decide) ?_
        have hP : va_P D vwCl (wAll b a a2 n d d2 cI cJ o σ (bcE σ cu 21 σ2) (put ω 20 (fun _ => 0)) (bsE σ cu 21 τ2) (vp_updL g 0 (bcR σ cu 21).toInt64)) H := hP
        have hD : va_D A (wAll b a a2 n d d2 cI cJ o σ (bcE σ cu 21 σ2) (put ω 20 (fun _ => 0)) (bsE σ cu 21 τ2) (vp_updL g 0 (bcR σ cu 21).toInt64)) := hD
        refine W.widen (k := cells + 23) (n := slots + 200) (by omega) (by omega) ?_
        exact kk σ (bcE σ cu 21 σ2) (put ω 20 (fun _ => 0)) (bsE σ cu 21 τ2) (vp_updL g 0 (bcR σ cu 21).toInt64) h nc nw (iv_w (fun _ => 0) hI) (by omega) H locs hP hD hS ls (lv_sub hl [2, 3, 4, 5, 6] rfl)
      · skip
        exact absurd c_3 (by decide)
  · skip
    exact absurd rfl c_1
