set_option maxHeartbeats 4000000 in
set_option maxRecDepth 100000 in
theorem LW_thaw_ok1 {p : Program} {l : Launch} {e : Env} {s : State} {m : MethodId} {args : Array Value} {below : List Frame} {meth : Method} {c : Code} {A : Nat → Prop} {D : va_G} {cI cJ : ClassId} {bs L : Nat} {xs : Nat → Int32} (C : lwC p l s m args c A D cI cJ bs L xs) (b a a2 n d d2 : Nat → Nat) (o i h nc nw : Nat) (σ σ2 ω τ2 : St) (g : Nat → Int64) (hI : lwI σ ω h nc nw) (hi : 6 * i + 6 ≤ L) (hbd : h + 1000 < 2 ^ 29) (h1 : σ 16 0 = -1) {H : Heap} {locs : List Loc} {cells slots : Nat} {Q : State → Prop} (hRc : cells + 100 ≤ room_1.cells) (hRs : slots + 1000 ≤ room_1.slots) (hP : va_P D vwCl (wAll b a a2 n d d2 cI cJ o σ σ2 ω τ2 g) H) (hD : va_D A (wAll b a a2 n d d2 cI cJ o σ σ2 ω τ2 g)) (hS : va_S A s.heap H locs) (ls : Array Slot) (hl : lv_has ls 9 [(0, .ref bs), (1, .ref (b 0)), (2, .ref (n 0)), (3, .ref o), (4, .int (nI (6 * i)))]) (kk : lwK p l e s m args below meth c A D cI cJ b a a2 n d d2 o bs i h cells slots Q) : W p l e room_1 s m args below meth c H locs cells slots Q (F0 m 1152 ls []) := by
  obtain ⟨hx, hb, hml, hown, hts, hK, hEX, hX, hbl, hbA, hst, hA, hL⟩ := id C
  obtain ⟨hok, hnw, hw12⟩ := id hI
  have hnc := hok.1.2.1
  have hn8 := hok.1.2.2.1
  refine lv_aload_n hx hb dL_law_1152 rfl (lv_at hl 1 rfl) ?_
  have hP : va_P D vwCl ((wLan b a a2 cI σ σ2 ω) ++ ([(o, .inl (cJ, 1, .inr (.inl g)))] ++ (wMod n d d2 cI σ τ2 ω))) H := hP
  have hD : va_D A ((wLan b a a2 cI σ σ2 ω) ++ ([(o, .inl (cJ, 1, .inr (.inl g)))] ++ (wMod n d d2 cI σ τ2 ω))) := hD
  refine sl_i (va_runV (As := []) (rest := []) ⟨hx, hb, hml, hown, hts⟩ (M_X4_thaw_ok1 l D cI b a a2 σ σ2 ω h nc _ h1 hok.1 (by omega)) (cwV 0 hts gL_law_X4_thaw rfl rfl rfl (by decide +kernel) ⟨Nat.le_of_ble_eq_true rfl, Nat.le_of_ble_eq_true rfl⟩) (wrV0 hK hP.left hD.left [0] rfl (ci := 4) (q0 := 0) rfl rfl) rfl rfl hl.1 rfl (lv_room (Nat.le_of_ble_eq_true rfl)) dL_law_1153 ⟨(by show cells + _ ≤ room_1.cells; omega), (by show slots + _ ≤ room_1.slots; omega)⟩) hP hD hS hA (fun H locs hP hD hS => ?_)
  have hP : va_P D vwCl (((wLan b a a2 cI σ (thS 720 σ) ω) ++ [(o, .inl (cJ, 1, .inr (.inl g)))]) ++ (wMod n d d2 cI σ τ2 ω)) H := hP
  have hD : va_D A (((wLan b a a2 cI σ (thS 720 σ) ω) ++ [(o, .inl (cJ, 1, .inr (.inl g)))]) ++ (wMod n d d2 cI σ τ2 ω)) := hD
  refine lv_aload_n hx hb dL_law_1156 rfl (lv_at hl 2 rfl) ?_
  refine sr_i (va_runV (As := []) (rest := [.int (thS 720 σ 16 0)]) ⟨hx, hb, hml, hown, hts⟩ (M_X6_thaw_ok l D cI n d d2 σ τ2 ω h nc _ hok (by omega)) (cwV 0 hts gL_law_X6_thaw rfl rfl rfl (by decide +kernel) ⟨Nat.le_of_ble_eq_true rfl, Nat.le_of_ble_eq_true rfl⟩) (wrV0 hK hP.right hD.right [0] rfl (ci := 6) (q0 := 0) rfl rfl) rfl rfl hl.1 rfl (lv_room (Nat.le_of_ble_eq_true rfl)) dL_law_1157 ⟨(by show cells + _ ≤ room_1.cells; omega), (by show slots + _ ≤ room_1.slots; omega)⟩) hP hD hS hA (fun H locs hP hD hS => ?_)
  have hP : va_P D vwCl (((wLan b a a2 cI σ (thS 720 σ) ω) ++ [(o, .inl (cJ, 1, .inr (.inl g)))]) ++ (wMod n d d2 cI σ (thS 720 σ) (put ω 20 (fun _ => 0)))) H := hP
  have hD : va_D A (((wLan b a a2 cI σ (thS 720 σ) ω) ++ [(o, .inl (cJ, 1, .inr (.inl g)))]) ++ (wMod n d d2 cI σ (thS 720 σ) (put ω 20 (fun _ => 0)))) := hD
  refine lv_icmp_eq (tgt := 1220) hx hb dL_law_1160 (by decide) (fun c_1 => ?_) (fun c_1 => ?_)
  · skip
    have hP : va_P D vwCl (wAll b a a2 n d d2 cI cJ o σ (thS 720 σ) (put ω 20 (fun _ => 0)) (thS 720 σ) g) H := hP
    have hD : va_D A (wAll b a a2 n d d2 cI cJ o σ (thS 720 σ) (put ω 20 (fun _ => 0)) (thS 720 σ) g) := hD
    refine W.widen (k := cells + 23) (n := slots + 200) (by omega) (by omega) ?_
    exact kk σ (thS 720 σ) (put ω 20 (fun _ => 0)) (thS 720 σ) g h nc nw (iv_w (fun _ => 0) hI) (by omega) H locs hP hD hS ls (lv_sub hl [0, 1, 2, 3, 4] rfl)
  · skip
    exact absurd rfl c_1
set_option maxHeartbeats 4000000 in
set_option maxRecDepth 100000 in
theorem LW_thaw_ok2 {p : Program} {l : Launch} {e : Env} {s : State} {m : MethodId} {args : Array Value} {below : List Frame} {meth : Method} {c : Code} {A : Nat → Prop} {D : va_G} {cI cJ : ClassId} {bs L : Nat} {xs : Nat → Int32} (C : lwC p l s m args c A D cI cJ bs L xs) (b a a2 n d d2 : Nat → Nat) (o i h nc nw : Nat) (σ σ2 ω τ2 : St) (g : Nat → Int64) (hI : lwI σ ω h nc nw) (hi : 6 * i + 6 ≤ L) (hbd : h + 1000 < 2 ^ 29) (h1 : ¬ σ 16 0 = -1) {H : Heap} {locs : List Loc} {cells slots : Nat} {Q : State → Prop} (hRc : cells + 100 ≤ room_1.cells) (hRs : slots + 1000 ≤ room_1.slots) (hP : va_P D vwCl (wAll b a a2 n d d2 cI cJ o σ σ2 ω τ2 g) H) (hD : va_D A (wAll b a a2 n d d2 cI cJ o σ σ2 ω τ2 g)) (hS : va_S A s.heap H locs) (ls : Array Slot) (hl : lv_has ls 9 [(0, .ref bs), (1, .ref (b 0)), (2, .ref (n 0)), (3, .ref o), (4, .int (nI (6 * i)))]) (kk : lwK p l e s m args below meth c A D cI cJ b a a2 n d d2 o bs i h cells slots Q) : W p l e room_1 s m args below meth c H locs cells slots Q (F0 m 1152 ls []) := by
  obtain ⟨hx, hb, hml, hown, hts, hK, hEX, hX, hbl, hbA, hst, hA, hL⟩ := id C
  obtain ⟨hok, hnw, hw12⟩ := id hI
  have hnc := hok.1.2.1
  have hn8 := hok.1.2.2.1
  refine lv_aload_n hx hb dL_law_1152 rfl (lv_at hl 1 rfl) ?_
  have hP : va_P D vwCl ((wLan b a a2 cI σ σ2 ω) ++ ([(o, .inl (cJ, 1, .inr (.inl g)))] ++ (wMod n d d2 cI σ τ2 ω))) H := hP
  have hD : va_D A ((wLan b a a2 cI σ σ2 ω) ++ ([(o, .inl (cJ, 1, .inr (.inl g)))] ++ (wMod n d d2 cI σ τ2 ω))) := hD
  refine sl_i (va_runV (As := []) (rest := []) ⟨hx, hb, hml, hown, hts⟩ (M_X4_thaw_ok2 l D cI b a a2 σ σ2 ω _ h1) (cwV 0 hts gL_law_X4_thaw rfl rfl rfl (by decide +kernel) ⟨Nat.le_of_ble_eq_true rfl, Nat.le_of_ble_eq_true rfl⟩) (wrV0 hK hP.left hD.left [0] rfl (ci := 4) (q0 := 0) rfl rfl) rfl rfl hl.1 rfl (lv_room (Nat.le_of_ble_eq_true rfl)) dL_law_1153 ⟨(by show cells + _ ≤ room_1.cells; omega), (by show slots + _ ≤ room_1.slots; omega)⟩) hP hD hS hA (fun H locs hP hD hS => ?_)
  have hP : va_P D vwCl (((wLan b a a2 cI σ σ2 ω) ++ [(o, .inl (cJ, 1, .inr (.inl g)))]) ++ (wMod n d d2 cI σ τ2 ω)) H := hP
  have hD : va_D A (((wLan b a a2 cI σ σ2 ω) ++ [(o, .inl (cJ, 1, .inr (.inl g)))]) ++ (wMod n d d2 cI σ τ2 ω)) := hD
  refine lv_aload_n hx hb dL_law_1156 rfl (lv_at hl 2 rfl) ?_
  refine sr_i (va_runV (As := []) (rest := [.int (σ 16 0)]) ⟨hx, hb, hml, hown, hts⟩ (M_X6_thaw_ok l D cI n d d2 σ τ2 ω h nc _ hok (by omega)) (cwV 0 hts gL_law_X6_thaw rfl rfl rfl (by decide +kernel) ⟨Nat.le_of_ble_eq_true rfl, Nat.le_of_ble_eq_true rfl⟩) (wrV0 hK hP.right hD.right [0] rfl (ci := 6) (q0 := 0) rfl rfl) rfl rfl hl.1 rfl (lv_room (Nat.le_of_ble_eq_true rfl)) dL_law_1157 ⟨(by show cells + _ ≤ room_1.cells; omega), (by show slots + _ ≤ room_1.slots; omega)⟩) hP hD hS hA (fun H locs hP hD hS => ?_)
  have hP : va_P D vwCl (((wLan b a a2 cI σ σ2 ω) ++ [(o, .inl (cJ, 1, .inr (.inl g)))]) ++ (wMod n d d2 cI σ (thS 720 σ) (put ω 20 (fun _ => 0)))) H := hP
  have hD : va_D A (((wLan b a a2 cI σ σ2 ω) ++ [(o, .inl (cJ, 1, .inr (.inl g)))]) ++ (wMod n d d2 cI σ (thS 720 σ) (put ω 20 (fun _ => 0)))) := hD
  rw [show thS 720 σ 16 0 = σ 16 0 from by rw [thS_f h1]]
  refine lv_icmp_eq (tgt := 1220) hx hb dL_law_1160 (by decide) (fun c_1 => ?_) (fun c_1 => ?_)
  · skip
    have hP : va_P D vwCl (wAll b a a2 n d d2 cI cJ o σ σ2 (put ω 20 (fun _ => 0)) (thS 720 σ) g) H := hP
    have hD : va_D A (wAll b a a2 n d d2 cI cJ o σ σ2 (put ω 20 (fun _ => 0)) (thS 720 σ) g) := hD
    refine W.widen (k := cells + 23) (n := slots + 200) (by omega) (by omega) ?_
    exact kk σ σ2 (put ω 20 (fun _ => 0)) (thS 720 σ) g h nc nw (iv_w (fun _ => 0) hI) (by omega) H locs hP hD hS ls (lv_sub hl [0, 1, 2, 3, 4] rfl)
  · skip
    exact absurd rfl c_1
set_option maxHeartbeats 4000000 in
set_option maxRecDepth 100000 in
theorem LW_mean_ok {p : Program} {l : Launch} {e : Env} {s : State} {m : MethodId} {args : Array Value} {below : List Frame} {meth : Method} {c : Code} {A : Nat → Prop} {D : va_G} {cI cJ : ClassId} {bs L : Nat} {xs : Nat → Int32} (C : lwC p l s m args c A D cI cJ bs L xs) (b a a2 n d d2 : Nat → Nat) (o i h nc nw : Nat) (σ σ2 ω τ2 : St) (g : Nat → Int64) (hI : lwI σ ω h nc nw) (hi : 6 * i + 6 ≤ L) (hbd : h + 1000 < 2 ^ 29) {H : Heap} {locs : List Loc} {cells slots : Nat} {Q : State → Prop} (hRc : cells + 100 ≤ room_1.cells) (hRs : slots + 1000 ≤ room_1.slots) (hP : va_P D vwCl (wAll b a a2 n d d2 cI cJ o σ σ2 ω τ2 g) H) (hD : va_D A (wAll b a a2 n d d2 cI cJ o σ σ2 ω τ2 g)) (hS : va_S A s.heap H locs) (ls : Array Slot) (hl : lv_has ls 9 [(0, .ref bs), (1, .ref (b 0)), (2, .ref (n 0)), (3, .ref o), (4, .int (nI (6 * i)))]) (kk : lwK p l e s m args below meth c A D cI cJ b a a2 n d d2 o bs i h cells slots Q) : W p l e room_1 s m args below meth c H locs cells slots Q (F0 m 1165 ls []) := by
  obtain ⟨hx, hb, hml, hown, hts, hK, hEX, hX, hbl, hbA, hst, hA, hL⟩ := id C
  obtain ⟨hok, hnw, hw12⟩ := id hI
  have hnc := hok.1.2.1
  have hn8 := hok.1.2.2.1
  refine lv_aload_n hx hb dL_law_1165 rfl (lv_at hl 1 rfl) ?_
  refine rd_d (va_runV (As := []) (rest := []) ⟨hx, hb, hml, hown, hts⟩ (M_X4_mean l D cI b a a2 σ σ2 ω hok.2.1) (cwV 0 hts gL_law_X4_mean rfl rfl rfl (by decide +kernel) ⟨Nat.le_of_ble_eq_true rfl, Nat.le_of_ble_eq_true rfl⟩) (rdV0 hK hP.left.left [0] rfl (ci := 4) (q0 := 0) rfl rfl) rfl rfl hl.1 rfl (lv_room (Nat.le_of_ble_eq_true rfl)) dL_law_1166 ⟨(by show cells + _ ≤ room_1.cells; omega), (by show slots + _ ≤ room_1.slots; omega)⟩) ?_
  refine lv_dstore (lv' := [(5, .double (mnF σ)), (0, .ref bs), (1, .ref (b 0)), (2, .ref (n 0)), (3, .ref o), (4, .int (nI (6 * i)))]) hx hb dL_law_1169 hl (by decide) rfl (fun ls hl => ?_)
  refine lv_aload_n hx hb dL_law_1171 rfl (lv_at hl 3 rfl) ?_
  refine sr_d (va_runV (As := []) (rest := []) ⟨hx, hb, hml, hown, hts⟩ (M_X6_mean_ok l D cI n d d2 σ τ2 ω _ hok.2.1) (cwV 0 hts gL_law_X6_mean rfl rfl rfl (by decide +kernel) ⟨Nat.le_of_ble_eq_true rfl, Nat.le_of_ble_eq_true rfl⟩) (wrV0 hK hP.right hD.right [0] rfl (ci := 6) (q0 := 0) rfl rfl) rfl rfl hl.1 rfl (lv_room (Nat.le_of_ble_eq_true rfl)) dL_law_1172 ⟨(by show cells + _ ≤ room_1.cells; omega), (by show slots + _ ≤ room_1.slots; omega)⟩) hP hD hS hA (fun H locs hP hD hS => ?_)
  have hP : va_P D vwCl (((wLan b a a2 cI σ σ2 ω) ++ [(o, .inl (cJ, 1, .inr (.inl g)))]) ++ (wOutE n d d2 cI 0 (ω 19 0) (ω 1) (ω 2) (ω 14) (ω 15) ++ (wSta d (n 0) cI σ ++ wSta d2 (n 0) cI τ2))) H := hP
  have hD : va_D A (((wLan b a a2 cI σ σ2 ω) ++ [(o, .inl (cJ, 1, .inr (.inl g)))]) ++ (wOutE n d d2 cI 0 (ω 19 0) (ω 1) (ω 2) (ω 14) (ω 15) ++ (wSta d (n 0) cI σ ++ wSta d2 (n 0) cI τ2))) := hD
  refine lv_dstore (lv' := [(7, .double (mnF σ)), (5, .double (mnF σ)), (0, .ref bs), (1, .ref (b 0)), (2, .ref (n 0)), (3, .ref o), (4, .int (nI (6 * i)))]) hx hb dL_law_1175 hl (by decide) rfl (fun ls hl => ?_)
  refine lv_dload hx hb dL_law_1177 (lv_at hl 1 rfl) ?_
  refine lv_dload hx hb dL_law_1179 (lv_at hl 0 rfl) ?_
  refine lv_dcmp hx hb dL_law_1181 ?_
  rw [show Op.cmpValue (FP.dcmp (mnF σ) (mnF σ)) .l = 0 from mean_cmp hok.2.1]
  refine lv_if_eq (tgt := 1203) hx hb dL_law_1182 (by decide) (fun c_1 => ?_) (fun c_1 => ?_)
  · skip
    refine lv_goto (tgt := 1220) hx hb dL_law_1203 (by decide) ?_
    have hP : va_P D vwCl (wAll b a a2 n d d2 cI cJ o σ σ2 (put ω 20 (fun _ => 0)) τ2 g) H := hP
    have hD : va_D A (wAll b a a2 n d d2 cI cJ o σ σ2 (put ω 20 (fun _ => 0)) τ2 g) := hD
    refine W.widen (k := cells + 23) (n := slots + 200) (by omega) (by omega) ?_
    exact kk σ σ2 (put ω 20 (fun _ => 0)) τ2 g h nc nw (iv_w (fun _ => 0) hI) (by omega) H locs hP hD hS ls (lv_sub hl [2, 3, 4, 5, 6] rfl)
  · skip
    exact absurd c_1 (by decide)
set_option maxHeartbeats 4000000 in
set_option maxRecDepth 100000 in
theorem LW_digest_ok {p : Program} {l : Launch} {e : Env} {s : State} {m : MethodId} {args : Array Value} {below : List Frame} {meth : Method} {c : Code} {A : Nat → Prop} {D : va_G} {cI cJ : ClassId} {bs L : Nat} {xs : Nat → Int32} (C : lwC p l s m args c A D cI cJ bs L xs) (b a a2 n d d2 : Nat → Nat) (o i h nc nw : Nat) (σ σ2 ω τ2 : St) (g : Nat → Int64) (hI : lwI σ ω h nc nw) (hi : 6 * i + 6 ≤ L) (hbd : h + 1000 < 2 ^ 29) {H : Heap} {locs : List Loc} {cells slots : Nat} {Q : State → Prop} (hRc : cells + 100 ≤ room_1.cells) (hRs : slots + 1000 ≤ room_1.slots) (hP : va_P D vwCl (wAll b a a2 n d d2 cI cJ o σ σ2 ω τ2 g) H) (hD : va_D A (wAll b a a2 n d d2 cI cJ o σ σ2 ω τ2 g)) (hS : va_S A s.heap H locs) (ls : Array Slot) (hl : lv_has ls 9 [(0, .ref bs), (1, .ref (b 0)), (2, .ref (n 0)), (3, .ref o), (4, .int (nI (6 * i)))]) (kk : lwK p l e s m args below meth c A D cI cJ b a a2 n d d2 o bs i h cells slots Q) : W p l e room_1 s m args below meth c H locs cells slots Q (F0 m 1206 ls []) := by
  obtain ⟨hx, hb, hml, hown, hts, hK, hEX, hX, hbl, hbA, hst, hA, hL⟩ := id C
  obtain ⟨hok, hnw, hw12⟩ := id hI
  have hnc := hok.1.2.1
  have hn8 := hok.1.2.2.1
  refine lv_aload_n hx hb dL_law_1206 rfl (lv_at hl 1 rfl) ?_
  refine rd_l (va_runV (As := []) (rest := []) ⟨hx, hb, hml, hown, hts⟩ (M_X4_digest l D cI b a a2 σ σ2 ω nc nw hnc hn8 hok.2.2.2.1 hnw hw12) (cwV 0 hts gL_law_X4_digest rfl rfl rfl (by decide +kernel) ⟨Nat.le_of_ble_eq_true rfl, Nat.le_of_ble_eq_true rfl⟩) (rdV0 hK hP.left.left [0] rfl (ci := 4) (q0 := 0) rfl rfl) rfl rfl hl.1 rfl (lv_room (Nat.le_of_ble_eq_true rfl)) dL_law_1207 ⟨(by show cells + _ ≤ room_1.cells; omega), (by show slots + _ ≤ room_1.slots; omega)⟩) ?_
  refine lv_aload_n hx hb dL_law_1210 rfl (lv_at hl 2 rfl) ?_
  refine sr_l (va_runV (As := []) (rest := [.long (dgL σ ω nc nw)]) ⟨hx, hb, hml, hown, hts⟩ (M_X6_digest_ok l D cI n d d2 σ τ2 ω nc nw _ hnc hn8 hok.1.2.2.2 hnw hw12) (cwV 0 hts gL_law_X6_digest rfl rfl rfl (by decide +kernel) ⟨Nat.le_of_ble_eq_true rfl, Nat.le_of_ble_eq_true rfl⟩) (wrV0 hK hP.right hD.right [0] rfl (ci := 6) (q0 := 0) rfl rfl) rfl rfl hl.1 rfl (lv_room (Nat.le_of_ble_eq_true rfl)) dL_law_1211 ⟨(by show cells + _ ≤ room_1.cells; omega), (by show slots + _ ≤ room_1.slots; omega)⟩) hP hD hS hA (fun H locs hP hD hS => ?_)
  have hP : va_P D vwCl (((wLan b a a2 cI σ σ2 ω) ++ [(o, .inl (cJ, 1, .inr (.inl g)))]) ++ (wOutE n d d2 cI 0 (ω 19 0) (ω 1) (ω 2) (ω 14) (ω 15) ++ (wSta d (n 0) cI σ ++ wSta d2 (n 0) cI τ2))) H := hP
  have hD : va_D A (((wLan b a a2 cI σ σ2 ω) ++ [(o, .inl (cJ, 1, .inr (.inl g)))]) ++ (wOutE n d d2 cI 0 (ω 19 0) (ω 1) (ω 2) (ω 14) (ω 15) ++ (wSta d (n 0) cI σ ++ wSta d2 (n 0) cI τ2))) := hD
  rw [show dgF σ ω nc nw = dgL σ ω nc nw from (dgL_dgF hok.2.2.1 hok.2.2.2.1).symm]
  refine my_lcmpE hx hb dL_law_1214 ?_
  refine lv_if_eq (tgt := 1220) hx hb dL_law_1215 (by decide) (fun c_1 => ?_) (fun c_1 => ?_)
  · skip
    have hP : va_P D vwCl (wAll b a a2 n d d2 cI cJ o σ σ2 (put ω 20 (fun _ => 0)) τ2 g) H := hP
    have hD : va_D A (wAll b a a2 n d d2 cI cJ o σ σ2 (put ω 20 (fun _ => 0)) τ2 g) := hD
    refine W.widen (k := cells + 23) (n := slots + 200) (by omega) (by omega) ?_
    exact kk σ σ2 (put ω 20 (fun _ => 0)) τ2 g h nc nw (iv_w (fun _ => 0) hI) (by omega) H locs hP hD hS ls (lv_sub hl [0, 1, 2, 3, 4] rfl)
  · skip
    exact absurd c_1 (by decide)
