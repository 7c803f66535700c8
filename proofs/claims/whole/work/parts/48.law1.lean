set_option maxHeartbeats 4000000 in
set_option maxRecDepth 100000 in
theorem LW_setWarm_e1 {p : Program} {l : Launch} {e : Env} {s : State} {m : MethodId} {args : Array Value} {below : List Frame} {meth : Method} {c : Code} {A : Nat → Prop} {D : va_G} {cI cJ : ClassId} {bs L : Nat} {xs : Nat → Int32} (C : lwC p l s m args c A D cI cJ bs L xs) (b a a2 n d d2 : Nat → Nat) (o i h nc nw : Nat) (σ σ2 ω τ2 : St) (g : Nat → Int64) (p0 : Int32) (p1 : Int32) (hI : lwI σ ω h nc nw) (hi : 6 * i + 6 ≤ L) (hbd : h + 1000 < 2 ^ 29) (hp1 : xs (6 * i + 1) = p0) (hp2 : xs (6 * i + 2) = p1) (h1 : ¬ (0 ≤ p0 ∧ p0 ≤ 13)) {H : Heap} {locs : List Loc} {cells slots : Nat} {Q : State → Prop} (hRc : cells + 100 ≤ room_1.cells) (hRs : slots + 1000 ≤ room_1.slots) (hP : va_P D vwCl (wAll b a a2 n d d2 cI cJ o σ σ2 ω τ2 g) H) (hD : va_D A (wAll b a a2 n d d2 cI cJ o σ σ2 ω τ2 g)) (hS : va_S A s.heap H locs) (ls : Array Slot) (hl : lv_has ls 9 [(0, .ref bs), (1, .ref (b 0)), (2, .ref (n 0)), (3, .ref o), (4, .int (nI (6 * i)))]) (kk : lwK p l e s m args below meth c A D cI cJ b a a2 n d d2 o bs i h cells slots Q) : W p l e room_1 s m args below meth c H locs cells slots Q (F0 m 128 ls []) := by
  obtain ⟨hx, hb, hml, hown, hts, hK, hEX, hX, hbl, hbA, hst, hA, hL⟩ := id C
  obtain ⟨hok, hnw, hw12⟩ := id hI
  have hnc := hok.1.2.1
  have hn8 := hok.1.2.2.1
  refine lv_aload_n hx hb dL_law_128 rfl (lv_at hl 1 rfl) ?_
  refine lv_aload_n hx hb dL_law_129 rfl (lv_at hl 0 rfl) ?_
  refine lv_iload hx hb dL_law_130 (lv_at hl 4 rfl) ?_
  refine lv_iconst (v := 1) hx hb dL_law_132 (by decide) ?_
  refine lv_iadd hx hb dL_law_133 ?_
  rw [show nI (6 * i) + 1 = nI (6 * i + 1) from nI_add (6 * i) 1]
  refine va_sld hx hb hX hbl hbA hS (vp_in_nI (show 6 * i + 1 < L by omega) (by omega)) dL_law_134 ?_
  rw [nI_clamp (n := 6 * i + 1) (by omega), hp1]
  refine lv_aload_n hx hb dL_law_135 rfl (lv_at hl 0 rfl) ?_
  refine lv_iload hx hb dL_law_136 (lv_at hl 4 rfl) ?_
  refine lv_iconst (v := 2) hx hb dL_law_138 (by decide) ?_
  refine lv_iadd hx hb dL_law_139 ?_
  rw [show nI (6 * i) + 2 = nI (6 * i + 2) from nI_add (6 * i) 2]
  refine va_sld hx hb hX hbl hbA hS (vp_in_nI (show 6 * i + 2 < L by omega) (by omega)) dL_law_140 ?_
  rw [nI_clamp (n := 6 * i + 2) (by omega), hp2]
  refine lv_aload_n hx hb dL_law_141 rfl (lv_at hl 3 rfl) ?_
  refine sl_i (vx_runSW (As := [.ref (b 0), .int p0, .int p1, .ref o]) (rest := []) ⟨hx, hb, hml, hown, hts⟩ (M_L_setWarm_e1 l D cI b a a2 σ σ2 ω p0 p1 o g cJ _ A hst h1) (vx_cwSW 4 hts gL_law_L_setWarm rfl rfl rfl (by decide +kernel) ⟨Nat.le_of_ble_eq_true rfl, Nat.le_of_ble_eq_true rfl⟩) (hxS0 hK hP.left hD.left hS hEX [0, 1] rfl) rfl rfl hl.1 rfl (lv_room (Nat.le_of_ble_eq_true rfl)) dL_law_142 ⟨(by show cells + _ ≤ room_1.cells; omega), (by show slots + _ ≤ room_1.slots; omega)⟩) hP hD hS hA (fun H locs hP hD hS => ?_)
  have hP : va_P D vwCl (((wLan b a a2 cI σ σ2 ω) ++ [(o, .inl (cJ, 1, .inr (.inl g)))]) ++ (wMod n d d2 cI σ τ2 ω)) H := hP
  have hD : va_D A (((wLan b a a2 cI σ σ2 ω) ++ [(o, .inl (cJ, 1, .inr (.inl g)))]) ++ (wMod n d d2 cI σ τ2 ω)) := hD
  refine lv_istore (lv' := [(5, .int 1), (0, .ref bs), (1, .ref (b 0)), (2, .ref (n 0)), (3, .ref o), (4, .int (nI (6 * i)))]) hx hb dL_law_145 hl (by decide) rfl (fun ls hl => ?_)
  refine lv_aload_n hx hb dL_law_147 rfl (lv_at hl 3 rfl) ?_
  refine lv_aload_n hx hb dL_law_148 rfl (lv_at hl 1 rfl) ?_
  refine lv_iload hx hb dL_law_149 (lv_at hl 5 rfl) ?_
  refine lv_iconst (v := 1) hx hb dL_law_151 (by decide) ?_
  refine lv_iadd hx hb dL_law_152 ?_
  rw [show nI (6 * i) + 1 = nI (6 * i + 1) from nI_add (6 * i) 1]
  refine va_sld hx hb hX hbl hbA hS (vp_in_nI (show 6 * i + 1 < L by omega) (by omega)) dL_law_153 ?_
  rw [nI_clamp (n := 6 * i + 1) (by omega), hp1]
  refine lv_aload_n hx hb dL_law_154 rfl (lv_at hl 1 rfl) ?_
  refine lv_iload hx hb dL_law_155 (lv_at hl 5 rfl) ?_
  refine lv_iconst (v := 2) hx hb dL_law_157 (by decide) ?_
  refine lv_iadd hx hb dL_law_158 ?_
  rw [show nI (6 * i) + 2 = nI (6 * i + 2) from nI_add (6 * i) 2]
  refine va_sld hx hb hX hbl hbA hS (vp_in_nI (show 6 * i + 2 < L by omega) (by omega)) dL_law_159 ?_
  rw [nI_clamp (n := 6 * i + 2) (by omega), hp2]
  refine sr_i (va_runV (As := [.int p0, .int p1]) (rest := []) ⟨hx, hb, hml, hown, hts⟩ (M_X6_setWarm_e1 l D cI n d d2 σ τ2 ω p0 p1 _ h1) (cwV 2 hts gL_law_X6_setWarm rfl rfl rfl (by decide +kernel) ⟨Nat.le_of_ble_eq_true rfl, Nat.le_of_ble_eq_true rfl⟩) (wrV0 hK hP.right hD.right [0] rfl (ci := 6) (q0 := 0) rfl rfl) rfl rfl hl.1 rfl (lv_room (Nat.le_of_ble_eq_true rfl)) dL_law_160 ⟨(by show cells + _ ≤ room_1.cells; omega), (by show slots + _ ≤ room_1.slots; omega)⟩) hP hD hS hA (fun H locs hP hD hS => ?_)
  have hP : va_P D vwCl (((wLan b a a2 cI σ σ2 ω) ++ [(o, .inl (cJ, 1, .inr (.inl g)))]) ++ (wOutE n d d2 cI 1 (ω 19 0) (ω 1) (ω 2) (ω 14) (ω 15) ++ (wSta d (n 0) cI σ ++ wSta d2 (n 0) cI τ2))) H := hP
  have hD : va_D A (((wLan b a a2 cI σ σ2 ω) ++ [(o, .inl (cJ, 1, .inr (.inl g)))]) ++ (wOutE n d d2 cI 1 (ω 19 0) (ω 1) (ω 2) (ω 14) (ω 15) ++ (wSta d (n 0) cI σ ++ wSta d2 (n 0) cI τ2))) := hD
  refine lv_istore (lv' := [(6, .int 0), (5, .int 1), (0, .ref bs), (1, .ref (b 0)), (2, .ref (n 0)), (3, .ref o), (4, .int (nI (6 * i)))]) hx hb dL_law_163 hl (by decide) rfl (fun ls hl => ?_)
  refine lv_aload_n hx hb dL_law_165 rfl (lv_at hl 4 rfl) ?_
  refine rd_i (va_runV (As := []) (rest := []) ⟨hx, hb, hml, hown, hts⟩ (M_X6_thrown l D cI n d d2 σ τ2 (put ω 20 (fun _ => 1)) ) (cwV 0 hts gL_law_X6_thrown rfl rfl rfl (by decide +kernel) ⟨Nat.le_of_ble_eq_true rfl, Nat.le_of_ble_eq_true rfl⟩) (rdV0 hK hP.right [0] rfl (ci := 6) (q0 := 0) rfl rfl) rfl rfl hl.1 rfl (lv_room (Nat.le_of_ble_eq_true rfl)) dL_law_166 ⟨(by show cells + _ ≤ room_1.cells; omega), (by show slots + _ ≤ room_1.slots; omega)⟩) ?_
  refine W.eq (g2 := F0 m 169 ls [.int 1]) rfl ?_
  refine lv_iload hx hb dL_law_169 (lv_at hl 1 rfl) ?_
  refine lv_icmp_eq (tgt := 176) hx hb dL_law_171 (by decide) (fun c_1 => ?_) (fun c_1 => ?_)
  · skip
    refine lv_iload hx hb dL_law_176 (lv_at hl 1 rfl) ?_
    refine lv_if_ne (tgt := 193) hx hb dL_law_178 (by decide) (fun c_2 => ?_) (fun c_2 => ?_)
    · skip
      refine lv_goto (tgt := 1220) hx hb dL_law_193 (by decide) ?_
      have hP : va_P D vwCl (wAll b a a2 n d d2 cI cJ o σ σ2 (put ω 20 (fun _ => 1)) τ2 g) H := hP
      have hD : va_D A (wAll b a a2 n d d2 cI cJ o σ σ2 (put ω 20 (fun _ => 1)) τ2 g) := hD
      refine W.widen (k := cells + 23) (n := slots + 200) (by omega) (by omega) ?_
      exact kk σ σ2 (put ω 20 (fun _ => 1)) τ2 g h nc nw (iv_w (fun _ => 1) hI) (by omega) H locs hP hD hS ls (lv_sub hl [2, 3, 4, 5, 6] rfl)
    · skip
      exact absurd c_2 (by decide)
  · skip
    exact absurd rfl c_1
set_option maxHeartbeats 4000000 in
set_option maxRecDepth 100000 in
theorem LW_setWarm_e2 {p : Program} {l : Launch} {e : Env} {s : State} {m : MethodId} {args : Array Value} {below : List Frame} {meth : Method} {c : Code} {A : Nat → Prop} {D : va_G} {cI cJ : ClassId} {bs L : Nat} {xs : Nat → Int32} (C : lwC p l s m args c A D cI cJ bs L xs) (b a a2 n d d2 : Nat → Nat) (o i h nc nw : Nat) (σ σ2 ω τ2 : St) (g : Nat → Int64) (p0 : Int32) (p1 : Int32) (hI : lwI σ ω h nc nw) (hi : 6 * i + 6 ≤ L) (hbd : h + 1000 < 2 ^ 29) (hp1 : xs (6 * i + 1) = p0) (hp2 : xs (6 * i + 2) = p1) (h1 : (0 ≤ p0 ∧ p0 ≤ 13)) (h2 : ¬ ((-9) ≤ p1 ∧ p1 ≤ 9)) {H : Heap} {locs : List Loc} {cells slots : Nat} {Q : State → Prop} (hRc : cells + 100 ≤ room_1.cells) (hRs : slots + 1000 ≤ room_1.slots) (hP : va_P D vwCl (wAll b a a2 n d d2 cI cJ o σ σ2 ω τ2 g) H) (hD : va_D A (wAll b a a2 n d d2 cI cJ o σ σ2 ω τ2 g)) (hS : va_S A s.heap H locs) (ls : Array Slot) (hl : lv_has ls 9 [(0, .ref bs), (1, .ref (b 0)), (2, .ref (n 0)), (3, .ref o), (4, .int (nI (6 * i)))]) (kk : lwK p l e s m args below meth c A D cI cJ b a a2 n d d2 o bs i h cells slots Q) : W p l e room_1 s m args below meth c H locs cells slots Q (F0 m 128 ls []) := by
  obtain ⟨hx, hb, hml, hown, hts, hK, hEX, hX, hbl, hbA, hst, hA, hL⟩ := id C
  obtain ⟨hok, hnw, hw12⟩ := id hI
  have hnc := hok.1.2.1
  have hn8 := hok.1.2.2.1
  refine lv_aload_n hx hb dL_law_128 rfl (lv_at hl 1 rfl) ?_
  refine lv_aload_n hx hb dL_law_129 rfl (lv_at hl 0 rfl) ?_
  refine lv_iload hx hb dL_law_130 (lv_at hl 4 rfl) ?_
  refine lv_iconst (v := 1) hx hb dL_law_132 (by decide) ?_
  refine lv_iadd hx hb dL_law_133 ?_
  rw [show nI (6 * i) + 1 = nI (6 * i + 1) from nI_add (6 * i) 1]
  refine va_sld hx hb hX hbl hbA hS (vp_in_nI (show 6 * i + 1 < L by omega) (by omega)) dL_law_134 ?_
  rw [nI_clamp (n := 6 * i + 1) (by omega), hp1]
  refine lv_aload_n hx hb dL_law_135 rfl (lv_at hl 0 rfl) ?_
  refine lv_iload hx hb dL_law_136 (lv_at hl 4 rfl) ?_
  refine lv_iconst (v := 2) hx hb dL_law_138 (by decide) ?_
  refine lv_iadd hx hb dL_law_139 ?_
  rw [show nI (6 * i) + 2 = nI (6 * i + 2) from nI_add (6 * i) 2]
  refine va_sld hx hb hX hbl hbA hS (vp_in_nI (show 6 * i + 2 < L by omega) (by omega)) dL_law_140 ?_
  rw [nI_clamp (n := 6 * i + 2) (by omega), hp2]
  refine lv_aload_n hx hb dL_law_141 rfl (lv_at hl 3 rfl) ?_
  refine sl_i (vx_runSW (As := [.ref (b 0), .int p0, .int p1, .ref o]) (rest := []) ⟨hx, hb, hml, hown, hts⟩ (M_L_setWarm_e2 l D cI b a a2 σ σ2 ω p0 p1 o g cJ _ A hst h1 h2) (vx_cwSW 4 hts gL_law_L_setWarm rfl rfl rfl (by decide +kernel) ⟨Nat.le_of_ble_eq_true rfl, Nat.le_of_ble_eq_true rfl⟩) (hxS0 hK hP.left hD.left hS hEX [0, 1] rfl) rfl rfl hl.1 rfl (lv_room (Nat.le_of_ble_eq_true rfl)) dL_law_142 ⟨(by show cells + _ ≤ room_1.cells; omega), (by show slots + _ ≤ room_1.slots; omega)⟩) hP hD hS hA (fun H locs hP hD hS => ?_)
  have hP : va_P D vwCl (((wLan b a a2 cI σ σ2 ω) ++ [(o, .inl (cJ, 1, .inr (.inl g)))]) ++ (wMod n d d2 cI σ τ2 ω)) H := hP
  have hD : va_D A (((wLan b a a2 cI σ σ2 ω) ++ [(o, .inl (cJ, 1, .inr (.inl g)))]) ++ (wMod n d d2 cI σ τ2 ω)) := hD
  refine lv_istore (lv' := [(5, .int 2), (0, .ref bs), (1, .ref (b 0)), (2, .ref (n 0)), (3, .ref o), (4, .int (nI (6 * i)))]) hx hb dL_law_145 hl (by decide) rfl (fun ls hl => ?_)
  refine lv_aload_n hx hb dL_law_147 rfl (lv_at hl 3 rfl) ?_
  refine lv_aload_n hx hb dL_law_148 rfl (lv_at hl 1 rfl) ?_
  refine lv_iload hx hb dL_law_149 (lv_at hl 5 rfl) ?_
  refine lv_iconst (v := 1) hx hb dL_law_151 (by decide) ?_
  refine lv_iadd hx hb dL_law_152 ?_
  rw [show nI (6 * i) + 1 = nI (6 * i + 1) from nI_add (6 * i) 1]
  refine va_sld hx hb hX hbl hbA hS (vp_in_nI (show 6 * i + 1 < L by omega) (by omega)) dL_law_153 ?_
  rw [nI_clamp (n := 6 * i + 1) (by omega), hp1]
  refine lv_aload_n hx hb dL_law_154 rfl (lv_at hl 1 rfl) ?_
  refine lv_iload hx hb dL_law_155 (lv_at hl 5 rfl) ?_
  refine lv_iconst (v := 2) hx hb dL_law_157 (by decide) ?_
  refine lv_iadd hx hb dL_law_158 ?_
  rw [show nI (6 * i) + 2 = nI (6 * i + 2) from nI_add (6 * i) 2]
  refine va_sld hx hb hX hbl hbA hS (vp_in_nI (show 6 * i + 2 < L by omega) (by omega)) dL_law_159 ?_
  rw [nI_clamp (n := 6 * i + 2) (by omega), hp2]
  refine sr_i (va_runV (As := [.int p0, .int p1]) (rest := []) ⟨hx, hb, hml, hown, hts⟩ (M_X6_setWarm_e2 l D cI n d d2 σ τ2 ω p0 p1 _ h1 h2) (cwV 2 hts gL_law_X6_setWarm rfl rfl rfl (by decide +kernel) ⟨Nat.le_of_ble_eq_true rfl, Nat.le_of_ble_eq_true rfl⟩) (wrV0 hK hP.right hD.right [0] rfl (ci := 6) (q0 := 0) rfl rfl) rfl rfl hl.1 rfl (lv_room (Nat.le_of_ble_eq_true rfl)) dL_law_160 ⟨(by show cells + _ ≤ room_1.cells; omega), (by show slots + _ ≤ room_1.slots; omega)⟩) hP hD hS hA (fun H locs hP hD hS => ?_)
  have hP : va_P D vwCl (((wLan b a a2 cI σ σ2 ω) ++ [(o, .inl (cJ, 1, .inr (.inl g)))]) ++ (wOutE n d d2 cI 2 (ω 19 0) (ω 1) (ω 2) (ω 14) (ω 15) ++ (wSta d (n 0) cI σ ++ wSta d2 (n 0) cI τ2))) H := hP
  have hD : va_D A (((wLan b a a2 cI σ σ2 ω) ++ [(o, .inl (cJ, 1, .inr (.inl g)))]) ++ (wOutE n d d2 cI 2 (ω 19 0) (ω 1) (ω 2) (ω 14) (ω 15) ++ (wSta d (n 0) cI σ ++ wSta d2 (n 0) cI τ2))) := hD
  refine lv_istore (lv' := [(6, .int 0), (5, .int 2), (0, .ref bs), (1, .ref (b 0)), (2, .ref (n 0)), (3, .ref o), (4, .int (nI (6 * i)))]) hx hb dL_law_163 hl (by decide) rfl (fun ls hl => ?_)
  refine lv_aload_n hx hb dL_law_165 rfl (lv_at hl 4 rfl) ?_
  refine rd_i (va_runV (As := []) (rest := []) ⟨hx, hb, hml, hown, hts⟩ (M_X6_thrown l D cI n d d2 σ τ2 (put ω 20 (fun _ => 2)) ) (cwV 0 hts gL_law_X6_thrown rfl rfl rfl (by decide +kernel) ⟨Nat.le_of_ble_eq_true rfl, Nat.le_of_ble_eq_true rfl⟩) (rdV0 hK hP.right [0] rfl (ci := 6) (q0 := 0) rfl rfl) rfl rfl hl.1 rfl (lv_room (Nat.le_of_ble_eq_true rfl)) dL_law_166 ⟨(by show cells + _ ≤ room_1.cells; omega), (by show slots + _ ≤ room_1.slots; omega)⟩) ?_
  refine W.eq (g2 := F0 m 169 ls [.int 2]) rfl ?_
  refine lv_iload hx hb dL_law_169 (lv_at hl 1 rfl) ?_
  refine lv_icmp_eq (tgt := 176) hx hb dL_law_171 (by decide) (fun c_1 => ?_) (fun c_1 => ?_)
  · skip
    refine lv_iload hx hb dL_law_176 (lv_at hl 1 rfl) ?_
    refine lv_if_ne (tgt := 193) hx hb dL_law_178 (by decide) (fun c_2 => ?_) (fun c_2 => ?_)
    · skip
      refine lv_goto (tgt := 1220) hx hb dL_law_193 (by decide) ?_
      have hP : va_P D vwCl (wAll b a a2 n d d2 cI cJ o σ σ2 (put ω 20 (fun _ => 2)) τ2 g) H := hP
      have hD : va_D A (wAll b a a2 n d d2 cI cJ o σ σ2 (put ω 20 (fun _ => 2)) τ2 g) := hD
      refine W.widen (k := cells + 23) (n := slots + 200) (by omega) (by omega) ?_
      exact kk σ σ2 (put ω 20 (fun _ => 2)) τ2 g h nc nw (iv_w (fun _ => 2) hI) (by omega) H locs hP hD hS ls (lv_sub hl [2, 3, 4, 5, 6] rfl)
    · skip
      exact absurd c_2 (by decide)
  · skip
    exact absurd rfl c_1
set_option maxHeartbeats 4000000 in
set_option maxRecDepth 100000 in
theorem LW_setWarm_ok {p : Program} {l : Launch} {e : Env} {s : State} {m : MethodId} {args : Array Value} {below : List Frame} {meth : Method} {c : Code} {A : Nat → Prop} {D : va_G} {cI cJ : ClassId} {bs L : Nat} {xs : Nat → Int32} (C : lwC p l s m args c A D cI cJ bs L xs) (b a a2 n d d2 : Nat → Nat) (o i h nc nw : Nat) (σ σ2 ω τ2 : St) (g : Nat → Int64) (dy : Nat) (p1 : Int32) (hI : lwI σ ω h nc nw) (hi : 6 * i + 6 ≤ L) (hbd : h + 1000 < 2 ^ 29) (hp1 : xs (6 * i + 1) = nI dy) (hp2 : xs (6 * i + 2) = p1) (h0 : dy < 14) (h1 : (0 ≤ nI dy ∧ nI dy ≤ 13)) (h2 : ((-9) ≤ p1 ∧ p1 ≤ 9)) {H : Heap} {locs : List Loc} {cells slots : Nat} {Q : State → Prop} (hRc : cells + 100 ≤ room_1.cells) (hRs : slots + 1000 ≤ room_1.slots) (hP : va_P D vwCl (wAll b a a2 n d d2 cI cJ o σ σ2 ω τ2 g) H) (hD : va_D A (wAll b a a2 n d d2 cI cJ o σ σ2 ω τ2 g)) (hS : va_S A s.heap H locs) (ls : Array Slot) (hl : lv_has ls 9 [(0, .ref bs), (1, .ref (b 0)), (2, .ref (n 0)), (3, .ref o), (4, .int (nI (6 * i)))]) (kk : lwK p l e s m args below meth c A D cI cJ b a a2 n d d2 o bs i h cells slots Q) : W p l e room_1 s m args below meth c H locs cells slots Q (F0 m 128 ls []) := by
  obtain ⟨hx, hb, hml, hown, hts, hK, hEX, hX, hbl, hbA, hst, hA, hL⟩ := id C
  obtain ⟨hok, hnw, hw12⟩ := id hI
  have hnc := hok.1.2.1
  have hn8 := hok.1.2.2.1
  refine lv_aload_n hx hb dL_law_128 rfl (lv_at hl 1 rfl) ?_
  refine lv_aload_n hx hb dL_law_129 rfl (lv_at hl 0 rfl) ?_
  refine lv_iload hx hb dL_law_130 (lv_at hl 4 rfl) ?_
  refine lv_iconst (v := 1) hx hb dL_law_132 (by decide) ?_
  refine lv_iadd hx hb dL_law_133 ?_
  rw [show nI (6 * i) + 1 = nI (6 * i + 1) from nI_add (6 * i) 1]
  refine va_sld hx hb hX hbl hbA hS (vp_in_nI (show 6 * i + 1 < L by omega) (by omega)) dL_law_134 ?_
  rw [nI_clamp (n := 6 * i + 1) (by omega), hp1]
  refine lv_aload_n hx hb dL_law_135 rfl (lv_at hl 0 rfl) ?_
  refine lv_iload hx hb dL_law_136 (lv_at hl 4 rfl) ?_
  refine lv_iconst (v := 2) hx hb dL_law_138 (by decide) ?_
  refine lv_iadd hx hb dL_law_139 ?_
  rw [show nI (6 * i) + 2 = nI (6 * i + 2) from nI_add (6 * i) 2]
  refine va_sld hx hb hX hbl hbA hS (vp_in_nI (show 6 * i + 2 < L by omega) (by omega)) dL_law_140 ?_
  rw [nI_clamp (n := 6 * i + 2) (by omega), hp2]
  refine lv_aload_n hx hb dL_law_141 rfl (lv_at hl 3 rfl) ?_
  refine sl_i (vx_runSW (As := [.ref (b 0), .int (nI dy), .int p1, .ref o]) (rest := []) ⟨hx, hb, hml, hown, hts⟩ (M_L_setWarm_ok l D cI b a a2 σ σ2 ω dy p1 o g cJ _ h0 h1 h2) (vx_cwSW 4 hts gL_law_L_setWarm rfl rfl rfl (by decide +kernel) ⟨Nat.le_of_ble_eq_true rfl, Nat.le_of_ble_eq_true rfl⟩) (wrS0 hK hP.left hD.left [0, 1] rfl) rfl rfl hl.1 rfl (lv_room (Nat.le_of_ble_eq_true rfl)) dL_law_142 ⟨(by show cells + _ ≤ room_1.cells; omega), (by show slots + _ ≤ room_1.slots; omega)⟩) hP hD hS hA (fun H locs hP hD hS => ?_)
  have hP : va_P D vwCl (((wTopE b a a2 ++ (wWag b cI ω ++ (wRivE a cI (σ 0 0) (σ 16 0) (upd ((σ 1)) dy p1) (σ 2) (σ 3) (σ 4) (σ 17 0) (σ 5) (σ 6) (σ 7) (σ 8) (σ 9) (σ 10) (σ 11) (σ 12) (σ 13) ++ wRiv a2 cI σ2))) ++ [(o, .inl (cJ, 1, .inr (.inl (vp_updL g 0 ((σ 1) dy).toInt64))))]) ++ (wMod n d d2 cI σ τ2 ω)) H := hP
  have hD : va_D A (((wTopE b a a2 ++ (wWag b cI ω ++ (wRivE a cI (σ 0 0) (σ 16 0) (upd ((σ 1)) dy p1) (σ 2) (σ 3) (σ 4) (σ 17 0) (σ 5) (σ 6) (σ 7) (σ 8) (σ 9) (σ 10) (σ 11) (σ 12) (σ 13) ++ wRiv a2 cI σ2))) ++ [(o, .inl (cJ, 1, .inr (.inl (vp_updL g 0 ((σ 1) dy).toInt64))))]) ++ (wMod n d d2 cI σ τ2 ω)) := hD
  refine lv_istore (lv' := [(5, .int 0), (0, .ref bs), (1, .ref (b 0)), (2, .ref (n 0)), (3, .ref o), (4, .int (nI (6 * i)))]) hx hb dL_law_145 hl (by decide) rfl (fun ls hl => ?_)
  refine lv_aload_n hx hb dL_law_147 rfl (lv_at hl 3 rfl) ?_
  refine lv_aload_n hx hb dL_law_148 rfl (lv_at hl 1 rfl) ?_
  refine lv_iload hx hb dL_law_149 (lv_at hl 5 rfl) ?_
  refine lv_iconst (v := 1) hx hb dL_law_151 (by decide) ?_
  refine lv_iadd hx hb dL_law_152 ?_
  rw [show nI (6 * i) + 1 = nI (6 * i + 1) from nI_add (6 * i) 1]
  refine va_sld hx hb hX hbl hbA hS (vp_in_nI (show 6 * i + 1 < L by omega) (by omega)) dL_law_153 ?_
  rw [nI_clamp (n := 6 * i + 1) (by omega), hp1]
  refine lv_aload_n hx hb dL_law_154 rfl (lv_at hl 1 rfl) ?_
  refine lv_iload hx hb dL_law_155 (lv_at hl 5 rfl) ?_
  refine lv_iconst (v := 2) hx hb dL_law_157 (by decide) ?_
  refine lv_iadd hx hb dL_law_158 ?_
  rw [show nI (6 * i) + 2 = nI (6 * i + 2) from nI_add (6 * i) 2]
  refine va_sld hx hb hX hbl hbA hS (vp_in_nI (show 6 * i + 2 < L by omega) (by omega)) dL_law_159 ?_
  rw [nI_clamp (n := 6 * i + 2) (by omega), hp2]
  refine sr_i (va_runV (As := [.int (nI dy), .int p1]) (rest := []) ⟨hx, hb, hml, hown, hts⟩ (M_X6_setWarm_ok l D cI n d d2 σ τ2 ω dy p1 _ h0 h1 h2) (cwV 2 hts gL_law_X6_setWarm rfl rfl rfl (by decide +kernel) ⟨Nat.le_of_ble_eq_true rfl, Nat.le_of_ble_eq_true rfl⟩) (wrV0 hK hP.right hD.right [0] rfl (ci := 6) (q0 := 0) rfl rfl) rfl rfl hl.1 rfl (lv_room (Nat.le_of_ble_eq_true rfl)) dL_law_160 ⟨(by show cells + _ ≤ room_1.cells; omega), (by show slots + _ ≤ room_1.slots; omega)⟩) hP hD hS hA (fun H locs hP hD hS => ?_)
  have hP : va_P D vwCl (((wTopE b a a2 ++ (wWag b cI ω ++ (wRivE a cI (σ 0 0) (σ 16 0) (upd ((σ 1)) dy p1) (σ 2) (σ 3) (σ 4) (σ 17 0) (σ 5) (σ 6) (σ 7) (σ 8) (σ 9) (σ 10) (σ 11) (σ 12) (σ 13) ++ wRiv a2 cI σ2))) ++ [(o, .inl (cJ, 1, .inr (.inl (vp_updL g 0 ((σ 1) dy).toInt64))))]) ++ (wOutE n d d2 cI 0 (ω 19 0) (upd ((ω 1)) dy p1) (ω 2) (ω 14) (ω 15) ++ (wSta d (n 0) cI σ ++ wSta d2 (n 0) cI τ2))) H := hP
  have hD : va_D A (((wTopE b a a2 ++ (wWag b cI ω ++ (wRivE a cI (σ 0 0) (σ 16 0) (upd ((σ 1)) dy p1) (σ 2) (σ 3) (σ 4) (σ 17 0) (σ 5) (σ 6) (σ 7) (σ 8) (σ 9) (σ 10) (σ 11) (σ 12) (σ 13) ++ wRiv a2 cI σ2))) ++ [(o, .inl (cJ, 1, .inr (.inl (vp_updL g 0 ((σ 1) dy).toInt64))))]) ++ (wOutE n d d2 cI 0 (ω 19 0) (upd ((ω 1)) dy p1) (ω 2) (ω 14) (ω 15) ++ (wSta d (n 0) cI σ ++ wSta d2 (n 0) cI τ2))) := hD
  rw [show ω 1 dy = σ 1 dy from by rw [hok.2.2.1]]
  refine lv_istore (lv' := [(6, .int (σ 1 dy)), (5, .int 0), (0, .ref bs), (1, .ref (b 0)), (2, .ref (n 0)), (3, .ref o), (4, .int (nI (6 * i)))]) hx hb dL_law_163 hl (by decide) rfl (fun ls hl => ?_)
  refine lv_aload_n hx hb dL_law_165 rfl (lv_at hl 4 rfl) ?_
  refine rd_i (va_runV (As := []) (rest := []) ⟨hx, hb, hml, hown, hts⟩ (M_X6_thrown l D cI n d d2 σ τ2 (put (put ω 1 (upd ((ω 1)) dy p1)) 20 (fun _ => 0)) ) (cwV 0 hts gL_law_X6_thrown rfl rfl rfl (by decide +kernel) ⟨Nat.le_of_ble_eq_true rfl, Nat.le_of_ble_eq_true rfl⟩) (rdV0 hK hP.right [0] rfl (ci := 6) (q0 := 0) rfl rfl) rfl rfl hl.1 rfl (lv_room (Nat.le_of_ble_eq_true rfl)) dL_law_166 ⟨(by show cells + _ ≤ room_1.cells; omega), (by show slots + _ ≤ room_1.slots; omega)⟩) ?_
  refine W.eq (g2 := F0 m 169 ls [.int 0]) rfl ?_
  refine lv_iload hx hb dL_law_169 (lv_at hl 1 rfl) ?_
  refine lv_icmp_eq (tgt := 176) hx hb dL_law_171 (by decide) (fun c_1 => ?_) (fun c_1 => ?_)
  · skip
    refine lv_iload hx hb dL_law_176 (lv_at hl 1 rfl) ?_
    refine lv_if_ne (tgt := 193) hx hb dL_law_178 (by decide) (fun c_2 => ?_) (fun c_2 => ?_)
    · skip
      exact absurd c_2 (by decide)
    · skip
      refine lv_aload_n hx hb dL_law_181 rfl (lv_at hl 5 rfl) ?_
      refine lv_iconst (v := 0) hx hb dL_law_182 (by decide) ?_
      refine va_lald hx hb hK.1 hP 36 1 rfl rfl (by unfold vp_in; decide) dL_law_183 ?_
      refine W.eq (g2 := F0 m 184 ls [.long (((σ 1) dy).toInt64)]) rfl ?_
      refine lv_iload hx hb dL_law_184 (lv_at hl 0 rfl) ?_
      refine lv_i2l hx hb dL_law_186 rfl ?_
      skip
      refine my_lcmpE hx hb dL_law_187 ?_
      refine lv_if_eq (tgt := 193) hx hb dL_law_188 (by decide) (fun c_3 => ?_) (fun c_3 => ?_)
      · skip
        refine lv_goto (tgt := 1220) hx hb dL_law_193 (by decide) ?_
        have hP : va_P D vwCl (wAll b a a2 n d d2 cI cJ o (put σ 1 (upd ((σ 1)) dy p1)) σ2 (put (put ω 1 (upd ((ω 1)) dy p1)) 20 (fun _ => 0)) τ2 (vp_updL g 0 ((σ 1) dy).toInt64)) H := hP
        have hD : va_D A (wAll b a a2 n d d2 cI cJ o (put σ 1 (upd ((σ 1)) dy p1)) σ2 (put (put ω 1 (upd ((ω 1)) dy p1)) 20 (fun _ => 0)) τ2 (vp_updL g 0 ((σ 1) dy).toInt64)) := hD
        refine W.widen (k := cells + 23) (n := slots + 200) (by omega) (by omega) ?_
        exact kk (put σ 1 (upd ((σ 1)) dy p1)) σ2 (put (put ω 1 (upd ((ω 1)) dy p1)) 20 (fun _ => 0)) τ2 (vp_updL g 0 ((σ 1) dy).toInt64) h nc nw (iv_setWarm (fun _ => 0) h2 hI) (by omega) H locs hP hD hS ls (lv_sub hl [2, 3, 4, 5, 6] rfl)
      · skip
        exact absurd c_3 (by decide)
  · skip
    exact absurd rfl c_1
set_option maxHeartbeats 4000000 in
set_option maxRecDepth 100000 in
theorem LW_setIce_e1 {p : Program} {l : Launch} {e : Env} {s : State} {m : MethodId} {args : Array Value} {below : List Frame} {meth : Method} {c : Code} {A : Nat → Prop} {D : va_G} {cI cJ : ClassId} {bs L : Nat} {xs : Nat → Int32} (C : lwC p l s m args c A D cI cJ bs L xs) (b a a2 n d d2 : Nat → Nat) (o i h nc nw : Nat) (σ σ2 ω τ2 : St) (g : Nat → Int64) (p0 : Int32) (p1 : Int32) (p2 : Int32) (hI : lwI σ ω h nc nw) (hi : 6 * i + 6 ≤ L) (hbd : h + 1000 < 2 ^ 29) (hp1 : xs (6 * i + 1) = p0) (hp2 : xs (6 * i + 2) = p1) (hp3 : xs (6 * i + 3) = p2) (h1 : ¬ ((0 ≤ p0 ∧ p0 ≤ 11) ∧ (0 ≤ p1 ∧ p1 ≤ 2))) {H : Heap} {locs : List Loc} {cells slots : Nat} {Q : State → Prop} (hRc : cells + 100 ≤ room_1.cells) (hRs : slots + 1000 ≤ room_1.slots) (hP : va_P D vwCl (wAll b a a2 n d d2 cI cJ o σ σ2 ω τ2 g) H) (hD : va_D A (wAll b a a2 n d d2 cI cJ o σ σ2 ω τ2 g)) (hS : va_S A s.heap H locs) (ls : Array Slot) (hl : lv_has ls 9 [(0, .ref bs), (1, .ref (b 0)), (2, .ref (n 0)), (3, .ref o), (4, .int (nI (6 * i)))]) (kk : lwK p l e s m args below meth c A D cI cJ b a a2 n d d2 o bs i h cells slots Q) : W p l e room_1 s m args below meth c H locs cells slots Q (F0 m 196 ls []) := by
  obtain ⟨hx, hb, hml, hown, hts, hK, hEX, hX, hbl, hbA, hst, hA, hL⟩ := id C
  obtain ⟨hok, hnw, hw12⟩ := id hI
  have hnc := hok.1.2.1
  have hn8 := hok.1.2.2.1
  refine lv_aload_n hx hb dL_law_196 rfl (lv_at hl 1 rfl) ?_
  refine lv_aload_n hx hb dL_law_197 rfl (lv_at hl 0 rfl) ?_
  refine lv_iload hx hb dL_law_198 (lv_at hl 4 rfl) ?_
  refine lv_iconst (v := 1) hx hb dL_law_200 (by decide) ?_
  refine lv_iadd hx hb dL_law_201 ?_
  rw [show nI (6 * i) + 1 = nI (6 * i + 1) from nI_add (6 * i) 1]
  refine va_sld hx hb hX hbl hbA hS (vp_in_nI (show 6 * i + 1 < L by omega) (by omega)) dL_law_202 ?_
  rw [nI_clamp (n := 6 * i + 1) (by omega), hp1]
  refine lv_aload_n hx hb dL_law_203 rfl (lv_at hl 0 rfl) ?_
  refine lv_iload hx hb dL_law_204 (lv_at hl 4 rfl) ?_
  refine lv_iconst (v := 2) hx hb dL_law_206 (by decide) ?_
  refine lv_iadd hx hb dL_law_207 ?_
  rw [show nI (6 * i) + 2 = nI (6 * i + 2) from nI_add (6 * i) 2]
  refine va_sld hx hb hX hbl hbA hS (vp_in_nI (show 6 * i + 2 < L by omega) (by omega)) dL_law_208 ?_
  rw [nI_clamp (n := 6 * i + 2) (by omega), hp2]
  refine lv_aload_n hx hb dL_law_209 rfl (lv_at hl 0 rfl) ?_
  refine lv_iload hx hb dL_law_210 (lv_at hl 4 rfl) ?_
  refine lv_iconst (v := 3) hx hb dL_law_212 (by decide) ?_
  refine lv_iadd hx hb dL_law_213 ?_
  rw [show nI (6 * i) + 3 = nI (6 * i + 3) from nI_add (6 * i) 3]
  refine va_sld hx hb hX hbl hbA hS (vp_in_nI (show 6 * i + 3 < L by omega) (by omega)) dL_law_214 ?_
  rw [nI_clamp (n := 6 * i + 3) (by omega), hp3]
  refine lv_aload_n hx hb dL_law_215 rfl (lv_at hl 3 rfl) ?_
  refine sl_i (vx_runSW (As := [.ref (b 0), .int p0, .int p1, .int p2, .ref o]) (rest := []) ⟨hx, hb, hml, hown, hts⟩ (M_L_setIce_e1 l D cI b a a2 σ σ2 ω p0 p1 p2 o g cJ _ A hst h1) (vx_cwSW 5 hts gL_law_L_setIce rfl rfl rfl (by decide +kernel) ⟨Nat.le_of_ble_eq_true rfl, Nat.le_of_ble_eq_true rfl⟩) (hxS0 hK hP.left hD.left hS hEX [0, 1] rfl) rfl rfl hl.1 rfl (lv_room (Nat.le_of_ble_eq_true rfl)) dL_law_216 ⟨(by show cells + _ ≤ room_1.cells; omega), (by show slots + _ ≤ room_1.slots; omega)⟩) hP hD hS hA (fun H locs hP hD hS => ?_)
  have hP : va_P D vwCl (((wLan b a a2 cI σ σ2 ω) ++ [(o, .inl (cJ, 1, .inr (.inl g)))]) ++ (wMod n d d2 cI σ τ2 ω)) H := hP
  have hD : va_D A (((wLan b a a2 cI σ σ2 ω) ++ [(o, .inl (cJ, 1, .inr (.inl g)))]) ++ (wMod n d d2 cI σ τ2 ω)) := hD
  refine lv_istore (lv' := [(5, .int 1), (0, .ref bs), (1, .ref (b 0)), (2, .ref (n 0)), (3, .ref o), (4, .int (nI (6 * i)))]) hx hb dL_law_219 hl (by decide) rfl (fun ls hl => ?_)
  refine lv_aload_n hx hb dL_law_221 rfl (lv_at hl 3 rfl) ?_
  refine lv_aload_n hx hb dL_law_222 rfl (lv_at hl 1 rfl) ?_
  refine lv_iload hx hb dL_law_223 (lv_at hl 5 rfl) ?_
  refine lv_iconst (v := 1) hx hb dL_law_225 (by decide) ?_
  refine lv_iadd hx hb dL_law_226 ?_
  rw [show nI (6 * i) + 1 = nI (6 * i + 1) from nI_add (6 * i) 1]
  refine va_sld hx hb hX hbl hbA hS (vp_in_nI (show 6 * i + 1 < L by omega) (by omega)) dL_law_227 ?_
  rw [nI_clamp (n := 6 * i + 1) (by omega), hp1]
  refine lv_aload_n hx hb dL_law_228 rfl (lv_at hl 1 rfl) ?_
  refine lv_iload hx hb dL_law_229 (lv_at hl 5 rfl) ?_
  refine lv_iconst (v := 2) hx hb dL_law_231 (by decide) ?_
  refine lv_iadd hx hb dL_law_232 ?_
  rw [show nI (6 * i) + 2 = nI (6 * i + 2) from nI_add (6 * i) 2]
  refine va_sld hx hb hX hbl hbA hS (vp_in_nI (show 6 * i + 2 < L by omega) (by omega)) dL_law_233 ?_
  rw [nI_clamp (n := 6 * i + 2) (by omega), hp2]
  refine lv_aload_n hx hb dL_law_234 rfl (lv_at hl 1 rfl) ?_
  refine lv_iload hx hb dL_law_235 (lv_at hl 5 rfl) ?_
  refine lv_iconst (v := 3) hx hb dL_law_237 (by decide) ?_
  refine lv_iadd hx hb dL_law_238 ?_
  rw [show nI (6 * i) + 3 = nI (6 * i + 3) from nI_add (6 * i) 3]
  refine va_sld hx hb hX hbl hbA hS (vp_in_nI (show 6 * i + 3 < L by omega) (by omega)) dL_law_239 ?_
  rw [nI_clamp (n := 6 * i + 3) (by omega), hp3]
  refine sr_i (va_runV (As := [.int p0, .int p1, .int p2]) (rest := []) ⟨hx, hb, hml, hown, hts⟩ (M_X6_setIce_e1 l D cI n d d2 σ τ2 ω p0 p1 p2 _ h1) (cwV 3 hts gL_law_X6_setIce rfl rfl rfl (by decide +kernel) ⟨Nat.le_of_ble_eq_true rfl, Nat.le_of_ble_eq_true rfl⟩) (wrV0 hK hP.right hD.right [0] rfl (ci := 6) (q0 := 0) rfl rfl) rfl rfl hl.1 rfl (lv_room (Nat.le_of_ble_eq_true rfl)) dL_law_240 ⟨(by show cells + _ ≤ room_1.cells; omega), (by show slots + _ ≤ room_1.slots; omega)⟩) hP hD hS hA (fun H locs hP hD hS => ?_)
  have hP : va_P D vwCl (((wLan b a a2 cI σ σ2 ω) ++ [(o, .inl (cJ, 1, .inr (.inl g)))]) ++ (wOutE n d d2 cI 1 (ω 19 0) (ω 1) (ω 2) (ω 14) (ω 15) ++ (wSta d (n 0) cI σ ++ wSta d2 (n 0) cI τ2))) H := hP
  have hD : va_D A (((wLan b a a2 cI σ σ2 ω) ++ [(o, .inl (cJ, 1, .inr (.inl g)))]) ++ (wOutE n d d2 cI 1 (ω 19 0) (ω 1) (ω 2) (ω 14) (ω 15) ++ (wSta d (n 0) cI σ ++ wSta d2 (n 0) cI τ2))) := hD
  refine lv_istore (lv' := [(6, .int 0), (5, .int 1), (0, .ref bs), (1, .ref (b 0)), (2, .ref (n 0)), (3, .ref o), (4, .int (nI (6 * i)))]) hx hb dL_law_243 hl (by decide) rfl (fun ls hl => ?_)
  refine lv_aload_n hx hb dL_law_245 rfl (lv_at hl 4 rfl) ?_
  refine rd_i (va_runV (As := []) (rest := []) ⟨hx, hb, hml, hown, hts⟩ (M_X6_thrown l D cI n d d2 σ τ2 (put ω 20 (fun _ => 1)) ) (cwV 0 hts gL_law_X6_thrown rfl rfl rfl (by decide +kernel) ⟨Nat.le_of_ble_eq_true rfl, Nat.le_of_ble_eq_true rfl⟩) (rdV0 hK hP.right [0] rfl (ci := 6) (q0 := 0) rfl rfl) rfl rfl hl.1 rfl (lv_room (Nat.le_of_ble_eq_true rfl)) dL_law_246 ⟨(by show cells + _ ≤ room_1.cells; omega), (by show slots + _ ≤ room_1.slots; omega)⟩) ?_
  refine W.eq (g2 := F0 m 249 ls [.int 1]) rfl ?_
  refine lv_iload hx hb dL_law_249 (lv_at hl 1 rfl) ?_
  refine lv_icmp_eq (tgt := 256) hx hb dL_law_251 (by decide) (fun c_1 => ?_) (fun c_1 => ?_)
  · skip
    refine lv_iload hx hb dL_law_256 (lv_at hl 1 rfl) ?_
    refine lv_if_ne (tgt := 273) hx hb dL_law_258 (by decide) (fun c_2 => ?_) (fun c_2 => ?_)
    · skip
      refine lv_goto (tgt := 1220) hx hb dL_law_273 (by decide) ?_
      have hP : va_P D vwCl (wAll b a a2 n d d2 cI cJ o σ σ2 (put ω 20 (fun _ => 1)) τ2 g) H := hP
      have hD : va_D A (wAll b a a2 n d d2 cI cJ o σ σ2 (put ω 20 (fun _ => 1)) τ2 g) := hD
      refine W.widen (k := cells + 23) (n := slots + 200) (by omega) (by omega) ?_
      exact kk σ σ2 (put ω 20 (fun _ => 1)) τ2 g h nc nw (iv_w (fun _ => 1) hI) (by omega) H locs hP hD hS ls (lv_sub hl [2, 3, 4, 5, 6] rfl)
    · skip
      exact absurd c_2 (by decide)
  · skip
    exact absurd rfl c_1
set_option maxHeartbeats 4000000 in
set_option maxRecDepth 100000 in
theorem LW_setIce_e2 {p : Program} {l : Launch} {e : Env} {s : State} {m : MethodId} {args : Array Value} {below : List Frame} {meth : Method} {c : Code} {A : Nat → Prop} {D : va_G} {cI cJ : ClassId} {bs L : Nat} {xs : Nat → Int32} (C : lwC p l s m args c A D cI cJ bs L xs) (b a a2 n d d2 : Nat → Nat) (o i h nc nw : Nat) (σ σ2 ω τ2 : St) (g : Nat → Int64) (p0 : Int32) (p1 : Int32) (p2 : Int32) (hI : lwI σ ω h nc nw) (hi : 6 * i + 6 ≤ L) (hbd : h + 1000 < 2 ^ 29) (hp1 : xs (6 * i + 1) = p0) (hp2 : xs (6 * i + 2) = p1) (hp3 : xs (6 * i + 3) = p2) (h1 : ((0 ≤ p0 ∧ p0 ≤ 11) ∧ (0 ≤ p1 ∧ p1 ≤ 2))) (h2 : ¬ (0 ≤ p2 ∧ p2 ≤ 60)) {H : Heap} {locs : List Loc} {cells slots : Nat} {Q : State → Prop} (hRc : cells + 100 ≤ room_1.cells) (hRs : slots + 1000 ≤ room_1.slots) (hP : va_P D vwCl (wAll b a a2 n d d2 cI cJ o σ σ2 ω τ2 g) H) (hD : va_D A (wAll b a a2 n d d2 cI cJ o σ σ2 ω τ2 g)) (hS : va_S A s.heap H locs) (ls : Array Slot) (hl : lv_has ls 9 [(0, .ref bs), (1, .ref (b 0)), (2, .ref (n 0)), (3, .ref o), (4, .int (nI (6 * i)))]) (kk : lwK p l e s m args below meth c A D cI cJ b a a2 n d d2 o bs i h cells slots Q) : W p l e room_1 s m args below meth c H locs cells slots Q (F0 m 196 ls []) := by
  obtain ⟨hx, hb, hml, hown, hts, hK, hEX, hX, hbl, hbA, hst, hA, hL⟩ := id C
  obtain ⟨hok, hnw, hw12⟩ := id hI
  have hnc := hok.1.2.1
  have hn8 := hok.1.2.2.1
  refine lv_aload_n hx hb dL_law_196 rfl (lv_at hl 1 rfl) ?_
  refine lv_aload_n hx hb dL_law_197 rfl (lv_at hl 0 rfl) ?_
  refine lv_iload hx hb dL_law_198 (lv_at hl 4 rfl) ?_
  refine lv_iconst (v := 1) hx hb dL_law_200 (by decide) ?_
  refine lv_iadd hx hb dL_law_201 ?_
  rw [show nI (6 * i) + 1 = nI (6 * i + 1) from nI_add (6 * i) 1]
  refine va_sld hx hb hX hbl hbA hS (vp_in_nI (show 6 * i + 1 < L by omega) (by omega)) dL_law_202 ?_
  rw [nI_clamp (n := 6 * i + 1) (by omega), hp1]
  refine lv_aload_n hx hb dL_law_203 rfl (lv_at hl 0 rfl) ?_
  refine lv_iload hx hb dL_law_204 (lv_at hl 4 rfl) ?_
  refine lv_iconst (v := 2) hx hb dL_law_206 (by decide) ?_
  refine lv_iadd hx hb dL_law_207 ?_
  rw [show nI (6 * i) + 2 = nI (6 * i + 2) from nI_add (6 * i) 2]
  refine va_sld hx hb hX hbl hbA hS (vp_in_nI (show 6 * i + 2 < L by omega) (by omega)) dL_law_208 ?_
  rw [nI_clamp (n := 6 * i + 2) (by omega), hp2]
  refine lv_aload_n hx hb dL_law_209 rfl (lv_at hl 0 rfl) ?_
  refine lv_iload hx hb dL_law_210 (lv_at hl 4 rfl) ?_
  refine lv_iconst (v := 3) hx hb dL_law_212 (by decide) ?_
  refine lv_iadd hx hb dL_law_213 ?_
  rw [show nI (6 * i) + 3 = nI (6 * i + 3) from nI_add (6 * i) 3]
  refine va_sld hx hb hX hbl hbA hS (vp_in_nI (show 6 * i + 3 < L by omega) (by omega)) dL_law_214 ?_
  rw [nI_clamp (n := 6 * i + 3) (by omega), hp3]
  refine lv_aload_n hx hb dL_law_215 rfl (lv_at hl 3 rfl) ?_
  refine sl_i (vx_runSW (As := [.ref (b 0), .int p0, .int p1, .int p2, .ref o]) (rest := []) ⟨hx, hb, hml, hown, hts⟩ (M_L_setIce_e2 l D cI b a a2 σ σ2 ω p0 p1 p2 o g cJ _ A hst h1 h2) (vx_cwSW 5 hts gL_law_L_setIce rfl rfl rfl (by decide +kernel) ⟨Nat.le_of_ble_eq_true rfl, Nat.le_of_ble_eq_true rfl⟩) (hxS0 hK hP.left hD.left hS hEX [0, 1] rfl) rfl rfl hl.1 rfl (lv_room (Nat.le_of_ble_eq_true rfl)) dL_law_216 ⟨(by show cells + _ ≤ room_1.cells; omega), (by show slots + _ ≤ room_1.slots; omega)⟩) hP hD hS hA (fun H locs hP hD hS => ?_)
  have hP : va_P D vwCl (((wLan b a a2 cI σ σ2 ω) ++ [(o, .inl (cJ, 1, .inr (.inl g)))]) ++ (wMod n d d2 cI σ τ2 ω)) H := hP
  have hD : va_D A (((wLan b a a2 cI σ σ2 ω) ++ [(o, .inl (cJ, 1, .inr (.inl g)))]) ++ (wMod n d d2 cI σ τ2 ω)) := hD
  refine lv_istore (lv' := [(5, .int 2), (0, .ref bs), (1, .ref (b 0)), (2, .ref (n 0)), (3, .ref o), (4, .int (nI (6 * i)))]) hx hb dL_law_219 hl (by decide) rfl (fun ls hl => ?_)
  refine lv_aload_n hx hb dL_law_221 rfl (lv_at hl 3 rfl) ?_
  refine lv_aload_n hx hb dL_law_222 rfl (lv_at hl 1 rfl) ?_
  refine lv_iload hx hb dL_law_223 (lv_at hl 5 rfl) ?_
  refine lv_iconst (v := 1) hx hb dL_law_225 (by decide) ?_
  refine lv_iadd hx hb dL_law_226 ?_
  rw [show nI (6 * i) + 1 = nI (6 * i + 1) from nI_add (6 * i) 1]
  refine va_sld hx hb hX hbl hbA hS (vp_in_nI (show 6 * i + 1 < L by omega) (by omega)) dL_law_227 ?_
  rw [nI_clamp (n := 6 * i + 1) (by omega), hp1]
  refine lv_aload_n hx hb dL_law_228 rfl (lv_at hl 1 rfl) ?_
  refine lv_iload hx hb dL_law_229 (lv_at hl 5 rfl) ?_
  refine lv_iconst (v := 2) hx hb dL_law_231 (by decide) ?_
  refine lv_iadd hx hb dL_law_232 ?_
  rw [show nI (6 * i) + 2 = nI (6 * i + 2) from nI_add (6 * i) 2]
  refine va_sld hx hb hX hbl hbA hS (vp_in_nI (show 6 * i + 2 < L by omega) (by omega)) dL_law_233 ?_
  rw [nI_clamp (n := 6 * i + 2) (by omega), hp2]
  refine lv_aload_n hx hb dL_law_234 rfl (lv_at hl 1 rfl) ?_
  refine lv_iload hx hb dL_law_235 (lv_at hl 5 rfl) ?_
  refine lv_iconst (v := 3) hx hb dL_law_237 (by decide) ?_
  refine lv_iadd hx hb dL_law_238 ?_
  rw [show nI (6 * i) + 3 = nI (6 * i + 3) from nI_add (6 * i) 3]
  refine va_sld hx hb hX hbl hbA hS (vp_in_nI (show 6 * i + 3 < L by omega) (by omega)) dL_law_239 ?_
  rw [nI_clamp (n := 6 * i + 3) (by omega), hp3]
  refine sr_i (va_runV (As := [.int p0, .int p1, .int p2]) (rest := []) ⟨hx, hb, hml, hown, hts⟩ (M_X6_setIce_e2 l D cI n d d2 σ τ2 ω p0 p1 p2 _ h1 h2) (cwV 3 hts gL_law_X6_setIce rfl rfl rfl (by decide +kernel) ⟨Nat.le_of_ble_eq_true rfl, Nat.le_of_ble_eq_true rfl⟩) (wrV0 hK hP.right hD.right [0] rfl (ci := 6) (q0 := 0) rfl rfl) rfl rfl hl.1 rfl (lv_room (Nat.le_of_ble_eq_true rfl)) dL_law_240 ⟨(by show cells + _ ≤ room_1.cells; omega), (by show slots + _ ≤ room_1.slots; omega)⟩) hP hD hS hA (fun H locs hP hD hS => ?_)
  have hP : va_P D vwCl (((wLan b a a2 cI σ σ2 ω) ++ [(o, .inl (cJ, 1, .inr (.inl g)))]) ++ (wOutE n d d2 cI 2 (ω 19 0) (ω 1) (ω 2) (ω 14) (ω 15) ++ (wSta d (n 0) cI σ ++ wSta d2 (n 0) cI τ2))) H := hP
  have hD : va_D A (((wLan b a a2 cI σ σ2 ω) ++ [(o, .inl (cJ, 1, .inr (.inl g)))]) ++ (wOutE n d d2 cI 2 (ω 19 0) (ω 1) (ω 2) (ω 14) (ω 15) ++ (wSta d (n 0) cI σ ++ wSta d2 (n 0) cI τ2))) := hD
  refine lv_istore (lv' := [(6, .int 0), (5, .int 2), (0, .ref bs), (1, .ref (b 0)), (2, .ref (n 0)), (3, .ref o), (4, .int (nI (6 * i)))]) hx hb dL_law_243 hl (by decide) rfl (fun ls hl => ?_)
  refine lv_aload_n hx hb dL_law_245 rfl (lv_at hl 4 rfl) ?_
  refine rd_i (va_runV (As := []) (rest := []) ⟨hx, hb, hml, hown, hts⟩ (M_X6_thrown l D cI n d d2 σ τ2 (put ω 20 (fun _ => 2)) ) (cwV 0 hts gL_law_X6_thrown rfl rfl rfl (by decide +kernel) ⟨Nat.le_of_ble_eq_true rfl, Nat.le_of_ble_eq_true rfl⟩) (rdV0 hK hP.right [0] rfl (ci := 6) (q0 := 0) rfl rfl) rfl rfl hl.1 rfl (lv_room (Nat.le_of_ble_eq_true rfl)) dL_law_246 ⟨(by show cells + _ ≤ room_1.cells; omega), (by show slots + _ ≤ room_1.slots; omega)⟩) ?_
  refine W.eq (g2 := F0 m 249 ls [.int 2]) rfl ?_
  refine lv_iload hx hb dL_law_249 (lv_at hl 1 rfl) ?_
  refine lv_icmp_eq (tgt := 256) hx hb dL_law_251 (by decide) (fun c_1 => ?_) (fun c_1 => ?_)
  · skip
    refine lv_iload hx hb dL_law_256 (lv_at hl 1 rfl) ?_
    refine lv_if_ne (tgt := 273) hx hb dL_law_258 (by decide) (fun c_2 => ?_) (fun c_2 => ?_)
    · skip
      refine lv_goto (tgt := 1220) hx hb dL_law_273 (by decide) ?_
      have hP : va_P D vwCl (wAll b a a2 n d d2 cI cJ o σ σ2 (put ω 20 (fun _ => 2)) τ2 g) H := hP
      have hD : va_D A (wAll b a a2 n d d2 cI cJ o σ σ2 (put ω 20 (fun _ => 2)) τ2 g) := hD
      refine W.widen (k := cells + 23) (n := slots + 200) (by omega) (by omega) ?_
      exact kk σ σ2 (put ω 20 (fun _ => 2)) τ2 g h nc nw (iv_w (fun _ => 2) hI) (by omega) H locs hP hD hS ls (lv_sub hl [2, 3, 4, 5, 6] rfl)
    · skip
      exact absurd c_2 (by decide)
  · skip
    exact absurd rfl c_1
set_option maxHeartbeats 4000000 in
set_option maxRecDepth 100000 in
theorem LW_setIce_ok {p : Program} {l : Launch} {e : Env} {s : State} {m : MethodId} {args : Array Value} {below : List Frame} {meth : Method} {c : Code} {A : Nat → Prop} {D : va_G} {cI cJ : ClassId} {bs L : Nat} {xs : Nat → Int32} (C : lwC p l s m args c A D cI cJ bs L xs) (b a a2 n d d2 : Nat → Nat) (o i h nc nw : Nat) (σ σ2 ω τ2 : St) (g : Nat → Int64) (sn : Nat) (ln : Nat) (p2 : Int32) (hI : lwI σ ω h nc nw) (hi : 6 * i + 6 ≤ L) (hbd : h + 1000 < 2 ^ 29) (hp1 : xs (6 * i + 1) = nI sn) (hp2 : xs (6 * i + 2) = nI ln) (hp3 : xs (6 * i + 3) = p2) (hs : sn < 12) (hl9 : ln < 3) (h1 : ((0 ≤ nI sn ∧ nI sn ≤ 11) ∧ (0 ≤ nI ln ∧ nI ln ≤ 2))) (h2 : (0 ≤ p2 ∧ p2 ≤ 60)) {H : Heap} {locs : List Loc} {cells slots : Nat} {Q : State → Prop} (hRc : cells + 100 ≤ room_1.cells) (hRs : slots + 1000 ≤ room_1.slots) (hP : va_P D vwCl (wAll b a a2 n d d2 cI cJ o σ σ2 ω τ2 g) H) (hD : va_D A (wAll b a a2 n d d2 cI cJ o σ σ2 ω τ2 g)) (hS : va_S A s.heap H locs) (ls : Array Slot) (hl : lv_has ls 9 [(0, .ref bs), (1, .ref (b 0)), (2, .ref (n 0)), (3, .ref o), (4, .int (nI (6 * i)))]) (kk : lwK p l e s m args below meth c A D cI cJ b a a2 n d d2 o bs i h cells slots Q) : W p l e room_1 s m args below meth c H locs cells slots Q (F0 m 196 ls []) := by
  obtain ⟨hx, hb, hml, hown, hts, hK, hEX, hX, hbl, hbA, hst, hA, hL⟩ := id C
  obtain ⟨hok, hnw, hw12⟩ := id hI
  have hnc := hok.1.2.1
  have hn8 := hok.1.2.2.1
  refine lv_aload_n hx hb dL_law_196 rfl (lv_at hl 1 rfl) ?_
  refine lv_aload_n hx hb dL_law_197 rfl (lv_at hl 0 rfl) ?_
  refine lv_iload hx hb dL_law_198 (lv_at hl 4 rfl) ?_
  refine lv_iconst (v := 1) hx hb dL_law_200 (by decide) ?_
  refine lv_iadd hx hb dL_law_201 ?_
  rw [show nI (6 * i) + 1 = nI (6 * i + 1) from nI_add (6 * i) 1]
  refine va_sld hx hb hX hbl hbA hS (vp_in_nI (show 6 * i + 1 < L by omega) (by omega)) dL_law_202 ?_
  rw [nI_clamp (n := 6 * i + 1) (by omega), hp1]
  refine lv_aload_n hx hb dL_law_203 rfl (lv_at hl 0 rfl) ?_
  refine lv_iload hx hb dL_law_204 (lv_at hl 4 rfl) ?_
  refine lv_iconst (v := 2) hx hb dL_law_206 (by decide) ?_
  refine lv_iadd hx hb dL_law_207 ?_
  rw [show nI (6 * i) + 2 = nI (6 * i + 2) from nI_add (6 * i) 2]
  refine va_sld hx hb hX hbl hbA hS (vp_in_nI (show 6 * i + 2 < L by omega) (by omega)) dL_law_208 ?_
  rw [nI_clamp (n := 6 * i + 2) (by omega), hp2]
  refine lv_aload_n hx hb dL_law_209 rfl (lv_at hl 0 rfl) ?_
  refine lv_iload hx hb dL_law_210 (lv_at hl 4 rfl) ?_
  refine lv_iconst (v := 3) hx hb dL_law_212 (by decide) ?_
  refine lv_iadd hx hb dL_law_213 ?_
  rw [show nI (6 * i) + 3 = nI (6 * i + 3) from nI_add (6 * i) 3]
  refine va_sld hx hb hX hbl hbA hS (vp_in_nI (show 6 * i + 3 < L by omega) (by omega)) dL_law_214 ?_
  rw [nI_clamp (n := 6 * i + 3) (by omega), hp3]
  refine lv_aload_n hx hb dL_law_215 rfl (lv_at hl 3 rfl) ?_
  refine sl_i (vx_runSW (As := [.ref (b 0), .int (nI sn), .int (nI ln), .int p2, .ref o]) (rest := []) ⟨hx, hb, hml, hown, hts⟩ (M_L_setIce_ok l D cI b a a2 σ σ2 ω sn ln p2 o g cJ _ hs hl9 h1 h2) (vx_cwSW 5 hts gL_law_L_setIce rfl rfl rfl (by decide +kernel) ⟨Nat.le_of_ble_eq_true rfl, Nat.le_of_ble_eq_true rfl⟩) (wrS0 hK hP.left hD.left [0, 1] rfl) rfl rfl hl.1 rfl (lv_room (Nat.le_of_ble_eq_true rfl)) dL_law_216 ⟨(by show cells + _ ≤ room_1.cells; omega), (by show slots + _ ≤ room_1.slots; omega)⟩) hP hD hS hA (fun H locs hP hD hS => ?_)
  have hP : va_P D vwCl (((wTopE b a a2 ++ (wWag b cI ω ++ (wRivE a cI (σ 0 0) (σ 16 0) (σ 1) (σ 2) (upd ((σ 3)) (3 * sn + ln) p2) (σ 4) (σ 17 0) (σ 5) (σ 6) (σ 7) (σ 8) (σ 9) (σ 10) (σ 11) (σ 12) (σ 13) ++ wRiv a2 cI σ2))) ++ [(o, .inl (cJ, 1, .inr (.inl (vp_updL g 0 ((σ 3) (3 * sn + ln)).toInt64))))]) ++ (wMod n d d2 cI σ τ2 ω)) H := hP
  have hD : va_D A (((wTopE b a a2 ++ (wWag b cI ω ++ (wRivE a cI (σ 0 0) (σ 16 0) (σ 1) (σ 2) (upd ((σ 3)) (3 * sn + ln) p2) (σ 4) (σ 17 0) (σ 5) (σ 6) (σ 7) (σ 8) (σ 9) (σ 10) (σ 11) (σ 12) (σ 13) ++ wRiv a2 cI σ2))) ++ [(o, .inl (cJ, 1, .inr (.inl (vp_updL g 0 ((σ 3) (3 * sn + ln)).toInt64))))]) ++ (wMod n d d2 cI σ τ2 ω)) := hD
  refine lv_istore (lv' := [(5, .int 0), (0, .ref bs), (1, .ref (b 0)), (2, .ref (n 0)), (3, .ref o), (4, .int (nI (6 * i)))]) hx hb dL_law_219 hl (by decide) rfl (fun ls hl => ?_)
  refine lv_aload_n hx hb dL_law_221 rfl (lv_at hl 3 rfl) ?_
  refine lv_aload_n hx hb dL_law_222 rfl (lv_at hl 1 rfl) ?_
  refine lv_iload hx hb dL_law_223 (lv_at hl 5 rfl) ?_
  refine lv_iconst (v := 1) hx hb dL_law_225 (by decide) ?_
  refine lv_iadd hx hb dL_law_226 ?_
  rw [show nI (6 * i) + 1 = nI (6 * i + 1) from nI_add (6 * i) 1]
  refine va_sld hx hb hX hbl hbA hS (vp_in_nI (show 6 * i + 1 < L by omega) (by omega)) dL_law_227 ?_
  rw [nI_clamp (n := 6 * i + 1) (by omega), hp1]
  refine lv_aload_n hx hb dL_law_228 rfl (lv_at hl 1 rfl) ?_
  refine lv_iload hx hb dL_law_229 (lv_at hl 5 rfl) ?_
  refine lv_iconst (v := 2) hx hb dL_law_231 (by decide) ?_
  refine lv_iadd hx hb dL_law_232 ?_
  rw [show nI (6 * i) + 2 = nI (6 * i + 2) from nI_add (6 * i) 2]
  refine va_sld hx hb hX hbl hbA hS (vp_in_nI (show 6 * i + 2 < L by omega) (by omega)) dL_law_233 ?_
  rw [nI_clamp (n := 6 * i + 2) (by omega), hp2]
  refine lv_aload_n hx hb dL_law_234 rfl (lv_at hl 1 rfl) ?_
  refine lv_iload hx hb dL_law_235 (lv_at hl 5 rfl) ?_
  refine lv_iconst (v := 3) hx hb dL_law_237 (by decide) ?_
  refine lv_iadd hx hb dL_law_238 ?_
  rw [show nI (6 * i) + 3 = nI (6 * i + 3) from nI_add (6 * i) 3]
  refine va_sld hx hb hX hbl hbA hS (vp_in_nI (show 6 * i + 3 < L by omega) (by omega)) dL_law_239 ?_
  rw [nI_clamp (n := 6 * i + 3) (by omega), hp3]
  refine sr_i (va_runV (As := [.int (nI sn), .int (nI ln), .int p2]) (rest := []) ⟨hx, hb, hml, hown, hts⟩ (M_X6_setIce_ok l D cI n d d2 σ τ2 ω sn ln p2 _ hs hl9 h1 h2) (cwV 3 hts gL_law_X6_setIce rfl rfl rfl (by decide +kernel) ⟨Nat.le_of_ble_eq_true rfl, Nat.le_of_ble_eq_true rfl⟩) (wrV0 hK hP.right hD.right [0] rfl (ci := 6) (q0 := 0) rfl rfl) rfl rfl hl.1 rfl (lv_room (Nat.le_of_ble_eq_true rfl)) dL_law_240 ⟨(by show cells + _ ≤ room_1.cells; omega), (by show slots + _ ≤ room_1.slots; omega)⟩) hP hD hS hA (fun H locs hP hD hS => ?_)
  have hP : va_P D vwCl (((wTopE b a a2 ++ (wWag b cI ω ++ (wRivE a cI (σ 0 0) (σ 16 0) (σ 1) (σ 2) (upd ((σ 3)) (3 * sn + ln) p2) (σ 4) (σ 17 0) (σ 5) (σ 6) (σ 7) (σ 8) (σ 9) (σ 10) (σ 11) (σ 12) (σ 13) ++ wRiv a2 cI σ2))) ++ [(o, .inl (cJ, 1, .inr (.inl (vp_updL g 0 ((σ 3) (3 * sn + ln)).toInt64))))]) ++ (wOutE n d d2 cI 0 (ω 19 0) (ω 1) (ω 2) (ω 14) (ω 15) ++ (wStaE d (n 0) cI (σ 0 0) (σ 17 0) (σ 16 0) (σ 18 0) (upd ((σ 3)) (3 * sn + ln) p2) (σ 4) (σ 5) (σ 6) (σ 7) (σ 8) (σ 9) (σ 10) (σ 11) (σ 12) (σ 13) ++ wSta d2 (n 0) cI τ2))) H := hP
  have hD : va_D A (((wTopE b a a2 ++ (wWag b cI ω ++ (wRivE a cI (σ 0 0) (σ 16 0) (σ 1) (σ 2) (upd ((σ 3)) (3 * sn + ln) p2) (σ 4) (σ 17 0) (σ 5) (σ 6) (σ 7) (σ 8) (σ 9) (σ 10) (σ 11) (σ 12) (σ 13) ++ wRiv a2 cI σ2))) ++ [(o, .inl (cJ, 1, .inr (.inl (vp_updL g 0 ((σ 3) (3 * sn + ln)).toInt64))))]) ++ (wOutE n d d2 cI 0 (ω 19 0) (ω 1) (ω 2) (ω 14) (ω 15) ++ (wStaE d (n 0) cI (σ 0 0) (σ 17 0) (σ 16 0) (σ 18 0) (upd ((σ 3)) (3 * sn + ln) p2) (σ 4) (σ 5) (σ 6) (σ 7) (σ 8) (σ 9) (σ 10) (σ 11) (σ 12) (σ 13) ++ wSta d2 (n 0) cI τ2))) := hD
  refine lv_istore (lv' := [(6, .int ((σ 3) (3 * sn + ln))), (5, .int 0), (0, .ref bs), (1, .ref (b 0)), (2, .ref (n 0)), (3, .ref o), (4, .int (nI (6 * i)))]) hx hb dL_law_243 hl (by decide) rfl (fun ls hl => ?_)
  refine lv_aload_n hx hb dL_law_245 rfl (lv_at hl 4 rfl) ?_
  refine rd_i (va_runV (As := []) (rest := []) ⟨hx, hb, hml, hown, hts⟩ (M_X6_thrown l D cI n d d2 (put σ 3 (upd ((σ 3)) (3 * sn + ln) p2)) τ2 (put ω 20 (fun _ => 0)) ) (cwV 0 hts gL_law_X6_thrown rfl rfl rfl (by decide +kernel) ⟨Nat.le_of_ble_eq_true rfl, Nat.le_of_ble_eq_true rfl⟩) (rdV0 hK hP.right [0] rfl (ci := 6) (q0 := 0) rfl rfl) rfl rfl hl.1 rfl (lv_room (Nat.le_of_ble_eq_true rfl)) dL_law_246 ⟨(by show cells + _ ≤ room_1.cells; omega), (by show slots + _ ≤ room_1.slots; omega)⟩) ?_
  refine W.eq (g2 := F0 m 249 ls [.int 0]) rfl ?_
  refine lv_iload hx hb dL_law_249 (lv_at hl 1 rfl) ?_
  refine lv_icmp_eq (tgt := 256) hx hb dL_law_251 (by decide) (fun c_1 => ?_) (fun c_1 => ?_)
  · skip
    refine lv_iload hx hb dL_law_256 (lv_at hl 1 rfl) ?_
    refine lv_if_ne (tgt := 273) hx hb dL_law_258 (by decide) (fun c_2 => ?_) (fun c_2 => ?_)
    · skip
      exact absurd c_2 (by decide)
    · skip
      refine lv_aload_n hx hb dL_law_261 rfl (lv_at hl 5 rfl) ?_
      refine lv_iconst (v := 0) hx hb dL_law_262 (by decide) ?_
      refine va_lald hx hb hK.1 hP 36 1 rfl rfl (by unfold vp_in; decide) dL_law_263 ?_
      refine W.eq (g2 := F0 m 264 ls [.long (((σ 3) (3 * sn + ln)).toInt64)]) rfl ?_
      refine lv_iload hx hb dL_law_264 (lv_at hl 0 rfl) ?_
      refine lv_i2l hx hb dL_law_266 rfl ?_
      refine my_lcmpE hx hb dL_law_267 ?_
      refine lv_if_eq (tgt := 273) hx hb dL_law_268 (by decide) (fun c_3 => ?_) (fun c_3 => ?_)
      · skip
        refine lv_goto (tgt := 1220) hx hb dL_law_273 (by decide) ?_
        have hP : va_P D vwCl (wAll b a a2 n d d2 cI cJ o (put σ 3 (upd ((σ 3)) (3 * sn + ln) p2)) σ2 (put ω 20 (fun _ => 0)) τ2 (vp_updL g 0 ((σ 3) (3 * sn + ln)).toInt64)) H := hP
        have hD : va_D A (wAll b a a2 n d d2 cI cJ o (put σ 3 (upd ((σ 3)) (3 * sn + ln) p2)) σ2 (put ω 20 (fun _ => 0)) τ2 (vp_updL g 0 ((σ 3) (3 * sn + ln)).toInt64)) := hD
        refine W.widen (k := cells + 23) (n := slots + 200) (by omega) (by omega) ?_
        exact kk (put σ 3 (upd ((σ 3)) (3 * sn + ln) p2)) σ2 (put ω 20 (fun _ => 0)) τ2 (vp_updL g 0 ((σ 3) (3 * sn + ln)).toInt64) h nc nw (iv_setIce (fun _ => 0) h2 hI) (by omega) H locs hP hD hS ls (lv_sub hl [2, 3, 4, 5, 6] rfl)
      · skip
        exact absurd c_3 (by decide)
  · skip
    exact absurd rfl c_1
set_option maxHeartbeats 4000000 in
set_option maxRecDepth 100000 in
theorem LW_build_e1 {p : Program} {l : Launch} {e : Env} {s : State} {m : MethodId} {args : Array Value} {below : List Frame} {meth : Method} {c : Code} {A : Nat → Prop} {D : va_G} {cI cJ : ClassId} {bs L : Nat} {xs : Nat → Int32} (C : lwC p l s m args c A D cI cJ bs L xs) (b a a2 n d d2 : Nat → Nat) (o i h nc nw : Nat) (σ σ2 ω τ2 : St) (g : Nat → Int64) (p0 : Int32) (hI : lwI σ ω h nc nw) (hi : 6 * i + 6 ≤ L) (hbd : h + 1000 < 2 ^ 29) (hp1 : xs (6 * i + 1) = p0) (h1 : ¬ (0 ≤ p0 ∧ p0 ≤ 11)) {H : Heap} {locs : List Loc} {cells slots : Nat} {Q : State → Prop} (hRc : cells + 100 ≤ room_1.cells) (hRs : slots + 1000 ≤ room_1.slots) (hP : va_P D vwCl (wAll b a a2 n d d2 cI cJ o σ σ2 ω τ2 g) H) (hD : va_D A (wAll b a a2 n d d2 cI cJ o σ σ2 ω τ2 g)) (hS : va_S A s.heap H locs) (ls : Array Slot) (hl : lv_has ls 9 [(0, .ref bs), (1, .ref (b 0)), (2, .ref (n 0)), (3, .ref o), (4, .int (nI (6 * i)))]) (kk : lwK p l e s m args below meth c A D cI cJ b a a2 n d d2 o bs i h cells slots Q) : W p l e room_1 s m args below meth c H locs cells slots Q (F0 m 276 ls []) := by
  obtain ⟨hx, hb, hml, hown, hts, hK, hEX, hX, hbl, hbA, hst, hA, hL⟩ := id C
  obtain ⟨hok, hnw, hw12⟩ := id hI
  have hnc := hok.1.2.1
  have hn8 := hok.1.2.2.1
  refine lv_aload_n hx hb dL_law_276 rfl (lv_at hl 1 rfl) ?_
  refine lv_aload_n hx hb dL_law_277 rfl (lv_at hl 0 rfl) ?_
  refine lv_iload hx hb dL_law_278 (lv_at hl 4 rfl) ?_
  refine lv_iconst (v := 1) hx hb dL_law_280 (by decide) ?_
  refine lv_iadd hx hb dL_law_281 ?_
  rw [show nI (6 * i) + 1 = nI (6 * i + 1) from nI_add (6 * i) 1]
  refine va_sld hx hb hX hbl hbA hS (vp_in_nI (show 6 * i + 1 < L by omega) (by omega)) dL_law_282 ?_
  rw [nI_clamp (n := 6 * i + 1) (by omega), hp1]
  refine lv_aload_n hx hb dL_law_283 rfl (lv_at hl 3 rfl) ?_
  refine sl_i (vx_runSW (As := [.ref (b 0), .int p0, .ref o]) (rest := []) ⟨hx, hb, hml, hown, hts⟩ (M_L_build_e1 l D cI b a a2 σ σ2 ω p0 o g cJ _ A hst h1) (vx_cwSW 3 hts gL_law_L_build rfl rfl rfl (by decide +kernel) ⟨Nat.le_of_ble_eq_true rfl, Nat.le_of_ble_eq_true rfl⟩) (hxS0 hK hP.left hD.left hS hEX [0, 1] rfl) rfl rfl hl.1 rfl (lv_room (Nat.le_of_ble_eq_true rfl)) dL_law_284 ⟨(by show cells + _ ≤ room_1.cells; omega), (by show slots + _ ≤ room_1.slots; omega)⟩) hP hD hS hA (fun H locs hP hD hS => ?_)
  have hP : va_P D vwCl (((wLan b a a2 cI σ σ2 ω) ++ [(o, .inl (cJ, 1, .inr (.inl g)))]) ++ (wMod n d d2 cI σ τ2 ω)) H := hP
  have hD : va_D A (((wLan b a a2 cI σ σ2 ω) ++ [(o, .inl (cJ, 1, .inr (.inl g)))]) ++ (wMod n d d2 cI σ τ2 ω)) := hD
  refine lv_istore (lv' := [(5, .int 1), (0, .ref bs), (1, .ref (b 0)), (2, .ref (n 0)), (3, .ref o), (4, .int (nI (6 * i)))]) hx hb dL_law_287 hl (by decide) rfl (fun ls hl => ?_)
  refine lv_aload_n hx hb dL_law_289 rfl (lv_at hl 3 rfl) ?_
  refine lv_aload_n hx hb dL_law_290 rfl (lv_at hl 1 rfl) ?_
  refine lv_iload hx hb dL_law_291 (lv_at hl 5 rfl) ?_
  refine lv_iconst (v := 1) hx hb dL_law_293 (by decide) ?_
  refine lv_iadd hx hb dL_law_294 ?_
  rw [show nI (6 * i) + 1 = nI (6 * i + 1) from nI_add (6 * i) 1]
  refine va_sld hx hb hX hbl hbA hS (vp_in_nI (show 6 * i + 1 < L by omega) (by omega)) dL_law_295 ?_
  rw [nI_clamp (n := 6 * i + 1) (by omega), hp1]
  refine sr_i (va_runV (As := [.int p0]) (rest := []) ⟨hx, hb, hml, hown, hts⟩ (M_X6_build_e1 l D cI n d d2 σ τ2 ω p0 _ h1) (cwV 1 hts gL_law_X6_build rfl rfl rfl (by decide +kernel) ⟨Nat.le_of_ble_eq_true rfl, Nat.le_of_ble_eq_true rfl⟩) (wrV0 hK hP.right hD.right [0] rfl (ci := 6) (q0 := 0) rfl rfl) rfl rfl hl.1 rfl (lv_room (Nat.le_of_ble_eq_true rfl)) dL_law_296 ⟨(by show cells + _ ≤ room_1.cells; omega), (by show slots + _ ≤ room_1.slots; omega)⟩) hP hD hS hA (fun H locs hP hD hS => ?_)
  have hP : va_P D vwCl (((wLan b a a2 cI σ σ2 ω) ++ [(o, .inl (cJ, 1, .inr (.inl g)))]) ++ (wOutE n d d2 cI 1 (ω 19 0) (ω 1) (ω 2) (ω 14) (ω 15) ++ (wSta d (n 0) cI σ ++ wSta d2 (n 0) cI τ2))) H := hP
  have hD : va_D A (((wLan b a a2 cI σ σ2 ω) ++ [(o, .inl (cJ, 1, .inr (.inl g)))]) ++ (wOutE n d d2 cI 1 (ω 19 0) (ω 1) (ω 2) (ω 14) (ω 15) ++ (wSta d (n 0) cI σ ++ wSta d2 (n 0) cI τ2))) := hD
  refine lv_istore (lv' := [(6, .int 0), (5, .int 1), (0, .ref bs), (1, .ref (b 0)), (2, .ref (n 0)), (3, .ref o), (4, .int (nI (6 * i)))]) hx hb dL_law_299 hl (by decide) rfl (fun ls hl => ?_)
  refine lv_aload_n hx hb dL_law_301 rfl (lv_at hl 4 rfl) ?_
  refine rd_i (va_runV (As := []) (rest := []) ⟨hx, hb, hml, hown, hts⟩ (M_X6_thrown l D cI n d d2 σ τ2 (put ω 20 (fun _ => 1)) ) (cwV 0 hts gL_law_X6_thrown rfl rfl rfl (by decide +kernel) ⟨Nat.le_of_ble_eq_true rfl, Nat.le_of_ble_eq_true rfl⟩) (rdV0 hK hP.right [0] rfl (ci := 6) (q0 := 0) rfl rfl) rfl rfl hl.1 rfl (lv_room (Nat.le_of_ble_eq_true rfl)) dL_law_302 ⟨(by show cells + _ ≤ room_1.cells; omega), (by show slots + _ ≤ room_1.slots; omega)⟩) ?_
  refine W.eq (g2 := F0 m 305 ls [.int 1]) rfl ?_
  refine lv_iload hx hb dL_law_305 (lv_at hl 1 rfl) ?_
  refine lv_icmp_eq (tgt := 312) hx hb dL_law_307 (by decide) (fun c_1 => ?_) (fun c_1 => ?_)
  · skip
    refine lv_iload hx hb dL_law_312 (lv_at hl 1 rfl) ?_
    refine lv_if_ne (tgt := 329) hx hb dL_law_314 (by decide) (fun c_2 => ?_) (fun c_2 => ?_)
    · skip
      refine lv_goto (tgt := 1220) hx hb dL_law_329 (by decide) ?_
      have hP : va_P D vwCl (wAll b a a2 n d d2 cI cJ o σ σ2 (put ω 20 (fun _ => 1)) τ2 g) H := hP
      have hD : va_D A (wAll b a a2 n d d2 cI cJ o σ σ2 (put ω 20 (fun _ => 1)) τ2 g) := hD
      refine W.widen (k := cells + 23) (n := slots + 200) (by omega) (by omega) ?_
      exact kk σ σ2 (put ω 20 (fun _ => 1)) τ2 g h nc nw (iv_w (fun _ => 1) hI) (by omega) H locs hP hD hS ls (lv_sub hl [2, 3, 4, 5, 6] rfl)
    · skip
      exact absurd c_2 (by decide)
  · skip
    exact absurd rfl c_1
set_option maxHeartbeats 4000000 in
set_option maxRecDepth 100000 in
theorem LW_build_ok {p : Program} {l : Launch} {e : Env} {s : State} {m : MethodId} {args : Array Value} {below : List Frame} {meth : Method} {c : Code} {A : Nat → Prop} {D : va_G} {cI cJ : ClassId} {bs L : Nat} {xs : Nat → Int32} (C : lwC p l s m args c A D cI cJ bs L xs) (b a a2 n d d2 : Nat → Nat) (o i h nc nw : Nat) (σ σ2 ω τ2 : St) (g : Nat → Int64) (sn : Nat) (hI : lwI σ ω h nc nw) (hi : 6 * i + 6 ≤ L) (hbd : h + 1000 < 2 ^ 29) (hp1 : xs (6 * i + 1) = nI sn) (hs : sn < 12) (h1 : (0 ≤ nI sn ∧ nI sn ≤ 11)) {H : Heap} {locs : List Loc} {cells slots : Nat} {Q : State → Prop} (hRc : cells + 100 ≤ room_1.cells) (hRs : slots + 1000 ≤ room_1.slots) (hP : va_P D vwCl (wAll b a a2 n d d2 cI cJ o σ σ2 ω τ2 g) H) (hD : va_D A (wAll b a a2 n d d2 cI cJ o σ σ2 ω τ2 g)) (hS : va_S A s.heap H locs) (ls : Array Slot) (hl : lv_has ls 9 [(0, .ref bs), (1, .ref (b 0)), (2, .ref (n 0)), (3, .ref o), (4, .int (nI (6 * i)))]) (kk : lwK p l e s m args below meth c A D cI cJ b a a2 n d d2 o bs i h cells slots Q) : W p l e room_1 s m args below meth c H locs cells slots Q (F0 m 276 ls []) := by
  obtain ⟨hx, hb, hml, hown, hts, hK, hEX, hX, hbl, hbA, hst, hA, hL⟩ := id C
  obtain ⟨hok, hnw, hw12⟩ := id hI
  have hnc := hok.1.2.1
  have hn8 := hok.1.2.2.1
  refine lv_aload_n hx hb dL_law_276 rfl (lv_at hl 1 rfl) ?_
  refine lv_aload_n hx hb dL_law_277 rfl (lv_at hl 0 rfl) ?_
  refine lv_iload hx hb dL_law_278 (lv_at hl 4 rfl) ?_
  refine lv_iconst (v := 1) hx hb dL_law_280 (by decide) ?_
  refine lv_iadd hx hb dL_law_281 ?_
  rw [show nI (6 * i) + 1 = nI (6 * i + 1) from nI_add (6 * i) 1]
  refine va_sld hx hb hX hbl hbA hS (vp_in_nI (show 6 * i + 1 < L by omega) (by omega)) dL_law_282 ?_
  rw [nI_clamp (n := 6 * i + 1) (by omega), hp1]
  refine lv_aload_n hx hb dL_law_283 rfl (lv_at hl 3 rfl) ?_
  refine sl_i (vx_runSW (As := [.ref (b 0), .int (nI sn), .ref o]) (rest := []) ⟨hx, hb, hml, hown, hts⟩ (M_L_build_ok l D cI b a a2 σ σ2 ω sn o g cJ _ hs h1) (vx_cwSW 3 hts gL_law_L_build rfl rfl rfl (by decide +kernel) ⟨Nat.le_of_ble_eq_true rfl, Nat.le_of_ble_eq_true rfl⟩) (wrS0 hK hP.left hD.left [0, 1] rfl) rfl rfl hl.1 rfl (lv_room (Nat.le_of_ble_eq_true rfl)) dL_law_284 ⟨(by show cells + _ ≤ room_1.cells; omega), (by show slots + _ ≤ room_1.slots; omega)⟩) hP hD hS hA (fun H locs hP hD hS => ?_)
  have hP : va_P D vwCl (((wTopE b a a2 ++ (wWag b cI ω ++ (wRivE a cI (σ 0 0) (σ 16 0) (σ 1) (upd ((σ 2)) sn 1) (σ 3) (σ 4) (σ 17 0) (σ 5) (σ 6) (σ 7) (σ 8) (σ 9) (σ 10) (σ 11) (σ 12) (σ 13) ++ wRiv a2 cI σ2))) ++ [(o, .inl (cJ, 1, .inr (.inl (vp_updL g 0 (sumF (upd ((σ 2)) sn 1) 12).toInt64))))]) ++ (wMod n d d2 cI σ τ2 ω)) H := hP
  have hD : va_D A (((wTopE b a a2 ++ (wWag b cI ω ++ (wRivE a cI (σ 0 0) (σ 16 0) (σ 1) (upd ((σ 2)) sn 1) (σ 3) (σ 4) (σ 17 0) (σ 5) (σ 6) (σ 7) (σ 8) (σ 9) (σ 10) (σ 11) (σ 12) (σ 13) ++ wRiv a2 cI σ2))) ++ [(o, .inl (cJ, 1, .inr (.inl (vp_updL g 0 (sumF (upd ((σ 2)) sn 1) 12).toInt64))))]) ++ (wMod n d d2 cI σ τ2 ω)) := hD
  refine lv_istore (lv' := [(5, .int 0), (0, .ref bs), (1, .ref (b 0)), (2, .ref (n 0)), (3, .ref o), (4, .int (nI (6 * i)))]) hx hb dL_law_287 hl (by decide) rfl (fun ls hl => ?_)
  refine lv_aload_n hx hb dL_law_289 rfl (lv_at hl 3 rfl) ?_
  refine lv_aload_n hx hb dL_law_290 rfl (lv_at hl 1 rfl) ?_
  refine lv_iload hx hb dL_law_291 (lv_at hl 5 rfl) ?_
  refine lv_iconst (v := 1) hx hb dL_law_293 (by decide) ?_
  refine lv_iadd hx hb dL_law_294 ?_
  rw [show nI (6 * i) + 1 = nI (6 * i + 1) from nI_add (6 * i) 1]
  refine va_sld hx hb hX hbl hbA hS (vp_in_nI (show 6 * i + 1 < L by omega) (by omega)) dL_law_295 ?_
  rw [nI_clamp (n := 6 * i + 1) (by omega), hp1]
  refine sr_i (va_runV (As := [.int (nI sn)]) (rest := []) ⟨hx, hb, hml, hown, hts⟩ (M_X6_build_ok l D cI n d d2 σ τ2 ω sn _ hs h1) (cwV 1 hts gL_law_X6_build rfl rfl rfl (by decide +kernel) ⟨Nat.le_of_ble_eq_true rfl, Nat.le_of_ble_eq_true rfl⟩) (wrV0 hK hP.right hD.right [0] rfl (ci := 6) (q0 := 0) rfl rfl) rfl rfl hl.1 rfl (lv_room (Nat.le_of_ble_eq_true rfl)) dL_law_296 ⟨(by show cells + _ ≤ room_1.cells; omega), (by show slots + _ ≤ room_1.slots; omega)⟩) hP hD hS hA (fun H locs hP hD hS => ?_)
  have hP : va_P D vwCl (((wTopE b a a2 ++ (wWag b cI ω ++ (wRivE a cI (σ 0 0) (σ 16 0) (σ 1) (upd ((σ 2)) sn 1) (σ 3) (σ 4) (σ 17 0) (σ 5) (σ 6) (σ 7) (σ 8) (σ 9) (σ 10) (σ 11) (σ 12) (σ 13) ++ wRiv a2 cI σ2))) ++ [(o, .inl (cJ, 1, .inr (.inl (vp_updL g 0 (sumF (upd ((σ 2)) sn 1) 12).toInt64))))]) ++ (wOutE n d d2 cI 0 (ω 19 0) (ω 1) (upd ((ω 2)) sn 1) (ω 14) (ω 15) ++ (wSta d (n 0) cI σ ++ wSta d2 (n 0) cI τ2))) H := hP
  have hD : va_D A (((wTopE b a a2 ++ (wWag b cI ω ++ (wRivE a cI (σ 0 0) (σ 16 0) (σ 1) (upd ((σ 2)) sn 1) (σ 3) (σ 4) (σ 17 0) (σ 5) (σ 6) (σ 7) (σ 8) (σ 9) (σ 10) (σ 11) (σ 12) (σ 13) ++ wRiv a2 cI σ2))) ++ [(o, .inl (cJ, 1, .inr (.inl (vp_updL g 0 (sumF (upd ((σ 2)) sn 1) 12).toInt64))))]) ++ (wOutE n d d2 cI 0 (ω 19 0) (ω 1) (upd ((ω 2)) sn 1) (ω 14) (ω 15) ++ (wSta d (n 0) cI σ ++ wSta d2 (n 0) cI τ2))) := hD
  rw [show sumF (upd (ω 2) sn 1) 12 = sumF (upd (σ 2) sn 1) 12 from by rw [hok.2.2.2.1]]
  refine lv_istore (lv' := [(6, .int (sumF (upd (σ 2) sn 1) 12)), (5, .int 0), (0, .ref bs), (1, .ref (b 0)), (2, .ref (n 0)), (3, .ref o), (4, .int (nI (6 * i)))]) hx hb dL_law_299 hl (by decide) rfl (fun ls hl => ?_)
  refine lv_aload_n hx hb dL_law_301 rfl (lv_at hl 4 rfl) ?_
  refine rd_i (va_runV (As := []) (rest := []) ⟨hx, hb, hml, hown, hts⟩ (M_X6_thrown l D cI n d d2 σ τ2 (put (put ω 2 (upd ((ω 2)) sn 1)) 20 (fun _ => 0)) ) (cwV 0 hts gL_law_X6_thrown rfl rfl rfl (by decide +kernel) ⟨Nat.le_of_ble_eq_true rfl, Nat.le_of_ble_eq_true rfl⟩) (rdV0 hK hP.right [0] rfl (ci := 6) (q0 := 0) rfl rfl) rfl rfl hl.1 rfl (lv_room (Nat.le_of_ble_eq_true rfl)) dL_law_302 ⟨(by show cells + _ ≤ room_1.cells; omega), (by show slots + _ ≤ room_1.slots; omega)⟩) ?_
  refine W.eq (g2 := F0 m 305 ls [.int 0]) rfl ?_
  refine lv_iload hx hb dL_law_305 (lv_at hl 1 rfl) ?_
  refine lv_icmp_eq (tgt := 312) hx hb dL_law_307 (by decide) (fun c_1 => ?_) (fun c_1 => ?_)
  · skip
    refine lv_iload hx hb dL_law_312 (lv_at hl 1 rfl) ?_
    refine lv_if_ne (tgt := 329) hx hb dL_law_314 (by decide) (fun c_2 => ?_) (fun c_2 => ?_)
    · skip
      exact absurd c_2 (by decide)
    · skip
      refine lv_aload_n hx hb dL_law_317 rfl (lv_at hl 5 rfl) ?_
      refine lv_iconst (v := 0) hx hb dL_law_318 (by decide) ?_
      refine va_lald hx hb hK.1 hP 36 1 rfl rfl (by unfold vp_in; decide) dL_law_319 ?_
      refine W.eq (g2 := F0 m 320 ls [.long ((sumF (upd ((σ 2)) sn 1) 12).toInt64)]) rfl ?_
      refine lv_iload hx hb dL_law_320 (lv_at hl 0 rfl) ?_
      refine lv_i2l hx hb dL_law_322 rfl ?_
      skip
      refine my_lcmpE hx hb dL_law_323 ?_
      refine lv_if_eq (tgt := 329) hx hb dL_law_324 (by decide) (fun c_3 => ?_) (fun c_3 => ?_)
      · skip
        refine lv_goto (tgt := 1220) hx hb dL_law_329 (by decide) ?_
        have hP : va_P D vwCl (wAll b a a2 n d d2 cI cJ o (put σ 2 (upd ((σ 2)) sn 1)) σ2 (put (put ω 2 (upd ((ω 2)) sn 1)) 20 (fun _ => 0)) τ2 (vp_updL g 0 (sumF (upd ((σ 2)) sn 1) 12).toInt64)) H := hP
        have hD : va_D A (wAll b a a2 n d d2 cI cJ o (put σ 2 (upd ((σ 2)) sn 1)) σ2 (put (put ω 2 (upd ((ω 2)) sn 1)) 20 (fun _ => 0)) τ2 (vp_updL g 0 (sumF (upd ((σ 2)) sn 1) 12).toInt64)) := hD
        refine W.widen (k := cells + 23) (n := slots + 200) (by omega) (by omega) ?_
        exact kk (put σ 2 (upd ((σ 2)) sn 1)) σ2 (put (put ω 2 (upd ((ω 2)) sn 1)) 20 (fun _ => 0)) τ2 (vp_updL g 0 (sumF (upd ((σ 2)) sn 1) 12).toInt64) h nc nw (iv_build (fun _ => 0) hI) (by omega) H locs hP hD hS ls (lv_sub hl [2, 3, 4, 5, 6] rfl)
      · skip
        exact absurd c_3 (by decide)
  · skip
    exact absurd rfl c_1
set_option maxHeartbeats 4000000 in
set_option maxRecDepth 100000 in
theorem LW_place_e1 {p : Program} {l : Launch} {e : Env} {s : State} {m : MethodId} {args : Array Value} {below : List Frame} {meth : Method} {c : Code} {A : Nat → Prop} {D : va_G} {cI cJ : ClassId} {bs L : Nat} {xs : Nat → Int32} (C : lwC p l s m args c A D cI cJ bs L xs) (b a a2 n d d2 : Nat → Nat) (o i h nc nw : Nat) (σ σ2 ω τ2 : St) (g : Nat → Int64) (p0 : Int32) (p1 : Int32) (p2 : Int32) (hI : lwI σ ω h nc nw) (hi : 6 * i + 6 ≤ L) (hbd : h + 1000 < 2 ^ 29) (hp1 : xs (6 * i + 1) = p0) (hp2 : xs (6 * i + 2) = p1) (hp3 : xs (6 * i + 3) = p2) (h1 : ¬ (((0 ≤ p0 ∧ p0 ≤ 11) ∧ (0 ≤ p1 ∧ p1 ≤ 2)) ∧ (0 ≤ p2 ∧ p2 ≤ 3))) {H : Heap} {locs : List Loc} {cells slots : Nat} {Q : State → Prop} (hRc : cells + 100 ≤ room_1.cells) (hRs : slots + 1000 ≤ room_1.slots) (hP : va_P D vwCl (wAll b a a2 n d d2 cI cJ o σ σ2 ω τ2 g) H) (hD : va_D A (wAll b a a2 n d d2 cI cJ o σ σ2 ω τ2 g)) (hS : va_S A s.heap H locs) (ls : Array Slot) (hl : lv_has ls 9 [(0, .ref bs), (1, .ref (b 0)), (2, .ref (n 0)), (3, .ref o), (4, .int (nI (6 * i)))]) (kk : lwK p l e s m args below meth c A D cI cJ b a a2 n d d2 o bs i h cells slots Q) : W p l e room_1 s m args below meth c H locs cells slots Q (F0 m 332 ls []) := by
  obtain ⟨hx, hb, hml, hown, hts, hK, hEX, hX, hbl, hbA, hst, hA, hL⟩ := id C
  obtain ⟨hok, hnw, hw12⟩ := id hI
  have hnc := hok.1.2.1
  have hn8 := hok.1.2.2.1
  refine lv_aload_n hx hb dL_law_332 rfl (lv_at hl 1 rfl) ?_
  refine lv_aload_n hx hb dL_law_333 rfl (lv_at hl 0 rfl) ?_
  refine lv_iload hx hb dL_law_334 (lv_at hl 4 rfl) ?_
  refine lv_iconst (v := 1) hx hb dL_law_336 (by decide) ?_
  refine lv_iadd hx hb dL_law_337 ?_
  rw [show nI (6 * i) + 1 = nI (6 * i + 1) from nI_add (6 * i) 1]
  refine va_sld hx hb hX hbl hbA hS (vp_in_nI (show 6 * i + 1 < L by omega) (by omega)) dL_law_338 ?_
  rw [nI_clamp (n := 6 * i + 1) (by omega), hp1]
  refine lv_aload_n hx hb dL_law_339 rfl (lv_at hl 0 rfl) ?_
  refine lv_iload hx hb dL_law_340 (lv_at hl 4 rfl) ?_
  refine lv_iconst (v := 2) hx hb dL_law_342 (by decide) ?_
  refine lv_iadd hx hb dL_law_343 ?_
  rw [show nI (6 * i) + 2 = nI (6 * i + 2) from nI_add (6 * i) 2]
  refine va_sld hx hb hX hbl hbA hS (vp_in_nI (show 6 * i + 2 < L by omega) (by omega)) dL_law_344 ?_
  rw [nI_clamp (n := 6 * i + 2) (by omega), hp2]
  refine lv_aload_n hx hb dL_law_345 rfl (lv_at hl 0 rfl) ?_
  refine lv_iload hx hb dL_law_346 (lv_at hl 4 rfl) ?_
  refine lv_iconst (v := 3) hx hb dL_law_348 (by decide) ?_
  refine lv_iadd hx hb dL_law_349 ?_
  rw [show nI (6 * i) + 3 = nI (6 * i + 3) from nI_add (6 * i) 3]
  refine va_sld hx hb hX hbl hbA hS (vp_in_nI (show 6 * i + 3 < L by omega) (by omega)) dL_law_350 ?_
  rw [nI_clamp (n := 6 * i + 3) (by omega), hp3]
  refine lv_aload_n hx hb dL_law_351 rfl (lv_at hl 3 rfl) ?_
  refine sl_i (vx_runSW (As := [.ref (b 0), .int p0, .int p1, .int p2, .ref o]) (rest := []) ⟨hx, hb, hml, hown, hts⟩ (M_L_place_e1 l D cI b a a2 σ σ2 ω p0 p1 p2 o g cJ _ A hst h1) (vx_cwSW 5 hts gL_law_L_place rfl rfl rfl (by decide +kernel) ⟨Nat.le_of_ble_eq_true rfl, Nat.le_of_ble_eq_true rfl⟩) (hxS0 hK hP.left hD.left hS hEX [0, 1] rfl) rfl rfl hl.1 rfl (lv_room (Nat.le_of_ble_eq_true rfl)) dL_law_352 ⟨(by show cells + _ ≤ room_1.cells; omega), (by show slots + _ ≤ room_1.slots; omega)⟩) hP hD hS hA (fun H locs hP hD hS => ?_)
  have hP : va_P D vwCl (((wLan b a a2 cI σ σ2 ω) ++ [(o, .inl (cJ, 1, .inr (.inl g)))]) ++ (wMod n d d2 cI σ τ2 ω)) H := hP
  have hD : va_D A (((wLan b a a2 cI σ σ2 ω) ++ [(o, .inl (cJ, 1, .inr (.inl g)))]) ++ (wMod n d d2 cI σ τ2 ω)) := hD
  refine lv_istore (lv' := [(5, .int 1), (0, .ref bs), (1, .ref (b 0)), (2, .ref (n 0)), (3, .ref o), (4, .int (nI (6 * i)))]) hx hb dL_law_355 hl (by decide) rfl (fun ls hl => ?_)
  refine lv_aload_n hx hb dL_law_357 rfl (lv_at hl 3 rfl) ?_
  refine lv_aload_n hx hb dL_law_358 rfl (lv_at hl 1 rfl) ?_
  refine lv_iload hx hb dL_law_359 (lv_at hl 5 rfl) ?_
  refine lv_iconst (v := 1) hx hb dL_law_361 (by decide) ?_
  refine lv_iadd hx hb dL_law_362 ?_
  rw [show nI (6 * i) + 1 = nI (6 * i + 1) from nI_add (6 * i) 1]
  refine va_sld hx hb hX hbl hbA hS (vp_in_nI (show 6 * i + 1 < L by omega) (by omega)) dL_law_363 ?_
  rw [nI_clamp (n := 6 * i + 1) (by omega), hp1]
  refine lv_aload_n hx hb dL_law_364 rfl (lv_at hl 1 rfl) ?_
  refine lv_iload hx hb dL_law_365 (lv_at hl 5 rfl) ?_
  refine lv_iconst (v := 2) hx hb dL_law_367 (by decide) ?_
  refine lv_iadd hx hb dL_law_368 ?_
  rw [show nI (6 * i) + 2 = nI (6 * i + 2) from nI_add (6 * i) 2]
  refine va_sld hx hb hX hbl hbA hS (vp_in_nI (show 6 * i + 2 < L by omega) (by omega)) dL_law_369 ?_
  rw [nI_clamp (n := 6 * i + 2) (by omega), hp2]
  refine lv_aload_n hx hb dL_law_370 rfl (lv_at hl 1 rfl) ?_
  refine lv_iload hx hb dL_law_371 (lv_at hl 5 rfl) ?_
  refine lv_iconst (v := 3) hx hb dL_law_373 (by decide) ?_
  refine lv_iadd hx hb dL_law_374 ?_
  rw [show nI (6 * i) + 3 = nI (6 * i + 3) from nI_add (6 * i) 3]
  refine va_sld hx hb hX hbl hbA hS (vp_in_nI (show 6 * i + 3 < L by omega) (by omega)) dL_law_375 ?_
  rw [nI_clamp (n := 6 * i + 3) (by omega), hp3]
  refine sr_i (va_runV (As := [.int p0, .int p1, .int p2]) (rest := []) ⟨hx, hb, hml, hown, hts⟩ (M_X6_place_e1 l D cI n d d2 σ τ2 ω p0 p1 p2 _ h1) (cwV 3 hts gL_law_X6_place rfl rfl rfl (by decide +kernel) ⟨Nat.le_of_ble_eq_true rfl, Nat.le_of_ble_eq_true rfl⟩) (wrV0 hK hP.right hD.right [0] rfl (ci := 6) (q0 := 0) rfl rfl) rfl rfl hl.1 rfl (lv_room (Nat.le_of_ble_eq_true rfl)) dL_law_376 ⟨(by show cells + _ ≤ room_1.cells; omega), (by show slots + _ ≤ room_1.slots; omega)⟩) hP hD hS hA (fun H locs hP hD hS => ?_)
  have hP : va_P D vwCl (((wLan b a a2 cI σ σ2 ω) ++ [(o, .inl (cJ, 1, .inr (.inl g)))]) ++ (wOutE n d d2 cI 1 (ω 19 0) (ω 1) (ω 2) (ω 14) (ω 15) ++ (wSta d (n 0) cI σ ++ wSta d2 (n 0) cI τ2))) H := hP
  have hD : va_D A (((wLan b a a2 cI σ σ2 ω) ++ [(o, .inl (cJ, 1, .inr (.inl g)))]) ++ (wOutE n d d2 cI 1 (ω 19 0) (ω 1) (ω 2) (ω 14) (ω 15) ++ (wSta d (n 0) cI σ ++ wSta d2 (n 0) cI τ2))) := hD
  refine lv_istore (lv' := [(6, .int 0), (5, .int 1), (0, .ref bs), (1, .ref (b 0)), (2, .ref (n 0)), (3, .ref o), (4, .int (nI (6 * i)))]) hx hb dL_law_379 hl (by decide) rfl (fun ls hl => ?_)
  refine lv_aload_n hx hb dL_law_381 rfl (lv_at hl 4 rfl) ?_
  refine rd_i (va_runV (As := []) (rest := []) ⟨hx, hb, hml, hown, hts⟩ (M_X6_thrown l D cI n d d2 σ τ2 (put ω 20 (fun _ => 1)) ) (cwV 0 hts gL_law_X6_thrown rfl rfl rfl (by decide +kernel) ⟨Nat.le_of_ble_eq_true rfl, Nat.le_of_ble_eq_true rfl⟩) (rdV0 hK hP.right [0] rfl (ci := 6) (q0 := 0) rfl rfl) rfl rfl hl.1 rfl (lv_room (Nat.le_of_ble_eq_true rfl)) dL_law_382 ⟨(by show cells + _ ≤ room_1.cells; omega), (by show slots + _ ≤ room_1.slots; omega)⟩) ?_
  refine W.eq (g2 := F0 m 385 ls [.int 1]) rfl ?_
  refine lv_iload hx hb dL_law_385 (lv_at hl 1 rfl) ?_
  refine lv_icmp_eq (tgt := 392) hx hb dL_law_387 (by decide) (fun c_1 => ?_) (fun c_1 => ?_)
  · skip
    refine lv_iload hx hb dL_law_392 (lv_at hl 1 rfl) ?_
    refine lv_if_ne (tgt := 409) hx hb dL_law_394 (by decide) (fun c_2 => ?_) (fun c_2 => ?_)
    · skip
      refine lv_goto (tgt := 1220) hx hb dL_law_409 (by decide) ?_
      have hP : va_P D vwCl (wAll b a a2 n d d2 cI cJ o σ σ2 (put ω 20 (fun _ => 1)) τ2 g) H := hP
      have hD : va_D A (wAll b a a2 n d d2 cI cJ o σ σ2 (put ω 20 (fun _ => 1)) τ2 g) := hD
      refine W.widen (k := cells + 23) (n := slots + 200) (by omega) (by omega) ?_
      exact kk σ σ2 (put ω 20 (fun _ => 1)) τ2 g h nc nw (iv_w (fun _ => 1) hI) (by omega) H locs hP hD hS ls (lv_sub hl [2, 3, 4, 5, 6] rfl)
    · skip
      exact absurd c_2 (by decide)
  · skip
    exact absurd rfl c_1
set_option maxHeartbeats 4000000 in
set_option maxRecDepth 100000 in
theorem LW_place_ok {p : Program} {l : Launch} {e : Env} {s : State} {m : MethodId} {args : Array Value} {below : List Frame} {meth : Method} {c : Code} {A : Nat → Prop} {D : va_G} {cI cJ : ClassId} {bs L : Nat} {xs : Nat → Int32} (C : lwC p l s m args c A D cI cJ bs L xs) (b a a2 n d d2 : Nat → Nat) (o i h nc nw : Nat) (σ σ2 ω τ2 : St) (g : Nat → Int64) (sn : Nat) (ln : Nat) (w : Nat) (hI : lwI σ ω h nc nw) (hi : 6 * i + 6 ≤ L) (hbd : h + 1000 < 2 ^ 29) (hp1 : xs (6 * i + 1) = nI sn) (hp2 : xs (6 * i + 2) = nI ln) (hp3 : xs (6 * i + 3) = nI w) (hs : sn < 12) (hl9 : ln < 3) (h1 : ((0 ≤ nI sn ∧ nI sn ≤ 11) ∧ (0 ≤ nI ln ∧ nI ln ≤ 2))) (h2 : (0 ≤ nI w ∧ nI w ≤ 3)) (hw : w < 4) {H : Heap} {locs : List Loc} {cells slots : Nat} {Q : State → Prop} (hRc : cells + 100 ≤ room_1.cells) (hRs : slots + 1000 ≤ room_1.slots) (hP : va_P D vwCl (wAll b a a2 n d d2 cI cJ o σ σ2 ω τ2 g) H) (hD : va_D A (wAll b a a2 n d d2 cI cJ o σ σ2 ω τ2 g)) (hS : va_S A s.heap H locs) (ls : Array Slot) (hl : lv_has ls 9 [(0, .ref bs), (1, .ref (b 0)), (2, .ref (n 0)), (3, .ref o), (4, .int (nI (6 * i)))]) (kk : lwK p l e s m args below meth c A D cI cJ b a a2 n d d2 o bs i h cells slots Q) : W p l e room_1 s m args below meth c H locs cells slots Q (F0 m 332 ls []) := by
  obtain ⟨hx, hb, hml, hown, hts, hK, hEX, hX, hbl, hbA, hst, hA, hL⟩ := id C
  obtain ⟨hok, hnw, hw12⟩ := id hI
  have hnc := hok.1.2.1
  have hn8 := hok.1.2.2.1
  refine lv_aload_n hx hb dL_law_332 rfl (lv_at hl 1 rfl) ?_
  refine lv_aload_n hx hb dL_law_333 rfl (lv_at hl 0 rfl) ?_
  refine lv_iload hx hb dL_law_334 (lv_at hl 4 rfl) ?_
  refine lv_iconst (v := 1) hx hb dL_law_336 (by decide) ?_
  refine lv_iadd hx hb dL_law_337 ?_
  rw [show nI (6 * i) + 1 = nI (6 * i + 1) from nI_add (6 * i) 1]
  refine va_sld hx hb hX hbl hbA hS (vp_in_nI (show 6 * i + 1 < L by omega) (by omega)) dL_law_338 ?_
  rw [nI_clamp (n := 6 * i + 1) (by omega), hp1]
  refine lv_aload_n hx hb dL_law_339 rfl (lv_at hl 0 rfl) ?_
  refine lv_iload hx hb dL_law_340 (lv_at hl 4 rfl) ?_
  refine lv_iconst (v := 2) hx hb dL_law_342 (by decide) ?_
  refine lv_iadd hx hb dL_law_343 ?_
  rw [show nI (6 * i) + 2 = nI (6 * i + 2) from nI_add (6 * i) 2]
  refine va_sld hx hb hX hbl hbA hS (vp_in_nI (show 6 * i + 2 < L by omega) (by omega)) dL_law_344 ?_
  rw [nI_clamp (n := 6 * i + 2) (by omega), hp2]
  refine lv_aload_n hx hb dL_law_345 rfl (lv_at hl 0 rfl) ?_
  refine lv_iload hx hb dL_law_346 (lv_at hl 4 rfl) ?_
  refine lv_iconst (v := 3) hx hb dL_law_348 (by decide) ?_
  refine lv_iadd hx hb dL_law_349 ?_
  rw [show nI (6 * i) + 3 = nI (6 * i + 3) from nI_add (6 * i) 3]
  refine va_sld hx hb hX hbl hbA hS (vp_in_nI (show 6 * i + 3 < L by omega) (by omega)) dL_law_350 ?_
  rw [nI_clamp (n := 6 * i + 3) (by omega), hp3]
  refine lv_aload_n hx hb dL_law_351 rfl (lv_at hl 3 rfl) ?_
  refine sl_i (vx_runSW (As := [.ref (b 0), .int (nI sn), .int (nI ln), .int (nI w), .ref o]) (rest := []) ⟨hx, hb, hml, hown, hts⟩ (M_L_place_ok l D cI b a a2 σ σ2 ω sn ln w nc o g cJ _ hs hl9 h1 h2 hw hnc hn8) (vx_cwSW 5 hts gL_law_L_place rfl rfl rfl (by decide +kernel) ⟨Nat.le_of_ble_eq_true rfl, Nat.le_of_ble_eq_true rfl⟩) (wrS0 hK hP.left hD.left [0, 1] rfl) rfl rfl hl.1 rfl (lv_room (Nat.le_of_ble_eq_true rfl)) dL_law_352 ⟨(by show cells + _ ≤ room_1.cells; omega), (by show slots + _ ≤ room_1.slots; omega)⟩) hP hD hS hA (fun H locs hP hD hS => ?_)
  have hP : va_P D vwCl (((wLan b a a2 cI σ σ2 ω) ++ [(o, .inl (cJ, 1, .inr (.inl (vp_updL g 0 (ptL σ sn ln nc w).toInt64))))]) ++ (wMod n d d2 cI σ τ2 ω)) H := hP
  have hD : va_D A (((wLan b a a2 cI σ σ2 ω) ++ [(o, .inl (cJ, 1, .inr (.inl (vp_updL g 0 (ptL σ sn ln nc w).toInt64))))]) ++ (wMod n d d2 cI σ τ2 ω)) := hD
  refine lv_istore (lv' := [(5, .int 0), (0, .ref bs), (1, .ref (b 0)), (2, .ref (n 0)), (3, .ref o), (4, .int (nI (6 * i)))]) hx hb dL_law_355 hl (by decide) rfl (fun ls hl => ?_)
  refine lv_aload_n hx hb dL_law_357 rfl (lv_at hl 3 rfl) ?_
  refine lv_aload_n hx hb dL_law_358 rfl (lv_at hl 1 rfl) ?_
  refine lv_iload hx hb dL_law_359 (lv_at hl 5 rfl) ?_
  refine lv_iconst (v := 1) hx hb dL_law_361 (by decide) ?_
  refine lv_iadd hx hb dL_law_362 ?_
  rw [show nI (6 * i) + 1 = nI (6 * i + 1) from nI_add (6 * i) 1]
  refine va_sld hx hb hX hbl hbA hS (vp_in_nI (show 6 * i + 1 < L by omega) (by omega)) dL_law_363 ?_
  rw [nI_clamp (n := 6 * i + 1) (by omega), hp1]
  refine lv_aload_n hx hb dL_law_364 rfl (lv_at hl 1 rfl) ?_
  refine lv_iload hx hb dL_law_365 (lv_at hl 5 rfl) ?_
  refine lv_iconst (v := 2) hx hb dL_law_367 (by decide) ?_
  refine lv_iadd hx hb dL_law_368 ?_
  rw [show nI (6 * i) + 2 = nI (6 * i + 2) from nI_add (6 * i) 2]
  refine va_sld hx hb hX hbl hbA hS (vp_in_nI (show 6 * i + 2 < L by omega) (by omega)) dL_law_369 ?_
  rw [nI_clamp (n := 6 * i + 2) (by omega), hp2]
  refine lv_aload_n hx hb dL_law_370 rfl (lv_at hl 1 rfl) ?_
  refine lv_iload hx hb dL_law_371 (lv_at hl 5 rfl) ?_
  refine lv_iconst (v := 3) hx hb dL_law_373 (by decide) ?_
  refine lv_iadd hx hb dL_law_374 ?_
  rw [show nI (6 * i) + 3 = nI (6 * i + 3) from nI_add (6 * i) 3]
  refine va_sld hx hb hX hbl hbA hS (vp_in_nI (show 6 * i + 3 < L by omega) (by omega)) dL_law_375 ?_
  rw [nI_clamp (n := 6 * i + 3) (by omega), hp3]
  refine sr_i (va_runV (As := [.int (nI sn), .int (nI ln), .int (nI w)]) (rest := []) ⟨hx, hb, hml, hown, hts⟩ (M_X6_place_ok l D cI n d d2 σ τ2 ω sn ln w nc _ hs hl9 h1 h2 hw hnc hn8 hok.1.2.2.2) (cwV 3 hts gL_law_X6_place rfl rfl rfl (by decide +kernel) ⟨Nat.le_of_ble_eq_true rfl, Nat.le_of_ble_eq_true rfl⟩) (wrV0 hK hP.right hD.right [0] rfl (ci := 6) (q0 := 0) rfl rfl) rfl rfl hl.1 rfl (lv_room (Nat.le_of_ble_eq_true rfl)) dL_law_376 ⟨(by show cells + _ ≤ room_1.cells; omega), (by show slots + _ ≤ room_1.slots; omega)⟩) hP hD hS hA (fun H locs hP hD hS => ?_)
  have hP : va_P D vwCl (((wLan b a a2 cI σ σ2 ω) ++ [(o, .inl (cJ, 1, .inr (.inl (vp_updL g 0 (ptL σ sn ln nc w).toInt64))))]) ++ (wOutE n d d2 cI 0 (ω 19 0) (ω 1) (ω 2) (ω 14) (ω 15) ++ (wSta d (n 0) cI σ ++ wSta d2 (n 0) cI τ2))) H := hP
  have hD : va_D A (((wLan b a a2 cI σ σ2 ω) ++ [(o, .inl (cJ, 1, .inr (.inl (vp_updL g 0 (ptL σ sn ln nc w).toInt64))))]) ++ (wOutE n d d2 cI 0 (ω 19 0) (ω 1) (ω 2) (ω 14) (ω 15) ++ (wSta d (n 0) cI σ ++ wSta d2 (n 0) cI τ2))) := hD
  rw [show ptF σ sn ln nc w = ptL σ sn ln nc w from rfl]
  refine lv_istore (lv' := [(6, .int (ptL σ sn ln nc w)), (5, .int 0), (0, .ref bs), (1, .ref (b 0)), (2, .ref (n 0)), (3, .ref o), (4, .int (nI (6 * i)))]) hx hb dL_law_379 hl (by decide) rfl (fun ls hl => ?_)
  refine lv_aload_n hx hb dL_law_381 rfl (lv_at hl 4 rfl) ?_
  refine rd_i (va_runV (As := []) (rest := []) ⟨hx, hb, hml, hown, hts⟩ (M_X6_thrown l D cI n d d2 σ τ2 (put ω 20 (fun _ => 0)) ) (cwV 0 hts gL_law_X6_thrown rfl rfl rfl (by decide +kernel) ⟨Nat.le_of_ble_eq_true rfl, Nat.le_of_ble_eq_true rfl⟩) (rdV0 hK hP.right [0] rfl (ci := 6) (q0 := 0) rfl rfl) rfl rfl hl.1 rfl (lv_room (Nat.le_of_ble_eq_true rfl)) dL_law_382 ⟨(by show cells + _ ≤ room_1.cells; omega), (by show slots + _ ≤ room_1.slots; omega)⟩) ?_
  refine W.eq (g2 := F0 m 385 ls [.int 0]) rfl ?_
  refine lv_iload hx hb dL_law_385 (lv_at hl 1 rfl) ?_
  refine lv_icmp_eq (tgt := 392) hx hb dL_law_387 (by decide) (fun c_1 => ?_) (fun c_1 => ?_)
  · skip
    refine lv_iload hx hb dL_law_392 (lv_at hl 1 rfl) ?_
    refine lv_if_ne (tgt := 409) hx hb dL_law_394 (by decide) (fun c_2 => ?_) (fun c_2 => ?_)
    · skip
      exact absurd c_2 (by decide)
    · skip
      refine lv_aload_n hx hb dL_law_397 rfl (lv_at hl 5 rfl) ?_
      refine lv_iconst (v := 0) hx hb dL_law_398 (by decide) ?_
      refine va_lald hx hb hK.1 hP 36 1 rfl rfl (by unfold vp_in; decide) dL_law_399 ?_
      refine W.eq (g2 := F0 m 400 ls [.long ((ptL σ sn ln nc w).toInt64)]) rfl ?_
      refine lv_iload hx hb dL_law_400 (lv_at hl 0 rfl) ?_
      refine lv_i2l hx hb dL_law_402 rfl ?_
      refine my_lcmpE hx hb dL_law_403 ?_
      refine lv_if_eq (tgt := 409) hx hb dL_law_404 (by decide) (fun c_3 => ?_) (fun c_3 => ?_)
      · skip
        refine lv_goto (tgt := 1220) hx hb dL_law_409 (by decide) ?_
        have hP : va_P D vwCl (wAll b a a2 n d d2 cI cJ o σ σ2 (put ω 20 (fun _ => 0)) τ2 (vp_updL g 0 (ptL σ sn ln nc w).toInt64)) H := hP
        have hD : va_D A (wAll b a a2 n d d2 cI cJ o σ σ2 (put ω 20 (fun _ => 0)) τ2 (vp_updL g 0 (ptL σ sn ln nc w).toInt64)) := hD
        refine W.widen (k := cells + 23) (n := slots + 200) (by omega) (by omega) ?_
        exact kk σ σ2 (put ω 20 (fun _ => 0)) τ2 (vp_updL g 0 (ptL σ sn ln nc w).toInt64) h nc nw (iv_w (fun _ => 0) hI) (by omega) H locs hP hD hS ls (lv_sub hl [2, 3, 4, 5, 6] rfl)
      · skip
        exact absurd c_3 (by decide)
  · skip
    exact absurd rfl c_1
