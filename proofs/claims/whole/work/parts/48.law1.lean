set_option maxHeartbeats 4000000 in
set_option maxRecDepth 100000 in
theorem LW_setWarm_e1 {p : Program} {l : Launch} {e : Env} {s : State} {m : MethodId} {args : Array Value} {below : List Frame} {meth : Method} {c : Code} {A : Nat → Prop} {D : va_G} {cI cJ : ClassId} {bs L : Nat} {xs : Nat → Int32} (C : lwC p l s m args c A D cI cJ bs L xs) (b a a2 n d d2 : Nat → Nat) (o i h nc nw : Nat) (σ σ2 ω τ2 : St) (g : Nat → Int64) (p0 : Int32) (p1 : Int32) (hI : lwI σ ω h nc nw) (hi : 6 * i + 6 ≤ L) (hbd : h + 1000 < 2 ^ 29) (hp1 : xs (6 * i + 1) = p0) (hp2 : xs (6 * i + 2) = p1) (h1 : ¬ (0 ≤ p0 ∧ p0 ≤ 13)) {H : Heap} {locs : List Loc} {cells slots : Nat} {Q : State → Prop} (hc9 : cells + 100 ≤ 1201024) (hs9 : slots + 1000 ≤ 5493034) (hP : va_P D vwCl (wAll b a a2 n d d2 cI cJ o σ σ2 ω τ2 g) H) (hD : va_D A (wAll b a a2 n d d2 cI cJ o σ σ2 ω τ2 g)) (hS : va_S A s.heap H locs) (ls : Array Slot) (hl : lv_has ls 9 [(0, .ref bs), (1, .ref (b 0)), (2, .ref (n 0)), (3, .ref o), (4, .int (nI (6 * i)))]) (kk : lwK p l e s m args below meth c A D cI cJ b a a2 n d d2 o bs i h cells slots Q) : W p l e room_1 s m args below meth c H locs cells slots Q (F0 m 128 ls []) := by
  obtain ⟨hx, hb, hml, hown, hts, hK, hEX, hX, hbl, hbA, hst, hA, hL⟩ := id C
  obtain ⟨hok, hnw, hw12⟩ := id hI
  have hnc := hok.1.2.1
  have hn8 := hok.1.2.2.1
  refine lv_aload_n hx hb dL_law_128 rfl (lv_at hl 1 rfl) ?_
  refine lv_aload_n hx hb dL_law_129 rfl (lv_at hl 0 rfl) ?_
  refine lv_iload hx hb dL_law_130 (lv_at hl 4 rfl) ?_
  refine lv_iconst (v := 1) hx hb dL_law_132 (by decide) ?_
  refine lv_iadd hx hb dL_law_133 ?_
  rw [show nI (6 * i) + 1 = nI (6 * i + 1) from nI_add (6 * i) 1]
  refine va_sld hx hb hX hbl hbA hS (vp_in_nI (show 6 * i + 1 < L by omega) (by omega)) dL_law_134 ?_
  rw [nI_clamp (n := 6 * i + 1) (by omega), hp1]
  refine lv_aload_n hx hb dL_law_135 rfl (lv_at hl 0 rfl) ?_
  refine lv_iload hx hb dL_law_136 (lv_at hl 4 rfl) ?_
  refine lv_iconst (v := 2) hx hb dL_law_138 (by decide) ?_
  refine lv_iadd hx hb dL_law_139 ?_
  rw [show nI (6 * i) + 2 = nI (6 * i + 2) from nI_add (6 * i) 2]
  refine va_sld hx hb hX hbl hbA hS (vp_in_nI (show 6 * i + 2 < L by omega) (by omega)) dL_law_140 ?_
  rw [nI_clamp (n := 6 * i + 2) (by omega), hp2]
  refine lv_aload_n hx hb dL_law_141 rfl (lv_at hl 3 rfl) ?_
  refine sl_i (vx_runSW (As := [.ref (b 0), .int p0, .int p1, .ref o]) (rest := []) ⟨hx, hb, hml, hown, hts⟩ (M_L_setWarm_e1 l D cI b a a2 σ σ2 ω p0 p1 o g cJ _ A hst h1) (vx_cwSW 4 hts gL_law_L_setWarm rfl rfl rfl (by decide +kernel) ⟨Nat.le_of_ble_eq_true rfl, Nat.le_of_ble_eq_true rfl⟩) (hxS0 hK hP.left hD.left hS hEX [0, 1] rfl) rfl rfl hl.1 rfl (lv_room (Nat.le_of_ble_eq_true rfl)) dL_law_142 ⟨(by show cells + _ ≤ 1201024; omega), (by show slots + _ ≤ 5493034; omega)⟩) hP hD hS hA (fun H locs hP hD hS => ?_)
  have hP : va_P D vwCl (((wLan b a a2 cI σ σ2 ω) ++ [(o, .inl (cJ, 1, .inr (.inl g)))]) ++ (wMod n d d2 cI σ τ2 ω)) H := hP
  have hD : va_D A (((wLan b a a2 cI σ σ2 ω) ++ [(o, .inl (cJ, 1, .inr (.inl g)))]) ++ (wMod n d d2 cI σ τ2 ω)) := hD
  refine lv_istore (lv' := [(5, .int 1), (0, .ref bs), (1, .ref (b 0)), (2, .ref (n 0)), (3, .ref o), (4, .int (nI (6 * i)))]) hx hb dL_law_145 hl (by decide) rfl (fun ls hl => ?_)
  refine lv_aload_n hx hb dL_law_147 rfl (lv_at hl 3 rfl) ?_
  refine lv_aload_n hx hb dL_law_148 rfl (lv_at hl 1 rfl) ?_
  refine lv_iload hx hb dL_law_149 (lv_at hl 5 rfl) ?_
  refine lv_iconst (v := 1) hx hb dL_law_151 (by decide) ?_
  refine lv_iadd hx hb dL_law_152 ?_
  rw [show nI (6 * i) + 1 = nI (6 * i + 1) from nI_add (6 * i) 1]
  refine va_sld hx hb hX hbl hbA hS (vp_in_nI (show 6 * i + 1 < L by omega) (by omega)) dL_law_153 ?_
  rw [nI_clamp (n := 6 * i + 1) (by omega), hp1]
  refine lv_aload_n hx hb dL_law_154 rfl (lv_at hl 1 rfl) ?_
  refine lv_iload hx hb dL_law_155 (lv_at hl 5 rfl) ?_
  refine lv_iconst (v := 2) hx hb dL_law_157 (by decide) ?_
  refine lv_iadd hx hb dL_law_158 ?_
  rw [show nI (6 * i) + 2 = nI (6 * i + 2) from nI_add (6 * i) 2]
  refine va_sld hx hb hX hbl hbA hS (vp_in_nI (show 6 * i + 2 < L by omega) (by omega)) dL_law_159 ?_
  rw [nI_clamp (n := 6 * i + 2) (by omega), hp2]
  refine sr_i (va_runV (As := [.int p0, .int p1]) (rest := []) ⟨hx, hb, hml, hown, hts⟩ (M_X6_setWarm_e1 l D cI n d d2 σ τ2 ω p0 p1 _ h1) (cwV 2 hts gL_law_X6_setWarm rfl rfl rfl (by decide +kernel) ⟨Nat.le_of_ble_eq_true rfl, Nat.le_of_ble_eq_true rfl⟩) (wrV0 hK hP.right hD.right [0] rfl (ci := 6) (q0 := 0) rfl rfl) rfl rfl hl.1 rfl (lv_room (Nat.le_of_ble_eq_true rfl)) dL_law_160 ⟨(by show cells + _ ≤ 1201024; omega), (by show slots + _ ≤ 5493034; omega)⟩) hP hD hS hA (fun H locs hP hD hS => ?_)
  have hP : va_P D vwCl (((wLan b a a2 cI σ σ2 ω) ++ [(o, .inl (cJ, 1, .inr (.inl g)))]) ++ (wOutE n d d2 cI 1 (ω 19 0) (ω 1) (ω 2) (ω 14) (ω 15) ++ (wSta d (n 0) cI σ ++ wSta d2 (n 0) cI τ2))) H := hP
  have hD : va_D A (((wLan b a a2 cI σ σ2 ω) ++ [(o, .inl (cJ, 1, .inr (.inl g)))]) ++ (wOutE n d d2 cI 1 (ω 19 0) (ω 1) (ω 2) (ω 14) (ω 15) ++ (wSta d (n 0) cI σ ++ wSta d2 (n 0) cI τ2))) := hD
  refine lv_istore (lv' := [(6, .int 0), (5, .int 1), (0, .ref bs), (1, .ref (b 0)), (2, .ref (n 0)), (3, .ref o), (4, .int (nI (6 * i)))]) hx hb dL_law_163 hl (by decide) rfl (fun ls hl => ?_)
  refine lv_aload_n hx hb dL_law_165 rfl (lv_at hl 4 rfl) ?_
  refine rd_i (va_runV (As := []) (rest := []) ⟨hx, hb, hml, hown, hts⟩ (M_X6_thrown l D cI n d d2 σ τ2 (put ω 20 (fun _ => 1)) ) (cwV 0 hts gL_law_X6_thrown rfl rfl rfl (by decide +kernel) ⟨Nat.le_of_ble_eq_true rfl, Nat.le_of_ble_eq_true rfl⟩) (rdV0 hK hP.right [0] rfl (ci := 6) (q0 := 0) rfl rfl) rfl rfl hl.1 rfl (lv_room (Nat.le_of_ble_eq_true rfl)) dL_law_166 ⟨(by show cells + _ ≤ 1201024; omega), (by show slots + _ ≤ 5493034; omega)⟩) ?_
  refine W.eq (g2 := F0 m 169 ls [.int 1]) rfl ?_
  refine lv_iload hx hb dL_law_169 (lv_at hl 1 rfl) ?_
  refine lv_icmp_eq (tgt := 176) hx hb dL_law_171 (by decide) (fun c_1 => ?_) (fun c_1 => ?_)
  · skip
    refine lv_iload hx hb dL_law_176 (lv_at hl 1 rfl) ?_
    refine lv_if_ne (tgt := 193) hx hb dL_law_178 (by decide) (fun c_2 => ?_) (fun c_2 => ?_)
    · skip
      refine lv_goto (tgt := 1220) hx hb dL_law_193 (by decide) ?_
      have hP : va_P D vwCl (wAll b a a2 n d d2 cI cJ o σ σ2 (put ω 20 (fun _ => 1)) τ2 g) H := hP
      have hD : va_D A (wAll b a a2 n d d2 cI cJ o σ σ2 (put ω 20 (fun _ => 1)) τ2 g) := hD
      refine W.widen (k := cells + 23) (n := slots + 200) (by omega) (by omega) ?_
      exact kk σ σ2 (put ω 20 (fun _ => 1)) τ2 g h nc nw hI (by omega) H locs hP hD hS ls (lv_sub hl [2, 3, 4, 5, 6] rfl)
    · skip
      exact absurd c_2 (by decide)
  · skip
    exact absurd rfl c_1
