set_option maxHeartbeats 4000000 in
set_option maxRecDepth 100000 in
theorem M_X6_counted (l : Launch) (D : va_G) (cI : ClassId) (b : Nat → Nat) (d : Nat → Nat) (d2 : Nat → Nat) (σ : St) (σ2 : St) (ω : St) (w : Nat) (nc : Nat) (nw : Nat) (sz : Nat) (hw11 : w < 11) (hnc : σ 17 0 = nI nc) (hn8 : nc ≤ 8) (hokj : ∀ j, j < nc → okC σ j) (hnw : ω 19 0 = nI nw) (hw12 : nw ≤ 12) : Met l yX6_counted wsX6_counted ({ frames := 1, cells := 2, slots := 15, locals := 22 } : Room) (wrPc [.ref (b 0), .int (nI w)] D (wMod b d d2 cI σ σ2 ω) [(cI, .int)] sz) (wrQi (ctF σ ω nc nw w) D (wMod b d d2 cI σ σ2 ω) (va_A (wMod b d d2 cI σ σ2 ω) sz)) 2 15 (va_A (wMod b d d2 cI σ σ2 ω) sz) := by
  refine Met.ofW (cc := cX6_counted) (maxL := 6) (ret := (some .int)) (by decide) rfl ?_
  intro p e s m args below meth c s₁ B hml hv
  obtain ⟨hargs, hsz, hP, hK, hD0⟩ := hv
  have hx := B.exec
  have hb := B.bytes
  have hr := B.returns
  have hts := atoms_spec (ws := wsX6_counted) B.pre
  have hown : s.vm.findClass RX6 = some m.cls := findClass_of_methodNamed B.named
  have hlocks := B.notSynchronized
  obtain ⟨_, hN⟩ := id hK
  have hiX5 : ∀ w ∈ wsX50, w ∈ wsX6_counted := by decide +kernel
  have hiX6 : ∀ w ∈ wsX60, w ∈ wsX6_counted := by decide +kernel
  subst hsz
  have hD := hD0.self (sz := s.heap.size)
  generalize hAe : va_A (wMod b d d2 cI σ σ2 ω) s.heap.size = A at hD ⊢
  have hA : ∀ q : Nat, s.heap.size ≤ q → A q := fun q h => by rw [← hAe]; exact Or.inr h
  have hS : va_S A s.heap s.heap [] := va_S.rf
  have hP : va_P D vwCl (wMod b d d2 cI σ σ2 ω) s.heap := hP
  refine my_abs (fun Q hQ => ?_)
  obtain ⟨ls, hl, hent⟩ := my_entry (m := m) (n := 6) hargs (Nat.le_of_ble_eq_true rfl)
  rw [hent]
  have hl : lv_has ls 6 [(0, .ref (b 0)), (1, .int (nI w))] := hl
  show W p l e ({ frames := 1, cells := 2, slots := 15, locals := 22 } : Room) s m args below meth c s.heap [] 0 0 Q (F0 m 0 ls [])
  refine lv_iconst (v := 4) hx hb dX6_counted_0 (by decide) ?_
  refine my_newi (N := 4) hx hb (hts (.arrayClass .int) (by decide +kernel)) hK.1 hP hD hS hA (by decide) rfl (Nat.le_of_ble_eq_true rfl) (Nat.le_of_ble_eq_true rfl) (Nat.le_of_ble_eq_true rfl) dX6_counted_1 (fun q_1 H hP hD hS => ?_)
  have hP : va_P D vwCl ((wMod b d d2 cI σ σ2 ω) ++ [(q_1, .inl (cI, 4, .inl (fun _ => 0)))]) H := hP
  have hD : va_D A ((wMod b d d2 cI σ σ2 ω) ++ [(q_1, .inl (cI, 4, .inl (fun _ => 0)))]) := hD
  refine lv_astore_n (lv' := [(2, .ref q_1), (0, .ref (b 0)), (1, .int (nI w))]) hx hb dX6_counted_3 rfl hl (by decide) rfl (fun ls hl => ?_)
  refine lv_iconst (v := 0) hx hb dX6_counted_4 (by decide) ?_
  refine lv_istore_n (lv' := [(3, .int 0), (2, .ref q_1), (0, .ref (b 0)), (1, .int (nI w))]) hx hb dX6_counted_5 rfl hl (by decide) rfl (fun ls hl => ?_)
  have loop6 : ∀ (n : Nat) (k : Nat) (hw : Nat → Int32), nc - k < n → (k ≤ nc ∧ hw = hcF σ k) → ∀ (H : Heap) (locs : List Loc), va_P D vwCl ((wMod b d d2 cI σ σ2 ω) ++ [(q_1, .inl (cI, 4, .inl hw))]) H → va_D A ((wMod b d d2 cI σ σ2 ω) ++ [(q_1, .inl (cI, 4, .inl hw))]) → va_S A s.heap H locs → ∀ (ls : Array Slot), lv_has ls 6 [(0, .ref (b 0)), (1, .int (nI w)), (2, .ref q_1), (3, .int (nI k))] → W p l e ({ frames := 1, cells := 2, slots := 15, locals := 22 } : Room) s m args below meth c H locs 1 4 Q (F0 m 6 ls []) := by
    intro n
    induction n with
    | zero => intro k  hw  hf; exact absurd hf (Nat.not_lt_zero _)
    | succ n ih6 =>
      intro k  hw  hf ⟨hk, hhw⟩ H locs hP hD hS ls hl
      refine lv_iload_n hx hb dX6_counted_6 rfl (lv_at hl 3 rfl) ?_
      refine lv_aload_n hx hb dX6_counted_7 rfl (lv_at hl 0 rfl) ?_
      refine va_get (D := D) (ci := 6) (v := .ref (d 0)) (C := RX6) (T := TX6) (N := 8) hx hb hts hiX6 hown hK.1 hP 0 rfl rfl 6 (by decide) (hts (.fieldLink RX6 27 "IceLanesModel" "s" "LIceLanesModel$State;") (by decide +kernel)) (fun _ h9 => h9) rfl dX6_counted_8 ?_
      refine va_getN (D := D) (ci := 5) (v := .int (σ 17 0)) (C := RX5) (T := TX5) (N := 8) hx hb hts hiX5 hown hK.1 hP 5 rfl rfl 1 (by decide) (va_Nw.use rfl (nX6_51 hN)) (fun _ h9 => h9) rfl dX6_counted_11 ?_
      refine lv_icmp_ge (tgt := 39) hx hb dX6_counted_14 (by decide) (fun c_2 => ?_) (fun c_2 => ?_)
      · skip
        rw [hnc] at c_2
        have hk2 : nc ≤ k := lp_ge (N := nc) (k := k) c_2 (by omega) (by omega)
        refine lv_iconst (v := 0) hx hb dX6_counted_39 (by decide) ?_
        refine lv_istore_n (lv' := [(3, .int 0), (0, .ref (b 0)), (1, .int (nI w)), (2, .ref q_1)]) hx hb dX6_counted_40 rfl hl (by decide) rfl (fun ls hl => ?_)
        refine lv_iconst (v := 0) hx hb dX6_counted_41 (by decide) ?_
        refine lv_istore (lv' := [(4, .int 0), (3, .int 0), (0, .ref (b 0)), (1, .int (nI w)), (2, .ref q_1)]) hx hb dX6_counted_42 hl (by decide) rfl (fun ls hl => ?_)
        refine lv_iconst (v := 0) hx hb dX6_counted_44 (by decide) ?_
        refine lv_istore (lv' := [(5, .int 0), (4, .int 0), (3, .int 0), (0, .ref (b 0)), (1, .int (nI w)), (2, .ref q_1)]) hx hb dX6_counted_45 hl (by decide) rfl (fun ls hl => ?_)
        have loop47 : ∀ (n : Nat) (k2 : Nat), 36 - k2 < n → k2 ≤ 36 → ∀ (H : Heap) (locs : List Loc), va_P D vwCl ((wMod b d d2 cI σ σ2 ω) ++ [(q_1, .inl (cI, 4, .inl hw))]) H → va_D A ((wMod b d d2 cI σ σ2 ω) ++ [(q_1, .inl (cI, 4, .inl hw))]) → va_S A s.heap H locs → ∀ (ls : Array Slot), lv_has ls 6 [(0, .ref (b 0)), (1, .int (nI w)), (2, .ref q_1), (3, .int (sumF (σ 4) k2)), (4, .int (cntF (fun j => decide (σ 3 j = 0)) k2)), (5, .int (nI k2))] → W p l e ({ frames := 1, cells := 2, slots := 15, locals := 22 } : Room) s m args below meth c H locs 1 4 Q (F0 m 47 ls []) := by
          intro n
          induction n with
          | zero => intro k2  hf; exact absurd hf (Nat.not_lt_zero _)
          | succ n ih47 =>
            intro k2  hf hkk H locs hP hD hS ls hl
            refine lv_iload hx hb dX6_counted_47 (lv_at hl 5 rfl) ?_
            refine lv_bipush (v := 36) hx hb dX6_counted_49 (by decide) ?_
            refine lv_icmp_ge (tgt := 96) hx hb dX6_counted_51 (by decide) (fun c_3 => ?_) (fun c_3 => ?_)
            · skip
              have hk2 : 36 ≤ k2 := lp_ge (N := 36) (k := k2) c_3 (by omega) (by omega)
              refine lv_bipush (v := 11) hx hb dX6_counted_96 (by decide) ?_
              refine my_newi (N := 11) hx hb (hts (.arrayClass .int) (by decide +kernel)) hK.1 hP hD hS hA (by decide) rfl (Nat.le_of_ble_eq_true rfl) (Nat.le_of_ble_eq_true rfl) (Nat.le_of_ble_eq_true rfl) dX6_counted_98 (fun q_4 H hP hD hS => ?_)
              have hP : va_P D vwCl ((wMod b d d2 cI σ σ2 ω) ++ [(q_1, .inl (cI, 4, .inl hw)), (q_4, .inl (cI, 11, .inl (fun _ => 0)))]) H := hP
              have hD : va_D A ((wMod b d d2 cI σ σ2 ω) ++ [(q_1, .inl (cI, 4, .inl hw)), (q_4, .inl (cI, 11, .inl (fun _ => 0)))]) := hD
              refine lv_dup hx hb dX6_counted_100 rfl ?_
              refine lv_iconst (v := 0) hx hb dX6_counted_101 (by decide) ?_
              refine lv_aload_n hx hb dX6_counted_102 rfl (lv_at hl 0 rfl) ?_
              refine va_get (D := D) (ci := 6) (v := .ref (d 0)) (C := RX6) (T := TX6) (N := 8) hx hb hts hiX6 hown hK.1 hP 0 rfl rfl 6 (by decide) (hts (.fieldLink RX6 27 "IceLanesModel" "s" "LIceLanesModel$State;") (by decide +kernel)) (fun _ h9 => h9) rfl dX6_counted_103 ?_
              refine va_getN (D := D) (ci := 5) (v := .int (σ 0 0)) (C := RX5) (T := TX5) (N := 8) hx hb hts hiX5 hown hK.1 hP 5 rfl rfl 0 (by decide) (va_Nw.use rfl (nX6_125 hN)) (fun _ h9 => h9) rfl dX6_counted_106 ?_
              refine va_iast hx hb hK.1 hP hD hS 14 0 rfl rfl (by unfold vp_in; decide) dX6_counted_109 (fun H locs hP hD hS => ?_)
              have hP : va_P D vwCl ((wMod b d d2 cI σ σ2 ω) ++ [(q_1, .inl (cI, 4, .inl hw)), (q_4, .inl (cI, 11, .inl (upd (fun _ => 0) 0 (σ 0 0))))]) H := hP
              have hD : va_D A ((wMod b d d2 cI σ σ2 ω) ++ [(q_1, .inl (cI, 4, .inl hw)), (q_4, .inl (cI, 11, .inl (upd (fun _ => 0) 0 (σ 0 0))))]) := hD
              refine lv_dup hx hb dX6_counted_110 rfl ?_
              refine lv_iconst (v := 1) hx hb dX6_counted_111 (by decide) ?_
              refine lv_aload_n hx hb dX6_counted_112 rfl (lv_at hl 0 rfl) ?_
              refine va_get (D := D) (ci := 6) (v := .ref (d 0)) (C := RX6) (T := TX6) (N := 8) hx hb hts hiX6 hown hK.1 hP 0 rfl rfl 6 (by decide) (hts (.fieldLink RX6 27 "IceLanesModel" "s" "LIceLanesModel$State;") (by decide +kernel)) (fun _ h9 => h9) rfl dX6_counted_113 ?_
              refine va_getN (D := D) (ci := 5) (v := .int (σ 17 0)) (C := RX5) (T := TX5) (N := 8) hx hb hts hiX5 hown hK.1 hP 5 rfl rfl 1 (by decide) (va_Nw.use rfl (nX6_51 hN)) (fun _ h9 => h9) rfl dX6_counted_116 ?_
              refine va_iast hx hb hK.1 hP hD hS 14 0 rfl rfl (by unfold vp_in; decide) dX6_counted_119 (fun H locs hP hD hS => ?_)
              have hP : va_P D vwCl ((wMod b d d2 cI σ σ2 ω) ++ [(q_1, .inl (cI, 4, .inl hw)), (q_4, .inl (cI, 11, .inl (upd (upd (fun _ => 0) 0 (σ 0 0)) 1 (σ 17 0))))]) H := hP
              have hD : va_D A ((wMod b d d2 cI σ σ2 ω) ++ [(q_1, .inl (cI, 4, .inl hw)), (q_4, .inl (cI, 11, .inl (upd (upd (fun _ => 0) 0 (σ 0 0)) 1 (σ 17 0))))]) := hD
              refine lv_dup hx hb dX6_counted_120 rfl ?_
              refine lv_iconst (v := 2) hx hb dX6_counted_121 (by decide) ?_
              refine lv_aload_n hx hb dX6_counted_122 rfl (lv_at hl 2 rfl) ?_
              refine lv_iconst (v := 1) hx hb dX6_counted_123 (by decide) ?_
              refine va_iald hx hb hK.1 hP 13 0 rfl rfl (by unfold vp_in; decide) dX6_counted_124 ?_
              refine W.eq (g2 := F0 m 125 ls [.int (hw 1), .int 2, .ref q_4, .ref q_4]) rfl ?_
              refine va_iast hx hb hK.1 hP hD hS 14 0 rfl rfl (by unfold vp_in; decide) dX6_counted_125 (fun H locs hP hD hS => ?_)
              have hP : va_P D vwCl ((wMod b d d2 cI σ σ2 ω) ++ [(q_1, .inl (cI, 4, .inl hw)), (q_4, .inl (cI, 11, .inl (upd (upd (upd (fun _ => 0) 0 (σ 0 0)) 1 (σ 17 0)) 2 (hw 1))))]) H := hP
              have hD : va_D A ((wMod b d d2 cI σ σ2 ω) ++ [(q_1, .inl (cI, 4, .inl hw)), (q_4, .inl (cI, 11, .inl (upd (upd (upd (fun _ => 0) 0 (σ 0 0)) 1 (σ 17 0)) 2 (hw 1))))]) := hD
              refine lv_dup hx hb dX6_counted_126 rfl ?_
              refine lv_iconst (v := 3) hx hb dX6_counted_127 (by decide) ?_
              refine lv_aload_n hx hb dX6_counted_128 rfl (lv_at hl 2 rfl) ?_
              refine lv_iconst (v := 2) hx hb dX6_counted_129 (by decide) ?_
              refine va_iald hx hb hK.1 hP 13 0 rfl rfl (by unfold vp_in; decide) dX6_counted_130 ?_
              refine W.eq (g2 := F0 m 131 ls [.int (hw 2), .int 3, .ref q_4, .ref q_4]) rfl ?_
              refine va_iast hx hb hK.1 hP hD hS 14 0 rfl rfl (by unfold vp_in; decide) dX6_counted_131 (fun H locs hP hD hS => ?_)
              have hP : va_P D vwCl ((wMod b d d2 cI σ σ2 ω) ++ [(q_1, .inl (cI, 4, .inl hw)), (q_4, .inl (cI, 11, .inl (upd (upd (upd (upd (fun _ => 0) 0 (σ 0 0)) 1 (σ 17 0)) 2 (hw 1)) 3 (hw 2))))]) H := hP
              have hD : va_D A ((wMod b d d2 cI σ σ2 ω) ++ [(q_1, .inl (cI, 4, .inl hw)), (q_4, .inl (cI, 11, .inl (upd (upd (upd (upd (fun _ => 0) 0 (σ 0 0)) 1 (σ 17 0)) 2 (hw 1)) 3 (hw 2))))]) := hD
              refine lv_dup hx hb dX6_counted_132 rfl ?_
              refine lv_iconst (v := 4) hx hb dX6_counted_133 (by decide) ?_
              refine lv_aload_n hx hb dX6_counted_134 rfl (lv_at hl 2 rfl) ?_
              refine lv_iconst (v := 3) hx hb dX6_counted_135 (by decide) ?_
              refine va_iald hx hb hK.1 hP 13 0 rfl rfl (by unfold vp_in; decide) dX6_counted_136 ?_
              refine W.eq (g2 := F0 m 137 ls [.int (hw 3), .int 4, .ref q_4, .ref q_4]) rfl ?_
              refine va_iast hx hb hK.1 hP hD hS 14 0 rfl rfl (by unfold vp_in; decide) dX6_counted_137 (fun H locs hP hD hS => ?_)
              have hP : va_P D vwCl ((wMod b d d2 cI σ σ2 ω) ++ [(q_1, .inl (cI, 4, .inl hw)), (q_4, .inl (cI, 11, .inl (upd (upd (upd (upd (upd (fun _ => 0) 0 (σ 0 0)) 1 (σ 17 0)) 2 (hw 1)) 3 (hw 2)) 4 (hw 3))))]) H := hP
              have hD : va_D A ((wMod b d d2 cI σ σ2 ω) ++ [(q_1, .inl (cI, 4, .inl hw)), (q_4, .inl (cI, 11, .inl (upd (upd (upd (upd (upd (fun _ => 0) 0 (σ 0 0)) 1 (σ 17 0)) 2 (hw 1)) 3 (hw 2)) 4 (hw 3))))]) := hD
              refine lv_dup hx hb dX6_counted_138 rfl ?_
              refine lv_iconst (v := 5) hx hb dX6_counted_139 (by decide) ?_
              refine lv_iload_n hx hb dX6_counted_140 rfl (lv_at hl 3 rfl) ?_
              refine va_iast hx hb hK.1 hP hD hS 14 0 rfl rfl (by unfold vp_in; decide) dX6_counted_141 (fun H locs hP hD hS => ?_)
              have hP : va_P D vwCl ((wMod b d d2 cI σ σ2 ω) ++ [(q_1, .inl (cI, 4, .inl hw)), (q_4, .inl (cI, 11, .inl (upd (upd (upd (upd (upd (upd (fun _ => 0) 0 (σ 0 0)) 1 (σ 17 0)) 2 (hw 1)) 3 (hw 2)) 4 (hw 3)) 5 (sumF (σ 4) k2))))]) H := hP
              have hD : va_D A ((wMod b d d2 cI σ σ2 ω) ++ [(q_1, .inl (cI, 4, .inl hw)), (q_4, .inl (cI, 11, .inl (upd (upd (upd (upd (upd (upd (fun _ => 0) 0 (σ 0 0)) 1 (σ 17 0)) 2 (hw 1)) 3 (hw 2)) 4 (hw 3)) 5 (sumF (σ 4) k2))))]) := hD
              refine lv_dup hx hb dX6_counted_142 rfl ?_
              refine lv_bipush (v := 6) hx hb dX6_counted_143 (by decide) ?_
              refine lv_iload hx hb dX6_counted_145 (lv_at hl 4 rfl) ?_
              refine va_iast hx hb hK.1 hP hD hS 14 0 rfl rfl (by unfold vp_in; decide) dX6_counted_147 (fun H locs hP hD hS => ?_)
              have hP : va_P D vwCl ((wMod b d d2 cI σ σ2 ω) ++ [(q_1, .inl (cI, 4, .inl hw)), (q_4, .inl (cI, 11, .inl (upd (upd (upd (upd (upd (upd (upd (fun _ => 0) 0 (σ 0 0)) 1 (σ 17 0)) 2 (hw 1)) 3 (hw 2)) 4 (hw 3)) 5 (sumF (σ 4) k2)) 6 (cntF (fun j => decide (σ 3 j = 0)) k2))))]) H := hP
              have hD : va_D A ((wMod b d d2 cI σ σ2 ω) ++ [(q_1, .inl (cI, 4, .inl hw)), (q_4, .inl (cI, 11, .inl (upd (upd (upd (upd (upd (upd (upd (fun _ => 0) 0 (σ 0 0)) 1 (σ 17 0)) 2 (hw 1)) 3 (hw 2)) 4 (hw 3)) 5 (sumF (σ 4) k2)) 6 (cntF (fun j => decide (σ 3 j = 0)) k2))))]) := hD
              refine lv_dup hx hb dX6_counted_148 rfl ?_
              refine lv_bipush (v := 7) hx hb dX6_counted_149 (by decide) ?_
              refine lv_aload_n hx hb dX6_counted_151 rfl (lv_at hl 0 rfl) ?_
              refine rd_i (va_runV (As := []) (rest := [.int 7, .ref q_4, .ref q_4]) ⟨hx, hb, hml, hown, hts⟩ (M_X6_huts l D cI b d d2 σ σ2 ω ) (cwV 0 hts gX6_counted_X6_huts rfl rfl rfl (by decide +kernel) ⟨Nat.le_of_ble_eq_true rfl, Nat.le_of_ble_eq_true rfl⟩) (rdV hK hP [0, 1, 2, 3, 4, 5, 6, 7, 8, 9, 10, 11, 12] [0] rfl rfl (ci := 6) (q0 := 0) rfl rfl) rfl rfl hl.1 rfl (lv_room (Nat.le_of_ble_eq_true rfl)) dX6_counted_152 ⟨Nat.le_of_ble_eq_true rfl, Nat.le_of_ble_eq_true rfl⟩) ?_
              refine va_iast hx hb hK.1 hP hD hS 14 0 rfl rfl (by unfold vp_in; decide) dX6_counted_155 (fun H locs hP hD hS => ?_)
              have hP : va_P D vwCl ((wMod b d d2 cI σ σ2 ω) ++ [(q_1, .inl (cI, 4, .inl hw)), (q_4, .inl (cI, 11, .inl (upd (upd (upd (upd (upd (upd (upd (upd (fun _ => 0) 0 (σ 0 0)) 1 (σ 17 0)) 2 (hw 1)) 3 (hw 2)) 4 (hw 3)) 5 (sumF (σ 4) k2)) 6 (cntF (fun j => decide (σ 3 j = 0)) k2)) 7 (sumF ((ω 2)) 12))))]) H := hP
              have hD : va_D A ((wMod b d d2 cI σ σ2 ω) ++ [(q_1, .inl (cI, 4, .inl hw)), (q_4, .inl (cI, 11, .inl (upd (upd (upd (upd (upd (upd (upd (upd (fun _ => 0) 0 (σ 0 0)) 1 (σ 17 0)) 2 (hw 1)) 3 (hw 2)) 4 (hw 3)) 5 (sumF (σ 4) k2)) 6 (cntF (fun j => decide (σ 3 j = 0)) k2)) 7 (sumF ((ω 2)) 12))))]) := hD
              refine lv_dup hx hb dX6_counted_156 rfl ?_
              refine lv_bipush (v := 8) hx hb dX6_counted_157 (by decide) ?_
              refine lv_aload_n hx hb dX6_counted_159 rfl (lv_at hl 0 rfl) ?_
              refine va_get (D := D) (ci := 6) (v := .int (ω 19 0)) (C := RX6) (T := TX6) (N := 8) hx hb hts hiX6 hown hK.1 hP 0 rfl rfl 3 (by decide) (hts (.fieldLink RX6 107 "IceLanesModel" "wagers" "I") (by decide +kernel)) (fun _ h9 => h9) rfl dX6_counted_160 ?_
              refine va_iast hx hb hK.1 hP hD hS 14 0 rfl rfl (by unfold vp_in; decide) dX6_counted_163 (fun H locs hP hD hS => ?_)
              have hP : va_P D vwCl ((wMod b d d2 cI σ σ2 ω) ++ [(q_1, .inl (cI, 4, .inl hw)), (q_4, .inl (cI, 11, .inl (upd (upd (upd (upd (upd (upd (upd (upd (upd (fun _ => 0) 0 (σ 0 0)) 1 (σ 17 0)) 2 (hw 1)) 3 (hw 2)) 4 (hw 3)) 5 (sumF (σ 4) k2)) 6 (cntF (fun j => decide (σ 3 j = 0)) k2)) 7 (sumF ((ω 2)) 12)) 8 (ω 19 0))))]) H := hP
              have hD : va_D A ((wMod b d d2 cI σ σ2 ω) ++ [(q_1, .inl (cI, 4, .inl hw)), (q_4, .inl (cI, 11, .inl (upd (upd (upd (upd (upd (upd (upd (upd (upd (fun _ => 0) 0 (σ 0 0)) 1 (σ 17 0)) 2 (hw 1)) 3 (hw 2)) 4 (hw 3)) 5 (sumF (σ 4) k2)) 6 (cntF (fun j => decide (σ 3 j = 0)) k2)) 7 (sumF ((ω 2)) 12)) 8 (ω 19 0))))]) := hD
              refine lv_dup hx hb dX6_counted_164 rfl ?_
              refine lv_bipush (v := 9) hx hb dX6_counted_165 (by decide) ?_
              refine lv_aload_n hx hb dX6_counted_167 rfl (lv_at hl 0 rfl) ?_
              refine rd_i (va_runV (As := []) (rest := [.int 9, .ref q_4, .ref q_4]) ⟨hx, hb, hml, hown, hts⟩ (M_X6_stakes l D cI b d d2 σ σ2 ω nw (by first | assumption | omega) (by first | assumption | omega)) (cwV 0 hts gX6_counted_X6_stakes rfl rfl rfl (by decide +kernel) ⟨Nat.le_of_ble_eq_true rfl, Nat.le_of_ble_eq_true rfl⟩) (rdV hK hP [0, 1, 2, 3, 4, 5, 6, 7, 8, 9, 10, 11, 12] [0] rfl rfl (ci := 6) (q0 := 0) rfl rfl) rfl rfl hl.1 rfl (lv_room (Nat.le_of_ble_eq_true rfl)) dX6_counted_168 ⟨Nat.le_of_ble_eq_true rfl, Nat.le_of_ble_eq_true rfl⟩) ?_
              refine va_iast hx hb hK.1 hP hD hS 14 0 rfl rfl (by unfold vp_in; decide) dX6_counted_171 (fun H locs hP hD hS => ?_)
              have hP : va_P D vwCl ((wMod b d d2 cI σ σ2 ω) ++ [(q_1, .inl (cI, 4, .inl hw)), (q_4, .inl (cI, 11, .inl (upd (upd (upd (upd (upd (upd (upd (upd (upd (upd (fun _ => 0) 0 (σ 0 0)) 1 (σ 17 0)) 2 (hw 1)) 3 (hw 2)) 4 (hw 3)) 5 (sumF (σ 4) k2)) 6 (cntF (fun j => decide (σ 3 j = 0)) k2)) 7 (sumF ((ω 2)) 12)) 8 (ω 19 0)) 9 (sumF ((ω 15)) nw))))]) H := hP
              have hD : va_D A ((wMod b d d2 cI σ σ2 ω) ++ [(q_1, .inl (cI, 4, .inl hw)), (q_4, .inl (cI, 11, .inl (upd (upd (upd (upd (upd (upd (upd (upd (upd (upd (fun _ => 0) 0 (σ 0 0)) 1 (σ 17 0)) 2 (hw 1)) 3 (hw 2)) 4 (hw 3)) 5 (sumF (σ 4) k2)) 6 (cntF (fun j => decide (σ 3 j = 0)) k2)) 7 (sumF ((ω 2)) 12)) 8 (ω 19 0)) 9 (sumF ((ω 15)) nw))))]) := hD
              refine lv_dup hx hb dX6_counted_172 rfl ?_
              refine lv_bipush (v := 10) hx hb dX6_counted_173 (by decide) ?_
              refine lv_aload_n hx hb dX6_counted_175 rfl (lv_at hl 0 rfl) ?_
              refine va_get (D := D) (ci := 6) (v := .ref (d 0)) (C := RX6) (T := TX6) (N := 8) hx hb hts hiX6 hown hK.1 hP 0 rfl rfl 6 (by decide) (hts (.fieldLink RX6 27 "IceLanesModel" "s" "LIceLanesModel$State;") (by decide +kernel)) (fun _ h9 => h9) rfl dX6_counted_176 ?_
              refine va_getN (D := D) (ci := 5) (v := .int (σ 16 0)) (C := RX5) (T := TX5) (N := 8) hx hb hts hiX5 hown hK.1 hP 5 rfl rfl 2 (by decide) (va_Nw.use rfl (nX6_110 hN)) (fun _ h9 => h9) rfl dX6_counted_179 ?_
              refine va_iast hx hb hK.1 hP hD hS 14 0 rfl rfl (by unfold vp_in; decide) dX6_counted_182 (fun H locs hP hD hS => ?_)
              have hP : va_P D vwCl ((wMod b d d2 cI σ σ2 ω) ++ [(q_1, .inl (cI, 4, .inl hw)), (q_4, .inl (cI, 11, .inl (upd (upd (upd (upd (upd (upd (upd (upd (upd (upd (upd (fun _ => 0) 0 (σ 0 0)) 1 (σ 17 0)) 2 (hw 1)) 3 (hw 2)) 4 (hw 3)) 5 (sumF (σ 4) k2)) 6 (cntF (fun j => decide (σ 3 j = 0)) k2)) 7 (sumF ((ω 2)) 12)) 8 (ω 19 0)) 9 (sumF ((ω 15)) nw)) 10 (σ 16 0))))]) H := hP
              have hD : va_D A ((wMod b d d2 cI σ σ2 ω) ++ [(q_1, .inl (cI, 4, .inl hw)), (q_4, .inl (cI, 11, .inl (upd (upd (upd (upd (upd (upd (upd (upd (upd (upd (upd (fun _ => 0) 0 (σ 0 0)) 1 (σ 17 0)) 2 (hw 1)) 3 (hw 2)) 4 (hw 3)) 5 (sumF (σ 4) k2)) 6 (cntF (fun j => decide (σ 3 j = 0)) k2)) 7 (sumF ((ω 2)) 12)) 8 (ω 19 0)) 9 (sumF ((ω 15)) nw)) 10 (σ 16 0))))]) := hD
              refine lv_astore (lv' := [(5, .ref q_4), (0, .ref (b 0)), (1, .int (nI w)), (2, .ref q_1), (3, .int (sumF (σ 4) k2)), (4, .int (cntF (fun j => decide (σ 3 j = 0)) k2))]) hx hb dX6_counted_183 hl (by decide) rfl (fun ls hl => ?_)
              refine lv_aload hx hb dX6_counted_185 (lv_at hl 0 rfl) ?_
              refine lv_iload_n hx hb dX6_counted_187 rfl (lv_at hl 2 rfl) ?_
              refine va_iald hx hb hK.1 hP 14 0 rfl rfl (by exact vp_in_nI hw11 (by decide)) dX6_counted_188 ?_
              rw [nI_clamp (n := w) (by omega)]
              subst hQ
              have hP := hP.sub (ws' := wMod b d d2 cI σ σ2 ω) [0, 1, 2, 3, 4, 5, 6, 7, 8, 9, 10, 11, 12] rfl
              have hD := hD.sub (ws' := wMod b d d2 cI σ σ2 ω) [0, 1, 2, 3, 4, 5, 6, 7, 8, 9, 10, 11, 12] (by decide) rfl
              exact ret_wri hx hb hr rfl hlocks hP hD hS (show (upd (upd (upd (upd (upd (upd (upd (upd (upd (upd (upd (fun _ => 0) 0 (σ 0 0)) 1 (σ 17 0)) 2 (hw 1)) 3 (hw 2)) 4 (hw 3)) 5 (sumF (σ 4) k2)) 6 (cntF (fun j => decide (σ 3 j = 0)) k2)) 7 (sumF ((ω 2)) 12)) 8 (ω 19 0)) 9 (sumF ((ω 15)) nw)) 10 (σ 16 0)) w = ctF σ ω nc nw w from (by rcases (show w = 0 ∨ w = 1 ∨ w = 2 ∨ w = 3 ∨ w = 4 ∨ w = 5 ∨ w = 6 ∨ w = 7 ∨ w = 8 ∨ w = 9 ∨ w = 10 by omega) with rfl | rfl | rfl | rfl | rfl | rfl | rfl | rfl | rfl | rfl | rfl; rfl; rfl; (show hw 1 = cntF _ nc; rw [hhw, show k = nc by omega]; exact hcF_eq (X := 1) rfl (by decide) nc hokj); (show hw 2 = cntF _ nc; rw [hhw, show k = nc by omega]; exact hcF_eq (X := 2) rfl (by decide) nc hokj); (show hw 3 = cntF _ nc; rw [hhw, show k = nc by omega]; exact hcF_eq (X := 3) rfl (by decide) nc hokj); (show sumF (σ 4) k2 = sumF (σ 4) 36; rw [show k2 = 36 by omega]); (show cntF (fun j => decide (σ 3 j = 0)) k2 = cntF (fun j => decide (σ 3 j = 0)) 36; rw [show k2 = 36 by omega]); rfl; rfl; rfl; rfl)) dX6_counted_189
            · skip
              have hk2 : k2 < 36 := lp_nge (N := 36) (k := k2) c_3 (by omega) (by omega)
              refine lv_iload_n hx hb dX6_counted_54 rfl (lv_at hl 3 rfl) ?_
              refine lv_aload_n hx hb dX6_counted_55 rfl (lv_at hl 0 rfl) ?_
              refine va_get (D := D) (ci := 6) (v := .ref (d 0)) (C := RX6) (T := TX6) (N := 8) hx hb hts hiX6 hown hK.1 hP 0 rfl rfl 6 (by decide) (hts (.fieldLink RX6 27 "IceLanesModel" "s" "LIceLanesModel$State;") (by decide +kernel)) (fun _ h9 => h9) rfl dX6_counted_56 ?_
              refine va_getN (D := D) (ci := 5) (v := .ref (d 2)) (C := RX5) (T := TX5) (N := 8) hx hb hts hiX5 hown hK.1 hP 5 rfl rfl 5 (by decide) (va_Nw.use rfl (nX6_78 hN)) (fun _ h9 => h9) rfl dX6_counted_59 ?_
              refine lv_iload hx hb dX6_counted_62 (lv_at hl 5 rfl) ?_
              refine va_iald hx hb hK.1 hP 7 0 rfl rfl (by first | assumption | exact vp_in_nI (by omega) (by decide)) dX6_counted_64 ?_
              rw [nI_clamp (n := k2) (by omega)]
              refine lv_iadd hx hb dX6_counted_65 ?_
              refine lv_istore_n (lv' := [(3, .int ((sumF (σ 4) k2) + (σ 4 k2))), (0, .ref (b 0)), (1, .int (nI w)), (2, .ref q_1), (4, .int (cntF (fun j => decide (σ 3 j = 0)) k2)), (5, .int (nI k2))]) hx hb dX6_counted_66 rfl hl (by decide) rfl (fun ls hl => ?_)
              refine lv_iload hx hb dX6_counted_67 (lv_at hl 4 rfl) ?_
              refine lv_aload_n hx hb dX6_counted_69 rfl (lv_at hl 1 rfl) ?_
              refine va_get (D := D) (ci := 6) (v := .ref (d 0)) (C := RX6) (T := TX6) (N := 8) hx hb hts hiX6 hown hK.1 hP 0 rfl rfl 6 (by decide) (hts (.fieldLink RX6 27 "IceLanesModel" "s" "LIceLanesModel$State;") (by decide +kernel)) (fun _ h9 => h9) rfl dX6_counted_70 ?_
              refine va_getN (D := D) (ci := 5) (v := .ref (d 1)) (C := RX5) (T := TX5) (N := 8) hx hb hts hiX5 hown hK.1 hP 5 rfl rfl 4 (by decide) (va_Nw.use rfl (nX6_40 hN)) (fun _ h9 => h9) rfl dX6_counted_73 ?_
              refine lv_iload hx hb dX6_counted_76 (lv_at hl 5 rfl) ?_
              refine va_iald hx hb hK.1 hP 6 0 rfl rfl (by first | assumption | exact vp_in_nI (by omega) (by decide)) dX6_counted_78 ?_
              rw [nI_clamp (n := k2) (by omega)]
              refine lv_if_ne (tgt := 86) hx hb dX6_counted_79 (by decide) (fun c_5 => ?_) (fun c_5 => ?_)
              · skip
                refine lv_iconst (v := 0) hx hb dX6_counted_86 (by decide) ?_
                refine lv_iadd hx hb dX6_counted_87 ?_
                refine lv_istore (lv' := [(4, .int ((cntF (fun j => decide (σ 3 j = 0)) k2) + 0)), (3, .int ((sumF (σ 4) k2) + (σ 4 k2))), (0, .ref (b 0)), (1, .int (nI w)), (2, .ref q_1), (5, .int (nI k2))]) hx hb dX6_counted_88 hl (by decide) rfl (fun ls hl => ?_)
                have hl : lv_has ls 6 [(4, .int (cntF (fun j => decide (σ 3 j = 0)) (k2 + 1))), (3, .int ((sumF (σ 4) k2) + (σ 4 k2))), (0, .ref (b 0)), (1, .int (nI w)), (2, .ref q_1), (5, .int (nI k2))] := by rw [show cntF (fun j => decide (σ 3 j = 0)) (k2 + 1) = (cntF (fun j => decide (σ 3 j = 0)) k2) + 0 from (by first | exact cnt_t (decide_eq_true (by assumption)) | exact cnt_f0 (fun z => absurd (of_decide_eq_true z) (by assumption)))]; exact hl
                refine lv_iinc (v := nI (k2 + 1)) (lv' := [(5, .int (nI (k2 + 1))), (4, .int (cntF (fun j => decide (σ 3 j = 0)) (k2 + 1))), (3, .int ((sumF (σ 4) k2) + (σ 4 k2))), (0, .ref (b 0)), (1, .int (nI w)), (2, .ref q_1)]) hx hb dX6_counted_90 hl (k := 5) rfl (nI_1 k2) (by decide) rfl (fun ls hl => ?_)
                refine lv_goto (tgt := 47) hx hb dX6_counted_93 (by decide) ?_
                exact ih47 (k2 + 1) (by omega) (by omega) _ _ hP hD hS ls (lv_sub hl [3, 4, 5, 2, 1, 0] rfl)
              · skip
                refine lv_iconst (v := 1) hx hb dX6_counted_82 (by decide) ?_
                refine lv_goto (tgt := 87) hx hb dX6_counted_83 (by decide) ?_
                refine lv_iadd hx hb dX6_counted_87 ?_
                refine lv_istore (lv' := [(4, .int ((cntF (fun j => decide (σ 3 j = 0)) k2) + 1)), (3, .int ((sumF (σ 4) k2) + (σ 4 k2))), (0, .ref (b 0)), (1, .int (nI w)), (2, .ref q_1), (5, .int (nI k2))]) hx hb dX6_counted_88 hl (by decide) rfl (fun ls hl => ?_)
                have hl : lv_has ls 6 [(4, .int (cntF (fun j => decide (σ 3 j = 0)) (k2 + 1))), (3, .int ((sumF (σ 4) k2) + (σ 4 k2))), (0, .ref (b 0)), (1, .int (nI w)), (2, .ref q_1), (5, .int (nI k2))] := by rw [show cntF (fun j => decide (σ 3 j = 0)) (k2 + 1) = (cntF (fun j => decide (σ 3 j = 0)) k2) + 1 from (by first | exact cnt_t (decide_eq_true (by assumption)) | exact cnt_f0 (fun z => absurd (of_decide_eq_true z) (by assumption)))]; exact hl
                refine lv_iinc (v := nI (k2 + 1)) (lv' := [(5, .int (nI (k2 + 1))), (4, .int (cntF (fun j => decide (σ 3 j = 0)) (k2 + 1))), (3, .int ((sumF (σ 4) k2) + (σ 4 k2))), (0, .ref (b 0)), (1, .int (nI w)), (2, .ref q_1)]) hx hb dX6_counted_90 hl (k := 5) rfl (nI_1 k2) (by decide) rfl (fun ls hl => ?_)
                refine lv_goto (tgt := 47) hx hb dX6_counted_93 (by decide) ?_
                exact ih47 (k2 + 1) (by omega) (by omega) _ _ hP hD hS ls (lv_sub hl [3, 4, 5, 2, 1, 0] rfl)
        exact loop47 37 0 (by omega) (by omega) _ _ hP hD hS ls (lv_sub hl [3, 4, 5, 2, 1, 0] rfl)
      · skip
        rw [hnc] at c_2
        have hk2 : k < nc := lp_nge (N := nc) (k := k) c_2 (by omega) (by omega)
        refine lv_aload_n hx hb dX6_counted_17 rfl (lv_at hl 2 rfl) ?_
        refine lv_aload_n hx hb dX6_counted_18 rfl (lv_at hl 0 rfl) ?_
        refine va_get (D := D) (ci := 6) (v := .ref (d 0)) (C := RX6) (T := TX6) (N := 8) hx hb hts hiX6 hown hK.1 hP 0 rfl rfl 6 (by decide) (hts (.fieldLink RX6 27 "IceLanesModel" "s" "LIceLanesModel$State;") (by decide +kernel)) (fun _ h9 => h9) rfl dX6_counted_19 ?_
        refine lv_iload_n hx hb dX6_counted_22 rfl (lv_at hl 3 rfl) ?_
        refine lv_bipush (v := 6) hx hb dX6_counted_23 (by decide) ?_
        refine rd_i (va_runV (As := [.int (nI k), .int 6]) (rest := [.ref q_1]) ⟨hx, hb, hml, hown, hts⟩ (M_X5_get l D cI d (b 0) σ k 6 (by first | assumption | omega) (by first | assumption | omega)) (cwV 2 hts gX6_counted_X5_get rfl rfl rfl (by decide +kernel) ⟨Nat.le_of_ble_eq_true rfl, Nat.le_of_ble_eq_true rfl⟩) (rdV hK hP [5, 6, 7, 8] [0] rfl rfl (ci := 5) (q0 := 5) rfl rfl) rfl rfl hl.1 rfl (lv_room (Nat.le_of_ble_eq_true rfl)) dX6_counted_25 ⟨Nat.le_of_ble_eq_true rfl, Nat.le_of_ble_eq_true rfl⟩) ?_
        refine W.eq (g2 := F0 m 28 ls [.int (σ 11 k), .ref q_1]) rfl ?_
        refine lv_dup2_11 hx hb dX6_counted_28 rfl rfl ?_
        refine va_iald hx hb hK.1 hP 13 0 rfl rfl (st_in (hokj k hk2)) dX6_counted_29 ?_
        refine lv_iconst (v := 1) hx hb dX6_counted_30 (by decide) ?_
        refine lv_iadd hx hb dX6_counted_31 ?_
        refine va_iast hx hb hK.1 hP hD hS 13 0 rfl rfl (st_in (hokj k hk2)) dX6_counted_32 (fun H locs hP hD hS => ?_)
        have hP : va_P D vwCl ((wMod b d d2 cI σ σ2 ω) ++ [(q_1, .inl (cI, 4, .inl (upd hw (σ 11 k).toNatClampNeg ((hw (σ 11 k).toNatClampNeg) + 1))))]) H := hP
        have hD : va_D A ((wMod b d d2 cI σ σ2 ω) ++ [(q_1, .inl (cI, 4, .inl (upd hw (σ 11 k).toNatClampNeg ((hw (σ 11 k).toNatClampNeg) + 1))))]) := hD
        refine lv_iinc (v := nI (k + 1)) (lv' := [(3, .int (nI (k + 1))), (0, .ref (b 0)), (1, .int (nI w)), (2, .ref q_1)]) hx hb dX6_counted_33 hl (k := 3) rfl (nI_1 k) (by decide) rfl (fun ls hl => ?_)
        refine lv_goto (tgt := 6) hx hb dX6_counted_36 (by decide) ?_
        exact ih6 (k + 1) _ (by omega) ⟨by omega, (by rw [hhw]; rfl)⟩ _ _ hP hD hS ls (lv_sub hl [1, 2, 3, 0] rfl)
  exact loop6 (nc + 1) 0 _ (by omega) ⟨by omega, rfl⟩ _ _ hP hD hS ls (lv_sub hl [2, 3, 1, 0] rfl)
set_option maxHeartbeats 4000000 in
set_option maxRecDepth 100000 in
theorem M_X6_count_e1 (l : Launch) (D : va_G) (cI : ClassId) (b : Nat → Nat) (d : Nat → Nat) (d2 : Nat → Nat) (σ : St) (σ2 : St) (ω : St) (p0 : Int32) (sz : Nat) (h1 : ¬ (0 ≤ p0 ∧ p0 ≤ 10)) : Met l yX6_count wsX6_count ({ frames := 1, cells := 0, slots := 0, locals := 22 } : Room) (wrPc [.ref (b 0), .int p0] D (wMod b d d2 cI σ σ2 ω) [(cI, .int)] sz) (wrQi 0 D (wMod b d d2 cI σ σ2 (put ω 20 (fun _ => 1))) (va_A (wMod b d d2 cI σ σ2 ω) sz)) 0 0 (va_A (wMod b d d2 cI σ σ2 ω) sz) := by
  refine Met.ofW (cc := cX6_count) (maxL := 2) (ret := (some .int)) (by decide) rfl ?_
  intro p e s m args below meth c s₁ B hml hv
  obtain ⟨hargs, hsz, hP, hK, hD0⟩ := hv
  have hx := B.exec
  have hb := B.bytes
  have hr := B.returns
  have hts := atoms_spec (ws := wsX6_count) B.pre
  have hown : s.vm.findClass RX6 = some m.cls := findClass_of_methodNamed B.named
  have hlocks := B.notSynchronized
  obtain ⟨_, hN⟩ := id hK
  have hiX6 : ∀ w ∈ wsX60, w ∈ wsX6_count := by decide +kernel
  subst hsz
  have hD := hD0.self (sz := s.heap.size)
  generalize hAe : va_A (wMod b d d2 cI σ σ2 ω) s.heap.size = A at hD ⊢
  have hA : ∀ q : Nat, s.heap.size ≤ q → A q := fun q h => by rw [← hAe]; exact Or.inr h
  have hS : va_S A s.heap s.heap [] := va_S.rf
  have hP : va_P D vwCl (wMod b d d2 cI σ σ2 ω) s.heap := hP
  refine my_abs (fun Q hQ => ?_)
  obtain ⟨ls, hl, hent⟩ := my_entry (m := m) (n := 2) hargs (Nat.le_of_ble_eq_true rfl)
  rw [hent]
  have hl : lv_has ls 2 [(0, .ref (b 0)), (1, .int p0)] := hl
  show W p l e ({ frames := 1, cells := 0, slots := 0, locals := 22 } : Room) s m args below meth c s.heap [] 0 0 Q (F0 m 0 ls [])
  refine lv_aload_n hx hb dX6_count_0 rfl (lv_at hl 0 rfl) ?_
  refine lv_iconst (v := 0) hx hb dX6_count_1 (by decide) ?_
  refine va_put (D := D) (ci := 6) (v := .int 0) (ty := .int) (C := RX6) (T := TX6) (N := 8) hx hb hts hiX6 tyX6 tyX6_ok nmX6 hown hK.1 hP hD hS 0 rfl rfl 0 (by decide) (hts (.fieldLink RX6 43 "IceLanesModel" "thrown" "I") (by decide +kernel)) (fun _ h9 => h9) rfl (by decide +kernel) rfl rfl (Nat.le_of_ble_eq_true rfl) dX6_count_2 (fun H locs hP hD hS => ?_)
  have hP : va_P D vwCl (wOutE b d d2 cI 0 (ω 19 0) (ω 1) (ω 2) (ω 14) (ω 15) ++ (wSta d (b 0) cI σ ++ wSta d2 (b 0) cI σ2)) H := hP
  have hD : va_D A (wOutE b d d2 cI 0 (ω 19 0) (ω 1) (ω 2) (ω 14) (ω 15) ++ (wSta d (b 0) cI σ ++ wSta d2 (b 0) cI σ2)) := hD
  refine lv_iload_n hx hb dX6_count_5 rfl (lv_at hl 1 rfl) ?_
  refine lv_iconst (v := 0) hx hb dX6_count_6 (by decide) ?_
  refine lv_bipush (v := 10) hx hb dX6_count_7 (by decide) ?_
  refine rd_i (va_runS (As := [.int p0, .int 0, .int 10]) (rest := []) ⟨hx, hb, hml, hown, hts⟩ (M_X6_isIn l D cI p0 0 10 ) (va_cwS 3 hts gX6_count_X6_isIn rfl rfl rfl (by decide +kernel) ⟨Nat.le_of_ble_eq_true rfl, Nat.le_of_ble_eq_true rfl⟩) (rdS hK hP [] [0] rfl rfl) rfl rfl hl.1 rfl (lv_room (Nat.le_of_ble_eq_true rfl)) dX6_count_9 ⟨Nat.zero_le _, Nat.zero_le _⟩) ?_
  refine lv_if_eq (tgt := 23) hx hb dX6_count_12 (by decide) (fun c_1 => ?_) (fun c_1 => ?_)
  · skip
    have c_1 : ¬ (0 ≤ p0 ∧ p0 ≤ 10) := bI_z.mp c_1
    refine lv_aload_n hx hb dX6_count_23 rfl (lv_at hl 0 rfl) ?_
    refine lv_iconst (v := 1) hx hb dX6_count_24 (by decide) ?_
    refine wr_i (wn := wOutE b d d2 cI 1 (ω 19 0) (ω 1) (ω 2) (ω 14) (ω 15) ++ (wSta d (b 0) cI σ ++ wSta d2 (b 0) cI σ2)) (va_runV (As := [.int 1]) (rest := []) ⟨hx, hb, hml, hown, hts⟩ (M_X6_no l D cI b d d2 σ σ2 (put ω 20 (fun _ => 0)) 1 _ ) (cwV 1 hts gX6_count_X6_no rfl rfl rfl (by decide +kernel) ⟨Nat.le_of_ble_eq_true rfl, Nat.le_of_ble_eq_true rfl⟩) (wrV hK hP hD [0, 1, 2, 3, 4, 5, 6, 7, 8, 9, 10, 11, 12] [0] rfl rfl rfl (ci := 6) (q0 := 0) rfl rfl) rfl rfl hl.1 rfl (lv_room (Nat.le_of_ble_eq_true rfl)) dX6_count_25 ⟨Nat.le_of_ble_eq_true rfl, Nat.le_of_ble_eq_true rfl⟩) hP hD hS hA [0, 1, 2, 3, 4, 5, 6, 7, 8, 9, 10, 11, 12] [] [0, 1, 2, 3, 4, 5, 6, 7, 8, 9, 10, 11, 12] rfl rfl rfl rfl rfl rfl (fun H locs hP hD hS => ?_)
    refine W.eq (g2 := F0 m 28 ls [.int 0]) rfl ?_
    subst hQ
    have hP : va_P D vwCl (wMod b d d2 cI σ σ2 (put ω 20 (fun _ => 1))) H := hP
    have hD : va_D A (wMod b d d2 cI σ σ2 (put ω 20 (fun _ => 1))) := hD
    exact ret_wri hx hb hr rfl hlocks hP hD hS (show 0 = 0 from rfl) dX6_count_28
  · skip
    have c_1 : (0 ≤ p0 ∧ p0 ≤ 10) := bI_nz.mp c_1
    first | exact absurd c_1 (by assumption) | exact absurd (by assumption) c_1
set_option maxHeartbeats 4000000 in
set_option maxRecDepth 100000 in
theorem M_X6_count_ok (l : Launch) (D : va_G) (cI : ClassId) (b : Nat → Nat) (d : Nat → Nat) (d2 : Nat → Nat) (σ : St) (σ2 : St) (ω : St) (w : Nat) (nc : Nat) (nw : Nat) (sz : Nat) (h1 : (0 ≤ nI w ∧ nI w ≤ 10)) (hw11 : w < 11) (hnc : σ 17 0 = nI nc) (hn8 : nc ≤ 8) (hokj : ∀ j, j < nc → okC σ j) (hnw : ω 19 0 = nI nw) (hw12 : nw ≤ 12) : Met l yX6_count wsX6_count ({ frames := 2, cells := 2, slots := 15, locals := 47 } : Room) (wrPc [.ref (b 0), .int (nI w)] D (wMod b d d2 cI σ σ2 ω) [(cI, .int)] sz) (wrQi (ctF σ ω nc nw w) D (wMod b d d2 cI σ σ2 (put ω 20 (fun _ => 0))) (va_A (wMod b d d2 cI σ σ2 ω) sz)) 2 15 (va_A (wMod b d d2 cI σ σ2 ω) sz) := by
  refine Met.ofW (cc := cX6_count) (maxL := 2) (ret := (some .int)) (by decide) rfl ?_
  intro p e s m args below meth c s₁ B hml hv
  obtain ⟨hargs, hsz, hP, hK, hD0⟩ := hv
  have hx := B.exec
  have hb := B.bytes
  have hr := B.returns
  have hts := atoms_spec (ws := wsX6_count) B.pre
  have hown : s.vm.findClass RX6 = some m.cls := findClass_of_methodNamed B.named
  have hlocks := B.notSynchronized
  obtain ⟨_, hN⟩ := id hK
  have hiX6 : ∀ w ∈ wsX60, w ∈ wsX6_count := by decide +kernel
  subst hsz
  have hD := hD0.self (sz := s.heap.size)
  generalize hAe : va_A (wMod b d d2 cI σ σ2 ω) s.heap.size = A at hD ⊢
  have hA : ∀ q : Nat, s.heap.size ≤ q → A q := fun q h => by rw [← hAe]; exact Or.inr h
  have hS : va_S A s.heap s.heap [] := va_S.rf
  have hP : va_P D vwCl (wMod b d d2 cI σ σ2 ω) s.heap := hP
  refine my_abs (fun Q hQ => ?_)
  obtain ⟨ls, hl, hent⟩ := my_entry (m := m) (n := 2) hargs (Nat.le_of_ble_eq_true rfl)
  rw [hent]
  have hl : lv_has ls 2 [(0, .ref (b 0)), (1, .int (nI w))] := hl
  show W p l e ({ frames := 2, cells := 2, slots := 15, locals := 47 } : Room) s m args below meth c s.heap [] 0 0 Q (F0 m 0 ls [])
  refine lv_aload_n hx hb dX6_count_0 rfl (lv_at hl 0 rfl) ?_
  refine lv_iconst (v := 0) hx hb dX6_count_1 (by decide) ?_
  refine va_put (D := D) (ci := 6) (v := .int 0) (ty := .int) (C := RX6) (T := TX6) (N := 8) hx hb hts hiX6 tyX6 tyX6_ok nmX6 hown hK.1 hP hD hS 0 rfl rfl 0 (by decide) (hts (.fieldLink RX6 43 "IceLanesModel" "thrown" "I") (by decide +kernel)) (fun _ h9 => h9) rfl (by decide +kernel) rfl rfl (Nat.le_of_ble_eq_true rfl) dX6_count_2 (fun H locs hP hD hS => ?_)
  have hP : va_P D vwCl (wOutE b d d2 cI 0 (ω 19 0) (ω 1) (ω 2) (ω 14) (ω 15) ++ (wSta d (b 0) cI σ ++ wSta d2 (b 0) cI σ2)) H := hP
  have hD : va_D A (wOutE b d d2 cI 0 (ω 19 0) (ω 1) (ω 2) (ω 14) (ω 15) ++ (wSta d (b 0) cI σ ++ wSta d2 (b 0) cI σ2)) := hD
  refine lv_iload_n hx hb dX6_count_5 rfl (lv_at hl 1 rfl) ?_
  refine lv_iconst (v := 0) hx hb dX6_count_6 (by decide) ?_
  refine lv_bipush (v := 10) hx hb dX6_count_7 (by decide) ?_
  refine rd_i (va_runS (As := [.int (nI w), .int 0, .int 10]) (rest := []) ⟨hx, hb, hml, hown, hts⟩ (M_X6_isIn l D cI (nI w) 0 10 ) (va_cwS 3 hts gX6_count_X6_isIn rfl rfl rfl (by decide +kernel) ⟨Nat.le_of_ble_eq_true rfl, Nat.le_of_ble_eq_true rfl⟩) (rdS hK hP [] [0] rfl rfl) rfl rfl hl.1 rfl (lv_room (Nat.le_of_ble_eq_true rfl)) dX6_count_9 ⟨Nat.le_of_ble_eq_true rfl, Nat.le_of_ble_eq_true rfl⟩) ?_
  refine lv_if_eq (tgt := 23) hx hb dX6_count_12 (by decide) (fun c_1 => ?_) (fun c_1 => ?_)
  · skip
    have c_1 : ¬ (0 ≤ (nI w) ∧ (nI w) ≤ 10) := bI_z.mp c_1
    first | exact absurd c_1 (by assumption) | exact absurd (by assumption) c_1
  · skip
    have c_1 : (0 ≤ (nI w) ∧ (nI w) ≤ 10) := bI_nz.mp c_1
    refine lv_aload_n hx hb dX6_count_15 rfl (lv_at hl 0 rfl) ?_
    refine lv_iload_n hx hb dX6_count_16 rfl (lv_at hl 1 rfl) ?_
    refine wr_i (wn := wOutE b d d2 cI 0 (ω 19 0) (ω 1) (ω 2) (ω 14) (ω 15) ++ (wSta d (b 0) cI σ ++ wSta d2 (b 0) cI σ2)) (va_runV (As := [.int (nI w)]) (rest := []) ⟨hx, hb, hml, hown, hts⟩ (M_X6_counted l D cI b d d2 σ σ2 (put ω 20 (fun _ => 0)) w nc nw _ (by first | assumption | omega) (by first | assumption | omega) (by first | assumption | omega) (by first | assumption | omega) (by first | assumption | omega) (by first | assumption | omega)) (cwV 1 hts gX6_count_X6_counted rfl rfl rfl (by decide +kernel) ⟨Nat.le_of_ble_eq_true rfl, Nat.le_of_ble_eq_true rfl⟩) (wrV hK hP hD [0, 1, 2, 3, 4, 5, 6, 7, 8, 9, 10, 11, 12] [0] rfl rfl rfl (ci := 6) (q0 := 0) rfl rfl) rfl rfl hl.1 rfl (lv_room (Nat.le_of_ble_eq_true rfl)) dX6_count_17 ⟨Nat.le_of_ble_eq_true rfl, Nat.le_of_ble_eq_true rfl⟩) hP hD hS hA [0, 1, 2, 3, 4, 5, 6, 7, 8, 9, 10, 11, 12] [] [0, 1, 2, 3, 4, 5, 6, 7, 8, 9, 10, 11, 12] rfl rfl rfl rfl rfl rfl (fun H locs hP hD hS => ?_)
    refine W.eq (g2 := F0 m 20 ls [.int (ctF σ (put ω 20 (fun _ => 0)) nc nw w)]) rfl ?_
    refine lv_goto (tgt := 28) hx hb dX6_count_20 (by decide) ?_
    subst hQ
    have hP : va_P D vwCl (wMod b d d2 cI σ σ2 (put ω 20 (fun _ => 0))) H := hP
    have hD : va_D A (wMod b d d2 cI σ σ2 (put ω 20 (fun _ => 0))) := hD
    exact ret_wri hx hb hr rfl hlocks hP hD hS (show ctF σ (put ω 20 (fun _ => 0)) nc nw w = ctF σ ω nc nw w from rfl) dX6_count_28
