set_option maxHeartbeats 4000000 in
set_option maxRecDepth 100000 in
theorem M_X6_digest_ok (l : Launch) (D : va_G) (cI : ClassId) (b : Nat → Nat) (d : Nat → Nat) (d2 : Nat → Nat) (σ : St) (σ2 : St) (ω : St) (nc : Nat) (nw : Nat) (sz : Nat) (hnc : σ 17 0 = nI nc) (hn8 : nc ≤ 8) (hokj : ∀ j, j < nc → okC σ j) (hnw : ω 19 0 = nI nw) (hw12 : nw ≤ 12) : Met l yX6_digest wsX6_digest ({ frames := 2, cells := 22, slots := 165, locals := 47 } : Room) (wrPc [.ref (b 0)] D (wMod b d d2 cI σ σ2 ω) [(cI, .int)] sz) (wrQl (dgF σ ω nc nw) D (wMod b d d2 cI σ σ2 (put ω 20 (fun _ => 0))) (va_A (wMod b d d2 cI σ σ2 ω) sz)) 22 165 (va_A (wMod b d d2 cI σ σ2 ω) sz) := by
  refine Met.ofW (cc := cX6_digest) (maxL := 4) (ret := (some .long)) (by decide) rfl ?_
  intro p e s m args below meth c s₁ B hml hv
  obtain ⟨hargs, hsz, hP, hK, hD0⟩ := hv
  have hx := B.exec
  have hb := B.bytes
  have hr := B.returns
  have hts := atoms_spec (ws := wsX6_digest) B.pre
  have hown : s.vm.findClass RX6 = some m.cls := findClass_of_methodNamed B.named
  have hlocks := B.notSynchronized
  obtain ⟨_, hN⟩ := id hK
  have hiX5 : ∀ w ∈ wsX50, w ∈ wsX6_digest := by decide +kernel
  have hiX6 : ∀ w ∈ wsX60, w ∈ wsX6_digest := by decide +kernel
  subst hsz
  have hD := hD0.self (sz := s.heap.size)
  generalize hAe : va_A (wMod b d d2 cI σ σ2 ω) s.heap.size = A at hD ⊢
  have hA : ∀ q : Nat, s.heap.size ≤ q → A q := fun q h => by rw [← hAe]; exact Or.inr h
  have hS : va_S A s.heap s.heap [] := va_S.rf
  have hP : va_P D vwCl (wMod b d d2 cI σ σ2 ω) s.heap := hP
  refine my_abs (fun Q hQ => ?_)
  obtain ⟨ls, hl, hent⟩ := my_entry (m := m) (n := 4) hargs (Nat.le_of_ble_eq_true rfl)
  rw [hent]
  have hl : lv_has ls 4 [(0, .ref (b 0))] := hl
  show W p l e ({ frames := 2, cells := 22, slots := 165, locals := 47 } : Room) s m args below meth c s.heap [] 0 0 Q (F0 m 0 ls [])
  refine lv_aload_n hx hb dX6_digest_0 rfl (lv_at hl 0 rfl) ?_
  refine lv_iconst (v := 0) hx hb dX6_digest_1 (by decide) ?_
  refine va_put (D := D) (ci := 6) (v := .int 0) (ty := .int) (C := RX6) (T := TX6) (N := 8) hx hb hts hiX6 tyX6 tyX6_ok nmX6 hown hK.1 hP hD hS 0 rfl rfl 0 (by decide) (hts (.fieldLink RX6 43 "IceLanesModel" "thrown" "I") (by decide +kernel)) (fun _ h9 => h9) rfl (by decide +kernel) rfl rfl (Nat.le_of_ble_eq_true rfl) dX6_digest_2 (fun H locs hP hD hS => ?_)
  have hP : va_P D vwCl (wOutE b d d2 cI 0 (ω 19 0) (ω 1) (ω 2) (ω 14) (ω 15) ++ (wSta d (b 0) cI σ ++ wSta d2 (b 0) cI σ2)) H := hP
  have hD : va_D A (wOutE b d d2 cI 0 (ω 19 0) (ω 1) (ω 2) (ω 14) (ω 15) ++ (wSta d (b 0) cI σ ++ wSta d2 (b 0) cI σ2)) := hD
  refine lv_ldc2 (v := 757) hx hb hown (hts (.constantLong RX6 143 (757)) (by decide +kernel)) dX6_digest_5 ?_
  refine lv_lstore_n (lv' := [(1, .long 757), (0, .ref (b 0))]) hx hb dX6_digest_8 rfl hl (by decide) rfl (fun ls hl => ?_)
  refine lv_iconst (v := 0) hx hb dX6_digest_9 (by decide) ?_
  refine lv_istore_n (lv' := [(3, .int 0), (1, .long 757), (0, .ref (b 0))]) hx hb dX6_digest_10 rfl hl (by decide) rfl (fun ls hl => ?_)
  have loop11 : ∀ (n : Nat) (k1 : Nat), 11 - k1 < n → k1 ≤ 11 → ∀ (H : Heap) (locs : List Loc), va_P D vwCl (wOutE b d d2 cI 0 (ω 19 0) (ω 1) (ω 2) (ω 14) (ω 15) ++ (wSta d (b 0) cI σ ++ wSta d2 (b 0) cI σ2)) H → va_D A (wOutE b d d2 cI 0 (ω 19 0) (ω 1) (ω 2) (ω 14) (ω 15) ++ (wSta d (b 0) cI σ ++ wSta d2 (b 0) cI σ2)) → va_S A s.heap H locs → ∀ (ls : Array Slot), lv_has ls 4 [(0, .ref (b 0)), (1, .long (fdF (fun w => ctF σ ω nc nw w) 757 k1)), (3, .int (nI k1))] → W p l e ({ frames := 2, cells := 22, slots := 165, locals := 47 } : Room) s m args below meth c H locs (2 * k1) (15 * k1) Q (F0 m 11 ls []) := by
    intro n
    induction n with
    | zero => intro k1  hf; exact absurd hf (Nat.not_lt_zero _)
    | succ n ih11 =>
      intro k1  hf hk1 H locs hP hD hS ls hl
      refine lv_iload_n hx hb dX6_digest_11 rfl (lv_at hl 2 rfl) ?_
      refine lv_bipush (v := 10) hx hb dX6_digest_12 (by decide) ?_
      refine lv_icmp_gt (tgt := 36) hx hb dX6_digest_14 (by decide) (fun c_1 => ?_) (fun c_1 => ?_)
      · skip
        have hk2 : 10 < k1 := lp_gt (N := 10) (k := k1) c_1 (by omega) (by omega)
        refine lv_iconst (v := 0) hx hb dX6_digest_36 (by decide) ?_
        refine lv_istore_n (lv' := [(3, .int 0), (0, .ref (b 0)), (1, .long (fdF (fun w => ctF σ ω nc nw w) 757 k1))]) hx hb dX6_digest_37 rfl hl (by decide) rfl (fun ls hl => ?_)
        have hl : lv_has ls 4 [(3, .int 0), (0, .ref (b 0)), (1, .long (dg1 σ ω nc nw))] := by rw [show dg1 σ ω nc nw = fdF (fun w => ctF σ ω nc nw w) 757 k1 from (by unfold dg1; rw [show k1 = 11 by omega])]; exact hl
        have loop38 : ∀ (n : Nat) (k2 : Nat), 14 - k2 < n → k2 ≤ 14 → ∀ (H : Heap) (locs : List Loc), va_P D vwCl (wOutE b d d2 cI 0 (ω 19 0) (ω 1) (ω 2) (ω 14) (ω 15) ++ (wSta d (b 0) cI σ ++ wSta d2 (b 0) cI σ2)) H → va_D A (wOutE b d d2 cI 0 (ω 19 0) (ω 1) (ω 2) (ω 14) (ω 15) ++ (wSta d (b 0) cI σ ++ wSta d2 (b 0) cI σ2)) → va_S A s.heap H locs → ∀ (ls : Array Slot), lv_has ls 4 [(0, .ref (b 0)), (1, .long (fdF (ω 1) (dg1 σ ω nc nw) k2)), (3, .int (nI k2))] → W p l e ({ frames := 2, cells := 22, slots := 165, locals := 47 } : Room) s m args below meth c H locs (2 * k1) (15 * k1) Q (F0 m 38 ls []) := by
          intro n
          induction n with
          | zero => intro k2  hf; exact absurd hf (Nat.not_lt_zero _)
          | succ n ih38 =>
            intro k2  hf hk2 H locs hP hD hS ls hl
            refine lv_iload_n hx hb dX6_digest_38 rfl (lv_at hl 2 rfl) ?_
            refine lv_bipush (v := 14) hx hb dX6_digest_39 (by decide) ?_
            refine lv_icmp_ge (tgt := 64) hx hb dX6_digest_41 (by decide) (fun c_2 => ?_) (fun c_2 => ?_)
            · skip
              have hk2 : 14 ≤ k2 := lp_ge (N := 14) (k := k2) c_2 (by omega) (by omega)
              refine lv_iconst (v := 0) hx hb dX6_digest_64 (by decide) ?_
              refine lv_istore_n (lv' := [(3, .int 0), (0, .ref (b 0)), (1, .long (fdF (ω 1) (dg1 σ ω nc nw) k2))]) hx hb dX6_digest_65 rfl hl (by decide) rfl (fun ls hl => ?_)
              have hl : lv_has ls 4 [(3, .int 0), (0, .ref (b 0)), (1, .long (fdF (ω 1) (dg1 σ ω nc nw) 14))] := by rw [show fdF (ω 1) (dg1 σ ω nc nw) 14 = fdF (ω 1) (dg1 σ ω nc nw) k2 from (by rw [show k2 = 14 by omega])]; exact hl
              have loop66 : ∀ (n : Nat) (k3 : Nat), 36 - k3 < n → k3 ≤ 36 → ∀ (H : Heap) (locs : List Loc), va_P D vwCl (wOutE b d d2 cI 0 (ω 19 0) (ω 1) (ω 2) (ω 14) (ω 15) ++ (wSta d (b 0) cI σ ++ wSta d2 (b 0) cI σ2)) H → va_D A (wOutE b d d2 cI 0 (ω 19 0) (ω 1) (ω 2) (ω 14) (ω 15) ++ (wSta d (b 0) cI σ ++ wSta d2 (b 0) cI σ2)) → va_S A s.heap H locs → ∀ (ls : Array Slot), lv_has ls 4 [(0, .ref (b 0)), (1, .long (fd2 (σ 3) (σ 4) (fdF (ω 1) (dg1 σ ω nc nw) 14) k3)), (3, .int (nI k3))] → W p l e ({ frames := 2, cells := 22, slots := 165, locals := 47 } : Room) s m args below meth c H locs (2 * k1) (15 * k1) Q (F0 m 66 ls []) := by
                intro n
                induction n with
                | zero => intro k3  hf; exact absurd hf (Nat.not_lt_zero _)
                | succ n ih66 =>
                  intro k3  hf hk3 H locs hP hD hS ls hl
                  refine lv_iload_n hx hb dX6_digest_66 rfl (lv_at hl 2 rfl) ?_
                  refine lv_bipush (v := 36) hx hb dX6_digest_67 (by decide) ?_
                  refine lv_icmp_ge (tgt := 110) hx hb dX6_digest_69 (by decide) (fun c_3 => ?_) (fun c_3 => ?_)
                  · skip
                    have hk2 : 36 ≤ k3 := lp_ge (N := 36) (k := k3) c_3 (by omega) (by omega)
                    refine lv_iconst (v := 0) hx hb dX6_digest_110 (by decide) ?_
                    refine lv_istore_n (lv' := [(3, .int 0), (0, .ref (b 0)), (1, .long (fd2 (σ 3) (σ 4) (fdF (ω 1) (dg1 σ ω nc nw) 14) k3))]) hx hb dX6_digest_111 rfl hl (by decide) rfl (fun ls hl => ?_)
                    have hl : lv_has ls 4 [(3, .int 0), (0, .ref (b 0)), (1, .long (fd2 (σ 3) (σ 4) (fdF (ω 1) (dg1 σ ω nc nw) 14) 36))] := by rw [show fd2 (σ 3) (σ 4) (fdF (ω 1) (dg1 σ ω nc nw) 14) 36 = fd2 (σ 3) (σ 4) (fdF (ω 1) (dg1 σ ω nc nw) 14) k3 from (by rw [show k3 = 36 by omega])]; exact hl
                    have loop112 : ∀ (n : Nat) (k4 : Nat), 12 - k4 < n → k4 ≤ 12 → ∀ (H : Heap) (locs : List Loc), va_P D vwCl (wOutE b d d2 cI 0 (ω 19 0) (ω 1) (ω 2) (ω 14) (ω 15) ++ (wSta d (b 0) cI σ ++ wSta d2 (b 0) cI σ2)) H → va_D A (wOutE b d d2 cI 0 (ω 19 0) (ω 1) (ω 2) (ω 14) (ω 15) ++ (wSta d (b 0) cI σ ++ wSta d2 (b 0) cI σ2)) → va_S A s.heap H locs → ∀ (ls : Array Slot), lv_has ls 4 [(0, .ref (b 0)), (1, .long (fdF (ω 2) (fd2 (σ 3) (σ 4) (fdF (ω 1) (dg1 σ ω nc nw) 14) 36) k4)), (3, .int (nI k4))] → W p l e ({ frames := 2, cells := 22, slots := 165, locals := 47 } : Room) s m args below meth c H locs (2 * k1) (15 * k1) Q (F0 m 112 ls []) := by
                      intro n
                      induction n with
                      | zero => intro k4  hf; exact absurd hf (Nat.not_lt_zero _)
                      | succ n ih112 =>
                        intro k4  hf hk4 H locs hP hD hS ls hl
                        refine lv_iload_n hx hb dX6_digest_112 rfl (lv_at hl 2 rfl) ?_
                        refine lv_bipush (v := 12) hx hb dX6_digest_113 (by decide) ?_
                        refine lv_icmp_ge (tgt := 138) hx hb dX6_digest_115 (by decide) (fun c_4 => ?_) (fun c_4 => ?_)
                        · skip
                          have hk2 : 12 ≤ k4 := lp_ge (N := 12) (k := k4) c_4 (by omega) (by omega)
                          refine lv_iconst (v := 0) hx hb dX6_digest_138 (by decide) ?_
                          refine lv_istore_n (lv' := [(3, .int 0), (0, .ref (b 0)), (1, .long (fdF (ω 2) (fd2 (σ 3) (σ 4) (fdF (ω 1) (dg1 σ ω nc nw) 14) 36) k4))]) hx hb dX6_digest_139 rfl hl (by decide) rfl (fun ls hl => ?_)
                          have hl : lv_has ls 4 [(3, .int 0), (0, .ref (b 0)), (1, .long (dg2 σ ω nc nw))] := by rw [show dg2 σ ω nc nw = fdF (ω 2) (fd2 (σ 3) (σ 4) (fdF (ω 1) (dg1 σ ω nc nw) 14) 36) k4 from (by unfold dg2; rw [show k4 = 12 by omega])]; exact hl
                          have loop140 : ∀ (n : Nat) (k5 : Nat), 9 * nc - k5 < n → k5 ≤ 9 * nc → ∀ (H : Heap) (locs : List Loc), va_P D vwCl (wOutE b d d2 cI 0 (ω 19 0) (ω 1) (ω 2) (ω 14) (ω 15) ++ (wSta d (b 0) cI σ ++ wSta d2 (b 0) cI σ2)) H → va_D A (wOutE b d d2 cI 0 (ω 19 0) (ω 1) (ω 2) (ω 14) (ω 15) ++ (wSta d (b 0) cI σ ++ wSta d2 (b 0) cI σ2)) → va_S A s.heap H locs → ∀ (ls : Array Slot), lv_has ls 4 [(0, .ref (b 0)), (1, .long (fdF (ofC (σ 5) (σ 6) (σ 7) (σ 8) (σ 9) (σ 10) (σ 11) (σ 12) (σ 13)) (dg2 σ ω nc nw) k5)), (3, .int (nI k5))] → W p l e ({ frames := 2, cells := 22, slots := 165, locals := 47 } : Room) s m args below meth c H locs (2 * k1) (15 * k1) Q (F0 m 140 ls []) := by
                            intro n
                            induction n with
                            | zero => intro k5  hf; exact absurd hf (Nat.not_lt_zero _)
                            | succ n ih140 =>
                              intro k5  hf hk5 H locs hP hD hS ls hl
                              refine lv_iload_n hx hb dX6_digest_140 rfl (lv_at hl 2 rfl) ?_
                              refine lv_bipush (v := 9) hx hb dX6_digest_141 (by decide) ?_
                              refine lv_aload_n hx hb dX6_digest_143 rfl (lv_at hl 0 rfl) ?_
                              refine va_get (D := D) (ci := 6) (v := .ref (d 0)) (C := RX6) (T := TX6) (N := 8) hx hb hts hiX6 hown hK.1 hP 0 rfl rfl 6 (by decide) (hts (.fieldLink RX6 27 "IceLanesModel" "s" "LIceLanesModel$State;") (by decide +kernel)) (fun _ h9 => h9) rfl dX6_digest_144 ?_
                              refine va_getN (D := D) (ci := 5) (v := .int (σ 17 0)) (C := RX5) (T := TX5) (N := 8) hx hb hts hiX5 hown hK.1 hP 5 rfl rfl 1 (by decide) (va_Nw.use rfl (nX6_51 hN)) (fun _ h9 => h9) rfl dX6_digest_147 ?_
                              rw [hnc]
                              refine lv_imul hx hb dX6_digest_150 ?_
                              rw [show 9 * nI nc = nI (9 * nc) from pk_mul 9 nc]
                              refine lv_icmp_ge (tgt := 177) hx hb dX6_digest_151 (by decide) (fun c_5 => ?_) (fun c_5 => ?_)
                              · skip
                                have hk2 : 9 * nc ≤ k5 := lp_ge (N := 9 * nc) (k := k5) c_5 (by omega) (by omega)
                                refine lv_iconst (v := 0) hx hb dX6_digest_177 (by decide) ?_
                                refine lv_istore_n (lv' := [(3, .int 0), (0, .ref (b 0)), (1, .long (fdF (ofC (σ 5) (σ 6) (σ 7) (σ 8) (σ 9) (σ 10) (σ 11) (σ 12) (σ 13)) (dg2 σ ω nc nw) k5))]) hx hb dX6_digest_178 rfl hl (by decide) rfl (fun ls hl => ?_)
                                have hl : lv_has ls 4 [(3, .int 0), (0, .ref (b 0)), (1, .long (dg3 σ ω nc nw))] := by rw [show dg3 σ ω nc nw = fdF (ofC (σ 5) (σ 6) (σ 7) (σ 8) (σ 9) (σ 10) (σ 11) (σ 12) (σ 13)) (dg2 σ ω nc nw) k5 from (by unfold dg3; rw [show k5 = 9 * nc by omega])]; exact hl
                                have loop179 : ∀ (n : Nat) (k6 : Nat), nw - k6 < n → k6 ≤ nw → ∀ (H : Heap) (locs : List Loc), va_P D vwCl (wOutE b d d2 cI 0 (ω 19 0) (ω 1) (ω 2) (ω 14) (ω 15) ++ (wSta d (b 0) cI σ ++ wSta d2 (b 0) cI σ2)) H → va_D A (wOutE b d d2 cI 0 (ω 19 0) (ω 1) (ω 2) (ω 14) (ω 15) ++ (wSta d (b 0) cI σ ++ wSta d2 (b 0) cI σ2)) → va_S A s.heap H locs → ∀ (ls : Array Slot), lv_has ls 4 [(0, .ref (b 0)), (1, .long (fd3 (ω 14) (ω 15) (fun k => wonF σ ω nw k) (dg3 σ ω nc nw) k6)), (3, .int (nI k6))] → W p l e ({ frames := 2, cells := 22, slots := 165, locals := 47 } : Room) s m args below meth c H locs (2 * k1) (15 * k1) Q (F0 m 179 ls []) := by
                                  intro n
                                  induction n with
                                  | zero => intro k6  hf; exact absurd hf (Nat.not_lt_zero _)
                                  | succ n ih179 =>
                                    intro k6  hf hk6 H locs hP hD hS ls hl
                                    refine lv_iload_n hx hb dX6_digest_179 rfl (lv_at hl 2 rfl) ?_
                                    refine lv_aload_n hx hb dX6_digest_180 rfl (lv_at hl 0 rfl) ?_
                                    refine va_get (D := D) (ci := 6) (v := .int (ω 19 0)) (C := RX6) (T := TX6) (N := 8) hx hb hts hiX6 hown hK.1 hP 0 rfl rfl 3 (by decide) (hts (.fieldLink RX6 107 "IceLanesModel" "wagers" "I") (by decide +kernel)) (fun _ h9 => h9) rfl dX6_digest_181 ?_
                                    refine lv_icmp_ge (tgt := 230) hx hb dX6_digest_184 (by decide) (fun c_6 => ?_) (fun c_6 => ?_)
                                    · skip
                                      rw [hnw] at c_6
                                      have hk2 : nw ≤ k6 := lp_ge (N := nw) (k := k6) c_6 (by omega) (by omega)
                                      refine lv_lload_n hx hb dX6_digest_230 rfl (lv_at hl 1 rfl) ?_
                                      subst hQ
                                      have hP : va_P D vwCl (wMod b d d2 cI σ σ2 (put ω 20 (fun _ => 0))) H := hP
                                      have hD : va_D A (wMod b d d2 cI σ σ2 (put ω 20 (fun _ => 0))) := hD
                                      refine W.widen (k := 22) (n := 165) (by omega) (by omega) ?_
                                      exact ret_wrl hx hb hr hlocks hP hD hS (show fd3 (ω 14) (ω 15) (fun k => wonF σ ω nw k) (dg3 σ ω nc nw) k6 = dgF σ ω nc nw from (by unfold dgF; rw [show k6 = nw by omega])) dX6_digest_231
                                    · skip
                                      rw [hnw] at c_6
                                      have hk2 : k6 < nw := lp_nge (N := nw) (k := k6) c_6 (by omega) (by omega)
                                      refine lv_lload_n hx hb dX6_digest_187 rfl (lv_at hl 1 rfl) ?_
                                      refine lv_ldc2 (v := 31) hx hb hown (hts (.constantLong RX6 145 (31)) (by decide +kernel)) dX6_digest_188 ?_
                                      refine lv_lmul hx hb dX6_digest_191 ?_
                                      refine lv_aload_n hx hb dX6_digest_192 rfl (lv_at hl 0 rfl) ?_
                                      refine va_get (D := D) (ci := 6) (v := .ref (b 3)) (C := RX6) (T := TX6) (N := 8) hx hb hts hiX6 hown hK.1 hP 0 rfl rfl 4 (by decide) (hts (.fieldLink RX6 16 "IceLanesModel" "day" "[I") (by decide +kernel)) (fun _ h9 => h9) rfl dX6_digest_193 ?_
                                      refine lv_iload_n hx hb dX6_digest_196 rfl (lv_at hl 2 rfl) ?_
                                      refine va_iald hx hb hK.1 hP 3 0 rfl rfl (by first | assumption | exact vp_in_nI (by omega) (by decide)) dX6_digest_197 ?_
                                      rw [nI_clamp (n := k6) (by omega)]
                                      refine lv_i2l hx hb dX6_digest_198 rfl ?_
                                      refine lv_ladd hx hb dX6_digest_199 ?_
                                      refine lv_ldc2 (v := 31) hx hb hown (hts (.constantLong RX6 145 (31)) (by decide +kernel)) dX6_digest_200 ?_
                                      refine lv_lmul hx hb dX6_digest_203 ?_
                                      refine lv_aload_n hx hb dX6_digest_204 rfl (lv_at hl 0 rfl) ?_
                                      refine va_get (D := D) (ci := 6) (v := .ref (b 4)) (C := RX6) (T := TX6) (N := 8) hx hb hts hiX6 hown hK.1 hP 0 rfl rfl 5 (by decide) (hts (.fieldLink RX6 19 "IceLanesModel" "stake" "[I") (by decide +kernel)) (fun _ h9 => h9) rfl dX6_digest_205 ?_
                                      refine lv_iload_n hx hb dX6_digest_208 rfl (lv_at hl 2 rfl) ?_
                                      refine va_iald hx hb hK.1 hP 4 0 rfl rfl (by first | assumption | exact vp_in_nI (by omega) (by decide)) dX6_digest_209 ?_
                                      rw [nI_clamp (n := k6) (by omega)]
                                      refine lv_i2l hx hb dX6_digest_210 rfl ?_
                                      refine lv_ladd hx hb dX6_digest_211 ?_
                                      refine lv_ldc2 (v := 31) hx hb hown (hts (.constantLong RX6 145 (31)) (by decide +kernel)) dX6_digest_212 ?_
                                      refine lv_lmul hx hb dX6_digest_215 ?_
                                      refine lv_aload_n hx hb dX6_digest_216 rfl (lv_at hl 0 rfl) ?_
                                      refine lv_iload_n hx hb dX6_digest_217 rfl (lv_at hl 2 rfl) ?_
                                      refine rd_i (va_runV (As := [.int (nI k6)]) (rest := [.long ((((((fd3 (ω 14) (ω 15) (fun k => wonF σ ω nw k) (dg3 σ ω nc nw) k6) * 31) + ((ω 14 k6).toInt64)) * 31) + ((ω 15 k6).toInt64)) * 31)]) ⟨hx, hb, hml, hown, hts⟩ (M_X6_won l D cI b d d2 σ σ2 (put ω 20 (fun _ => 0)) k6 nw hnw hw12 (by omega)) (cwV 1 hts gX6_digest_X6_won rfl rfl rfl (by decide +kernel) ⟨Nat.le_of_ble_eq_true rfl, Nat.le_of_ble_eq_true rfl⟩) (rdV hK hP [0, 1, 2, 3, 4, 5, 6, 7, 8, 9, 10, 11, 12] [0] rfl rfl (ci := 6) (q0 := 0) rfl rfl) rfl rfl hl.1 rfl (lv_room (Nat.le_of_ble_eq_true rfl)) dX6_digest_218 ⟨(by show 2 * k1 + 0 ≤ 22; omega), (by show 15 * k1 + 0 ≤ 165; omega)⟩) ?_
                                      refine W.eq (g2 := F0 m 221 ls [.int (wonF σ ω nw k6), .long ((((((fd3 (ω 14) (ω 15) (fun k => wonF σ ω nw k) (dg3 σ ω nc nw) k6) * 31) + ((ω 14 k6).toInt64)) * 31) + ((ω 15 k6).toInt64)) * 31)]) rfl ?_
                                      refine lv_i2l hx hb dX6_digest_221 rfl ?_
                                      refine lv_ladd hx hb dX6_digest_222 ?_
                                      refine lv_lstore_n (lv' := [(1, .long (((((((fd3 (ω 14) (ω 15) (fun k => wonF σ ω nw k) (dg3 σ ω nc nw) k6) * 31) + ((ω 14 k6).toInt64)) * 31) + ((ω 15 k6).toInt64)) * 31) + ((wonF σ ω nw k6).toInt64))), (0, .ref (b 0)), (3, .int (nI k6))]) hx hb dX6_digest_223 rfl hl (by decide) rfl (fun ls hl => ?_)
                                      refine lv_iinc (v := nI (k6 + 1)) (lv' := [(3, .int (nI (k6 + 1))), (1, .long (((((((fd3 (ω 14) (ω 15) (fun k => wonF σ ω nw k) (dg3 σ ω nc nw) k6) * 31) + ((ω 14 k6).toInt64)) * 31) + ((ω 15 k6).toInt64)) * 31) + ((wonF σ ω nw k6).toInt64))), (0, .ref (b 0))]) hx hb dX6_digest_224 hl (k := 2) rfl (nI_1 k6) (by decide) rfl (fun ls hl => ?_)
                                      refine lv_goto (tgt := 179) hx hb dX6_digest_227 (by decide) ?_
                                      exact ih179 (k6 + 1) (by omega) (by omega) _ _ hP hD hS ls (lv_sub hl [2, 1, 0] rfl)
                                exact loop179 (nw + 1) 0 (by omega) (by omega) _ _ hP hD hS ls (lv_sub hl [1, 2, 0] rfl)
                              · skip
                                have hk2 : k5 < 9 * nc := lp_nge (N := 9 * nc) (k := k5) c_5 (by omega) (by omega)
                                refine lv_lload_n hx hb dX6_digest_154 rfl (lv_at hl 1 rfl) ?_
                                refine lv_ldc2 (v := 31) hx hb hown (hts (.constantLong RX6 145 (31)) (by decide +kernel)) dX6_digest_155 ?_
                                refine lv_lmul hx hb dX6_digest_158 ?_
                                refine lv_aload_n hx hb dX6_digest_159 rfl (lv_at hl 0 rfl) ?_
                                refine va_get (D := D) (ci := 6) (v := .ref (d 0)) (C := RX6) (T := TX6) (N := 8) hx hb hts hiX6 hown hK.1 hP 0 rfl rfl 6 (by decide) (hts (.fieldLink RX6 27 "IceLanesModel" "s" "LIceLanesModel$State;") (by decide +kernel)) (fun _ h9 => h9) rfl dX6_digest_160 ?_
                                refine va_getN (D := D) (ci := 5) (v := .ref (d 3)) (C := RX5) (T := TX5) (N := 8) hx hb hts hiX5 hown hK.1 hP 5 rfl rfl 6 (by decide) (va_Nw.use rfl (nX6_87 hN)) (fun _ h9 => h9) rfl dX6_digest_163 ?_
                                refine lv_iload_n hx hb dX6_digest_166 rfl (lv_at hl 2 rfl) ?_
                                refine va_iald hx hb hK.1 hP 8 0 rfl rfl (by first | assumption | exact vp_in_nI (by omega) (by decide)) dX6_digest_167 ?_
                                rw [nI_clamp (n := k5) (by omega)]
                                refine lv_i2l hx hb dX6_digest_168 rfl ?_
                                refine lv_ladd hx hb dX6_digest_169 ?_
                                refine lv_lstore_n (lv' := [(1, .long (((fdF (ofC (σ 5) (σ 6) (σ 7) (σ 8) (σ 9) (σ 10) (σ 11) (σ 12) (σ 13)) (dg2 σ ω nc nw) k5) * 31) + (((ofC (σ 5) (σ 6) (σ 7) (σ 8) (σ 9) (σ 10) (σ 11) (σ 12) (σ 13)) k5).toInt64))), (0, .ref (b 0)), (3, .int (nI k5))]) hx hb dX6_digest_170 rfl hl (by decide) rfl (fun ls hl => ?_)
                                refine lv_iinc (v := nI (k5 + 1)) (lv' := [(3, .int (nI (k5 + 1))), (1, .long (((fdF (ofC (σ 5) (σ 6) (σ 7) (σ 8) (σ 9) (σ 10) (σ 11) (σ 12) (σ 13)) (dg2 σ ω nc nw) k5) * 31) + (((ofC (σ 5) (σ 6) (σ 7) (σ 8) (σ 9) (σ 10) (σ 11) (σ 12) (σ 13)) k5).toInt64))), (0, .ref (b 0))]) hx hb dX6_digest_171 hl (k := 2) rfl (nI_1 k5) (by decide) rfl (fun ls hl => ?_)
                                refine lv_goto (tgt := 140) hx hb dX6_digest_174 (by decide) ?_
                                exact ih140 (k5 + 1) (by omega) (by omega) _ _ hP hD hS ls (lv_sub hl [2, 1, 0] rfl)
                          exact loop140 (9 * nc + 1) 0 (by omega) (by omega) _ _ hP hD hS ls (lv_sub hl [1, 2, 0] rfl)
                        · skip
                          have hk2 : k4 < 12 := lp_nge (N := 12) (k := k4) c_4 (by omega) (by omega)
                          refine lv_lload_n hx hb dX6_digest_118 rfl (lv_at hl 1 rfl) ?_
                          refine lv_ldc2 (v := 31) hx hb hown (hts (.constantLong RX6 145 (31)) (by decide +kernel)) dX6_digest_119 ?_
                          refine lv_lmul hx hb dX6_digest_122 ?_
                          refine lv_aload_n hx hb dX6_digest_123 rfl (lv_at hl 0 rfl) ?_
                          refine va_get (D := D) (ci := 6) (v := .ref (b 2)) (C := RX6) (T := TX6) (N := 8) hx hb hts hiX6 hown hK.1 hP 0 rfl rfl 2 (by decide) (hts (.fieldLink RX6 13 "IceLanesModel" "hut" "[I") (by decide +kernel)) (fun _ h9 => h9) rfl dX6_digest_124 ?_
                          refine lv_iload_n hx hb dX6_digest_127 rfl (lv_at hl 2 rfl) ?_
                          refine va_iald hx hb hK.1 hP 2 0 rfl rfl (by first | assumption | exact vp_in_nI (by omega) (by decide)) dX6_digest_128 ?_
                          rw [nI_clamp (n := k4) (by omega)]
                          refine lv_i2l hx hb dX6_digest_129 rfl ?_
                          refine lv_ladd hx hb dX6_digest_130 ?_
                          refine lv_lstore_n (lv' := [(1, .long (((fdF (ω 2) (fd2 (σ 3) (σ 4) (fdF (ω 1) (dg1 σ ω nc nw) 14) 36) k4) * 31) + ((ω 2 k4).toInt64))), (0, .ref (b 0)), (3, .int (nI k4))]) hx hb dX6_digest_131 rfl hl (by decide) rfl (fun ls hl => ?_)
                          refine lv_iinc (v := nI (k4 + 1)) (lv' := [(3, .int (nI (k4 + 1))), (1, .long (((fdF (ω 2) (fd2 (σ 3) (σ 4) (fdF (ω 1) (dg1 σ ω nc nw) 14) 36) k4) * 31) + ((ω 2 k4).toInt64))), (0, .ref (b 0))]) hx hb dX6_digest_132 hl (k := 2) rfl (nI_1 k4) (by decide) rfl (fun ls hl => ?_)
                          refine lv_goto (tgt := 112) hx hb dX6_digest_135 (by decide) ?_
                          exact ih112 (k4 + 1) (by omega) (by omega) _ _ hP hD hS ls (lv_sub hl [2, 1, 0] rfl)
                    exact loop112 (12 + 1) 0 (by omega) (by omega) _ _ hP hD hS ls (lv_sub hl [1, 2, 0] rfl)
                  · skip
                    have hk2 : k3 < 36 := lp_nge (N := 36) (k := k3) c_3 (by omega) (by omega)
                    refine lv_lload_n hx hb dX6_digest_72 rfl (lv_at hl 1 rfl) ?_
                    refine lv_ldc2 (v := 31) hx hb hown (hts (.constantLong RX6 145 (31)) (by decide +kernel)) dX6_digest_73 ?_
                    refine lv_lmul hx hb dX6_digest_76 ?_
                    refine lv_aload_n hx hb dX6_digest_77 rfl (lv_at hl 0 rfl) ?_
                    refine va_get (D := D) (ci := 6) (v := .ref (d 0)) (C := RX6) (T := TX6) (N := 8) hx hb hts hiX6 hown hK.1 hP 0 rfl rfl 6 (by decide) (hts (.fieldLink RX6 27 "IceLanesModel" "s" "LIceLanesModel$State;") (by decide +kernel)) (fun _ h9 => h9) rfl dX6_digest_78 ?_
                    refine va_getN (D := D) (ci := 5) (v := .ref (d 1)) (C := RX5) (T := TX5) (N := 8) hx hb hts hiX5 hown hK.1 hP 5 rfl rfl 4 (by decide) (va_Nw.use rfl (nX6_40 hN)) (fun _ h9 => h9) rfl dX6_digest_81 ?_
                    refine lv_iload_n hx hb dX6_digest_84 rfl (lv_at hl 2 rfl) ?_
                    refine va_iald hx hb hK.1 hP 6 0 rfl rfl (by first | assumption | exact vp_in_nI (by omega) (by decide)) dX6_digest_85 ?_
                    rw [nI_clamp (n := k3) (by omega)]
                    refine lv_i2l hx hb dX6_digest_86 rfl ?_
                    refine lv_ladd hx hb dX6_digest_87 ?_
                    refine lv_ldc2 (v := 31) hx hb hown (hts (.constantLong RX6 145 (31)) (by decide +kernel)) dX6_digest_88 ?_
                    refine lv_lmul hx hb dX6_digest_91 ?_
                    refine lv_aload_n hx hb dX6_digest_92 rfl (lv_at hl 0 rfl) ?_
                    refine va_get (D := D) (ci := 6) (v := .ref (d 0)) (C := RX6) (T := TX6) (N := 8) hx hb hts hiX6 hown hK.1 hP 0 rfl rfl 6 (by decide) (hts (.fieldLink RX6 27 "IceLanesModel" "s" "LIceLanesModel$State;") (by decide +kernel)) (fun _ h9 => h9) rfl dX6_digest_93 ?_
                    refine va_getN (D := D) (ci := 5) (v := .ref (d 2)) (C := RX5) (T := TX5) (N := 8) hx hb hts hiX5 hown hK.1 hP 5 rfl rfl 5 (by decide) (va_Nw.use rfl (nX6_78 hN)) (fun _ h9 => h9) rfl dX6_digest_96 ?_
                    refine lv_iload_n hx hb dX6_digest_99 rfl (lv_at hl 2 rfl) ?_
                    refine va_iald hx hb hK.1 hP 7 0 rfl rfl (by first | assumption | exact vp_in_nI (by omega) (by decide)) dX6_digest_100 ?_
                    rw [nI_clamp (n := k3) (by omega)]
                    refine lv_i2l hx hb dX6_digest_101 rfl ?_
                    refine lv_ladd hx hb dX6_digest_102 ?_
                    refine lv_lstore_n (lv' := [(1, .long (((((fd2 (σ 3) (σ 4) (fdF (ω 1) (dg1 σ ω nc nw) 14) k3) * 31) + ((σ 3 k3).toInt64)) * 31) + ((σ 4 k3).toInt64))), (0, .ref (b 0)), (3, .int (nI k3))]) hx hb dX6_digest_103 rfl hl (by decide) rfl (fun ls hl => ?_)
                    refine lv_iinc (v := nI (k3 + 1)) (lv' := [(3, .int (nI (k3 + 1))), (1, .long (((((fd2 (σ 3) (σ 4) (fdF (ω 1) (dg1 σ ω nc nw) 14) k3) * 31) + ((σ 3 k3).toInt64)) * 31) + ((σ 4 k3).toInt64))), (0, .ref (b 0))]) hx hb dX6_digest_104 hl (k := 2) rfl (nI_1 k3) (by decide) rfl (fun ls hl => ?_)
                    refine lv_goto (tgt := 66) hx hb dX6_digest_107 (by decide) ?_
                    exact ih66 (k3 + 1) (by omega) (by omega) _ _ hP hD hS ls (lv_sub hl [2, 1, 0] rfl)
              exact loop66 (36 + 1) 0 (by omega) (by omega) _ _ hP hD hS ls (lv_sub hl [1, 2, 0] rfl)
            · skip
              have hk2 : k2 < 14 := lp_nge (N := 14) (k := k2) c_2 (by omega) (by omega)
              refine lv_lload_n hx hb dX6_digest_44 rfl (lv_at hl 1 rfl) ?_
              refine lv_ldc2 (v := 31) hx hb hown (hts (.constantLong RX6 145 (31)) (by decide +kernel)) dX6_digest_45 ?_
              refine lv_lmul hx hb dX6_digest_48 ?_
              refine lv_aload_n hx hb dX6_digest_49 rfl (lv_at hl 0 rfl) ?_
              refine va_get (D := D) (ci := 6) (v := .ref (b 1)) (C := RX6) (T := TX6) (N := 8) hx hb hts hiX6 hown hK.1 hP 0 rfl rfl 1 (by decide) (hts (.fieldLink RX6 9 "IceLanesModel" "warm" "[I") (by decide +kernel)) (fun _ h9 => h9) rfl dX6_digest_50 ?_
              refine lv_iload_n hx hb dX6_digest_53 rfl (lv_at hl 2 rfl) ?_
              refine va_iald hx hb hK.1 hP 1 0 rfl rfl (by first | assumption | exact vp_in_nI (by omega) (by decide)) dX6_digest_54 ?_
              rw [nI_clamp (n := k2) (by omega)]
              refine lv_i2l hx hb dX6_digest_55 rfl ?_
              refine lv_ladd hx hb dX6_digest_56 ?_
              refine lv_lstore_n (lv' := [(1, .long (((fdF (ω 1) (dg1 σ ω nc nw) k2) * 31) + ((ω 1 k2).toInt64))), (0, .ref (b 0)), (3, .int (nI k2))]) hx hb dX6_digest_57 rfl hl (by decide) rfl (fun ls hl => ?_)
              refine lv_iinc (v := nI (k2 + 1)) (lv' := [(3, .int (nI (k2 + 1))), (1, .long (((fdF (ω 1) (dg1 σ ω nc nw) k2) * 31) + ((ω 1 k2).toInt64))), (0, .ref (b 0))]) hx hb dX6_digest_58 hl (k := 2) rfl (nI_1 k2) (by decide) rfl (fun ls hl => ?_)
              refine lv_goto (tgt := 38) hx hb dX6_digest_61 (by decide) ?_
              exact ih38 (k2 + 1) (by omega) (by omega) _ _ hP hD hS ls (lv_sub hl [2, 1, 0] rfl)
        exact loop38 (14 + 1) 0 (by omega) (by omega) _ _ hP hD hS ls (lv_sub hl [1, 2, 0] rfl)
      · skip
        have hk2 : k1 ≤ 10 := lp_ngt (N := 10) (k := k1) c_1 (by omega) (by omega)
        refine lv_lload_n hx hb dX6_digest_17 rfl (lv_at hl 1 rfl) ?_
        refine lv_ldc2 (v := 31) hx hb hown (hts (.constantLong RX6 145 (31)) (by decide +kernel)) dX6_digest_18 ?_
        refine lv_lmul hx hb dX6_digest_21 ?_
        refine lv_aload_n hx hb dX6_digest_22 rfl (lv_at hl 0 rfl) ?_
        refine lv_iload_n hx hb dX6_digest_23 rfl (lv_at hl 2 rfl) ?_
        refine wr_i (wn := wOutE b d d2 cI 0 (ω 19 0) (ω 1) (ω 2) (ω 14) (ω 15) ++ (wSta d (b 0) cI σ ++ wSta d2 (b 0) cI σ2)) (va_runV (As := [.int (nI k1)]) (rest := [.long ((fdF (fun w => ctF σ ω nc nw w) 757 k1) * 31)]) ⟨hx, hb, hml, hown, hts⟩ (M_X6_counted l D cI b d d2 σ σ2 (put ω 20 (fun _ => 0)) k1 nc nw _ (by omega) hnc hn8 hokj hnw hw12) (cwV 1 hts gX6_digest_X6_counted rfl rfl rfl (by decide +kernel) ⟨Nat.le_of_ble_eq_true rfl, Nat.le_of_ble_eq_true rfl⟩) (wrV hK hP hD [0, 1, 2, 3, 4, 5, 6, 7, 8, 9, 10, 11, 12] [0] rfl rfl rfl (ci := 6) (q0 := 0) rfl rfl) rfl rfl hl.1 rfl (lv_room (Nat.le_of_ble_eq_true rfl)) dX6_digest_24 ⟨(by show 2 * k1 + 2 ≤ 22; omega), (by show 15 * k1 + 15 ≤ 165; omega)⟩) hP hD hS hA [0, 1, 2, 3, 4, 5, 6, 7, 8, 9, 10, 11, 12] [] [0, 1, 2, 3, 4, 5, 6, 7, 8, 9, 10, 11, 12] rfl rfl rfl rfl rfl rfl (fun H locs hP hD hS => ?_)
        refine W.eq (g2 := F0 m 27 ls [.int (ctF σ ω nc nw k1), .long ((fdF (fun w => ctF σ ω nc nw w) 757 k1) * 31)]) rfl ?_
        refine lv_i2l hx hb dX6_digest_27 rfl ?_
        refine lv_ladd hx hb dX6_digest_28 ?_
        refine lv_lstore_n (lv' := [(1, .long (((fdF (fun w => ctF σ ω nc nw w) 757 k1) * 31) + ((ctF σ ω nc nw k1).toInt64))), (0, .ref (b 0)), (3, .int (nI k1))]) hx hb dX6_digest_29 rfl hl (by decide) rfl (fun ls hl => ?_)
        refine lv_iinc (v := nI (k1 + 1)) (lv' := [(3, .int (nI (k1 + 1))), (1, .long (((fdF (fun w => ctF σ ω nc nw w) 757 k1) * 31) + ((ctF σ ω nc nw k1).toInt64))), (0, .ref (b 0))]) hx hb dX6_digest_30 hl (k := 2) rfl (nI_1 k1) (by decide) rfl (fun ls hl => ?_)
        refine lv_goto (tgt := 11) hx hb dX6_digest_33 (by decide) ?_
        exact ih11 (k1 + 1) (by omega) (by omega) _ _ hP hD hS ls (lv_sub hl [2, 1, 0] rfl)
  exact loop11 (11 + 1) 0 (by omega) (by omega) _ _ hP hD hS ls (lv_sub hl [2, 1, 0] rfl)
