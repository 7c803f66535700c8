set_option maxHeartbeats 4000000 in
set_option maxRecDepth 100000 in
theorem M_X6_placeTold (l : Launch) (D : va_G) (cI : ClassId) (b : Nat → Nat) (d : Nat → Nat) (d2 : Nat → Nat) (σ : St) (σ2 : St) (ω : St) (sn : Nat) (ln : Nat) (w : Nat) (nc : Nat) (sz : Nat) (hs : sn < 12) (hl9 : ln < 3) (hw : w < 4) (hnc : σ 17 0 = nI nc) (hn8 : nc ≤ 8) (hokj : ∀ j, j < nc → okC σ j) : Met l yX6_placeTold wsX6_placeTold ({ frames := 2, cells := 1, slots := 4, locals := 42 } : Room) (wrPc [.ref (b 0), .int (nI (3 * sn + ln)), .int (nI w)] D (wMod b d d2 cI σ σ2 ω) [(cI, .int)] sz) (wrQi (ptF σ sn ln nc w) D (wMod b d d2 cI σ σ2 ω) (va_A (wMod b d d2 cI σ σ2 ω) sz)) 1 4 (va_A (wMod b d d2 cI σ σ2 ω) sz) := by
  refine Met.ofW (cc := cX6_placeTold) (maxL := 5) (ret := (some .int)) (by decide) rfl ?_
  intro p e s m args below meth c s₁ B hml hv
  obtain ⟨hargs, hsz, hP, hK, hD0⟩ := hv
  have hx := B.exec
  have hb := B.bytes
  have hr := B.returns
  have hts := atoms_spec (ws := wsX6_placeTold) B.pre
  have hown : s.vm.findClass RX6 = some m.cls := findClass_of_methodNamed B.named
  have hlocks := B.notSynchronized
  obtain ⟨_, hN⟩ := id hK
  have hiX5 : ∀ w ∈ wsX50, w ∈ wsX6_placeTold := by decide +kernel
  have hiX6 : ∀ w ∈ wsX60, w ∈ wsX6_placeTold := by decide +kernel
  subst hsz
  have hD := hD0.self (sz := s.heap.size)
  generalize hAe : va_A (wMod b d d2 cI σ σ2 ω) s.heap.size = A at hD ⊢
  have hA : ∀ q : Nat, s.heap.size ≤ q → A q := fun q h => by rw [← hAe]; exact Or.inr h
  have hS : va_S A s.heap s.heap [] := va_S.rf
  have hP : va_P D vwCl (wMod b d d2 cI σ σ2 ω) s.heap := hP
  refine my_abs (fun Q hQ => ?_)
  obtain ⟨ls, hl, hent⟩ := my_entry (m := m) (n := 5) hargs (Nat.le_of_ble_eq_true rfl)
  rw [hent]
  have hl : lv_has ls 5 [(0, .ref (b 0)), (1, .int (nI (3 * sn + ln))), (2, .int (nI w))] := hl
  show W p l e ({ frames := 2, cells := 1, slots := 4, locals := 42 } : Room) s m args below meth c s.heap [] 0 0 Q (F0 m 0 ls [])
  refine lv_iconst (v := 0) hx hb dX6_placeTold_0 (by decide) ?_
  refine lv_istore_n (lv' := [(3, .int 0), (0, .ref (b 0)), (1, .int (nI (3 * sn + ln))), (2, .int (nI w))]) hx hb dX6_placeTold_1 rfl hl (by decide) rfl (fun ls hl => ?_)
  refine lv_iconst (v := 0) hx hb dX6_placeTold_2 (by decide) ?_
  refine lv_istore (lv' := [(4, .int 0), (3, .int 0), (0, .ref (b 0)), (1, .int (nI (3 * sn + ln))), (2, .int (nI w))]) hx hb dX6_placeTold_3 hl (by decide) rfl (fun ls hl => ?_)
  have loop5 : ∀ (n : Nat) (k : Nat), nc - k < n → k ≤ nc → ∀ (H : Heap) (locs : List Loc), va_P D vwCl (wMod b d d2 cI σ σ2 ω) H → va_D A (wMod b d d2 cI σ σ2 ω) → va_S A s.heap H locs → ∀ (ls : Array Slot), lv_has ls 5 [(0, .ref (b 0)), (1, .int (nI (3 * sn + ln))), (2, .int (nI w)), (3, .int (cntF (pqF σ (nI sn) (nI ln)) k)), (4, .int (nI k))] → W p l e ({ frames := 2, cells := 1, slots := 4, locals := 42 } : Room) s m args below meth c H locs 0 0 Q (F0 m 5 ls []) := by
    intro n
    induction n with
    | zero => intro k  hf; exact absurd hf (Nat.not_lt_zero _)
    | succ n ih5 =>
      intro k  hf hk H locs hP hD hS ls hl
      refine lv_iload hx hb dX6_placeTold_5 (lv_at hl 4 rfl) ?_
      refine lv_aload_n hx hb dX6_placeTold_7 rfl (lv_at hl 0 rfl) ?_
      refine va_get (D := D) (ci := 6) (v := .ref (d 0)) (C := RX6) (T := TX6) (N := 8) hx hb hts hiX6 hown hK.1 hP 0 rfl rfl 6 (by decide) (hts (.fieldLink RX6 27 "IceLanesModel" "s" "LIceLanesModel$State;") (by decide +kernel)) (fun _ h9 => h9) rfl dX6_placeTold_8 ?_
      refine va_getN (D := D) (ci := 5) (v := .int (σ 17 0)) (C := RX5) (T := TX5) (N := 8) hx hb hts hiX5 hown hK.1 hP 5 rfl rfl 1 (by decide) (va_Nw.use rfl (nX6_51 hN)) (fun _ h9 => h9) rfl dX6_placeTold_11 ?_
      refine lv_icmp_ge (tgt := 73) hx hb dX6_placeTold_14 (by decide) (fun c_1 => ?_) (fun c_1 => ?_)
      · skip
        rw [hnc] at c_1
        have hk2 : nc ≤ k := lp_ge (N := nc) (k := k) c_1 (by omega) (by omega)
        refine lv_iconst (v := 4) hx hb dX6_placeTold_73 (by decide) ?_
        refine my_newi (N := 4) hx hb (hts (.arrayClass .int) (by decide +kernel)) hK.1 hP hD hS hA (by decide) rfl (Nat.le_of_ble_eq_true rfl) (Nat.le_of_ble_eq_true rfl) (Nat.le_of_ble_eq_true rfl) dX6_placeTold_74 (fun q_2 H hP hD hS => ?_)
        have hP : va_P D vwCl ((wMod b d d2 cI σ σ2 ω) ++ [(q_2, .inl (cI, 4, .inl (fun _ => 0)))]) H := hP
        have hD : va_D A ((wMod b d d2 cI σ σ2 ω) ++ [(q_2, .inl (cI, 4, .inl (fun _ => 0)))]) := hD
        refine lv_dup hx hb dX6_placeTold_76 rfl ?_
        refine lv_iconst (v := 0) hx hb dX6_placeTold_77 (by decide) ?_
        refine lv_aload_n hx hb dX6_placeTold_78 rfl (lv_at hl 0 rfl) ?_
        refine va_get (D := D) (ci := 6) (v := .ref (d 0)) (C := RX6) (T := TX6) (N := 8) hx hb hts hiX6 hown hK.1 hP 0 rfl rfl 6 (by decide) (hts (.fieldLink RX6 27 "IceLanesModel" "s" "LIceLanesModel$State;") (by decide +kernel)) (fun _ h9 => h9) rfl dX6_placeTold_79 ?_
        refine va_getN (D := D) (ci := 5) (v := .ref (d 1)) (C := RX5) (T := TX5) (N := 8) hx hb hts hiX5 hown hK.1 hP 5 rfl rfl 4 (by decide) (va_Nw.use rfl (nX6_40 hN)) (fun _ h9 => h9) rfl dX6_placeTold_82 ?_
        refine lv_iload_n hx hb dX6_placeTold_85 rfl (lv_at hl 1 rfl) ?_
        refine va_iald hx hb hK.1 hP 6 0 rfl rfl (by first | assumption | exact vp_in_nI (by omega) (by decide)) dX6_placeTold_86 ?_
        rw [nI_clamp (n := (3 * sn + ln)) (by omega)]
        refine va_iast hx hb hK.1 hP hD hS 13 0 rfl rfl (by unfold vp_in; decide) dX6_placeTold_87 (fun H locs hP hD hS => ?_)
        have hP : va_P D vwCl ((wMod b d d2 cI σ σ2 ω) ++ [(q_2, .inl (cI, 4, .inl (upd (fun _ => 0) 0 (σ 3 (3 * sn + ln)))))]) H := hP
        have hD : va_D A ((wMod b d d2 cI σ σ2 ω) ++ [(q_2, .inl (cI, 4, .inl (upd (fun _ => 0) 0 (σ 3 (3 * sn + ln)))))]) := hD
        refine lv_dup hx hb dX6_placeTold_88 rfl ?_
        refine lv_iconst (v := 1) hx hb dX6_placeTold_89 (by decide) ?_
        refine lv_aload_n hx hb dX6_placeTold_90 rfl (lv_at hl 0 rfl) ?_
        refine va_get (D := D) (ci := 6) (v := .ref (d 0)) (C := RX6) (T := TX6) (N := 8) hx hb hts hiX6 hown hK.1 hP 0 rfl rfl 6 (by decide) (hts (.fieldLink RX6 27 "IceLanesModel" "s" "LIceLanesModel$State;") (by decide +kernel)) (fun _ h9 => h9) rfl dX6_placeTold_91 ?_
        refine va_getN (D := D) (ci := 5) (v := .ref (d 2)) (C := RX5) (T := TX5) (N := 8) hx hb hts hiX5 hown hK.1 hP 5 rfl rfl 5 (by decide) (va_Nw.use rfl (nX6_78 hN)) (fun _ h9 => h9) rfl dX6_placeTold_94 ?_
        refine lv_iload_n hx hb dX6_placeTold_97 rfl (lv_at hl 1 rfl) ?_
        refine va_iald hx hb hK.1 hP 7 0 rfl rfl (by first | assumption | exact vp_in_nI (by omega) (by decide)) dX6_placeTold_98 ?_
        rw [nI_clamp (n := (3 * sn + ln)) (by omega)]
        refine va_iast hx hb hK.1 hP hD hS 13 0 rfl rfl (by unfold vp_in; decide) dX6_placeTold_99 (fun H locs hP hD hS => ?_)
        have hP : va_P D vwCl ((wMod b d d2 cI σ σ2 ω) ++ [(q_2, .inl (cI, 4, .inl (upd (upd (fun _ => 0) 0 (σ 3 (3 * sn + ln))) 1 (σ 4 (3 * sn + ln)))))]) H := hP
        have hD : va_D A ((wMod b d d2 cI σ σ2 ω) ++ [(q_2, .inl (cI, 4, .inl (upd (upd (fun _ => 0) 0 (σ 3 (3 * sn + ln))) 1 (σ 4 (3 * sn + ln)))))]) := hD
        refine lv_dup hx hb dX6_placeTold_100 rfl ?_
        refine lv_iconst (v := 2) hx hb dX6_placeTold_101 (by decide) ?_
        refine lv_aload_n hx hb dX6_placeTold_102 rfl (lv_at hl 0 rfl) ?_
        refine lv_iload_n hx hb dX6_placeTold_103 rfl (lv_at hl 1 rfl) ?_
        refine rd_i (va_runV (As := [.int (nI (3 * sn + ln))]) (rest := [.int 2, .ref q_2, .ref q_2]) ⟨hx, hb, hml, hown, hts⟩ (M_X6_borne l D cI b d d2 σ σ2 ω (3 * sn + ln) (by omega)) (cwV 1 hts gX6_placeTold_X6_borne rfl rfl rfl (by decide +kernel) ⟨Nat.le_of_ble_eq_true rfl, Nat.le_of_ble_eq_true rfl⟩) (rdV hK hP [0, 1, 2, 3, 4, 5, 6, 7, 8, 9, 10, 11, 12] [0] rfl rfl (ci := 6) (q0 := 0) rfl rfl) rfl rfl hl.1 rfl (lv_room (Nat.le_of_ble_eq_true rfl)) dX6_placeTold_104 ⟨Nat.le_of_ble_eq_true rfl, Nat.le_of_ble_eq_true rfl⟩) ?_
        refine va_iast hx hb hK.1 hP hD hS 13 0 rfl rfl (by unfold vp_in; decide) dX6_placeTold_107 (fun H locs hP hD hS => ?_)
        have hP : va_P D vwCl ((wMod b d d2 cI σ σ2 ω) ++ [(q_2, .inl (cI, 4, .inl (upd (upd (upd (fun _ => 0) 0 (σ 3 (3 * sn + ln))) 1 (σ 4 (3 * sn + ln))) 2 (mx 0 (sndP ((σ 3)) ((σ 4)) (nI (3 * sn + ln)))))))]) H := hP
        have hD : va_D A ((wMod b d d2 cI σ σ2 ω) ++ [(q_2, .inl (cI, 4, .inl (upd (upd (upd (fun _ => 0) 0 (σ 3 (3 * sn + ln))) 1 (σ 4 (3 * sn + ln))) 2 (mx 0 (sndP ((σ 3)) ((σ 4)) (nI (3 * sn + ln)))))))]) := hD
        refine lv_dup hx hb dX6_placeTold_108 rfl ?_
        refine lv_iconst (v := 3) hx hb dX6_placeTold_109 (by decide) ?_
        refine lv_iload_n hx hb dX6_placeTold_110 rfl (lv_at hl 3 rfl) ?_
        refine va_iast hx hb hK.1 hP hD hS 13 0 rfl rfl (by unfold vp_in; decide) dX6_placeTold_111 (fun H locs hP hD hS => ?_)
        have hP : va_P D vwCl ((wMod b d d2 cI σ σ2 ω) ++ [(q_2, .inl (cI, 4, .inl (upd (upd (upd (upd (fun _ => 0) 0 (σ 3 (3 * sn + ln))) 1 (σ 4 (3 * sn + ln))) 2 (mx 0 (sndP ((σ 3)) ((σ 4)) (nI (3 * sn + ln))))) 3 (cntF (pqF σ (nI sn) (nI ln)) k))))]) H := hP
        have hD : va_D A ((wMod b d d2 cI σ σ2 ω) ++ [(q_2, .inl (cI, 4, .inl (upd (upd (upd (upd (fun _ => 0) 0 (σ 3 (3 * sn + ln))) 1 (σ 4 (3 * sn + ln))) 2 (mx 0 (sndP ((σ 3)) ((σ 4)) (nI (3 * sn + ln))))) 3 (cntF (pqF σ (nI sn) (nI ln)) k))))]) := hD
        refine lv_astore (lv' := [(4, .ref q_2), (0, .ref (b 0)), (1, .int (nI (3 * sn + ln))), (2, .int (nI w)), (3, .int (cntF (pqF σ (nI sn) (nI ln)) k))]) hx hb dX6_placeTold_112 hl (by decide) rfl (fun ls hl => ?_)
        refine lv_aload hx hb dX6_placeTold_114 (lv_at hl 0 rfl) ?_
        refine lv_iload_n hx hb dX6_placeTold_116 rfl (lv_at hl 3 rfl) ?_
        refine va_iald hx hb hK.1 hP 13 0 rfl rfl (by exact vp_in_nI hw (by decide)) dX6_placeTold_117 ?_
        rw [nI_clamp (n := w) (by omega)]
        subst hQ
        have hP := hP.sub (ws' := wMod b d d2 cI σ σ2 ω) [0, 1, 2, 3, 4, 5, 6, 7, 8, 9, 10, 11, 12] rfl
        have hD := hD.sub (ws' := wMod b d d2 cI σ σ2 ω) [0, 1, 2, 3, 4, 5, 6, 7, 8, 9, 10, 11, 12] (by decide) rfl
        exact ret_wri hx hb hr rfl hlocks hP hD hS (show (upd (upd (upd (upd (fun _ => 0) 0 (σ 3 (3 * sn + ln))) 1 (σ 4 (3 * sn + ln))) 2 (mx 0 (sndP ((σ 3)) ((σ 4)) (nI (3 * sn + ln))))) 3 (cntF (pqF σ (nI sn) (nI ln)) k)) w = ptF σ sn ln nc w from (by rcases (show w = 0 ∨ w = 1 ∨ w = 2 ∨ w = 3 by omega) with rfl | rfl | rfl | rfl; rfl; rfl; (show mx 0 _ = mx 0 (sound (σ 3) (σ 4) (nI sn) (nI ln)); rw [sound_nI]); (show cntF _ k = cntF _ nc; rw [show k = nc by omega]))) dX6_placeTold_118
      · skip
        rw [hnc] at c_1
        have hk2 : k < nc := lp_nge (N := nc) (k := k) c_1 (by omega) (by omega)
        refine lv_iload_n hx hb dX6_placeTold_17 rfl (lv_at hl 3 rfl) ?_
        refine lv_aload_n hx hb dX6_placeTold_18 rfl (lv_at hl 0 rfl) ?_
        refine va_get (D := D) (ci := 6) (v := .ref (d 0)) (C := RX6) (T := TX6) (N := 8) hx hb hts hiX6 hown hK.1 hP 0 rfl rfl 6 (by decide) (hts (.fieldLink RX6 27 "IceLanesModel" "s" "LIceLanesModel$State;") (by decide +kernel)) (fun _ h9 => h9) rfl dX6_placeTold_19 ?_
        refine lv_iload hx hb dX6_placeTold_22 (lv_at hl 4 rfl) ?_
        refine lv_bipush (v := 6) hx hb dX6_placeTold_24 (by decide) ?_
        refine rd_i (va_runV (As := [.int (nI k), .int 6]) (rest := [.int (cntF (pqF σ (nI sn) (nI ln)) k)]) ⟨hx, hb, hml, hown, hts⟩ (M_X5_get l D cI d (b 0) σ k 6 (by first | assumption | omega) (by first | assumption | omega)) (cwV 2 hts gX6_placeTold_X5_get rfl rfl rfl (by decide +kernel) ⟨Nat.le_of_ble_eq_true rfl, Nat.le_of_ble_eq_true rfl⟩) (rdV hK hP [5, 6, 7, 8] [0] rfl rfl (ci := 5) (q0 := 5) rfl rfl) rfl rfl hl.1 rfl (lv_room (Nat.le_of_ble_eq_true rfl)) dX6_placeTold_26 ⟨Nat.le_of_ble_eq_true rfl, Nat.le_of_ble_eq_true rfl⟩) ?_
        refine W.eq (g2 := F0 m 29 ls [.int (σ 11 k), .int (cntF (pqF σ (nI sn) (nI ln)) k)]) rfl ?_
        refine lv_iconst (v := 3) hx hb dX6_placeTold_29 (by decide) ?_
        refine lv_icmp_eq (tgt := 64) hx hb dX6_placeTold_30 (by decide) (fun c_3 => ?_) (fun c_3 => ?_)
        · skip
          refine lv_iconst (v := 0) hx hb dX6_placeTold_64 (by decide) ?_
          refine lv_iadd hx hb dX6_placeTold_65 ?_
          refine lv_istore_n (lv' := [(3, .int ((cntF (pqF σ (nI sn) (nI ln)) k) + 0)), (0, .ref (b 0)), (1, .int (nI (3 * sn + ln))), (2, .int (nI w)), (4, .int (nI k))]) hx hb dX6_placeTold_66 rfl hl (by decide) rfl (fun ls hl => ?_)
          have hl : lv_has ls 5 [(3, .int (cntF (pqF σ (nI sn) (nI ln)) (k + 1))), (0, .ref (b 0)), (1, .int (nI (3 * sn + ln))), (2, .int (nI w)), (4, .int (nI k))] := by rw [show cntF (pqF σ (nI sn) (nI ln)) (k + 1) = (cntF (pqF σ (nI sn) (nI ln)) k) + 0 from (by first | exact pq_t (hokj k hk2) hs hl9 (by assumption) (by assumption) | exact pq_f1 (by assumption) | exact pq_f2 (by assumption))]; exact hl
          refine lv_iinc (v := nI (k + 1)) (lv' := [(4, .int (nI (k + 1))), (3, .int (cntF (pqF σ (nI sn) (nI ln)) (k + 1))), (0, .ref (b 0)), (1, .int (nI (3 * sn + ln))), (2, .int (nI w))]) hx hb dX6_placeTold_67 hl (k := 4) rfl (nI_1 k) (by decide) rfl (fun ls hl => ?_)
          refine lv_goto (tgt := 5) hx hb dX6_placeTold_70 (by decide) ?_
          exact ih5 (k + 1) (by omega) (by omega) _ _ hP hD hS ls (lv_sub hl [2, 3, 4, 1, 0] rfl)
        · skip
          refine lv_iconst (v := 3) hx hb dX6_placeTold_33 (by decide) ?_
          refine lv_aload_n hx hb dX6_placeTold_34 rfl (lv_at hl 0 rfl) ?_
          refine va_get (D := D) (ci := 6) (v := .ref (d 0)) (C := RX6) (T := TX6) (N := 8) hx hb hts hiX6 hown hK.1 hP 0 rfl rfl 6 (by decide) (hts (.fieldLink RX6 27 "IceLanesModel" "s" "LIceLanesModel$State;") (by decide +kernel)) (fun _ h9 => h9) rfl dX6_placeTold_35 ?_
          refine lv_iload hx hb dX6_placeTold_38 (lv_at hl 4 rfl) ?_
          refine lv_iconst (v := 3) hx hb dX6_placeTold_40 (by decide) ?_
          refine rd_i (va_runV (As := [.int (nI k), .int 3]) (rest := [.int 3, .int (cntF (pqF σ (nI sn) (nI ln)) k)]) ⟨hx, hb, hml, hown, hts⟩ (M_X5_get l D cI d (b 0) σ k 3 (by first | assumption | omega) (by first | assumption | omega)) (cwV 2 hts gX6_placeTold_X5_get rfl rfl rfl (by decide +kernel) ⟨Nat.le_of_ble_eq_true rfl, Nat.le_of_ble_eq_true rfl⟩) (rdV hK hP [5, 6, 7, 8] [0] rfl rfl (ci := 5) (q0 := 5) rfl rfl) rfl rfl hl.1 rfl (lv_room (Nat.le_of_ble_eq_true rfl)) dX6_placeTold_41 ⟨Nat.le_of_ble_eq_true rfl, Nat.le_of_ble_eq_true rfl⟩) ?_
          refine W.eq (g2 := F0 m 44 ls [.int (σ 8 k), .int 3, .int (cntF (pqF σ (nI sn) (nI ln)) k)]) rfl ?_
          refine lv_imul hx hb dX6_placeTold_44 ?_
          refine lv_aload_n hx hb dX6_placeTold_45 rfl (lv_at hl 0 rfl) ?_
          refine va_get (D := D) (ci := 6) (v := .ref (d 0)) (C := RX6) (T := TX6) (N := 8) hx hb hts hiX6 hown hK.1 hP 0 rfl rfl 6 (by decide) (hts (.fieldLink RX6 27 "IceLanesModel" "s" "LIceLanesModel$State;") (by decide +kernel)) (fun _ h9 => h9) rfl dX6_placeTold_46 ?_
          refine lv_iload hx hb dX6_placeTold_49 (lv_at hl 4 rfl) ?_
          refine lv_iconst (v := 4) hx hb dX6_placeTold_51 (by decide) ?_
          refine rd_i (va_runV (As := [.int (nI k), .int 4]) (rest := [.int (3 * (σ 8 k)), .int (cntF (pqF σ (nI sn) (nI ln)) k)]) ⟨hx, hb, hml, hown, hts⟩ (M_X5_get l D cI d (b 0) σ k 4 (by first | assumption | omega) (by first | assumption | omega)) (cwV 2 hts gX6_placeTold_X5_get rfl rfl rfl (by decide +kernel) ⟨Nat.le_of_ble_eq_true rfl, Nat.le_of_ble_eq_true rfl⟩) (rdV hK hP [5, 6, 7, 8] [0] rfl rfl (ci := 5) (q0 := 5) rfl rfl) rfl rfl hl.1 rfl (lv_room (Nat.le_of_ble_eq_true rfl)) dX6_placeTold_52 ⟨Nat.le_of_ble_eq_true rfl, Nat.le_of_ble_eq_true rfl⟩) ?_
          refine W.eq (g2 := F0 m 55 ls [.int (σ 9 k), .int (3 * (σ 8 k)), .int (cntF (pqF σ (nI sn) (nI ln)) k)]) rfl ?_
          refine lv_iadd hx hb dX6_placeTold_55 ?_
          refine lv_iload_n hx hb dX6_placeTold_56 rfl (lv_at hl 1 rfl) ?_
          refine lv_icmp_ne (tgt := 64) hx hb dX6_placeTold_57 (by decide) (fun c_4 => ?_) (fun c_4 => ?_)
          · skip
            refine lv_iconst (v := 0) hx hb dX6_placeTold_64 (by decide) ?_
            refine lv_iadd hx hb dX6_placeTold_65 ?_
            refine lv_istore_n (lv' := [(3, .int ((cntF (pqF σ (nI sn) (nI ln)) k) + 0)), (0, .ref (b 0)), (1, .int (nI (3 * sn + ln))), (2, .int (nI w)), (4, .int (nI k))]) hx hb dX6_placeTold_66 rfl hl (by decide) rfl (fun ls hl => ?_)
            have hl : lv_has ls 5 [(3, .int (cntF (pqF σ (nI sn) (nI ln)) (k + 1))), (0, .ref (b 0)), (1, .int (nI (3 * sn + ln))), (2, .int (nI w)), (4, .int (nI k))] := by rw [show cntF (pqF σ (nI sn) (nI ln)) (k + 1) = (cntF (pqF σ (nI sn) (nI ln)) k) + 0 from (by first | exact pq_t (hokj k hk2) hs hl9 (by assumption) (by assumption) | exact pq_f1 (by assumption) | exact pq_f2 (by assumption))]; exact hl
            refine lv_iinc (v := nI (k + 1)) (lv' := [(4, .int (nI (k + 1))), (3, .int (cntF (pqF σ (nI sn) (nI ln)) (k + 1))), (0, .ref (b 0)), (1, .int (nI (3 * sn + ln))), (2, .int (nI w))]) hx hb dX6_placeTold_67 hl (k := 4) rfl (nI_1 k) (by decide) rfl (fun ls hl => ?_)
            refine lv_goto (tgt := 5) hx hb dX6_placeTold_70 (by decide) ?_
            exact ih5 (k + 1) (by omega) (by omega) _ _ hP hD hS ls (lv_sub hl [2, 3, 4, 1, 0] rfl)
          · skip
            refine lv_iconst (v := 1) hx hb dX6_placeTold_60 (by decide) ?_
            refine lv_goto (tgt := 65) hx hb dX6_placeTold_61 (by decide) ?_
            refine lv_iadd hx hb dX6_placeTold_65 ?_
            refine lv_istore_n (lv' := [(3, .int ((cntF (pqF σ (nI sn) (nI ln)) k) + 1)), (0, .ref (b 0)), (1, .int (nI (3 * sn + ln))), (2, .int (nI w)), (4, .int (nI k))]) hx hb dX6_placeTold_66 rfl hl (by decide) rfl (fun ls hl => ?_)
            have hl : lv_has ls 5 [(3, .int (cntF (pqF σ (nI sn) (nI ln)) (k + 1))), (0, .ref (b 0)), (1, .int (nI (3 * sn + ln))), (2, .int (nI w)), (4, .int (nI k))] := by rw [show cntF (pqF σ (nI sn) (nI ln)) (k + 1) = (cntF (pqF σ (nI sn) (nI ln)) k) + 1 from (by first | exact pq_t (hokj k hk2) hs hl9 (by assumption) (by assumption) | exact pq_f1 (by assumption) | exact pq_f2 (by assumption))]; exact hl
            refine lv_iinc (v := nI (k + 1)) (lv' := [(4, .int (nI (k + 1))), (3, .int (cntF (pqF σ (nI sn) (nI ln)) (k + 1))), (0, .ref (b 0)), (1, .int (nI (3 * sn + ln))), (2, .int (nI w))]) hx hb dX6_placeTold_67 hl (k := 4) rfl (nI_1 k) (by decide) rfl (fun ls hl => ?_)
            refine lv_goto (tgt := 5) hx hb dX6_placeTold_70 (by decide) ?_
            exact ih5 (k + 1) (by omega) (by omega) _ _ hP hD hS ls (lv_sub hl [2, 3, 4, 1, 0] rfl)
  exact loop5 (nc + 1) 0 (by omega) (by omega) _ _ hP hD hS ls (lv_sub hl [2, 3, 4, 1, 0] rfl)
set_option maxHeartbeats 4000000 in
set_option maxRecDepth 100000 in
theorem M_X6_place_e1 (l : Launch) (D : va_G) (cI : ClassId) (b : Nat → Nat) (d : Nat → Nat) (d2 : Nat → Nat) (σ : St) (σ2 : St) (ω : St) (p0 : Int32) (p1 : Int32) (p2 : Int32) (sz : Nat) (h1 : ¬ (((0 ≤ p0 ∧ p0 ≤ 11) ∧ (0 ≤ p1 ∧ p1 ≤ 2)) ∧ (0 ≤ p2 ∧ p2 ≤ 3))) : Met l yX6_place wsX6_place ({ frames := 2, cells := 0, slots := 0, locals := 43 } : Room) (wrPc [.ref (b 0), .int p0, .int p1, .int p2] D (wMod b d d2 cI σ σ2 ω) [(cI, .int)] sz) (wrQi 0 D (wMod b d d2 cI σ σ2 (put ω 20 (fun _ => 1))) (va_A (wMod b d d2 cI σ σ2 ω) sz)) 0 0 (va_A (wMod b d d2 cI σ σ2 ω) sz) := by
  refine Met.ofW (cc := cX6_place) (maxL := 4) (ret := (some .int)) (by decide) rfl ?_
  intro p e s m args below meth c s₁ B hml hv
  obtain ⟨hargs, hsz, hP, hK, hD0⟩ := hv
  have hx := B.exec
  have hb := B.bytes
  have hr := B.returns
  have hts := atoms_spec (ws := wsX6_place) B.pre
  have hown : s.vm.findClass RX6 = some m.cls := findClass_of_methodNamed B.named
  have hlocks := B.notSynchronized
  obtain ⟨_, hN⟩ := id hK
  have hiX6 : ∀ w ∈ wsX60, w ∈ wsX6_place := by decide +kernel
  subst hsz
  have hD := hD0.self (sz := s.heap.size)
  generalize hAe : va_A (wMod b d d2 cI σ σ2 ω) s.heap.size = A at hD ⊢
  have hA : ∀ q : Nat, s.heap.size ≤ q → A q := fun q h => by rw [← hAe]; exact Or.inr h
  have hS : va_S A s.heap s.heap [] := va_S.rf
  have hP : va_P D vwCl (wMod b d d2 cI σ σ2 ω) s.heap := hP
  refine my_abs (fun Q hQ => ?_)
  obtain ⟨ls, hl, hent⟩ := my_entry (m := m) (n := 4) hargs (Nat.le_of_ble_eq_true rfl)
  rw [hent]
  have hl : lv_has ls 4 [(0, .ref (b 0)), (1, .int p0), (2, .int p1), (3, .int p2)] := hl
  show W p l e ({ frames := 2, cells := 0, slots := 0, locals := 43 } : Room) s m args below meth c s.heap [] 0 0 Q (F0 m 0 ls [])
  refine lv_aload_n hx hb dX6_place_0 rfl (lv_at hl 0 rfl) ?_
  refine lv_iconst (v := 0) hx hb dX6_place_1 (by decide) ?_
  refine va_put (D := D) (ci := 6) (v := .int 0) (ty := .int) (C := RX6) (T := TX6) (N := 8) hx hb hts hiX6 tyX6 tyX6_ok nmX6 hown hK.1 hP hD hS 0 rfl rfl 0 (by decide) (hts (.fieldLink RX6 43 "IceLanesModel" "thrown" "I") (by decide +kernel)) (fun _ h9 => h9) rfl (by decide +kernel) rfl rfl (Nat.le_of_ble_eq_true rfl) dX6_place_2 (fun H locs hP hD hS => ?_)
  have hP : va_P D vwCl (wOutE b d d2 cI 0 (ω 19 0) (ω 1) (ω 2) (ω 14) (ω 15) ++ (wSta d (b 0) cI σ ++ wSta d2 (b 0) cI σ2)) H := hP
  have hD : va_D A (wOutE b d d2 cI 0 (ω 19 0) (ω 1) (ω 2) (ω 14) (ω 15) ++ (wSta d (b 0) cI σ ++ wSta d2 (b 0) cI σ2)) := hD
  refine lv_iload_n hx hb dX6_place_5 rfl (lv_at hl 1 rfl) ?_
  refine lv_iload_n hx hb dX6_place_6 rfl (lv_at hl 2 rfl) ?_
  refine rd_i (va_runS (As := [.int p0, .int p1]) (rest := []) ⟨hx, hb, hml, hown, hts⟩ (M_X6_isPlace l D cI p0 p1 ) (va_cwS 2 hts gX6_place_X6_isPlace rfl rfl rfl (by decide +kernel) ⟨Nat.le_of_ble_eq_true rfl, Nat.le_of_ble_eq_true rfl⟩) (rdS hK hP [] [0] rfl rfl) rfl rfl hl.1 rfl (lv_room (Nat.le_of_ble_eq_true rfl)) dX6_place_7 ⟨Nat.zero_le _, Nat.zero_le _⟩) ?_
  refine lv_if_eq (tgt := 35) hx hb dX6_place_10 (by decide) (fun c_1 => ?_) (fun c_1 => ?_)
  · skip
    have c_1 : ¬ ((0 ≤ p0 ∧ p0 ≤ 11) ∧ (0 ≤ p1 ∧ p1 ≤ 2)) := bI_z.mp c_1
    refine lv_aload_n hx hb dX6_place_35 rfl (lv_at hl 0 rfl) ?_
    refine lv_iconst (v := 1) hx hb dX6_place_36 (by decide) ?_
    refine wr_i (wn := wOutE b d d2 cI 1 (ω 19 0) (ω 1) (ω 2) (ω 14) (ω 15) ++ (wSta d (b 0) cI σ ++ wSta d2 (b 0) cI σ2)) (va_runV (As := [.int 1]) (rest := []) ⟨hx, hb, hml, hown, hts⟩ (M_X6_no l D cI b d d2 σ σ2 (put ω 20 (fun _ => 0)) 1 _ ) (cwV 1 hts gX6_place_X6_no rfl rfl rfl (by decide +kernel) ⟨Nat.le_of_ble_eq_true rfl, Nat.le_of_ble_eq_true rfl⟩) (wrV hK hP hD [0, 1, 2, 3, 4, 5, 6, 7, 8, 9, 10, 11, 12] [0] rfl rfl rfl (ci := 6) (q0 := 0) rfl rfl) rfl rfl hl.1 rfl (lv_room (Nat.le_of_ble_eq_true rfl)) dX6_place_37 ⟨Nat.le_of_ble_eq_true rfl, Nat.le_of_ble_eq_true rfl⟩) hP hD hS hA [0, 1, 2, 3, 4, 5, 6, 7, 8, 9, 10, 11, 12] [] [0, 1, 2, 3, 4, 5, 6, 7, 8, 9, 10, 11, 12] rfl rfl rfl rfl rfl rfl (fun H locs hP hD hS => ?_)
    refine W.eq (g2 := F0 m 40 ls [.int 0]) rfl ?_
    subst hQ
    have hP : va_P D vwCl (wMod b d d2 cI σ σ2 (put ω 20 (fun _ => 1))) H := hP
    have hD : va_D A (wMod b d d2 cI σ σ2 (put ω 20 (fun _ => 1))) := hD
    exact ret_wri hx hb hr rfl hlocks hP hD hS (show 0 = 0 from rfl) dX6_place_40
  · skip
    have c_1 : ((0 ≤ p0 ∧ p0 ≤ 11) ∧ (0 ≤ p1 ∧ p1 ≤ 2)) := bI_nz.mp c_1
    refine lv_iload_n hx hb dX6_place_13 rfl (lv_at hl 3 rfl) ?_
    refine lv_iconst (v := 0) hx hb dX6_place_14 (by decide) ?_
    refine lv_iconst (v := 3) hx hb dX6_place_15 (by decide) ?_
    refine rd_i (va_runS (As := [.int p2, .int 0, .int 3]) (rest := []) ⟨hx, hb, hml, hown, hts⟩ (M_X6_isIn l D cI p2 0 3 ) (va_cwS 3 hts gX6_place_X6_isIn rfl rfl rfl (by decide +kernel) ⟨Nat.le_of_ble_eq_true rfl, Nat.le_of_ble_eq_true rfl⟩) (rdS hK hP [] [0] rfl rfl) rfl rfl hl.1 rfl (lv_room (Nat.le_of_ble_eq_true rfl)) dX6_place_16 ⟨Nat.zero_le _, Nat.zero_le _⟩) ?_
    refine lv_if_eq (tgt := 35) hx hb dX6_place_19 (by decide) (fun c_2 => ?_) (fun c_2 => ?_)
    · skip
      have c_2 : ¬ (0 ≤ p2 ∧ p2 ≤ 3) := bI_z.mp c_2
      refine lv_aload_n hx hb dX6_place_35 rfl (lv_at hl 0 rfl) ?_
      refine lv_iconst (v := 1) hx hb dX6_place_36 (by decide) ?_
      refine wr_i (wn := wOutE b d d2 cI 1 (ω 19 0) (ω 1) (ω 2) (ω 14) (ω 15) ++ (wSta d (b 0) cI σ ++ wSta d2 (b 0) cI σ2)) (va_runV (As := [.int 1]) (rest := []) ⟨hx, hb, hml, hown, hts⟩ (M_X6_no l D cI b d d2 σ σ2 (put ω 20 (fun _ => 0)) 1 _ ) (cwV 1 hts gX6_place_X6_no rfl rfl rfl (by decide +kernel) ⟨Nat.le_of_ble_eq_true rfl, Nat.le_of_ble_eq_true rfl⟩) (wrV hK hP hD [0, 1, 2, 3, 4, 5, 6, 7, 8, 9, 10, 11, 12] [0] rfl rfl rfl (ci := 6) (q0 := 0) rfl rfl) rfl rfl hl.1 rfl (lv_room (Nat.le_of_ble_eq_true rfl)) dX6_place_37 ⟨Nat.le_of_ble_eq_true rfl, Nat.le_of_ble_eq_true rfl⟩) hP hD hS hA [0, 1, 2, 3, 4, 5, 6, 7, 8, 9, 10, 11, 12] [] [0, 1, 2, 3, 4, 5, 6, 7, 8, 9, 10, 11, 12] rfl rfl rfl rfl rfl rfl (fun H locs hP hD hS => ?_)
      refine W.eq (g2 := F0 m 40 ls [.int 0]) rfl ?_
      subst hQ
      have hP : va_P D vwCl (wMod b d d2 cI σ σ2 (put ω 20 (fun _ => 1))) H := hP
      have hD : va_D A (wMod b d d2 cI σ σ2 (put ω 20 (fun _ => 1))) := hD
      exact ret_wri hx hb hr rfl hlocks hP hD hS (show 0 = 0 from rfl) dX6_place_40
    · skip
      have c_2 : (0 ≤ p2 ∧ p2 ≤ 3) := bI_nz.mp c_2
      exact absurd ⟨by assumption, c_2⟩ h1
set_option maxHeartbeats 4000000 in
set_option maxRecDepth 100000 in
theorem M_X6_place_ok (l : Launch) (D : va_G) (cI : ClassId) (b : Nat → Nat) (d : Nat → Nat) (d2 : Nat → Nat) (σ : St) (σ2 : St) (ω : St) (sn : Nat) (ln : Nat) (w : Nat) (nc : Nat) (sz : Nat) (hs : sn < 12) (hl9 : ln < 3) (h1 : ((0 ≤ nI sn ∧ nI sn ≤ 11) ∧ (0 ≤ nI ln ∧ nI ln ≤ 2))) (h2 : (0 ≤ nI w ∧ nI w ≤ 3)) (hw : w < 4) (hnc : σ 17 0 = nI nc) (hn8 : nc ≤ 8) (hokj : ∀ j, j < nc → okC σ j) : Met l yX6_place wsX6_place ({ frames := 3, cells := 1, slots := 4, locals := 66 } : Room) (wrPc [.ref (b 0), .int (nI sn), .int (nI ln), .int (nI w)] D (wMod b d d2 cI σ σ2 ω) [(cI, .int)] sz) (wrQi (ptF σ sn ln nc w) D (wMod b d d2 cI σ σ2 (put ω 20 (fun _ => 0))) (va_A (wMod b d d2 cI σ σ2 ω) sz)) 1 4 (va_A (wMod b d d2 cI σ σ2 ω) sz) := by
  refine Met.ofW (cc := cX6_place) (maxL := 4) (ret := (some .int)) (by decide) rfl ?_
  intro p e s m args below meth c s₁ B hml hv
  obtain ⟨hargs, hsz, hP, hK, hD0⟩ := hv
  have hx := B.exec
  have hb := B.bytes
  have hr := B.returns
  have hts := atoms_spec (ws := wsX6_place) B.pre
  have hown : s.vm.findClass RX6 = some m.cls := findClass_of_methodNamed B.named
  have hlocks := B.notSynchronized
  obtain ⟨_, hN⟩ := id hK
  have hiX6 : ∀ w ∈ wsX60, w ∈ wsX6_place := by decide +kernel
  subst hsz
  have hD := hD0.self (sz := s.heap.size)
  generalize hAe : va_A (wMod b d d2 cI σ σ2 ω) s.heap.size = A at hD ⊢
  have hA : ∀ q : Nat, s.heap.size ≤ q → A q := fun q h => by rw [← hAe]; exact Or.inr h
  have hS : va_S A s.heap s.heap [] := va_S.rf
  have hP : va_P D vwCl (wMod b d d2 cI σ σ2 ω) s.heap := hP
  refine my_abs (fun Q hQ => ?_)
  obtain ⟨ls, hl, hent⟩ := my_entry (m := m) (n := 4) hargs (Nat.le_of_ble_eq_true rfl)
  rw [hent]
  have hl : lv_has ls 4 [(0, .ref (b 0)), (1, .int (nI sn)), (2, .int (nI ln)), (3, .int (nI w))] := hl
  show W p l e ({ frames := 3, cells := 1, slots := 4, locals := 66 } : Room) s m args below meth c s.heap [] 0 0 Q (F0 m 0 ls [])
  refine lv_aload_n hx hb dX6_place_0 rfl (lv_at hl 0 rfl) ?_
  refine lv_iconst (v := 0) hx hb dX6_place_1 (by decide) ?_
  refine va_put (D := D) (ci := 6) (v := .int 0) (ty := .int) (C := RX6) (T := TX6) (N := 8) hx hb hts hiX6 tyX6 tyX6_ok nmX6 hown hK.1 hP hD hS 0 rfl rfl 0 (by decide) (hts (.fieldLink RX6 43 "IceLanesModel" "thrown" "I") (by decide +kernel)) (fun _ h9 => h9) rfl (by decide +kernel) rfl rfl (Nat.le_of_ble_eq_true rfl) dX6_place_2 (fun H locs hP hD hS => ?_)
  have hP : va_P D vwCl (wOutE b d d2 cI 0 (ω 19 0) (ω 1) (ω 2) (ω 14) (ω 15) ++ (wSta d (b 0) cI σ ++ wSta d2 (b 0) cI σ2)) H := hP
  have hD : va_D A (wOutE b d d2 cI 0 (ω 19 0) (ω 1) (ω 2) (ω 14) (ω 15) ++ (wSta d (b 0) cI σ ++ wSta d2 (b 0) cI σ2)) := hD
  refine lv_iload_n hx hb dX6_place_5 rfl (lv_at hl 1 rfl) ?_
  refine lv_iload_n hx hb dX6_place_6 rfl (lv_at hl 2 rfl) ?_
  refine rd_i (va_runS (As := [.int (nI sn), .int (nI ln)]) (rest := []) ⟨hx, hb, hml, hown, hts⟩ (M_X6_isPlace l D cI (nI sn) (nI ln) ) (va_cwS 2 hts gX6_place_X6_isPlace rfl rfl rfl (by decide +kernel) ⟨Nat.le_of_ble_eq_true rfl, Nat.le_of_ble_eq_true rfl⟩) (rdS hK hP [] [0] rfl rfl) rfl rfl hl.1 rfl (lv_room (Nat.le_of_ble_eq_true rfl)) dX6_place_7 ⟨Nat.le_of_ble_eq_true rfl, Nat.le_of_ble_eq_true rfl⟩) ?_
  refine lv_if_eq (tgt := 35) hx hb dX6_place_10 (by decide) (fun c_1 => ?_) (fun c_1 => ?_)
  · skip
    have c_1 : ¬ ((0 ≤ (nI sn) ∧ (nI sn) ≤ 11) ∧ (0 ≤ (nI ln) ∧ (nI ln) ≤ 2)) := bI_z.mp c_1
    first | exact absurd c_1 (by assumption) | exact absurd (by assumption) c_1
  · skip
    have c_1 : ((0 ≤ (nI sn) ∧ (nI sn) ≤ 11) ∧ (0 ≤ (nI ln) ∧ (nI ln) ≤ 2)) := bI_nz.mp c_1
    refine lv_iload_n hx hb dX6_place_13 rfl (lv_at hl 3 rfl) ?_
    refine lv_iconst (v := 0) hx hb dX6_place_14 (by decide) ?_
    refine lv_iconst (v := 3) hx hb dX6_place_15 (by decide) ?_
    refine rd_i (va_runS (As := [.int (nI w), .int 0, .int 3]) (rest := []) ⟨hx, hb, hml, hown, hts⟩ (M_X6_isIn l D cI (nI w) 0 3 ) (va_cwS 3 hts gX6_place_X6_isIn rfl rfl rfl (by decide +kernel) ⟨Nat.le_of_ble_eq_true rfl, Nat.le_of_ble_eq_true rfl⟩) (rdS hK hP [] [0] rfl rfl) rfl rfl hl.1 rfl (lv_room (Nat.le_of_ble_eq_true rfl)) dX6_place_16 ⟨Nat.le_of_ble_eq_true rfl, Nat.le_of_ble_eq_true rfl⟩) ?_
    refine lv_if_eq (tgt := 35) hx hb dX6_place_19 (by decide) (fun c_2 => ?_) (fun c_2 => ?_)
    · skip
      have c_2 : ¬ (0 ≤ (nI w) ∧ (nI w) ≤ 3) := bI_z.mp c_2
      first | exact absurd c_2 (by assumption) | exact absurd (by assumption) c_2
    · skip
      have c_2 : (0 ≤ (nI w) ∧ (nI w) ≤ 3) := bI_nz.mp c_2
      refine lv_aload_n hx hb dX6_place_22 rfl (lv_at hl 0 rfl) ?_
      refine lv_iconst (v := 3) hx hb dX6_place_23 (by decide) ?_
      refine lv_iload_n hx hb dX6_place_24 rfl (lv_at hl 1 rfl) ?_
      refine lv_imul hx hb dX6_place_25 ?_
      refine lv_iload_n hx hb dX6_place_26 rfl (lv_at hl 2 rfl) ?_
      refine lv_iadd hx hb dX6_place_27 ?_
      rw [pl_nI2 sn ln]
      refine lv_iload_n hx hb dX6_place_28 rfl (lv_at hl 3 rfl) ?_
      refine wr_i (wn := wOutE b d d2 cI 0 (ω 19 0) (ω 1) (ω 2) (ω 14) (ω 15) ++ (wSta d (b 0) cI σ ++ wSta d2 (b 0) cI σ2)) (va_runV (As := [.int (nI (3 * sn + ln)), .int (nI w)]) (rest := []) ⟨hx, hb, hml, hown, hts⟩ (M_X6_placeTold l D cI b d d2 σ σ2 (put ω 20 (fun _ => 0)) sn ln w nc _ (by first | assumption | omega) (by first | assumption | omega) (by first | assumption | omega) (by first | assumption | omega) (by first | assumption | omega) (by first | assumption | omega)) (cwV 2 hts gX6_place_X6_placeTold rfl rfl rfl (by decide +kernel) ⟨Nat.le_of_ble_eq_true rfl, Nat.le_of_ble_eq_true rfl⟩) (wrV hK hP hD [0, 1, 2, 3, 4, 5, 6, 7, 8, 9, 10, 11, 12] [0] rfl rfl rfl (ci := 6) (q0 := 0) rfl rfl) rfl rfl hl.1 rfl (lv_room (Nat.le_of_ble_eq_true rfl)) dX6_place_29 ⟨Nat.le_of_ble_eq_true rfl, Nat.le_of_ble_eq_true rfl⟩) hP hD hS hA [0, 1, 2, 3, 4, 5, 6, 7, 8, 9, 10, 11, 12] [] [0, 1, 2, 3, 4, 5, 6, 7, 8, 9, 10, 11, 12] rfl rfl rfl rfl rfl rfl (fun H locs hP hD hS => ?_)
      refine W.eq (g2 := F0 m 32 ls [.int (ptF σ sn ln nc w)]) rfl ?_
      refine lv_goto (tgt := 40) hx hb dX6_place_32 (by decide) ?_
      subst hQ
      have hP : va_P D vwCl (wMod b d d2 cI σ σ2 (put ω 20 (fun _ => 0))) H := hP
      have hD : va_D A (wMod b d d2 cI σ σ2 (put ω 20 (fun _ => 0))) := hD
      exact ret_wri hx hb hr rfl hlocks hP hD hS (show ptF σ sn ln nc w = ptF σ sn ln nc w from rfl) dX6_place_40
set_option maxHeartbeats 4000000 in
set_option maxRecDepth 100000 in
theorem M_X6_come_e1 (l : Launch) (D : va_G) (cI : ClassId) (b : Nat → Nat) (d : Nat → Nat) (d2 : Nat → Nat) (σ : St) (σ2 : St) (ω : St) (p0 : Int32) (p1 : Int32) (p2 : Int32) (p3 : Int32) (sk : Int32) (sz : Nat) (h1 : ¬ ((0 ≤ p0 ∧ p0 ≤ 11) ∧ (0 ≤ p1 ∧ p1 ≤ 2))) : Met l yX6_come wsX6_come ({ frames := 2, cells := 0, slots := 0, locals := 43 } : Room) (wrPc [.ref (b 0), .int p0, .int p1, .int p2, .int p3, .int sk] D (wMod b d d2 cI σ σ2 ω) [(cI, .int)] sz) (wrQi 0 D (wMod b d d2 cI σ σ2 (put ω 20 (fun _ => 1))) (va_A (wMod b d d2 cI σ σ2 ω) sz)) 0 0 (va_A (wMod b d d2 cI σ σ2 ω) sz) := by
  refine Met.ofW (cc := cX6_come) (maxL := 7) (ret := (some .int)) (by decide) rfl ?_
  intro p e s m args below meth c s₁ B hml hv
  obtain ⟨hargs, hsz, hP, hK, hD0⟩ := hv
  have hx := B.exec
  have hb := B.bytes
  have hr := B.returns
  have hts := atoms_spec (ws := wsX6_come) B.pre
  have hown : s.vm.findClass RX6 = some m.cls := findClass_of_methodNamed B.named
  have hlocks := B.notSynchronized
  obtain ⟨_, hN⟩ := id hK
  have hiX6 : ∀ w ∈ wsX60, w ∈ wsX6_come := by decide +kernel
  subst hsz
  have hD := hD0.self (sz := s.heap.size)
  generalize hAe : va_A (wMod b d d2 cI σ σ2 ω) s.heap.size = A at hD ⊢
  have hA : ∀ q : Nat, s.heap.size ≤ q → A q := fun q h => by rw [← hAe]; exact Or.inr h
  have hS : va_S A s.heap s.heap [] := va_S.rf
  have hP : va_P D vwCl (wMod b d d2 cI σ σ2 ω) s.heap := hP
  refine my_abs (fun Q hQ => ?_)
  obtain ⟨ls, hl, hent⟩ := my_entry (m := m) (n := 7) hargs (Nat.le_of_ble_eq_true rfl)
  rw [hent]
  have hl : lv_has ls 7 [(0, .ref (b 0)), (1, .int p0), (2, .int p1), (3, .int p2), (4, .int p3), (5, .int sk)] := hl
  show W p l e ({ frames := 2, cells := 0, slots := 0, locals := 43 } : Room) s m args below meth c s.heap [] 0 0 Q (F0 m 0 ls [])
  refine lv_aload_n hx hb dX6_come_0 rfl (lv_at hl 0 rfl) ?_
  refine lv_iconst (v := 0) hx hb dX6_come_1 (by decide) ?_
  refine va_put (D := D) (ci := 6) (v := .int 0) (ty := .int) (C := RX6) (T := TX6) (N := 8) hx hb hts hiX6 tyX6 tyX6_ok nmX6 hown hK.1 hP hD hS 0 rfl rfl 0 (by decide) (hts (.fieldLink RX6 43 "IceLanesModel" "thrown" "I") (by decide +kernel)) (fun _ h9 => h9) rfl (by decide +kernel) rfl rfl (Nat.le_of_ble_eq_true rfl) dX6_come_2 (fun H locs hP hD hS => ?_)
  have hP : va_P D vwCl (wOutE b d d2 cI 0 (ω 19 0) (ω 1) (ω 2) (ω 14) (ω 15) ++ (wSta d (b 0) cI σ ++ wSta d2 (b 0) cI σ2)) H := hP
  have hD : va_D A (wOutE b d d2 cI 0 (ω 19 0) (ω 1) (ω 2) (ω 14) (ω 15) ++ (wSta d (b 0) cI σ ++ wSta d2 (b 0) cI σ2)) := hD
  refine lv_iload_n hx hb dX6_come_5 rfl (lv_at hl 1 rfl) ?_
  refine lv_iload_n hx hb dX6_come_6 rfl (lv_at hl 2 rfl) ?_
  refine rd_i (va_runS (As := [.int p0, .int p1]) (rest := []) ⟨hx, hb, hml, hown, hts⟩ (M_X6_isPlace l D cI p0 p1 ) (va_cwS 2 hts gX6_come_X6_isPlace rfl rfl rfl (by decide +kernel) ⟨Nat.le_of_ble_eq_true rfl, Nat.le_of_ble_eq_true rfl⟩) (rdS hK hP [] [0] rfl rfl) rfl rfl hl.1 rfl (lv_room (Nat.le_of_ble_eq_true rfl)) dX6_come_7 ⟨Nat.zero_le _, Nat.zero_le _⟩) ?_
  refine lv_if_ne (tgt := 19) hx hb dX6_come_10 (by decide) (fun c_1 => ?_) (fun c_1 => ?_)
  · skip
    have c_1 : ((0 ≤ p0 ∧ p0 ≤ 11) ∧ (0 ≤ p1 ∧ p1 ≤ 2)) := bI_nz.mp c_1
    first | exact absurd c_1 (by assumption) | exact absurd (by assumption) c_1
  · skip
    have c_1 : ¬ ((0 ≤ p0 ∧ p0 ≤ 11) ∧ (0 ≤ p1 ∧ p1 ≤ 2)) := bI_z.mp c_1
    refine lv_aload_n hx hb dX6_come_13 rfl (lv_at hl 0 rfl) ?_
    refine lv_iconst (v := 1) hx hb dX6_come_14 (by decide) ?_
    refine wr_i (wn := wOutE b d d2 cI 1 (ω 19 0) (ω 1) (ω 2) (ω 14) (ω 15) ++ (wSta d (b 0) cI σ ++ wSta d2 (b 0) cI σ2)) (va_runV (As := [.int 1]) (rest := []) ⟨hx, hb, hml, hown, hts⟩ (M_X6_no l D cI b d d2 σ σ2 (put ω 20 (fun _ => 0)) 1 _ ) (cwV 1 hts gX6_come_X6_no rfl rfl rfl (by decide +kernel) ⟨Nat.le_of_ble_eq_true rfl, Nat.le_of_ble_eq_true rfl⟩) (wrV hK hP hD [0, 1, 2, 3, 4, 5, 6, 7, 8, 9, 10, 11, 12] [0] rfl rfl rfl (ci := 6) (q0 := 0) rfl rfl) rfl rfl hl.1 rfl (lv_room (Nat.le_of_ble_eq_true rfl)) dX6_come_15 ⟨Nat.le_of_ble_eq_true rfl, Nat.le_of_ble_eq_true rfl⟩) hP hD hS hA [0, 1, 2, 3, 4, 5, 6, 7, 8, 9, 10, 11, 12] [] [0, 1, 2, 3, 4, 5, 6, 7, 8, 9, 10, 11, 12] rfl rfl rfl rfl rfl rfl (fun H locs hP hD hS => ?_)
    refine W.eq (g2 := F0 m 18 ls [.int 0]) rfl ?_
    subst hQ
    have hP : va_P D vwCl (wMod b d d2 cI σ σ2 (put ω 20 (fun _ => 1))) H := hP
    have hD : va_D A (wMod b d d2 cI σ σ2 (put ω 20 (fun _ => 1))) := hD
    exact ret_wri hx hb hr rfl hlocks hP hD hS (show 0 = 0 from rfl) dX6_come_18
set_option maxHeartbeats 4000000 in
set_option maxRecDepth 100000 in
theorem M_X6_come_e2 (l : Launch) (D : va_G) (cI : ClassId) (b : Nat → Nat) (d : Nat → Nat) (d2 : Nat → Nat) (σ : St) (σ2 : St) (ω : St) (p0 : Int32) (p1 : Int32) (p2 : Int32) (p3 : Int32) (sk : Int32) (sz : Nat) (h1 : ((0 ≤ p0 ∧ p0 ≤ 11) ∧ (0 ≤ p1 ∧ p1 ≤ 2))) (h2 : ¬ ((1 ≤ p2 ∧ p2 ≤ 40) ∧ (0 ≤ p3 ∧ p3 ≤ 20))) : Met l yX6_come wsX6_come ({ frames := 2, cells := 0, slots := 0, locals := 43 } : Room) (wrPc [.ref (b 0), .int p0, .int p1, .int p2, .int p3, .int sk] D (wMod b d d2 cI σ σ2 ω) [(cI, .int)] sz) (wrQi 0 D (wMod b d d2 cI σ σ2 (put ω 20 (fun _ => 2))) (va_A (wMod b d d2 cI σ σ2 ω) sz)) 0 0 (va_A (wMod b d d2 cI σ σ2 ω) sz) := by
  refine Met.ofW (cc := cX6_come) (maxL := 7) (ret := (some .int)) (by decide) rfl ?_
  intro p e s m args below meth c s₁ B hml hv
  obtain ⟨hargs, hsz, hP, hK, hD0⟩ := hv
  have hx := B.exec
  have hb := B.bytes
  have hr := B.returns
  have hts := atoms_spec (ws := wsX6_come) B.pre
  have hown : s.vm.findClass RX6 = some m.cls := findClass_of_methodNamed B.named
  have hlocks := B.notSynchronized
  obtain ⟨_, hN⟩ := id hK
  have hiX6 : ∀ w ∈ wsX60, w ∈ wsX6_come := by decide +kernel
  subst hsz
  have hD := hD0.self (sz := s.heap.size)
  generalize hAe : va_A (wMod b d d2 cI σ σ2 ω) s.heap.size = A at hD ⊢
  have hA : ∀ q : Nat, s.heap.size ≤ q → A q := fun q h => by rw [← hAe]; exact Or.inr h
  have hS : va_S A s.heap s.heap [] := va_S.rf
  have hP : va_P D vwCl (wMod b d d2 cI σ σ2 ω) s.heap := hP
  refine my_abs (fun Q hQ => ?_)
  obtain ⟨ls, hl, hent⟩ := my_entry (m := m) (n := 7) hargs (Nat.le_of_ble_eq_true rfl)
  rw [hent]
  have hl : lv_has ls 7 [(0, .ref (b 0)), (1, .int p0), (2, .int p1), (3, .int p2), (4, .int p3), (5, .int sk)] := hl
  show W p l e ({ frames := 2, cells := 0, slots := 0, locals := 43 } : Room) s m args below meth c s.heap [] 0 0 Q (F0 m 0 ls [])
  refine lv_aload_n hx hb dX6_come_0 rfl (lv_at hl 0 rfl) ?_
  refine lv_iconst (v := 0) hx hb dX6_come_1 (by decide) ?_
  refine va_put (D := D) (ci := 6) (v := .int 0) (ty := .int) (C := RX6) (T := TX6) (N := 8) hx hb hts hiX6 tyX6 tyX6_ok nmX6 hown hK.1 hP hD hS 0 rfl rfl 0 (by decide) (hts (.fieldLink RX6 43 "IceLanesModel" "thrown" "I") (by decide +kernel)) (fun _ h9 => h9) rfl (by decide +kernel) rfl rfl (Nat.le_of_ble_eq_true rfl) dX6_come_2 (fun H locs hP hD hS => ?_)
  have hP : va_P D vwCl (wOutE b d d2 cI 0 (ω 19 0) (ω 1) (ω 2) (ω 14) (ω 15) ++ (wSta d (b 0) cI σ ++ wSta d2 (b 0) cI σ2)) H := hP
  have hD : va_D A (wOutE b d d2 cI 0 (ω 19 0) (ω 1) (ω 2) (ω 14) (ω 15) ++ (wSta d (b 0) cI σ ++ wSta d2 (b 0) cI σ2)) := hD
  refine lv_iload_n hx hb dX6_come_5 rfl (lv_at hl 1 rfl) ?_
  refine lv_iload_n hx hb dX6_come_6 rfl (lv_at hl 2 rfl) ?_
  refine rd_i (va_runS (As := [.int p0, .int p1]) (rest := []) ⟨hx, hb, hml, hown, hts⟩ (M_X6_isPlace l D cI p0 p1 ) (va_cwS 2 hts gX6_come_X6_isPlace rfl rfl rfl (by decide +kernel) ⟨Nat.le_of_ble_eq_true rfl, Nat.le_of_ble_eq_true rfl⟩) (rdS hK hP [] [0] rfl rfl) rfl rfl hl.1 rfl (lv_room (Nat.le_of_ble_eq_true rfl)) dX6_come_7 ⟨Nat.zero_le _, Nat.zero_le _⟩) ?_
  refine lv_if_ne (tgt := 19) hx hb dX6_come_10 (by decide) (fun c_1 => ?_) (fun c_1 => ?_)
  · skip
    have c_1 : ((0 ≤ p0 ∧ p0 ≤ 11) ∧ (0 ≤ p1 ∧ p1 ≤ 2)) := bI_nz.mp c_1
    refine lv_iload_n hx hb dX6_come_19 rfl (lv_at hl 3 rfl) ?_
    refine lv_iconst (v := 1) hx hb dX6_come_20 (by decide) ?_
    refine lv_bipush (v := 40) hx hb dX6_come_21 (by decide) ?_
    refine rd_i (va_runS (As := [.int p2, .int 1, .int 40]) (rest := []) ⟨hx, hb, hml, hown, hts⟩ (M_X6_isIn l D cI p2 1 40 ) (va_cwS 3 hts gX6_come_X6_isIn rfl rfl rfl (by decide +kernel) ⟨Nat.le_of_ble_eq_true rfl, Nat.le_of_ble_eq_true rfl⟩) (rdS hK hP [] [0] rfl rfl) rfl rfl hl.1 rfl (lv_room (Nat.le_of_ble_eq_true rfl)) dX6_come_23 ⟨Nat.zero_le _, Nat.zero_le _⟩) ?_
    refine lv_if_eq (tgt := 40) hx hb dX6_come_26 (by decide) (fun c_2 => ?_) (fun c_2 => ?_)
    · skip
      have c_2 : ¬ (1 ≤ p2 ∧ p2 ≤ 40) := bI_z.mp c_2
      refine lv_aload_n hx hb dX6_come_40 rfl (lv_at hl 0 rfl) ?_
      refine lv_iconst (v := 2) hx hb dX6_come_41 (by decide) ?_
      refine wr_i (wn := wOutE b d d2 cI 2 (ω 19 0) (ω 1) (ω 2) (ω 14) (ω 15) ++ (wSta d (b 0) cI σ ++ wSta d2 (b 0) cI σ2)) (va_runV (As := [.int 2]) (rest := []) ⟨hx, hb, hml, hown, hts⟩ (M_X6_no l D cI b d d2 σ σ2 (put ω 20 (fun _ => 0)) 2 _ ) (cwV 1 hts gX6_come_X6_no rfl rfl rfl (by decide +kernel) ⟨Nat.le_of_ble_eq_true rfl, Nat.le_of_ble_eq_true rfl⟩) (wrV hK hP hD [0, 1, 2, 3, 4, 5, 6, 7, 8, 9, 10, 11, 12] [0] rfl rfl rfl (ci := 6) (q0 := 0) rfl rfl) rfl rfl hl.1 rfl (lv_room (Nat.le_of_ble_eq_true rfl)) dX6_come_42 ⟨Nat.le_of_ble_eq_true rfl, Nat.le_of_ble_eq_true rfl⟩) hP hD hS hA [0, 1, 2, 3, 4, 5, 6, 7, 8, 9, 10, 11, 12] [] [0, 1, 2, 3, 4, 5, 6, 7, 8, 9, 10, 11, 12] rfl rfl rfl rfl rfl rfl (fun H locs hP hD hS => ?_)
      refine W.eq (g2 := F0 m 45 ls [.int 0]) rfl ?_
      subst hQ
      have hP : va_P D vwCl (wMod b d d2 cI σ σ2 (put ω 20 (fun _ => 2))) H := hP
      have hD : va_D A (wMod b d d2 cI σ σ2 (put ω 20 (fun _ => 2))) := hD
      exact ret_wri hx hb hr rfl hlocks hP hD hS (show 0 = 0 from rfl) dX6_come_45
    · skip
      have c_2 : (1 ≤ p2 ∧ p2 ≤ 40) := bI_nz.mp c_2
      refine lv_iload hx hb dX6_come_29 (lv_at hl 4 rfl) ?_
      refine lv_iconst (v := 0) hx hb dX6_come_31 (by decide) ?_
      refine lv_bipush (v := 20) hx hb dX6_come_32 (by decide) ?_
      refine rd_i (va_runS (As := [.int p3, .int 0, .int 20]) (rest := []) ⟨hx, hb, hml, hown, hts⟩ (M_X6_isIn l D cI p3 0 20 ) (va_cwS 3 hts gX6_come_X6_isIn rfl rfl rfl (by decide +kernel) ⟨Nat.le_of_ble_eq_true rfl, Nat.le_of_ble_eq_true rfl⟩) (rdS hK hP [] [0] rfl rfl) rfl rfl hl.1 rfl (lv_room (Nat.le_of_ble_eq_true rfl)) dX6_come_34 ⟨Nat.zero_le _, Nat.zero_le _⟩) ?_
      refine lv_if_ne (tgt := 46) hx hb dX6_come_37 (by decide) (fun c_3 => ?_) (fun c_3 => ?_)
      · skip
        have c_3 : (0 ≤ p3 ∧ p3 ≤ 20) := bI_nz.mp c_3
        exact absurd ⟨by assumption, c_3⟩ h2
      · skip
        have c_3 : ¬ (0 ≤ p3 ∧ p3 ≤ 20) := bI_z.mp c_3
        refine lv_aload_n hx hb dX6_come_40 rfl (lv_at hl 0 rfl) ?_
        refine lv_iconst (v := 2) hx hb dX6_come_41 (by decide) ?_
        refine wr_i (wn := wOutE b d d2 cI 2 (ω 19 0) (ω 1) (ω 2) (ω 14) (ω 15) ++ (wSta d (b 0) cI σ ++ wSta d2 (b 0) cI σ2)) (va_runV (As := [.int 2]) (rest := []) ⟨hx, hb, hml, hown, hts⟩ (M_X6_no l D cI b d d2 σ σ2 (put ω 20 (fun _ => 0)) 2 _ ) (cwV 1 hts gX6_come_X6_no rfl rfl rfl (by decide +kernel) ⟨Nat.le_of_ble_eq_true rfl, Nat.le_of_ble_eq_true rfl⟩) (wrV hK hP hD [0, 1, 2, 3, 4, 5, 6, 7, 8, 9, 10, 11, 12] [0] rfl rfl rfl (ci := 6) (q0 := 0) rfl rfl) rfl rfl hl.1 rfl (lv_room (Nat.le_of_ble_eq_true rfl)) dX6_come_42 ⟨Nat.le_of_ble_eq_true rfl, Nat.le_of_ble_eq_true rfl⟩) hP hD hS hA [0, 1, 2, 3, 4, 5, 6, 7, 8, 9, 10, 11, 12] [] [0, 1, 2, 3, 4, 5, 6, 7, 8, 9, 10, 11, 12] rfl rfl rfl rfl rfl rfl (fun H locs hP hD hS => ?_)
        refine W.eq (g2 := F0 m 45 ls [.int 0]) rfl ?_
        subst hQ
        have hP : va_P D vwCl (wMod b d d2 cI σ σ2 (put ω 20 (fun _ => 2))) H := hP
        have hD : va_D A (wMod b d d2 cI σ σ2 (put ω 20 (fun _ => 2))) := hD
        exact ret_wri hx hb hr rfl hlocks hP hD hS (show 0 = 0 from rfl) dX6_come_45
  · skip
    have c_1 : ¬ ((0 ≤ p0 ∧ p0 ≤ 11) ∧ (0 ≤ p1 ∧ p1 ≤ 2)) := bI_z.mp c_1
    first | exact absurd c_1 (by assumption) | exact absurd (by assumption) c_1
set_option maxHeartbeats 4000000 in
set_option maxRecDepth 100000 in
theorem M_X6_come_e3 (l : Launch) (D : va_G) (cI : ClassId) (b : Nat → Nat) (d : Nat → Nat) (d2 : Nat → Nat) (σ : St) (σ2 : St) (ω : St) (sn : Nat) (ln : Nat) (p2 : Int32) (p3 : Int32) (sk : Int32) (sz : Nat) (hs : sn < 12) (hl9 : ln < 3) (h1 : ((0 ≤ nI sn ∧ nI sn ≤ 11) ∧ (0 ≤ nI ln ∧ nI ln ≤ 2))) (h2 : (1 ≤ p2 ∧ p2 ≤ 40)) (h3 : (0 ≤ p3 ∧ p3 ≤ 20)) (h4 : σ 17 0 = 8 ∨ ¬ p2 + p3 ≤ sndP (σ 3) (σ 4) (nI (3 * sn + ln))) : Met l yX6_come wsX6_come ({ frames := 2, cells := 0, slots := 0, locals := 43 } : Room) (wrPc [.ref (b 0), .int (nI sn), .int (nI ln), .int p2, .int p3, .int sk] D (wMod b d d2 cI σ σ2 ω) [(cI, .int)] sz) (wrQi 0 D (wMod b d d2 cI σ σ2 (put ω 20 (fun _ => 3))) (va_A (wMod b d d2 cI σ σ2 ω) sz)) 0 0 (va_A (wMod b d d2 cI σ σ2 ω) sz) := by
  refine Met.ofW (cc := cX6_come) (maxL := 7) (ret := (some .int)) (by decide) rfl ?_
  intro p e s m args below meth c s₁ B hml hv
  obtain ⟨hargs, hsz, hP, hK, hD0⟩ := hv
  have hx := B.exec
  have hb := B.bytes
  have hr := B.returns
  have hts := atoms_spec (ws := wsX6_come) B.pre
  have hown : s.vm.findClass RX6 = some m.cls := findClass_of_methodNamed B.named
  have hlocks := B.notSynchronized
  obtain ⟨_, hN⟩ := id hK
  have hiX5 : ∀ w ∈ wsX50, w ∈ wsX6_come := by decide +kernel
  have hiX6 : ∀ w ∈ wsX60, w ∈ wsX6_come := by decide +kernel
  subst hsz
  have hD := hD0.self (sz := s.heap.size)
  generalize hAe : va_A (wMod b d d2 cI σ σ2 ω) s.heap.size = A at hD ⊢
  have hA : ∀ q : Nat, s.heap.size ≤ q → A q := fun q h => by rw [← hAe]; exact Or.inr h
  have hS : va_S A s.heap s.heap [] := va_S.rf
  have hP : va_P D vwCl (wMod b d d2 cI σ σ2 ω) s.heap := hP
  refine my_abs (fun Q hQ => ?_)
  obtain ⟨ls, hl, hent⟩ := my_entry (m := m) (n := 7) hargs (Nat.le_of_ble_eq_true rfl)
  rw [hent]
  have hl : lv_has ls 7 [(0, .ref (b 0)), (1, .int (nI sn)), (2, .int (nI ln)), (3, .int p2), (4, .int p3), (5, .int sk)] := hl
  show W p l e ({ frames := 2, cells := 0, slots := 0, locals := 43 } : Room) s m args below meth c s.heap [] 0 0 Q (F0 m 0 ls [])
  refine lv_aload_n hx hb dX6_come_0 rfl (lv_at hl 0 rfl) ?_
  refine lv_iconst (v := 0) hx hb dX6_come_1 (by decide) ?_
  refine va_put (D := D) (ci := 6) (v := .int 0) (ty := .int) (C := RX6) (T := TX6) (N := 8) hx hb hts hiX6 tyX6 tyX6_ok nmX6 hown hK.1 hP hD hS 0 rfl rfl 0 (by decide) (hts (.fieldLink RX6 43 "IceLanesModel" "thrown" "I") (by decide +kernel)) (fun _ h9 => h9) rfl (by decide +kernel) rfl rfl (Nat.le_of_ble_eq_true rfl) dX6_come_2 (fun H locs hP hD hS => ?_)
  have hP : va_P D vwCl (wOutE b d d2 cI 0 (ω 19 0) (ω 1) (ω 2) (ω 14) (ω 15) ++ (wSta d (b 0) cI σ ++ wSta d2 (b 0) cI σ2)) H := hP
  have hD : va_D A (wOutE b d d2 cI 0 (ω 19 0) (ω 1) (ω 2) (ω 14) (ω 15) ++ (wSta d (b 0) cI σ ++ wSta d2 (b 0) cI σ2)) := hD
  refine lv_iload_n hx hb dX6_come_5 rfl (lv_at hl 1 rfl) ?_
  refine lv_iload_n hx hb dX6_come_6 rfl (lv_at hl 2 rfl) ?_
  refine rd_i (va_runS (As := [.int (nI sn), .int (nI ln)]) (rest := []) ⟨hx, hb, hml, hown, hts⟩ (M_X6_isPlace l D cI (nI sn) (nI ln) ) (va_cwS 2 hts gX6_come_X6_isPlace rfl rfl rfl (by decide +kernel) ⟨Nat.le_of_ble_eq_true rfl, Nat.le_of_ble_eq_true rfl⟩) (rdS hK hP [] [0] rfl rfl) rfl rfl hl.1 rfl (lv_room (Nat.le_of_ble_eq_true rfl)) dX6_come_7 ⟨Nat.zero_le _, Nat.zero_le _⟩) ?_
  refine lv_if_ne (tgt := 19) hx hb dX6_come_10 (by decide) (fun c_1 => ?_) (fun c_1 => ?_)
  · skip
    have c_1 : ((0 ≤ (nI sn) ∧ (nI sn) ≤ 11) ∧ (0 ≤ (nI ln) ∧ (nI ln) ≤ 2)) := bI_nz.mp c_1
    refine lv_iload_n hx hb dX6_come_19 rfl (lv_at hl 3 rfl) ?_
    refine lv_iconst (v := 1) hx hb dX6_come_20 (by decide) ?_
    refine lv_bipush (v := 40) hx hb dX6_come_21 (by decide) ?_
    refine rd_i (va_runS (As := [.int p2, .int 1, .int 40]) (rest := []) ⟨hx, hb, hml, hown, hts⟩ (M_X6_isIn l D cI p2 1 40 ) (va_cwS 3 hts gX6_come_X6_isIn rfl rfl rfl (by decide +kernel) ⟨Nat.le_of_ble_eq_true rfl, Nat.le_of_ble_eq_true rfl⟩) (rdS hK hP [] [0] rfl rfl) rfl rfl hl.1 rfl (lv_room (Nat.le_of_ble_eq_true rfl)) dX6_come_23 ⟨Nat.zero_le _, Nat.zero_le _⟩) ?_
    refine lv_if_eq (tgt := 40) hx hb dX6_come_26 (by decide) (fun c_2 => ?_) (fun c_2 => ?_)
    · skip
      have c_2 : ¬ (1 ≤ p2 ∧ p2 ≤ 40) := bI_z.mp c_2
      first | exact absurd c_2 (by assumption) | exact absurd (by assumption) c_2
    · skip
      have c_2 : (1 ≤ p2 ∧ p2 ≤ 40) := bI_nz.mp c_2
      refine lv_iload hx hb dX6_come_29 (lv_at hl 4 rfl) ?_
      refine lv_iconst (v := 0) hx hb dX6_come_31 (by decide) ?_
      refine lv_bipush (v := 20) hx hb dX6_come_32 (by decide) ?_
      refine rd_i (va_runS (As := [.int p3, .int 0, .int 20]) (rest := []) ⟨hx, hb, hml, hown, hts⟩ (M_X6_isIn l D cI p3 0 20 ) (va_cwS 3 hts gX6_come_X6_isIn rfl rfl rfl (by decide +kernel) ⟨Nat.le_of_ble_eq_true rfl, Nat.le_of_ble_eq_true rfl⟩) (rdS hK hP [] [0] rfl rfl) rfl rfl hl.1 rfl (lv_room (Nat.le_of_ble_eq_true rfl)) dX6_come_34 ⟨Nat.zero_le _, Nat.zero_le _⟩) ?_
      refine lv_if_ne (tgt := 46) hx hb dX6_come_37 (by decide) (fun c_3 => ?_) (fun c_3 => ?_)
      · skip
        have c_3 : (0 ≤ p3 ∧ p3 ≤ 20) := bI_nz.mp c_3
        refine lv_aload_n hx hb dX6_come_46 rfl (lv_at hl 0 rfl) ?_
        refine va_get (D := D) (ci := 6) (v := .ref (d 0)) (C := RX6) (T := TX6) (N := 8) hx hb hts hiX6 hown hK.1 hP 0 rfl rfl 6 (by decide) (hts (.fieldLink RX6 27 "IceLanesModel" "s" "LIceLanesModel$State;") (by decide +kernel)) (fun _ h9 => h9) rfl dX6_come_47 ?_
        refine va_getN (D := D) (ci := 5) (v := .int (σ 17 0)) (C := RX5) (T := TX5) (N := 8) hx hb hts hiX5 hown hK.1 hP 5 rfl rfl 1 (by decide) (va_Nw.use rfl (nX6_51 hN)) (fun _ h9 => h9) rfl dX6_come_50 ?_
        refine lv_bipush (v := 8) hx hb dX6_come_53 (by decide) ?_
        refine lv_icmp_eq (tgt := 77) hx hb dX6_come_55 (by decide) (fun c_4 => ?_) (fun c_4 => ?_)
        · skip
          refine lv_aload_n hx hb dX6_come_77 rfl (lv_at hl 0 rfl) ?_
          refine lv_iconst (v := 3) hx hb dX6_come_78 (by decide) ?_
          refine wr_i (wn := wOutE b d d2 cI 3 (ω 19 0) (ω 1) (ω 2) (ω 14) (ω 15) ++ (wSta d (b 0) cI σ ++ wSta d2 (b 0) cI σ2)) (va_runV (As := [.int 3]) (rest := []) ⟨hx, hb, hml, hown, hts⟩ (M_X6_no l D cI b d d2 σ σ2 (put ω 20 (fun _ => 0)) 3 _ ) (cwV 1 hts gX6_come_X6_no rfl rfl rfl (by decide +kernel) ⟨Nat.le_of_ble_eq_true rfl, Nat.le_of_ble_eq_true rfl⟩) (wrV hK hP hD [0, 1, 2, 3, 4, 5, 6, 7, 8, 9, 10, 11, 12] [0] rfl rfl rfl (ci := 6) (q0 := 0) rfl rfl) rfl rfl hl.1 rfl (lv_room (Nat.le_of_ble_eq_true rfl)) dX6_come_79 ⟨Nat.le_of_ble_eq_true rfl, Nat.le_of_ble_eq_true rfl⟩) hP hD hS hA [0, 1, 2, 3, 4, 5, 6, 7, 8, 9, 10, 11, 12] [] [0, 1, 2, 3, 4, 5, 6, 7, 8, 9, 10, 11, 12] rfl rfl rfl rfl rfl rfl (fun H locs hP hD hS => ?_)
          refine W.eq (g2 := F0 m 82 ls [.int 0]) rfl ?_
          subst hQ
          have hP : va_P D vwCl (wMod b d d2 cI σ σ2 (put ω 20 (fun _ => 3))) H := hP
          have hD : va_D A (wMod b d d2 cI σ σ2 (put ω 20 (fun _ => 3))) := hD
          exact ret_wri hx hb hr rfl hlocks hP hD hS (show 0 = 0 from rfl) dX6_come_82
        · skip
          refine lv_aload_n hx hb dX6_come_58 rfl (lv_at hl 0 rfl) ?_
          refine va_get (D := D) (ci := 6) (v := .ref (d 0)) (C := RX6) (T := TX6) (N := 8) hx hb hts hiX6 hown hK.1 hP 0 rfl rfl 6 (by decide) (hts (.fieldLink RX6 27 "IceLanesModel" "s" "LIceLanesModel$State;") (by decide +kernel)) (fun _ h9 => h9) rfl dX6_come_59 ?_
          refine lv_iconst (v := 3) hx hb dX6_come_62 (by decide) ?_
          refine lv_iload_n hx hb dX6_come_63 rfl (lv_at hl 1 rfl) ?_
          refine lv_imul hx hb dX6_come_64 ?_
          refine lv_iload_n hx hb dX6_come_65 rfl (lv_at hl 2 rfl) ?_
          refine lv_iadd hx hb dX6_come_66 ?_
          rw [pl_nI2 sn ln]
          refine rd_i (va_runV (As := [.int (nI (3 * sn + ln))]) (rest := []) ⟨hx, hb, hml, hown, hts⟩ (M_X5_holds l D cI d (b 0) σ (3 * sn + ln) (by omega)) (cwV 1 hts gX6_come_X5_holds rfl rfl rfl (by decide +kernel) ⟨Nat.le_of_ble_eq_true rfl, Nat.le_of_ble_eq_true rfl⟩) (rdV hK hP [5, 6, 7, 8] [0] rfl rfl (ci := 5) (q0 := 5) rfl rfl) rfl rfl hl.1 rfl (lv_room (Nat.le_of_ble_eq_true rfl)) dX6_come_67 ⟨Nat.zero_le _, Nat.zero_le _⟩) ?_
          refine lv_iload_n hx hb dX6_come_70 rfl (lv_at hl 3 rfl) ?_
          refine lv_iload hx hb dX6_come_71 (lv_at hl 4 rfl) ?_
          refine lv_iadd hx hb dX6_come_73 ?_
          refine lv_icmp_ge (tgt := 83) hx hb dX6_come_74 (by decide) (fun c_5 => ?_) (fun c_5 => ?_)
          · skip
            exact h4.elim (fun z => absurd z (by assumption)) (fun z => absurd c_5 z)
          · skip
            refine lv_aload_n hx hb dX6_come_77 rfl (lv_at hl 0 rfl) ?_
            refine lv_iconst (v := 3) hx hb dX6_come_78 (by decide) ?_
            refine wr_i (wn := wOutE b d d2 cI 3 (ω 19 0) (ω 1) (ω 2) (ω 14) (ω 15) ++ (wSta d (b 0) cI σ ++ wSta d2 (b 0) cI σ2)) (va_runV (As := [.int 3]) (rest := []) ⟨hx, hb, hml, hown, hts⟩ (M_X6_no l D cI b d d2 σ σ2 (put ω 20 (fun _ => 0)) 3 _ ) (cwV 1 hts gX6_come_X6_no rfl rfl rfl (by decide +kernel) ⟨Nat.le_of_ble_eq_true rfl, Nat.le_of_ble_eq_true rfl⟩) (wrV hK hP hD [0, 1, 2, 3, 4, 5, 6, 7, 8, 9, 10, 11, 12] [0] rfl rfl rfl (ci := 6) (q0 := 0) rfl rfl) rfl rfl hl.1 rfl (lv_room (Nat.le_of_ble_eq_true rfl)) dX6_come_79 ⟨Nat.le_of_ble_eq_true rfl, Nat.le_of_ble_eq_true rfl⟩) hP hD hS hA [0, 1, 2, 3, 4, 5, 6, 7, 8, 9, 10, 11, 12] [] [0, 1, 2, 3, 4, 5, 6, 7, 8, 9, 10, 11, 12] rfl rfl rfl rfl rfl rfl (fun H locs hP hD hS => ?_)
            refine W.eq (g2 := F0 m 82 ls [.int 0]) rfl ?_
            subst hQ
            have hP : va_P D vwCl (wMod b d d2 cI σ σ2 (put ω 20 (fun _ => 3))) H := hP
            have hD : va_D A (wMod b d d2 cI σ σ2 (put ω 20 (fun _ => 3))) := hD
            exact ret_wri hx hb hr rfl hlocks hP hD hS (show 0 = 0 from rfl) dX6_come_82
      · skip
        have c_3 : ¬ (0 ≤ p3 ∧ p3 ≤ 20) := bI_z.mp c_3
        first | exact absurd c_3 (by assumption) | exact absurd (by assumption) c_3
  · skip
    have c_1 : ¬ ((0 ≤ (nI sn) ∧ (nI sn) ≤ 11) ∧ (0 ≤ (nI ln) ∧ (nI ln) ≤ 2)) := bI_z.mp c_1
    first | exact absurd c_1 (by assumption) | exact absurd (by assumption) c_1
set_option maxHeartbeats 4000000 in
set_option maxRecDepth 100000 in
theorem M_X6_come_ok (l : Launch) (D : va_G) (cI : ClassId) (b : Nat → Nat) (d : Nat → Nat) (d2 : Nat → Nat) (σ : St) (σ2 : St) (ω : St) (sn : Nat) (ln : Nat) (p2 : Int32) (p3 : Int32) (sk : Int32) (pa : Int32) (nc : Nat) (sz : Nat) (hs : sn < 12) (hl9 : ln < 3) (h1 : ((0 ≤ nI sn ∧ nI sn ≤ 11) ∧ (0 ≤ nI ln ∧ nI ln ≤ 2))) (h2 : (1 ≤ p2 ∧ p2 ≤ 40)) (h3 : (0 ≤ p3 ∧ p3 ≤ 20)) (hnc : σ 17 0 = nI nc) (hn8 : nc < 8) (h4 : p2 + p3 ≤ sndP (σ 3) (σ 4) (nI (3 * sn + ln))) (hpa : pa = if sk = 0 then 1 else 2) : Met l yX6_come wsX6_come ({ frames := 2, cells := 1, slots := 9, locals := 43 } : Room) (wrPc [.ref (b 0), .int (nI sn), .int (nI ln), .int p2, .int p3, .int sk] D (wMod b d d2 cI σ σ2 ω) [(cI, .int)] sz) (wrQi (nI nc) D (wMod b d d2 cI (put (put (put (put (put (put (put (put (put (put σ 5 (upd (σ 5) nc p2)) 6 (upd (σ 6) nc p3)) 7 (upd (σ 7) nc 20)) 8 (upd (σ 8) nc (nI sn))) 9 (upd (σ 9) nc (nI ln))) 10 (upd (σ 10) nc (nI sn))) 11 (upd (σ 11) nc 0)) 12 (upd (σ 12) nc 0)) 13 (upd (σ 13) nc pa)) 17 (fun _ => nI (nc + 1))) σ2 (put ω 20 (fun _ => 0))) (va_A (wMod b d d2 cI σ σ2 ω) sz)) 1 9 (va_A (wMod b d d2 cI σ σ2 ω) sz) := by
  refine Met.ofW (cc := cX6_come) (maxL := 7) (ret := (some .int)) (by decide) rfl ?_
  intro p e s m args below meth c s₁ B hml hv
  obtain ⟨hargs, hsz, hP, hK, hD0⟩ := hv
  have hx := B.exec
  have hb := B.bytes
  have hr := B.returns
  have hts := atoms_spec (ws := wsX6_come) B.pre
  have hown : s.vm.findClass RX6 = some m.cls := findClass_of_methodNamed B.named
  have hlocks := B.notSynchronized
  obtain ⟨_, hN⟩ := id hK
  have hiX5 : ∀ w ∈ wsX50, w ∈ wsX6_come := by decide +kernel
  have hiX6 : ∀ w ∈ wsX60, w ∈ wsX6_come := by decide +kernel
  subst hsz
  have hD := hD0.self (sz := s.heap.size)
  generalize hAe : va_A (wMod b d d2 cI σ σ2 ω) s.heap.size = A at hD ⊢
  have hA : ∀ q : Nat, s.heap.size ≤ q → A q := fun q h => by rw [← hAe]; exact Or.inr h
  have hS : va_S A s.heap s.heap [] := va_S.rf
  have hP : va_P D vwCl (wMod b d d2 cI σ σ2 ω) s.heap := hP
  refine my_abs (fun Q hQ => ?_)
  obtain ⟨ls, hl, hent⟩ := my_entry (m := m) (n := 7) hargs (Nat.le_of_ble_eq_true rfl)
  rw [hent]
  have hl : lv_has ls 7 [(0, .ref (b 0)), (1, .int (nI sn)), (2, .int (nI ln)), (3, .int p2), (4, .int p3), (5, .int sk)] := hl
  show W p l e ({ frames := 2, cells := 1, slots := 9, locals := 43 } : Room) s m args below meth c s.heap [] 0 0 Q (F0 m 0 ls [])
  refine lv_aload_n hx hb dX6_come_0 rfl (lv_at hl 0 rfl) ?_
  refine lv_iconst (v := 0) hx hb dX6_come_1 (by decide) ?_
  refine va_put (D := D) (ci := 6) (v := .int 0) (ty := .int) (C := RX6) (T := TX6) (N := 8) hx hb hts hiX6 tyX6 tyX6_ok nmX6 hown hK.1 hP hD hS 0 rfl rfl 0 (by decide) (hts (.fieldLink RX6 43 "IceLanesModel" "thrown" "I") (by decide +kernel)) (fun _ h9 => h9) rfl (by decide +kernel) rfl rfl (Nat.le_of_ble_eq_true rfl) dX6_come_2 (fun H locs hP hD hS => ?_)
  have hP : va_P D vwCl (wOutE b d d2 cI 0 (ω 19 0) (ω 1) (ω 2) (ω 14) (ω 15) ++ (wSta d (b 0) cI σ ++ wSta d2 (b 0) cI σ2)) H := hP
  have hD : va_D A (wOutE b d d2 cI 0 (ω 19 0) (ω 1) (ω 2) (ω 14) (ω 15) ++ (wSta d (b 0) cI σ ++ wSta d2 (b 0) cI σ2)) := hD
  refine lv_iload_n hx hb dX6_come_5 rfl (lv_at hl 1 rfl) ?_
  refine lv_iload_n hx hb dX6_come_6 rfl (lv_at hl 2 rfl) ?_
  refine rd_i (va_runS (As := [.int (nI sn), .int (nI ln)]) (rest := []) ⟨hx, hb, hml, hown, hts⟩ (M_X6_isPlace l D cI (nI sn) (nI ln) ) (va_cwS 2 hts gX6_come_X6_isPlace rfl rfl rfl (by decide +kernel) ⟨Nat.le_of_ble_eq_true rfl, Nat.le_of_ble_eq_true rfl⟩) (rdS hK hP [] [0] rfl rfl) rfl rfl hl.1 rfl (lv_room (Nat.le_of_ble_eq_true rfl)) dX6_come_7 ⟨Nat.le_of_ble_eq_true rfl, Nat.le_of_ble_eq_true rfl⟩) ?_
  refine lv_if_ne (tgt := 19) hx hb dX6_come_10 (by decide) (fun c_1 => ?_) (fun c_1 => ?_)
  · skip
    have c_1 : ((0 ≤ (nI sn) ∧ (nI sn) ≤ 11) ∧ (0 ≤ (nI ln) ∧ (nI ln) ≤ 2)) := bI_nz.mp c_1
    refine lv_iload_n hx hb dX6_come_19 rfl (lv_at hl 3 rfl) ?_
    refine lv_iconst (v := 1) hx hb dX6_come_20 (by decide) ?_
    refine lv_bipush (v := 40) hx hb dX6_come_21 (by decide) ?_
    refine rd_i (va_runS (As := [.int p2, .int 1, .int 40]) (rest := []) ⟨hx, hb, hml, hown, hts⟩ (M_X6_isIn l D cI p2 1 40 ) (va_cwS 3 hts gX6_come_X6_isIn rfl rfl rfl (by decide +kernel) ⟨Nat.le_of_ble_eq_true rfl, Nat.le_of_ble_eq_true rfl⟩) (rdS hK hP [] [0] rfl rfl) rfl rfl hl.1 rfl (lv_room (Nat.le_of_ble_eq_true rfl)) dX6_come_23 ⟨Nat.le_of_ble_eq_true rfl, Nat.le_of_ble_eq_true rfl⟩) ?_
    refine lv_if_eq (tgt := 40) hx hb dX6_come_26 (by decide) (fun c_2 => ?_) (fun c_2 => ?_)
    · skip
      have c_2 : ¬ (1 ≤ p2 ∧ p2 ≤ 40) := bI_z.mp c_2
      first | exact absurd c_2 (by assumption) | exact absurd (by assumption) c_2
    · skip
      have c_2 : (1 ≤ p2 ∧ p2 ≤ 40) := bI_nz.mp c_2
      refine lv_iload hx hb dX6_come_29 (lv_at hl 4 rfl) ?_
      refine lv_iconst (v := 0) hx hb dX6_come_31 (by decide) ?_
      refine lv_bipush (v := 20) hx hb dX6_come_32 (by decide) ?_
      refine rd_i (va_runS (As := [.int p3, .int 0, .int 20]) (rest := []) ⟨hx, hb, hml, hown, hts⟩ (M_X6_isIn l D cI p3 0 20 ) (va_cwS 3 hts gX6_come_X6_isIn rfl rfl rfl (by decide +kernel) ⟨Nat.le_of_ble_eq_true rfl, Nat.le_of_ble_eq_true rfl⟩) (rdS hK hP [] [0] rfl rfl) rfl rfl hl.1 rfl (lv_room (Nat.le_of_ble_eq_true rfl)) dX6_come_34 ⟨Nat.le_of_ble_eq_true rfl, Nat.le_of_ble_eq_true rfl⟩) ?_
      refine lv_if_ne (tgt := 46) hx hb dX6_come_37 (by decide) (fun c_3 => ?_) (fun c_3 => ?_)
      · skip
        have c_3 : (0 ≤ p3 ∧ p3 ≤ 20) := bI_nz.mp c_3
        refine lv_aload_n hx hb dX6_come_46 rfl (lv_at hl 0 rfl) ?_
        refine va_get (D := D) (ci := 6) (v := .ref (d 0)) (C := RX6) (T := TX6) (N := 8) hx hb hts hiX6 hown hK.1 hP 0 rfl rfl 6 (by decide) (hts (.fieldLink RX6 27 "IceLanesModel" "s" "LIceLanesModel$State;") (by decide +kernel)) (fun _ h9 => h9) rfl dX6_come_47 ?_
        refine va_getN (D := D) (ci := 5) (v := .int (σ 17 0)) (C := RX5) (T := TX5) (N := 8) hx hb hts hiX5 hown hK.1 hP 5 rfl rfl 1 (by decide) (va_Nw.use rfl (nX6_51 hN)) (fun _ h9 => h9) rfl dX6_come_50 ?_
        refine lv_bipush (v := 8) hx hb dX6_come_53 (by decide) ?_
        refine lv_icmp_eq (tgt := 77) hx hb dX6_come_55 (by decide) (fun c_4 => ?_) (fun c_4 => ?_)
        · skip
          exact absurd (hnc.symm.trans c_4) (fun z => absurd ((nI_eq (a := nc) (b := 8) (by omega) (by omega)).mp z) (by omega))
        · skip
          refine lv_aload_n hx hb dX6_come_58 rfl (lv_at hl 0 rfl) ?_
          refine va_get (D := D) (ci := 6) (v := .ref (d 0)) (C := RX6) (T := TX6) (N := 8) hx hb hts hiX6 hown hK.1 hP 0 rfl rfl 6 (by decide) (hts (.fieldLink RX6 27 "IceLanesModel" "s" "LIceLanesModel$State;") (by decide +kernel)) (fun _ h9 => h9) rfl dX6_come_59 ?_
          refine lv_iconst (v := 3) hx hb dX6_come_62 (by decide) ?_
          refine lv_iload_n hx hb dX6_come_63 rfl (lv_at hl 1 rfl) ?_
          refine lv_imul hx hb dX6_come_64 ?_
          refine lv_iload_n hx hb dX6_come_65 rfl (lv_at hl 2 rfl) ?_
          refine lv_iadd hx hb dX6_come_66 ?_
          rw [pl_nI2 sn ln]
          refine rd_i (va_runV (As := [.int (nI (3 * sn + ln))]) (rest := []) ⟨hx, hb, hml, hown, hts⟩ (M_X5_holds l D cI d (b 0) σ (3 * sn + ln) (by omega)) (cwV 1 hts gX6_come_X5_holds rfl rfl rfl (by decide +kernel) ⟨Nat.le_of_ble_eq_true rfl, Nat.le_of_ble_eq_true rfl⟩) (rdV hK hP [5, 6, 7, 8] [0] rfl rfl (ci := 5) (q0 := 5) rfl rfl) rfl rfl hl.1 rfl (lv_room (Nat.le_of_ble_eq_true rfl)) dX6_come_67 ⟨Nat.le_of_ble_eq_true rfl, Nat.le_of_ble_eq_true rfl⟩) ?_
          refine lv_iload_n hx hb dX6_come_70 rfl (lv_at hl 3 rfl) ?_
          refine lv_iload hx hb dX6_come_71 (lv_at hl 4 rfl) ?_
          refine lv_iadd hx hb dX6_come_73 ?_
          refine lv_icmp_ge (tgt := 83) hx hb dX6_come_74 (by decide) (fun c_5 => ?_) (fun c_5 => ?_)
          · skip
            refine lv_bipush (v := 9) hx hb dX6_come_83 (by decide) ?_
            refine my_newi (N := 9) hx hb (hts (.arrayClass .int) (by decide +kernel)) hK.1 hP hD hS hA (by decide) rfl (Nat.le_of_ble_eq_true rfl) (Nat.le_of_ble_eq_true rfl) (Nat.le_of_ble_eq_true rfl) dX6_come_85 (fun q_6 H hP hD hS => ?_)
            have hP : va_P D vwCl ((wOutE b d d2 cI 0 (ω 19 0) (ω 1) (ω 2) (ω 14) (ω 15) ++ (wSta d (b 0) cI σ ++ wSta d2 (b 0) cI σ2)) ++ [(q_6, .inl (cI, 9, .inl (fun _ => 0)))]) H := hP
            have hD : va_D A ((wOutE b d d2 cI 0 (ω 19 0) (ω 1) (ω 2) (ω 14) (ω 15) ++ (wSta d (b 0) cI σ ++ wSta d2 (b 0) cI σ2)) ++ [(q_6, .inl (cI, 9, .inl (fun _ => 0)))]) := hD
            refine lv_dup hx hb dX6_come_87 rfl ?_
            refine lv_iconst (v := 0) hx hb dX6_come_88 (by decide) ?_
            refine lv_iload_n hx hb dX6_come_89 rfl (lv_at hl 3 rfl) ?_
            refine va_iast hx hb hK.1 hP hD hS 13 0 rfl rfl (by unfold vp_in; decide) dX6_come_90 (fun H locs hP hD hS => ?_)
            have hP : va_P D vwCl ((wOutE b d d2 cI 0 (ω 19 0) (ω 1) (ω 2) (ω 14) (ω 15) ++ (wSta d (b 0) cI σ ++ wSta d2 (b 0) cI σ2)) ++ [(q_6, .inl (cI, 9, .inl (upd (fun _ => 0) 0 p2)))]) H := hP
            have hD : va_D A ((wOutE b d d2 cI 0 (ω 19 0) (ω 1) (ω 2) (ω 14) (ω 15) ++ (wSta d (b 0) cI σ ++ wSta d2 (b 0) cI σ2)) ++ [(q_6, .inl (cI, 9, .inl (upd (fun _ => 0) 0 p2)))]) := hD
            refine lv_dup hx hb dX6_come_91 rfl ?_
            refine lv_iconst (v := 1) hx hb dX6_come_92 (by decide) ?_
            refine lv_iload hx hb dX6_come_93 (lv_at hl 4 rfl) ?_
            refine va_iast hx hb hK.1 hP hD hS 13 0 rfl rfl (by unfold vp_in; decide) dX6_come_95 (fun H locs hP hD hS => ?_)
            have hP : va_P D vwCl ((wOutE b d d2 cI 0 (ω 19 0) (ω 1) (ω 2) (ω 14) (ω 15) ++ (wSta d (b 0) cI σ ++ wSta d2 (b 0) cI σ2)) ++ [(q_6, .inl (cI, 9, .inl (upd (upd (fun _ => 0) 0 p2) 1 p3)))]) H := hP
            have hD : va_D A ((wOutE b d d2 cI 0 (ω 19 0) (ω 1) (ω 2) (ω 14) (ω 15) ++ (wSta d (b 0) cI σ ++ wSta d2 (b 0) cI σ2)) ++ [(q_6, .inl (cI, 9, .inl (upd (upd (fun _ => 0) 0 p2) 1 p3)))]) := hD
            refine lv_dup hx hb dX6_come_96 rfl ?_
            refine lv_iconst (v := 2) hx hb dX6_come_97 (by decide) ?_
            refine lv_bipush (v := 20) hx hb dX6_come_98 (by decide) ?_
            refine va_iast hx hb hK.1 hP hD hS 13 0 rfl rfl (by unfold vp_in; decide) dX6_come_100 (fun H locs hP hD hS => ?_)
            have hP : va_P D vwCl ((wOutE b d d2 cI 0 (ω 19 0) (ω 1) (ω 2) (ω 14) (ω 15) ++ (wSta d (b 0) cI σ ++ wSta d2 (b 0) cI σ2)) ++ [(q_6, .inl (cI, 9, .inl (upd (upd (upd (fun _ => 0) 0 p2) 1 p3) 2 20)))]) H := hP
            have hD : va_D A ((wOutE b d d2 cI 0 (ω 19 0) (ω 1) (ω 2) (ω 14) (ω 15) ++ (wSta d (b 0) cI σ ++ wSta d2 (b 0) cI σ2)) ++ [(q_6, .inl (cI, 9, .inl (upd (upd (upd (fun _ => 0) 0 p2) 1 p3) 2 20)))]) := hD
            refine lv_dup hx hb dX6_come_101 rfl ?_
            refine lv_iconst (v := 3) hx hb dX6_come_102 (by decide) ?_
            refine lv_iload_n hx hb dX6_come_103 rfl (lv_at hl 1 rfl) ?_
            refine va_iast hx hb hK.1 hP hD hS 13 0 rfl rfl (by unfold vp_in; decide) dX6_come_104 (fun H locs hP hD hS => ?_)
            have hP : va_P D vwCl ((wOutE b d d2 cI 0 (ω 19 0) (ω 1) (ω 2) (ω 14) (ω 15) ++ (wSta d (b 0) cI σ ++ wSta d2 (b 0) cI σ2)) ++ [(q_6, .inl (cI, 9, .inl (upd (upd (upd (upd (fun _ => 0) 0 p2) 1 p3) 2 20) 3 (nI sn))))]) H := hP
            have hD : va_D A ((wOutE b d d2 cI 0 (ω 19 0) (ω 1) (ω 2) (ω 14) (ω 15) ++ (wSta d (b 0) cI σ ++ wSta d2 (b 0) cI σ2)) ++ [(q_6, .inl (cI, 9, .inl (upd (upd (upd (upd (fun _ => 0) 0 p2) 1 p3) 2 20) 3 (nI sn))))]) := hD
            refine lv_dup hx hb dX6_come_105 rfl ?_
            refine lv_iconst (v := 4) hx hb dX6_come_106 (by decide) ?_
            refine lv_iload_n hx hb dX6_come_107 rfl (lv_at hl 2 rfl) ?_
            refine va_iast hx hb hK.1 hP hD hS 13 0 rfl rfl (by unfold vp_in; decide) dX6_come_108 (fun H locs hP hD hS => ?_)
            have hP : va_P D vwCl ((wOutE b d d2 cI 0 (ω 19 0) (ω 1) (ω 2) (ω 14) (ω 15) ++ (wSta d (b 0) cI σ ++ wSta d2 (b 0) cI σ2)) ++ [(q_6, .inl (cI, 9, .inl (upd (upd (upd (upd (upd (fun _ => 0) 0 p2) 1 p3) 2 20) 3 (nI sn)) 4 (nI ln))))]) H := hP
            have hD : va_D A ((wOutE b d d2 cI 0 (ω 19 0) (ω 1) (ω 2) (ω 14) (ω 15) ++ (wSta d (b 0) cI σ ++ wSta d2 (b 0) cI σ2)) ++ [(q_6, .inl (cI, 9, .inl (upd (upd (upd (upd (upd (fun _ => 0) 0 p2) 1 p3) 2 20) 3 (nI sn)) 4 (nI ln))))]) := hD
            refine lv_dup hx hb dX6_come_109 rfl ?_
            refine lv_iconst (v := 5) hx hb dX6_come_110 (by decide) ?_
            refine lv_iload_n hx hb dX6_come_111 rfl (lv_at hl 1 rfl) ?_
            refine va_iast hx hb hK.1 hP hD hS 13 0 rfl rfl (by unfold vp_in; decide) dX6_come_112 (fun H locs hP hD hS => ?_)
            have hP : va_P D vwCl ((wOutE b d d2 cI 0 (ω 19 0) (ω 1) (ω 2) (ω 14) (ω 15) ++ (wSta d (b 0) cI σ ++ wSta d2 (b 0) cI σ2)) ++ [(q_6, .inl (cI, 9, .inl (upd (upd (upd (upd (upd (upd (fun _ => 0) 0 p2) 1 p3) 2 20) 3 (nI sn)) 4 (nI ln)) 5 (nI sn))))]) H := hP
            have hD : va_D A ((wOutE b d d2 cI 0 (ω 19 0) (ω 1) (ω 2) (ω 14) (ω 15) ++ (wSta d (b 0) cI σ ++ wSta d2 (b 0) cI σ2)) ++ [(q_6, .inl (cI, 9, .inl (upd (upd (upd (upd (upd (upd (fun _ => 0) 0 p2) 1 p3) 2 20) 3 (nI sn)) 4 (nI ln)) 5 (nI sn))))]) := hD
            refine lv_dup hx hb dX6_come_113 rfl ?_
            refine lv_bipush (v := 6) hx hb dX6_come_114 (by decide) ?_
            refine lv_iconst (v := 0) hx hb dX6_come_116 (by decide) ?_
            refine va_iast hx hb hK.1 hP hD hS 13 0 rfl rfl (by unfold vp_in; decide) dX6_come_117 (fun H locs hP hD hS => ?_)
            have hP : va_P D vwCl ((wOutE b d d2 cI 0 (ω 19 0) (ω 1) (ω 2) (ω 14) (ω 15) ++ (wSta d (b 0) cI σ ++ wSta d2 (b 0) cI σ2)) ++ [(q_6, .inl (cI, 9, .inl (upd (upd (upd (upd (upd (upd (upd (fun _ => 0) 0 p2) 1 p3) 2 20) 3 (nI sn)) 4 (nI ln)) 5 (nI sn)) 6 0)))]) H := hP
            have hD : va_D A ((wOutE b d d2 cI 0 (ω 19 0) (ω 1) (ω 2) (ω 14) (ω 15) ++ (wSta d (b 0) cI σ ++ wSta d2 (b 0) cI σ2)) ++ [(q_6, .inl (cI, 9, .inl (upd (upd (upd (upd (upd (upd (upd (fun _ => 0) 0 p2) 1 p3) 2 20) 3 (nI sn)) 4 (nI ln)) 5 (nI sn)) 6 0)))]) := hD
            refine lv_dup hx hb dX6_come_118 rfl ?_
            refine lv_bipush (v := 7) hx hb dX6_come_119 (by decide) ?_
            refine lv_iconst (v := 0) hx hb dX6_come_121 (by decide) ?_
            refine va_iast hx hb hK.1 hP hD hS 13 0 rfl rfl (by unfold vp_in; decide) dX6_come_122 (fun H locs hP hD hS => ?_)
            have hP : va_P D vwCl ((wOutE b d d2 cI 0 (ω 19 0) (ω 1) (ω 2) (ω 14) (ω 15) ++ (wSta d (b 0) cI σ ++ wSta d2 (b 0) cI σ2)) ++ [(q_6, .inl (cI, 9, .inl (upd (upd (upd (upd (upd (upd (upd (upd (fun _ => 0) 0 p2) 1 p3) 2 20) 3 (nI sn)) 4 (nI ln)) 5 (nI sn)) 6 0) 7 0)))]) H := hP
            have hD : va_D A ((wOutE b d d2 cI 0 (ω 19 0) (ω 1) (ω 2) (ω 14) (ω 15) ++ (wSta d (b 0) cI σ ++ wSta d2 (b 0) cI σ2)) ++ [(q_6, .inl (cI, 9, .inl (upd (upd (upd (upd (upd (upd (upd (upd (fun _ => 0) 0 p2) 1 p3) 2 20) 3 (nI sn)) 4 (nI ln)) 5 (nI sn)) 6 0) 7 0)))]) := hD
            refine lv_dup hx hb dX6_come_123 rfl ?_
            refine lv_bipush (v := 8) hx hb dX6_come_124 (by decide) ?_
            refine lv_iload hx hb dX6_come_126 (lv_at hl 5 rfl) ?_
            refine lv_if_eq (tgt := 135) hx hb dX6_come_128 (by decide) (fun c_7 => ?_) (fun c_7 => ?_)
            · skip
              refine lv_iconst (v := 0) hx hb dX6_come_135 (by decide) ?_
              refine va_iast hx hb hK.1 hP hD hS 13 0 rfl rfl (by unfold vp_in; decide) dX6_come_136 (fun H locs hP hD hS => ?_)
              have hP : va_P D vwCl ((wOutE b d d2 cI 0 (ω 19 0) (ω 1) (ω 2) (ω 14) (ω 15) ++ (wSta d (b 0) cI σ ++ wSta d2 (b 0) cI σ2)) ++ [(q_6, .inl (cI, 9, .inl (upd (upd (upd (upd (upd (upd (upd (upd (upd (fun _ => 0) 0 p2) 1 p3) 2 20) 3 (nI sn)) 4 (nI ln)) 5 (nI sn)) 6 0) 7 0) 8 0)))]) H := hP
              have hD : va_D A ((wOutE b d d2 cI 0 (ω 19 0) (ω 1) (ω 2) (ω 14) (ω 15) ++ (wSta d (b 0) cI σ ++ wSta d2 (b 0) cI σ2)) ++ [(q_6, .inl (cI, 9, .inl (upd (upd (upd (upd (upd (upd (upd (upd (upd (fun _ => 0) 0 p2) 1 p3) 2 20) 3 (nI sn)) 4 (nI ln)) 5 (nI sn)) 6 0) 7 0) 8 0)))]) := hD
              refine lv_astore (lv' := [(6, .ref q_6), (0, .ref (b 0)), (1, .int (nI sn)), (2, .int (nI ln)), (3, .int p2), (4, .int p3), (5, .int sk)]) hx hb dX6_come_137 hl (by decide) rfl (fun ls hl => ?_)
              refine lv_aload hx hb dX6_come_139 (lv_at hl 0 rfl) ?_
              refine lv_iconst (v := 0) hx hb dX6_come_141 (by decide) ?_
              refine lv_aload_n hx hb dX6_come_142 rfl (lv_at hl 1 rfl) ?_
              refine va_get (D := D) (ci := 6) (v := .ref (d 0)) (C := RX6) (T := TX6) (N := 8) hx hb hts hiX6 hown hK.1 hP 0 rfl rfl 6 (by decide) (hts (.fieldLink RX6 27 "IceLanesModel" "s" "LIceLanesModel$State;") (by decide +kernel)) (fun _ h9 => h9) rfl dX6_come_143 ?_
              refine va_getN (D := D) (ci := 5) (v := .ref (d 3)) (C := RX5) (T := TX5) (N := 8) hx hb hts hiX5 hown hK.1 hP 5 rfl rfl 6 (by decide) (va_Nw.use rfl (nX6_87 hN)) (fun _ h9 => h9) rfl dX6_come_146 ?_
              refine lv_bipush (v := 9) hx hb dX6_come_149 (by decide) ?_
              refine lv_aload_n hx hb dX6_come_151 rfl (lv_at hl 1 rfl) ?_
              refine va_get (D := D) (ci := 6) (v := .ref (d 0)) (C := RX6) (T := TX6) (N := 8) hx hb hts hiX6 hown hK.1 hP 0 rfl rfl 6 (by decide) (hts (.fieldLink RX6 27 "IceLanesModel" "s" "LIceLanesModel$State;") (by decide +kernel)) (fun _ h9 => h9) rfl dX6_come_152 ?_
              refine va_getN (D := D) (ci := 5) (v := .int (σ 17 0)) (C := RX5) (T := TX5) (N := 8) hx hb hts hiX5 hown hK.1 hP 5 rfl rfl 1 (by decide) (va_Nw.use rfl (nX6_51 hN)) (fun _ h9 => h9) rfl dX6_come_155 ?_
              rw [hnc]
              refine lv_imul hx hb dX6_come_158 ?_
              rw [show 9 * nI nc = nI (9 * nc) from pk_mul 9 nc]
              refine lv_bipush (v := 9) hx hb dX6_come_159 (by decide) ?_
              refine va_copyi hx hb (by rw [hml]; exact hl.1.symm) hown (hts (.methodLink RX6 90 arraycopyName) (by decide +kernel)) (hts (.native arraycopyName) (by decide +kernel)) (hts (.static arraycopyName) (by decide +kernel)) (hts (.initialized "java/lang/System") (by decide +kernel)) hK.1 hP hD hS 13 8 0 0 rfl rfl rfl rfl rfl (by decide) (nI_pos (by omega)) (by decide) (by decide) (by rw [nI_clamp (n := 9 * nc) (by omega)]; show 9 * nc + 9 ≤ 72; omega) (fun _ _ => rfl) (Nat.le_of_ble_eq_true rfl) (by decide +kernel) dX6_come_161 (fun H locs hP hD hS => ?_)
              have hP := row_fix hP (q := 8) (f := ofC (upd (σ 5) nc p2) (upd (σ 6) nc p3) (upd (σ 7) nc 20) (upd (σ 8) nc (nI sn)) (upd (σ 9) nc (nI ln)) (upd (σ 10) nc (nI sn)) (upd (σ 11) nc 0) (upd (σ 12) nc 0) (upd (σ 13) nc pa)) rfl (by first | exact cpy_row (nc := nc) (v8 := 0) rfl (nI_clamp (by omega)) rfl rfl rfl rfl rfl rfl rfl rfl rfl rfl (by rw [hpa, show (if sk = 0 then (1 : Int32) else 2) = 1 from if_pos (by assumption)]; decide) | exact cpy_row (nc := nc) (v8 := 1) rfl (nI_clamp (by omega)) rfl rfl rfl rfl rfl rfl rfl rfl rfl rfl (by rw [hpa, show (if sk = 0 then (1 : Int32) else 2) = 2 from if_neg (by assumption)]; decide))
              have hD := row_fixD (q := 8) (ofC (upd (σ 5) nc p2) (upd (σ 6) nc p3) (upd (σ 7) nc 20) (upd (σ 8) nc (nI sn)) (upd (σ 9) nc (nI ln)) (upd (σ 10) nc (nI sn)) (upd (σ 11) nc 0) (upd (σ 12) nc 0) (upd (σ 13) nc pa)) hD rfl
              have hP : va_P D vwCl ((wOutE b d d2 cI 0 (ω 19 0) (ω 1) (ω 2) (ω 14) (ω 15) ++ (wStaE d (b 0) cI (σ 0 0) (σ 17 0) (σ 16 0) (σ 18 0) (σ 3) (σ 4) (upd (σ 5) nc p2) (upd (σ 6) nc p3) (upd (σ 7) nc 20) (upd (σ 8) nc (nI sn)) (upd (σ 9) nc (nI ln)) (upd (σ 10) nc (nI sn)) (upd (σ 11) nc 0) (upd (σ 12) nc 0) (upd (σ 13) nc pa) ++ wSta d2 (b 0) cI σ2)) ++ [(q_6, .inl (cI, 9, .inl (upd (upd (upd (upd (upd (upd (upd (upd (upd (fun _ => 0) 0 p2) 1 p3) 2 20) 3 (nI sn)) 4 (nI ln)) 5 (nI sn)) 6 0) 7 0) 8 0)))]) H := hP
              have hD : va_D A ((wOutE b d d2 cI 0 (ω 19 0) (ω 1) (ω 2) (ω 14) (ω 15) ++ (wStaE d (b 0) cI (σ 0 0) (σ 17 0) (σ 16 0) (σ 18 0) (σ 3) (σ 4) (upd (σ 5) nc p2) (upd (σ 6) nc p3) (upd (σ 7) nc 20) (upd (σ 8) nc (nI sn)) (upd (σ 9) nc (nI ln)) (upd (σ 10) nc (nI sn)) (upd (σ 11) nc 0) (upd (σ 12) nc 0) (upd (σ 13) nc pa) ++ wSta d2 (b 0) cI σ2)) ++ [(q_6, .inl (cI, 9, .inl (upd (upd (upd (upd (upd (upd (upd (upd (upd (fun _ => 0) 0 p2) 1 p3) 2 20) 3 (nI sn)) 4 (nI ln)) 5 (nI sn)) 6 0) 7 0) 8 0)))]) := hD
              refine lv_aload_n hx hb dX6_come_164 rfl (lv_at hl 1 rfl) ?_
              refine va_get (D := D) (ci := 6) (v := .ref (d 0)) (C := RX6) (T := TX6) (N := 8) hx hb hts hiX6 hown hK.1 hP 0 rfl rfl 6 (by decide) (hts (.fieldLink RX6 27 "IceLanesModel" "s" "LIceLanesModel$State;") (by decide +kernel)) (fun _ h9 => h9) rfl dX6_come_165 ?_
              refine lv_dup hx hb dX6_come_168 rfl ?_
              refine va_getN (D := D) (ci := 5) (v := .int (σ 17 0)) (C := RX5) (T := TX5) (N := 8) hx hb hts hiX5 hown hK.1 hP 5 rfl rfl 1 (by decide) (va_Nw.use rfl (nX6_51 hN)) (fun _ h9 => h9) rfl dX6_come_169 ?_
              rw [hnc]
              refine lv_iconst (v := 1) hx hb dX6_come_172 (by decide) ?_
              refine lv_iadd hx hb dX6_come_173 ?_
              rw [show nI nc + 1 = nI (nc + 1) from nI_1 nc]
              refine va_putN (D := D) (ci := 5) (v := .int (nI (nc + 1))) (ty := .int) (C := RX5) (T := TX5) (N := 8) hx hb hts hiX5 tyX5 tyX5_ok nmX5 hown hK.1 hP hD hS 5 rfl rfl 1 (by decide) (va_Nw.use rfl (nX6_51 hN)) (fun _ h9 => h9) rfl (by decide +kernel) rfl rfl (Nat.le_of_ble_eq_true rfl) dX6_come_174 (fun H locs hP hD hS => ?_)
              have hP : va_P D vwCl ((wOutE b d d2 cI 0 (ω 19 0) (ω 1) (ω 2) (ω 14) (ω 15) ++ (wStaE d (b 0) cI (σ 0 0) (nI (nc + 1)) (σ 16 0) (σ 18 0) (σ 3) (σ 4) (upd (σ 5) nc p2) (upd (σ 6) nc p3) (upd (σ 7) nc 20) (upd (σ 8) nc (nI sn)) (upd (σ 9) nc (nI ln)) (upd (σ 10) nc (nI sn)) (upd (σ 11) nc 0) (upd (σ 12) nc 0) (upd (σ 13) nc pa) ++ wSta d2 (b 0) cI σ2)) ++ [(q_6, .inl (cI, 9, .inl (upd (upd (upd (upd (upd (upd (upd (upd (upd (fun _ => 0) 0 p2) 1 p3) 2 20) 3 (nI sn)) 4 (nI ln)) 5 (nI sn)) 6 0) 7 0) 8 0)))]) H := hP
              have hD : va_D A ((wOutE b d d2 cI 0 (ω 19 0) (ω 1) (ω 2) (ω 14) (ω 15) ++ (wStaE d (b 0) cI (σ 0 0) (nI (nc + 1)) (σ 16 0) (σ 18 0) (σ 3) (σ 4) (upd (σ 5) nc p2) (upd (σ 6) nc p3) (upd (σ 7) nc 20) (upd (σ 8) nc (nI sn)) (upd (σ 9) nc (nI ln)) (upd (σ 10) nc (nI sn)) (upd (σ 11) nc 0) (upd (σ 12) nc 0) (upd (σ 13) nc pa) ++ wSta d2 (b 0) cI σ2)) ++ [(q_6, .inl (cI, 9, .inl (upd (upd (upd (upd (upd (upd (upd (upd (upd (fun _ => 0) 0 p2) 1 p3) 2 20) 3 (nI sn)) 4 (nI ln)) 5 (nI sn)) 6 0) 7 0) 8 0)))]) := hD
              refine lv_aload_n hx hb dX6_come_177 rfl (lv_at hl 1 rfl) ?_
              refine va_get (D := D) (ci := 6) (v := .ref (d 0)) (C := RX6) (T := TX6) (N := 8) hx hb hts hiX6 hown hK.1 hP 0 rfl rfl 6 (by decide) (hts (.fieldLink RX6 27 "IceLanesModel" "s" "LIceLanesModel$State;") (by decide +kernel)) (fun _ h9 => h9) rfl dX6_come_178 ?_
              refine va_getN (D := D) (ci := 5) (v := .int (nI (nc + 1))) (C := RX5) (T := TX5) (N := 8) hx hb hts hiX5 hown hK.1 hP 5 rfl rfl 1 (by decide) (va_Nw.use rfl (nX6_51 hN)) (fun _ h9 => h9) rfl dX6_come_181 ?_
              refine W.eq (g2 := F0 m 184 ls [.int (nI (nc + 1))]) rfl ?_
              refine lv_iconst (v := 1) hx hb dX6_come_184 (by decide) ?_
              refine lv_isub hx hb dX6_come_185 ?_
              rw [show nI (nc + 1) - 1 = nI nc from nI_pred nc]
              subst hQ
              have hP := hP.sub (ws' := wMod b d d2 cI (put (put (put (put (put (put (put (put (put (put σ 5 (upd (σ 5) nc p2)) 6 (upd (σ 6) nc p3)) 7 (upd (σ 7) nc 20)) 8 (upd (σ 8) nc (nI sn))) 9 (upd (σ 9) nc (nI ln))) 10 (upd (σ 10) nc (nI sn))) 11 (upd (σ 11) nc 0)) 12 (upd (σ 12) nc 0)) 13 (upd (σ 13) nc pa)) 17 (fun _ => nI (nc + 1))) σ2 (put ω 20 (fun _ => 0))) [0, 1, 2, 3, 4, 5, 6, 7, 8, 9, 10, 11, 12] rfl
              have hD := hD.sub (ws' := wMod b d d2 cI (put (put (put (put (put (put (put (put (put (put σ 5 (upd (σ 5) nc p2)) 6 (upd (σ 6) nc p3)) 7 (upd (σ 7) nc 20)) 8 (upd (σ 8) nc (nI sn))) 9 (upd (σ 9) nc (nI ln))) 10 (upd (σ 10) nc (nI sn))) 11 (upd (σ 11) nc 0)) 12 (upd (σ 12) nc 0)) 13 (upd (σ 13) nc pa)) 17 (fun _ => nI (nc + 1))) σ2 (put ω 20 (fun _ => 0))) [0, 1, 2, 3, 4, 5, 6, 7, 8, 9, 10, 11, 12] (by decide) rfl
              exact ret_wri hx hb hr rfl hlocks hP hD hS (show nI nc = nI nc from rfl) dX6_come_186
            · skip
              refine lv_iconst (v := 1) hx hb dX6_come_131 (by decide) ?_
              refine lv_goto (tgt := 136) hx hb dX6_come_132 (by decide) ?_
              refine va_iast hx hb hK.1 hP hD hS 13 0 rfl rfl (by unfold vp_in; decide) dX6_come_136 (fun H locs hP hD hS => ?_)
              have hP : va_P D vwCl ((wOutE b d d2 cI 0 (ω 19 0) (ω 1) (ω 2) (ω 14) (ω 15) ++ (wSta d (b 0) cI σ ++ wSta d2 (b 0) cI σ2)) ++ [(q_6, .inl (cI, 9, .inl (upd (upd (upd (upd (upd (upd (upd (upd (upd (fun _ => 0) 0 p2) 1 p3) 2 20) 3 (nI sn)) 4 (nI ln)) 5 (nI sn)) 6 0) 7 0) 8 1)))]) H := hP
              have hD : va_D A ((wOutE b d d2 cI 0 (ω 19 0) (ω 1) (ω 2) (ω 14) (ω 15) ++ (wSta d (b 0) cI σ ++ wSta d2 (b 0) cI σ2)) ++ [(q_6, .inl (cI, 9, .inl (upd (upd (upd (upd (upd (upd (upd (upd (upd (fun _ => 0) 0 p2) 1 p3) 2 20) 3 (nI sn)) 4 (nI ln)) 5 (nI sn)) 6 0) 7 0) 8 1)))]) := hD
              refine lv_astore (lv' := [(6, .ref q_6), (0, .ref (b 0)), (1, .int (nI sn)), (2, .int (nI ln)), (3, .int p2), (4, .int p3), (5, .int sk)]) hx hb dX6_come_137 hl (by decide) rfl (fun ls hl => ?_)
              refine lv_aload hx hb dX6_come_139 (lv_at hl 0 rfl) ?_
              refine lv_iconst (v := 0) hx hb dX6_come_141 (by decide) ?_
              refine lv_aload_n hx hb dX6_come_142 rfl (lv_at hl 1 rfl) ?_
              refine va_get (D := D) (ci := 6) (v := .ref (d 0)) (C := RX6) (T := TX6) (N := 8) hx hb hts hiX6 hown hK.1 hP 0 rfl rfl 6 (by decide) (hts (.fieldLink RX6 27 "IceLanesModel" "s" "LIceLanesModel$State;") (by decide +kernel)) (fun _ h9 => h9) rfl dX6_come_143 ?_
              refine va_getN (D := D) (ci := 5) (v := .ref (d 3)) (C := RX5) (T := TX5) (N := 8) hx hb hts hiX5 hown hK.1 hP 5 rfl rfl 6 (by decide) (va_Nw.use rfl (nX6_87 hN)) (fun _ h9 => h9) rfl dX6_come_146 ?_
              refine lv_bipush (v := 9) hx hb dX6_come_149 (by decide) ?_
              refine lv_aload_n hx hb dX6_come_151 rfl (lv_at hl 1 rfl) ?_
              refine va_get (D := D) (ci := 6) (v := .ref (d 0)) (C := RX6) (T := TX6) (N := 8) hx hb hts hiX6 hown hK.1 hP 0 rfl rfl 6 (by decide) (hts (.fieldLink RX6 27 "IceLanesModel" "s" "LIceLanesModel$State;") (by decide +kernel)) (fun _ h9 => h9) rfl dX6_come_152 ?_
              refine va_getN (D := D) (ci := 5) (v := .int (σ 17 0)) (C := RX5) (T := TX5) (N := 8) hx hb hts hiX5 hown hK.1 hP 5 rfl rfl 1 (by decide) (va_Nw.use rfl (nX6_51 hN)) (fun _ h9 => h9) rfl dX6_come_155 ?_
              rw [hnc]
              refine lv_imul hx hb dX6_come_158 ?_
              rw [show 9 * nI nc = nI (9 * nc) from pk_mul 9 nc]
              refine lv_bipush (v := 9) hx hb dX6_come_159 (by decide) ?_
              refine va_copyi hx hb (by rw [hml]; exact hl.1.symm) hown (hts (.methodLink RX6 90 arraycopyName) (by decide +kernel)) (hts (.native arraycopyName) (by decide +kernel)) (hts (.static arraycopyName) (by decide +kernel)) (hts (.initialized "java/lang/System") (by decide +kernel)) hK.1 hP hD hS 13 8 0 0 rfl rfl rfl rfl rfl (by decide) (nI_pos (by omega)) (by decide) (by decide) (by rw [nI_clamp (n := 9 * nc) (by omega)]; show 9 * nc + 9 ≤ 72; omega) (fun _ _ => rfl) (Nat.le_of_ble_eq_true rfl) (by decide +kernel) dX6_come_161 (fun H locs hP hD hS => ?_)
              have hP := row_fix hP (q := 8) (f := ofC (upd (σ 5) nc p2) (upd (σ 6) nc p3) (upd (σ 7) nc 20) (upd (σ 8) nc (nI sn)) (upd (σ 9) nc (nI ln)) (upd (σ 10) nc (nI sn)) (upd (σ 11) nc 0) (upd (σ 12) nc 0) (upd (σ 13) nc pa)) rfl (by first | exact cpy_row (nc := nc) (v8 := 0) rfl (nI_clamp (by omega)) rfl rfl rfl rfl rfl rfl rfl rfl rfl rfl (by rw [hpa, show (if sk = 0 then (1 : Int32) else 2) = 1 from if_pos (by assumption)]; decide) | exact cpy_row (nc := nc) (v8 := 1) rfl (nI_clamp (by omega)) rfl rfl rfl rfl rfl rfl rfl rfl rfl rfl (by rw [hpa, show (if sk = 0 then (1 : Int32) else 2) = 2 from if_neg (by assumption)]; decide))
              have hD := row_fixD (q := 8) (ofC (upd (σ 5) nc p2) (upd (σ 6) nc p3) (upd (σ 7) nc 20) (upd (σ 8) nc (nI sn)) (upd (σ 9) nc (nI ln)) (upd (σ 10) nc (nI sn)) (upd (σ 11) nc 0) (upd (σ 12) nc 0) (upd (σ 13) nc pa)) hD rfl
              have hP : va_P D vwCl ((wOutE b d d2 cI 0 (ω 19 0) (ω 1) (ω 2) (ω 14) (ω 15) ++ (wStaE d (b 0) cI (σ 0 0) (σ 17 0) (σ 16 0) (σ 18 0) (σ 3) (σ 4) (upd (σ 5) nc p2) (upd (σ 6) nc p3) (upd (σ 7) nc 20) (upd (σ 8) nc (nI sn)) (upd (σ 9) nc (nI ln)) (upd (σ 10) nc (nI sn)) (upd (σ 11) nc 0) (upd (σ 12) nc 0) (upd (σ 13) nc pa) ++ wSta d2 (b 0) cI σ2)) ++ [(q_6, .inl (cI, 9, .inl (upd (upd (upd (upd (upd (upd (upd (upd (upd (fun _ => 0) 0 p2) 1 p3) 2 20) 3 (nI sn)) 4 (nI ln)) 5 (nI sn)) 6 0) 7 0) 8 1)))]) H := hP
              have hD : va_D A ((wOutE b d d2 cI 0 (ω 19 0) (ω 1) (ω 2) (ω 14) (ω 15) ++ (wStaE d (b 0) cI (σ 0 0) (σ 17 0) (σ 16 0) (σ 18 0) (σ 3) (σ 4) (upd (σ 5) nc p2) (upd (σ 6) nc p3) (upd (σ 7) nc 20) (upd (σ 8) nc (nI sn)) (upd (σ 9) nc (nI ln)) (upd (σ 10) nc (nI sn)) (upd (σ 11) nc 0) (upd (σ 12) nc 0) (upd (σ 13) nc pa) ++ wSta d2 (b 0) cI σ2)) ++ [(q_6, .inl (cI, 9, .inl (upd (upd (upd (upd (upd (upd (upd (upd (upd (fun _ => 0) 0 p2) 1 p3) 2 20) 3 (nI sn)) 4 (nI ln)) 5 (nI sn)) 6 0) 7 0) 8 1)))]) := hD
              refine lv_aload_n hx hb dX6_come_164 rfl (lv_at hl 1 rfl) ?_
              refine va_get (D := D) (ci := 6) (v := .ref (d 0)) (C := RX6) (T := TX6) (N := 8) hx hb hts hiX6 hown hK.1 hP 0 rfl rfl 6 (by decide) (hts (.fieldLink RX6 27 "IceLanesModel" "s" "LIceLanesModel$State;") (by decide +kernel)) (fun _ h9 => h9) rfl dX6_come_165 ?_
              refine lv_dup hx hb dX6_come_168 rfl ?_
              refine va_getN (D := D) (ci := 5) (v := .int (σ 17 0)) (C := RX5) (T := TX5) (N := 8) hx hb hts hiX5 hown hK.1 hP 5 rfl rfl 1 (by decide) (va_Nw.use rfl (nX6_51 hN)) (fun _ h9 => h9) rfl dX6_come_169 ?_
              rw [hnc]
              refine lv_iconst (v := 1) hx hb dX6_come_172 (by decide) ?_
              refine lv_iadd hx hb dX6_come_173 ?_
              rw [show nI nc + 1 = nI (nc + 1) from nI_1 nc]
              refine va_putN (D := D) (ci := 5) (v := .int (nI (nc + 1))) (ty := .int) (C := RX5) (T := TX5) (N := 8) hx hb hts hiX5 tyX5 tyX5_ok nmX5 hown hK.1 hP hD hS 5 rfl rfl 1 (by decide) (va_Nw.use rfl (nX6_51 hN)) (fun _ h9 => h9) rfl (by decide +kernel) rfl rfl (Nat.le_of_ble_eq_true rfl) dX6_come_174 (fun H locs hP hD hS => ?_)
              have hP : va_P D vwCl ((wOutE b d d2 cI 0 (ω 19 0) (ω 1) (ω 2) (ω 14) (ω 15) ++ (wStaE d (b 0) cI (σ 0 0) (nI (nc + 1)) (σ 16 0) (σ 18 0) (σ 3) (σ 4) (upd (σ 5) nc p2) (upd (σ 6) nc p3) (upd (σ 7) nc 20) (upd (σ 8) nc (nI sn)) (upd (σ 9) nc (nI ln)) (upd (σ 10) nc (nI sn)) (upd (σ 11) nc 0) (upd (σ 12) nc 0) (upd (σ 13) nc pa) ++ wSta d2 (b 0) cI σ2)) ++ [(q_6, .inl (cI, 9, .inl (upd (upd (upd (upd (upd (upd (upd (upd (upd (fun _ => 0) 0 p2) 1 p3) 2 20) 3 (nI sn)) 4 (nI ln)) 5 (nI sn)) 6 0) 7 0) 8 1)))]) H := hP
              have hD : va_D A ((wOutE b d d2 cI 0 (ω 19 0) (ω 1) (ω 2) (ω 14) (ω 15) ++ (wStaE d (b 0) cI (σ 0 0) (nI (nc + 1)) (σ 16 0) (σ 18 0) (σ 3) (σ 4) (upd (σ 5) nc p2) (upd (σ 6) nc p3) (upd (σ 7) nc 20) (upd (σ 8) nc (nI sn)) (upd (σ 9) nc (nI ln)) (upd (σ 10) nc (nI sn)) (upd (σ 11) nc 0) (upd (σ 12) nc 0) (upd (σ 13) nc pa) ++ wSta d2 (b 0) cI σ2)) ++ [(q_6, .inl (cI, 9, .inl (upd (upd (upd (upd (upd (upd (upd (upd (upd (fun _ => 0) 0 p2) 1 p3) 2 20) 3 (nI sn)) 4 (nI ln)) 5 (nI sn)) 6 0) 7 0) 8 1)))]) := hD
              refine lv_aload_n hx hb dX6_come_177 rfl (lv_at hl 1 rfl) ?_
              refine va_get (D := D) (ci := 6) (v := .ref (d 0)) (C := RX6) (T := TX6) (N := 8) hx hb hts hiX6 hown hK.1 hP 0 rfl rfl 6 (by decide) (hts (.fieldLink RX6 27 "IceLanesModel" "s" "LIceLanesModel$State;") (by decide +kernel)) (fun _ h9 => h9) rfl dX6_come_178 ?_
              refine va_getN (D := D) (ci := 5) (v := .int (nI (nc + 1))) (C := RX5) (T := TX5) (N := 8) hx hb hts hiX5 hown hK.1 hP 5 rfl rfl 1 (by decide) (va_Nw.use rfl (nX6_51 hN)) (fun _ h9 => h9) rfl dX6_come_181 ?_
              refine W.eq (g2 := F0 m 184 ls [.int (nI (nc + 1))]) rfl ?_
              refine lv_iconst (v := 1) hx hb dX6_come_184 (by decide) ?_
              refine lv_isub hx hb dX6_come_185 ?_
              rw [show nI (nc + 1) - 1 = nI nc from nI_pred nc]
              subst hQ
              have hP := hP.sub (ws' := wMod b d d2 cI (put (put (put (put (put (put (put (put (put (put σ 5 (upd (σ 5) nc p2)) 6 (upd (σ 6) nc p3)) 7 (upd (σ 7) nc 20)) 8 (upd (σ 8) nc (nI sn))) 9 (upd (σ 9) nc (nI ln))) 10 (upd (σ 10) nc (nI sn))) 11 (upd (σ 11) nc 0)) 12 (upd (σ 12) nc 0)) 13 (upd (σ 13) nc pa)) 17 (fun _ => nI (nc + 1))) σ2 (put ω 20 (fun _ => 0))) [0, 1, 2, 3, 4, 5, 6, 7, 8, 9, 10, 11, 12] rfl
              have hD := hD.sub (ws' := wMod b d d2 cI (put (put (put (put (put (put (put (put (put (put σ 5 (upd (σ 5) nc p2)) 6 (upd (σ 6) nc p3)) 7 (upd (σ 7) nc 20)) 8 (upd (σ 8) nc (nI sn))) 9 (upd (σ 9) nc (nI ln))) 10 (upd (σ 10) nc (nI sn))) 11 (upd (σ 11) nc 0)) 12 (upd (σ 12) nc 0)) 13 (upd (σ 13) nc pa)) 17 (fun _ => nI (nc + 1))) σ2 (put ω 20 (fun _ => 0))) [0, 1, 2, 3, 4, 5, 6, 7, 8, 9, 10, 11, 12] (by decide) rfl
              exact ret_wri hx hb hr rfl hlocks hP hD hS (show nI nc = nI nc from rfl) dX6_come_186
          · skip
            first | exact absurd c_5 (by assumption) | exact absurd (by assumption) c_5
      · skip
        have c_3 : ¬ (0 ≤ p3 ∧ p3 ≤ 20) := bI_z.mp c_3
        first | exact absurd c_3 (by assumption) | exact absurd (by assumption) c_3
  · skip
    have c_1 : ¬ ((0 ≤ (nI sn) ∧ (nI sn) ≤ 11) ∧ (0 ≤ (nI ln) ∧ (nI ln) ≤ 2)) := bI_z.mp c_1
    first | exact absurd c_1 (by assumption) | exact absurd (by assumption) c_1
set_option maxHeartbeats 4000000 in
set_option maxRecDepth 100000 in
theorem M_X6_send_e1 (l : Launch) (D : va_G) (cI : ClassId) (b : Nat → Nat) (d : Nat → Nat) (d2 : Nat → Nat) (σ : St) (σ2 : St) (ω : St) (p0 : Int32) (p1 : Int32) (sz : Nat) (h1 : ¬ ((0 ≤ p0 ∧ p0 ≤ σ 17 0 - 1) ∧ (0 ≤ p1 ∧ p1 ≤ 11))) : Met l yX6_send wsX6_send ({ frames := 2, cells := 0, slots := 0, locals := 43 } : Room) (wrPc [.ref (b 0), .int p0, .int p1] D (wMod b d d2 cI σ σ2 ω) [(cI, .int)] sz) (wrQi 0 D (wMod b d d2 cI σ σ2 (put ω 20 (fun _ => 1))) (va_A (wMod b d d2 cI σ σ2 ω) sz)) 0 0 (va_A (wMod b d d2 cI σ σ2 ω) sz) := by
  refine Met.ofW (cc := cX6_send) (maxL := 3) (ret := (some .int)) (by decide) rfl ?_
  intro p e s m args below meth c s₁ B hml hv
  obtain ⟨hargs, hsz, hP, hK, hD0⟩ := hv
  have hx := B.exec
  have hb := B.bytes
  have hr := B.returns
  have hts := atoms_spec (ws := wsX6_send) B.pre
  have hown : s.vm.findClass RX6 = some m.cls := findClass_of_methodNamed B.named
  have hlocks := B.notSynchronized
  obtain ⟨_, hN⟩ := id hK
  have hiX6 : ∀ w ∈ wsX60, w ∈ wsX6_send := by decide +kernel
  subst hsz
  have hD := hD0.self (sz := s.heap.size)
  generalize hAe : va_A (wMod b d d2 cI σ σ2 ω) s.heap.size = A at hD ⊢
  have hA : ∀ q : Nat, s.heap.size ≤ q → A q := fun q h => by rw [← hAe]; exact Or.inr h
  have hS : va_S A s.heap s.heap [] := va_S.rf
  have hP : va_P D vwCl (wMod b d d2 cI σ σ2 ω) s.heap := hP
  refine my_abs (fun Q hQ => ?_)
  obtain ⟨ls, hl, hent⟩ := my_entry (m := m) (n := 3) hargs (Nat.le_of_ble_eq_true rfl)
  rw [hent]
  have hl : lv_has ls 3 [(0, .ref (b 0)), (1, .int p0), (2, .int p1)] := hl
  show W p l e ({ frames := 2, cells := 0, slots := 0, locals := 43 } : Room) s m args below meth c s.heap [] 0 0 Q (F0 m 0 ls [])
  refine lv_aload_n hx hb dX6_send_0 rfl (lv_at hl 0 rfl) ?_
  refine lv_iconst (v := 0) hx hb dX6_send_1 (by decide) ?_
  refine va_put (D := D) (ci := 6) (v := .int 0) (ty := .int) (C := RX6) (T := TX6) (N := 8) hx hb hts hiX6 tyX6 tyX6_ok nmX6 hown hK.1 hP hD hS 0 rfl rfl 0 (by decide) (hts (.fieldLink RX6 43 "IceLanesModel" "thrown" "I") (by decide +kernel)) (fun _ h9 => h9) rfl (by decide +kernel) rfl rfl (Nat.le_of_ble_eq_true rfl) dX6_send_2 (fun H locs hP hD hS => ?_)
  have hP : va_P D vwCl (wOutE b d d2 cI 0 (ω 19 0) (ω 1) (ω 2) (ω 14) (ω 15) ++ (wSta d (b 0) cI σ ++ wSta d2 (b 0) cI σ2)) H := hP
  have hD : va_D A (wOutE b d d2 cI 0 (ω 19 0) (ω 1) (ω 2) (ω 14) (ω 15) ++ (wSta d (b 0) cI σ ++ wSta d2 (b 0) cI σ2)) := hD
  refine lv_aload_n hx hb dX6_send_5 rfl (lv_at hl 0 rfl) ?_
  refine lv_iload_n hx hb dX6_send_6 rfl (lv_at hl 1 rfl) ?_
  refine rd_i (va_runV (As := [.int p0]) (rest := []) ⟨hx, hb, hml, hown, hts⟩ (M_X6_isCourier l D cI b d d2 σ σ2 (put ω 20 (fun _ => 0)) p0 ) (cwV 1 hts gX6_send_X6_isCourier rfl rfl rfl (by decide +kernel) ⟨Nat.le_of_ble_eq_true rfl, Nat.le_of_ble_eq_true rfl⟩) (rdV hK hP [0, 1, 2, 3, 4, 5, 6, 7, 8, 9, 10, 11, 12] [0] rfl rfl (ci := 6) (q0 := 0) rfl rfl) rfl rfl hl.1 rfl (lv_room (Nat.le_of_ble_eq_true rfl)) dX6_send_7 ⟨Nat.zero_le _, Nat.zero_le _⟩) ?_
  refine W.eq (g2 := F0 m 10 ls [.int (bI (0 ≤ p0 ∧ p0 ≤ (σ 17 0) - 1))]) rfl ?_
  refine lv_if_eq (tgt := 23) hx hb dX6_send_10 (by decide) (fun c_1 => ?_) (fun c_1 => ?_)
  · skip
    have c_1 : ¬ (0 ≤ p0 ∧ p0 ≤ (σ 17 0) - 1) := bI_z.mp c_1
    refine lv_aload_n hx hb dX6_send_23 rfl (lv_at hl 0 rfl) ?_
    refine lv_iconst (v := 1) hx hb dX6_send_24 (by decide) ?_
    refine wr_i (wn := wOutE b d d2 cI 1 (ω 19 0) (ω 1) (ω 2) (ω 14) (ω 15) ++ (wSta d (b 0) cI σ ++ wSta d2 (b 0) cI σ2)) (va_runV (As := [.int 1]) (rest := []) ⟨hx, hb, hml, hown, hts⟩ (M_X6_no l D cI b d d2 σ σ2 (put ω 20 (fun _ => 0)) 1 _ ) (cwV 1 hts gX6_send_X6_no rfl rfl rfl (by decide +kernel) ⟨Nat.le_of_ble_eq_true rfl, Nat.le_of_ble_eq_true rfl⟩) (wrV hK hP hD [0, 1, 2, 3, 4, 5, 6, 7, 8, 9, 10, 11, 12] [0] rfl rfl rfl (ci := 6) (q0 := 0) rfl rfl) rfl rfl hl.1 rfl (lv_room (Nat.le_of_ble_eq_true rfl)) dX6_send_25 ⟨Nat.le_of_ble_eq_true rfl, Nat.le_of_ble_eq_true rfl⟩) hP hD hS hA [0, 1, 2, 3, 4, 5, 6, 7, 8, 9, 10, 11, 12] [] [0, 1, 2, 3, 4, 5, 6, 7, 8, 9, 10, 11, 12] rfl rfl rfl rfl rfl rfl (fun H locs hP hD hS => ?_)
    refine W.eq (g2 := F0 m 28 ls [.int 0]) rfl ?_
    subst hQ
    have hP : va_P D vwCl (wMod b d d2 cI σ σ2 (put ω 20 (fun _ => 1))) H := hP
    have hD : va_D A (wMod b d d2 cI σ σ2 (put ω 20 (fun _ => 1))) := hD
    exact ret_wri hx hb hr rfl hlocks hP hD hS (show 0 = 0 from rfl) dX6_send_28
  · skip
    have c_1 : (0 ≤ p0 ∧ p0 ≤ (σ 17 0) - 1) := bI_nz.mp c_1
    refine lv_iload_n hx hb dX6_send_13 rfl (lv_at hl 2 rfl) ?_
    refine lv_iconst (v := 0) hx hb dX6_send_14 (by decide) ?_
    refine lv_bipush (v := 11) hx hb dX6_send_15 (by decide) ?_
    refine rd_i (va_runS (As := [.int p1, .int 0, .int 11]) (rest := []) ⟨hx, hb, hml, hown, hts⟩ (M_X6_isIn l D cI p1 0 11 ) (va_cwS 3 hts gX6_send_X6_isIn rfl rfl rfl (by decide +kernel) ⟨Nat.le_of_ble_eq_true rfl, Nat.le_of_ble_eq_true rfl⟩) (rdS hK hP [] [0] rfl rfl) rfl rfl hl.1 rfl (lv_room (Nat.le_of_ble_eq_true rfl)) dX6_send_17 ⟨Nat.zero_le _, Nat.zero_le _⟩) ?_
    refine lv_if_ne (tgt := 29) hx hb dX6_send_20 (by decide) (fun c_2 => ?_) (fun c_2 => ?_)
    · skip
      have c_2 : (0 ≤ p1 ∧ p1 ≤ 11) := bI_nz.mp c_2
      exact absurd ⟨by assumption, c_2⟩ h1
    · skip
      have c_2 : ¬ (0 ≤ p1 ∧ p1 ≤ 11) := bI_z.mp c_2
      refine lv_aload_n hx hb dX6_send_23 rfl (lv_at hl 0 rfl) ?_
      refine lv_iconst (v := 1) hx hb dX6_send_24 (by decide) ?_
      refine wr_i (wn := wOutE b d d2 cI 1 (ω 19 0) (ω 1) (ω 2) (ω 14) (ω 15) ++ (wSta d (b 0) cI σ ++ wSta d2 (b 0) cI σ2)) (va_runV (As := [.int 1]) (rest := []) ⟨hx, hb, hml, hown, hts⟩ (M_X6_no l D cI b d d2 σ σ2 (put ω 20 (fun _ => 0)) 1 _ ) (cwV 1 hts gX6_send_X6_no rfl rfl rfl (by decide +kernel) ⟨Nat.le_of_ble_eq_true rfl, Nat.le_of_ble_eq_true rfl⟩) (wrV hK hP hD [0, 1, 2, 3, 4, 5, 6, 7, 8, 9, 10, 11, 12] [0] rfl rfl rfl (ci := 6) (q0 := 0) rfl rfl) rfl rfl hl.1 rfl (lv_room (Nat.le_of_ble_eq_true rfl)) dX6_send_25 ⟨Nat.le_of_ble_eq_true rfl, Nat.le_of_ble_eq_true rfl⟩) hP hD hS hA [0, 1, 2, 3, 4, 5, 6, 7, 8, 9, 10, 11, 12] [] [0, 1, 2, 3, 4, 5, 6, 7, 8, 9, 10, 11, 12] rfl rfl rfl rfl rfl rfl (fun H locs hP hD hS => ?_)
      refine W.eq (g2 := F0 m 28 ls [.int 0]) rfl ?_
      subst hQ
      have hP : va_P D vwCl (wMod b d d2 cI σ σ2 (put ω 20 (fun _ => 1))) H := hP
      have hD : va_D A (wMod b d d2 cI σ σ2 (put ω 20 (fun _ => 1))) := hD
      exact ret_wri hx hb hr rfl hlocks hP hD hS (show 0 = 0 from rfl) dX6_send_28
set_option maxHeartbeats 4000000 in
set_option maxRecDepth 100000 in
theorem M_X6_send_e2 (l : Launch) (D : va_G) (cI : ClassId) (b : Nat → Nat) (d : Nat → Nat) (d2 : Nat → Nat) (σ : St) (σ2 : St) (ω : St) (cu : Nat) (p1 : Int32) (sz : Nat) (hcu : cu < 8) (h1 : (0 ≤ nI cu ∧ nI cu ≤ σ 17 0 - 1)) (h2 : (0 ≤ p1 ∧ p1 ≤ 11)) (h3 : σ 11 cu = 3) : Met l yX6_send wsX6_send ({ frames := 2, cells := 0, slots := 0, locals := 43 } : Room) (wrPc [.ref (b 0), .int (nI cu), .int p1] D (wMod b d d2 cI σ σ2 ω) [(cI, .int)] sz) (wrQi 0 D (wMod b d d2 cI σ σ2 (put ω 20 (fun _ => 2))) (va_A (wMod b d d2 cI σ σ2 ω) sz)) 0 0 (va_A (wMod b d d2 cI σ σ2 ω) sz) := by
  refine Met.ofW (cc := cX6_send) (maxL := 3) (ret := (some .int)) (by decide) rfl ?_
  intro p e s m args below meth c s₁ B hml hv
  obtain ⟨hargs, hsz, hP, hK, hD0⟩ := hv
  have hx := B.exec
  have hb := B.bytes
  have hr := B.returns
  have hts := atoms_spec (ws := wsX6_send) B.pre
  have hown : s.vm.findClass RX6 = some m.cls := findClass_of_methodNamed B.named
  have hlocks := B.notSynchronized
  obtain ⟨_, hN⟩ := id hK
  have hiX6 : ∀ w ∈ wsX60, w ∈ wsX6_send := by decide +kernel
  subst hsz
  have hD := hD0.self (sz := s.heap.size)
  generalize hAe : va_A (wMod b d d2 cI σ σ2 ω) s.heap.size = A at hD ⊢
  have hA : ∀ q : Nat, s.heap.size ≤ q → A q := fun q h => by rw [← hAe]; exact Or.inr h
  have hS : va_S A s.heap s.heap [] := va_S.rf
  have hP : va_P D vwCl (wMod b d d2 cI σ σ2 ω) s.heap := hP
  refine my_abs (fun Q hQ => ?_)
  obtain ⟨ls, hl, hent⟩ := my_entry (m := m) (n := 3) hargs (Nat.le_of_ble_eq_true rfl)
  rw [hent]
  have hl : lv_has ls 3 [(0, .ref (b 0)), (1, .int (nI cu)), (2, .int p1)] := hl
  show W p l e ({ frames := 2, cells := 0, slots := 0, locals := 43 } : Room) s m args below meth c s.heap [] 0 0 Q (F0 m 0 ls [])
  refine lv_aload_n hx hb dX6_send_0 rfl (lv_at hl 0 rfl) ?_
  refine lv_iconst (v := 0) hx hb dX6_send_1 (by decide) ?_
  refine va_put (D := D) (ci := 6) (v := .int 0) (ty := .int) (C := RX6) (T := TX6) (N := 8) hx hb hts hiX6 tyX6 tyX6_ok nmX6 hown hK.1 hP hD hS 0 rfl rfl 0 (by decide) (hts (.fieldLink RX6 43 "IceLanesModel" "thrown" "I") (by decide +kernel)) (fun _ h9 => h9) rfl (by decide +kernel) rfl rfl (Nat.le_of_ble_eq_true rfl) dX6_send_2 (fun H locs hP hD hS => ?_)
  have hP : va_P D vwCl (wOutE b d d2 cI 0 (ω 19 0) (ω 1) (ω 2) (ω 14) (ω 15) ++ (wSta d (b 0) cI σ ++ wSta d2 (b 0) cI σ2)) H := hP
  have hD : va_D A (wOutE b d d2 cI 0 (ω 19 0) (ω 1) (ω 2) (ω 14) (ω 15) ++ (wSta d (b 0) cI σ ++ wSta d2 (b 0) cI σ2)) := hD
  refine lv_aload_n hx hb dX6_send_5 rfl (lv_at hl 0 rfl) ?_
  refine lv_iload_n hx hb dX6_send_6 rfl (lv_at hl 1 rfl) ?_
  refine rd_i (va_runV (As := [.int (nI cu)]) (rest := []) ⟨hx, hb, hml, hown, hts⟩ (M_X6_isCourier l D cI b d d2 σ σ2 (put ω 20 (fun _ => 0)) (nI cu) ) (cwV 1 hts gX6_send_X6_isCourier rfl rfl rfl (by decide +kernel) ⟨Nat.le_of_ble_eq_true rfl, Nat.le_of_ble_eq_true rfl⟩) (rdV hK hP [0, 1, 2, 3, 4, 5, 6, 7, 8, 9, 10, 11, 12] [0] rfl rfl (ci := 6) (q0 := 0) rfl rfl) rfl rfl hl.1 rfl (lv_room (Nat.le_of_ble_eq_true rfl)) dX6_send_7 ⟨Nat.zero_le _, Nat.zero_le _⟩) ?_
  refine W.eq (g2 := F0 m 10 ls [.int (bI (0 ≤ (nI cu) ∧ (nI cu) ≤ (σ 17 0) - 1))]) rfl ?_
  refine lv_if_eq (tgt := 23) hx hb dX6_send_10 (by decide) (fun c_1 => ?_) (fun c_1 => ?_)
  · skip
    have c_1 : ¬ (0 ≤ (nI cu) ∧ (nI cu) ≤ (σ 17 0) - 1) := bI_z.mp c_1
    first | exact absurd c_1 (by assumption) | exact absurd (by assumption) c_1
  · skip
    have c_1 : (0 ≤ (nI cu) ∧ (nI cu) ≤ (σ 17 0) - 1) := bI_nz.mp c_1
    refine lv_iload_n hx hb dX6_send_13 rfl (lv_at hl 2 rfl) ?_
    refine lv_iconst (v := 0) hx hb dX6_send_14 (by decide) ?_
    refine lv_bipush (v := 11) hx hb dX6_send_15 (by decide) ?_
    refine rd_i (va_runS (As := [.int p1, .int 0, .int 11]) (rest := []) ⟨hx, hb, hml, hown, hts⟩ (M_X6_isIn l D cI p1 0 11 ) (va_cwS 3 hts gX6_send_X6_isIn rfl rfl rfl (by decide +kernel) ⟨Nat.le_of_ble_eq_true rfl, Nat.le_of_ble_eq_true rfl⟩) (rdS hK hP [] [0] rfl rfl) rfl rfl hl.1 rfl (lv_room (Nat.le_of_ble_eq_true rfl)) dX6_send_17 ⟨Nat.zero_le _, Nat.zero_le _⟩) ?_
    refine lv_if_ne (tgt := 29) hx hb dX6_send_20 (by decide) (fun c_2 => ?_) (fun c_2 => ?_)
    · skip
      have c_2 : (0 ≤ p1 ∧ p1 ≤ 11) := bI_nz.mp c_2
      refine lv_aload_n hx hb dX6_send_29 rfl (lv_at hl 0 rfl) ?_
      refine va_get (D := D) (ci := 6) (v := .ref (d 0)) (C := RX6) (T := TX6) (N := 8) hx hb hts hiX6 hown hK.1 hP 0 rfl rfl 6 (by decide) (hts (.fieldLink RX6 27 "IceLanesModel" "s" "LIceLanesModel$State;") (by decide +kernel)) (fun _ h9 => h9) rfl dX6_send_30 ?_
      refine lv_iload_n hx hb dX6_send_33 rfl (lv_at hl 1 rfl) ?_
      refine lv_bipush (v := 6) hx hb dX6_send_34 (by decide) ?_
      refine rd_i (va_runV (As := [.int (nI cu), .int 6]) (rest := []) ⟨hx, hb, hml, hown, hts⟩ (M_X5_get l D cI d (b 0) σ cu 6 (by first | assumption | omega) (by first | assumption | omega)) (cwV 2 hts gX6_send_X5_get rfl rfl rfl (by decide +kernel) ⟨Nat.le_of_ble_eq_true rfl, Nat.le_of_ble_eq_true rfl⟩) (rdV hK hP [5, 6, 7, 8] [0] rfl rfl (ci := 5) (q0 := 5) rfl rfl) rfl rfl hl.1 rfl (lv_room (Nat.le_of_ble_eq_true rfl)) dX6_send_36 ⟨Nat.zero_le _, Nat.zero_le _⟩) ?_
      refine W.eq (g2 := F0 m 39 ls [.int (σ 11 cu)]) rfl ?_
      refine lv_iconst (v := 3) hx hb dX6_send_39 (by decide) ?_
      refine lv_icmp_ne (tgt := 49) hx hb dX6_send_40 (by decide) (fun c_3 => ?_) (fun c_3 => ?_)
      · skip
        first | exact absurd c_3 (by assumption) | exact absurd (by assumption) c_3
      · skip
        refine lv_aload_n hx hb dX6_send_43 rfl (lv_at hl 0 rfl) ?_
        refine lv_iconst (v := 2) hx hb dX6_send_44 (by decide) ?_
        refine wr_i (wn := wOutE b d d2 cI 2 (ω 19 0) (ω 1) (ω 2) (ω 14) (ω 15) ++ (wSta d (b 0) cI σ ++ wSta d2 (b 0) cI σ2)) (va_runV (As := [.int 2]) (rest := []) ⟨hx, hb, hml, hown, hts⟩ (M_X6_no l D cI b d d2 σ σ2 (put ω 20 (fun _ => 0)) 2 _ ) (cwV 1 hts gX6_send_X6_no rfl rfl rfl (by decide +kernel) ⟨Nat.le_of_ble_eq_true rfl, Nat.le_of_ble_eq_true rfl⟩) (wrV hK hP hD [0, 1, 2, 3, 4, 5, 6, 7, 8, 9, 10, 11, 12] [0] rfl rfl rfl (ci := 6) (q0 := 0) rfl rfl) rfl rfl hl.1 rfl (lv_room (Nat.le_of_ble_eq_true rfl)) dX6_send_45 ⟨Nat.le_of_ble_eq_true rfl, Nat.le_of_ble_eq_true rfl⟩) hP hD hS hA [0, 1, 2, 3, 4, 5, 6, 7, 8, 9, 10, 11, 12] [] [0, 1, 2, 3, 4, 5, 6, 7, 8, 9, 10, 11, 12] rfl rfl rfl rfl rfl rfl (fun H locs hP hD hS => ?_)
        refine W.eq (g2 := F0 m 48 ls [.int 0]) rfl ?_
        subst hQ
        have hP : va_P D vwCl (wMod b d d2 cI σ σ2 (put ω 20 (fun _ => 2))) H := hP
        have hD : va_D A (wMod b d d2 cI σ σ2 (put ω 20 (fun _ => 2))) := hD
        exact ret_wri hx hb hr rfl hlocks hP hD hS (show 0 = 0 from rfl) dX6_send_48
    · skip
      have c_2 : ¬ (0 ≤ p1 ∧ p1 ≤ 11) := bI_z.mp c_2
      first | exact absurd c_2 (by assumption) | exact absurd (by assumption) c_2
set_option maxHeartbeats 4000000 in
set_option maxRecDepth 100000 in
theorem M_X6_send_ok (l : Launch) (D : va_G) (cI : ClassId) (b : Nat → Nat) (d : Nat → Nat) (d2 : Nat → Nat) (σ : St) (σ2 : St) (ω : St) (cu : Nat) (p1 : Int32) (sz : Nat) (hcu : cu < 8) (h1 : (0 ≤ nI cu ∧ nI cu ≤ σ 17 0 - 1)) (h2 : (0 ≤ p1 ∧ p1 ≤ 11)) (h3 : ¬ σ 11 cu = 3) : Met l yX6_send wsX6_send ({ frames := 2, cells := 0, slots := 0, locals := 43 } : Room) (wrPc [.ref (b 0), .int (nI cu), .int p1] D (wMod b d d2 cI σ σ2 ω) [(cI, .int)] sz) (wrQi (ab (p1 - σ 8 cu)) D (wMod b d d2 cI (put (put σ 10 (upd (σ 10) cu p1)) 11 (upd (σ 11) cu 0)) σ2 (put ω 20 (fun _ => 0))) (va_A (wMod b d d2 cI σ σ2 ω) sz)) 0 0 (va_A (wMod b d d2 cI σ σ2 ω) sz) := by
  refine Met.ofW (cc := cX6_send) (maxL := 3) (ret := (some .int)) (by decide) rfl ?_
  intro p e s m args below meth c s₁ B hml hv
  obtain ⟨hargs, hsz, hP, hK, hD0⟩ := hv
  have hx := B.exec
  have hb := B.bytes
  have hr := B.returns
  have hts := atoms_spec (ws := wsX6_send) B.pre
  have hown : s.vm.findClass RX6 = some m.cls := findClass_of_methodNamed B.named
  have hlocks := B.notSynchronized
  obtain ⟨_, hN⟩ := id hK
  have hiX6 : ∀ w ∈ wsX60, w ∈ wsX6_send := by decide +kernel
  subst hsz
  have hD := hD0.self (sz := s.heap.size)
  generalize hAe : va_A (wMod b d d2 cI σ σ2 ω) s.heap.size = A at hD ⊢
  have hA : ∀ q : Nat, s.heap.size ≤ q → A q := fun q h => by rw [← hAe]; exact Or.inr h
  have hS : va_S A s.heap s.heap [] := va_S.rf
  have hP : va_P D vwCl (wMod b d d2 cI σ σ2 ω) s.heap := hP
  refine my_abs (fun Q hQ => ?_)
  obtain ⟨ls, hl, hent⟩ := my_entry (m := m) (n := 3) hargs (Nat.le_of_ble_eq_true rfl)
  rw [hent]
  have hl : lv_has ls 3 [(0, .ref (b 0)), (1, .int (nI cu)), (2, .int p1)] := hl
  show W p l e ({ frames := 2, cells := 0, slots := 0, locals := 43 } : Room) s m args below meth c s.heap [] 0 0 Q (F0 m 0 ls [])
  refine lv_aload_n hx hb dX6_send_0 rfl (lv_at hl 0 rfl) ?_
  refine lv_iconst (v := 0) hx hb dX6_send_1 (by decide) ?_
  refine va_put (D := D) (ci := 6) (v := .int 0) (ty := .int) (C := RX6) (T := TX6) (N := 8) hx hb hts hiX6 tyX6 tyX6_ok nmX6 hown hK.1 hP hD hS 0 rfl rfl 0 (by decide) (hts (.fieldLink RX6 43 "IceLanesModel" "thrown" "I") (by decide +kernel)) (fun _ h9 => h9) rfl (by decide +kernel) rfl rfl (Nat.le_of_ble_eq_true rfl) dX6_send_2 (fun H locs hP hD hS => ?_)
  have hP : va_P D vwCl (wOutE b d d2 cI 0 (ω 19 0) (ω 1) (ω 2) (ω 14) (ω 15) ++ (wSta d (b 0) cI σ ++ wSta d2 (b 0) cI σ2)) H := hP
  have hD : va_D A (wOutE b d d2 cI 0 (ω 19 0) (ω 1) (ω 2) (ω 14) (ω 15) ++ (wSta d (b 0) cI σ ++ wSta d2 (b 0) cI σ2)) := hD
  refine lv_aload_n hx hb dX6_send_5 rfl (lv_at hl 0 rfl) ?_
  refine lv_iload_n hx hb dX6_send_6 rfl (lv_at hl 1 rfl) ?_
  refine rd_i (va_runV (As := [.int (nI cu)]) (rest := []) ⟨hx, hb, hml, hown, hts⟩ (M_X6_isCourier l D cI b d d2 σ σ2 (put ω 20 (fun _ => 0)) (nI cu) ) (cwV 1 hts gX6_send_X6_isCourier rfl rfl rfl (by decide +kernel) ⟨Nat.le_of_ble_eq_true rfl, Nat.le_of_ble_eq_true rfl⟩) (rdV hK hP [0, 1, 2, 3, 4, 5, 6, 7, 8, 9, 10, 11, 12] [0] rfl rfl (ci := 6) (q0 := 0) rfl rfl) rfl rfl hl.1 rfl (lv_room (Nat.le_of_ble_eq_true rfl)) dX6_send_7 ⟨Nat.zero_le _, Nat.zero_le _⟩) ?_
  refine W.eq (g2 := F0 m 10 ls [.int (bI (0 ≤ (nI cu) ∧ (nI cu) ≤ (σ 17 0) - 1))]) rfl ?_
  refine lv_if_eq (tgt := 23) hx hb dX6_send_10 (by decide) (fun c_1 => ?_) (fun c_1 => ?_)
  · skip
    have c_1 : ¬ (0 ≤ (nI cu) ∧ (nI cu) ≤ (σ 17 0) - 1) := bI_z.mp c_1
    first | exact absurd c_1 (by assumption) | exact absurd (by assumption) c_1
  · skip
    have c_1 : (0 ≤ (nI cu) ∧ (nI cu) ≤ (σ 17 0) - 1) := bI_nz.mp c_1
    refine lv_iload_n hx hb dX6_send_13 rfl (lv_at hl 2 rfl) ?_
    refine lv_iconst (v := 0) hx hb dX6_send_14 (by decide) ?_
    refine lv_bipush (v := 11) hx hb dX6_send_15 (by decide) ?_
    refine rd_i (va_runS (As := [.int p1, .int 0, .int 11]) (rest := []) ⟨hx, hb, hml, hown, hts⟩ (M_X6_isIn l D cI p1 0 11 ) (va_cwS 3 hts gX6_send_X6_isIn rfl rfl rfl (by decide +kernel) ⟨Nat.le_of_ble_eq_true rfl, Nat.le_of_ble_eq_true rfl⟩) (rdS hK hP [] [0] rfl rfl) rfl rfl hl.1 rfl (lv_room (Nat.le_of_ble_eq_true rfl)) dX6_send_17 ⟨Nat.zero_le _, Nat.zero_le _⟩) ?_
    refine lv_if_ne (tgt := 29) hx hb dX6_send_20 (by decide) (fun c_2 => ?_) (fun c_2 => ?_)
    · skip
      have c_2 : (0 ≤ p1 ∧ p1 ≤ 11) := bI_nz.mp c_2
      refine lv_aload_n hx hb dX6_send_29 rfl (lv_at hl 0 rfl) ?_
      refine va_get (D := D) (ci := 6) (v := .ref (d 0)) (C := RX6) (T := TX6) (N := 8) hx hb hts hiX6 hown hK.1 hP 0 rfl rfl 6 (by decide) (hts (.fieldLink RX6 27 "IceLanesModel" "s" "LIceLanesModel$State;") (by decide +kernel)) (fun _ h9 => h9) rfl dX6_send_30 ?_
      refine lv_iload_n hx hb dX6_send_33 rfl (lv_at hl 1 rfl) ?_
      refine lv_bipush (v := 6) hx hb dX6_send_34 (by decide) ?_
      refine rd_i (va_runV (As := [.int (nI cu), .int 6]) (rest := []) ⟨hx, hb, hml, hown, hts⟩ (M_X5_get l D cI d (b 0) σ cu 6 (by first | assumption | omega) (by first | assumption | omega)) (cwV 2 hts gX6_send_X5_get rfl rfl rfl (by decide +kernel) ⟨Nat.le_of_ble_eq_true rfl, Nat.le_of_ble_eq_true rfl⟩) (rdV hK hP [5, 6, 7, 8] [0] rfl rfl (ci := 5) (q0 := 5) rfl rfl) rfl rfl hl.1 rfl (lv_room (Nat.le_of_ble_eq_true rfl)) dX6_send_36 ⟨Nat.zero_le _, Nat.zero_le _⟩) ?_
      refine W.eq (g2 := F0 m 39 ls [.int (σ 11 cu)]) rfl ?_
      refine lv_iconst (v := 3) hx hb dX6_send_39 (by decide) ?_
      refine lv_icmp_ne (tgt := 49) hx hb dX6_send_40 (by decide) (fun c_3 => ?_) (fun c_3 => ?_)
      · skip
        refine lv_aload_n hx hb dX6_send_49 rfl (lv_at hl 0 rfl) ?_
        refine va_get (D := D) (ci := 6) (v := .ref (d 0)) (C := RX6) (T := TX6) (N := 8) hx hb hts hiX6 hown hK.1 hP 0 rfl rfl 6 (by decide) (hts (.fieldLink RX6 27 "IceLanesModel" "s" "LIceLanesModel$State;") (by decide +kernel)) (fun _ h9 => h9) rfl dX6_send_50 ?_
        refine lv_iload_n hx hb dX6_send_53 rfl (lv_at hl 1 rfl) ?_
        refine lv_iconst (v := 5) hx hb dX6_send_54 (by decide) ?_
        refine lv_iload_n hx hb dX6_send_55 rfl (lv_at hl 2 rfl) ?_
        refine wr_v (wn := wOutE b d d2 cI 0 (ω 19 0) (ω 1) (ω 2) (ω 14) (ω 15) ++ (wStaE d (b 0) cI (σ 0 0) (σ 17 0) (σ 16 0) (σ 18 0) (σ 3) (σ 4) (σ 5) (σ 6) (σ 7) (σ 8) (σ 9) (upd ((σ 10)) cu p1) (σ 11) (σ 12) (σ 13) ++ wSta d2 (b 0) cI σ2)) (va_runV (As := [.int (nI cu), .int 5, .int p1]) (rest := []) ⟨hx, hb, hml, hown, hts⟩ (M_X5_set_5 l D cI d (b 0) σ cu p1 _ (by first | assumption | omega)) (cwV 3 hts gX6_send_X5_set rfl rfl rfl (by decide +kernel) ⟨Nat.le_of_ble_eq_true rfl, Nat.le_of_ble_eq_true rfl⟩) (wrV hK hP hD [5, 6, 7, 8] [0] rfl rfl rfl (ci := 5) (q0 := 5) rfl rfl) rfl rfl hl.1 rfl (lv_room (Nat.le_of_ble_eq_true rfl)) dX6_send_56 ⟨Nat.le_of_ble_eq_true rfl, Nat.le_of_ble_eq_true rfl⟩) hP hD hS hA [5, 6, 7, 8] [0, 1, 2, 3, 4, 9, 10, 11, 12] [0, 1, 2, 3, 4, 9, 10, 11, 12, 5, 6, 7, 8] rfl rfl rfl rfl rfl rfl (fun H locs hP hD hS => ?_)
        refine lv_aload_n hx hb dX6_send_59 rfl (lv_at hl 0 rfl) ?_
        refine va_get (D := D) (ci := 6) (v := .ref (d 0)) (C := RX6) (T := TX6) (N := 8) hx hb hts hiX6 hown hK.1 hP 0 rfl rfl 6 (by decide) (hts (.fieldLink RX6 27 "IceLanesModel" "s" "LIceLanesModel$State;") (by decide +kernel)) (fun _ h9 => h9) rfl dX6_send_60 ?_
        refine lv_iload_n hx hb dX6_send_63 rfl (lv_at hl 1 rfl) ?_
        refine lv_bipush (v := 6) hx hb dX6_send_64 (by decide) ?_
        refine lv_iconst (v := 0) hx hb dX6_send_66 (by decide) ?_
        refine wr_v (wn := wOutE b d d2 cI 0 (ω 19 0) (ω 1) (ω 2) (ω 14) (ω 15) ++ (wStaE d (b 0) cI (σ 0 0) (σ 17 0) (σ 16 0) (σ 18 0) (σ 3) (σ 4) (σ 5) (σ 6) (σ 7) (σ 8) (σ 9) (upd ((σ 10)) cu p1) (upd ((σ 11)) cu 0) (σ 12) (σ 13) ++ wSta d2 (b 0) cI σ2)) (va_runV (As := [.int (nI cu), .int 6, .int 0]) (rest := []) ⟨hx, hb, hml, hown, hts⟩ (M_X5_set_6 l D cI d (b 0) (put σ 10 (upd ((σ 10)) cu p1)) cu 0 _ (by first | assumption | omega)) (cwV 3 hts gX6_send_X5_set rfl rfl rfl (by decide +kernel) ⟨Nat.le_of_ble_eq_true rfl, Nat.le_of_ble_eq_true rfl⟩) (wrV hK hP hD [5, 6, 7, 8] [0] rfl rfl rfl (ci := 5) (q0 := 5) rfl rfl) rfl rfl hl.1 rfl (lv_room (Nat.le_of_ble_eq_true rfl)) dX6_send_67 ⟨Nat.le_of_ble_eq_true rfl, Nat.le_of_ble_eq_true rfl⟩) hP hD hS hA [5, 6, 7, 8] [0, 1, 2, 3, 4, 9, 10, 11, 12] [0, 1, 2, 3, 4, 9, 10, 11, 12, 5, 6, 7, 8] rfl rfl rfl rfl rfl rfl (fun H locs hP hD hS => ?_)
        refine lv_iload_n hx hb dX6_send_70 rfl (lv_at hl 2 rfl) ?_
        refine lv_aload_n hx hb dX6_send_71 rfl (lv_at hl 0 rfl) ?_
        refine va_get (D := D) (ci := 6) (v := .ref (d 0)) (C := RX6) (T := TX6) (N := 8) hx hb hts hiX6 hown hK.1 hP 0 rfl rfl 6 (by decide) (hts (.fieldLink RX6 27 "IceLanesModel" "s" "LIceLanesModel$State;") (by decide +kernel)) (fun _ h9 => h9) rfl dX6_send_72 ?_
        refine lv_iload_n hx hb dX6_send_75 rfl (lv_at hl 1 rfl) ?_
        refine lv_iconst (v := 3) hx hb dX6_send_76 (by decide) ?_
        refine rd_i (va_runV (As := [.int (nI cu), .int 3]) (rest := [.int p1]) ⟨hx, hb, hml, hown, hts⟩ (M_X5_get l D cI d (b 0) (put (put σ 10 (upd ((σ 10)) cu p1)) 11 (upd ((σ 11)) cu 0)) cu 3 (by first | assumption | omega) (by first | assumption | omega)) (cwV 2 hts gX6_send_X5_get rfl rfl rfl (by decide +kernel) ⟨Nat.le_of_ble_eq_true rfl, Nat.le_of_ble_eq_true rfl⟩) (rdV hK hP [5, 6, 7, 8] [0] rfl rfl (ci := 5) (q0 := 5) rfl rfl) rfl rfl hl.1 rfl (lv_room (Nat.le_of_ble_eq_true rfl)) dX6_send_77 ⟨Nat.zero_le _, Nat.zero_le _⟩) ?_
        refine W.eq (g2 := F0 m 80 ls [.int (σ 8 cu), .int p1]) rfl ?_
        refine lv_isub hx hb dX6_send_80 ?_
        refine va_mabs hx hb (by rw [hml]; exact hl.1.symm) hown (hts (.methodLink RX6 104 Lib.Math.abs.name) (by decide +kernel)) (hts (.static Lib.Math.abs.name) (by decide +kernel)) (hts (.initialized "java/lang/Math") (by decide +kernel)) (hts (.code Lib.Math.abs.name Lib.Math.abs.code 1 (some .int)) (by decide +kernel)) (Nat.le_of_ble_eq_true rfl) (Nat.le_of_ble_eq_true rfl) (Nat.zero_le _) (Nat.zero_le _) dX6_send_81 ?_
        refine W.eq (g2 := F0 m 84 ls [.int (ab (p1 - (σ 8 cu)))]) rfl ?_
        subst hQ
        have hP : va_P D vwCl (wMod b d d2 cI (put (put σ 10 (upd ((σ 10)) cu p1)) 11 (upd ((σ 11)) cu 0)) σ2 (put ω 20 (fun _ => 0))) H := hP
        have hD : va_D A (wMod b d d2 cI (put (put σ 10 (upd ((σ 10)) cu p1)) 11 (upd ((σ 11)) cu 0)) σ2 (put ω 20 (fun _ => 0))) := hD
        have k_10 : (upd ((σ 10)) cu p1 : Nat → Int32) = (upd (σ 10) cu p1) := by rfl
        have k_11 : (upd ((σ 11)) cu 0 : Nat → Int32) = (upd (σ 11) cu 0) := by rfl
        have hst_s : put (put σ 10 (upd ((σ 10)) cu p1)) 11 (upd ((σ 11)) cu 0) = put (put σ 10 (upd (σ 10) cu p1)) 11 (upd (σ 11) cu 0) := put_cg (put_cg rfl k_10) k_11
        rw [hst_s] at hP hD
        have hP : va_P D vwCl (wMod b d d2 cI (put (put σ 10 (upd (σ 10) cu p1)) 11 (upd (σ 11) cu 0)) σ2 (put ω 20 (fun _ => 0))) H := hP
        have hD : va_D A (wMod b d d2 cI (put (put σ 10 (upd (σ 10) cu p1)) 11 (upd (σ 11) cu 0)) σ2 (put ω 20 (fun _ => 0))) := hD
        exact ret_wri hx hb hr rfl hlocks hP hD hS (show ab (p1 - (σ 8 cu)) = ab (p1 - σ 8 cu) from rfl) dX6_send_84
      · skip
        first | exact absurd c_3 (by assumption) | exact absurd (by assumption) c_3
    · skip
      have c_2 : ¬ (0 ≤ p1 ∧ p1 ≤ 11) := bI_z.mp c_2
      first | exact absurd c_2 (by assumption) | exact absurd (by assumption) c_2
set_option maxHeartbeats 4000000 in
set_option maxRecDepth 100000 in
theorem M_X6_load_e1 (l : Launch) (D : va_G) (cI : ClassId) (b : Nat → Nat) (d : Nat → Nat) (d2 : Nat → Nat) (σ : St) (σ2 : St) (ω : St) (p0 : Int32) (p1 : Int32) (sz : Nat) (h1 : ¬ (0 ≤ p0 ∧ p0 ≤ σ 17 0 - 1)) : Met l yX6_load wsX6_load ({ frames := 2, cells := 0, slots := 0, locals := 43 } : Room) (wrPc [.ref (b 0), .int p0, .int p1] D (wMod b d d2 cI σ σ2 ω) [(cI, .int)] sz) (wrQi 0 D (wMod b d d2 cI σ σ2 (put ω 20 (fun _ => 1))) (va_A (wMod b d d2 cI σ σ2 ω) sz)) 0 0 (va_A (wMod b d d2 cI σ σ2 ω) sz) := by
  refine Met.ofW (cc := cX6_load) (maxL := 5) (ret := (some .int)) (by decide) rfl ?_
  intro p e s m args below meth c s₁ B hml hv
  obtain ⟨hargs, hsz, hP, hK, hD0⟩ := hv
  have hx := B.exec
  have hb := B.bytes
  have hr := B.returns
  have hts := atoms_spec (ws := wsX6_load) B.pre
  have hown : s.vm.findClass RX6 = some m.cls := findClass_of_methodNamed B.named
  have hlocks := B.notSynchronized
  obtain ⟨_, hN⟩ := id hK
  have hiX6 : ∀ w ∈ wsX60, w ∈ wsX6_load := by decide +kernel
  subst hsz
  have hD := hD0.self (sz := s.heap.size)
  generalize hAe : va_A (wMod b d d2 cI σ σ2 ω) s.heap.size = A at hD ⊢
  have hA : ∀ q : Nat, s.heap.size ≤ q → A q := fun q h => by rw [← hAe]; exact Or.inr h
  have hS : va_S A s.heap s.heap [] := va_S.rf
  have hP : va_P D vwCl (wMod b d d2 cI σ σ2 ω) s.heap := hP
  refine my_abs (fun Q hQ => ?_)
  obtain ⟨ls, hl, hent⟩ := my_entry (m := m) (n := 5) hargs (Nat.le_of_ble_eq_true rfl)
  rw [hent]
  have hl : lv_has ls 5 [(0, .ref (b 0)), (1, .int p0), (2, .int p1)] := hl
  show W p l e ({ frames := 2, cells := 0, slots := 0, locals := 43 } : Room) s m args below meth c s.heap [] 0 0 Q (F0 m 0 ls [])
  refine lv_aload_n hx hb dX6_load_0 rfl (lv_at hl 0 rfl) ?_
  refine lv_iconst (v := 0) hx hb dX6_load_1 (by decide) ?_
  refine va_put (D := D) (ci := 6) (v := .int 0) (ty := .int) (C := RX6) (T := TX6) (N := 8) hx hb hts hiX6 tyX6 tyX6_ok nmX6 hown hK.1 hP hD hS 0 rfl rfl 0 (by decide) (hts (.fieldLink RX6 43 "IceLanesModel" "thrown" "I") (by decide +kernel)) (fun _ h9 => h9) rfl (by decide +kernel) rfl rfl (Nat.le_of_ble_eq_true rfl) dX6_load_2 (fun H locs hP hD hS => ?_)
  have hP : va_P D vwCl (wOutE b d d2 cI 0 (ω 19 0) (ω 1) (ω 2) (ω 14) (ω 15) ++ (wSta d (b 0) cI σ ++ wSta d2 (b 0) cI σ2)) H := hP
  have hD : va_D A (wOutE b d d2 cI 0 (ω 19 0) (ω 1) (ω 2) (ω 14) (ω 15) ++ (wSta d (b 0) cI σ ++ wSta d2 (b 0) cI σ2)) := hD
  refine lv_aload_n hx hb dX6_load_5 rfl (lv_at hl 0 rfl) ?_
  refine lv_iload_n hx hb dX6_load_6 rfl (lv_at hl 1 rfl) ?_
  refine rd_i (va_runV (As := [.int p0]) (rest := []) ⟨hx, hb, hml, hown, hts⟩ (M_X6_isCourier l D cI b d d2 σ σ2 (put ω 20 (fun _ => 0)) p0 ) (cwV 1 hts gX6_load_X6_isCourier rfl rfl rfl (by decide +kernel) ⟨Nat.le_of_ble_eq_true rfl, Nat.le_of_ble_eq_true rfl⟩) (rdV hK hP [0, 1, 2, 3, 4, 5, 6, 7, 8, 9, 10, 11, 12] [0] rfl rfl (ci := 6) (q0 := 0) rfl rfl) rfl rfl hl.1 rfl (lv_room (Nat.le_of_ble_eq_true rfl)) dX6_load_7 ⟨Nat.zero_le _, Nat.zero_le _⟩) ?_
  refine W.eq (g2 := F0 m 10 ls [.int (bI (0 ≤ p0 ∧ p0 ≤ (σ 17 0) - 1))]) rfl ?_
  refine lv_if_ne (tgt := 19) hx hb dX6_load_10 (by decide) (fun c_1 => ?_) (fun c_1 => ?_)
  · skip
    have c_1 : (0 ≤ p0 ∧ p0 ≤ (σ 17 0) - 1) := bI_nz.mp c_1
    first | exact absurd c_1 (by assumption) | exact absurd (by assumption) c_1
  · skip
    have c_1 : ¬ (0 ≤ p0 ∧ p0 ≤ (σ 17 0) - 1) := bI_z.mp c_1
    refine lv_aload_n hx hb dX6_load_13 rfl (lv_at hl 0 rfl) ?_
    refine lv_iconst (v := 1) hx hb dX6_load_14 (by decide) ?_
    refine wr_i (wn := wOutE b d d2 cI 1 (ω 19 0) (ω 1) (ω 2) (ω 14) (ω 15) ++ (wSta d (b 0) cI σ ++ wSta d2 (b 0) cI σ2)) (va_runV (As := [.int 1]) (rest := []) ⟨hx, hb, hml, hown, hts⟩ (M_X6_no l D cI b d d2 σ σ2 (put ω 20 (fun _ => 0)) 1 _ ) (cwV 1 hts gX6_load_X6_no rfl rfl rfl (by decide +kernel) ⟨Nat.le_of_ble_eq_true rfl, Nat.le_of_ble_eq_true rfl⟩) (wrV hK hP hD [0, 1, 2, 3, 4, 5, 6, 7, 8, 9, 10, 11, 12] [0] rfl rfl rfl (ci := 6) (q0 := 0) rfl rfl) rfl rfl hl.1 rfl (lv_room (Nat.le_of_ble_eq_true rfl)) dX6_load_15 ⟨Nat.le_of_ble_eq_true rfl, Nat.le_of_ble_eq_true rfl⟩) hP hD hS hA [0, 1, 2, 3, 4, 5, 6, 7, 8, 9, 10, 11, 12] [] [0, 1, 2, 3, 4, 5, 6, 7, 8, 9, 10, 11, 12] rfl rfl rfl rfl rfl rfl (fun H locs hP hD hS => ?_)
    refine W.eq (g2 := F0 m 18 ls [.int 0]) rfl ?_
    subst hQ
    have hP : va_P D vwCl (wMod b d d2 cI σ σ2 (put ω 20 (fun _ => 1))) H := hP
    have hD : va_D A (wMod b d d2 cI σ σ2 (put ω 20 (fun _ => 1))) := hD
    exact ret_wri hx hb hr rfl hlocks hP hD hS (show 0 = 0 from rfl) dX6_load_18
set_option maxHeartbeats 4000000 in
set_option maxRecDepth 100000 in
theorem M_X6_load_e2 (l : Launch) (D : va_G) (cI : ClassId) (b : Nat → Nat) (d : Nat → Nat) (d2 : Nat → Nat) (σ : St) (σ2 : St) (ω : St) (cu : Nat) (p1 : Int32) (sz : Nat) (hcu : cu < 8) (h1 : (0 ≤ nI cu ∧ nI cu ≤ σ 17 0 - 1)) (h2 : p1 = 0 ∨ ¬ ((-20) ≤ p1 ∧ p1 ≤ 20)) : Met l yX6_load wsX6_load ({ frames := 2, cells := 0, slots := 0, locals := 43 } : Room) (wrPc [.ref (b 0), .int (nI cu), .int p1] D (wMod b d d2 cI σ σ2 ω) [(cI, .int)] sz) (wrQi 0 D (wMod b d d2 cI σ σ2 (put ω 20 (fun _ => 2))) (va_A (wMod b d d2 cI σ σ2 ω) sz)) 0 0 (va_A (wMod b d d2 cI σ σ2 ω) sz) := by
  refine Met.ofW (cc := cX6_load) (maxL := 5) (ret := (some .int)) (by decide) rfl ?_
  intro p e s m args below meth c s₁ B hml hv
  obtain ⟨hargs, hsz, hP, hK, hD0⟩ := hv
  have hx := B.exec
  have hb := B.bytes
  have hr := B.returns
  have hts := atoms_spec (ws := wsX6_load) B.pre
  have hown : s.vm.findClass RX6 = some m.cls := findClass_of_methodNamed B.named
  have hlocks := B.notSynchronized
  obtain ⟨_, hN⟩ := id hK
  have hiX6 : ∀ w ∈ wsX60, w ∈ wsX6_load := by decide +kernel
  subst hsz
  have hD := hD0.self (sz := s.heap.size)
  generalize hAe : va_A (wMod b d d2 cI σ σ2 ω) s.heap.size = A at hD ⊢
  have hA : ∀ q : Nat, s.heap.size ≤ q → A q := fun q h => by rw [← hAe]; exact Or.inr h
  have hS : va_S A s.heap s.heap [] := va_S.rf
  have hP : va_P D vwCl (wMod b d d2 cI σ σ2 ω) s.heap := hP
  refine my_abs (fun Q hQ => ?_)
  obtain ⟨ls, hl, hent⟩ := my_entry (m := m) (n := 5) hargs (Nat.le_of_ble_eq_true rfl)
  rw [hent]
  have hl : lv_has ls 5 [(0, .ref (b 0)), (1, .int (nI cu)), (2, .int p1)] := hl
  show W p l e ({ frames := 2, cells := 0, slots := 0, locals := 43 } : Room) s m args below meth c s.heap [] 0 0 Q (F0 m 0 ls [])
  refine lv_aload_n hx hb dX6_load_0 rfl (lv_at hl 0 rfl) ?_
  refine lv_iconst (v := 0) hx hb dX6_load_1 (by decide) ?_
  refine va_put (D := D) (ci := 6) (v := .int 0) (ty := .int) (C := RX6) (T := TX6) (N := 8) hx hb hts hiX6 tyX6 tyX6_ok nmX6 hown hK.1 hP hD hS 0 rfl rfl 0 (by decide) (hts (.fieldLink RX6 43 "IceLanesModel" "thrown" "I") (by decide +kernel)) (fun _ h9 => h9) rfl (by decide +kernel) rfl rfl (Nat.le_of_ble_eq_true rfl) dX6_load_2 (fun H locs hP hD hS => ?_)
  have hP : va_P D vwCl (wOutE b d d2 cI 0 (ω 19 0) (ω 1) (ω 2) (ω 14) (ω 15) ++ (wSta d (b 0) cI σ ++ wSta d2 (b 0) cI σ2)) H := hP
  have hD : va_D A (wOutE b d d2 cI 0 (ω 19 0) (ω 1) (ω 2) (ω 14) (ω 15) ++ (wSta d (b 0) cI σ ++ wSta d2 (b 0) cI σ2)) := hD
  refine lv_aload_n hx hb dX6_load_5 rfl (lv_at hl 0 rfl) ?_
  refine lv_iload_n hx hb dX6_load_6 rfl (lv_at hl 1 rfl) ?_
  refine rd_i (va_runV (As := [.int (nI cu)]) (rest := []) ⟨hx, hb, hml, hown, hts⟩ (M_X6_isCourier l D cI b d d2 σ σ2 (put ω 20 (fun _ => 0)) (nI cu) ) (cwV 1 hts gX6_load_X6_isCourier rfl rfl rfl (by decide +kernel) ⟨Nat.le_of_ble_eq_true rfl, Nat.le_of_ble_eq_true rfl⟩) (rdV hK hP [0, 1, 2, 3, 4, 5, 6, 7, 8, 9, 10, 11, 12] [0] rfl rfl (ci := 6) (q0 := 0) rfl rfl) rfl rfl hl.1 rfl (lv_room (Nat.le_of_ble_eq_true rfl)) dX6_load_7 ⟨Nat.zero_le _, Nat.zero_le _⟩) ?_
  refine W.eq (g2 := F0 m 10 ls [.int (bI (0 ≤ (nI cu) ∧ (nI cu) ≤ (σ 17 0) - 1))]) rfl ?_
  refine lv_if_ne (tgt := 19) hx hb dX6_load_10 (by decide) (fun c_1 => ?_) (fun c_1 => ?_)
  · skip
    have c_1 : (0 ≤ (nI cu) ∧ (nI cu) ≤ (σ 17 0) - 1) := bI_nz.mp c_1
    refine lv_iload_n hx hb dX6_load_19 rfl (lv_at hl 2 rfl) ?_
    refine lv_if_eq (tgt := 34) hx hb dX6_load_20 (by decide) (fun c_2 => ?_) (fun c_2 => ?_)
    · skip
      refine lv_aload_n hx hb dX6_load_34 rfl (lv_at hl 0 rfl) ?_
      refine lv_iconst (v := 2) hx hb dX6_load_35 (by decide) ?_
      refine wr_i (wn := wOutE b d d2 cI 2 (ω 19 0) (ω 1) (ω 2) (ω 14) (ω 15) ++ (wSta d (b 0) cI σ ++ wSta d2 (b 0) cI σ2)) (va_runV (As := [.int 2]) (rest := []) ⟨hx, hb, hml, hown, hts⟩ (M_X6_no l D cI b d d2 σ σ2 (put ω 20 (fun _ => 0)) 2 _ ) (cwV 1 hts gX6_load_X6_no rfl rfl rfl (by decide +kernel) ⟨Nat.le_of_ble_eq_true rfl, Nat.le_of_ble_eq_true rfl⟩) (wrV hK hP hD [0, 1, 2, 3, 4, 5, 6, 7, 8, 9, 10, 11, 12] [0] rfl rfl rfl (ci := 6) (q0 := 0) rfl rfl) rfl rfl hl.1 rfl (lv_room (Nat.le_of_ble_eq_true rfl)) dX6_load_36 ⟨Nat.le_of_ble_eq_true rfl, Nat.le_of_ble_eq_true rfl⟩) hP hD hS hA [0, 1, 2, 3, 4, 5, 6, 7, 8, 9, 10, 11, 12] [] [0, 1, 2, 3, 4, 5, 6, 7, 8, 9, 10, 11, 12] rfl rfl rfl rfl rfl rfl (fun H locs hP hD hS => ?_)
      refine W.eq (g2 := F0 m 39 ls [.int 0]) rfl ?_
      subst hQ
      have hP : va_P D vwCl (wMod b d d2 cI σ σ2 (put ω 20 (fun _ => 2))) H := hP
      have hD : va_D A (wMod b d d2 cI σ σ2 (put ω 20 (fun _ => 2))) := hD
      exact ret_wri hx hb hr rfl hlocks hP hD hS (show 0 = 0 from rfl) dX6_load_39
    · skip
      refine lv_iload_n hx hb dX6_load_23 rfl (lv_at hl 2 rfl) ?_
      refine lv_bipush (v := (-20)) hx hb dX6_load_24 (by decide) ?_
      refine lv_bipush (v := 20) hx hb dX6_load_26 (by decide) ?_
      refine rd_i (va_runS (As := [.int p1, .int (-20), .int 20]) (rest := []) ⟨hx, hb, hml, hown, hts⟩ (M_X6_isIn l D cI p1 (-20) 20 ) (va_cwS 3 hts gX6_load_X6_isIn rfl rfl rfl (by decide +kernel) ⟨Nat.le_of_ble_eq_true rfl, Nat.le_of_ble_eq_true rfl⟩) (rdS hK hP [] [0] rfl rfl) rfl rfl hl.1 rfl (lv_room (Nat.le_of_ble_eq_true rfl)) dX6_load_28 ⟨Nat.zero_le _, Nat.zero_le _⟩) ?_
      refine lv_if_ne (tgt := 40) hx hb dX6_load_31 (by decide) (fun c_3 => ?_) (fun c_3 => ?_)
      · skip
        have c_3 : ((-20) ≤ p1 ∧ p1 ≤ 20) := bI_nz.mp c_3
        exact h2.elim (fun z => absurd z (by assumption)) (fun z => absurd c_3 z)
      · skip
        have c_3 : ¬ ((-20) ≤ p1 ∧ p1 ≤ 20) := bI_z.mp c_3
        refine lv_aload_n hx hb dX6_load_34 rfl (lv_at hl 0 rfl) ?_
        refine lv_iconst (v := 2) hx hb dX6_load_35 (by decide) ?_
        refine wr_i (wn := wOutE b d d2 cI 2 (ω 19 0) (ω 1) (ω 2) (ω 14) (ω 15) ++ (wSta d (b 0) cI σ ++ wSta d2 (b 0) cI σ2)) (va_runV (As := [.int 2]) (rest := []) ⟨hx, hb, hml, hown, hts⟩ (M_X6_no l D cI b d d2 σ σ2 (put ω 20 (fun _ => 0)) 2 _ ) (cwV 1 hts gX6_load_X6_no rfl rfl rfl (by decide +kernel) ⟨Nat.le_of_ble_eq_true rfl, Nat.le_of_ble_eq_true rfl⟩) (wrV hK hP hD [0, 1, 2, 3, 4, 5, 6, 7, 8, 9, 10, 11, 12] [0] rfl rfl rfl (ci := 6) (q0 := 0) rfl rfl) rfl rfl hl.1 rfl (lv_room (Nat.le_of_ble_eq_true rfl)) dX6_load_36 ⟨Nat.le_of_ble_eq_true rfl, Nat.le_of_ble_eq_true rfl⟩) hP hD hS hA [0, 1, 2, 3, 4, 5, 6, 7, 8, 9, 10, 11, 12] [] [0, 1, 2, 3, 4, 5, 6, 7, 8, 9, 10, 11, 12] rfl rfl rfl rfl rfl rfl (fun H locs hP hD hS => ?_)
        refine W.eq (g2 := F0 m 39 ls [.int 0]) rfl ?_
        subst hQ
        have hP : va_P D vwCl (wMod b d d2 cI σ σ2 (put ω 20 (fun _ => 2))) H := hP
        have hD : va_D A (wMod b d d2 cI σ σ2 (put ω 20 (fun _ => 2))) := hD
        exact ret_wri hx hb hr rfl hlocks hP hD hS (show 0 = 0 from rfl) dX6_load_39
  · skip
    have c_1 : ¬ (0 ≤ (nI cu) ∧ (nI cu) ≤ (σ 17 0) - 1) := bI_z.mp c_1
    first | exact absurd c_1 (by assumption) | exact absurd (by assumption) c_1
set_option maxHeartbeats 4000000 in
set_option maxRecDepth 100000 in
theorem M_X6_load_e3 (l : Launch) (D : va_G) (cI : ClassId) (b : Nat → Nat) (d : Nat → Nat) (d2 : Nat → Nat) (σ : St) (σ2 : St) (ω : St) (cu : Nat) (p1 : Int32) (sn : Nat) (ln : Nat) (sz : Nat) (hcu : cu < 8) (h1 : (0 ≤ nI cu ∧ nI cu ≤ σ 17 0 - 1)) (h2 : ¬ p1 = 0) (h3 : ((-20) ≤ p1 ∧ p1 ≤ 20)) (hs8 : σ 8 cu = nI sn) (hs9 : σ 9 cu = nI ln) (hs : sn < 12) (hl9 : ln < 3) (h4 : σ 11 cu = 3 ∨ ¬ (0 ≤ (σ 6 cu + p1) ∧ (σ 6 cu + p1) ≤ 20) ∨ ¬ σ 5 cu + (σ 6 cu + p1) ≤ sndP (σ 3) (σ 4) (nI (3 * sn + ln))) : Met l yX6_load wsX6_load ({ frames := 2, cells := 0, slots := 0, locals := 43 } : Room) (wrPc [.ref (b 0), .int (nI cu), .int p1] D (wMod b d d2 cI σ σ2 ω) [(cI, .int)] sz) (wrQi 0 D (wMod b d d2 cI σ σ2 (put ω 20 (fun _ => 3))) (va_A (wMod b d d2 cI σ σ2 ω) sz)) 0 0 (va_A (wMod b d d2 cI σ σ2 ω) sz) := by
  refine Met.ofW (cc := cX6_load) (maxL := 5) (ret := (some .int)) (by decide) rfl ?_
  intro p e s m args below meth c s₁ B hml hv
  obtain ⟨hargs, hsz, hP, hK, hD0⟩ := hv
  have hx := B.exec
  have hb := B.bytes
  have hr := B.returns
  have hts := atoms_spec (ws := wsX6_load) B.pre
  have hown : s.vm.findClass RX6 = some m.cls := findClass_of_methodNamed B.named
  have hlocks := B.notSynchronized
  obtain ⟨_, hN⟩ := id hK
  have hiX6 : ∀ w ∈ wsX60, w ∈ wsX6_load := by decide +kernel
  subst hsz
  have hD := hD0.self (sz := s.heap.size)
  generalize hAe : va_A (wMod b d d2 cI σ σ2 ω) s.heap.size = A at hD ⊢
  have hA : ∀ q : Nat, s.heap.size ≤ q → A q := fun q h => by rw [← hAe]; exact Or.inr h
  have hS : va_S A s.heap s.heap [] := va_S.rf
  have hP : va_P D vwCl (wMod b d d2 cI σ σ2 ω) s.heap := hP
  refine my_abs (fun Q hQ => ?_)
  obtain ⟨ls, hl, hent⟩ := my_entry (m := m) (n := 5) hargs (Nat.le_of_ble_eq_true rfl)
  rw [hent]
  have hl : lv_has ls 5 [(0, .ref (b 0)), (1, .int (nI cu)), (2, .int p1)] := hl
  show W p l e ({ frames := 2, cells := 0, slots := 0, locals := 43 } : Room) s m args below meth c s.heap [] 0 0 Q (F0 m 0 ls [])
  refine lv_aload_n hx hb dX6_load_0 rfl (lv_at hl 0 rfl) ?_
  refine lv_iconst (v := 0) hx hb dX6_load_1 (by decide) ?_
  refine va_put (D := D) (ci := 6) (v := .int 0) (ty := .int) (C := RX6) (T := TX6) (N := 8) hx hb hts hiX6 tyX6 tyX6_ok nmX6 hown hK.1 hP hD hS 0 rfl rfl 0 (by decide) (hts (.fieldLink RX6 43 "IceLanesModel" "thrown" "I") (by decide +kernel)) (fun _ h9 => h9) rfl (by decide +kernel) rfl rfl (Nat.le_of_ble_eq_true rfl) dX6_load_2 (fun H locs hP hD hS => ?_)
  have hP : va_P D vwCl (wOutE b d d2 cI 0 (ω 19 0) (ω 1) (ω 2) (ω 14) (ω 15) ++ (wSta d (b 0) cI σ ++ wSta d2 (b 0) cI σ2)) H := hP
  have hD : va_D A (wOutE b d d2 cI 0 (ω 19 0) (ω 1) (ω 2) (ω 14) (ω 15) ++ (wSta d (b 0) cI σ ++ wSta d2 (b 0) cI σ2)) := hD
  refine lv_aload_n hx hb dX6_load_5 rfl (lv_at hl 0 rfl) ?_
  refine lv_iload_n hx hb dX6_load_6 rfl (lv_at hl 1 rfl) ?_
  refine rd_i (va_runV (As := [.int (nI cu)]) (rest := []) ⟨hx, hb, hml, hown, hts⟩ (M_X6_isCourier l D cI b d d2 σ σ2 (put ω 20 (fun _ => 0)) (nI cu) ) (cwV 1 hts gX6_load_X6_isCourier rfl rfl rfl (by decide +kernel) ⟨Nat.le_of_ble_eq_true rfl, Nat.le_of_ble_eq_true rfl⟩) (rdV hK hP [0, 1, 2, 3, 4, 5, 6, 7, 8, 9, 10, 11, 12] [0] rfl rfl (ci := 6) (q0 := 0) rfl rfl) rfl rfl hl.1 rfl (lv_room (Nat.le_of_ble_eq_true rfl)) dX6_load_7 ⟨Nat.zero_le _, Nat.zero_le _⟩) ?_
  refine W.eq (g2 := F0 m 10 ls [.int (bI (0 ≤ (nI cu) ∧ (nI cu) ≤ (σ 17 0) - 1))]) rfl ?_
  refine lv_if_ne (tgt := 19) hx hb dX6_load_10 (by decide) (fun c_1 => ?_) (fun c_1 => ?_)
  · skip
    have c_1 : (0 ≤ (nI cu) ∧ (nI cu) ≤ (σ 17 0) - 1) := bI_nz.mp c_1
    refine lv_iload_n hx hb dX6_load_19 rfl (lv_at hl 2 rfl) ?_
    refine lv_if_eq (tgt := 34) hx hb dX6_load_20 (by decide) (fun c_2 => ?_) (fun c_2 => ?_)
    · skip
      first | exact absurd c_2 (by assumption) | exact absurd (by assumption) c_2
    · skip
      refine lv_iload_n hx hb dX6_load_23 rfl (lv_at hl 2 rfl) ?_
      refine lv_bipush (v := (-20)) hx hb dX6_load_24 (by decide) ?_
      refine lv_bipush (v := 20) hx hb dX6_load_26 (by decide) ?_
      refine rd_i (va_runS (As := [.int p1, .int (-20), .int 20]) (rest := []) ⟨hx, hb, hml, hown, hts⟩ (M_X6_isIn l D cI p1 (-20) 20 ) (va_cwS 3 hts gX6_load_X6_isIn rfl rfl rfl (by decide +kernel) ⟨Nat.le_of_ble_eq_true rfl, Nat.le_of_ble_eq_true rfl⟩) (rdS hK hP [] [0] rfl rfl) rfl rfl hl.1 rfl (lv_room (Nat.le_of_ble_eq_true rfl)) dX6_load_28 ⟨Nat.zero_le _, Nat.zero_le _⟩) ?_
      refine lv_if_ne (tgt := 40) hx hb dX6_load_31 (by decide) (fun c_3 => ?_) (fun c_3 => ?_)
      · skip
        have c_3 : ((-20) ≤ p1 ∧ p1 ≤ 20) := bI_nz.mp c_3
        refine lv_aload_n hx hb dX6_load_40 rfl (lv_at hl 0 rfl) ?_
        refine va_get (D := D) (ci := 6) (v := .ref (d 0)) (C := RX6) (T := TX6) (N := 8) hx hb hts hiX6 hown hK.1 hP 0 rfl rfl 6 (by decide) (hts (.fieldLink RX6 27 "IceLanesModel" "s" "LIceLanesModel$State;") (by decide +kernel)) (fun _ h9 => h9) rfl dX6_load_41 ?_
        refine lv_iload_n hx hb dX6_load_44 rfl (lv_at hl 1 rfl) ?_
        refine lv_iconst (v := 1) hx hb dX6_load_45 (by decide) ?_
        refine rd_i (va_runV (As := [.int (nI cu), .int 1]) (rest := []) ⟨hx, hb, hml, hown, hts⟩ (M_X5_get l D cI d (b 0) σ cu 1 (by first | assumption | omega) (by first | assumption | omega)) (cwV 2 hts gX6_load_X5_get rfl rfl rfl (by decide +kernel) ⟨Nat.le_of_ble_eq_true rfl, Nat.le_of_ble_eq_true rfl⟩) (rdV hK hP [5, 6, 7, 8] [0] rfl rfl (ci := 5) (q0 := 5) rfl rfl) rfl rfl hl.1 rfl (lv_room (Nat.le_of_ble_eq_true rfl)) dX6_load_46 ⟨Nat.zero_le _, Nat.zero_le _⟩) ?_
        refine W.eq (g2 := F0 m 49 ls [.int (σ 6 cu)]) rfl ?_
        refine lv_iload_n hx hb dX6_load_49 rfl (lv_at hl 2 rfl) ?_
        refine lv_iadd hx hb dX6_load_50 ?_
        refine lv_istore_n (lv' := [(3, .int ((σ 6 cu) + p1)), (0, .ref (b 0)), (1, .int (nI cu)), (2, .int p1)]) hx hb dX6_load_51 rfl hl (by decide) rfl (fun ls hl => ?_)
        refine lv_iconst (v := 3) hx hb dX6_load_52 (by decide) ?_
        refine lv_aload_n hx hb dX6_load_53 rfl (lv_at hl 1 rfl) ?_
        refine va_get (D := D) (ci := 6) (v := .ref (d 0)) (C := RX6) (T := TX6) (N := 8) hx hb hts hiX6 hown hK.1 hP 0 rfl rfl 6 (by decide) (hts (.fieldLink RX6 27 "IceLanesModel" "s" "LIceLanesModel$State;") (by decide +kernel)) (fun _ h9 => h9) rfl dX6_load_54 ?_
        refine lv_iload_n hx hb dX6_load_57 rfl (lv_at hl 2 rfl) ?_
        refine lv_iconst (v := 3) hx hb dX6_load_58 (by decide) ?_
        refine rd_i (va_runV (As := [.int (nI cu), .int 3]) (rest := [.int 3]) ⟨hx, hb, hml, hown, hts⟩ (M_X5_get l D cI d (b 0) σ cu 3 (by first | assumption | omega) (by first | assumption | omega)) (cwV 2 hts gX6_load_X5_get rfl rfl rfl (by decide +kernel) ⟨Nat.le_of_ble_eq_true rfl, Nat.le_of_ble_eq_true rfl⟩) (rdV hK hP [5, 6, 7, 8] [0] rfl rfl (ci := 5) (q0 := 5) rfl rfl) rfl rfl hl.1 rfl (lv_room (Nat.le_of_ble_eq_true rfl)) dX6_load_59 ⟨Nat.zero_le _, Nat.zero_le _⟩) ?_
        refine W.eq (g2 := F0 m 62 ls [.int (σ 8 cu), .int 3]) rfl ?_
        refine lv_imul hx hb dX6_load_62 ?_
        refine lv_aload_n hx hb dX6_load_63 rfl (lv_at hl 1 rfl) ?_
        refine va_get (D := D) (ci := 6) (v := .ref (d 0)) (C := RX6) (T := TX6) (N := 8) hx hb hts hiX6 hown hK.1 hP 0 rfl rfl 6 (by decide) (hts (.fieldLink RX6 27 "IceLanesModel" "s" "LIceLanesModel$State;") (by decide +kernel)) (fun _ h9 => h9) rfl dX6_load_64 ?_
        refine lv_iload_n hx hb dX6_load_67 rfl (lv_at hl 2 rfl) ?_
        refine lv_iconst (v := 4) hx hb dX6_load_68 (by decide) ?_
        refine rd_i (va_runV (As := [.int (nI cu), .int 4]) (rest := [.int (3 * (σ 8 cu))]) ⟨hx, hb, hml, hown, hts⟩ (M_X5_get l D cI d (b 0) σ cu 4 (by first | assumption | omega) (by first | assumption | omega)) (cwV 2 hts gX6_load_X5_get rfl rfl rfl (by decide +kernel) ⟨Nat.le_of_ble_eq_true rfl, Nat.le_of_ble_eq_true rfl⟩) (rdV hK hP [5, 6, 7, 8] [0] rfl rfl (ci := 5) (q0 := 5) rfl rfl) rfl rfl hl.1 rfl (lv_room (Nat.le_of_ble_eq_true rfl)) dX6_load_69 ⟨Nat.zero_le _, Nat.zero_le _⟩) ?_
        refine W.eq (g2 := F0 m 72 ls [.int (σ 9 cu), .int (3 * (σ 8 cu))]) rfl ?_
        refine lv_iadd hx hb dX6_load_72 ?_
        rw [hs8, hs9, pl_nI2]
        refine lv_istore (lv' := [(4, .int (nI (3 * sn + ln))), (3, .int ((σ 6 cu) + p1)), (0, .ref (b 0)), (1, .int (nI cu)), (2, .int p1)]) hx hb dX6_load_73 hl (by decide) rfl (fun ls hl => ?_)
        refine lv_aload_n hx hb dX6_load_75 rfl (lv_at hl 2 rfl) ?_
        refine va_get (D := D) (ci := 6) (v := .ref (d 0)) (C := RX6) (T := TX6) (N := 8) hx hb hts hiX6 hown hK.1 hP 0 rfl rfl 6 (by decide) (hts (.fieldLink RX6 27 "IceLanesModel" "s" "LIceLanesModel$State;") (by decide +kernel)) (fun _ h9 => h9) rfl dX6_load_76 ?_
        refine lv_iload_n hx hb dX6_load_79 rfl (lv_at hl 3 rfl) ?_
        refine lv_bipush (v := 6) hx hb dX6_load_80 (by decide) ?_
        refine rd_i (va_runV (As := [.int (nI cu), .int 6]) (rest := []) ⟨hx, hb, hml, hown, hts⟩ (M_X5_get l D cI d (b 0) σ cu 6 (by first | assumption | omega) (by first | assumption | omega)) (cwV 2 hts gX6_load_X5_get rfl rfl rfl (by decide +kernel) ⟨Nat.le_of_ble_eq_true rfl, Nat.le_of_ble_eq_true rfl⟩) (rdV hK hP [5, 6, 7, 8] [0] rfl rfl (ci := 5) (q0 := 5) rfl rfl) rfl rfl hl.1 rfl (lv_room (Nat.le_of_ble_eq_true rfl)) dX6_load_82 ⟨Nat.zero_le _, Nat.zero_le _⟩) ?_
        refine W.eq (g2 := F0 m 85 ls [.int (σ 11 cu)]) rfl ?_
        refine lv_iconst (v := 3) hx hb dX6_load_85 (by decide) ?_
        refine lv_icmp_eq (tgt := 122) hx hb dX6_load_86 (by decide) (fun c_4 => ?_) (fun c_4 => ?_)
        · skip
          refine lv_aload_n hx hb dX6_load_122 rfl (lv_at hl 2 rfl) ?_
          refine lv_iconst (v := 3) hx hb dX6_load_123 (by decide) ?_
          refine wr_i (wn := wOutE b d d2 cI 3 (ω 19 0) (ω 1) (ω 2) (ω 14) (ω 15) ++ (wSta d (b 0) cI σ ++ wSta d2 (b 0) cI σ2)) (va_runV (As := [.int 3]) (rest := []) ⟨hx, hb, hml, hown, hts⟩ (M_X6_no l D cI b d d2 σ σ2 (put ω 20 (fun _ => 0)) 3 _ ) (cwV 1 hts gX6_load_X6_no rfl rfl rfl (by decide +kernel) ⟨Nat.le_of_ble_eq_true rfl, Nat.le_of_ble_eq_true rfl⟩) (wrV hK hP hD [0, 1, 2, 3, 4, 5, 6, 7, 8, 9, 10, 11, 12] [0] rfl rfl rfl (ci := 6) (q0 := 0) rfl rfl) rfl rfl hl.1 rfl (lv_room (Nat.le_of_ble_eq_true rfl)) dX6_load_124 ⟨Nat.le_of_ble_eq_true rfl, Nat.le_of_ble_eq_true rfl⟩) hP hD hS hA [0, 1, 2, 3, 4, 5, 6, 7, 8, 9, 10, 11, 12] [] [0, 1, 2, 3, 4, 5, 6, 7, 8, 9, 10, 11, 12] rfl rfl rfl rfl rfl rfl (fun H locs hP hD hS => ?_)
          refine W.eq (g2 := F0 m 127 ls [.int 0]) rfl ?_
          subst hQ
          have hP : va_P D vwCl (wMod b d d2 cI σ σ2 (put ω 20 (fun _ => 3))) H := hP
          have hD : va_D A (wMod b d d2 cI σ σ2 (put ω 20 (fun _ => 3))) := hD
          exact ret_wri hx hb hr rfl hlocks hP hD hS (show 0 = 0 from rfl) dX6_load_127
        · skip
          refine lv_iload_n hx hb dX6_load_89 rfl (lv_at hl 1 rfl) ?_
          refine lv_iconst (v := 0) hx hb dX6_load_90 (by decide) ?_
          refine lv_bipush (v := 20) hx hb dX6_load_91 (by decide) ?_
          refine rd_i (va_runS (As := [.int ((σ 6 cu) + p1), .int 0, .int 20]) (rest := []) ⟨hx, hb, hml, hown, hts⟩ (M_X6_isIn l D cI ((σ 6 cu) + p1) 0 20 ) (va_cwS 3 hts gX6_load_X6_isIn rfl rfl rfl (by decide +kernel) ⟨Nat.le_of_ble_eq_true rfl, Nat.le_of_ble_eq_true rfl⟩) (rdS hK hP [] [0] rfl rfl) rfl rfl hl.1 rfl (lv_room (Nat.le_of_ble_eq_true rfl)) dX6_load_93 ⟨Nat.zero_le _, Nat.zero_le _⟩) ?_
          refine lv_if_eq (tgt := 122) hx hb dX6_load_96 (by decide) (fun c_5 => ?_) (fun c_5 => ?_)
          · skip
            have c_5 : ¬ (0 ≤ ((σ 6 cu) + p1) ∧ ((σ 6 cu) + p1) ≤ 20) := bI_z.mp c_5
            refine lv_aload_n hx hb dX6_load_122 rfl (lv_at hl 2 rfl) ?_
            refine lv_iconst (v := 3) hx hb dX6_load_123 (by decide) ?_
            refine wr_i (wn := wOutE b d d2 cI 3 (ω 19 0) (ω 1) (ω 2) (ω 14) (ω 15) ++ (wSta d (b 0) cI σ ++ wSta d2 (b 0) cI σ2)) (va_runV (As := [.int 3]) (rest := []) ⟨hx, hb, hml, hown, hts⟩ (M_X6_no l D cI b d d2 σ σ2 (put ω 20 (fun _ => 0)) 3 _ ) (cwV 1 hts gX6_load_X6_no rfl rfl rfl (by decide +kernel) ⟨Nat.le_of_ble_eq_true rfl, Nat.le_of_ble_eq_true rfl⟩) (wrV hK hP hD [0, 1, 2, 3, 4, 5, 6, 7, 8, 9, 10, 11, 12] [0] rfl rfl rfl (ci := 6) (q0 := 0) rfl rfl) rfl rfl hl.1 rfl (lv_room (Nat.le_of_ble_eq_true rfl)) dX6_load_124 ⟨Nat.le_of_ble_eq_true rfl, Nat.le_of_ble_eq_true rfl⟩) hP hD hS hA [0, 1, 2, 3, 4, 5, 6, 7, 8, 9, 10, 11, 12] [] [0, 1, 2, 3, 4, 5, 6, 7, 8, 9, 10, 11, 12] rfl rfl rfl rfl rfl rfl (fun H locs hP hD hS => ?_)
            refine W.eq (g2 := F0 m 127 ls [.int 0]) rfl ?_
            subst hQ
            have hP : va_P D vwCl (wMod b d d2 cI σ σ2 (put ω 20 (fun _ => 3))) H := hP
            have hD : va_D A (wMod b d d2 cI σ σ2 (put ω 20 (fun _ => 3))) := hD
            exact ret_wri hx hb hr rfl hlocks hP hD hS (show 0 = 0 from rfl) dX6_load_127
          · skip
            have c_5 : (0 ≤ ((σ 6 cu) + p1) ∧ ((σ 6 cu) + p1) ≤ 20) := bI_nz.mp c_5
            refine lv_aload_n hx hb dX6_load_99 rfl (lv_at hl 2 rfl) ?_
            refine va_get (D := D) (ci := 6) (v := .ref (d 0)) (C := RX6) (T := TX6) (N := 8) hx hb hts hiX6 hown hK.1 hP 0 rfl rfl 6 (by decide) (hts (.fieldLink RX6 27 "IceLanesModel" "s" "LIceLanesModel$State;") (by decide +kernel)) (fun _ h9 => h9) rfl dX6_load_100 ?_
            refine lv_iload hx hb dX6_load_103 (lv_at hl 0 rfl) ?_
            refine rd_i (va_runV (As := [.int (nI (3 * sn + ln))]) (rest := []) ⟨hx, hb, hml, hown, hts⟩ (M_X5_holds l D cI d (b 0) σ (3 * sn + ln) (by omega)) (cwV 1 hts gX6_load_X5_holds rfl rfl rfl (by decide +kernel) ⟨Nat.le_of_ble_eq_true rfl, Nat.le_of_ble_eq_true rfl⟩) (rdV hK hP [5, 6, 7, 8] [0] rfl rfl (ci := 5) (q0 := 5) rfl rfl) rfl rfl hl.1 rfl (lv_room (Nat.le_of_ble_eq_true rfl)) dX6_load_105 ⟨Nat.zero_le _, Nat.zero_le _⟩) ?_
            refine lv_aload_n hx hb dX6_load_108 rfl (lv_at hl 2 rfl) ?_
            refine va_get (D := D) (ci := 6) (v := .ref (d 0)) (C := RX6) (T := TX6) (N := 8) hx hb hts hiX6 hown hK.1 hP 0 rfl rfl 6 (by decide) (hts (.fieldLink RX6 27 "IceLanesModel" "s" "LIceLanesModel$State;") (by decide +kernel)) (fun _ h9 => h9) rfl dX6_load_109 ?_
            refine lv_iload_n hx hb dX6_load_112 rfl (lv_at hl 3 rfl) ?_
            refine lv_iconst (v := 0) hx hb dX6_load_113 (by decide) ?_
            refine rd_i (va_runV (As := [.int (nI cu), .int 0]) (rest := [.int (sndP ((σ 3)) ((σ 4)) (nI (3 * sn + ln)))]) ⟨hx, hb, hml, hown, hts⟩ (M_X5_get l D cI d (b 0) σ cu 0 (by first | assumption | omega) (by first | assumption | omega)) (cwV 2 hts gX6_load_X5_get rfl rfl rfl (by decide +kernel) ⟨Nat.le_of_ble_eq_true rfl, Nat.le_of_ble_eq_true rfl⟩) (rdV hK hP [5, 6, 7, 8] [0] rfl rfl (ci := 5) (q0 := 5) rfl rfl) rfl rfl hl.1 rfl (lv_room (Nat.le_of_ble_eq_true rfl)) dX6_load_114 ⟨Nat.zero_le _, Nat.zero_le _⟩) ?_
            refine W.eq (g2 := F0 m 117 ls [.int (σ 5 cu), .int (sndP ((σ 3)) ((σ 4)) (nI (3 * sn + ln)))]) rfl ?_
            refine lv_iload_n hx hb dX6_load_117 rfl (lv_at hl 1 rfl) ?_
            refine lv_iadd hx hb dX6_load_118 ?_
            refine lv_icmp_ge (tgt := 128) hx hb dX6_load_119 (by decide) (fun c_6 => ?_) (fun c_6 => ?_)
            · skip
              exact h4.elim (fun z => absurd z (by assumption)) (fun z => z.elim (fun z => absurd (by assumption) z) (fun z => absurd c_6 z))
            · skip
              refine lv_aload_n hx hb dX6_load_122 rfl (lv_at hl 2 rfl) ?_
              refine lv_iconst (v := 3) hx hb dX6_load_123 (by decide) ?_
              refine wr_i (wn := wOutE b d d2 cI 3 (ω 19 0) (ω 1) (ω 2) (ω 14) (ω 15) ++ (wSta d (b 0) cI σ ++ wSta d2 (b 0) cI σ2)) (va_runV (As := [.int 3]) (rest := []) ⟨hx, hb, hml, hown, hts⟩ (M_X6_no l D cI b d d2 σ σ2 (put ω 20 (fun _ => 0)) 3 _ ) (cwV 1 hts gX6_load_X6_no rfl rfl rfl (by decide +kernel) ⟨Nat.le_of_ble_eq_true rfl, Nat.le_of_ble_eq_true rfl⟩) (wrV hK hP hD [0, 1, 2, 3, 4, 5, 6, 7, 8, 9, 10, 11, 12] [0] rfl rfl rfl (ci := 6) (q0 := 0) rfl rfl) rfl rfl hl.1 rfl (lv_room (Nat.le_of_ble_eq_true rfl)) dX6_load_124 ⟨Nat.le_of_ble_eq_true rfl, Nat.le_of_ble_eq_true rfl⟩) hP hD hS hA [0, 1, 2, 3, 4, 5, 6, 7, 8, 9, 10, 11, 12] [] [0, 1, 2, 3, 4, 5, 6, 7, 8, 9, 10, 11, 12] rfl rfl rfl rfl rfl rfl (fun H locs hP hD hS => ?_)
              refine W.eq (g2 := F0 m 127 ls [.int 0]) rfl ?_
              subst hQ
              have hP : va_P D vwCl (wMod b d d2 cI σ σ2 (put ω 20 (fun _ => 3))) H := hP
              have hD : va_D A (wMod b d d2 cI σ σ2 (put ω 20 (fun _ => 3))) := hD
              exact ret_wri hx hb hr rfl hlocks hP hD hS (show 0 = 0 from rfl) dX6_load_127
      · skip
        have c_3 : ¬ ((-20) ≤ p1 ∧ p1 ≤ 20) := bI_z.mp c_3
        first | exact absurd c_3 (by assumption) | exact absurd (by assumption) c_3
  · skip
    have c_1 : ¬ (0 ≤ (nI cu) ∧ (nI cu) ≤ (σ 17 0) - 1) := bI_z.mp c_1
    first | exact absurd c_1 (by assumption) | exact absurd (by assumption) c_1
set_option maxHeartbeats 4000000 in
set_option maxRecDepth 100000 in
theorem M_X6_load_ok (l : Launch) (D : va_G) (cI : ClassId) (b : Nat → Nat) (d : Nat → Nat) (d2 : Nat → Nat) (σ : St) (σ2 : St) (ω : St) (cu : Nat) (p1 : Int32) (sn : Nat) (ln : Nat) (sz : Nat) (hcu : cu < 8) (h1 : (0 ≤ nI cu ∧ nI cu ≤ σ 17 0 - 1)) (h2 : ¬ p1 = 0) (h3 : ((-20) ≤ p1 ∧ p1 ≤ 20)) (hs8 : σ 8 cu = nI sn) (hs9 : σ 9 cu = nI ln) (hs : sn < 12) (hl9 : ln < 3) (h4 : ¬ σ 11 cu = 3) (h5 : (0 ≤ (σ 6 cu + p1) ∧ (σ 6 cu + p1) ≤ 20)) (h6 : σ 5 cu + (σ 6 cu + p1) ≤ sndP (σ 3) (σ 4) (nI (3 * sn + ln))) : Met l yX6_load wsX6_load ({ frames := 2, cells := 0, slots := 0, locals := 43 } : Room) (wrPc [.ref (b 0), .int (nI cu), .int p1] D (wMod b d d2 cI σ σ2 ω) [(cI, .int)] sz) (wrQi (σ 6 cu + p1) D (wMod b d d2 cI (put σ 6 (upd (σ 6) cu (σ 6 cu + p1))) σ2 (put ω 20 (fun _ => 0))) (va_A (wMod b d d2 cI σ σ2 ω) sz)) 0 0 (va_A (wMod b d d2 cI σ σ2 ω) sz) := by
  refine Met.ofW (cc := cX6_load) (maxL := 5) (ret := (some .int)) (by decide) rfl ?_
  intro p e s m args below meth c s₁ B hml hv
  obtain ⟨hargs, hsz, hP, hK, hD0⟩ := hv
  have hx := B.exec
  have hb := B.bytes
  have hr := B.returns
  have hts := atoms_spec (ws := wsX6_load) B.pre
  have hown : s.vm.findClass RX6 = some m.cls := findClass_of_methodNamed B.named
  have hlocks := B.notSynchronized
  obtain ⟨_, hN⟩ := id hK
  have hiX6 : ∀ w ∈ wsX60, w ∈ wsX6_load := by decide +kernel
  subst hsz
  have hD := hD0.self (sz := s.heap.size)
  generalize hAe : va_A (wMod b d d2 cI σ σ2 ω) s.heap.size = A at hD ⊢
  have hA : ∀ q : Nat, s.heap.size ≤ q → A q := fun q h => by rw [← hAe]; exact Or.inr h
  have hS : va_S A s.heap s.heap [] := va_S.rf
  have hP : va_P D vwCl (wMod b d d2 cI σ σ2 ω) s.heap := hP
  refine my_abs (fun Q hQ => ?_)
  obtain ⟨ls, hl, hent⟩ := my_entry (m := m) (n := 5) hargs (Nat.le_of_ble_eq_true rfl)
  rw [hent]
  have hl : lv_has ls 5 [(0, .ref (b 0)), (1, .int (nI cu)), (2, .int p1)] := hl
  show W p l e ({ frames := 2, cells := 0, slots := 0, locals := 43 } : Room) s m args below meth c s.heap [] 0 0 Q (F0 m 0 ls [])
  refine lv_aload_n hx hb dX6_load_0 rfl (lv_at hl 0 rfl) ?_
  refine lv_iconst (v := 0) hx hb dX6_load_1 (by decide) ?_
  refine va_put (D := D) (ci := 6) (v := .int 0) (ty := .int) (C := RX6) (T := TX6) (N := 8) hx hb hts hiX6 tyX6 tyX6_ok nmX6 hown hK.1 hP hD hS 0 rfl rfl 0 (by decide) (hts (.fieldLink RX6 43 "IceLanesModel" "thrown" "I") (by decide +kernel)) (fun _ h9 => h9) rfl (by decide +kernel) rfl rfl (Nat.le_of_ble_eq_true rfl) dX6_load_2 (fun H locs hP hD hS => ?_)
  have hP : va_P D vwCl (wOutE b d d2 cI 0 (ω 19 0) (ω 1) (ω 2) (ω 14) (ω 15) ++ (wSta d (b 0) cI σ ++ wSta d2 (b 0) cI σ2)) H := hP
  have hD : va_D A (wOutE b d d2 cI 0 (ω 19 0) (ω 1) (ω 2) (ω 14) (ω 15) ++ (wSta d (b 0) cI σ ++ wSta d2 (b 0) cI σ2)) := hD
  refine lv_aload_n hx hb dX6_load_5 rfl (lv_at hl 0 rfl) ?_
  refine lv_iload_n hx hb dX6_load_6 rfl (lv_at hl 1 rfl) ?_
  refine rd_i (va_runV (As := [.int (nI cu)]) (rest := []) ⟨hx, hb, hml, hown, hts⟩ (M_X6_isCourier l D cI b d d2 σ σ2 (put ω 20 (fun _ => 0)) (nI cu) ) (cwV 1 hts gX6_load_X6_isCourier rfl rfl rfl (by decide +kernel) ⟨Nat.le_of_ble_eq_true rfl, Nat.le_of_ble_eq_true rfl⟩) (rdV hK hP [0, 1, 2, 3, 4, 5, 6, 7, 8, 9, 10, 11, 12] [0] rfl rfl (ci := 6) (q0 := 0) rfl rfl) rfl rfl hl.1 rfl (lv_room (Nat.le_of_ble_eq_true rfl)) dX6_load_7 ⟨Nat.zero_le _, Nat.zero_le _⟩) ?_
  refine W.eq (g2 := F0 m 10 ls [.int (bI (0 ≤ (nI cu) ∧ (nI cu) ≤ (σ 17 0) - 1))]) rfl ?_
  refine lv_if_ne (tgt := 19) hx hb dX6_load_10 (by decide) (fun c_1 => ?_) (fun c_1 => ?_)
  · skip
    have c_1 : (0 ≤ (nI cu) ∧ (nI cu) ≤ (σ 17 0) - 1) := bI_nz.mp c_1
    refine lv_iload_n hx hb dX6_load_19 rfl (lv_at hl 2 rfl) ?_
    refine lv_if_eq (tgt := 34) hx hb dX6_load_20 (by decide) (fun c_2 => ?_) (fun c_2 => ?_)
    · skip
      first | exact absurd c_2 (by assumption) | exact absurd (by assumption) c_2
    · skip
      refine lv_iload_n hx hb dX6_load_23 rfl (lv_at hl 2 rfl) ?_
      refine lv_bipush (v := (-20)) hx hb dX6_load_24 (by decide) ?_
      refine lv_bipush (v := 20) hx hb dX6_load_26 (by decide) ?_
      refine rd_i (va_runS (As := [.int p1, .int (-20), .int 20]) (rest := []) ⟨hx, hb, hml, hown, hts⟩ (M_X6_isIn l D cI p1 (-20) 20 ) (va_cwS 3 hts gX6_load_X6_isIn rfl rfl rfl (by decide +kernel) ⟨Nat.le_of_ble_eq_true rfl, Nat.le_of_ble_eq_true rfl⟩) (rdS hK hP [] [0] rfl rfl) rfl rfl hl.1 rfl (lv_room (Nat.le_of_ble_eq_true rfl)) dX6_load_28 ⟨Nat.zero_le _, Nat.zero_le _⟩) ?_
      refine lv_if_ne (tgt := 40) hx hb dX6_load_31 (by decide) (fun c_3 => ?_) (fun c_3 => ?_)
      · skip
        have c_3 : ((-20) ≤ p1 ∧ p1 ≤ 20) := bI_nz.mp c_3
        refine lv_aload_n hx hb dX6_load_40 rfl (lv_at hl 0 rfl) ?_
        refine va_get (D := D) (ci := 6) (v := .ref (d 0)) (C := RX6) (T := TX6) (N := 8) hx hb hts hiX6 hown hK.1 hP 0 rfl rfl 6 (by decide) (hts (.fieldLink RX6 27 "IceLanesModel" "s" "LIceLanesModel$State;") (by decide +kernel)) (fun _ h9 => h9) rfl dX6_load_41 ?_
        refine lv_iload_n hx hb dX6_load_44 rfl (lv_at hl 1 rfl) ?_
        refine lv_iconst (v := 1) hx hb dX6_load_45 (by decide) ?_
        refine rd_i (va_runV (As := [.int (nI cu), .int 1]) (rest := []) ⟨hx, hb, hml, hown, hts⟩ (M_X5_get l D cI d (b 0) σ cu 1 (by first | assumption | omega) (by first | assumption | omega)) (cwV 2 hts gX6_load_X5_get rfl rfl rfl (by decide +kernel) ⟨Nat.le_of_ble_eq_true rfl, Nat.le_of_ble_eq_true rfl⟩) (rdV hK hP [5, 6, 7, 8] [0] rfl rfl (ci := 5) (q0 := 5) rfl rfl) rfl rfl hl.1 rfl (lv_room (Nat.le_of_ble_eq_true rfl)) dX6_load_46 ⟨Nat.zero_le _, Nat.zero_le _⟩) ?_
        refine W.eq (g2 := F0 m 49 ls [.int (σ 6 cu)]) rfl ?_
        refine lv_iload_n hx hb dX6_load_49 rfl (lv_at hl 2 rfl) ?_
        refine lv_iadd hx hb dX6_load_50 ?_
        refine lv_istore_n (lv' := [(3, .int ((σ 6 cu) + p1)), (0, .ref (b 0)), (1, .int (nI cu)), (2, .int p1)]) hx hb dX6_load_51 rfl hl (by decide) rfl (fun ls hl => ?_)
        refine lv_iconst (v := 3) hx hb dX6_load_52 (by decide) ?_
        refine lv_aload_n hx hb dX6_load_53 rfl (lv_at hl 1 rfl) ?_
        refine va_get (D := D) (ci := 6) (v := .ref (d 0)) (C := RX6) (T := TX6) (N := 8) hx hb hts hiX6 hown hK.1 hP 0 rfl rfl 6 (by decide) (hts (.fieldLink RX6 27 "IceLanesModel" "s" "LIceLanesModel$State;") (by decide +kernel)) (fun _ h9 => h9) rfl dX6_load_54 ?_
        refine lv_iload_n hx hb dX6_load_57 rfl (lv_at hl 2 rfl) ?_
        refine lv_iconst (v := 3) hx hb dX6_load_58 (by decide) ?_
        refine rd_i (va_runV (As := [.int (nI cu), .int 3]) (rest := [.int 3]) ⟨hx, hb, hml, hown, hts⟩ (M_X5_get l D cI d (b 0) σ cu 3 (by first | assumption | omega) (by first | assumption | omega)) (cwV 2 hts gX6_load_X5_get rfl rfl rfl (by decide +kernel) ⟨Nat.le_of_ble_eq_true rfl, Nat.le_of_ble_eq_true rfl⟩) (rdV hK hP [5, 6, 7, 8] [0] rfl rfl (ci := 5) (q0 := 5) rfl rfl) rfl rfl hl.1 rfl (lv_room (Nat.le_of_ble_eq_true rfl)) dX6_load_59 ⟨Nat.zero_le _, Nat.zero_le _⟩) ?_
        refine W.eq (g2 := F0 m 62 ls [.int (σ 8 cu), .int 3]) rfl ?_
        refine lv_imul hx hb dX6_load_62 ?_
        refine lv_aload_n hx hb dX6_load_63 rfl (lv_at hl 1 rfl) ?_
        refine va_get (D := D) (ci := 6) (v := .ref (d 0)) (C := RX6) (T := TX6) (N := 8) hx hb hts hiX6 hown hK.1 hP 0 rfl rfl 6 (by decide) (hts (.fieldLink RX6 27 "IceLanesModel" "s" "LIceLanesModel$State;") (by decide +kernel)) (fun _ h9 => h9) rfl dX6_load_64 ?_
        refine lv_iload_n hx hb dX6_load_67 rfl (lv_at hl 2 rfl) ?_
        refine lv_iconst (v := 4) hx hb dX6_load_68 (by decide) ?_
        refine rd_i (va_runV (As := [.int (nI cu), .int 4]) (rest := [.int (3 * (σ 8 cu))]) ⟨hx, hb, hml, hown, hts⟩ (M_X5_get l D cI d (b 0) σ cu 4 (by first | assumption | omega) (by first | assumption | omega)) (cwV 2 hts gX6_load_X5_get rfl rfl rfl (by decide +kernel) ⟨Nat.le_of_ble_eq_true rfl, Nat.le_of_ble_eq_true rfl⟩) (rdV hK hP [5, 6, 7, 8] [0] rfl rfl (ci := 5) (q0 := 5) rfl rfl) rfl rfl hl.1 rfl (lv_room (Nat.le_of_ble_eq_true rfl)) dX6_load_69 ⟨Nat.zero_le _, Nat.zero_le _⟩) ?_
        refine W.eq (g2 := F0 m 72 ls [.int (σ 9 cu), .int (3 * (σ 8 cu))]) rfl ?_
        refine lv_iadd hx hb dX6_load_72 ?_
        rw [hs8, hs9, pl_nI2]
        refine lv_istore (lv' := [(4, .int (nI (3 * sn + ln))), (3, .int ((σ 6 cu) + p1)), (0, .ref (b 0)), (1, .int (nI cu)), (2, .int p1)]) hx hb dX6_load_73 hl (by decide) rfl (fun ls hl => ?_)
        refine lv_aload_n hx hb dX6_load_75 rfl (lv_at hl 2 rfl) ?_
        refine va_get (D := D) (ci := 6) (v := .ref (d 0)) (C := RX6) (T := TX6) (N := 8) hx hb hts hiX6 hown hK.1 hP 0 rfl rfl 6 (by decide) (hts (.fieldLink RX6 27 "IceLanesModel" "s" "LIceLanesModel$State;") (by decide +kernel)) (fun _ h9 => h9) rfl dX6_load_76 ?_
        refine lv_iload_n hx hb dX6_load_79 rfl (lv_at hl 3 rfl) ?_
        refine lv_bipush (v := 6) hx hb dX6_load_80 (by decide) ?_
        refine rd_i (va_runV (As := [.int (nI cu), .int 6]) (rest := []) ⟨hx, hb, hml, hown, hts⟩ (M_X5_get l D cI d (b 0) σ cu 6 (by first | assumption | omega) (by first | assumption | omega)) (cwV 2 hts gX6_load_X5_get rfl rfl rfl (by decide +kernel) ⟨Nat.le_of_ble_eq_true rfl, Nat.le_of_ble_eq_true rfl⟩) (rdV hK hP [5, 6, 7, 8] [0] rfl rfl (ci := 5) (q0 := 5) rfl rfl) rfl rfl hl.1 rfl (lv_room (Nat.le_of_ble_eq_true rfl)) dX6_load_82 ⟨Nat.zero_le _, Nat.zero_le _⟩) ?_
        refine W.eq (g2 := F0 m 85 ls [.int (σ 11 cu)]) rfl ?_
        refine lv_iconst (v := 3) hx hb dX6_load_85 (by decide) ?_
        refine lv_icmp_eq (tgt := 122) hx hb dX6_load_86 (by decide) (fun c_4 => ?_) (fun c_4 => ?_)
        · skip
          first | exact absurd c_4 (by assumption) | exact absurd (by assumption) c_4
        · skip
          refine lv_iload_n hx hb dX6_load_89 rfl (lv_at hl 1 rfl) ?_
          refine lv_iconst (v := 0) hx hb dX6_load_90 (by decide) ?_
          refine lv_bipush (v := 20) hx hb dX6_load_91 (by decide) ?_
          refine rd_i (va_runS (As := [.int ((σ 6 cu) + p1), .int 0, .int 20]) (rest := []) ⟨hx, hb, hml, hown, hts⟩ (M_X6_isIn l D cI ((σ 6 cu) + p1) 0 20 ) (va_cwS 3 hts gX6_load_X6_isIn rfl rfl rfl (by decide +kernel) ⟨Nat.le_of_ble_eq_true rfl, Nat.le_of_ble_eq_true rfl⟩) (rdS hK hP [] [0] rfl rfl) rfl rfl hl.1 rfl (lv_room (Nat.le_of_ble_eq_true rfl)) dX6_load_93 ⟨Nat.zero_le _, Nat.zero_le _⟩) ?_
          refine lv_if_eq (tgt := 122) hx hb dX6_load_96 (by decide) (fun c_5 => ?_) (fun c_5 => ?_)
          · skip
            have c_5 : ¬ (0 ≤ ((σ 6 cu) + p1) ∧ ((σ 6 cu) + p1) ≤ 20) := bI_z.mp c_5
            first | exact absurd c_5 (by assumption) | exact absurd (by assumption) c_5
          · skip
            have c_5 : (0 ≤ ((σ 6 cu) + p1) ∧ ((σ 6 cu) + p1) ≤ 20) := bI_nz.mp c_5
            refine lv_aload_n hx hb dX6_load_99 rfl (lv_at hl 2 rfl) ?_
            refine va_get (D := D) (ci := 6) (v := .ref (d 0)) (C := RX6) (T := TX6) (N := 8) hx hb hts hiX6 hown hK.1 hP 0 rfl rfl 6 (by decide) (hts (.fieldLink RX6 27 "IceLanesModel" "s" "LIceLanesModel$State;") (by decide +kernel)) (fun _ h9 => h9) rfl dX6_load_100 ?_
            refine lv_iload hx hb dX6_load_103 (lv_at hl 0 rfl) ?_
            refine rd_i (va_runV (As := [.int (nI (3 * sn + ln))]) (rest := []) ⟨hx, hb, hml, hown, hts⟩ (M_X5_holds l D cI d (b 0) σ (3 * sn + ln) (by omega)) (cwV 1 hts gX6_load_X5_holds rfl rfl rfl (by decide +kernel) ⟨Nat.le_of_ble_eq_true rfl, Nat.le_of_ble_eq_true rfl⟩) (rdV hK hP [5, 6, 7, 8] [0] rfl rfl (ci := 5) (q0 := 5) rfl rfl) rfl rfl hl.1 rfl (lv_room (Nat.le_of_ble_eq_true rfl)) dX6_load_105 ⟨Nat.zero_le _, Nat.zero_le _⟩) ?_
            refine lv_aload_n hx hb dX6_load_108 rfl (lv_at hl 2 rfl) ?_
            refine va_get (D := D) (ci := 6) (v := .ref (d 0)) (C := RX6) (T := TX6) (N := 8) hx hb hts hiX6 hown hK.1 hP 0 rfl rfl 6 (by decide) (hts (.fieldLink RX6 27 "IceLanesModel" "s" "LIceLanesModel$State;") (by decide +kernel)) (fun _ h9 => h9) rfl dX6_load_109 ?_
            refine lv_iload_n hx hb dX6_load_112 rfl (lv_at hl 3 rfl) ?_
            refine lv_iconst (v := 0) hx hb dX6_load_113 (by decide) ?_
            refine rd_i (va_runV (As := [.int (nI cu), .int 0]) (rest := [.int (sndP ((σ 3)) ((σ 4)) (nI (3 * sn + ln)))]) ⟨hx, hb, hml, hown, hts⟩ (M_X5_get l D cI d (b 0) σ cu 0 (by first | assumption | omega) (by first | assumption | omega)) (cwV 2 hts gX6_load_X5_get rfl rfl rfl (by decide +kernel) ⟨Nat.le_of_ble_eq_true rfl, Nat.le_of_ble_eq_true rfl⟩) (rdV hK hP [5, 6, 7, 8] [0] rfl rfl (ci := 5) (q0 := 5) rfl rfl) rfl rfl hl.1 rfl (lv_room (Nat.le_of_ble_eq_true rfl)) dX6_load_114 ⟨Nat.zero_le _, Nat.zero_le _⟩) ?_
            refine W.eq (g2 := F0 m 117 ls [.int (σ 5 cu), .int (sndP ((σ 3)) ((σ 4)) (nI (3 * sn + ln)))]) rfl ?_
            refine lv_iload_n hx hb dX6_load_117 rfl (lv_at hl 1 rfl) ?_
            refine lv_iadd hx hb dX6_load_118 ?_
            refine lv_icmp_ge (tgt := 128) hx hb dX6_load_119 (by decide) (fun c_6 => ?_) (fun c_6 => ?_)
            · skip
              refine lv_aload_n hx hb dX6_load_128 rfl (lv_at hl 2 rfl) ?_
              refine va_get (D := D) (ci := 6) (v := .ref (d 0)) (C := RX6) (T := TX6) (N := 8) hx hb hts hiX6 hown hK.1 hP 0 rfl rfl 6 (by decide) (hts (.fieldLink RX6 27 "IceLanesModel" "s" "LIceLanesModel$State;") (by decide +kernel)) (fun _ h9 => h9) rfl dX6_load_129 ?_
              refine lv_iload_n hx hb dX6_load_132 rfl (lv_at hl 3 rfl) ?_
              refine lv_iconst (v := 1) hx hb dX6_load_133 (by decide) ?_
              refine lv_iload_n hx hb dX6_load_134 rfl (lv_at hl 1 rfl) ?_
              refine wr_v (wn := wOutE b d d2 cI 0 (ω 19 0) (ω 1) (ω 2) (ω 14) (ω 15) ++ (wStaE d (b 0) cI (σ 0 0) (σ 17 0) (σ 16 0) (σ 18 0) (σ 3) (σ 4) (σ 5) (upd ((σ 6)) cu ((σ 6 cu) + p1)) (σ 7) (σ 8) (σ 9) (σ 10) (σ 11) (σ 12) (σ 13) ++ wSta d2 (b 0) cI σ2)) (va_runV (As := [.int (nI cu), .int 1, .int ((σ 6 cu) + p1)]) (rest := []) ⟨hx, hb, hml, hown, hts⟩ (M_X5_set_1 l D cI d (b 0) σ cu ((σ 6 cu) + p1) _ (by first | assumption | omega)) (cwV 3 hts gX6_load_X5_set rfl rfl rfl (by decide +kernel) ⟨Nat.le_of_ble_eq_true rfl, Nat.le_of_ble_eq_true rfl⟩) (wrV hK hP hD [5, 6, 7, 8] [0] rfl rfl rfl (ci := 5) (q0 := 5) rfl rfl) rfl rfl hl.1 rfl (lv_room (Nat.le_of_ble_eq_true rfl)) dX6_load_135 ⟨Nat.le_of_ble_eq_true rfl, Nat.le_of_ble_eq_true rfl⟩) hP hD hS hA [5, 6, 7, 8] [0, 1, 2, 3, 4, 9, 10, 11, 12] [0, 1, 2, 3, 4, 9, 10, 11, 12, 5, 6, 7, 8] rfl rfl rfl rfl rfl rfl (fun H locs hP hD hS => ?_)
              refine lv_iload_n hx hb dX6_load_138 rfl (lv_at hl 1 rfl) ?_
              subst hQ
              have hP : va_P D vwCl (wMod b d d2 cI (put σ 6 (upd ((σ 6)) cu ((σ 6 cu) + p1))) σ2 (put ω 20 (fun _ => 0))) H := hP
              have hD : va_D A (wMod b d d2 cI (put σ 6 (upd ((σ 6)) cu ((σ 6 cu) + p1))) σ2 (put ω 20 (fun _ => 0))) := hD
              have k_6 : (upd ((σ 6)) cu ((σ 6 cu) + p1) : Nat → Int32) = (upd (σ 6) cu (σ 6 cu + p1)) := by rfl
              have hst_s : put σ 6 (upd ((σ 6)) cu ((σ 6 cu) + p1)) = put σ 6 (upd (σ 6) cu (σ 6 cu + p1)) := put_cg rfl k_6
              rw [hst_s] at hP hD
              have hP : va_P D vwCl (wMod b d d2 cI (put σ 6 (upd (σ 6) cu (σ 6 cu + p1))) σ2 (put ω 20 (fun _ => 0))) H := hP
              have hD : va_D A (wMod b d d2 cI (put σ 6 (upd (σ 6) cu (σ 6 cu + p1))) σ2 (put ω 20 (fun _ => 0))) := hD
              exact ret_wri hx hb hr rfl hlocks hP hD hS (show (σ 6 cu) + p1 = (σ 6 cu + p1) from rfl) dX6_load_139
            · skip
              first | exact absurd c_6 (by assumption) | exact absurd (by assumption) c_6
      · skip
        have c_3 : ¬ ((-20) ≤ p1 ∧ p1 ≤ 20) := bI_z.mp c_3
        first | exact absurd c_3 (by assumption) | exact absurd (by assumption) c_3
  · skip
    have c_1 : ¬ (0 ≤ (nI cu) ∧ (nI cu) ≤ (σ 17 0) - 1) := bI_z.mp c_1
    first | exact absurd c_1 (by assumption) | exact absurd (by assumption) c_1
set_option maxHeartbeats 4000000 in
set_option maxRecDepth 100000 in
theorem M_X6_courier_e1 (l : Launch) (D : va_G) (cI : ClassId) (b : Nat → Nat) (d : Nat → Nat) (d2 : Nat → Nat) (σ : St) (σ2 : St) (ω : St) (p0 : Int32) (p1 : Int32) (sz : Nat) (h1 : ¬ ((0 ≤ p0 ∧ p0 ≤ σ 17 0 - 1) ∧ (0 ≤ p1 ∧ p1 ≤ 8))) : Met l yX6_courier wsX6_courier ({ frames := 2, cells := 0, slots := 0, locals := 43 } : Room) (wrPc [.ref (b 0), .int p0, .int p1] D (wMod b d d2 cI σ σ2 ω) [(cI, .int)] sz) (wrQi 0 D (wMod b d d2 cI σ σ2 (put ω 20 (fun _ => 1))) (va_A (wMod b d d2 cI σ σ2 ω) sz)) 0 0 (va_A (wMod b d d2 cI σ σ2 ω) sz) := by
  refine Met.ofW (cc := cX6_courier) (maxL := 3) (ret := (some .int)) (by decide) rfl ?_
  intro p e s m args below meth c s₁ B hml hv
  obtain ⟨hargs, hsz, hP, hK, hD0⟩ := hv
  have hx := B.exec
  have hb := B.bytes
  have hr := B.returns
  have hts := atoms_spec (ws := wsX6_courier) B.pre
  have hown : s.vm.findClass RX6 = some m.cls := findClass_of_methodNamed B.named
  have hlocks := B.notSynchronized
  obtain ⟨_, hN⟩ := id hK
  have hiX6 : ∀ w ∈ wsX60, w ∈ wsX6_courier := by decide +kernel
  subst hsz
  have hD := hD0.self (sz := s.heap.size)
  generalize hAe : va_A (wMod b d d2 cI σ σ2 ω) s.heap.size = A at hD ⊢
  have hA : ∀ q : Nat, s.heap.size ≤ q → A q := fun q h => by rw [← hAe]; exact Or.inr h
  have hS : va_S A s.heap s.heap [] := va_S.rf
  have hP : va_P D vwCl (wMod b d d2 cI σ σ2 ω) s.heap := hP
  refine my_abs (fun Q hQ => ?_)
  obtain ⟨ls, hl, hent⟩ := my_entry (m := m) (n := 3) hargs (Nat.le_of_ble_eq_true rfl)
  rw [hent]
  have hl : lv_has ls 3 [(0, .ref (b 0)), (1, .int p0), (2, .int p1)] := hl
  show W p l e ({ frames := 2, cells := 0, slots := 0, locals := 43 } : Room) s m args below meth c s.heap [] 0 0 Q (F0 m 0 ls [])
  refine lv_aload_n hx hb dX6_courier_0 rfl (lv_at hl 0 rfl) ?_
  refine lv_iconst (v := 0) hx hb dX6_courier_1 (by decide) ?_
  refine va_put (D := D) (ci := 6) (v := .int 0) (ty := .int) (C := RX6) (T := TX6) (N := 8) hx hb hts hiX6 tyX6 tyX6_ok nmX6 hown hK.1 hP hD hS 0 rfl rfl 0 (by decide) (hts (.fieldLink RX6 43 "IceLanesModel" "thrown" "I") (by decide +kernel)) (fun _ h9 => h9) rfl (by decide +kernel) rfl rfl (Nat.le_of_ble_eq_true rfl) dX6_courier_2 (fun H locs hP hD hS => ?_)
  have hP : va_P D vwCl (wOutE b d d2 cI 0 (ω 19 0) (ω 1) (ω 2) (ω 14) (ω 15) ++ (wSta d (b 0) cI σ ++ wSta d2 (b 0) cI σ2)) H := hP
  have hD : va_D A (wOutE b d d2 cI 0 (ω 19 0) (ω 1) (ω 2) (ω 14) (ω 15) ++ (wSta d (b 0) cI σ ++ wSta d2 (b 0) cI σ2)) := hD
  refine lv_aload_n hx hb dX6_courier_5 rfl (lv_at hl 0 rfl) ?_
  refine lv_iload_n hx hb dX6_courier_6 rfl (lv_at hl 1 rfl) ?_
  refine rd_i (va_runV (As := [.int p0]) (rest := []) ⟨hx, hb, hml, hown, hts⟩ (M_X6_isCourier l D cI b d d2 σ σ2 (put ω 20 (fun _ => 0)) p0 ) (cwV 1 hts gX6_courier_X6_isCourier rfl rfl rfl (by decide +kernel) ⟨Nat.le_of_ble_eq_true rfl, Nat.le_of_ble_eq_true rfl⟩) (rdV hK hP [0, 1, 2, 3, 4, 5, 6, 7, 8, 9, 10, 11, 12] [0] rfl rfl (ci := 6) (q0 := 0) rfl rfl) rfl rfl hl.1 rfl (lv_room (Nat.le_of_ble_eq_true rfl)) dX6_courier_7 ⟨Nat.zero_le _, Nat.zero_le _⟩) ?_
  refine W.eq (g2 := F0 m 10 ls [.int (bI (0 ≤ p0 ∧ p0 ≤ (σ 17 0) - 1))]) rfl ?_
  refine lv_if_eq (tgt := 35) hx hb dX6_courier_10 (by decide) (fun c_1 => ?_) (fun c_1 => ?_)
  · skip
    have c_1 : ¬ (0 ≤ p0 ∧ p0 ≤ (σ 17 0) - 1) := bI_z.mp c_1
    refine lv_aload_n hx hb dX6_courier_35 rfl (lv_at hl 0 rfl) ?_
    refine lv_iconst (v := 1) hx hb dX6_courier_36 (by decide) ?_
    refine wr_i (wn := wOutE b d d2 cI 1 (ω 19 0) (ω 1) (ω 2) (ω 14) (ω 15) ++ (wSta d (b 0) cI σ ++ wSta d2 (b 0) cI σ2)) (va_runV (As := [.int 1]) (rest := []) ⟨hx, hb, hml, hown, hts⟩ (M_X6_no l D cI b d d2 σ σ2 (put ω 20 (fun _ => 0)) 1 _ ) (cwV 1 hts gX6_courier_X6_no rfl rfl rfl (by decide +kernel) ⟨Nat.le_of_ble_eq_true rfl, Nat.le_of_ble_eq_true rfl⟩) (wrV hK hP hD [0, 1, 2, 3, 4, 5, 6, 7, 8, 9, 10, 11, 12] [0] rfl rfl rfl (ci := 6) (q0 := 0) rfl rfl) rfl rfl hl.1 rfl (lv_room (Nat.le_of_ble_eq_true rfl)) dX6_courier_37 ⟨Nat.le_of_ble_eq_true rfl, Nat.le_of_ble_eq_true rfl⟩) hP hD hS hA [0, 1, 2, 3, 4, 5, 6, 7, 8, 9, 10, 11, 12] [] [0, 1, 2, 3, 4, 5, 6, 7, 8, 9, 10, 11, 12] rfl rfl rfl rfl rfl rfl (fun H locs hP hD hS => ?_)
    refine W.eq (g2 := F0 m 40 ls [.int 0]) rfl ?_
    subst hQ
    have hP : va_P D vwCl (wMod b d d2 cI σ σ2 (put ω 20 (fun _ => 1))) H := hP
    have hD : va_D A (wMod b d d2 cI σ σ2 (put ω 20 (fun _ => 1))) := hD
    exact ret_wri hx hb hr rfl hlocks hP hD hS (show 0 = 0 from rfl) dX6_courier_40
  · skip
    have c_1 : (0 ≤ p0 ∧ p0 ≤ (σ 17 0) - 1) := bI_nz.mp c_1
    refine lv_iload_n hx hb dX6_courier_13 rfl (lv_at hl 2 rfl) ?_
    refine lv_iconst (v := 0) hx hb dX6_courier_14 (by decide) ?_
    refine lv_bipush (v := 8) hx hb dX6_courier_15 (by decide) ?_
    refine rd_i (va_runS (As := [.int p1, .int 0, .int 8]) (rest := []) ⟨hx, hb, hml, hown, hts⟩ (M_X6_isIn l D cI p1 0 8 ) (va_cwS 3 hts gX6_courier_X6_isIn rfl rfl rfl (by decide +kernel) ⟨Nat.le_of_ble_eq_true rfl, Nat.le_of_ble_eq_true rfl⟩) (rdS hK hP [] [0] rfl rfl) rfl rfl hl.1 rfl (lv_room (Nat.le_of_ble_eq_true rfl)) dX6_courier_17 ⟨Nat.zero_le _, Nat.zero_le _⟩) ?_
    refine lv_if_eq (tgt := 35) hx hb dX6_courier_20 (by decide) (fun c_2 => ?_) (fun c_2 => ?_)
    · skip
      have c_2 : ¬ (0 ≤ p1 ∧ p1 ≤ 8) := bI_z.mp c_2
      refine lv_aload_n hx hb dX6_courier_35 rfl (lv_at hl 0 rfl) ?_
      refine lv_iconst (v := 1) hx hb dX6_courier_36 (by decide) ?_
      refine wr_i (wn := wOutE b d d2 cI 1 (ω 19 0) (ω 1) (ω 2) (ω 14) (ω 15) ++ (wSta d (b 0) cI σ ++ wSta d2 (b 0) cI σ2)) (va_runV (As := [.int 1]) (rest := []) ⟨hx, hb, hml, hown, hts⟩ (M_X6_no l D cI b d d2 σ σ2 (put ω 20 (fun _ => 0)) 1 _ ) (cwV 1 hts gX6_courier_X6_no rfl rfl rfl (by decide +kernel) ⟨Nat.le_of_ble_eq_true rfl, Nat.le_of_ble_eq_true rfl⟩) (wrV hK hP hD [0, 1, 2, 3, 4, 5, 6, 7, 8, 9, 10, 11, 12] [0] rfl rfl rfl (ci := 6) (q0 := 0) rfl rfl) rfl rfl hl.1 rfl (lv_room (Nat.le_of_ble_eq_true rfl)) dX6_courier_37 ⟨Nat.le_of_ble_eq_true rfl, Nat.le_of_ble_eq_true rfl⟩) hP hD hS hA [0, 1, 2, 3, 4, 5, 6, 7, 8, 9, 10, 11, 12] [] [0, 1, 2, 3, 4, 5, 6, 7, 8, 9, 10, 11, 12] rfl rfl rfl rfl rfl rfl (fun H locs hP hD hS => ?_)
      refine W.eq (g2 := F0 m 40 ls [.int 0]) rfl ?_
      subst hQ
      have hP : va_P D vwCl (wMod b d d2 cI σ σ2 (put ω 20 (fun _ => 1))) H := hP
      have hD : va_D A (wMod b d d2 cI σ σ2 (put ω 20 (fun _ => 1))) := hD
      exact ret_wri hx hb hr rfl hlocks hP hD hS (show 0 = 0 from rfl) dX6_courier_40
    · skip
      have c_2 : (0 ≤ p1 ∧ p1 ≤ 8) := bI_nz.mp c_2
      exact absurd ⟨by assumption, c_2⟩ h1
set_option maxHeartbeats 4000000 in
set_option maxRecDepth 100000 in
theorem M_X6_courier_ok (l : Launch) (D : va_G) (cI : ClassId) (b : Nat → Nat) (d : Nat → Nat) (d2 : Nat → Nat) (σ : St) (σ2 : St) (ω : St) (cu : Nat) (w : Nat) (sz : Nat) (hcu : cu < 8) (h1 : (0 ≤ nI cu ∧ nI cu ≤ σ 17 0 - 1)) (h2 : (0 ≤ nI w ∧ nI w ≤ 8)) (hw : w < 9) : Met l yX6_courier wsX6_courier ({ frames := 2, cells := 0, slots := 0, locals := 43 } : Room) (wrPc [.ref (b 0), .int (nI cu), .int (nI w)] D (wMod b d d2 cI σ σ2 ω) [(cI, .int)] sz) (wrQi (tellF σ cu w) D (wMod b d d2 cI σ σ2 (put ω 20 (fun _ => 0))) (va_A (wMod b d d2 cI σ σ2 ω) sz)) 0 0 (va_A (wMod b d d2 cI σ σ2 ω) sz) := by
  refine Met.ofW (cc := cX6_courier) (maxL := 3) (ret := (some .int)) (by decide) rfl ?_
  intro p e s m args below meth c s₁ B hml hv
  obtain ⟨hargs, hsz, hP, hK, hD0⟩ := hv
  have hx := B.exec
  have hb := B.bytes
  have hr := B.returns
  have hts := atoms_spec (ws := wsX6_courier) B.pre
  have hown : s.vm.findClass RX6 = some m.cls := findClass_of_methodNamed B.named
  have hlocks := B.notSynchronized
  obtain ⟨_, hN⟩ := id hK
  have hiX6 : ∀ w ∈ wsX60, w ∈ wsX6_courier := by decide +kernel
  subst hsz
  have hD := hD0.self (sz := s.heap.size)
  generalize hAe : va_A (wMod b d d2 cI σ σ2 ω) s.heap.size = A at hD ⊢
  have hA : ∀ q : Nat, s.heap.size ≤ q → A q := fun q h => by rw [← hAe]; exact Or.inr h
  have hS : va_S A s.heap s.heap [] := va_S.rf
  have hP : va_P D vwCl (wMod b d d2 cI σ σ2 ω) s.heap := hP
  refine my_abs (fun Q hQ => ?_)
  obtain ⟨ls, hl, hent⟩ := my_entry (m := m) (n := 3) hargs (Nat.le_of_ble_eq_true rfl)
  rw [hent]
  have hl : lv_has ls 3 [(0, .ref (b 0)), (1, .int (nI cu)), (2, .int (nI w))] := hl
  show W p l e ({ frames := 2, cells := 0, slots := 0, locals := 43 } : Room) s m args below meth c s.heap [] 0 0 Q (F0 m 0 ls [])
  refine lv_aload_n hx hb dX6_courier_0 rfl (lv_at hl 0 rfl) ?_
  refine lv_iconst (v := 0) hx hb dX6_courier_1 (by decide) ?_
  refine va_put (D := D) (ci := 6) (v := .int 0) (ty := .int) (C := RX6) (T := TX6) (N := 8) hx hb hts hiX6 tyX6 tyX6_ok nmX6 hown hK.1 hP hD hS 0 rfl rfl 0 (by decide) (hts (.fieldLink RX6 43 "IceLanesModel" "thrown" "I") (by decide +kernel)) (fun _ h9 => h9) rfl (by decide +kernel) rfl rfl (Nat.le_of_ble_eq_true rfl) dX6_courier_2 (fun H locs hP hD hS => ?_)
  have hP : va_P D vwCl (wOutE b d d2 cI 0 (ω 19 0) (ω 1) (ω 2) (ω 14) (ω 15) ++ (wSta d (b 0) cI σ ++ wSta d2 (b 0) cI σ2)) H := hP
  have hD : va_D A (wOutE b d d2 cI 0 (ω 19 0) (ω 1) (ω 2) (ω 14) (ω 15) ++ (wSta d (b 0) cI σ ++ wSta d2 (b 0) cI σ2)) := hD
  refine lv_aload_n hx hb dX6_courier_5 rfl (lv_at hl 0 rfl) ?_
  refine lv_iload_n hx hb dX6_courier_6 rfl (lv_at hl 1 rfl) ?_
  refine rd_i (va_runV (As := [.int (nI cu)]) (rest := []) ⟨hx, hb, hml, hown, hts⟩ (M_X6_isCourier l D cI b d d2 σ σ2 (put ω 20 (fun _ => 0)) (nI cu) ) (cwV 1 hts gX6_courier_X6_isCourier rfl rfl rfl (by decide +kernel) ⟨Nat.le_of_ble_eq_true rfl, Nat.le_of_ble_eq_true rfl⟩) (rdV hK hP [0, 1, 2, 3, 4, 5, 6, 7, 8, 9, 10, 11, 12] [0] rfl rfl (ci := 6) (q0 := 0) rfl rfl) rfl rfl hl.1 rfl (lv_room (Nat.le_of_ble_eq_true rfl)) dX6_courier_7 ⟨Nat.zero_le _, Nat.zero_le _⟩) ?_
  refine W.eq (g2 := F0 m 10 ls [.int (bI (0 ≤ (nI cu) ∧ (nI cu) ≤ (σ 17 0) - 1))]) rfl ?_
  refine lv_if_eq (tgt := 35) hx hb dX6_courier_10 (by decide) (fun c_1 => ?_) (fun c_1 => ?_)
  · skip
    have c_1 : ¬ (0 ≤ (nI cu) ∧ (nI cu) ≤ (σ 17 0) - 1) := bI_z.mp c_1
    first | exact absurd c_1 (by assumption) | exact absurd (by assumption) c_1
  · skip
    have c_1 : (0 ≤ (nI cu) ∧ (nI cu) ≤ (σ 17 0) - 1) := bI_nz.mp c_1
    refine lv_iload_n hx hb dX6_courier_13 rfl (lv_at hl 2 rfl) ?_
    refine lv_iconst (v := 0) hx hb dX6_courier_14 (by decide) ?_
    refine lv_bipush (v := 8) hx hb dX6_courier_15 (by decide) ?_
    refine rd_i (va_runS (As := [.int (nI w), .int 0, .int 8]) (rest := []) ⟨hx, hb, hml, hown, hts⟩ (M_X6_isIn l D cI (nI w) 0 8 ) (va_cwS 3 hts gX6_courier_X6_isIn rfl rfl rfl (by decide +kernel) ⟨Nat.le_of_ble_eq_true rfl, Nat.le_of_ble_eq_true rfl⟩) (rdS hK hP [] [0] rfl rfl) rfl rfl hl.1 rfl (lv_room (Nat.le_of_ble_eq_true rfl)) dX6_courier_17 ⟨Nat.zero_le _, Nat.zero_le _⟩) ?_
    refine lv_if_eq (tgt := 35) hx hb dX6_courier_20 (by decide) (fun c_2 => ?_) (fun c_2 => ?_)
    · skip
      have c_2 : ¬ (0 ≤ (nI w) ∧ (nI w) ≤ 8) := bI_z.mp c_2
      first | exact absurd c_2 (by assumption) | exact absurd (by assumption) c_2
    · skip
      have c_2 : (0 ≤ (nI w) ∧ (nI w) ≤ 8) := bI_nz.mp c_2
      refine lv_aload_n hx hb dX6_courier_23 rfl (lv_at hl 0 rfl) ?_
      refine va_get (D := D) (ci := 6) (v := .ref (d 0)) (C := RX6) (T := TX6) (N := 8) hx hb hts hiX6 hown hK.1 hP 0 rfl rfl 6 (by decide) (hts (.fieldLink RX6 27 "IceLanesModel" "s" "LIceLanesModel$State;") (by decide +kernel)) (fun _ h9 => h9) rfl dX6_courier_24 ?_
      refine lv_iload_n hx hb dX6_courier_27 rfl (lv_at hl 1 rfl) ?_
      refine lv_iload_n hx hb dX6_courier_28 rfl (lv_at hl 2 rfl) ?_
      refine rd_i (va_runV (As := [.int (nI cu), .int (nI w)]) (rest := []) ⟨hx, hb, hml, hown, hts⟩ (M_X5_get l D cI d (b 0) σ cu w (by first | assumption | omega) (by first | assumption | omega)) (cwV 2 hts gX6_courier_X5_get rfl rfl rfl (by decide +kernel) ⟨Nat.le_of_ble_eq_true rfl, Nat.le_of_ble_eq_true rfl⟩) (rdV hK hP [5, 6, 7, 8] [0] rfl rfl (ci := 5) (q0 := 5) rfl rfl) rfl rfl hl.1 rfl (lv_room (Nat.le_of_ble_eq_true rfl)) dX6_courier_29 ⟨Nat.zero_le _, Nat.zero_le _⟩) ?_
      refine lv_goto (tgt := 40) hx hb dX6_courier_32 (by decide) ?_
      subst hQ
      have hP : va_P D vwCl (wMod b d d2 cI σ σ2 (put ω 20 (fun _ => 0))) H := hP
      have hD : va_D A (wMod b d d2 cI σ σ2 (put ω 20 (fun _ => 0))) := hD
      exact ret_wri hx hb hr rfl hlocks hP hD hS (show tellF σ cu w = tellF σ cu w from rfl) dX6_courier_40
set_option maxHeartbeats 4000000 in
set_option maxRecDepth 100000 in
theorem M_X6_wager_e1 (l : Launch) (D : va_G) (cI : ClassId) (b : Nat → Nat) (d : Nat → Nat) (d2 : Nat → Nat) (σ : St) (σ2 : St) (ω : St) (p0 : Int32) (p1 : Int32) (sz : Nat) (h1 : ¬ ((0 ≤ p0 ∧ p0 ≤ 500) ∧ (1 ≤ p1 ∧ p1 ≤ 100))) : Met l yX6_wager wsX6_wager ({ frames := 1, cells := 0, slots := 0, locals := 22 } : Room) (wrPc [.ref (b 0), .int p0, .int p1] D (wMod b d d2 cI σ σ2 ω) [(cI, .int)] sz) (wrQi 0 D (wMod b d d2 cI σ σ2 (put ω 20 (fun _ => 1))) (va_A (wMod b d d2 cI σ σ2 ω) sz)) 0 0 (va_A (wMod b d d2 cI σ σ2 ω) sz) := by
  refine Met.ofW (cc := cX6_wager) (maxL := 3) (ret := (some .int)) (by decide) rfl ?_
  intro p e s m args below meth c s₁ B hml hv
  obtain ⟨hargs, hsz, hP, hK, hD0⟩ := hv
  have hx := B.exec
  have hb := B.bytes
  have hr := B.returns
  have hts := atoms_spec (ws := wsX6_wager) B.pre
  have hown : s.vm.findClass RX6 = some m.cls := findClass_of_methodNamed B.named
  have hlocks := B.notSynchronized
  obtain ⟨_, hN⟩ := id hK
  have hiX6 : ∀ w ∈ wsX60, w ∈ wsX6_wager := by decide +kernel
  subst hsz
  have hD := hD0.self (sz := s.heap.size)
  generalize hAe : va_A (wMod b d d2 cI σ σ2 ω) s.heap.size = A at hD ⊢
  have hA : ∀ q : Nat, s.heap.size ≤ q → A q := fun q h => by rw [← hAe]; exact Or.inr h
  have hS : va_S A s.heap s.heap [] := va_S.rf
  have hP : va_P D vwCl (wMod b d d2 cI σ σ2 ω) s.heap := hP
  refine my_abs (fun Q hQ => ?_)
  obtain ⟨ls, hl, hent⟩ := my_entry (m := m) (n := 3) hargs (Nat.le_of_ble_eq_true rfl)
  rw [hent]
  have hl : lv_has ls 3 [(0, .ref (b 0)), (1, .int p0), (2, .int p1)] := hl
  show W p l e ({ frames := 1, cells := 0, slots := 0, locals := 22 } : Room) s m args below meth c s.heap [] 0 0 Q (F0 m 0 ls [])
  refine lv_aload_n hx hb dX6_wager_0 rfl (lv_at hl 0 rfl) ?_
  refine lv_iconst (v := 0) hx hb dX6_wager_1 (by decide) ?_
  refine va_put (D := D) (ci := 6) (v := .int 0) (ty := .int) (C := RX6) (T := TX6) (N := 8) hx hb hts hiX6 tyX6 tyX6_ok nmX6 hown hK.1 hP hD hS 0 rfl rfl 0 (by decide) (hts (.fieldLink RX6 43 "IceLanesModel" "thrown" "I") (by decide +kernel)) (fun _ h9 => h9) rfl (by decide +kernel) rfl rfl (Nat.le_of_ble_eq_true rfl) dX6_wager_2 (fun H locs hP hD hS => ?_)
  have hP : va_P D vwCl (wOutE b d d2 cI 0 (ω 19 0) (ω 1) (ω 2) (ω 14) (ω 15) ++ (wSta d (b 0) cI σ ++ wSta d2 (b 0) cI σ2)) H := hP
  have hD : va_D A (wOutE b d d2 cI 0 (ω 19 0) (ω 1) (ω 2) (ω 14) (ω 15) ++ (wSta d (b 0) cI σ ++ wSta d2 (b 0) cI σ2)) := hD
  refine lv_iload_n hx hb dX6_wager_5 rfl (lv_at hl 1 rfl) ?_
  refine lv_iconst (v := 0) hx hb dX6_wager_6 (by decide) ?_
  refine lv_sipush (v := 500) hx hb dX6_wager_7 (by decide) ?_
  refine rd_i (va_runS (As := [.int p0, .int 0, .int 500]) (rest := []) ⟨hx, hb, hml, hown, hts⟩ (M_X6_isIn l D cI p0 0 500 ) (va_cwS 3 hts gX6_wager_X6_isIn rfl rfl rfl (by decide +kernel) ⟨Nat.le_of_ble_eq_true rfl, Nat.le_of_ble_eq_true rfl⟩) (rdS hK hP [] [0] rfl rfl) rfl rfl hl.1 rfl (lv_room (Nat.le_of_ble_eq_true rfl)) dX6_wager_10 ⟨Nat.zero_le _, Nat.zero_le _⟩) ?_
  refine lv_if_eq (tgt := 26) hx hb dX6_wager_13 (by decide) (fun c_1 => ?_) (fun c_1 => ?_)
  · skip
    have c_1 : ¬ (0 ≤ p0 ∧ p0 ≤ 500) := bI_z.mp c_1
    refine lv_aload_n hx hb dX6_wager_26 rfl (lv_at hl 0 rfl) ?_
    refine lv_iconst (v := 1) hx hb dX6_wager_27 (by decide) ?_
    refine wr_i (wn := wOutE b d d2 cI 1 (ω 19 0) (ω 1) (ω 2) (ω 14) (ω 15) ++ (wSta d (b 0) cI σ ++ wSta d2 (b 0) cI σ2)) (va_runV (As := [.int 1]) (rest := []) ⟨hx, hb, hml, hown, hts⟩ (M_X6_no l D cI b d d2 σ σ2 (put ω 20 (fun _ => 0)) 1 _ ) (cwV 1 hts gX6_wager_X6_no rfl rfl rfl (by decide +kernel) ⟨Nat.le_of_ble_eq_true rfl, Nat.le_of_ble_eq_true rfl⟩) (wrV hK hP hD [0, 1, 2, 3, 4, 5, 6, 7, 8, 9, 10, 11, 12] [0] rfl rfl rfl (ci := 6) (q0 := 0) rfl rfl) rfl rfl hl.1 rfl (lv_room (Nat.le_of_ble_eq_true rfl)) dX6_wager_28 ⟨Nat.le_of_ble_eq_true rfl, Nat.le_of_ble_eq_true rfl⟩) hP hD hS hA [0, 1, 2, 3, 4, 5, 6, 7, 8, 9, 10, 11, 12] [] [0, 1, 2, 3, 4, 5, 6, 7, 8, 9, 10, 11, 12] rfl rfl rfl rfl rfl rfl (fun H locs hP hD hS => ?_)
    refine W.eq (g2 := F0 m 31 ls [.int 0]) rfl ?_
    subst hQ
    have hP : va_P D vwCl (wMod b d d2 cI σ σ2 (put ω 20 (fun _ => 1))) H := hP
    have hD : va_D A (wMod b d d2 cI σ σ2 (put ω 20 (fun _ => 1))) := hD
    exact ret_wri hx hb hr rfl hlocks hP hD hS (show 0 = 0 from rfl) dX6_wager_31
  · skip
    have c_1 : (0 ≤ p0 ∧ p0 ≤ 500) := bI_nz.mp c_1
    refine lv_iload_n hx hb dX6_wager_16 rfl (lv_at hl 2 rfl) ?_
    refine lv_iconst (v := 1) hx hb dX6_wager_17 (by decide) ?_
    refine lv_bipush (v := 100) hx hb dX6_wager_18 (by decide) ?_
    refine rd_i (va_runS (As := [.int p1, .int 1, .int 100]) (rest := []) ⟨hx, hb, hml, hown, hts⟩ (M_X6_isIn l D cI p1 1 100 ) (va_cwS 3 hts gX6_wager_X6_isIn rfl rfl rfl (by decide +kernel) ⟨Nat.le_of_ble_eq_true rfl, Nat.le_of_ble_eq_true rfl⟩) (rdS hK hP [] [0] rfl rfl) rfl rfl hl.1 rfl (lv_room (Nat.le_of_ble_eq_true rfl)) dX6_wager_20 ⟨Nat.zero_le _, Nat.zero_le _⟩) ?_
    refine lv_if_ne (tgt := 32) hx hb dX6_wager_23 (by decide) (fun c_2 => ?_) (fun c_2 => ?_)
    · skip
      have c_2 : (1 ≤ p1 ∧ p1 ≤ 100) := bI_nz.mp c_2
      exact absurd ⟨by assumption, c_2⟩ h1
    · skip
      have c_2 : ¬ (1 ≤ p1 ∧ p1 ≤ 100) := bI_z.mp c_2
      refine lv_aload_n hx hb dX6_wager_26 rfl (lv_at hl 0 rfl) ?_
      refine lv_iconst (v := 1) hx hb dX6_wager_27 (by decide) ?_
      refine wr_i (wn := wOutE b d d2 cI 1 (ω 19 0) (ω 1) (ω 2) (ω 14) (ω 15) ++ (wSta d (b 0) cI σ ++ wSta d2 (b 0) cI σ2)) (va_runV (As := [.int 1]) (rest := []) ⟨hx, hb, hml, hown, hts⟩ (M_X6_no l D cI b d d2 σ σ2 (put ω 20 (fun _ => 0)) 1 _ ) (cwV 1 hts gX6_wager_X6_no rfl rfl rfl (by decide +kernel) ⟨Nat.le_of_ble_eq_true rfl, Nat.le_of_ble_eq_true rfl⟩) (wrV hK hP hD [0, 1, 2, 3, 4, 5, 6, 7, 8, 9, 10, 11, 12] [0] rfl rfl rfl (ci := 6) (q0 := 0) rfl rfl) rfl rfl hl.1 rfl (lv_room (Nat.le_of_ble_eq_true rfl)) dX6_wager_28 ⟨Nat.le_of_ble_eq_true rfl, Nat.le_of_ble_eq_true rfl⟩) hP hD hS hA [0, 1, 2, 3, 4, 5, 6, 7, 8, 9, 10, 11, 12] [] [0, 1, 2, 3, 4, 5, 6, 7, 8, 9, 10, 11, 12] rfl rfl rfl rfl rfl rfl (fun H locs hP hD hS => ?_)
      refine W.eq (g2 := F0 m 31 ls [.int 0]) rfl ?_
      subst hQ
      have hP : va_P D vwCl (wMod b d d2 cI σ σ2 (put ω 20 (fun _ => 1))) H := hP
      have hD : va_D A (wMod b d d2 cI σ σ2 (put ω 20 (fun _ => 1))) := hD
      exact ret_wri hx hb hr rfl hlocks hP hD hS (show 0 = 0 from rfl) dX6_wager_31
set_option maxHeartbeats 4000000 in
set_option maxRecDepth 100000 in
theorem M_X6_wager_e2 (l : Launch) (D : va_G) (cI : ClassId) (b : Nat → Nat) (d : Nat → Nat) (d2 : Nat → Nat) (σ : St) (σ2 : St) (ω : St) (p0 : Int32) (p1 : Int32) (sz : Nat) (h1 : (0 ≤ p0 ∧ p0 ≤ 500)) (h2 : (1 ≤ p1 ∧ p1 ≤ 100)) (h3 : ω 19 0 = 12 ∨ ¬ σ 16 0 = -1) : Met l yX6_wager wsX6_wager ({ frames := 1, cells := 0, slots := 0, locals := 22 } : Room) (wrPc [.ref (b 0), .int p0, .int p1] D (wMod b d d2 cI σ σ2 ω) [(cI, .int)] sz) (wrQi 0 D (wMod b d d2 cI σ σ2 (put ω 20 (fun _ => 2))) (va_A (wMod b d d2 cI σ σ2 ω) sz)) 0 0 (va_A (wMod b d d2 cI σ σ2 ω) sz) := by
  refine Met.ofW (cc := cX6_wager) (maxL := 3) (ret := (some .int)) (by decide) rfl ?_
  intro p e s m args below meth c s₁ B hml hv
  obtain ⟨hargs, hsz, hP, hK, hD0⟩ := hv
  have hx := B.exec
  have hb := B.bytes
  have hr := B.returns
  have hts := atoms_spec (ws := wsX6_wager) B.pre
  have hown : s.vm.findClass RX6 = some m.cls := findClass_of_methodNamed B.named
  have hlocks := B.notSynchronized
  obtain ⟨_, hN⟩ := id hK
  have hiX5 : ∀ w ∈ wsX50, w ∈ wsX6_wager := by decide +kernel
  have hiX6 : ∀ w ∈ wsX60, w ∈ wsX6_wager := by decide +kernel
  subst hsz
  have hD := hD0.self (sz := s.heap.size)
  generalize hAe : va_A (wMod b d d2 cI σ σ2 ω) s.heap.size = A at hD ⊢
  have hA : ∀ q : Nat, s.heap.size ≤ q → A q := fun q h => by rw [← hAe]; exact Or.inr h
  have hS : va_S A s.heap s.heap [] := va_S.rf
  have hP : va_P D vwCl (wMod b d d2 cI σ σ2 ω) s.heap := hP
  refine my_abs (fun Q hQ => ?_)
  obtain ⟨ls, hl, hent⟩ := my_entry (m := m) (n := 3) hargs (Nat.le_of_ble_eq_true rfl)
  rw [hent]
  have hl : lv_has ls 3 [(0, .ref (b 0)), (1, .int p0), (2, .int p1)] := hl
  show W p l e ({ frames := 1, cells := 0, slots := 0, locals := 22 } : Room) s m args below meth c s.heap [] 0 0 Q (F0 m 0 ls [])
  refine lv_aload_n hx hb dX6_wager_0 rfl (lv_at hl 0 rfl) ?_
  refine lv_iconst (v := 0) hx hb dX6_wager_1 (by decide) ?_
  refine va_put (D := D) (ci := 6) (v := .int 0) (ty := .int) (C := RX6) (T := TX6) (N := 8) hx hb hts hiX6 tyX6 tyX6_ok nmX6 hown hK.1 hP hD hS 0 rfl rfl 0 (by decide) (hts (.fieldLink RX6 43 "IceLanesModel" "thrown" "I") (by decide +kernel)) (fun _ h9 => h9) rfl (by decide +kernel) rfl rfl (Nat.le_of_ble_eq_true rfl) dX6_wager_2 (fun H locs hP hD hS => ?_)
  have hP : va_P D vwCl (wOutE b d d2 cI 0 (ω 19 0) (ω 1) (ω 2) (ω 14) (ω 15) ++ (wSta d (b 0) cI σ ++ wSta d2 (b 0) cI σ2)) H := hP
  have hD : va_D A (wOutE b d d2 cI 0 (ω 19 0) (ω 1) (ω 2) (ω 14) (ω 15) ++ (wSta d (b 0) cI σ ++ wSta d2 (b 0) cI σ2)) := hD
  refine lv_iload_n hx hb dX6_wager_5 rfl (lv_at hl 1 rfl) ?_
  refine lv_iconst (v := 0) hx hb dX6_wager_6 (by decide) ?_
  refine lv_sipush (v := 500) hx hb dX6_wager_7 (by decide) ?_
  refine rd_i (va_runS (As := [.int p0, .int 0, .int 500]) (rest := []) ⟨hx, hb, hml, hown, hts⟩ (M_X6_isIn l D cI p0 0 500 ) (va_cwS 3 hts gX6_wager_X6_isIn rfl rfl rfl (by decide +kernel) ⟨Nat.le_of_ble_eq_true rfl, Nat.le_of_ble_eq_true rfl⟩) (rdS hK hP [] [0] rfl rfl) rfl rfl hl.1 rfl (lv_room (Nat.le_of_ble_eq_true rfl)) dX6_wager_10 ⟨Nat.zero_le _, Nat.zero_le _⟩) ?_
  refine lv_if_eq (tgt := 26) hx hb dX6_wager_13 (by decide) (fun c_1 => ?_) (fun c_1 => ?_)
  · skip
    have c_1 : ¬ (0 ≤ p0 ∧ p0 ≤ 500) := bI_z.mp c_1
    first | exact absurd c_1 (by assumption) | exact absurd (by assumption) c_1
  · skip
    have c_1 : (0 ≤ p0 ∧ p0 ≤ 500) := bI_nz.mp c_1
    refine lv_iload_n hx hb dX6_wager_16 rfl (lv_at hl 2 rfl) ?_
    refine lv_iconst (v := 1) hx hb dX6_wager_17 (by decide) ?_
    refine lv_bipush (v := 100) hx hb dX6_wager_18 (by decide) ?_
    refine rd_i (va_runS (As := [.int p1, .int 1, .int 100]) (rest := []) ⟨hx, hb, hml, hown, hts⟩ (M_X6_isIn l D cI p1 1 100 ) (va_cwS 3 hts gX6_wager_X6_isIn rfl rfl rfl (by decide +kernel) ⟨Nat.le_of_ble_eq_true rfl, Nat.le_of_ble_eq_true rfl⟩) (rdS hK hP [] [0] rfl rfl) rfl rfl hl.1 rfl (lv_room (Nat.le_of_ble_eq_true rfl)) dX6_wager_20 ⟨Nat.zero_le _, Nat.zero_le _⟩) ?_
    refine lv_if_ne (tgt := 32) hx hb dX6_wager_23 (by decide) (fun c_2 => ?_) (fun c_2 => ?_)
    · skip
      have c_2 : (1 ≤ p1 ∧ p1 ≤ 100) := bI_nz.mp c_2
      refine lv_aload_n hx hb dX6_wager_32 rfl (lv_at hl 0 rfl) ?_
      refine va_get (D := D) (ci := 6) (v := .int (ω 19 0)) (C := RX6) (T := TX6) (N := 8) hx hb hts hiX6 hown hK.1 hP 0 rfl rfl 3 (by decide) (hts (.fieldLink RX6 107 "IceLanesModel" "wagers" "I") (by decide +kernel)) (fun _ h9 => h9) rfl dX6_wager_33 ?_
      refine lv_bipush (v := 12) hx hb dX6_wager_36 (by decide) ?_
      refine lv_icmp_eq (tgt := 52) hx hb dX6_wager_38 (by decide) (fun c_3 => ?_) (fun c_3 => ?_)
      · skip
        refine lv_aload_n hx hb dX6_wager_52 rfl (lv_at hl 0 rfl) ?_
        refine lv_iconst (v := 2) hx hb dX6_wager_53 (by decide) ?_
        refine wr_i (wn := wOutE b d d2 cI 2 (ω 19 0) (ω 1) (ω 2) (ω 14) (ω 15) ++ (wSta d (b 0) cI σ ++ wSta d2 (b 0) cI σ2)) (va_runV (As := [.int 2]) (rest := []) ⟨hx, hb, hml, hown, hts⟩ (M_X6_no l D cI b d d2 σ σ2 (put ω 20 (fun _ => 0)) 2 _ ) (cwV 1 hts gX6_wager_X6_no rfl rfl rfl (by decide +kernel) ⟨Nat.le_of_ble_eq_true rfl, Nat.le_of_ble_eq_true rfl⟩) (wrV hK hP hD [0, 1, 2, 3, 4, 5, 6, 7, 8, 9, 10, 11, 12] [0] rfl rfl rfl (ci := 6) (q0 := 0) rfl rfl) rfl rfl hl.1 rfl (lv_room (Nat.le_of_ble_eq_true rfl)) dX6_wager_54 ⟨Nat.le_of_ble_eq_true rfl, Nat.le_of_ble_eq_true rfl⟩) hP hD hS hA [0, 1, 2, 3, 4, 5, 6, 7, 8, 9, 10, 11, 12] [] [0, 1, 2, 3, 4, 5, 6, 7, 8, 9, 10, 11, 12] rfl rfl rfl rfl rfl rfl (fun H locs hP hD hS => ?_)
        refine W.eq (g2 := F0 m 57 ls [.int 0]) rfl ?_
        subst hQ
        have hP : va_P D vwCl (wMod b d d2 cI σ σ2 (put ω 20 (fun _ => 2))) H := hP
        have hD : va_D A (wMod b d d2 cI σ σ2 (put ω 20 (fun _ => 2))) := hD
        exact ret_wri hx hb hr rfl hlocks hP hD hS (show 0 = 0 from rfl) dX6_wager_57
      · skip
        refine lv_aload_n hx hb dX6_wager_41 rfl (lv_at hl 0 rfl) ?_
        refine va_get (D := D) (ci := 6) (v := .ref (d 0)) (C := RX6) (T := TX6) (N := 8) hx hb hts hiX6 hown hK.1 hP 0 rfl rfl 6 (by decide) (hts (.fieldLink RX6 27 "IceLanesModel" "s" "LIceLanesModel$State;") (by decide +kernel)) (fun _ h9 => h9) rfl dX6_wager_42 ?_
        refine va_getN (D := D) (ci := 5) (v := .int (σ 16 0)) (C := RX5) (T := TX5) (N := 8) hx hb hts hiX5 hown hK.1 hP 5 rfl rfl 2 (by decide) (va_Nw.use rfl (nX6_110 hN)) (fun _ h9 => h9) rfl dX6_wager_45 ?_
        refine lv_iconst (v := (-1)) hx hb dX6_wager_48 (by decide) ?_
        refine lv_icmp_eq (tgt := 58) hx hb dX6_wager_49 (by decide) (fun c_4 => ?_) (fun c_4 => ?_)
        · skip
          exact h3.elim (fun z => absurd z (by assumption)) (fun z => absurd c_4 z)
        · skip
          refine lv_aload_n hx hb dX6_wager_52 rfl (lv_at hl 0 rfl) ?_
          refine lv_iconst (v := 2) hx hb dX6_wager_53 (by decide) ?_
          refine wr_i (wn := wOutE b d d2 cI 2 (ω 19 0) (ω 1) (ω 2) (ω 14) (ω 15) ++ (wSta d (b 0) cI σ ++ wSta d2 (b 0) cI σ2)) (va_runV (As := [.int 2]) (rest := []) ⟨hx, hb, hml, hown, hts⟩ (M_X6_no l D cI b d d2 σ σ2 (put ω 20 (fun _ => 0)) 2 _ ) (cwV 1 hts gX6_wager_X6_no rfl rfl rfl (by decide +kernel) ⟨Nat.le_of_ble_eq_true rfl, Nat.le_of_ble_eq_true rfl⟩) (wrV hK hP hD [0, 1, 2, 3, 4, 5, 6, 7, 8, 9, 10, 11, 12] [0] rfl rfl rfl (ci := 6) (q0 := 0) rfl rfl) rfl rfl hl.1 rfl (lv_room (Nat.le_of_ble_eq_true rfl)) dX6_wager_54 ⟨Nat.le_of_ble_eq_true rfl, Nat.le_of_ble_eq_true rfl⟩) hP hD hS hA [0, 1, 2, 3, 4, 5, 6, 7, 8, 9, 10, 11, 12] [] [0, 1, 2, 3, 4, 5, 6, 7, 8, 9, 10, 11, 12] rfl rfl rfl rfl rfl rfl (fun H locs hP hD hS => ?_)
          refine W.eq (g2 := F0 m 57 ls [.int 0]) rfl ?_
          subst hQ
          have hP : va_P D vwCl (wMod b d d2 cI σ σ2 (put ω 20 (fun _ => 2))) H := hP
          have hD : va_D A (wMod b d d2 cI σ σ2 (put ω 20 (fun _ => 2))) := hD
          exact ret_wri hx hb hr rfl hlocks hP hD hS (show 0 = 0 from rfl) dX6_wager_57
    · skip
      have c_2 : ¬ (1 ≤ p1 ∧ p1 ≤ 100) := bI_z.mp c_2
      first | exact absurd c_2 (by assumption) | exact absurd (by assumption) c_2
set_option maxHeartbeats 4000000 in
set_option maxRecDepth 100000 in
theorem M_X6_wager_ok (l : Launch) (D : va_G) (cI : ClassId) (b : Nat → Nat) (d : Nat → Nat) (d2 : Nat → Nat) (σ : St) (σ2 : St) (ω : St) (p0 : Int32) (p1 : Int32) (nw : Nat) (sz : Nat) (h1 : (0 ≤ p0 ∧ p0 ≤ 500)) (h2 : (1 ≤ p1 ∧ p1 ≤ 100)) (hnw : ω 19 0 = nI nw) (hw12 : nw < 12) (h3 : σ 16 0 = -1) : Met l yX6_wager wsX6_wager ({ frames := 1, cells := 0, slots := 0, locals := 22 } : Room) (wrPc [.ref (b 0), .int p0, .int p1] D (wMod b d d2 cI σ σ2 ω) [(cI, .int)] sz) (wrQi (nI nw) D (wMod b d d2 cI σ σ2 (put (put (put (put ω 14 (upd (ω 14) nw p0)) 15 (upd (ω 15) nw p1)) 19 (fun _ => nI (nw + 1))) 20 (fun _ => 0))) (va_A (wMod b d d2 cI σ σ2 ω) sz)) 0 0 (va_A (wMod b d d2 cI σ σ2 ω) sz) := by
  refine Met.ofW (cc := cX6_wager) (maxL := 3) (ret := (some .int)) (by decide) rfl ?_
  intro p e s m args below meth c s₁ B hml hv
  obtain ⟨hargs, hsz, hP, hK, hD0⟩ := hv
  have hx := B.exec
  have hb := B.bytes
  have hr := B.returns
  have hts := atoms_spec (ws := wsX6_wager) B.pre
  have hown : s.vm.findClass RX6 = some m.cls := findClass_of_methodNamed B.named
  have hlocks := B.notSynchronized
  obtain ⟨_, hN⟩ := id hK
  have hiX5 : ∀ w ∈ wsX50, w ∈ wsX6_wager := by decide +kernel
  have hiX6 : ∀ w ∈ wsX60, w ∈ wsX6_wager := by decide +kernel
  subst hsz
  have hD := hD0.self (sz := s.heap.size)
  generalize hAe : va_A (wMod b d d2 cI σ σ2 ω) s.heap.size = A at hD ⊢
  have hA : ∀ q : Nat, s.heap.size ≤ q → A q := fun q h => by rw [← hAe]; exact Or.inr h
  have hS : va_S A s.heap s.heap [] := va_S.rf
  have hP : va_P D vwCl (wMod b d d2 cI σ σ2 ω) s.heap := hP
  refine my_abs (fun Q hQ => ?_)
  obtain ⟨ls, hl, hent⟩ := my_entry (m := m) (n := 3) hargs (Nat.le_of_ble_eq_true rfl)
  rw [hent]
  have hl : lv_has ls 3 [(0, .ref (b 0)), (1, .int p0), (2, .int p1)] := hl
  show W p l e ({ frames := 1, cells := 0, slots := 0, locals := 22 } : Room) s m args below meth c s.heap [] 0 0 Q (F0 m 0 ls [])
  refine lv_aload_n hx hb dX6_wager_0 rfl (lv_at hl 0 rfl) ?_
  refine lv_iconst (v := 0) hx hb dX6_wager_1 (by decide) ?_
  refine va_put (D := D) (ci := 6) (v := .int 0) (ty := .int) (C := RX6) (T := TX6) (N := 8) hx hb hts hiX6 tyX6 tyX6_ok nmX6 hown hK.1 hP hD hS 0 rfl rfl 0 (by decide) (hts (.fieldLink RX6 43 "IceLanesModel" "thrown" "I") (by decide +kernel)) (fun _ h9 => h9) rfl (by decide +kernel) rfl rfl (Nat.le_of_ble_eq_true rfl) dX6_wager_2 (fun H locs hP hD hS => ?_)
  have hP : va_P D vwCl (wOutE b d d2 cI 0 (ω 19 0) (ω 1) (ω 2) (ω 14) (ω 15) ++ (wSta d (b 0) cI σ ++ wSta d2 (b 0) cI σ2)) H := hP
  have hD : va_D A (wOutE b d d2 cI 0 (ω 19 0) (ω 1) (ω 2) (ω 14) (ω 15) ++ (wSta d (b 0) cI σ ++ wSta d2 (b 0) cI σ2)) := hD
  refine lv_iload_n hx hb dX6_wager_5 rfl (lv_at hl 1 rfl) ?_
  refine lv_iconst (v := 0) hx hb dX6_wager_6 (by decide) ?_
  refine lv_sipush (v := 500) hx hb dX6_wager_7 (by decide) ?_
  refine rd_i (va_runS (As := [.int p0, .int 0, .int 500]) (rest := []) ⟨hx, hb, hml, hown, hts⟩ (M_X6_isIn l D cI p0 0 500 ) (va_cwS 3 hts gX6_wager_X6_isIn rfl rfl rfl (by decide +kernel) ⟨Nat.le_of_ble_eq_true rfl, Nat.le_of_ble_eq_true rfl⟩) (rdS hK hP [] [0] rfl rfl) rfl rfl hl.1 rfl (lv_room (Nat.le_of_ble_eq_true rfl)) dX6_wager_10 ⟨Nat.zero_le _, Nat.zero_le _⟩) ?_
  refine lv_if_eq (tgt := 26) hx hb dX6_wager_13 (by decide) (fun c_1 => ?_) (fun c_1 => ?_)
  · skip
    have c_1 : ¬ (0 ≤ p0 ∧ p0 ≤ 500) := bI_z.mp c_1
    first | exact absurd c_1 (by assumption) | exact absurd (by assumption) c_1
  · skip
    have c_1 : (0 ≤ p0 ∧ p0 ≤ 500) := bI_nz.mp c_1
    refine lv_iload_n hx hb dX6_wager_16 rfl (lv_at hl 2 rfl) ?_
    refine lv_iconst (v := 1) hx hb dX6_wager_17 (by decide) ?_
    refine lv_bipush (v := 100) hx hb dX6_wager_18 (by decide) ?_
    refine rd_i (va_runS (As := [.int p1, .int 1, .int 100]) (rest := []) ⟨hx, hb, hml, hown, hts⟩ (M_X6_isIn l D cI p1 1 100 ) (va_cwS 3 hts gX6_wager_X6_isIn rfl rfl rfl (by decide +kernel) ⟨Nat.le_of_ble_eq_true rfl, Nat.le_of_ble_eq_true rfl⟩) (rdS hK hP [] [0] rfl rfl) rfl rfl hl.1 rfl (lv_room (Nat.le_of_ble_eq_true rfl)) dX6_wager_20 ⟨Nat.zero_le _, Nat.zero_le _⟩) ?_
    refine lv_if_ne (tgt := 32) hx hb dX6_wager_23 (by decide) (fun c_2 => ?_) (fun c_2 => ?_)
    · skip
      have c_2 : (1 ≤ p1 ∧ p1 ≤ 100) := bI_nz.mp c_2
      refine lv_aload_n hx hb dX6_wager_32 rfl (lv_at hl 0 rfl) ?_
      refine va_get (D := D) (ci := 6) (v := .int (ω 19 0)) (C := RX6) (T := TX6) (N := 8) hx hb hts hiX6 hown hK.1 hP 0 rfl rfl 3 (by decide) (hts (.fieldLink RX6 107 "IceLanesModel" "wagers" "I") (by decide +kernel)) (fun _ h9 => h9) rfl dX6_wager_33 ?_
      refine lv_bipush (v := 12) hx hb dX6_wager_36 (by decide) ?_
      refine lv_icmp_eq (tgt := 52) hx hb dX6_wager_38 (by decide) (fun c_3 => ?_) (fun c_3 => ?_)
      · skip
        exact absurd (hnw.symm.trans c_3) (fun z => absurd ((nI_eq (a := nw) (b := 12) (by omega) (by omega)).mp z) (by omega))
      · skip
        refine lv_aload_n hx hb dX6_wager_41 rfl (lv_at hl 0 rfl) ?_
        refine va_get (D := D) (ci := 6) (v := .ref (d 0)) (C := RX6) (T := TX6) (N := 8) hx hb hts hiX6 hown hK.1 hP 0 rfl rfl 6 (by decide) (hts (.fieldLink RX6 27 "IceLanesModel" "s" "LIceLanesModel$State;") (by decide +kernel)) (fun _ h9 => h9) rfl dX6_wager_42 ?_
        refine va_getN (D := D) (ci := 5) (v := .int (σ 16 0)) (C := RX5) (T := TX5) (N := 8) hx hb hts hiX5 hown hK.1 hP 5 rfl rfl 2 (by decide) (va_Nw.use rfl (nX6_110 hN)) (fun _ h9 => h9) rfl dX6_wager_45 ?_
        refine lv_iconst (v := (-1)) hx hb dX6_wager_48 (by decide) ?_
        refine lv_icmp_eq (tgt := 58) hx hb dX6_wager_49 (by decide) (fun c_4 => ?_) (fun c_4 => ?_)
        · skip
          refine lv_aload_n hx hb dX6_wager_58 rfl (lv_at hl 0 rfl) ?_
          refine va_get (D := D) (ci := 6) (v := .ref (b 3)) (C := RX6) (T := TX6) (N := 8) hx hb hts hiX6 hown hK.1 hP 0 rfl rfl 4 (by decide) (hts (.fieldLink RX6 16 "IceLanesModel" "day" "[I") (by decide +kernel)) (fun _ h9 => h9) rfl dX6_wager_59 ?_
          refine lv_aload_n hx hb dX6_wager_62 rfl (lv_at hl 0 rfl) ?_
          refine va_get (D := D) (ci := 6) (v := .int (ω 19 0)) (C := RX6) (T := TX6) (N := 8) hx hb hts hiX6 hown hK.1 hP 0 rfl rfl 3 (by decide) (hts (.fieldLink RX6 107 "IceLanesModel" "wagers" "I") (by decide +kernel)) (fun _ h9 => h9) rfl dX6_wager_63 ?_
          rw [hnw]
          refine lv_iload_n hx hb dX6_wager_66 rfl (lv_at hl 1 rfl) ?_
          refine va_iast hx hb hK.1 hP hD hS 3 0 rfl rfl (by first | assumption | exact vp_in_nI (by omega) (by decide)) dX6_wager_67 (fun H locs hP hD hS => ?_)
          rw [nI_clamp (n := nw) (by omega)] at hP hD
          have hP : va_P D vwCl (wOutE b d d2 cI 0 (ω 19 0) (ω 1) (ω 2) (upd (ω 14) nw p0) (ω 15) ++ (wSta d (b 0) cI σ ++ wSta d2 (b 0) cI σ2)) H := hP
          have hD : va_D A (wOutE b d d2 cI 0 (ω 19 0) (ω 1) (ω 2) (upd (ω 14) nw p0) (ω 15) ++ (wSta d (b 0) cI σ ++ wSta d2 (b 0) cI σ2)) := hD
          refine lv_aload_n hx hb dX6_wager_68 rfl (lv_at hl 0 rfl) ?_
          refine va_get (D := D) (ci := 6) (v := .ref (b 4)) (C := RX6) (T := TX6) (N := 8) hx hb hts hiX6 hown hK.1 hP 0 rfl rfl 5 (by decide) (hts (.fieldLink RX6 19 "IceLanesModel" "stake" "[I") (by decide +kernel)) (fun _ h9 => h9) rfl dX6_wager_69 ?_
          refine lv_aload_n hx hb dX6_wager_72 rfl (lv_at hl 0 rfl) ?_
          refine va_get (D := D) (ci := 6) (v := .int (ω 19 0)) (C := RX6) (T := TX6) (N := 8) hx hb hts hiX6 hown hK.1 hP 0 rfl rfl 3 (by decide) (hts (.fieldLink RX6 107 "IceLanesModel" "wagers" "I") (by decide +kernel)) (fun _ h9 => h9) rfl dX6_wager_73 ?_
          rw [hnw]
          refine lv_iload_n hx hb dX6_wager_76 rfl (lv_at hl 2 rfl) ?_
          refine va_iast hx hb hK.1 hP hD hS 4 0 rfl rfl (by first | assumption | exact vp_in_nI (by omega) (by decide)) dX6_wager_77 (fun H locs hP hD hS => ?_)
          rw [nI_clamp (n := nw) (by omega)] at hP hD
          have hP : va_P D vwCl (wOutE b d d2 cI 0 (ω 19 0) (ω 1) (ω 2) (upd (ω 14) nw p0) (upd (ω 15) nw p1) ++ (wSta d (b 0) cI σ ++ wSta d2 (b 0) cI σ2)) H := hP
          have hD : va_D A (wOutE b d d2 cI 0 (ω 19 0) (ω 1) (ω 2) (upd (ω 14) nw p0) (upd (ω 15) nw p1) ++ (wSta d (b 0) cI σ ++ wSta d2 (b 0) cI σ2)) := hD
          refine lv_aload_n hx hb dX6_wager_78 rfl (lv_at hl 0 rfl) ?_
          refine lv_dup hx hb dX6_wager_79 rfl ?_
          refine va_get (D := D) (ci := 6) (v := .int (ω 19 0)) (C := RX6) (T := TX6) (N := 8) hx hb hts hiX6 hown hK.1 hP 0 rfl rfl 3 (by decide) (hts (.fieldLink RX6 107 "IceLanesModel" "wagers" "I") (by decide +kernel)) (fun _ h9 => h9) rfl dX6_wager_80 ?_
          rw [hnw]
          refine lv_iconst (v := 1) hx hb dX6_wager_83 (by decide) ?_
          refine lv_iadd hx hb dX6_wager_84 ?_
          rw [show nI nw + 1 = nI (nw + 1) from nI_1 nw]
          refine va_put (D := D) (ci := 6) (v := .int (nI (nw + 1))) (ty := .int) (C := RX6) (T := TX6) (N := 8) hx hb hts hiX6 tyX6 tyX6_ok nmX6 hown hK.1 hP hD hS 0 rfl rfl 3 (by decide) (hts (.fieldLink RX6 107 "IceLanesModel" "wagers" "I") (by decide +kernel)) (fun _ h9 => h9) rfl (by decide +kernel) rfl rfl (Nat.le_of_ble_eq_true rfl) dX6_wager_85 (fun H locs hP hD hS => ?_)
          have hP : va_P D vwCl (wOutE b d d2 cI 0 (nI (nw + 1)) (ω 1) (ω 2) (upd (ω 14) nw p0) (upd (ω 15) nw p1) ++ (wSta d (b 0) cI σ ++ wSta d2 (b 0) cI σ2)) H := hP
          have hD : va_D A (wOutE b d d2 cI 0 (nI (nw + 1)) (ω 1) (ω 2) (upd (ω 14) nw p0) (upd (ω 15) nw p1) ++ (wSta d (b 0) cI σ ++ wSta d2 (b 0) cI σ2)) := hD
          refine lv_aload_n hx hb dX6_wager_88 rfl (lv_at hl 0 rfl) ?_
          refine va_get (D := D) (ci := 6) (v := .int (nI (nw + 1))) (C := RX6) (T := TX6) (N := 8) hx hb hts hiX6 hown hK.1 hP 0 rfl rfl 3 (by decide) (hts (.fieldLink RX6 107 "IceLanesModel" "wagers" "I") (by decide +kernel)) (fun _ h9 => h9) rfl dX6_wager_89 ?_
          refine W.eq (g2 := F0 m 92 ls [.int (nI (nw + 1))]) rfl ?_
          refine lv_iconst (v := 1) hx hb dX6_wager_92 (by decide) ?_
          refine lv_isub hx hb dX6_wager_93 ?_
          rw [show nI (nw + 1) - 1 = nI nw from nI_pred nw]
          subst hQ
          have hP : va_P D vwCl (wMod b d d2 cI σ σ2 (put (put (put (put ω 14 (upd (ω 14) nw p0)) 15 (upd (ω 15) nw p1)) 19 (fun _ => nI (nw + 1))) 20 (fun _ => 0))) H := hP
          have hD : va_D A (wMod b d d2 cI σ σ2 (put (put (put (put ω 14 (upd (ω 14) nw p0)) 15 (upd (ω 15) nw p1)) 19 (fun _ => nI (nw + 1))) 20 (fun _ => 0))) := hD
          exact ret_wri hx hb hr rfl hlocks hP hD hS (show nI nw = nI nw from rfl) dX6_wager_94
        · skip
          first | exact absurd c_4 (by assumption) | exact absurd (by assumption) c_4
    · skip
      have c_2 : ¬ (1 ≤ p1 ∧ p1 ≤ 100) := bI_z.mp c_2
      first | exact absurd c_2 (by assumption) | exact absurd (by assumption) c_2
set_option maxHeartbeats 4000000 in
set_option maxRecDepth 100000 in
theorem M_X6_won (l : Launch) (D : va_G) (cI : ClassId) (b : Nat → Nat) (d : Nat → Nat) (d2 : Nat → Nat) (σ : St) (σ2 : St) (ω : St) (wg : Nat) (nw : Nat) (hnw : ω 19 0 = nI nw) (hw12 : nw ≤ 12) (hwg : wg < nw) : Met l yX6_won wsX6_won ({ frames := 1, cells := 0, slots := 0, locals := 22 } : Room) (rdPc [.ref (b 0), .int (nI wg)] D (wMod b d d2 cI σ σ2 ω) [(cI, .int)]) (rdQi (wonF σ ω nw wg)) 0 0 (fun _ => False) := by
  refine Met.ofW (cc := cX6_won) (maxL := 6) (ret := (some .int)) (by decide) rfl ?_
  intro p e s m args below meth c s₁ B hml hv
  obtain ⟨hargs, hP, hK⟩ := hv
  have hx := B.exec
  have hb := B.bytes
  have hr := B.returns
  have hts := atoms_spec (ws := wsX6_won) B.pre
  have hown : s.vm.findClass RX6 = some m.cls := findClass_of_methodNamed B.named
  have hlocks := B.notSynchronized
  obtain ⟨_, hN⟩ := id hK
  have hiX5 : ∀ w ∈ wsX50, w ∈ wsX6_won := by decide +kernel
  have hiX6 : ∀ w ∈ wsX60, w ∈ wsX6_won := by decide +kernel
  refine my_abs (fun Q hQ => ?_)
  obtain ⟨ls, hl, hent⟩ := my_entry (m := m) (n := 6) hargs (Nat.le_of_ble_eq_true rfl)
  rw [hent]
  have hl : lv_has ls 6 [(0, .ref (b 0)), (1, .int (nI wg))] := hl
  show W p l e ({ frames := 1, cells := 0, slots := 0, locals := 22 } : Room) s m args below meth c s.heap [] 0 0 Q (F0 m 0 ls [])
  refine lv_aload_n hx hb dX6_won_0 rfl (lv_at hl 0 rfl) ?_
  refine va_get (D := D) (ci := 6) (v := .ref (d 0)) (C := RX6) (T := TX6) (N := 8) hx hb hts hiX6 hown hK.1 hP 0 rfl rfl 6 (by decide) (hts (.fieldLink RX6 27 "IceLanesModel" "s" "LIceLanesModel$State;") (by decide +kernel)) (fun _ h9 => h9) rfl dX6_won_1 ?_
  refine va_getN (D := D) (ci := 5) (v := .int (σ 16 0)) (C := RX5) (T := TX5) (N := 8) hx hb hts hiX5 hown hK.1 hP 5 rfl rfl 2 (by decide) (va_Nw.use rfl (nX6_110 hN)) (fun _ h9 => h9) rfl dX6_won_4 ?_
  refine lv_iconst (v := (-1)) hx hb dX6_won_7 (by decide) ?_
  refine lv_icmp_ne (tgt := 13) hx hb dX6_won_8 (by decide) (fun c_1 => ?_) (fun c_1 => ?_)
  · skip
    refine lv_aload_n hx hb dX6_won_13 rfl (lv_at hl 0 rfl) ?_
    refine va_get (D := D) (ci := 6) (v := .ref (b 3)) (C := RX6) (T := TX6) (N := 8) hx hb hts hiX6 hown hK.1 hP 0 rfl rfl 4 (by decide) (hts (.fieldLink RX6 16 "IceLanesModel" "day" "[I") (by decide +kernel)) (fun _ h9 => h9) rfl dX6_won_14 ?_
    refine lv_iload_n hx hb dX6_won_17 rfl (lv_at hl 1 rfl) ?_
    refine va_iald hx hb hK.1 hP 3 0 rfl rfl (by first | assumption | exact vp_in_nI (by omega) (by decide)) dX6_won_18 ?_
    rw [nI_clamp (n := wg) (by omega)]
    refine lv_aload_n hx hb dX6_won_19 rfl (lv_at hl 0 rfl) ?_
    refine va_get (D := D) (ci := 6) (v := .ref (d 0)) (C := RX6) (T := TX6) (N := 8) hx hb hts hiX6 hown hK.1 hP 0 rfl rfl 6 (by decide) (hts (.fieldLink RX6 27 "IceLanesModel" "s" "LIceLanesModel$State;") (by decide +kernel)) (fun _ h9 => h9) rfl dX6_won_20 ?_
    refine va_getN (D := D) (ci := 5) (v := .int (σ 16 0)) (C := RX5) (T := TX5) (N := 8) hx hb hts hiX5 hown hK.1 hP 5 rfl rfl 2 (by decide) (va_Nw.use rfl (nX6_110 hN)) (fun _ h9 => h9) rfl dX6_won_23 ?_
    refine lv_isub hx hb dX6_won_26 ?_
    refine va_mabs hx hb (by rw [hml]; exact hl.1.symm) hown (hts (.methodLink RX6 104 Lib.Math.abs.name) (by decide +kernel)) (hts (.static Lib.Math.abs.name) (by decide +kernel)) (hts (.initialized "java/lang/Math") (by decide +kernel)) (hts (.code Lib.Math.abs.name Lib.Math.abs.code 1 (some .int)) (by decide +kernel)) (Nat.le_of_ble_eq_true rfl) (Nat.le_of_ble_eq_true rfl) (Nat.zero_le _) (Nat.zero_le _) dX6_won_27 ?_
    refine W.eq (g2 := F0 m 30 ls [.int (ab ((ω 14 wg) - (σ 16 0)))]) rfl ?_
    have hwn : wonF σ ω nw wg = winF ω nw (σ 16 0) wg := if_neg (by assumption)
    refine lv_istore_n (lv' := [(2, .int (distF ω (σ 16 0) wg)), (0, .ref (b 0)), (1, .int (nI wg))]) hx hb dX6_won_30 rfl hl (by decide) rfl (fun ls hl => ?_)
    refine lv_iconst (v := 0) hx hb dX6_won_31 (by decide) ?_
    refine lv_istore_n (lv' := [(3, .int 0), (2, .int (distF ω (σ 16 0) wg)), (0, .ref (b 0)), (1, .int (nI wg))]) hx hb dX6_won_32 rfl hl (by decide) rfl (fun ls hl => ?_)
    refine lv_iconst (v := 0) hx hb dX6_won_33 (by decide) ?_
    refine lv_istore (lv' := [(4, .int 0), (3, .int 0), (2, .int (distF ω (σ 16 0) wg)), (0, .ref (b 0)), (1, .int (nI wg))]) hx hb dX6_won_34 hl (by decide) rfl (fun ls hl => ?_)
    have loop36 : ∀ (n : Nat) (k : Nat), nw - k < n → (k ≤ nw ∧ anyL (distF ω (σ 16 0)) (distF ω (σ 16 0) wg) k = false) → ∀ (ls : Array Slot), lv_has ls 6 [(0, .ref (b 0)), (1, .int (nI wg)), (2, .int (distF ω (σ 16 0) wg)), (3, .int (cntF (fun k => decide (distF ω (σ 16 0) k = distF ω (σ 16 0) wg)) k)), (4, .int (nI k))] → W p l e ({ frames := 1, cells := 0, slots := 0, locals := 22 } : Room) s m args below meth c s.heap [] 0 0 Q (F0 m 36 ls []) := by
      intro n
      induction n with
      | zero => intro k  hf; exact absurd hf (Nat.not_lt_zero _)
      | succ n ih36 =>
        intro k  hf ⟨hk, hno⟩ ls hl
        refine lv_iload hx hb dX6_won_36 (lv_at hl 4 rfl) ?_
        refine lv_aload_n hx hb dX6_won_38 rfl (lv_at hl 0 rfl) ?_
        refine va_get (D := D) (ci := 6) (v := .int (ω 19 0)) (C := RX6) (T := TX6) (N := 8) hx hb hts hiX6 hown hK.1 hP 0 rfl rfl 3 (by decide) (hts (.fieldLink RX6 107 "IceLanesModel" "wagers" "I") (by decide +kernel)) (fun _ h9 => h9) rfl dX6_won_39 ?_
        refine lv_icmp_ge (tgt := 93) hx hb dX6_won_42 (by decide) (fun c_2 => ?_) (fun c_2 => ?_)
        · skip
          rw [hnw] at c_2
          have hk2 : nw ≤ k := lp_ge (N := nw) (k := k) c_2 (by omega) (by omega)
          have hpos : 0 < cntF (fun k => decide (distF ω (σ 16 0) k = distF ω (σ 16 0) wg)) k := by rw [show k = nw by omega]; exact win_pos hwg hw12
          refine lv_aload_n hx hb dX6_won_93 rfl (lv_at hl 0 rfl) ?_
          refine rd_i (va_runV (As := []) (rest := []) ⟨hx, hb, hml, hown, hts⟩ (M_X6_stakes l D cI b d d2 σ σ2 ω nw (by first | assumption | omega) (by first | assumption | omega)) (cwV 0 hts gX6_won_X6_stakes rfl rfl rfl (by decide +kernel) ⟨Nat.le_of_ble_eq_true rfl, Nat.le_of_ble_eq_true rfl⟩) (rdV hK hP [0, 1, 2, 3, 4, 5, 6, 7, 8, 9, 10, 11, 12] [0] rfl rfl (ci := 6) (q0 := 0) rfl rfl) rfl rfl hl.1 rfl (lv_room (Nat.le_of_ble_eq_true rfl)) dX6_won_94 ⟨Nat.zero_le _, Nat.zero_le _⟩) ?_
          refine lv_iload_n hx hb dX6_won_97 rfl (lv_at hl 3 rfl) ?_
          refine lv_idiv hx hb dX6_won_98 (ne_of_pos hpos) ?_
          subst hQ
          exact ret_rdi hx hb hr rfl hlocks (show (sumF ((ω 15)) nw) / (cntF (fun k => decide (distF ω (σ 16 0) k = distF ω (σ 16 0) wg)) k) = wonF σ ω nw wg from (by rw [hwn, win_q (by rw [show nw = k by omega]; exact hno), show k = nw by omega])) dX6_won_99
        · skip
          rw [hnw] at c_2
          have hk2 : k < nw := lp_nge (N := nw) (k := k) c_2 (by omega) (by omega)
          refine lv_aload_n hx hb dX6_won_45 rfl (lv_at hl 0 rfl) ?_
          refine va_get (D := D) (ci := 6) (v := .ref (b 3)) (C := RX6) (T := TX6) (N := 8) hx hb hts hiX6 hown hK.1 hP 0 rfl rfl 4 (by decide) (hts (.fieldLink RX6 16 "IceLanesModel" "day" "[I") (by decide +kernel)) (fun _ h9 => h9) rfl dX6_won_46 ?_
          refine lv_iload hx hb dX6_won_49 (lv_at hl 4 rfl) ?_
          refine va_iald hx hb hK.1 hP 3 0 rfl rfl (by first | assumption | exact vp_in_nI (by omega) (by decide)) dX6_won_51 ?_
          rw [nI_clamp (n := k) (by omega)]
          refine lv_aload_n hx hb dX6_won_52 rfl (lv_at hl 0 rfl) ?_
          refine va_get (D := D) (ci := 6) (v := .ref (d 0)) (C := RX6) (T := TX6) (N := 8) hx hb hts hiX6 hown hK.1 hP 0 rfl rfl 6 (by decide) (hts (.fieldLink RX6 27 "IceLanesModel" "s" "LIceLanesModel$State;") (by decide +kernel)) (fun _ h9 => h9) rfl dX6_won_53 ?_
          refine va_getN (D := D) (ci := 5) (v := .int (σ 16 0)) (C := RX5) (T := TX5) (N := 8) hx hb hts hiX5 hown hK.1 hP 5 rfl rfl 2 (by decide) (va_Nw.use rfl (nX6_110 hN)) (fun _ h9 => h9) rfl dX6_won_56 ?_
          refine lv_isub hx hb dX6_won_59 ?_
          refine va_mabs hx hb (by rw [hml]; exact hl.1.symm) hown (hts (.methodLink RX6 104 Lib.Math.abs.name) (by decide +kernel)) (hts (.static Lib.Math.abs.name) (by decide +kernel)) (hts (.initialized "java/lang/Math") (by decide +kernel)) (hts (.code Lib.Math.abs.name Lib.Math.abs.code 1 (some .int)) (by decide +kernel)) (Nat.le_of_ble_eq_true rfl) (Nat.le_of_ble_eq_true rfl) (Nat.zero_le _) (Nat.zero_le _) dX6_won_60 ?_
          refine W.eq (g2 := F0 m 63 ls [.int (ab ((ω 14 k) - (σ 16 0)))]) rfl ?_
          refine lv_istore (lv' := [(5, .int (distF ω (σ 16 0) k)), (0, .ref (b 0)), (1, .int (nI wg)), (2, .int (distF ω (σ 16 0) wg)), (3, .int (cntF (fun k => decide (distF ω (σ 16 0) k = distF ω (σ 16 0) wg)) k)), (4, .int (nI k))]) hx hb dX6_won_63 hl (by decide) rfl (fun ls hl => ?_)
          refine lv_iload hx hb dX6_won_65 (lv_at hl 0 rfl) ?_
          refine lv_iload_n hx hb dX6_won_67 rfl (lv_at hl 3 rfl) ?_
          refine lv_icmp_ge (tgt := 73) hx hb dX6_won_68 (by decide) (fun c_3 => ?_) (fun c_3 => ?_)
          · skip
            refine lv_iload_n hx hb dX6_won_73 rfl (lv_at hl 4 rfl) ?_
            refine lv_iload hx hb dX6_won_74 (lv_at hl 0 rfl) ?_
            refine lv_iload_n hx hb dX6_won_76 rfl (lv_at hl 3 rfl) ?_
            refine lv_icmp_ne (tgt := 84) hx hb dX6_won_77 (by decide) (fun c_4 => ?_) (fun c_4 => ?_)
            · skip
              refine lv_iconst (v := 0) hx hb dX6_won_84 (by decide) ?_
              refine lv_iadd hx hb dX6_won_85 ?_
              refine lv_istore_n (lv' := [(3, .int ((cntF (fun k => decide (distF ω (σ 16 0) k = distF ω (σ 16 0) wg)) k) + 0)), (5, .int (distF ω (σ 16 0) k)), (0, .ref (b 0)), (1, .int (nI wg)), (2, .int (distF ω (σ 16 0) wg)), (4, .int (nI k))]) hx hb dX6_won_86 rfl hl (by decide) rfl (fun ls hl => ?_)
              have hl : lv_has ls 6 [(3, .int (cntF (fun k => decide (distF ω (σ 16 0) k = distF ω (σ 16 0) wg)) (k + 1))), (5, .int (distF ω (σ 16 0) k)), (0, .ref (b 0)), (1, .int (nI wg)), (2, .int (distF ω (σ 16 0) wg)), (4, .int (nI k))] := by rw [show cntF (fun k => decide (distF ω (σ 16 0) k = distF ω (σ 16 0) wg)) (k + 1) = (cntF (fun k => decide (distF ω (σ 16 0) k = distF ω (σ 16 0) wg)) k) + 0 from (by first | exact cnt_t (decide_eq_true (by assumption)) | exact cnt_f0 (fun z => absurd (of_decide_eq_true z) (by assumption)))]; exact hl
              refine lv_iinc (v := nI (k + 1)) (lv' := [(4, .int (nI (k + 1))), (3, .int (cntF (fun k => decide (distF ω (σ 16 0) k = distF ω (σ 16 0) wg)) (k + 1))), (5, .int (distF ω (σ 16 0) k)), (0, .ref (b 0)), (1, .int (nI wg)), (2, .int (distF ω (σ 16 0) wg))]) hx hb dX6_won_87 hl (k := 5) rfl (nI_1 k) (by decide) rfl (fun ls hl => ?_)
              refine lv_goto (tgt := 36) hx hb dX6_won_90 (by decide) ?_
              exact ih36 (k + 1) (by omega) ⟨by omega, anyL_f hno (by simp only [i_le, i_lt] at c_1 c_2 c_3 c_4 ⊢; omega)⟩ ls (lv_sub hl [3, 4, 5, 1, 0] rfl)
            · skip
              refine lv_iconst (v := 1) hx hb dX6_won_80 (by decide) ?_
              refine lv_goto (tgt := 85) hx hb dX6_won_81 (by decide) ?_
              refine lv_iadd hx hb dX6_won_85 ?_
              refine lv_istore_n (lv' := [(3, .int ((cntF (fun k => decide (distF ω (σ 16 0) k = distF ω (σ 16 0) wg)) k) + 1)), (5, .int (distF ω (σ 16 0) k)), (0, .ref (b 0)), (1, .int (nI wg)), (2, .int (distF ω (σ 16 0) wg)), (4, .int (nI k))]) hx hb dX6_won_86 rfl hl (by decide) rfl (fun ls hl => ?_)
              have hl : lv_has ls 6 [(3, .int (cntF (fun k => decide (distF ω (σ 16 0) k = distF ω (σ 16 0) wg)) (k + 1))), (5, .int (distF ω (σ 16 0) k)), (0, .ref (b 0)), (1, .int (nI wg)), (2, .int (distF ω (σ 16 0) wg)), (4, .int (nI k))] := by rw [show cntF (fun k => decide (distF ω (σ 16 0) k = distF ω (σ 16 0) wg)) (k + 1) = (cntF (fun k => decide (distF ω (σ 16 0) k = distF ω (σ 16 0) wg)) k) + 1 from (by first | exact cnt_t (decide_eq_true (by assumption)) | exact cnt_f0 (fun z => absurd (of_decide_eq_true z) (by assumption)))]; exact hl
              refine lv_iinc (v := nI (k + 1)) (lv' := [(4, .int (nI (k + 1))), (3, .int (cntF (fun k => decide (distF ω (σ 16 0) k = distF ω (σ 16 0) wg)) (k + 1))), (5, .int (distF ω (σ 16 0) k)), (0, .ref (b 0)), (1, .int (nI wg)), (2, .int (distF ω (σ 16 0) wg))]) hx hb dX6_won_87 hl (k := 5) rfl (nI_1 k) (by decide) rfl (fun ls hl => ?_)
              refine lv_goto (tgt := 36) hx hb dX6_won_90 (by decide) ?_
              exact ih36 (k + 1) (by omega) ⟨by omega, anyL_f hno (by simp only [i_le, i_lt] at c_1 c_2 c_3 c_4 ⊢; omega)⟩ ls (lv_sub hl [3, 4, 5, 1, 0] rfl)
          · skip
            refine lv_iconst (v := 0) hx hb dX6_won_71 (by decide) ?_
            subst hQ
            exact ret_rdi hx hb hr rfl hlocks (show 0 = wonF σ ω nw wg from (by rw [hwn]; exact (win_z hk2 (by first | assumption | (simp only [i_le, i_lt] at c_1 c_2 c_3 ⊢; omega))).symm)) dX6_won_72
    exact loop36 (nw + 1) 0 (by omega) ⟨by omega, rfl⟩ ls (lv_sub hl [3, 4, 2, 1, 0] rfl)
  · skip
    refine lv_iconst (v := 0) hx hb dX6_won_11 (by decide) ?_
    subst hQ
    exact ret_rdi hx hb hr rfl hlocks (show 0 = wonF σ ω nw wg from (show wonF σ ω nw wg = 0 from if_pos (by assumption)).symm) dX6_won_12
set_option maxHeartbeats 4000000 in
set_option maxRecDepth 100000 in
theorem M_X6_wins_e1 (l : Launch) (D : va_G) (cI : ClassId) (b : Nat → Nat) (d : Nat → Nat) (d2 : Nat → Nat) (σ : St) (σ2 : St) (ω : St) (p0 : Int32) (sz : Nat) (h1 : ¬ (0 ≤ p0 ∧ p0 ≤ ω 19 0 - 1)) : Met l yX6_wins wsX6_wins ({ frames := 1, cells := 0, slots := 0, locals := 22 } : Room) (wrPc [.ref (b 0), .int p0] D (wMod b d d2 cI σ σ2 ω) [(cI, .int)] sz) (wrQi 0 D (wMod b d d2 cI σ σ2 (put ω 20 (fun _ => 1))) (va_A (wMod b d d2 cI σ σ2 ω) sz)) 0 0 (va_A (wMod b d d2 cI σ σ2 ω) sz) := by
  refine Met.ofW (cc := cX6_wins) (maxL := 2) (ret := (some .int)) (by decide) rfl ?_
  intro p e s m args below meth c s₁ B hml hv
  obtain ⟨hargs, hsz, hP, hK, hD0⟩ := hv
  have hx := B.exec
  have hb := B.bytes
  have hr := B.returns
  have hts := atoms_spec (ws := wsX6_wins) B.pre
  have hown : s.vm.findClass RX6 = some m.cls := findClass_of_methodNamed B.named
  have hlocks := B.notSynchronized
  obtain ⟨_, hN⟩ := id hK
  have hiX6 : ∀ w ∈ wsX60, w ∈ wsX6_wins := by decide +kernel
  subst hsz
  have hD := hD0.self (sz := s.heap.size)
  generalize hAe : va_A (wMod b d d2 cI σ σ2 ω) s.heap.size = A at hD ⊢
  have hA : ∀ q : Nat, s.heap.size ≤ q → A q := fun q h => by rw [← hAe]; exact Or.inr h
  have hS : va_S A s.heap s.heap [] := va_S.rf
  have hP : va_P D vwCl (wMod b d d2 cI σ σ2 ω) s.heap := hP
  refine my_abs (fun Q hQ => ?_)
  obtain ⟨ls, hl, hent⟩ := my_entry (m := m) (n := 2) hargs (Nat.le_of_ble_eq_true rfl)
  rw [hent]
  have hl : lv_has ls 2 [(0, .ref (b 0)), (1, .int p0)] := hl
  show W p l e ({ frames := 1, cells := 0, slots := 0, locals := 22 } : Room) s m args below meth c s.heap [] 0 0 Q (F0 m 0 ls [])
  refine lv_aload_n hx hb dX6_wins_0 rfl (lv_at hl 0 rfl) ?_
  refine lv_iconst (v := 0) hx hb dX6_wins_1 (by decide) ?_
  refine va_put (D := D) (ci := 6) (v := .int 0) (ty := .int) (C := RX6) (T := TX6) (N := 8) hx hb hts hiX6 tyX6 tyX6_ok nmX6 hown hK.1 hP hD hS 0 rfl rfl 0 (by decide) (hts (.fieldLink RX6 43 "IceLanesModel" "thrown" "I") (by decide +kernel)) (fun _ h9 => h9) rfl (by decide +kernel) rfl rfl (Nat.le_of_ble_eq_true rfl) dX6_wins_2 (fun H locs hP hD hS => ?_)
  have hP : va_P D vwCl (wOutE b d d2 cI 0 (ω 19 0) (ω 1) (ω 2) (ω 14) (ω 15) ++ (wSta d (b 0) cI σ ++ wSta d2 (b 0) cI σ2)) H := hP
  have hD : va_D A (wOutE b d d2 cI 0 (ω 19 0) (ω 1) (ω 2) (ω 14) (ω 15) ++ (wSta d (b 0) cI σ ++ wSta d2 (b 0) cI σ2)) := hD
  refine lv_iload_n hx hb dX6_wins_5 rfl (lv_at hl 1 rfl) ?_
  refine lv_iconst (v := 0) hx hb dX6_wins_6 (by decide) ?_
  refine lv_aload_n hx hb dX6_wins_7 rfl (lv_at hl 0 rfl) ?_
  refine va_get (D := D) (ci := 6) (v := .int (ω 19 0)) (C := RX6) (T := TX6) (N := 8) hx hb hts hiX6 hown hK.1 hP 0 rfl rfl 3 (by decide) (hts (.fieldLink RX6 107 "IceLanesModel" "wagers" "I") (by decide +kernel)) (fun _ h9 => h9) rfl dX6_wins_8 ?_
  refine lv_iconst (v := 1) hx hb dX6_wins_11 (by decide) ?_
  refine lv_isub hx hb dX6_wins_12 ?_
  refine rd_i (va_runS (As := [.int p0, .int 0, .int ((ω 19 0) - 1)]) (rest := []) ⟨hx, hb, hml, hown, hts⟩ (M_X6_isIn l D cI p0 0 ((ω 19 0) - 1) ) (va_cwS 3 hts gX6_wins_X6_isIn rfl rfl rfl (by decide +kernel) ⟨Nat.le_of_ble_eq_true rfl, Nat.le_of_ble_eq_true rfl⟩) (rdS hK hP [] [0] rfl rfl) rfl rfl hl.1 rfl (lv_room (Nat.le_of_ble_eq_true rfl)) dX6_wins_13 ⟨Nat.zero_le _, Nat.zero_le _⟩) ?_
  refine lv_if_eq (tgt := 27) hx hb dX6_wins_16 (by decide) (fun c_1 => ?_) (fun c_1 => ?_)
  · skip
    have c_1 : ¬ (0 ≤ p0 ∧ p0 ≤ ((ω 19 0) - 1)) := bI_z.mp c_1
    refine lv_aload_n hx hb dX6_wins_27 rfl (lv_at hl 0 rfl) ?_
    refine lv_iconst (v := 1) hx hb dX6_wins_28 (by decide) ?_
    refine wr_i (wn := wOutE b d d2 cI 1 (ω 19 0) (ω 1) (ω 2) (ω 14) (ω 15) ++ (wSta d (b 0) cI σ ++ wSta d2 (b 0) cI σ2)) (va_runV (As := [.int 1]) (rest := []) ⟨hx, hb, hml, hown, hts⟩ (M_X6_no l D cI b d d2 σ σ2 (put ω 20 (fun _ => 0)) 1 _ ) (cwV 1 hts gX6_wins_X6_no rfl rfl rfl (by decide +kernel) ⟨Nat.le_of_ble_eq_true rfl, Nat.le_of_ble_eq_true rfl⟩) (wrV hK hP hD [0, 1, 2, 3, 4, 5, 6, 7, 8, 9, 10, 11, 12] [0] rfl rfl rfl (ci := 6) (q0 := 0) rfl rfl) rfl rfl hl.1 rfl (lv_room (Nat.le_of_ble_eq_true rfl)) dX6_wins_29 ⟨Nat.le_of_ble_eq_true rfl, Nat.le_of_ble_eq_true rfl⟩) hP hD hS hA [0, 1, 2, 3, 4, 5, 6, 7, 8, 9, 10, 11, 12] [] [0, 1, 2, 3, 4, 5, 6, 7, 8, 9, 10, 11, 12] rfl rfl rfl rfl rfl rfl (fun H locs hP hD hS => ?_)
    refine W.eq (g2 := F0 m 32 ls [.int 0]) rfl ?_
    subst hQ
    have hP : va_P D vwCl (wMod b d d2 cI σ σ2 (put ω 20 (fun _ => 1))) H := hP
    have hD : va_D A (wMod b d d2 cI σ σ2 (put ω 20 (fun _ => 1))) := hD
    exact ret_wri hx hb hr rfl hlocks hP hD hS (show 0 = 0 from rfl) dX6_wins_32
  · skip
    have c_1 : (0 ≤ p0 ∧ p0 ≤ ((ω 19 0) - 1)) := bI_nz.mp c_1
    first | exact absurd c_1 (by assumption) | exact absurd (by assumption) c_1
set_option maxHeartbeats 4000000 in
set_option maxRecDepth 100000 in
theorem M_X6_wins_ok (l : Launch) (D : va_G) (cI : ClassId) (b : Nat → Nat) (d : Nat → Nat) (d2 : Nat → Nat) (σ : St) (σ2 : St) (ω : St) (wg : Nat) (nw : Nat) (sz : Nat) (h1 : (0 ≤ nI wg ∧ nI wg ≤ ω 19 0 - 1)) (hnw : ω 19 0 = nI nw) (hw12 : nw ≤ 12) (hwg : wg < nw) : Met l yX6_wins wsX6_wins ({ frames := 2, cells := 0, slots := 0, locals := 47 } : Room) (wrPc [.ref (b 0), .int (nI wg)] D (wMod b d d2 cI σ σ2 ω) [(cI, .int)] sz) (wrQi (wonF σ ω nw wg) D (wMod b d d2 cI σ σ2 (put ω 20 (fun _ => 0))) (va_A (wMod b d d2 cI σ σ2 ω) sz)) 0 0 (va_A (wMod b d d2 cI σ σ2 ω) sz) := by
  refine Met.ofW (cc := cX6_wins) (maxL := 2) (ret := (some .int)) (by decide) rfl ?_
  intro p e s m args below meth c s₁ B hml hv
  obtain ⟨hargs, hsz, hP, hK, hD0⟩ := hv
  have hx := B.exec
  have hb := B.bytes
  have hr := B.returns
  have hts := atoms_spec (ws := wsX6_wins) B.pre
  have hown : s.vm.findClass RX6 = some m.cls := findClass_of_methodNamed B.named
  have hlocks := B.notSynchronized
  obtain ⟨_, hN⟩ := id hK
  have hiX6 : ∀ w ∈ wsX60, w ∈ wsX6_wins := by decide +kernel
  subst hsz
  have hD := hD0.self (sz := s.heap.size)
  generalize hAe : va_A (wMod b d d2 cI σ σ2 ω) s.heap.size = A at hD ⊢
  have hA : ∀ q : Nat, s.heap.size ≤ q → A q := fun q h => by rw [← hAe]; exact Or.inr h
  have hS : va_S A s.heap s.heap [] := va_S.rf
  have hP : va_P D vwCl (wMod b d d2 cI σ σ2 ω) s.heap := hP
  refine my_abs (fun Q hQ => ?_)
  obtain ⟨ls, hl, hent⟩ := my_entry (m := m) (n := 2) hargs (Nat.le_of_ble_eq_true rfl)
  rw [hent]
  have hl : lv_has ls 2 [(0, .ref (b 0)), (1, .int (nI wg))] := hl
  show W p l e ({ frames := 2, cells := 0, slots := 0, locals := 47 } : Room) s m args below meth c s.heap [] 0 0 Q (F0 m 0 ls [])
  refine lv_aload_n hx hb dX6_wins_0 rfl (lv_at hl 0 rfl) ?_
  refine lv_iconst (v := 0) hx hb dX6_wins_1 (by decide) ?_
  refine va_put (D := D) (ci := 6) (v := .int 0) (ty := .int) (C := RX6) (T := TX6) (N := 8) hx hb hts hiX6 tyX6 tyX6_ok nmX6 hown hK.1 hP hD hS 0 rfl rfl 0 (by decide) (hts (.fieldLink RX6 43 "IceLanesModel" "thrown" "I") (by decide +kernel)) (fun _ h9 => h9) rfl (by decide +kernel) rfl rfl (Nat.le_of_ble_eq_true rfl) dX6_wins_2 (fun H locs hP hD hS => ?_)
  have hP : va_P D vwCl (wOutE b d d2 cI 0 (ω 19 0) (ω 1) (ω 2) (ω 14) (ω 15) ++ (wSta d (b 0) cI σ ++ wSta d2 (b 0) cI σ2)) H := hP
  have hD : va_D A (wOutE b d d2 cI 0 (ω 19 0) (ω 1) (ω 2) (ω 14) (ω 15) ++ (wSta d (b 0) cI σ ++ wSta d2 (b 0) cI σ2)) := hD
  refine lv_iload_n hx hb dX6_wins_5 rfl (lv_at hl 1 rfl) ?_
  refine lv_iconst (v := 0) hx hb dX6_wins_6 (by decide) ?_
  refine lv_aload_n hx hb dX6_wins_7 rfl (lv_at hl 0 rfl) ?_
  refine va_get (D := D) (ci := 6) (v := .int (ω 19 0)) (C := RX6) (T := TX6) (N := 8) hx hb hts hiX6 hown hK.1 hP 0 rfl rfl 3 (by decide) (hts (.fieldLink RX6 107 "IceLanesModel" "wagers" "I") (by decide +kernel)) (fun _ h9 => h9) rfl dX6_wins_8 ?_
  refine lv_iconst (v := 1) hx hb dX6_wins_11 (by decide) ?_
  refine lv_isub hx hb dX6_wins_12 ?_
  refine rd_i (va_runS (As := [.int (nI wg), .int 0, .int ((ω 19 0) - 1)]) (rest := []) ⟨hx, hb, hml, hown, hts⟩ (M_X6_isIn l D cI (nI wg) 0 ((ω 19 0) - 1) ) (va_cwS 3 hts gX6_wins_X6_isIn rfl rfl rfl (by decide +kernel) ⟨Nat.le_of_ble_eq_true rfl, Nat.le_of_ble_eq_true rfl⟩) (rdS hK hP [] [0] rfl rfl) rfl rfl hl.1 rfl (lv_room (Nat.le_of_ble_eq_true rfl)) dX6_wins_13 ⟨Nat.zero_le _, Nat.zero_le _⟩) ?_
  refine lv_if_eq (tgt := 27) hx hb dX6_wins_16 (by decide) (fun c_1 => ?_) (fun c_1 => ?_)
  · skip
    have c_1 : ¬ (0 ≤ (nI wg) ∧ (nI wg) ≤ ((ω 19 0) - 1)) := bI_z.mp c_1
    first | exact absurd c_1 (by assumption) | exact absurd (by assumption) c_1
  · skip
    have c_1 : (0 ≤ (nI wg) ∧ (nI wg) ≤ ((ω 19 0) - 1)) := bI_nz.mp c_1
    refine lv_aload_n hx hb dX6_wins_19 rfl (lv_at hl 0 rfl) ?_
    refine lv_iload_n hx hb dX6_wins_20 rfl (lv_at hl 1 rfl) ?_
    refine rd_i (va_runV (As := [.int (nI wg)]) (rest := []) ⟨hx, hb, hml, hown, hts⟩ (M_X6_won l D cI b d d2 σ σ2 (put ω 20 (fun _ => 0)) wg nw (by first | assumption | omega) (by first | assumption | omega) (by first | assumption | omega)) (cwV 1 hts gX6_wins_X6_won rfl rfl rfl (by decide +kernel) ⟨Nat.le_of_ble_eq_true rfl, Nat.le_of_ble_eq_true rfl⟩) (rdV hK hP [0, 1, 2, 3, 4, 5, 6, 7, 8, 9, 10, 11, 12] [0] rfl rfl (ci := 6) (q0 := 0) rfl rfl) rfl rfl hl.1 rfl (lv_room (Nat.le_of_ble_eq_true rfl)) dX6_wins_21 ⟨Nat.zero_le _, Nat.zero_le _⟩) ?_
    refine W.eq (g2 := F0 m 24 ls [.int (wonF σ (put ω 20 (fun _ => 0)) nw wg)]) rfl ?_
    refine lv_goto (tgt := 32) hx hb dX6_wins_24 (by decide) ?_
    subst hQ
    have hP : va_P D vwCl (wMod b d d2 cI σ σ2 (put ω 20 (fun _ => 0))) H := hP
    have hD : va_D A (wMod b d d2 cI σ σ2 (put ω 20 (fun _ => 0))) := hD
    exact ret_wri hx hb hr rfl hlocks hP hD hS (show wonF σ (put ω 20 (fun _ => 0)) nw wg = wonF σ ω nw wg from rfl) dX6_wins_32
