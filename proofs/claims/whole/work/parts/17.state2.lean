set_option maxHeartbeats 4000000 in
set_option maxRecDepth 100000 in
theorem M_X5_next (l : Launch) (D : va_G) (cI : ClassId) (d : Nat → Nat) (o : Nat) (σ : St) (cu : Nat) (hcu : cu < 8) (hok : okC σ cu) (hgo : σ 11 cu = 1) : Met l yX5_next wsX5_next ({ frames := 2, cells := 0, slots := 0, locals := 43 } : Room) (rdPc [.ref (d 0), .int (nI cu)] D (wSta d o cI σ) [(cI, .int)]) (rdQi (nxF σ cu)) 0 0 (fun _ => False) := by
  refine Met.ofW (cc := cX5_next) (maxL := 7) (ret := (some .int)) (by decide) rfl ?_
  intro p e s m args below meth c s₁ B hml hv
  obtain ⟨hargs, hP, hK⟩ := hv
  have hx := B.exec
  have hb := B.bytes
  have hr := B.returns
  have hts := atoms_spec (ws := wsX5_next) B.pre
  have hown : s.vm.findClass RX5 = some m.cls := findClass_of_methodNamed B.named
  have hlocks := B.notSynchronized
  obtain ⟨_, hN⟩ := id hK
  refine my_abs (fun Q hQ => ?_)
  obtain ⟨ls, hl, hent⟩ := my_entry (m := m) (n := 7) hargs (Nat.le_of_ble_eq_true rfl)
  rw [hent]
  have hl : lv_has ls 7 [(0, .ref (d 0)), (1, .int (nI cu))] := hl
  show W p l e ({ frames := 2, cells := 0, slots := 0, locals := 43 } : Room) s m args below meth c s.heap [] 0 0 Q (F0 m 0 ls [])
  have hto := inS_nsec hok.1 hok.2.2.1
  have hns := nsec_ne (hok.2.2.2.1 hgo)
  obtain ⟨tn, htn, et⟩ := inS_nI hto
  obtain ⟨na, nm, ea, eb, ha, hm, hab⟩ := lane_ends hok.2.1
  obtain ⟨ld, eld⟩ : ∃ z : Int32, z = σ 5 cu + σ 6 cu := ⟨_, rfl⟩
  refine lv_aload_n hx hb dX5_next_0 rfl (lv_at hl 0 rfl) ?_
  refine lv_iload_n hx hb dX5_next_1 rfl (lv_at hl 1 rfl) ?_
  refine lv_iconst (v := 3) hx hb dX5_next_2 (by decide) ?_
  refine rd_i (va_runV (As := [.int (nI cu), .int 3]) (rest := []) ⟨hx, hb, hml, hown, hts⟩ (M_X5_get l D cI d o σ cu 3 (by first | assumption | omega) (by first | assumption | omega)) (cwV 2 hts gX5_next_X5_get rfl rfl rfl (by decide +kernel) ⟨Nat.le_of_ble_eq_true rfl, Nat.le_of_ble_eq_true rfl⟩) (rdV hK hP [0, 1, 2, 3] [0] rfl rfl (ci := 5) (q0 := 0) rfl rfl) rfl rfl hl.1 rfl (lv_room (Nat.le_of_ble_eq_true rfl)) dX5_next_3 ⟨Nat.zero_le _, Nat.zero_le _⟩) ?_
  refine W.eq (g2 := F0 m 6 ls [.int (σ 8 cu)]) rfl ?_
  refine lv_istore_n (lv' := [(2, .int (σ 8 cu)), (0, .ref (d 0)), (1, .int (nI cu))]) hx hb dX5_next_6 rfl hl (by decide) rfl (fun ls hl => ?_)
  refine lv_iload_n hx hb dX5_next_7 rfl (lv_at hl 0 rfl) ?_
  refine lv_aload_n hx hb dX5_next_8 rfl (lv_at hl 1 rfl) ?_
  refine lv_iload_n hx hb dX5_next_9 rfl (lv_at hl 2 rfl) ?_
  refine lv_iconst (v := 5) hx hb dX5_next_10 (by decide) ?_
  refine rd_i (va_runV (As := [.int (nI cu), .int 5]) (rest := [.int (σ 8 cu)]) ⟨hx, hb, hml, hown, hts⟩ (M_X5_get l D cI d o σ cu 5 (by first | assumption | omega) (by first | assumption | omega)) (cwV 2 hts gX5_next_X5_get rfl rfl rfl (by decide +kernel) ⟨Nat.le_of_ble_eq_true rfl, Nat.le_of_ble_eq_true rfl⟩) (rdV hK hP [0, 1, 2, 3] [0] rfl rfl (ci := 5) (q0 := 0) rfl rfl) rfl rfl hl.1 rfl (lv_room (Nat.le_of_ble_eq_true rfl)) dX5_next_11 ⟨Nat.zero_le _, Nat.zero_le _⟩) ?_
  refine W.eq (g2 := F0 m 14 ls [.int (σ 10 cu), .int (σ 8 cu)]) rfl ?_
  refine lv_icmp_ge (tgt := 23) hx hb dX5_next_14 (by decide) (fun c_1 => ?_) (fun c_1 => ?_)
  · skip
    refine lv_iload_n hx hb dX5_next_23 rfl (lv_at hl 0 rfl) ?_
    refine lv_iconst (v := 1) hx hb dX5_next_24 (by decide) ?_
    refine lv_isub hx hb dX5_next_25 ?_
    have hst : (σ 8 cu) - 1 = nI tn := by rw [← et, hns]; first | rw [if_pos (by simp only [i_le, i_lt] at c_1 ⊢; omega)] | rw [if_neg (by simp only [i_le, i_lt] at c_1 ⊢; omega)]
    rw [hst]
    refine lv_istore_n (lv' := [(3, .int (nI tn)), (2, .int (σ 8 cu)), (0, .ref (d 0)), (1, .int (nI cu))]) hx hb dX5_next_26 rfl hl (by decide) rfl (fun ls hl => ?_)
    refine lv_iconst (v := (-1)) hx hb dX5_next_27 (by decide) ?_
    refine lv_istore (lv' := [(4, .int (-1)), (3, .int (nI tn)), (2, .int (σ 8 cu)), (0, .ref (d 0)), (1, .int (nI cu))]) hx hb dX5_next_28 hl (by decide) rfl (fun ls hl => ?_)
    refine lv_iconst (v := 0) hx hb dX5_next_30 (by decide) ?_
    refine lv_aload_n hx hb dX5_next_31 rfl (lv_at hl 3 rfl) ?_
    refine lv_iload_n hx hb dX5_next_32 rfl (lv_at hl 4 rfl) ?_
    refine lv_iconst (v := 4) hx hb dX5_next_33 (by decide) ?_
    refine rd_i (va_runV (As := [.int (nI cu), .int 4]) (rest := [.int 0]) ⟨hx, hb, hml, hown, hts⟩ (M_X5_get l D cI d o σ cu 4 (by first | assumption | omega) (by first | assumption | omega)) (cwV 2 hts gX5_next_X5_get rfl rfl rfl (by decide +kernel) ⟨Nat.le_of_ble_eq_true rfl, Nat.le_of_ble_eq_true rfl⟩) (rdV hK hP [0, 1, 2, 3] [0] rfl rfl (ci := 5) (q0 := 0) rfl rfl) rfl rfl hl.1 rfl (lv_room (Nat.le_of_ble_eq_true rfl)) dX5_next_34 ⟨Nat.zero_le _, Nat.zero_le _⟩) ?_
    refine W.eq (g2 := F0 m 37 ls [.int (σ 9 cu), .int 0]) rfl ?_
    refine lv_iconst (v := 1) hx hb dX5_next_37 (by decide) ?_
    refine lv_isub hx hb dX5_next_38 ?_
    refine va_mmax hx hb (by rw [hml]; exact hl.1.symm) hown (hts (.methodLink RX5 60 Lib.Math.max.name) (by decide +kernel)) (hts (.static Lib.Math.max.name) (by decide +kernel)) (hts (.initialized "java/lang/Math") (by decide +kernel)) (hts (.code Lib.Math.max.name Lib.Math.max.code 2 (some .int)) (by decide +kernel)) (Nat.le_of_ble_eq_true rfl) (Nat.le_of_ble_eq_true rfl) (Nat.zero_le _) (Nat.zero_le _) dX5_next_39 ?_
    refine W.eq (g2 := F0 m 42 ls [.int (mx 0 ((σ 9 cu) - 1))]) rfl ?_
    refine lv_istore (lv' := [(5, .int (mx 0 ((σ 9 cu) - 1))), (4, .int (-1)), (3, .int (nI tn)), (2, .int (σ 8 cu)), (0, .ref (d 0)), (1, .int (nI cu))]) hx hb dX5_next_42 hl (by decide) rfl (fun ls hl => ?_)
    have hl : lv_has ls 7 [(5, .int (nI na)), (4, .int (-1)), (3, .int (nI tn)), (2, .int (σ 8 cu)), (0, .ref (d 0)), (1, .int (nI cu))] := by rw [show nI na = mx 0 ((σ 9 cu) - 1) from ea.symm]; exact hl
    have loop44 : ∀ (n : Nat) (k : Nat) (ch be : Int32), 4 - k < n → (na ≤ k ∧ k ≤ nm + 1 ∧ nxI tn ch be ∧ laneF (σ 3) (σ 4) (nI tn) ld (nI nm) (4 + na - k) (nI k) ch = laneF (σ 3) (σ 4) (nI tn) ld (nI nm) 4 (nI na) (-1)) → ∀ (ls : Array Slot), lv_has ls 7 [(0, .ref (d 0)), (1, .int (nI cu)), (3, .int (nI tn)), (4, .int be), (5, .int (nI k))] → W p l e ({ frames := 2, cells := 0, slots := 0, locals := 43 } : Room) s m args below meth c s.heap [] 0 0 Q (F0 m 44 ls []) := by
      intro n
      induction n with
      | zero => intro k  ch be  hf; exact absurd hf (Nat.not_lt_zero _)
      | succ n ih44 =>
        intro k  ch be  hf ⟨hk1, hk, hi, hv⟩ ls hl
        refine lv_iload hx hb dX5_next_44 (lv_at hl 4 rfl) ?_
        refine lv_iconst (v := 2) hx hb dX5_next_46 (by decide) ?_
        refine lv_aload_n hx hb dX5_next_47 rfl (lv_at hl 0 rfl) ?_
        refine lv_iload_n hx hb dX5_next_48 rfl (lv_at hl 1 rfl) ?_
        refine lv_iconst (v := 4) hx hb dX5_next_49 (by decide) ?_
        refine rd_i (va_runV (As := [.int (nI cu), .int 4]) (rest := [.int 2, .int (nI k)]) ⟨hx, hb, hml, hown, hts⟩ (M_X5_get l D cI d o σ cu 4 (by first | assumption | omega) (by first | assumption | omega)) (cwV 2 hts gX5_next_X5_get rfl rfl rfl (by decide +kernel) ⟨Nat.le_of_ble_eq_true rfl, Nat.le_of_ble_eq_true rfl⟩) (rdV hK hP [0, 1, 2, 3] [0] rfl rfl (ci := 5) (q0 := 0) rfl rfl) rfl rfl hl.1 rfl (lv_room (Nat.le_of_ble_eq_true rfl)) dX5_next_50 ⟨Nat.zero_le _, Nat.zero_le _⟩) ?_
        refine W.eq (g2 := F0 m 53 ls [.int (σ 9 cu), .int 2, .int (nI k)]) rfl ?_
        refine lv_iconst (v := 1) hx hb dX5_next_53 (by decide) ?_
        refine lv_iadd hx hb dX5_next_54 ?_
        refine va_mmin hx hb (by rw [hml]; exact hl.1.symm) hown (hts (.methodLink RX5 55 Lib.Math.min.name) (by decide +kernel)) (hts (.static Lib.Math.min.name) (by decide +kernel)) (hts (.initialized "java/lang/Math") (by decide +kernel)) (hts (.code Lib.Math.min.name Lib.Math.min.code 2 (some .int)) (by decide +kernel)) (Nat.le_of_ble_eq_true rfl) (Nat.le_of_ble_eq_true rfl) (Nat.zero_le _) (Nat.zero_le _) dX5_next_55 ?_
        refine W.eq (g2 := F0 m 58 ls [.int (mn 2 ((σ 9 cu) + 1)), .int (nI k)]) rfl ?_
        refine lv_icmp_gt (tgt := 117) hx hb dX5_next_58 (by decide) (fun c_2 => ?_) (fun c_2 => ?_)
        · skip
          rw [eb] at c_2
          have hk2 : nm < k := lp_gt (N := nm) (k := k) c_2 (by omega) (by omega)
          refine lv_iload hx hb dX5_next_117 (lv_at hl 3 rfl) ?_
          subst hQ
          exact ret_rdi hx hb hr rfl hlocks (show be = nxF σ cu from (nx_end et ea eb eld htn hm (by omega) hk2 hi hv)) dX5_next_119
        · skip
          rw [eb] at c_2
          have hk2 : k ≤ nm := lp_ngt (N := nm) (k := k) c_2 (by omega) (by omega)
          refine lv_iconst (v := 3) hx hb dX5_next_61 (by decide) ?_
          refine lv_iload_n hx hb dX5_next_62 rfl (lv_at hl 2 rfl) ?_
          refine lv_imul hx hb dX5_next_63 ?_
          refine lv_iload hx hb dX5_next_64 (lv_at hl 4 rfl) ?_
          refine lv_iadd hx hb dX5_next_66 ?_
          rw [pl_nI2 tn k]
          refine lv_istore (lv' := [(6, .int (nI (3 * tn + k))), (0, .ref (d 0)), (1, .int (nI cu)), (3, .int (nI tn)), (4, .int be), (5, .int (nI k))]) hx hb dX5_next_67 hl (by decide) rfl (fun ls hl => ?_)
          refine lv_aload_n hx hb dX5_next_69 rfl (lv_at hl 1 rfl) ?_
          refine lv_iload hx hb dX5_next_70 (lv_at hl 0 rfl) ?_
          refine rd_i (va_runV (As := [.int (nI (3 * tn + k))]) (rest := []) ⟨hx, hb, hml, hown, hts⟩ (M_X5_holds l D cI d o σ (3 * tn + k) (by omega)) (cwV 1 hts gX5_next_X5_holds rfl rfl rfl (by decide +kernel) ⟨Nat.le_of_ble_eq_true rfl, Nat.le_of_ble_eq_true rfl⟩) (rdV hK hP [0, 1, 2, 3] [0] rfl rfl (ci := 5) (q0 := 0) rfl rfl) rfl rfl hl.1 rfl (lv_room (Nat.le_of_ble_eq_true rfl)) dX5_next_72 ⟨Nat.zero_le _, Nat.zero_le _⟩) ?_
          refine lv_aload_n hx hb dX5_next_75 rfl (lv_at hl 1 rfl) ?_
          refine lv_iload_n hx hb dX5_next_76 rfl (lv_at hl 2 rfl) ?_
          refine rd_i (va_runV (As := [.int (nI cu)]) (rest := [.int (sndP ((σ 3)) ((σ 4)) (nI (3 * tn + k)))]) ⟨hx, hb, hml, hown, hts⟩ (M_X5_load l D cI d o σ cu (by first | assumption | omega)) (cwV 1 hts gX5_next_X5_load rfl rfl rfl (by decide +kernel) ⟨Nat.le_of_ble_eq_true rfl, Nat.le_of_ble_eq_true rfl⟩) (rdV hK hP [0, 1, 2, 3] [0] rfl rfl (ci := 5) (q0 := 0) rfl rfl) rfl rfl hl.1 rfl (lv_room (Nat.le_of_ble_eq_true rfl)) dX5_next_77 ⟨Nat.zero_le _, Nat.zero_le _⟩) ?_
          rw [← eld]
          refine lv_icmp_ge (tgt := 86) hx hb dX5_next_80 (by decide) (fun c_3 => ?_) (fun c_3 => ?_)
          · skip
            refine lv_iload hx hb dX5_next_86 (lv_at hl 4 rfl) ?_
            refine lv_iconst (v := (-1)) hx hb dX5_next_88 (by decide) ?_
            refine lv_icmp_eq (tgt := 107) hx hb dX5_next_89 (by decide) (fun c_4 => ?_) (fun c_4 => ?_)
            · skip
              have hv2 : laneF (σ 3) (σ 4) (nI tn) ld (nI nm) ((4 + na - (k + 1)) + 1) (nI k) ch = laneF (σ 3) (σ 4) (nI tn) ld (nI nm) (4 + na - (k + 1)) (nI (k + 1)) (nI k) := by first | exact nx_B hk2 hm htn hi (by assumption) (by assumption) | exact nx_C hk2 hm ech (by assumption) (by assumption)
              have hi2 : nxI tn (nI k) (nI (3 * tn + k)) := Or.inr ⟨k, by omega, rfl, rfl⟩
              obtain ⟨ch2, ech2⟩ : ∃ z : Int32, z = nI k := ⟨_, rfl⟩
              refine lv_iload hx hb dX5_next_107 (lv_at hl 0 rfl) ?_
              refine lv_istore (lv' := [(4, .int (nI (3 * tn + k))), (6, .int (nI (3 * tn + k))), (0, .ref (d 0)), (1, .int (nI cu)), (3, .int (nI tn)), (5, .int (nI k))]) hx hb dX5_next_109 hl (by decide) rfl (fun ls hl => ?_)
              refine lv_iinc (v := nI (k + 1)) (lv' := [(5, .int (nI (k + 1))), (4, .int (nI (3 * tn + k))), (6, .int (nI (3 * tn + k))), (0, .ref (d 0)), (1, .int (nI cu)), (3, .int (nI tn))]) hx hb dX5_next_111 hl (k := 5) rfl (nI_1 k) (by decide) rfl (fun ls hl => ?_)
              refine lv_goto (tgt := 44) hx hb dX5_next_114 (by decide) ?_
              exact ih44 (k + 1) ch2 (nI (3 * tn + k)) (by omega) ⟨by omega, by omega, (by rw [ech2]; exact hi2), (by rw [← hv, ech2, show 4 + na - k = (4 + na - (k + 1)) + 1 by omega]; exact hv2.symm)⟩ ls (lv_sub hl [3, 4, 5, 1, 0] rfl)
            · skip
              obtain ⟨j, hj, ech, ebe⟩ : ∃ j, j < 3 ∧ ch = nI j ∧ be = nI (3 * tn + j) := hi.resolve_left (fun z => absurd z.2 (by assumption))
              have hl : lv_has ls 7 [(6, .int (nI (3 * tn + k))), (0, .ref (d 0)), (1, .int (nI cu)), (3, .int (nI tn)), (4, .int (nI (3 * tn + j))), (5, .int (nI k))] := by rw [show nI (3 * tn + j) = be from ebe.symm]; exact hl
              refine lv_aload_n hx hb dX5_next_92 rfl (lv_at hl 1 rfl) ?_
              refine lv_iload hx hb dX5_next_93 (lv_at hl 0 rfl) ?_
              refine rd_i (va_runV (As := [.int (nI (3 * tn + k))]) (rest := []) ⟨hx, hb, hml, hown, hts⟩ (M_X5_holds l D cI d o σ (3 * tn + k) (by omega)) (cwV 1 hts gX5_next_X5_holds rfl rfl rfl (by decide +kernel) ⟨Nat.le_of_ble_eq_true rfl, Nat.le_of_ble_eq_true rfl⟩) (rdV hK hP [0, 1, 2, 3] [0] rfl rfl (ci := 5) (q0 := 0) rfl rfl) rfl rfl hl.1 rfl (lv_room (Nat.le_of_ble_eq_true rfl)) dX5_next_95 ⟨Nat.zero_le _, Nat.zero_le _⟩) ?_
              refine lv_aload_n hx hb dX5_next_98 rfl (lv_at hl 1 rfl) ?_
              refine lv_iload hx hb dX5_next_99 (lv_at hl 4 rfl) ?_
              refine rd_i (va_runV (As := [.int (nI (3 * tn + j))]) (rest := [.int (sndP ((σ 3)) ((σ 4)) (nI (3 * tn + k)))]) ⟨hx, hb, hml, hown, hts⟩ (M_X5_holds l D cI d o σ (3 * tn + j) (by omega)) (cwV 1 hts gX5_next_X5_holds rfl rfl rfl (by decide +kernel) ⟨Nat.le_of_ble_eq_true rfl, Nat.le_of_ble_eq_true rfl⟩) (rdV hK hP [0, 1, 2, 3] [0] rfl rfl (ci := 5) (q0 := 0) rfl rfl) rfl rfl hl.1 rfl (lv_room (Nat.le_of_ble_eq_true rfl)) dX5_next_101 ⟨Nat.zero_le _, Nat.zero_le _⟩) ?_
              refine lv_icmp_le (tgt := 111) hx hb dX5_next_104 (by decide) (fun c_5 => ?_) (fun c_5 => ?_)
              · skip
                have hv2 := nx_D (f := 4 + na - (k + 1)) (ld := ld) hk2 hm hj ech c_5
                have hi2 : nxI tn ch (nI (3 * tn + j)) := Or.inr ⟨j, hj, ech, rfl⟩
                obtain ⟨ch2, ech2⟩ : ∃ z : Int32, z = ch := ⟨_, rfl⟩
                refine lv_iinc (v := nI (k + 1)) (lv' := [(5, .int (nI (k + 1))), (6, .int (nI (3 * tn + k))), (0, .ref (d 0)), (1, .int (nI cu)), (3, .int (nI tn)), (4, .int (nI (3 * tn + j)))]) hx hb dX5_next_111 hl (k := 5) rfl (nI_1 k) (by decide) rfl (fun ls hl => ?_)
                refine lv_goto (tgt := 44) hx hb dX5_next_114 (by decide) ?_
                exact ih44 (k + 1) ch2 (nI (3 * tn + j)) (by omega) ⟨by omega, by omega, (by rw [ech2]; exact hi2), (by rw [← hv, ech2, show 4 + na - k = (4 + na - (k + 1)) + 1 by omega]; exact hv2.symm)⟩ ls (lv_sub hl [2, 3, 4, 5, 0] rfl)
              · skip
                have hv2 : laneF (σ 3) (σ 4) (nI tn) ld (nI nm) ((4 + na - (k + 1)) + 1) (nI k) ch = laneF (σ 3) (σ 4) (nI tn) ld (nI nm) (4 + na - (k + 1)) (nI (k + 1)) (nI k) := by first | exact nx_B hk2 hm htn hi (by assumption) (by assumption) | exact nx_C hk2 hm ech (by assumption) (by assumption)
                have hi2 : nxI tn (nI k) (nI (3 * tn + k)) := Or.inr ⟨k, by omega, rfl, rfl⟩
                obtain ⟨ch2, ech2⟩ : ∃ z : Int32, z = nI k := ⟨_, rfl⟩
                refine lv_iload hx hb dX5_next_107 (lv_at hl 0 rfl) ?_
                refine lv_istore (lv' := [(4, .int (nI (3 * tn + k))), (6, .int (nI (3 * tn + k))), (0, .ref (d 0)), (1, .int (nI cu)), (3, .int (nI tn)), (5, .int (nI k))]) hx hb dX5_next_109 hl (by decide) rfl (fun ls hl => ?_)
                refine lv_iinc (v := nI (k + 1)) (lv' := [(5, .int (nI (k + 1))), (4, .int (nI (3 * tn + k))), (6, .int (nI (3 * tn + k))), (0, .ref (d 0)), (1, .int (nI cu)), (3, .int (nI tn))]) hx hb dX5_next_111 hl (k := 5) rfl (nI_1 k) (by decide) rfl (fun ls hl => ?_)
                refine lv_goto (tgt := 44) hx hb dX5_next_114 (by decide) ?_
                exact ih44 (k + 1) ch2 (nI (3 * tn + k)) (by omega) ⟨by omega, by omega, (by rw [ech2]; exact hi2), (by rw [← hv, ech2, show 4 + na - k = (4 + na - (k + 1)) + 1 by omega]; exact hv2.symm)⟩ ls (lv_sub hl [3, 4, 5, 1, 0] rfl)
          · skip
            have hv2 := nx_A (f := 4 + na - (k + 1)) (ch := ch) hk2 hm (by assumption)
            have hi2 := hi
            have hb2 : be = be := rfl
            obtain ⟨ch2, ech2⟩ : ∃ z : Int32, z = ch := ⟨_, rfl⟩
            refine lv_goto (tgt := 111) hx hb dX5_next_83 (by decide) ?_
            refine lv_iinc (v := nI (k + 1)) (lv' := [(5, .int (nI (k + 1))), (6, .int (nI (3 * tn + k))), (0, .ref (d 0)), (1, .int (nI cu)), (3, .int (nI tn)), (4, .int be)]) hx hb dX5_next_111 hl (k := 5) rfl (nI_1 k) (by decide) rfl (fun ls hl => ?_)
            refine lv_goto (tgt := 44) hx hb dX5_next_114 (by decide) ?_
            exact ih44 (k + 1) ch2 be (by omega) ⟨by omega, by omega, (by rw [ech2]; exact hi2), (by rw [← hv, ech2, show 4 + na - k = (4 + na - (k + 1)) + 1 by omega]; exact hv2.symm)⟩ ls (lv_sub hl [2, 3, 4, 5, 0] rfl)
    exact loop44 5 na (-1) (-1) (by omega) ⟨by omega, by omega, Or.inl ⟨rfl, rfl⟩, (by rw [show 4 + na - na = 4 by omega])⟩ ls (lv_sub hl [4, 5, 2, 1, 0] rfl)
  · skip
    refine lv_iload_n hx hb dX5_next_17 rfl (lv_at hl 0 rfl) ?_
    refine lv_iconst (v := 1) hx hb dX5_next_18 (by decide) ?_
    refine lv_iadd hx hb dX5_next_19 ?_
    refine lv_goto (tgt := 26) hx hb dX5_next_20 (by decide) ?_
    have hst : (σ 8 cu) + 1 = nI tn := by rw [← et, hns]; first | rw [if_pos (by simp only [i_le, i_lt] at c_1 ⊢; omega)] | rw [if_neg (by simp only [i_le, i_lt] at c_1 ⊢; omega)]
    rw [hst]
    refine lv_istore_n (lv' := [(3, .int (nI tn)), (2, .int (σ 8 cu)), (0, .ref (d 0)), (1, .int (nI cu))]) hx hb dX5_next_26 rfl hl (by decide) rfl (fun ls hl => ?_)
    refine lv_iconst (v := (-1)) hx hb dX5_next_27 (by decide) ?_
    refine lv_istore (lv' := [(4, .int (-1)), (3, .int (nI tn)), (2, .int (σ 8 cu)), (0, .ref (d 0)), (1, .int (nI cu))]) hx hb dX5_next_28 hl (by decide) rfl (fun ls hl => ?_)
    refine lv_iconst (v := 0) hx hb dX5_next_30 (by decide) ?_
    refine lv_aload_n hx hb dX5_next_31 rfl (lv_at hl 3 rfl) ?_
    refine lv_iload_n hx hb dX5_next_32 rfl (lv_at hl 4 rfl) ?_
    refine lv_iconst (v := 4) hx hb dX5_next_33 (by decide) ?_
    refine rd_i (va_runV (As := [.int (nI cu), .int 4]) (rest := [.int 0]) ⟨hx, hb, hml, hown, hts⟩ (M_X5_get l D cI d o σ cu 4 (by first | assumption | omega) (by first | assumption | omega)) (cwV 2 hts gX5_next_X5_get rfl rfl rfl (by decide +kernel) ⟨Nat.le_of_ble_eq_true rfl, Nat.le_of_ble_eq_true rfl⟩) (rdV hK hP [0, 1, 2, 3] [0] rfl rfl (ci := 5) (q0 := 0) rfl rfl) rfl rfl hl.1 rfl (lv_room (Nat.le_of_ble_eq_true rfl)) dX5_next_34 ⟨Nat.zero_le _, Nat.zero_le _⟩) ?_
    refine W.eq (g2 := F0 m 37 ls [.int (σ 9 cu), .int 0]) rfl ?_
    refine lv_iconst (v := 1) hx hb dX5_next_37 (by decide) ?_
    refine lv_isub hx hb dX5_next_38 ?_
    refine va_mmax hx hb (by rw [hml]; exact hl.1.symm) hown (hts (.methodLink RX5 60 Lib.Math.max.name) (by decide +kernel)) (hts (.static Lib.Math.max.name) (by decide +kernel)) (hts (.initialized "java/lang/Math") (by decide +kernel)) (hts (.code Lib.Math.max.name Lib.Math.max.code 2 (some .int)) (by decide +kernel)) (Nat.le_of_ble_eq_true rfl) (Nat.le_of_ble_eq_true rfl) (Nat.zero_le _) (Nat.zero_le _) dX5_next_39 ?_
    refine W.eq (g2 := F0 m 42 ls [.int (mx 0 ((σ 9 cu) - 1))]) rfl ?_
    refine lv_istore (lv' := [(5, .int (mx 0 ((σ 9 cu) - 1))), (4, .int (-1)), (3, .int (nI tn)), (2, .int (σ 8 cu)), (0, .ref (d 0)), (1, .int (nI cu))]) hx hb dX5_next_42 hl (by decide) rfl (fun ls hl => ?_)
    have hl : lv_has ls 7 [(5, .int (nI na)), (4, .int (-1)), (3, .int (nI tn)), (2, .int (σ 8 cu)), (0, .ref (d 0)), (1, .int (nI cu))] := by rw [show nI na = mx 0 ((σ 9 cu) - 1) from ea.symm]; exact hl
    have loop44 : ∀ (n : Nat) (k : Nat) (ch be : Int32), 4 - k < n → (na ≤ k ∧ k ≤ nm + 1 ∧ nxI tn ch be ∧ laneF (σ 3) (σ 4) (nI tn) ld (nI nm) (4 + na - k) (nI k) ch = laneF (σ 3) (σ 4) (nI tn) ld (nI nm) 4 (nI na) (-1)) → ∀ (ls : Array Slot), lv_has ls 7 [(0, .ref (d 0)), (1, .int (nI cu)), (3, .int (nI tn)), (4, .int be), (5, .int (nI k))] → W p l e ({ frames := 2, cells := 0, slots := 0, locals := 43 } : Room) s m args below meth c s.heap [] 0 0 Q (F0 m 44 ls []) := by
      intro n
      induction n with
      | zero => intro k  ch be  hf; exact absurd hf (Nat.not_lt_zero _)
      | succ n ih44 =>
        intro k  ch be  hf ⟨hk1, hk, hi, hv⟩ ls hl
        refine lv_iload hx hb dX5_next_44 (lv_at hl 4 rfl) ?_
        refine lv_iconst (v := 2) hx hb dX5_next_46 (by decide) ?_
        refine lv_aload_n hx hb dX5_next_47 rfl (lv_at hl 0 rfl) ?_
        refine lv_iload_n hx hb dX5_next_48 rfl (lv_at hl 1 rfl) ?_
        refine lv_iconst (v := 4) hx hb dX5_next_49 (by decide) ?_
        refine rd_i (va_runV (As := [.int (nI cu), .int 4]) (rest := [.int 2, .int (nI k)]) ⟨hx, hb, hml, hown, hts⟩ (M_X5_get l D cI d o σ cu 4 (by first | assumption | omega) (by first | assumption | omega)) (cwV 2 hts gX5_next_X5_get rfl rfl rfl (by decide +kernel) ⟨Nat.le_of_ble_eq_true rfl, Nat.le_of_ble_eq_true rfl⟩) (rdV hK hP [0, 1, 2, 3] [0] rfl rfl (ci := 5) (q0 := 0) rfl rfl) rfl rfl hl.1 rfl (lv_room (Nat.le_of_ble_eq_true rfl)) dX5_next_50 ⟨Nat.zero_le _, Nat.zero_le _⟩) ?_
        refine W.eq (g2 := F0 m 53 ls [.int (σ 9 cu), .int 2, .int (nI k)]) rfl ?_
        refine lv_iconst (v := 1) hx hb dX5_next_53 (by decide) ?_
        refine lv_iadd hx hb dX5_next_54 ?_
        refine va_mmin hx hb (by rw [hml]; exact hl.1.symm) hown (hts (.methodLink RX5 55 Lib.Math.min.name) (by decide +kernel)) (hts (.static Lib.Math.min.name) (by decide +kernel)) (hts (.initialized "java/lang/Math") (by decide +kernel)) (hts (.code Lib.Math.min.name Lib.Math.min.code 2 (some .int)) (by decide +kernel)) (Nat.le_of_ble_eq_true rfl) (Nat.le_of_ble_eq_true rfl) (Nat.zero_le _) (Nat.zero_le _) dX5_next_55 ?_
        refine W.eq (g2 := F0 m 58 ls [.int (mn 2 ((σ 9 cu) + 1)), .int (nI k)]) rfl ?_
        refine lv_icmp_gt (tgt := 117) hx hb dX5_next_58 (by decide) (fun c_6 => ?_) (fun c_6 => ?_)
        · skip
          rw [eb] at c_6
          have hk2 : nm < k := lp_gt (N := nm) (k := k) c_6 (by omega) (by omega)
          refine lv_iload hx hb dX5_next_117 (lv_at hl 3 rfl) ?_
          subst hQ
          exact ret_rdi hx hb hr rfl hlocks (show be = nxF σ cu from (nx_end et ea eb eld htn hm (by omega) hk2 hi hv)) dX5_next_119
        · skip
          rw [eb] at c_6
          have hk2 : k ≤ nm := lp_ngt (N := nm) (k := k) c_6 (by omega) (by omega)
          refine lv_iconst (v := 3) hx hb dX5_next_61 (by decide) ?_
          refine lv_iload_n hx hb dX5_next_62 rfl (lv_at hl 2 rfl) ?_
          refine lv_imul hx hb dX5_next_63 ?_
          refine lv_iload hx hb dX5_next_64 (lv_at hl 4 rfl) ?_
          refine lv_iadd hx hb dX5_next_66 ?_
          rw [pl_nI2 tn k]
          refine lv_istore (lv' := [(6, .int (nI (3 * tn + k))), (0, .ref (d 0)), (1, .int (nI cu)), (3, .int (nI tn)), (4, .int be), (5, .int (nI k))]) hx hb dX5_next_67 hl (by decide) rfl (fun ls hl => ?_)
          refine lv_aload_n hx hb dX5_next_69 rfl (lv_at hl 1 rfl) ?_
          refine lv_iload hx hb dX5_next_70 (lv_at hl 0 rfl) ?_
          refine rd_i (va_runV (As := [.int (nI (3 * tn + k))]) (rest := []) ⟨hx, hb, hml, hown, hts⟩ (M_X5_holds l D cI d o σ (3 * tn + k) (by omega)) (cwV 1 hts gX5_next_X5_holds rfl rfl rfl (by decide +kernel) ⟨Nat.le_of_ble_eq_true rfl, Nat.le_of_ble_eq_true rfl⟩) (rdV hK hP [0, 1, 2, 3] [0] rfl rfl (ci := 5) (q0 := 0) rfl rfl) rfl rfl hl.1 rfl (lv_room (Nat.le_of_ble_eq_true rfl)) dX5_next_72 ⟨Nat.zero_le _, Nat.zero_le _⟩) ?_
          refine lv_aload_n hx hb dX5_next_75 rfl (lv_at hl 1 rfl) ?_
          refine lv_iload_n hx hb dX5_next_76 rfl (lv_at hl 2 rfl) ?_
          refine rd_i (va_runV (As := [.int (nI cu)]) (rest := [.int (sndP ((σ 3)) ((σ 4)) (nI (3 * tn + k)))]) ⟨hx, hb, hml, hown, hts⟩ (M_X5_load l D cI d o σ cu (by first | assumption | omega)) (cwV 1 hts gX5_next_X5_load rfl rfl rfl (by decide +kernel) ⟨Nat.le_of_ble_eq_true rfl, Nat.le_of_ble_eq_true rfl⟩) (rdV hK hP [0, 1, 2, 3] [0] rfl rfl (ci := 5) (q0 := 0) rfl rfl) rfl rfl hl.1 rfl (lv_room (Nat.le_of_ble_eq_true rfl)) dX5_next_77 ⟨Nat.zero_le _, Nat.zero_le _⟩) ?_
          rw [← eld]
          refine lv_icmp_ge (tgt := 86) hx hb dX5_next_80 (by decide) (fun c_7 => ?_) (fun c_7 => ?_)
          · skip
            refine lv_iload hx hb dX5_next_86 (lv_at hl 4 rfl) ?_
            refine lv_iconst (v := (-1)) hx hb dX5_next_88 (by decide) ?_
            refine lv_icmp_eq (tgt := 107) hx hb dX5_next_89 (by decide) (fun c_8 => ?_) (fun c_8 => ?_)
            · skip
              have hv2 : laneF (σ 3) (σ 4) (nI tn) ld (nI nm) ((4 + na - (k + 1)) + 1) (nI k) ch = laneF (σ 3) (σ 4) (nI tn) ld (nI nm) (4 + na - (k + 1)) (nI (k + 1)) (nI k) := by first | exact nx_B hk2 hm htn hi (by assumption) (by assumption) | exact nx_C hk2 hm ech (by assumption) (by assumption)
              have hi2 : nxI tn (nI k) (nI (3 * tn + k)) := Or.inr ⟨k, by omega, rfl, rfl⟩
              obtain ⟨ch2, ech2⟩ : ∃ z : Int32, z = nI k := ⟨_, rfl⟩
              refine lv_iload hx hb dX5_next_107 (lv_at hl 0 rfl) ?_
              refine lv_istore (lv' := [(4, .int (nI (3 * tn + k))), (6, .int (nI (3 * tn + k))), (0, .ref (d 0)), (1, .int (nI cu)), (3, .int (nI tn)), (5, .int (nI k))]) hx hb dX5_next_109 hl (by decide) rfl (fun ls hl => ?_)
              refine lv_iinc (v := nI (k + 1)) (lv' := [(5, .int (nI (k + 1))), (4, .int (nI (3 * tn + k))), (6, .int (nI (3 * tn + k))), (0, .ref (d 0)), (1, .int (nI cu)), (3, .int (nI tn))]) hx hb dX5_next_111 hl (k := 5) rfl (nI_1 k) (by decide) rfl (fun ls hl => ?_)
              refine lv_goto (tgt := 44) hx hb dX5_next_114 (by decide) ?_
              exact ih44 (k + 1) ch2 (nI (3 * tn + k)) (by omega) ⟨by omega, by omega, (by rw [ech2]; exact hi2), (by rw [← hv, ech2, show 4 + na - k = (4 + na - (k + 1)) + 1 by omega]; exact hv2.symm)⟩ ls (lv_sub hl [3, 4, 5, 1, 0] rfl)
            · skip
              obtain ⟨j, hj, ech, ebe⟩ : ∃ j, j < 3 ∧ ch = nI j ∧ be = nI (3 * tn + j) := hi.resolve_left (fun z => absurd z.2 (by assumption))
              have hl : lv_has ls 7 [(6, .int (nI (3 * tn + k))), (0, .ref (d 0)), (1, .int (nI cu)), (3, .int (nI tn)), (4, .int (nI (3 * tn + j))), (5, .int (nI k))] := by rw [show nI (3 * tn + j) = be from ebe.symm]; exact hl
              refine lv_aload_n hx hb dX5_next_92 rfl (lv_at hl 1 rfl) ?_
              refine lv_iload hx hb dX5_next_93 (lv_at hl 0 rfl) ?_
              refine rd_i (va_runV (As := [.int (nI (3 * tn + k))]) (rest := []) ⟨hx, hb, hml, hown, hts⟩ (M_X5_holds l D cI d o σ (3 * tn + k) (by omega)) (cwV 1 hts gX5_next_X5_holds rfl rfl rfl (by decide +kernel) ⟨Nat.le_of_ble_eq_true rfl, Nat.le_of_ble_eq_true rfl⟩) (rdV hK hP [0, 1, 2, 3] [0] rfl rfl (ci := 5) (q0 := 0) rfl rfl) rfl rfl hl.1 rfl (lv_room (Nat.le_of_ble_eq_true rfl)) dX5_next_95 ⟨Nat.zero_le _, Nat.zero_le _⟩) ?_
              refine lv_aload_n hx hb dX5_next_98 rfl (lv_at hl 1 rfl) ?_
              refine lv_iload hx hb dX5_next_99 (lv_at hl 4 rfl) ?_
              refine rd_i (va_runV (As := [.int (nI (3 * tn + j))]) (rest := [.int (sndP ((σ 3)) ((σ 4)) (nI (3 * tn + k)))]) ⟨hx, hb, hml, hown, hts⟩ (M_X5_holds l D cI d o σ (3 * tn + j) (by omega)) (cwV 1 hts gX5_next_X5_holds rfl rfl rfl (by decide +kernel) ⟨Nat.le_of_ble_eq_true rfl, Nat.le_of_ble_eq_true rfl⟩) (rdV hK hP [0, 1, 2, 3] [0] rfl rfl (ci := 5) (q0 := 0) rfl rfl) rfl rfl hl.1 rfl (lv_room (Nat.le_of_ble_eq_true rfl)) dX5_next_101 ⟨Nat.zero_le _, Nat.zero_le _⟩) ?_
              refine lv_icmp_le (tgt := 111) hx hb dX5_next_104 (by decide) (fun c_9 => ?_) (fun c_9 => ?_)
              · skip
                have hv2 := nx_D (f := 4 + na - (k + 1)) (ld := ld) hk2 hm hj ech c_9
                have hi2 : nxI tn ch (nI (3 * tn + j)) := Or.inr ⟨j, hj, ech, rfl⟩
                obtain ⟨ch2, ech2⟩ : ∃ z : Int32, z = ch := ⟨_, rfl⟩
                refine lv_iinc (v := nI (k + 1)) (lv' := [(5, .int (nI (k + 1))), (6, .int (nI (3 * tn + k))), (0, .ref (d 0)), (1, .int (nI cu)), (3, .int (nI tn)), (4, .int (nI (3 * tn + j)))]) hx hb dX5_next_111 hl (k := 5) rfl (nI_1 k) (by decide) rfl (fun ls hl => ?_)
                refine lv_goto (tgt := 44) hx hb dX5_next_114 (by decide) ?_
                exact ih44 (k + 1) ch2 (nI (3 * tn + j)) (by omega) ⟨by omega, by omega, (by rw [ech2]; exact hi2), (by rw [← hv, ech2, show 4 + na - k = (4 + na - (k + 1)) + 1 by omega]; exact hv2.symm)⟩ ls (lv_sub hl [2, 3, 4, 5, 0] rfl)
              · skip
                have hv2 : laneF (σ 3) (σ 4) (nI tn) ld (nI nm) ((4 + na - (k + 1)) + 1) (nI k) ch = laneF (σ 3) (σ 4) (nI tn) ld (nI nm) (4 + na - (k + 1)) (nI (k + 1)) (nI k) := by first | exact nx_B hk2 hm htn hi (by assumption) (by assumption) | exact nx_C hk2 hm ech (by assumption) (by assumption)
                have hi2 : nxI tn (nI k) (nI (3 * tn + k)) := Or.inr ⟨k, by omega, rfl, rfl⟩
                obtain ⟨ch2, ech2⟩ : ∃ z : Int32, z = nI k := ⟨_, rfl⟩
                refine lv_iload hx hb dX5_next_107 (lv_at hl 0 rfl) ?_
                refine lv_istore (lv' := [(4, .int (nI (3 * tn + k))), (6, .int (nI (3 * tn + k))), (0, .ref (d 0)), (1, .int (nI cu)), (3, .int (nI tn)), (5, .int (nI k))]) hx hb dX5_next_109 hl (by decide) rfl (fun ls hl => ?_)
                refine lv_iinc (v := nI (k + 1)) (lv' := [(5, .int (nI (k + 1))), (4, .int (nI (3 * tn + k))), (6, .int (nI (3 * tn + k))), (0, .ref (d 0)), (1, .int (nI cu)), (3, .int (nI tn))]) hx hb dX5_next_111 hl (k := 5) rfl (nI_1 k) (by decide) rfl (fun ls hl => ?_)
                refine lv_goto (tgt := 44) hx hb dX5_next_114 (by decide) ?_
                exact ih44 (k + 1) ch2 (nI (3 * tn + k)) (by omega) ⟨by omega, by omega, (by rw [ech2]; exact hi2), (by rw [← hv, ech2, show 4 + na - k = (4 + na - (k + 1)) + 1 by omega]; exact hv2.symm)⟩ ls (lv_sub hl [3, 4, 5, 1, 0] rfl)
          · skip
            have hv2 := nx_A (f := 4 + na - (k + 1)) (ch := ch) hk2 hm (by assumption)
            have hi2 := hi
            have hb2 : be = be := rfl
            obtain ⟨ch2, ech2⟩ : ∃ z : Int32, z = ch := ⟨_, rfl⟩
            refine lv_goto (tgt := 111) hx hb dX5_next_83 (by decide) ?_
            refine lv_iinc (v := nI (k + 1)) (lv' := [(5, .int (nI (k + 1))), (6, .int (nI (3 * tn + k))), (0, .ref (d 0)), (1, .int (nI cu)), (3, .int (nI tn)), (4, .int be)]) hx hb dX5_next_111 hl (k := 5) rfl (nI_1 k) (by decide) rfl (fun ls hl => ?_)
            refine lv_goto (tgt := 44) hx hb dX5_next_114 (by decide) ?_
            exact ih44 (k + 1) ch2 be (by omega) ⟨by omega, by omega, (by rw [ech2]; exact hi2), (by rw [← hv, ech2, show 4 + na - k = (4 + na - (k + 1)) + 1 by omega]; exact hv2.symm)⟩ ls (lv_sub hl [2, 3, 4, 5, 0] rfl)
    exact loop44 5 na (-1) (-1) (by omega) ⟨by omega, by omega, Or.inl ⟨rfl, rfl⟩, (by rw [show 4 + na - na = 4 by omega])⟩ ls (lv_sub hl [4, 5, 2, 1, 0] rfl)
set_option maxHeartbeats 4000000 in
set_option maxRecDepth 100000 in
theorem M_X5_step (l : Launch) (D : va_G) (cI : ClassId) (d : Nat → Nat) (o : Nat) (σ : St) (cu : Nat) (sz : Nat) (hcu : cu < 8) (hok : okC σ cu) (hgo : σ 11 cu = 1) : Met l yX5_step wsX5_step ({ frames := 3, cells := 0, slots := 0, locals := 69 } : Room) (wrPc [.ref (d 0), .int (nI cu)] D (wSta d o cI σ) [(cI, .int)] sz) (wrQv D (wSta d o cI (stepF σ cu)) (va_A (wSta d o cI σ) sz)) 0 0 (va_A (wSta d o cI σ) sz) := by
  refine Met.ofW (cc := cX5_step) (maxL := 3) (ret := none) (by decide) rfl ?_
  intro p e s m args below meth c s₁ B hml hv
  obtain ⟨hargs, hsz, hP, hK, hD0⟩ := hv
  have hx := B.exec
  have hb := B.bytes
  have hr := B.returns
  have hts := atoms_spec (ws := wsX5_step) B.pre
  have hown : s.vm.findClass RX5 = some m.cls := findClass_of_methodNamed B.named
  have hlocks := B.notSynchronized
  obtain ⟨_, hN⟩ := id hK
  have hiX5 : ∀ w ∈ wsX50, w ∈ wsX5_step := by decide +kernel
  subst hsz
  have hD := hD0.self (sz := s.heap.size)
  generalize hAe : va_A (wSta d o cI σ) s.heap.size = A at hD ⊢
  have hA : ∀ q : Nat, s.heap.size ≤ q → A q := fun q h => by rw [← hAe]; exact Or.inr h
  have hS : va_S A s.heap s.heap [] := va_S.rf
  have hP : va_P D vwCl (wSta d o cI σ) s.heap := hP
  refine my_abs (fun Q hQ => ?_)
  obtain ⟨ls, hl, hent⟩ := my_entry (m := m) (n := 3) hargs (Nat.le_of_ble_eq_true rfl)
  rw [hent]
  have hl : lv_has ls 3 [(0, .ref (d 0)), (1, .int (nI cu))] := hl
  show W p l e ({ frames := 3, cells := 0, slots := 0, locals := 69 } : Room) s m args below meth c s.heap [] 0 0 Q (F0 m 0 ls [])
  refine lv_aload_n hx hb dX5_step_0 rfl (lv_at hl 0 rfl) ?_
  refine lv_iload_n hx hb dX5_step_1 rfl (lv_at hl 1 rfl) ?_
  refine lv_iconst (v := 2) hx hb dX5_step_2 (by decide) ?_
  refine rd_i (va_runV (As := [.int (nI cu), .int 2]) (rest := []) ⟨hx, hb, hml, hown, hts⟩ (M_X5_get l D cI d o σ cu 2 (by first | assumption | omega) (by first | assumption | omega)) (cwV 2 hts gX5_step_X5_get rfl rfl rfl (by decide +kernel) ⟨Nat.le_of_ble_eq_true rfl, Nat.le_of_ble_eq_true rfl⟩) (rdV hK hP [0, 1, 2, 3] [0] rfl rfl (ci := 5) (q0 := 0) rfl rfl) rfl rfl hl.1 rfl (lv_room (Nat.le_of_ble_eq_true rfl)) dX5_step_3 ⟨Nat.zero_le _, Nat.zero_le _⟩) ?_
  refine W.eq (g2 := F0 m 6 ls [.int (σ 7 cu)]) rfl ?_
  refine lv_if_ne (tgt := 13) hx hb dX5_step_6 (by decide) (fun c_1 => ?_) (fun c_1 => ?_)
  · skip
    refine lv_aload_n hx hb dX5_step_13 rfl (lv_at hl 0 rfl) ?_
    refine lv_iload_n hx hb dX5_step_14 rfl (lv_at hl 1 rfl) ?_
    refine rd_i (va_runV (As := [.int (nI cu)]) (rest := []) ⟨hx, hb, hml, hown, hts⟩ (M_X5_next l D cI d o σ cu (by first | assumption | omega) (by first | assumption | omega) (by first | assumption | omega)) (cwV 1 hts gX5_step_X5_next rfl rfl rfl (by decide +kernel) ⟨Nat.le_of_ble_eq_true rfl, Nat.le_of_ble_eq_true rfl⟩) (rdV hK hP [0, 1, 2, 3] [0] rfl rfl (ci := 5) (q0 := 0) rfl rfl) rfl rfl hl.1 rfl (lv_room (Nat.le_of_ble_eq_true rfl)) dX5_step_15 ⟨Nat.zero_le _, Nat.zero_le _⟩) ?_
    refine lv_istore_n (lv' := [(2, .int (nxF σ cu)), (0, .ref (d 0)), (1, .int (nI cu))]) hx hb dX5_step_18 rfl hl (by decide) rfl (fun ls hl => ?_)
    refine lv_iload_n hx hb dX5_step_19 rfl (lv_at hl 0 rfl) ?_
    refine lv_iconst (v := (-1)) hx hb dX5_step_20 (by decide) ?_
    refine lv_icmp_ne (tgt := 33) hx hb dX5_step_21 (by decide) (fun c_2 => ?_) (fun c_2 => ?_)
    · skip
      obtain ⟨tn, j, htn, hj, et, el, ep⟩ := nxF_pl hok (by assumption)
      have hq : ¬ (σ 7 cu = 0 ∨ lnF σ cu = -1) := fun z => z.elim (fun z => absurd z (by assumption)) (fun z => absurd (el.symm.trans z) (nI_m1 (by omega)))
      have hsg : stepF σ cu = stepG σ cu (nI tn) (nI j) (σ 5 cu + σ 6 cu) := by rw [← et, ← el]; exact if_neg hq
      have hl : lv_has ls 3 [(2, .int (nI (3 * tn + j))), (0, .ref (d 0)), (1, .int (nI cu))] := by rw [show nI (3 * tn + j) = nxF σ cu from ep.symm]; exact hl
      refine lv_aload_n hx hb dX5_step_33 rfl (lv_at hl 1 rfl) ?_
      refine lv_iload_n hx hb dX5_step_34 rfl (lv_at hl 2 rfl) ?_
      refine lv_iconst (v := 2) hx hb dX5_step_35 (by decide) ?_
      refine lv_aload_n hx hb dX5_step_36 rfl (lv_at hl 1 rfl) ?_
      refine lv_iload_n hx hb dX5_step_37 rfl (lv_at hl 2 rfl) ?_
      refine lv_iconst (v := 2) hx hb dX5_step_38 (by decide) ?_
      refine rd_i (va_runV (As := [.int (nI cu), .int 2]) (rest := [.int 2, .int (nI cu), .ref (d 0)]) ⟨hx, hb, hml, hown, hts⟩ (M_X5_get l D cI d o σ cu 2 (by first | assumption | omega) (by first | assumption | omega)) (cwV 2 hts gX5_step_X5_get rfl rfl rfl (by decide +kernel) ⟨Nat.le_of_ble_eq_true rfl, Nat.le_of_ble_eq_true rfl⟩) (rdV hK hP [0, 1, 2, 3] [0] rfl rfl (ci := 5) (q0 := 0) rfl rfl) rfl rfl hl.1 rfl (lv_room (Nat.le_of_ble_eq_true rfl)) dX5_step_39 ⟨Nat.zero_le _, Nat.zero_le _⟩) ?_
      refine W.eq (g2 := F0 m 42 ls [.int (σ 7 cu), .int 2, .int (nI cu), .ref (d 0)]) rfl ?_
      refine lv_iconst (v := 1) hx hb dX5_step_42 (by decide) ?_
      refine lv_isub hx hb dX5_step_43 ?_
      refine wr_v (wn := wStaE d o cI (σ 0 0) (σ 17 0) (σ 16 0) (σ 18 0) (σ 3) (σ 4) (σ 5) (σ 6) (upd ((σ 7)) cu ((σ 7 cu) - 1)) (σ 8) (σ 9) (σ 10) (σ 11) (σ 12) (σ 13)) (va_runV (As := [.int (nI cu), .int 2, .int ((σ 7 cu) - 1)]) (rest := []) ⟨hx, hb, hml, hown, hts⟩ (M_X5_set_2 l D cI d o σ cu ((σ 7 cu) - 1) _ (by first | assumption | omega)) (cwV 3 hts gX5_step_X5_set rfl rfl rfl (by decide +kernel) ⟨Nat.le_of_ble_eq_true rfl, Nat.le_of_ble_eq_true rfl⟩) (wrV hK hP hD [0, 1, 2, 3] [0] rfl rfl rfl (ci := 5) (q0 := 0) rfl rfl) rfl rfl hl.1 rfl (lv_room (Nat.le_of_ble_eq_true rfl)) dX5_step_44 ⟨Nat.le_of_ble_eq_true rfl, Nat.le_of_ble_eq_true rfl⟩) hP hD hS hA [0, 1, 2, 3] [] [0, 1, 2, 3] rfl rfl rfl rfl rfl rfl (fun H locs hP hD hS => ?_)
      refine lv_aload_n hx hb dX5_step_47 rfl (lv_at hl 1 rfl) ?_
      refine lv_iload_n hx hb dX5_step_48 rfl (lv_at hl 2 rfl) ?_
      refine lv_bipush (v := 7) hx hb dX5_step_49 (by decide) ?_
      refine lv_aload_n hx hb dX5_step_51 rfl (lv_at hl 1 rfl) ?_
      refine lv_iload_n hx hb dX5_step_52 rfl (lv_at hl 2 rfl) ?_
      refine lv_bipush (v := 7) hx hb dX5_step_53 (by decide) ?_
      refine rd_i (va_runV (As := [.int (nI cu), .int 7]) (rest := [.int 7, .int (nI cu), .ref (d 0)]) ⟨hx, hb, hml, hown, hts⟩ (M_X5_get l D cI d o (put σ 7 (upd ((σ 7)) cu ((σ 7 cu) - 1))) cu 7 (by first | assumption | omega) (by first | assumption | omega)) (cwV 2 hts gX5_step_X5_get rfl rfl rfl (by decide +kernel) ⟨Nat.le_of_ble_eq_true rfl, Nat.le_of_ble_eq_true rfl⟩) (rdV hK hP [0, 1, 2, 3] [0] rfl rfl (ci := 5) (q0 := 0) rfl rfl) rfl rfl hl.1 rfl (lv_room (Nat.le_of_ble_eq_true rfl)) dX5_step_55 ⟨Nat.zero_le _, Nat.zero_le _⟩) ?_
      refine W.eq (g2 := F0 m 58 ls [.int (σ 12 cu), .int 7, .int (nI cu), .ref (d 0)]) rfl ?_
      refine lv_iconst (v := 1) hx hb dX5_step_58 (by decide) ?_
      refine lv_iadd hx hb dX5_step_59 ?_
      refine wr_v (wn := wStaE d o cI (σ 0 0) (σ 17 0) (σ 16 0) (σ 18 0) (σ 3) (σ 4) (σ 5) (σ 6) (upd ((σ 7)) cu ((σ 7 cu) - 1)) (σ 8) (σ 9) (σ 10) (σ 11) (upd ((σ 12)) cu ((σ 12 cu) + 1)) (σ 13)) (va_runV (As := [.int (nI cu), .int 7, .int ((σ 12 cu) + 1)]) (rest := []) ⟨hx, hb, hml, hown, hts⟩ (M_X5_set_7 l D cI d o (put σ 7 (upd ((σ 7)) cu ((σ 7 cu) - 1))) cu ((σ 12 cu) + 1) _ (by first | assumption | omega)) (cwV 3 hts gX5_step_X5_set rfl rfl rfl (by decide +kernel) ⟨Nat.le_of_ble_eq_true rfl, Nat.le_of_ble_eq_true rfl⟩) (wrV hK hP hD [0, 1, 2, 3] [0] rfl rfl rfl (ci := 5) (q0 := 0) rfl rfl) rfl rfl hl.1 rfl (lv_room (Nat.le_of_ble_eq_true rfl)) dX5_step_60 ⟨Nat.le_of_ble_eq_true rfl, Nat.le_of_ble_eq_true rfl⟩) hP hD hS hA [0, 1, 2, 3] [] [0, 1, 2, 3] rfl rfl rfl rfl rfl rfl (fun H locs hP hD hS => ?_)
      refine lv_aload_n hx hb dX5_step_63 rfl (lv_at hl 1 rfl) ?_
      refine lv_iload_n hx hb dX5_step_64 rfl (lv_at hl 2 rfl) ?_
      refine lv_iconst (v := 3) hx hb dX5_step_65 (by decide) ?_
      refine lv_iload_n hx hb dX5_step_66 rfl (lv_at hl 0 rfl) ?_
      refine lv_iconst (v := 3) hx hb dX5_step_67 (by decide) ?_
      refine lv_idiv hx hb dX5_step_68 (by decide) ?_
      rw [show nI (3 * tn + j) / 3 = nI tn from div3 htn hj]
      refine wr_v (wn := wStaE d o cI (σ 0 0) (σ 17 0) (σ 16 0) (σ 18 0) (σ 3) (σ 4) (σ 5) (σ 6) (upd ((σ 7)) cu ((σ 7 cu) - 1)) (upd ((σ 8)) cu (nI tn)) (σ 9) (σ 10) (σ 11) (upd ((σ 12)) cu ((σ 12 cu) + 1)) (σ 13)) (va_runV (As := [.int (nI cu), .int 3, .int (nI tn)]) (rest := []) ⟨hx, hb, hml, hown, hts⟩ (M_X5_set_3 l D cI d o (put (put σ 7 (upd ((σ 7)) cu ((σ 7 cu) - 1))) 12 (upd ((σ 12)) cu ((σ 12 cu) + 1))) cu (nI tn) _ (by first | assumption | omega)) (cwV 3 hts gX5_step_X5_set rfl rfl rfl (by decide +kernel) ⟨Nat.le_of_ble_eq_true rfl, Nat.le_of_ble_eq_true rfl⟩) (wrV hK hP hD [0, 1, 2, 3] [0] rfl rfl rfl (ci := 5) (q0 := 0) rfl rfl) rfl rfl hl.1 rfl (lv_room (Nat.le_of_ble_eq_true rfl)) dX5_step_69 ⟨Nat.le_of_ble_eq_true rfl, Nat.le_of_ble_eq_true rfl⟩) hP hD hS hA [0, 1, 2, 3] [] [0, 1, 2, 3] rfl rfl rfl rfl rfl rfl (fun H locs hP hD hS => ?_)
      refine lv_aload_n hx hb dX5_step_72 rfl (lv_at hl 1 rfl) ?_
      refine lv_iload_n hx hb dX5_step_73 rfl (lv_at hl 2 rfl) ?_
      refine lv_iconst (v := 4) hx hb dX5_step_74 (by decide) ?_
      refine lv_iload_n hx hb dX5_step_75 rfl (lv_at hl 0 rfl) ?_
      refine lv_iconst (v := 3) hx hb dX5_step_76 (by decide) ?_
      refine lv_irem hx hb dX5_step_77 (by decide) ?_
      rw [show nI (3 * tn + j) - nI (3 * tn + j) / 3 * 3 = nI j from mod3 htn hj]
      refine wr_v (wn := wStaE d o cI (σ 0 0) (σ 17 0) (σ 16 0) (σ 18 0) (σ 3) (σ 4) (σ 5) (σ 6) (upd ((σ 7)) cu ((σ 7 cu) - 1)) (upd ((σ 8)) cu (nI tn)) (upd ((σ 9)) cu (nI j)) (σ 10) (σ 11) (upd ((σ 12)) cu ((σ 12 cu) + 1)) (σ 13)) (va_runV (As := [.int (nI cu), .int 4, .int (nI j)]) (rest := []) ⟨hx, hb, hml, hown, hts⟩ (M_X5_set_4 l D cI d o (put (put (put σ 7 (upd ((σ 7)) cu ((σ 7 cu) - 1))) 8 (upd ((σ 8)) cu (nI tn))) 12 (upd ((σ 12)) cu ((σ 12 cu) + 1))) cu (nI j) _ (by first | assumption | omega)) (cwV 3 hts gX5_step_X5_set rfl rfl rfl (by decide +kernel) ⟨Nat.le_of_ble_eq_true rfl, Nat.le_of_ble_eq_true rfl⟩) (wrV hK hP hD [0, 1, 2, 3] [0] rfl rfl rfl (ci := 5) (q0 := 0) rfl rfl) rfl rfl hl.1 rfl (lv_room (Nat.le_of_ble_eq_true rfl)) dX5_step_78 ⟨Nat.le_of_ble_eq_true rfl, Nat.le_of_ble_eq_true rfl⟩) hP hD hS hA [0, 1, 2, 3] [] [0, 1, 2, 3] rfl rfl rfl rfl rfl rfl (fun H locs hP hD hS => ?_)
      refine lv_aload_n hx hb dX5_step_81 rfl (lv_at hl 1 rfl) ?_
      refine lv_iload_n hx hb dX5_step_82 rfl (lv_at hl 0 rfl) ?_
      refine rd_i (va_runV (As := [.int (nI (3 * tn + j))]) (rest := []) ⟨hx, hb, hml, hown, hts⟩ (M_X5_holds l D cI d o (put (put (put (put σ 7 (upd ((σ 7)) cu ((σ 7 cu) - 1))) 8 (upd ((σ 8)) cu (nI tn))) 9 (upd ((σ 9)) cu (nI j))) 12 (upd ((σ 12)) cu ((σ 12 cu) + 1))) (3 * tn + j) (by omega)) (cwV 1 hts gX5_step_X5_holds rfl rfl rfl (by decide +kernel) ⟨Nat.le_of_ble_eq_true rfl, Nat.le_of_ble_eq_true rfl⟩) (rdV hK hP [0, 1, 2, 3] [0] rfl rfl (ci := 5) (q0 := 0) rfl rfl) rfl rfl hl.1 rfl (lv_room (Nat.le_of_ble_eq_true rfl)) dX5_step_83 ⟨Nat.zero_le _, Nat.zero_le _⟩) ?_
      refine W.eq (g2 := F0 m 86 ls [.int (sndP ((σ 3)) ((σ 4)) (nI (3 * tn + j)))]) rfl ?_
      refine lv_iconst (v := 2) hx hb dX5_step_86 (by decide) ?_
      refine lv_aload_n hx hb dX5_step_87 rfl (lv_at hl 1 rfl) ?_
      refine lv_iload_n hx hb dX5_step_88 rfl (lv_at hl 2 rfl) ?_
      refine rd_i (va_runV (As := [.int (nI cu)]) (rest := [.int 2, .int (sndP ((σ 3)) ((σ 4)) (nI (3 * tn + j)))]) ⟨hx, hb, hml, hown, hts⟩ (M_X5_load l D cI d o (put (put (put (put σ 7 (upd ((σ 7)) cu ((σ 7 cu) - 1))) 8 (upd ((σ 8)) cu (nI tn))) 9 (upd ((σ 9)) cu (nI j))) 12 (upd ((σ 12)) cu ((σ 12 cu) + 1))) cu (by first | assumption | omega)) (cwV 1 hts gX5_step_X5_load rfl rfl rfl (by decide +kernel) ⟨Nat.le_of_ble_eq_true rfl, Nat.le_of_ble_eq_true rfl⟩) (rdV hK hP [0, 1, 2, 3] [0] rfl rfl (ci := 5) (q0 := 0) rfl rfl) rfl rfl hl.1 rfl (lv_room (Nat.le_of_ble_eq_true rfl)) dX5_step_89 ⟨Nat.zero_le _, Nat.zero_le _⟩) ?_
      refine W.eq (g2 := F0 m 92 ls [.int ((σ 5) cu + (σ 6) cu), .int 2, .int (sndP ((σ 3)) ((σ 4)) (nI (3 * tn + j)))]) rfl ?_
      refine lv_imul hx hb dX5_step_92 ?_
      refine lv_icmp_ge (tgt := 115) hx hb dX5_step_93 (by decide) (fun c_3 => ?_) (fun c_3 => ?_)
      · skip
        have hX : (σ 4) = wsC (σ 3) (σ 4) (nI tn) (nI j) (σ 5 cu + σ 6 cu) := by first | exact wsC_t (by omega) (by assumption) | exact wsC_f (by assumption)
        rw [hX] at hP hD
        refine lv_aload_n hx hb dX5_step_115 rfl (lv_at hl 1 rfl) ?_
        refine lv_iload_n hx hb dX5_step_116 rfl (lv_at hl 0 rfl) ?_
        refine rd_i (va_runV (As := [.int (nI (3 * tn + j))]) (rest := []) ⟨hx, hb, hml, hown, hts⟩ (M_X5_holds l D cI d o (put (put (put (put (put σ 4 (wsC (σ 3) (σ 4) (nI tn) (nI j) (σ 5 cu + σ 6 cu))) 7 (upd ((σ 7)) cu ((σ 7 cu) - 1))) 8 (upd ((σ 8)) cu (nI tn))) 9 (upd ((σ 9)) cu (nI j))) 12 (upd ((σ 12)) cu ((σ 12 cu) + 1))) (3 * tn + j) (by omega)) (cwV 1 hts gX5_step_X5_holds rfl rfl rfl (by decide +kernel) ⟨Nat.le_of_ble_eq_true rfl, Nat.le_of_ble_eq_true rfl⟩) (rdV hK hP [0, 1, 2, 3] [0] rfl rfl (ci := 5) (q0 := 0) rfl rfl) rfl rfl hl.1 rfl (lv_room (Nat.le_of_ble_eq_true rfl)) dX5_step_117 ⟨Nat.zero_le _, Nat.zero_le _⟩) ?_
        refine W.eq (g2 := F0 m 120 ls [.int (sndP ((σ 3)) ((wsC (σ 3) (σ 4) (nI tn) (nI j) (σ 5 cu + σ 6 cu))) (nI (3 * tn + j)))]) rfl ?_
        rw [snd2_eq (by omega)]
        refine lv_aload_n hx hb dX5_step_120 rfl (lv_at hl 1 rfl) ?_
        refine lv_iload_n hx hb dX5_step_121 rfl (lv_at hl 2 rfl) ?_
        refine rd_i (va_runV (As := [.int (nI cu)]) (rest := [.int (snd2 (σ 3) (σ 4) (nI tn) (nI j) (σ 5 cu + σ 6 cu))]) ⟨hx, hb, hml, hown, hts⟩ (M_X5_load l D cI d o (put (put (put (put (put σ 4 (wsC (σ 3) (σ 4) (nI tn) (nI j) (σ 5 cu + σ 6 cu))) 7 (upd ((σ 7)) cu ((σ 7 cu) - 1))) 8 (upd ((σ 8)) cu (nI tn))) 9 (upd ((σ 9)) cu (nI j))) 12 (upd ((σ 12)) cu ((σ 12 cu) + 1))) cu (by first | assumption | omega)) (cwV 1 hts gX5_step_X5_load rfl rfl rfl (by decide +kernel) ⟨Nat.le_of_ble_eq_true rfl, Nat.le_of_ble_eq_true rfl⟩) (rdV hK hP [0, 1, 2, 3] [0] rfl rfl (ci := 5) (q0 := 0) rfl rfl) rfl rfl hl.1 rfl (lv_room (Nat.le_of_ble_eq_true rfl)) dX5_step_122 ⟨Nat.zero_le _, Nat.zero_le _⟩) ?_
        refine W.eq (g2 := F0 m 125 ls [.int ((σ 5) cu + (σ 6) cu), .int (snd2 (σ 3) (σ 4) (nI tn) (nI j) (σ 5 cu + σ 6 cu))]) rfl ?_
        refine lv_icmp_ge (tgt := 153) hx hb dX5_step_125 (by decide) (fun c_4 => ?_) (fun c_4 => ?_)
        · skip
          refine lv_iload_n hx hb dX5_step_153 rfl (lv_at hl 0 rfl) ?_
          refine lv_iconst (v := 3) hx hb dX5_step_154 (by decide) ?_
          refine lv_idiv hx hb dX5_step_155 (by decide) ?_
          rw [show nI (3 * tn + j) / 3 = nI tn from div3 htn hj]
          refine lv_aload_n hx hb dX5_step_156 rfl (lv_at hl 1 rfl) ?_
          refine lv_iload_n hx hb dX5_step_157 rfl (lv_at hl 2 rfl) ?_
          refine lv_iconst (v := 5) hx hb dX5_step_158 (by decide) ?_
          refine rd_i (va_runV (As := [.int (nI cu), .int 5]) (rest := [.int (nI tn)]) ⟨hx, hb, hml, hown, hts⟩ (M_X5_get l D cI d o (put (put (put (put (put σ 4 (wsC (σ 3) (σ 4) (nI tn) (nI j) (σ 5 cu + σ 6 cu))) 7 (upd ((σ 7)) cu ((σ 7 cu) - 1))) 8 (upd ((σ 8)) cu (nI tn))) 9 (upd ((σ 9)) cu (nI j))) 12 (upd ((σ 12)) cu ((σ 12 cu) + 1))) cu 5 (by first | assumption | omega) (by first | assumption | omega)) (cwV 2 hts gX5_step_X5_get rfl rfl rfl (by decide +kernel) ⟨Nat.le_of_ble_eq_true rfl, Nat.le_of_ble_eq_true rfl⟩) (rdV hK hP [0, 1, 2, 3] [0] rfl rfl (ci := 5) (q0 := 0) rfl rfl) rfl rfl hl.1 rfl (lv_room (Nat.le_of_ble_eq_true rfl)) dX5_step_159 ⟨Nat.zero_le _, Nat.zero_le _⟩) ?_
          refine W.eq (g2 := F0 m 162 ls [.int (σ 10 cu), .int (nI tn)]) rfl ?_
          refine lv_icmp_ne (tgt := 183) hx hb dX5_step_162 (by decide) (fun c_5 => ?_) (fun c_5 => ?_)
          · skip
            subst hQ
            have hP : va_P D vwCl (wSta d o cI (put (put (put (put (put σ 4 (wsC (σ 3) (σ 4) (nI tn) (nI j) (σ 5 cu + σ 6 cu))) 7 (upd ((σ 7)) cu ((σ 7 cu) - 1))) 8 (upd ((σ 8)) cu (nI tn))) 9 (upd ((σ 9)) cu (nI j))) 12 (upd ((σ 12)) cu ((σ 12 cu) + 1)))) H := hP
            have hD : va_D A (wSta d o cI (put (put (put (put (put σ 4 (wsC (σ 3) (σ 4) (nI tn) (nI j) (σ 5 cu + σ 6 cu))) 7 (upd ((σ 7)) cu ((σ 7 cu) - 1))) 8 (upd ((σ 8)) cu (nI tn))) 9 (upd ((σ 9)) cu (nI j))) 12 (upd ((σ 12)) cu ((σ 12 cu) + 1)))) := hD
            have hst_s : put (put (put (put (put σ 4 (wsC (σ 3) (σ 4) (nI tn) (nI j) (σ 5 cu + σ 6 cu))) 7 (upd ((σ 7)) cu ((σ 7 cu) - 1))) 8 (upd ((σ 8)) cu (nI tn))) 9 (upd ((σ 9)) cu (nI j))) 12 (upd ((σ 12)) cu ((σ 12 cu) + 1)) = stepF σ cu := (by rw [hsg]; unfold stepG; (first | (rw [if_pos (by assumption)]; unfold stepB stepM; rw [wsT_f (by omega) (by assumption)]) | (rw [if_neg (fun z => z (by assumption)), if_pos (by assumption)]; unfold stepA stepM; rw [wsT_t (by assumption)]) | (rw [if_neg (fun z => z (by assumption)), if_neg (by assumption)]; unfold stepM; rw [wsT_t (by assumption)])); unfold stepN; funext z; simp only [put]; (repeat' split); all_goals first | rfl | (exfalso; omega) | (subst_vars; rfl))
            rw [hst_s] at hP hD
            exact ret_wrv hx hb hr hlocks hP hD hS dX5_step_183
          · skip
            refine lv_aload_n hx hb dX5_step_165 rfl (lv_at hl 1 rfl) ?_
            refine lv_iload_n hx hb dX5_step_166 rfl (lv_at hl 2 rfl) ?_
            refine lv_bipush (v := 6) hx hb dX5_step_167 (by decide) ?_
            refine lv_iconst (v := 2) hx hb dX5_step_169 (by decide) ?_
            refine wr_v (wn := wStaE d o cI (σ 0 0) (σ 17 0) (σ 16 0) (σ 18 0) (σ 3) (wsC (σ 3) (σ 4) (nI tn) (nI j) (σ 5 cu + σ 6 cu)) (σ 5) (σ 6) (upd ((σ 7)) cu ((σ 7 cu) - 1)) (upd ((σ 8)) cu (nI tn)) (upd ((σ 9)) cu (nI j)) (σ 10) (upd ((σ 11)) cu 2) (upd ((σ 12)) cu ((σ 12 cu) + 1)) (σ 13)) (va_runV (As := [.int (nI cu), .int 6, .int 2]) (rest := []) ⟨hx, hb, hml, hown, hts⟩ (M_X5_set_6 l D cI d o (put (put (put (put (put σ 4 (wsC (σ 3) (σ 4) (nI tn) (nI j) (σ 5 cu + σ 6 cu))) 7 (upd ((σ 7)) cu ((σ 7 cu) - 1))) 8 (upd ((σ 8)) cu (nI tn))) 9 (upd ((σ 9)) cu (nI j))) 12 (upd ((σ 12)) cu ((σ 12 cu) + 1))) cu 2 _ (by first | assumption | omega)) (cwV 3 hts gX5_step_X5_set rfl rfl rfl (by decide +kernel) ⟨Nat.le_of_ble_eq_true rfl, Nat.le_of_ble_eq_true rfl⟩) (wrV hK hP hD [0, 1, 2, 3] [0] rfl rfl rfl (ci := 5) (q0 := 0) rfl rfl) rfl rfl hl.1 rfl (lv_room (Nat.le_of_ble_eq_true rfl)) dX5_step_170 ⟨Nat.le_of_ble_eq_true rfl, Nat.le_of_ble_eq_true rfl⟩) hP hD hS hA [0, 1, 2, 3] [] [0, 1, 2, 3] rfl rfl rfl rfl rfl rfl (fun H locs hP hD hS => ?_)
            refine lv_aload_n hx hb dX5_step_173 rfl (lv_at hl 1 rfl) ?_
            refine lv_dup hx hb dX5_step_174 rfl ?_
            refine va_get (D := D) (ci := 5) (v := .int (σ 18 0)) (C := RX5) (T := TX5) (N := 8) hx hb hts hiX5 hown hK.1 hP 0 rfl rfl 3 (by decide) (hts (.fieldLink RX5 41 "IceLanesModel$State" "came" "I") (by decide +kernel)) (fun _ h9 => h9) rfl dX5_step_175 ?_
            refine lv_iconst (v := 1) hx hb dX5_step_178 (by decide) ?_
            refine lv_iadd hx hb dX5_step_179 ?_
            refine va_put (D := D) (ci := 5) (v := .int ((σ 18 0) + 1)) (ty := .int) (C := RX5) (T := TX5) (N := 8) hx hb hts hiX5 tyX5 tyX5_ok nmX5 hown hK.1 hP hD hS 0 rfl rfl 3 (by decide) (hts (.fieldLink RX5 41 "IceLanesModel$State" "came" "I") (by decide +kernel)) (fun _ h9 => h9) rfl (by decide +kernel) rfl rfl (Nat.le_of_ble_eq_true rfl) dX5_step_180 (fun H locs hP hD hS => ?_)
            have hP : va_P D vwCl (wStaE d o cI (σ 0 0) (σ 17 0) (σ 16 0) ((σ 18 0) + 1) (σ 3) (wsC (σ 3) (σ 4) (nI tn) (nI j) (σ 5 cu + σ 6 cu)) (σ 5) (σ 6) (upd ((σ 7)) cu ((σ 7 cu) - 1)) (upd ((σ 8)) cu (nI tn)) (upd ((σ 9)) cu (nI j)) (σ 10) (upd ((σ 11)) cu 2) (upd ((σ 12)) cu ((σ 12 cu) + 1)) (σ 13)) H := hP
            have hD : va_D A (wStaE d o cI (σ 0 0) (σ 17 0) (σ 16 0) ((σ 18 0) + 1) (σ 3) (wsC (σ 3) (σ 4) (nI tn) (nI j) (σ 5 cu + σ 6 cu)) (σ 5) (σ 6) (upd ((σ 7)) cu ((σ 7 cu) - 1)) (upd ((σ 8)) cu (nI tn)) (upd ((σ 9)) cu (nI j)) (σ 10) (upd ((σ 11)) cu 2) (upd ((σ 12)) cu ((σ 12 cu) + 1)) (σ 13)) := hD
            subst hQ
            have hP : va_P D vwCl (wSta d o cI (put (put (put (put (put (put (put σ 4 (wsC (σ 3) (σ 4) (nI tn) (nI j) (σ 5 cu + σ 6 cu))) 7 (upd ((σ 7)) cu ((σ 7 cu) - 1))) 8 (upd ((σ 8)) cu (nI tn))) 9 (upd ((σ 9)) cu (nI j))) 11 (upd ((σ 11)) cu 2)) 12 (upd ((σ 12)) cu ((σ 12 cu) + 1))) 18 (fun _ => (σ 18 0) + 1))) H := hP
            have hD : va_D A (wSta d o cI (put (put (put (put (put (put (put σ 4 (wsC (σ 3) (σ 4) (nI tn) (nI j) (σ 5 cu + σ 6 cu))) 7 (upd ((σ 7)) cu ((σ 7 cu) - 1))) 8 (upd ((σ 8)) cu (nI tn))) 9 (upd ((σ 9)) cu (nI j))) 11 (upd ((σ 11)) cu 2)) 12 (upd ((σ 12)) cu ((σ 12 cu) + 1))) 18 (fun _ => (σ 18 0) + 1))) := hD
            have hst_s : put (put (put (put (put (put (put σ 4 (wsC (σ 3) (σ 4) (nI tn) (nI j) (σ 5 cu + σ 6 cu))) 7 (upd ((σ 7)) cu ((σ 7 cu) - 1))) 8 (upd ((σ 8)) cu (nI tn))) 9 (upd ((σ 9)) cu (nI j))) 11 (upd ((σ 11)) cu 2)) 12 (upd ((σ 12)) cu ((σ 12 cu) + 1))) 18 (fun _ => (σ 18 0) + 1) = stepF σ cu := (by rw [hsg]; unfold stepG; (first | (rw [if_pos (by assumption)]; unfold stepB stepM; rw [wsT_f (by omega) (by assumption)]) | (rw [if_neg (fun z => z (by assumption)), if_pos (by assumption)]; unfold stepA stepM; rw [wsT_t (by assumption)]) | (rw [if_neg (fun z => z (by assumption)), if_neg (by assumption)]; unfold stepM; rw [wsT_t (by assumption)])); unfold stepN; funext z; simp only [put]; (repeat' split); all_goals first | rfl | (exfalso; omega) | (subst_vars; rfl))
            rw [hst_s] at hP hD
            exact ret_wrv hx hb hr hlocks hP hD hS dX5_step_183
        · skip
          refine lv_aload_n hx hb dX5_step_128 rfl (lv_at hl 1 rfl) ?_
          refine lv_iload_n hx hb dX5_step_129 rfl (lv_at hl 2 rfl) ?_
          refine lv_bipush (v := 6) hx hb dX5_step_130 (by decide) ?_
          refine lv_iconst (v := 3) hx hb dX5_step_132 (by decide) ?_
          refine wr_v (wn := wStaE d o cI (σ 0 0) (σ 17 0) (σ 16 0) (σ 18 0) (σ 3) (wsC (σ 3) (σ 4) (nI tn) (nI j) (σ 5 cu + σ 6 cu)) (σ 5) (σ 6) (upd ((σ 7)) cu ((σ 7 cu) - 1)) (upd ((σ 8)) cu (nI tn)) (upd ((σ 9)) cu (nI j)) (σ 10) (upd ((σ 11)) cu 3) (upd ((σ 12)) cu ((σ 12 cu) + 1)) (σ 13)) (va_runV (As := [.int (nI cu), .int 6, .int 3]) (rest := []) ⟨hx, hb, hml, hown, hts⟩ (M_X5_set_6 l D cI d o (put (put (put (put (put σ 4 (wsC (σ 3) (σ 4) (nI tn) (nI j) (σ 5 cu + σ 6 cu))) 7 (upd ((σ 7)) cu ((σ 7 cu) - 1))) 8 (upd ((σ 8)) cu (nI tn))) 9 (upd ((σ 9)) cu (nI j))) 12 (upd ((σ 12)) cu ((σ 12 cu) + 1))) cu 3 _ (by first | assumption | omega)) (cwV 3 hts gX5_step_X5_set rfl rfl rfl (by decide +kernel) ⟨Nat.le_of_ble_eq_true rfl, Nat.le_of_ble_eq_true rfl⟩) (wrV hK hP hD [0, 1, 2, 3] [0] rfl rfl rfl (ci := 5) (q0 := 0) rfl rfl) rfl rfl hl.1 rfl (lv_room (Nat.le_of_ble_eq_true rfl)) dX5_step_133 ⟨Nat.le_of_ble_eq_true rfl, Nat.le_of_ble_eq_true rfl⟩) hP hD hS hA [0, 1, 2, 3] [] [0, 1, 2, 3] rfl rfl rfl rfl rfl rfl (fun H locs hP hD hS => ?_)
          refine lv_aload_n hx hb dX5_step_136 rfl (lv_at hl 1 rfl) ?_
          refine lv_iload_n hx hb dX5_step_137 rfl (lv_at hl 2 rfl) ?_
          refine lv_iconst (v := 1) hx hb dX5_step_138 (by decide) ?_
          refine lv_iconst (v := 0) hx hb dX5_step_139 (by decide) ?_
          refine wr_v (wn := wStaE d o cI (σ 0 0) (σ 17 0) (σ 16 0) (σ 18 0) (σ 3) (wsC (σ 3) (σ 4) (nI tn) (nI j) (σ 5 cu + σ 6 cu)) (σ 5) (upd ((σ 6)) cu 0) (upd ((σ 7)) cu ((σ 7 cu) - 1)) (upd ((σ 8)) cu (nI tn)) (upd ((σ 9)) cu (nI j)) (σ 10) (upd ((σ 11)) cu 3) (upd ((σ 12)) cu ((σ 12 cu) + 1)) (σ 13)) (va_runV (As := [.int (nI cu), .int 1, .int 0]) (rest := []) ⟨hx, hb, hml, hown, hts⟩ (M_X5_set_1 l D cI d o (put (put (put (put (put (put σ 4 (wsC (σ 3) (σ 4) (nI tn) (nI j) (σ 5 cu + σ 6 cu))) 7 (upd ((σ 7)) cu ((σ 7 cu) - 1))) 8 (upd ((σ 8)) cu (nI tn))) 9 (upd ((σ 9)) cu (nI j))) 11 (upd ((σ 11)) cu 3)) 12 (upd ((σ 12)) cu ((σ 12 cu) + 1))) cu 0 _ (by first | assumption | omega)) (cwV 3 hts gX5_step_X5_set rfl rfl rfl (by decide +kernel) ⟨Nat.le_of_ble_eq_true rfl, Nat.le_of_ble_eq_true rfl⟩) (wrV hK hP hD [0, 1, 2, 3] [0] rfl rfl rfl (ci := 5) (q0 := 0) rfl rfl) rfl rfl hl.1 rfl (lv_room (Nat.le_of_ble_eq_true rfl)) dX5_step_140 ⟨Nat.le_of_ble_eq_true rfl, Nat.le_of_ble_eq_true rfl⟩) hP hD hS hA [0, 1, 2, 3] [] [0, 1, 2, 3] rfl rfl rfl rfl rfl rfl (fun H locs hP hD hS => ?_)
          refine lv_aload_n hx hb dX5_step_143 rfl (lv_at hl 1 rfl) ?_
          refine va_get (D := D) (ci := 5) (v := .ref (d 1)) (C := RX5) (T := TX5) (N := 8) hx hb hts hiX5 hown hK.1 hP 0 rfl rfl 4 (by decide) (hts (.fieldLink RX5 19 "IceLanesModel$State" "ice" "[I") (by decide +kernel)) (fun _ h9 => h9) rfl dX5_step_144 ?_
          refine lv_iload_n hx hb dX5_step_147 rfl (lv_at hl 0 rfl) ?_
          refine lv_iconst (v := 0) hx hb dX5_step_148 (by decide) ?_
          refine va_iast hx hb hK.1 hP hD hS 1 0 rfl rfl (by first | assumption | exact vp_in_nI (by omega) (by decide)) dX5_step_149 (fun H locs hP hD hS => ?_)
          rw [nI_clamp (n := (3 * tn + j)) (by omega)] at hP hD
          have hP : va_P D vwCl (wStaE d o cI (σ 0 0) (σ 17 0) (σ 16 0) (σ 18 0) (upd (σ 3) (3 * tn + j) 0) (wsC (σ 3) (σ 4) (nI tn) (nI j) (σ 5 cu + σ 6 cu)) (σ 5) (upd ((σ 6)) cu 0) (upd ((σ 7)) cu ((σ 7 cu) - 1)) (upd ((σ 8)) cu (nI tn)) (upd ((σ 9)) cu (nI j)) (σ 10) (upd ((σ 11)) cu 3) (upd ((σ 12)) cu ((σ 12 cu) + 1)) (σ 13)) H := hP
          have hD : va_D A (wStaE d o cI (σ 0 0) (σ 17 0) (σ 16 0) (σ 18 0) (upd (σ 3) (3 * tn + j) 0) (wsC (σ 3) (σ 4) (nI tn) (nI j) (σ 5 cu + σ 6 cu)) (σ 5) (upd ((σ 6)) cu 0) (upd ((σ 7)) cu ((σ 7 cu) - 1)) (upd ((σ 8)) cu (nI tn)) (upd ((σ 9)) cu (nI j)) (σ 10) (upd ((σ 11)) cu 3) (upd ((σ 12)) cu ((σ 12 cu) + 1)) (σ 13)) := hD
          refine lv_goto (tgt := 183) hx hb dX5_step_150 (by decide) ?_
          subst hQ
          have hP : va_P D vwCl (wSta d o cI (put (put (put (put (put (put (put (put σ 3 (upd (σ 3) (3 * tn + j) 0)) 4 (wsC (σ 3) (σ 4) (nI tn) (nI j) (σ 5 cu + σ 6 cu))) 6 (upd ((σ 6)) cu 0)) 7 (upd ((σ 7)) cu ((σ 7 cu) - 1))) 8 (upd ((σ 8)) cu (nI tn))) 9 (upd ((σ 9)) cu (nI j))) 11 (upd ((σ 11)) cu 3)) 12 (upd ((σ 12)) cu ((σ 12 cu) + 1)))) H := hP
          have hD : va_D A (wSta d o cI (put (put (put (put (put (put (put (put σ 3 (upd (σ 3) (3 * tn + j) 0)) 4 (wsC (σ 3) (σ 4) (nI tn) (nI j) (σ 5 cu + σ 6 cu))) 6 (upd ((σ 6)) cu 0)) 7 (upd ((σ 7)) cu ((σ 7 cu) - 1))) 8 (upd ((σ 8)) cu (nI tn))) 9 (upd ((σ 9)) cu (nI j))) 11 (upd ((σ 11)) cu 3)) 12 (upd ((σ 12)) cu ((σ 12 cu) + 1)))) := hD
          have hst_s : put (put (put (put (put (put (put (put σ 3 (upd (σ 3) (3 * tn + j) 0)) 4 (wsC (σ 3) (σ 4) (nI tn) (nI j) (σ 5 cu + σ 6 cu))) 6 (upd ((σ 6)) cu 0)) 7 (upd ((σ 7)) cu ((σ 7 cu) - 1))) 8 (upd ((σ 8)) cu (nI tn))) 9 (upd ((σ 9)) cu (nI j))) 11 (upd ((σ 11)) cu 3)) 12 (upd ((σ 12)) cu ((σ 12 cu) + 1)) = stepF σ cu := (by rw [hsg]; unfold stepG; (first | (rw [if_pos (by assumption)]; unfold stepB stepM; rw [wsT_f (by omega) (by assumption)]) | (rw [if_neg (fun z => z (by assumption)), if_pos (by assumption)]; unfold stepA stepM; rw [wsT_t (by assumption)]) | (rw [if_neg (fun z => z (by assumption)), if_neg (by assumption)]; unfold stepM; rw [wsT_t (by assumption)])); unfold stepN; funext z; simp only [put]; (repeat' split); all_goals first | rfl | (exfalso; omega) | (subst_vars; rfl))
          rw [hst_s] at hP hD
          exact ret_wrv hx hb hr hlocks hP hD hS dX5_step_183
      · skip
        refine lv_aload_n hx hb dX5_step_96 rfl (lv_at hl 1 rfl) ?_
        refine va_get (D := D) (ci := 5) (v := .ref (d 2)) (C := RX5) (T := TX5) (N := 8) hx hb hts hiX5 hown hK.1 hP 0 rfl rfl 5 (by decide) (hts (.fieldLink RX5 23 "IceLanesModel$State" "cracks" "[I") (by decide +kernel)) (fun _ h9 => h9) rfl dX5_step_97 ?_
        refine lv_iload_n hx hb dX5_step_100 rfl (lv_at hl 0 rfl) ?_
        refine lv_bipush (v := 9) hx hb dX5_step_101 (by decide) ?_
        refine lv_aload_n hx hb dX5_step_103 rfl (lv_at hl 1 rfl) ?_
        refine va_get (D := D) (ci := 5) (v := .ref (d 2)) (C := RX5) (T := TX5) (N := 8) hx hb hts hiX5 hown hK.1 hP 0 rfl rfl 5 (by decide) (hts (.fieldLink RX5 23 "IceLanesModel$State" "cracks" "[I") (by decide +kernel)) (fun _ h9 => h9) rfl dX5_step_104 ?_
        refine lv_iload_n hx hb dX5_step_107 rfl (lv_at hl 0 rfl) ?_
        refine va_iald hx hb hK.1 hP 2 0 rfl rfl (by first | assumption | exact vp_in_nI (by omega) (by decide)) dX5_step_108 ?_
        rw [nI_clamp (n := (3 * tn + j)) (by omega)]
        refine lv_iconst (v := 1) hx hb dX5_step_109 (by decide) ?_
        refine lv_iadd hx hb dX5_step_110 ?_
        refine va_mmin hx hb (by rw [hml]; exact hl.1.symm) hown (hts (.methodLink RX5 55 Lib.Math.min.name) (by decide +kernel)) (hts (.static Lib.Math.min.name) (by decide +kernel)) (hts (.initialized "java/lang/Math") (by decide +kernel)) (hts (.code Lib.Math.min.name Lib.Math.min.code 2 (some .int)) (by decide +kernel)) (Nat.le_of_ble_eq_true rfl) (Nat.le_of_ble_eq_true rfl) (Nat.zero_le _) (Nat.zero_le _) dX5_step_111 ?_
        refine W.eq (g2 := F0 m 114 ls [.int (mn 9 ((σ 4 (3 * tn + j)) + 1)), .int (nI (3 * tn + j)), .ref (d 2)]) rfl ?_
        refine va_iast hx hb hK.1 hP hD hS 2 0 rfl rfl (by first | assumption | exact vp_in_nI (by omega) (by decide)) dX5_step_114 (fun H locs hP hD hS => ?_)
        rw [nI_clamp (n := (3 * tn + j)) (by omega)] at hP hD
        have hP : va_P D vwCl (wStaE d o cI (σ 0 0) (σ 17 0) (σ 16 0) (σ 18 0) (σ 3) (upd (σ 4) (3 * tn + j) (mn 9 ((σ 4 (3 * tn + j)) + 1))) (σ 5) (σ 6) (upd ((σ 7)) cu ((σ 7 cu) - 1)) (upd ((σ 8)) cu (nI tn)) (upd ((σ 9)) cu (nI j)) (σ 10) (σ 11) (upd ((σ 12)) cu ((σ 12 cu) + 1)) (σ 13)) H := hP
        have hD : va_D A (wStaE d o cI (σ 0 0) (σ 17 0) (σ 16 0) (σ 18 0) (σ 3) (upd (σ 4) (3 * tn + j) (mn 9 ((σ 4 (3 * tn + j)) + 1))) (σ 5) (σ 6) (upd ((σ 7)) cu ((σ 7 cu) - 1)) (upd ((σ 8)) cu (nI tn)) (upd ((σ 9)) cu (nI j)) (σ 10) (σ 11) (upd ((σ 12)) cu ((σ 12 cu) + 1)) (σ 13)) := hD
        have hX : (upd (σ 4) (3 * tn + j) (mn 9 ((σ 4 (3 * tn + j)) + 1))) = wsC (σ 3) (σ 4) (nI tn) (nI j) (σ 5 cu + σ 6 cu) := by first | exact wsC_t (by omega) (by assumption) | exact wsC_f (by assumption)
        rw [hX] at hP hD
        refine lv_aload_n hx hb dX5_step_115 rfl (lv_at hl 1 rfl) ?_
        refine lv_iload_n hx hb dX5_step_116 rfl (lv_at hl 0 rfl) ?_
        refine rd_i (va_runV (As := [.int (nI (3 * tn + j))]) (rest := []) ⟨hx, hb, hml, hown, hts⟩ (M_X5_holds l D cI d o (put (put (put (put (put σ 4 (wsC (σ 3) (σ 4) (nI tn) (nI j) (σ 5 cu + σ 6 cu))) 7 (upd ((σ 7)) cu ((σ 7 cu) - 1))) 8 (upd ((σ 8)) cu (nI tn))) 9 (upd ((σ 9)) cu (nI j))) 12 (upd ((σ 12)) cu ((σ 12 cu) + 1))) (3 * tn + j) (by omega)) (cwV 1 hts gX5_step_X5_holds rfl rfl rfl (by decide +kernel) ⟨Nat.le_of_ble_eq_true rfl, Nat.le_of_ble_eq_true rfl⟩) (rdV hK hP [0, 1, 2, 3] [0] rfl rfl (ci := 5) (q0 := 0) rfl rfl) rfl rfl hl.1 rfl (lv_room (Nat.le_of_ble_eq_true rfl)) dX5_step_117 ⟨Nat.zero_le _, Nat.zero_le _⟩) ?_
        refine W.eq (g2 := F0 m 120 ls [.int (sndP ((σ 3)) ((wsC (σ 3) (σ 4) (nI tn) (nI j) (σ 5 cu + σ 6 cu))) (nI (3 * tn + j)))]) rfl ?_
        rw [snd2_eq (by omega)]
        refine lv_aload_n hx hb dX5_step_120 rfl (lv_at hl 1 rfl) ?_
        refine lv_iload_n hx hb dX5_step_121 rfl (lv_at hl 2 rfl) ?_
        refine rd_i (va_runV (As := [.int (nI cu)]) (rest := [.int (snd2 (σ 3) (σ 4) (nI tn) (nI j) (σ 5 cu + σ 6 cu))]) ⟨hx, hb, hml, hown, hts⟩ (M_X5_load l D cI d o (put (put (put (put (put σ 4 (wsC (σ 3) (σ 4) (nI tn) (nI j) (σ 5 cu + σ 6 cu))) 7 (upd ((σ 7)) cu ((σ 7 cu) - 1))) 8 (upd ((σ 8)) cu (nI tn))) 9 (upd ((σ 9)) cu (nI j))) 12 (upd ((σ 12)) cu ((σ 12 cu) + 1))) cu (by first | assumption | omega)) (cwV 1 hts gX5_step_X5_load rfl rfl rfl (by decide +kernel) ⟨Nat.le_of_ble_eq_true rfl, Nat.le_of_ble_eq_true rfl⟩) (rdV hK hP [0, 1, 2, 3] [0] rfl rfl (ci := 5) (q0 := 0) rfl rfl) rfl rfl hl.1 rfl (lv_room (Nat.le_of_ble_eq_true rfl)) dX5_step_122 ⟨Nat.zero_le _, Nat.zero_le _⟩) ?_
        refine W.eq (g2 := F0 m 125 ls [.int ((σ 5) cu + (σ 6) cu), .int (snd2 (σ 3) (σ 4) (nI tn) (nI j) (σ 5 cu + σ 6 cu))]) rfl ?_
        refine lv_icmp_ge (tgt := 153) hx hb dX5_step_125 (by decide) (fun c_6 => ?_) (fun c_6 => ?_)
        · skip
          refine lv_iload_n hx hb dX5_step_153 rfl (lv_at hl 0 rfl) ?_
          refine lv_iconst (v := 3) hx hb dX5_step_154 (by decide) ?_
          refine lv_idiv hx hb dX5_step_155 (by decide) ?_
          rw [show nI (3 * tn + j) / 3 = nI tn from div3 htn hj]
          refine lv_aload_n hx hb dX5_step_156 rfl (lv_at hl 1 rfl) ?_
          refine lv_iload_n hx hb dX5_step_157 rfl (lv_at hl 2 rfl) ?_
          refine lv_iconst (v := 5) hx hb dX5_step_158 (by decide) ?_
          refine rd_i (va_runV (As := [.int (nI cu), .int 5]) (rest := [.int (nI tn)]) ⟨hx, hb, hml, hown, hts⟩ (M_X5_get l D cI d o (put (put (put (put (put σ 4 (wsC (σ 3) (σ 4) (nI tn) (nI j) (σ 5 cu + σ 6 cu))) 7 (upd ((σ 7)) cu ((σ 7 cu) - 1))) 8 (upd ((σ 8)) cu (nI tn))) 9 (upd ((σ 9)) cu (nI j))) 12 (upd ((σ 12)) cu ((σ 12 cu) + 1))) cu 5 (by first | assumption | omega) (by first | assumption | omega)) (cwV 2 hts gX5_step_X5_get rfl rfl rfl (by decide +kernel) ⟨Nat.le_of_ble_eq_true rfl, Nat.le_of_ble_eq_true rfl⟩) (rdV hK hP [0, 1, 2, 3] [0] rfl rfl (ci := 5) (q0 := 0) rfl rfl) rfl rfl hl.1 rfl (lv_room (Nat.le_of_ble_eq_true rfl)) dX5_step_159 ⟨Nat.zero_le _, Nat.zero_le _⟩) ?_
          refine W.eq (g2 := F0 m 162 ls [.int (σ 10 cu), .int (nI tn)]) rfl ?_
          refine lv_icmp_ne (tgt := 183) hx hb dX5_step_162 (by decide) (fun c_7 => ?_) (fun c_7 => ?_)
          · skip
            subst hQ
            have hP : va_P D vwCl (wSta d o cI (put (put (put (put (put σ 4 (wsC (σ 3) (σ 4) (nI tn) (nI j) (σ 5 cu + σ 6 cu))) 7 (upd ((σ 7)) cu ((σ 7 cu) - 1))) 8 (upd ((σ 8)) cu (nI tn))) 9 (upd ((σ 9)) cu (nI j))) 12 (upd ((σ 12)) cu ((σ 12 cu) + 1)))) H := hP
            have hD : va_D A (wSta d o cI (put (put (put (put (put σ 4 (wsC (σ 3) (σ 4) (nI tn) (nI j) (σ 5 cu + σ 6 cu))) 7 (upd ((σ 7)) cu ((σ 7 cu) - 1))) 8 (upd ((σ 8)) cu (nI tn))) 9 (upd ((σ 9)) cu (nI j))) 12 (upd ((σ 12)) cu ((σ 12 cu) + 1)))) := hD
            have hst_s : put (put (put (put (put σ 4 (wsC (σ 3) (σ 4) (nI tn) (nI j) (σ 5 cu + σ 6 cu))) 7 (upd ((σ 7)) cu ((σ 7 cu) - 1))) 8 (upd ((σ 8)) cu (nI tn))) 9 (upd ((σ 9)) cu (nI j))) 12 (upd ((σ 12)) cu ((σ 12 cu) + 1)) = stepF σ cu := (by rw [hsg]; unfold stepG; (first | (rw [if_pos (by assumption)]; unfold stepB stepM; rw [wsT_f (by omega) (by assumption)]) | (rw [if_neg (fun z => z (by assumption)), if_pos (by assumption)]; unfold stepA stepM; rw [wsT_t (by assumption)]) | (rw [if_neg (fun z => z (by assumption)), if_neg (by assumption)]; unfold stepM; rw [wsT_t (by assumption)])); unfold stepN; funext z; simp only [put]; (repeat' split); all_goals first | rfl | (exfalso; omega) | (subst_vars; rfl))
            rw [hst_s] at hP hD
            exact ret_wrv hx hb hr hlocks hP hD hS dX5_step_183
          · skip
            refine lv_aload_n hx hb dX5_step_165 rfl (lv_at hl 1 rfl) ?_
            refine lv_iload_n hx hb dX5_step_166 rfl (lv_at hl 2 rfl) ?_
            refine lv_bipush (v := 6) hx hb dX5_step_167 (by decide) ?_
            refine lv_iconst (v := 2) hx hb dX5_step_169 (by decide) ?_
            refine wr_v (wn := wStaE d o cI (σ 0 0) (σ 17 0) (σ 16 0) (σ 18 0) (σ 3) (wsC (σ 3) (σ 4) (nI tn) (nI j) (σ 5 cu + σ 6 cu)) (σ 5) (σ 6) (upd ((σ 7)) cu ((σ 7 cu) - 1)) (upd ((σ 8)) cu (nI tn)) (upd ((σ 9)) cu (nI j)) (σ 10) (upd ((σ 11)) cu 2) (upd ((σ 12)) cu ((σ 12 cu) + 1)) (σ 13)) (va_runV (As := [.int (nI cu), .int 6, .int 2]) (rest := []) ⟨hx, hb, hml, hown, hts⟩ (M_X5_set_6 l D cI d o (put (put (put (put (put σ 4 (wsC (σ 3) (σ 4) (nI tn) (nI j) (σ 5 cu + σ 6 cu))) 7 (upd ((σ 7)) cu ((σ 7 cu) - 1))) 8 (upd ((σ 8)) cu (nI tn))) 9 (upd ((σ 9)) cu (nI j))) 12 (upd ((σ 12)) cu ((σ 12 cu) + 1))) cu 2 _ (by first | assumption | omega)) (cwV 3 hts gX5_step_X5_set rfl rfl rfl (by decide +kernel) ⟨Nat.le_of_ble_eq_true rfl, Nat.le_of_ble_eq_true rfl⟩) (wrV hK hP hD [0, 1, 2, 3] [0] rfl rfl rfl (ci := 5) (q0 := 0) rfl rfl) rfl rfl hl.1 rfl (lv_room (Nat.le_of_ble_eq_true rfl)) dX5_step_170 ⟨Nat.le_of_ble_eq_true rfl, Nat.le_of_ble_eq_true rfl⟩) hP hD hS hA [0, 1, 2, 3] [] [0, 1, 2, 3] rfl rfl rfl rfl rfl rfl (fun H locs hP hD hS => ?_)
            refine lv_aload_n hx hb dX5_step_173 rfl (lv_at hl 1 rfl) ?_
            refine lv_dup hx hb dX5_step_174 rfl ?_
            refine va_get (D := D) (ci := 5) (v := .int (σ 18 0)) (C := RX5) (T := TX5) (N := 8) hx hb hts hiX5 hown hK.1 hP 0 rfl rfl 3 (by decide) (hts (.fieldLink RX5 41 "IceLanesModel$State" "came" "I") (by decide +kernel)) (fun _ h9 => h9) rfl dX5_step_175 ?_
            refine lv_iconst (v := 1) hx hb dX5_step_178 (by decide) ?_
            refine lv_iadd hx hb dX5_step_179 ?_
            refine va_put (D := D) (ci := 5) (v := .int ((σ 18 0) + 1)) (ty := .int) (C := RX5) (T := TX5) (N := 8) hx hb hts hiX5 tyX5 tyX5_ok nmX5 hown hK.1 hP hD hS 0 rfl rfl 3 (by decide) (hts (.fieldLink RX5 41 "IceLanesModel$State" "came" "I") (by decide +kernel)) (fun _ h9 => h9) rfl (by decide +kernel) rfl rfl (Nat.le_of_ble_eq_true rfl) dX5_step_180 (fun H locs hP hD hS => ?_)
            have hP : va_P D vwCl (wStaE d o cI (σ 0 0) (σ 17 0) (σ 16 0) ((σ 18 0) + 1) (σ 3) (wsC (σ 3) (σ 4) (nI tn) (nI j) (σ 5 cu + σ 6 cu)) (σ 5) (σ 6) (upd ((σ 7)) cu ((σ 7 cu) - 1)) (upd ((σ 8)) cu (nI tn)) (upd ((σ 9)) cu (nI j)) (σ 10) (upd ((σ 11)) cu 2) (upd ((σ 12)) cu ((σ 12 cu) + 1)) (σ 13)) H := hP
            have hD : va_D A (wStaE d o cI (σ 0 0) (σ 17 0) (σ 16 0) ((σ 18 0) + 1) (σ 3) (wsC (σ 3) (σ 4) (nI tn) (nI j) (σ 5 cu + σ 6 cu)) (σ 5) (σ 6) (upd ((σ 7)) cu ((σ 7 cu) - 1)) (upd ((σ 8)) cu (nI tn)) (upd ((σ 9)) cu (nI j)) (σ 10) (upd ((σ 11)) cu 2) (upd ((σ 12)) cu ((σ 12 cu) + 1)) (σ 13)) := hD
            subst hQ
            have hP : va_P D vwCl (wSta d o cI (put (put (put (put (put (put (put σ 4 (wsC (σ 3) (σ 4) (nI tn) (nI j) (σ 5 cu + σ 6 cu))) 7 (upd ((σ 7)) cu ((σ 7 cu) - 1))) 8 (upd ((σ 8)) cu (nI tn))) 9 (upd ((σ 9)) cu (nI j))) 11 (upd ((σ 11)) cu 2)) 12 (upd ((σ 12)) cu ((σ 12 cu) + 1))) 18 (fun _ => (σ 18 0) + 1))) H := hP
            have hD : va_D A (wSta d o cI (put (put (put (put (put (put (put σ 4 (wsC (σ 3) (σ 4) (nI tn) (nI j) (σ 5 cu + σ 6 cu))) 7 (upd ((σ 7)) cu ((σ 7 cu) - 1))) 8 (upd ((σ 8)) cu (nI tn))) 9 (upd ((σ 9)) cu (nI j))) 11 (upd ((σ 11)) cu 2)) 12 (upd ((σ 12)) cu ((σ 12 cu) + 1))) 18 (fun _ => (σ 18 0) + 1))) := hD
            have hst_s : put (put (put (put (put (put (put σ 4 (wsC (σ 3) (σ 4) (nI tn) (nI j) (σ 5 cu + σ 6 cu))) 7 (upd ((σ 7)) cu ((σ 7 cu) - 1))) 8 (upd ((σ 8)) cu (nI tn))) 9 (upd ((σ 9)) cu (nI j))) 11 (upd ((σ 11)) cu 2)) 12 (upd ((σ 12)) cu ((σ 12 cu) + 1))) 18 (fun _ => (σ 18 0) + 1) = stepF σ cu := (by rw [hsg]; unfold stepG; (first | (rw [if_pos (by assumption)]; unfold stepB stepM; rw [wsT_f (by omega) (by assumption)]) | (rw [if_neg (fun z => z (by assumption)), if_pos (by assumption)]; unfold stepA stepM; rw [wsT_t (by assumption)]) | (rw [if_neg (fun z => z (by assumption)), if_neg (by assumption)]; unfold stepM; rw [wsT_t (by assumption)])); unfold stepN; funext z; simp only [put]; (repeat' split); all_goals first | rfl | (exfalso; omega) | (subst_vars; rfl))
            rw [hst_s] at hP hD
            exact ret_wrv hx hb hr hlocks hP hD hS dX5_step_183
        · skip
          refine lv_aload_n hx hb dX5_step_128 rfl (lv_at hl 1 rfl) ?_
          refine lv_iload_n hx hb dX5_step_129 rfl (lv_at hl 2 rfl) ?_
          refine lv_bipush (v := 6) hx hb dX5_step_130 (by decide) ?_
          refine lv_iconst (v := 3) hx hb dX5_step_132 (by decide) ?_
          refine wr_v (wn := wStaE d o cI (σ 0 0) (σ 17 0) (σ 16 0) (σ 18 0) (σ 3) (wsC (σ 3) (σ 4) (nI tn) (nI j) (σ 5 cu + σ 6 cu)) (σ 5) (σ 6) (upd ((σ 7)) cu ((σ 7 cu) - 1)) (upd ((σ 8)) cu (nI tn)) (upd ((σ 9)) cu (nI j)) (σ 10) (upd ((σ 11)) cu 3) (upd ((σ 12)) cu ((σ 12 cu) + 1)) (σ 13)) (va_runV (As := [.int (nI cu), .int 6, .int 3]) (rest := []) ⟨hx, hb, hml, hown, hts⟩ (M_X5_set_6 l D cI d o (put (put (put (put (put σ 4 (wsC (σ 3) (σ 4) (nI tn) (nI j) (σ 5 cu + σ 6 cu))) 7 (upd ((σ 7)) cu ((σ 7 cu) - 1))) 8 (upd ((σ 8)) cu (nI tn))) 9 (upd ((σ 9)) cu (nI j))) 12 (upd ((σ 12)) cu ((σ 12 cu) + 1))) cu 3 _ (by first | assumption | omega)) (cwV 3 hts gX5_step_X5_set rfl rfl rfl (by decide +kernel) ⟨Nat.le_of_ble_eq_true rfl, Nat.le_of_ble_eq_true rfl⟩) (wrV hK hP hD [0, 1, 2, 3] [0] rfl rfl rfl (ci := 5) (q0 := 0) rfl rfl) rfl rfl hl.1 rfl (lv_room (Nat.le_of_ble_eq_true rfl)) dX5_step_133 ⟨Nat.le_of_ble_eq_true rfl, Nat.le_of_ble_eq_true rfl⟩) hP hD hS hA [0, 1, 2, 3] [] [0, 1, 2, 3] rfl rfl rfl rfl rfl rfl (fun H locs hP hD hS => ?_)
          refine lv_aload_n hx hb dX5_step_136 rfl (lv_at hl 1 rfl) ?_
          refine lv_iload_n hx hb dX5_step_137 rfl (lv_at hl 2 rfl) ?_
          refine lv_iconst (v := 1) hx hb dX5_step_138 (by decide) ?_
          refine lv_iconst (v := 0) hx hb dX5_step_139 (by decide) ?_
          refine wr_v (wn := wStaE d o cI (σ 0 0) (σ 17 0) (σ 16 0) (σ 18 0) (σ 3) (wsC (σ 3) (σ 4) (nI tn) (nI j) (σ 5 cu + σ 6 cu)) (σ 5) (upd ((σ 6)) cu 0) (upd ((σ 7)) cu ((σ 7 cu) - 1)) (upd ((σ 8)) cu (nI tn)) (upd ((σ 9)) cu (nI j)) (σ 10) (upd ((σ 11)) cu 3) (upd ((σ 12)) cu ((σ 12 cu) + 1)) (σ 13)) (va_runV (As := [.int (nI cu), .int 1, .int 0]) (rest := []) ⟨hx, hb, hml, hown, hts⟩ (M_X5_set_1 l D cI d o (put (put (put (put (put (put σ 4 (wsC (σ 3) (σ 4) (nI tn) (nI j) (σ 5 cu + σ 6 cu))) 7 (upd ((σ 7)) cu ((σ 7 cu) - 1))) 8 (upd ((σ 8)) cu (nI tn))) 9 (upd ((σ 9)) cu (nI j))) 11 (upd ((σ 11)) cu 3)) 12 (upd ((σ 12)) cu ((σ 12 cu) + 1))) cu 0 _ (by first | assumption | omega)) (cwV 3 hts gX5_step_X5_set rfl rfl rfl (by decide +kernel) ⟨Nat.le_of_ble_eq_true rfl, Nat.le_of_ble_eq_true rfl⟩) (wrV hK hP hD [0, 1, 2, 3] [0] rfl rfl rfl (ci := 5) (q0 := 0) rfl rfl) rfl rfl hl.1 rfl (lv_room (Nat.le_of_ble_eq_true rfl)) dX5_step_140 ⟨Nat.le_of_ble_eq_true rfl, Nat.le_of_ble_eq_true rfl⟩) hP hD hS hA [0, 1, 2, 3] [] [0, 1, 2, 3] rfl rfl rfl rfl rfl rfl (fun H locs hP hD hS => ?_)
          refine lv_aload_n hx hb dX5_step_143 rfl (lv_at hl 1 rfl) ?_
          refine va_get (D := D) (ci := 5) (v := .ref (d 1)) (C := RX5) (T := TX5) (N := 8) hx hb hts hiX5 hown hK.1 hP 0 rfl rfl 4 (by decide) (hts (.fieldLink RX5 19 "IceLanesModel$State" "ice" "[I") (by decide +kernel)) (fun _ h9 => h9) rfl dX5_step_144 ?_
          refine lv_iload_n hx hb dX5_step_147 rfl (lv_at hl 0 rfl) ?_
          refine lv_iconst (v := 0) hx hb dX5_step_148 (by decide) ?_
          refine va_iast hx hb hK.1 hP hD hS 1 0 rfl rfl (by first | assumption | exact vp_in_nI (by omega) (by decide)) dX5_step_149 (fun H locs hP hD hS => ?_)
          rw [nI_clamp (n := (3 * tn + j)) (by omega)] at hP hD
          have hP : va_P D vwCl (wStaE d o cI (σ 0 0) (σ 17 0) (σ 16 0) (σ 18 0) (upd (σ 3) (3 * tn + j) 0) (wsC (σ 3) (σ 4) (nI tn) (nI j) (σ 5 cu + σ 6 cu)) (σ 5) (upd ((σ 6)) cu 0) (upd ((σ 7)) cu ((σ 7 cu) - 1)) (upd ((σ 8)) cu (nI tn)) (upd ((σ 9)) cu (nI j)) (σ 10) (upd ((σ 11)) cu 3) (upd ((σ 12)) cu ((σ 12 cu) + 1)) (σ 13)) H := hP
          have hD : va_D A (wStaE d o cI (σ 0 0) (σ 17 0) (σ 16 0) (σ 18 0) (upd (σ 3) (3 * tn + j) 0) (wsC (σ 3) (σ 4) (nI tn) (nI j) (σ 5 cu + σ 6 cu)) (σ 5) (upd ((σ 6)) cu 0) (upd ((σ 7)) cu ((σ 7 cu) - 1)) (upd ((σ 8)) cu (nI tn)) (upd ((σ 9)) cu (nI j)) (σ 10) (upd ((σ 11)) cu 3) (upd ((σ 12)) cu ((σ 12 cu) + 1)) (σ 13)) := hD
          refine lv_goto (tgt := 183) hx hb dX5_step_150 (by decide) ?_
          subst hQ
          have hP : va_P D vwCl (wSta d o cI (put (put (put (put (put (put (put (put σ 3 (upd (σ 3) (3 * tn + j) 0)) 4 (wsC (σ 3) (σ 4) (nI tn) (nI j) (σ 5 cu + σ 6 cu))) 6 (upd ((σ 6)) cu 0)) 7 (upd ((σ 7)) cu ((σ 7 cu) - 1))) 8 (upd ((σ 8)) cu (nI tn))) 9 (upd ((σ 9)) cu (nI j))) 11 (upd ((σ 11)) cu 3)) 12 (upd ((σ 12)) cu ((σ 12 cu) + 1)))) H := hP
          have hD : va_D A (wSta d o cI (put (put (put (put (put (put (put (put σ 3 (upd (σ 3) (3 * tn + j) 0)) 4 (wsC (σ 3) (σ 4) (nI tn) (nI j) (σ 5 cu + σ 6 cu))) 6 (upd ((σ 6)) cu 0)) 7 (upd ((σ 7)) cu ((σ 7 cu) - 1))) 8 (upd ((σ 8)) cu (nI tn))) 9 (upd ((σ 9)) cu (nI j))) 11 (upd ((σ 11)) cu 3)) 12 (upd ((σ 12)) cu ((σ 12 cu) + 1)))) := hD
          have hst_s : put (put (put (put (put (put (put (put σ 3 (upd (σ 3) (3 * tn + j) 0)) 4 (wsC (σ 3) (σ 4) (nI tn) (nI j) (σ 5 cu + σ 6 cu))) 6 (upd ((σ 6)) cu 0)) 7 (upd ((σ 7)) cu ((σ 7 cu) - 1))) 8 (upd ((σ 8)) cu (nI tn))) 9 (upd ((σ 9)) cu (nI j))) 11 (upd ((σ 11)) cu 3)) 12 (upd ((σ 12)) cu ((σ 12 cu) + 1)) = stepF σ cu := (by rw [hsg]; unfold stepG; (first | (rw [if_pos (by assumption)]; unfold stepB stepM; rw [wsT_f (by omega) (by assumption)]) | (rw [if_neg (fun z => z (by assumption)), if_pos (by assumption)]; unfold stepA stepM; rw [wsT_t (by assumption)]) | (rw [if_neg (fun z => z (by assumption)), if_neg (by assumption)]; unfold stepM; rw [wsT_t (by assumption)])); unfold stepN; funext z; simp only [put]; (repeat' split); all_goals first | rfl | (exfalso; omega) | (subst_vars; rfl))
          rw [hst_s] at hP hD
          exact ret_wrv hx hb hr hlocks hP hD hS dX5_step_183
    · skip
      refine lv_aload_n hx hb dX5_step_24 rfl (lv_at hl 1 rfl) ?_
      refine lv_iload_n hx hb dX5_step_25 rfl (lv_at hl 2 rfl) ?_
      refine lv_bipush (v := 6) hx hb dX5_step_26 (by decide) ?_
      refine lv_iconst (v := 0) hx hb dX5_step_28 (by decide) ?_
      refine wr_v (wn := wStaE d o cI (σ 0 0) (σ 17 0) (σ 16 0) (σ 18 0) (σ 3) (σ 4) (σ 5) (σ 6) (σ 7) (σ 8) (σ 9) (σ 10) (upd ((σ 11)) cu 0) (σ 12) (σ 13)) (va_runV (As := [.int (nI cu), .int 6, .int 0]) (rest := []) ⟨hx, hb, hml, hown, hts⟩ (M_X5_set_6 l D cI d o σ cu 0 _ (by first | assumption | omega)) (cwV 3 hts gX5_step_X5_set rfl rfl rfl (by decide +kernel) ⟨Nat.le_of_ble_eq_true rfl, Nat.le_of_ble_eq_true rfl⟩) (wrV hK hP hD [0, 1, 2, 3] [0] rfl rfl rfl (ci := 5) (q0 := 0) rfl rfl) rfl rfl hl.1 rfl (lv_room (Nat.le_of_ble_eq_true rfl)) dX5_step_29 ⟨Nat.le_of_ble_eq_true rfl, Nat.le_of_ble_eq_true rfl⟩) hP hD hS hA [0, 1, 2, 3] [] [0, 1, 2, 3] rfl rfl rfl rfl rfl rfl (fun H locs hP hD hS => ?_)
      subst hQ
      have hP : va_P D vwCl (wSta d o cI (put σ 11 (upd ((σ 11)) cu 0))) H := hP
      have hD : va_D A (wSta d o cI (put σ 11 (upd ((σ 11)) cu 0))) := hD
      have hst_s : put σ 11 (upd ((σ 11)) cu 0) = stepF σ cu := (if_pos (by first | exact Or.inl (by assumption) | exact Or.inr (by have z : nxF σ cu = -1 := (by assumption); by_cases y : lnF σ cu = -1; exact y; (obtain ⟨tn, ht, e1⟩ := inS_nI (inS_nsec hok.1 hok.2.2.1); obtain ⟨j, hj, e2⟩ := inL_nI (lnF_in hok y); unfold nxF at z; rw [if_neg y, e1, e2, pl_nI2] at z; exact absurd z (nI_m1 (by omega)))))).symm
      rw [hst_s] at hP hD
      exact ret_wrv hx hb hr hlocks hP hD hS dX5_step_32
  · skip
    refine lv_iconst (v := (-1)) hx hb dX5_step_9 (by decide) ?_
    refine lv_goto (tgt := 18) hx hb dX5_step_10 (by decide) ?_
    refine lv_istore_n (lv' := [(2, .int (-1)), (0, .ref (d 0)), (1, .int (nI cu))]) hx hb dX5_step_18 rfl hl (by decide) rfl (fun ls hl => ?_)
    refine lv_iload_n hx hb dX5_step_19 rfl (lv_at hl 0 rfl) ?_
    refine lv_iconst (v := (-1)) hx hb dX5_step_20 (by decide) ?_
    refine lv_icmp_ne (tgt := 33) hx hb dX5_step_21 (by decide) (fun c_8 => ?_) (fun c_8 => ?_)
    · skip
      exact absurd rfl c_8
    · skip
      refine lv_aload_n hx hb dX5_step_24 rfl (lv_at hl 1 rfl) ?_
      refine lv_iload_n hx hb dX5_step_25 rfl (lv_at hl 2 rfl) ?_
      refine lv_bipush (v := 6) hx hb dX5_step_26 (by decide) ?_
      refine lv_iconst (v := 0) hx hb dX5_step_28 (by decide) ?_
      refine wr_v (wn := wStaE d o cI (σ 0 0) (σ 17 0) (σ 16 0) (σ 18 0) (σ 3) (σ 4) (σ 5) (σ 6) (σ 7) (σ 8) (σ 9) (σ 10) (upd ((σ 11)) cu 0) (σ 12) (σ 13)) (va_runV (As := [.int (nI cu), .int 6, .int 0]) (rest := []) ⟨hx, hb, hml, hown, hts⟩ (M_X5_set_6 l D cI d o σ cu 0 _ (by first | assumption | omega)) (cwV 3 hts gX5_step_X5_set rfl rfl rfl (by decide +kernel) ⟨Nat.le_of_ble_eq_true rfl, Nat.le_of_ble_eq_true rfl⟩) (wrV hK hP hD [0, 1, 2, 3] [0] rfl rfl rfl (ci := 5) (q0 := 0) rfl rfl) rfl rfl hl.1 rfl (lv_room (Nat.le_of_ble_eq_true rfl)) dX5_step_29 ⟨Nat.le_of_ble_eq_true rfl, Nat.le_of_ble_eq_true rfl⟩) hP hD hS hA [0, 1, 2, 3] [] [0, 1, 2, 3] rfl rfl rfl rfl rfl rfl (fun H locs hP hD hS => ?_)
      subst hQ
      have hP : va_P D vwCl (wSta d o cI (put σ 11 (upd ((σ 11)) cu 0))) H := hP
      have hD : va_D A (wSta d o cI (put σ 11 (upd ((σ 11)) cu 0))) := hD
      have hst_s : put σ 11 (upd ((σ 11)) cu 0) = stepF σ cu := (if_pos (by first | exact Or.inl (by assumption) | exact Or.inr (by have z : nxF σ cu = -1 := (by assumption); by_cases y : lnF σ cu = -1; exact y; (obtain ⟨tn, ht, e1⟩ := inS_nI (inS_nsec hok.1 hok.2.2.1); obtain ⟨j, hj, e2⟩ := inL_nI (lnF_in hok y); unfold nxF at z; rw [if_neg y, e1, e2, pl_nI2] at z; exact absurd z (nI_m1 (by omega)))))).symm
      rw [hst_s] at hP hD
      exact ret_wrv hx hb hr hlocks hP hD hS dX5_step_32
