theorem cu_of {x : Int32} (nc : Nat) (hn : nc ≤ 12) (h : 0 ≤ x ∧ x ≤ nI nc - 1) : ∃ cu, cu < nc ∧ x = nI cu := by
  rcases (show nc = 0 ∨ nc = 1 ∨ nc = 2 ∨ nc = 3 ∨ nc = 4 ∨ nc = 5 ∨ nc = 6 ∨ nc = 7 ∨ nc = 8 ∨ nc = 9 ∨ nc = 10 ∨ nc = 11 ∨ nc = 12 by omega) with rfl | rfl | rfl | rfl | rfl | rfl | rfl | rfl | rfl | rfl | rfl | rfl | rfl
  · exact absurd (Int32.le_trans h.1 h.2) (by decide)
  · obtain ⟨j, hj, e⟩ := nI_btw (n := 0) (M := nI 1 - 1) (by decide) h.1 h.2
    exact ⟨j, by omega, e⟩
  · obtain ⟨j, hj, e⟩ := nI_btw (n := 1) (M := nI 2 - 1) (by decide) h.1 h.2
    exact ⟨j, by omega, e⟩
  · obtain ⟨j, hj, e⟩ := nI_btw (n := 2) (M := nI 3 - 1) (by decide) h.1 h.2
    exact ⟨j, by omega, e⟩
  · obtain ⟨j, hj, e⟩ := nI_btw (n := 3) (M := nI 4 - 1) (by decide) h.1 h.2
    exact ⟨j, by omega, e⟩
  · obtain ⟨j, hj, e⟩ := nI_btw (n := 4) (M := nI 5 - 1) (by decide) h.1 h.2
    exact ⟨j, by omega, e⟩
  · obtain ⟨j, hj, e⟩ := nI_btw (n := 5) (M := nI 6 - 1) (by decide) h.1 h.2
    exact ⟨j, by omega, e⟩
  · obtain ⟨j, hj, e⟩ := nI_btw (n := 6) (M := nI 7 - 1) (by decide) h.1 h.2
    exact ⟨j, by omega, e⟩
  · obtain ⟨j, hj, e⟩ := nI_btw (n := 7) (M := nI 8 - 1) (by decide) h.1 h.2
    exact ⟨j, by omega, e⟩
  · obtain ⟨j, hj, e⟩ := nI_btw (n := 8) (M := nI 9 - 1) (by decide) h.1 h.2
    exact ⟨j, by omega, e⟩
  · obtain ⟨j, hj, e⟩ := nI_btw (n := 9) (M := nI 10 - 1) (by decide) h.1 h.2
    exact ⟨j, by omega, e⟩
  · obtain ⟨j, hj, e⟩ := nI_btw (n := 10) (M := nI 11 - 1) (by decide) h.1 h.2
    exact ⟨j, by omega, e⟩
  · obtain ⟨j, hj, e⟩ := nI_btw (n := 11) (M := nI 12 - 1) (by decide) h.1 h.2
    exact ⟨j, by omega, e⟩
set_option maxHeartbeats 4000000 in
theorem LD_setWarm {p : Program} {l : Launch} {e : Env} {s : State} {m : MethodId} {args : Array Value} {below : List Frame} {meth : Method} {c : Code} {A : Nat → Prop} {D : va_G} {cI cJ : ClassId} {bs L : Nat} {xs : Nat → Int32} (C : lwC p l s m args c A D cI cJ bs L xs) (b a a2 n d d2 : Nat → Nat) (o i h nc nw : Nat) (σ σ2 ω τ2 : St) (g : Nat → Int64) (hI : lwI σ ω h nc nw) (hi : 6 * i + 6 ≤ L) (hbd : h + 1000 < 2 ^ 29) {H : Heap} {locs : List Loc} {cells slots : Nat} {Q : State → Prop} (hRc : cells + 100 ≤ room_1.cells) (hRs : slots + 1000 ≤ room_1.slots) (hP : va_P D vwCl (wAll b a a2 n d d2 cI cJ o σ σ2 ω τ2 g) H) (hD : va_D A (wAll b a a2 n d d2 cI cJ o σ σ2 ω τ2 g)) (hS : va_S A s.heap H locs) (ls : Array Slot) (hl : lv_has ls 9 [(0, .ref bs), (1, .ref (b 0)), (2, .ref (n 0)), (3, .ref o), (4, .int (nI (6 * i)))]) (kk : lwK p l e s m args below meth c A D cI cJ b a a2 n d d2 o bs i h cells slots Q) : W p l e room_1 s m args below meth c H locs cells slots Q (F0 m 128 ls []) := by
  obtain ⟨hok, hnw, hw12⟩ := id hI
  have hnc := hok.1.2.1
  have hn8 := hok.1.2.2.1
  by_cases h1 : (0 ≤ (xs (6 * i + 1)) ∧ (xs (6 * i + 1)) ≤ 13)
  · skip
    by_cases h2 : ((-9) ≤ (xs (6 * i + 2)) ∧ (xs (6 * i + 2)) ≤ 9)
    · skip
      obtain ⟨dy, h0, e1⟩ := nI_btw (n := 13) (M := 13) (by decide) h1.1 h1.2
      exact LW_setWarm_ok C b a a2 n d d2 o i h nc nw σ σ2 ω τ2 g dy (xs (6 * i + 2)) hI hi hbd e1 rfl (by omega) (by rw [← e1]; exact h1) h2 hRc hRs hP hD hS ls hl kk
    · skip
      exact LW_setWarm_e2 C b a a2 n d d2 o i h nc nw σ σ2 ω τ2 g (xs (6 * i + 1)) (xs (6 * i + 2)) hI hi hbd rfl rfl h1 h2 hRc hRs hP hD hS ls hl kk
  · skip
    exact LW_setWarm_e1 C b a a2 n d d2 o i h nc nw σ σ2 ω τ2 g (xs (6 * i + 1)) (xs (6 * i + 2)) hI hi hbd rfl rfl h1 hRc hRs hP hD hS ls hl kk
set_option maxHeartbeats 4000000 in
theorem LD_setIce {p : Program} {l : Launch} {e : Env} {s : State} {m : MethodId} {args : Array Value} {below : List Frame} {meth : Method} {c : Code} {A : Nat → Prop} {D : va_G} {cI cJ : ClassId} {bs L : Nat} {xs : Nat → Int32} (C : lwC p l s m args c A D cI cJ bs L xs) (b a a2 n d d2 : Nat → Nat) (o i h nc nw : Nat) (σ σ2 ω τ2 : St) (g : Nat → Int64) (hI : lwI σ ω h nc nw) (hi : 6 * i + 6 ≤ L) (hbd : h + 1000 < 2 ^ 29) {H : Heap} {locs : List Loc} {cells slots : Nat} {Q : State → Prop} (hRc : cells + 100 ≤ room_1.cells) (hRs : slots + 1000 ≤ room_1.slots) (hP : va_P D vwCl (wAll b a a2 n d d2 cI cJ o σ σ2 ω τ2 g) H) (hD : va_D A (wAll b a a2 n d d2 cI cJ o σ σ2 ω τ2 g)) (hS : va_S A s.heap H locs) (ls : Array Slot) (hl : lv_has ls 9 [(0, .ref bs), (1, .ref (b 0)), (2, .ref (n 0)), (3, .ref o), (4, .int (nI (6 * i)))]) (kk : lwK p l e s m args below meth c A D cI cJ b a a2 n d d2 o bs i h cells slots Q) : W p l e room_1 s m args below meth c H locs cells slots Q (F0 m 196 ls []) := by
  obtain ⟨hok, hnw, hw12⟩ := id hI
  have hnc := hok.1.2.1
  have hn8 := hok.1.2.2.1
  by_cases h1 : ((0 ≤ (xs (6 * i + 1)) ∧ (xs (6 * i + 1)) ≤ 11) ∧ (0 ≤ (xs (6 * i + 2)) ∧ (xs (6 * i + 2)) ≤ 2))
  · skip
    by_cases h2 : (0 ≤ (xs (6 * i + 3)) ∧ (xs (6 * i + 3)) ≤ 60)
    · skip
      obtain ⟨sn, hs, e1⟩ := nI_btw (n := 11) (M := 11) (by decide) h1.1.1 h1.1.2
      obtain ⟨ln, hl9, e2⟩ := nI_btw (n := 2) (M := 2) (by decide) h1.2.1 h1.2.2
      exact LW_setIce_ok C b a a2 n d d2 o i h nc nw σ σ2 ω τ2 g sn ln (xs (6 * i + 3)) hI hi hbd e1 e2 rfl (by omega) (by omega) (by rw [← e1, ← e2]; exact h1) h2 hRc hRs hP hD hS ls hl kk
    · skip
      exact LW_setIce_e2 C b a a2 n d d2 o i h nc nw σ σ2 ω τ2 g (xs (6 * i + 1)) (xs (6 * i + 2)) (xs (6 * i + 3)) hI hi hbd rfl rfl rfl h1 h2 hRc hRs hP hD hS ls hl kk
  · skip
    exact LW_setIce_e1 C b a a2 n d d2 o i h nc nw σ σ2 ω τ2 g (xs (6 * i + 1)) (xs (6 * i + 2)) (xs (6 * i + 3)) hI hi hbd rfl rfl rfl h1 hRc hRs hP hD hS ls hl kk
set_option maxHeartbeats 4000000 in
theorem LD_build {p : Program} {l : Launch} {e : Env} {s : State} {m : MethodId} {args : Array Value} {below : List Frame} {meth : Method} {c : Code} {A : Nat → Prop} {D : va_G} {cI cJ : ClassId} {bs L : Nat} {xs : Nat → Int32} (C : lwC p l s m args c A D cI cJ bs L xs) (b a a2 n d d2 : Nat → Nat) (o i h nc nw : Nat) (σ σ2 ω τ2 : St) (g : Nat → Int64) (hI : lwI σ ω h nc nw) (hi : 6 * i + 6 ≤ L) (hbd : h + 1000 < 2 ^ 29) {H : Heap} {locs : List Loc} {cells slots : Nat} {Q : State → Prop} (hRc : cells + 100 ≤ room_1.cells) (hRs : slots + 1000 ≤ room_1.slots) (hP : va_P D vwCl (wAll b a a2 n d d2 cI cJ o σ σ2 ω τ2 g) H) (hD : va_D A (wAll b a a2 n d d2 cI cJ o σ σ2 ω τ2 g)) (hS : va_S A s.heap H locs) (ls : Array Slot) (hl : lv_has ls 9 [(0, .ref bs), (1, .ref (b 0)), (2, .ref (n 0)), (3, .ref o), (4, .int (nI (6 * i)))]) (kk : lwK p l e s m args below meth c A D cI cJ b a a2 n d d2 o bs i h cells slots Q) : W p l e room_1 s m args below meth c H locs cells slots Q (F0 m 276 ls []) := by
  obtain ⟨hok, hnw, hw12⟩ := id hI
  have hnc := hok.1.2.1
  have hn8 := hok.1.2.2.1
  by_cases h1 : (0 ≤ (xs (6 * i + 1)) ∧ (xs (6 * i + 1)) ≤ 11)
  · skip
    obtain ⟨sn, hs, e1⟩ := nI_btw (n := 11) (M := 11) (by decide) h1.1 h1.2
    exact LW_build_ok C b a a2 n d d2 o i h nc nw σ σ2 ω τ2 g sn hI hi hbd e1 (by omega) (by rw [← e1]; exact h1) hRc hRs hP hD hS ls hl kk
  · skip
    exact LW_build_e1 C b a a2 n d d2 o i h nc nw σ σ2 ω τ2 g (xs (6 * i + 1)) hI hi hbd rfl h1 hRc hRs hP hD hS ls hl kk
set_option maxHeartbeats 4000000 in
theorem LD_place {p : Program} {l : Launch} {e : Env} {s : State} {m : MethodId} {args : Array Value} {below : List Frame} {meth : Method} {c : Code} {A : Nat → Prop} {D : va_G} {cI cJ : ClassId} {bs L : Nat} {xs : Nat → Int32} (C : lwC p l s m args c A D cI cJ bs L xs) (b a a2 n d d2 : Nat → Nat) (o i h nc nw : Nat) (σ σ2 ω τ2 : St) (g : Nat → Int64) (hI : lwI σ ω h nc nw) (hi : 6 * i + 6 ≤ L) (hbd : h + 1000 < 2 ^ 29) {H : Heap} {locs : List Loc} {cells slots : Nat} {Q : State → Prop} (hRc : cells + 100 ≤ room_1.cells) (hRs : slots + 1000 ≤ room_1.slots) (hP : va_P D vwCl (wAll b a a2 n d d2 cI cJ o σ σ2 ω τ2 g) H) (hD : va_D A (wAll b a a2 n d d2 cI cJ o σ σ2 ω τ2 g)) (hS : va_S A s.heap H locs) (ls : Array Slot) (hl : lv_has ls 9 [(0, .ref bs), (1, .ref (b 0)), (2, .ref (n 0)), (3, .ref o), (4, .int (nI (6 * i)))]) (kk : lwK p l e s m args below meth c A D cI cJ b a a2 n d d2 o bs i h cells slots Q) : W p l e room_1 s m args below meth c H locs cells slots Q (F0 m 332 ls []) := by
  obtain ⟨hok, hnw, hw12⟩ := id hI
  have hnc := hok.1.2.1
  have hn8 := hok.1.2.2.1
  by_cases h3 : (((0 ≤ (xs (6 * i + 1)) ∧ (xs (6 * i + 1)) ≤ 11) ∧ (0 ≤ (xs (6 * i + 2)) ∧ (xs (6 * i + 2)) ≤ 2)) ∧ (0 ≤ (xs (6 * i + 3)) ∧ (xs (6 * i + 3)) ≤ 3))
  · skip
    have h1 := h3.1
    obtain ⟨sn, hs, e1⟩ := nI_btw (n := 11) (M := 11) (by decide) h1.1.1 h1.1.2
    obtain ⟨ln, hl9, e2⟩ := nI_btw (n := 2) (M := 2) (by decide) h1.2.1 h1.2.2
    obtain ⟨w, hw, e3⟩ := nI_btw (n := 3) (M := 3) (by decide) h3.2.1 h3.2.2
    exact LW_place_ok C b a a2 n d d2 o i h nc nw σ σ2 ω τ2 g sn ln w hI hi hbd e1 e2 e3 (by omega) (by omega) (by rw [← e1, ← e2]; exact h1) (by rw [← e3]; exact h3.2) (by omega) hRc hRs hP hD hS ls hl kk
  · skip
    exact LW_place_e1 C b a a2 n d d2 o i h nc nw σ σ2 ω τ2 g (xs (6 * i + 1)) (xs (6 * i + 2)) (xs (6 * i + 3)) hI hi hbd rfl rfl rfl h3 hRc hRs hP hD hS ls hl kk
set_option maxHeartbeats 4000000 in
theorem LD_come {p : Program} {l : Launch} {e : Env} {s : State} {m : MethodId} {args : Array Value} {below : List Frame} {meth : Method} {c : Code} {A : Nat → Prop} {D : va_G} {cI cJ : ClassId} {bs L : Nat} {xs : Nat → Int32} (C : lwC p l s m args c A D cI cJ bs L xs) (b a a2 n d d2 : Nat → Nat) (o i h nc nw : Nat) (σ σ2 ω τ2 : St) (g : Nat → Int64) (hI : lwI σ ω h nc nw) (hi : 6 * i + 6 ≤ L) (hbd : h + 1000 < 2 ^ 29) {H : Heap} {locs : List Loc} {cells slots : Nat} {Q : State → Prop} (hRc : cells + 100 ≤ room_1.cells) (hRs : slots + 1000 ≤ room_1.slots) (hP : va_P D vwCl (wAll b a a2 n d d2 cI cJ o σ σ2 ω τ2 g) H) (hD : va_D A (wAll b a a2 n d d2 cI cJ o σ σ2 ω τ2 g)) (hS : va_S A s.heap H locs) (ls : Array Slot) (hl : lv_has ls 9 [(0, .ref bs), (1, .ref (b 0)), (2, .ref (n 0)), (3, .ref o), (4, .int (nI (6 * i)))]) (kk : lwK p l e s m args below meth c A D cI cJ b a a2 n d d2 o bs i h cells slots Q) : W p l e room_1 s m args below meth c H locs cells slots Q (F0 m 412 ls []) := by
  obtain ⟨hok, hnw, hw12⟩ := id hI
  have hnc := hok.1.2.1
  have hn8 := hok.1.2.2.1
  by_cases hz : (xs (6 * i + 5)) = 0
  · skip
    by_cases h1 : ((0 ≤ (xs (6 * i + 1)) ∧ (xs (6 * i + 1)) ≤ 11) ∧ (0 ≤ (xs (6 * i + 2)) ∧ (xs (6 * i + 2)) ≤ 2))
    · skip
      by_cases h2 : ((1 ≤ (xs (6 * i + 3)) ∧ (xs (6 * i + 3)) ≤ 40) ∧ (0 ≤ (xs (6 * i + 4)) ∧ (xs (6 * i + 4)) ≤ 20))
      · skip
        obtain ⟨sn, hs, e1⟩ := nI_btw (n := 11) (M := 11) (by decide) h1.1.1 h1.1.2
        obtain ⟨ln, hl9, e2⟩ := nI_btw (n := 2) (M := 2) (by decide) h1.2.1 h1.2.2
        by_cases h4 : (nc < 8 ∧ (xs (6 * i + 3)) + (xs (6 * i + 4)) ≤ sound (σ 3) (σ 4) (nI sn) (nI ln))
        · skip
          exact LW_come_ok0 C b a a2 n d d2 o i h nc nw σ σ2 ω τ2 g sn ln (xs (6 * i + 3)) (xs (6 * i + 4)) (xs (6 * i + 5)) hI hi hbd e1 e2 rfl rfl rfl (by omega) (by omega) (by rw [← e1, ← e2]; exact h1) h2.1 h2.2 h4.1 h4.2 hz hRc hRs hP hD hS ls hl kk
        · skip
          exact LW_come_e3_0 C b a a2 n d d2 o i h nc nw σ σ2 ω τ2 g sn ln (xs (6 * i + 3)) (xs (6 * i + 4)) (xs (6 * i + 5)) hI hi hbd e1 e2 rfl rfl rfl (by omega) (by omega) (by rw [← e1, ← e2]; exact h1) h2.1 h2.2 (by rcases Nat.lt_or_ge nc 8 with q | q; exact Or.inr (fun z => h4 ⟨q, z⟩); exact Or.inl (hnc.trans (by rw [show nc = 8 by omega]; rfl))) hz hRc hRs hP hD hS ls hl kk
      · skip
        exact LW_come_e2_0 C b a a2 n d d2 o i h nc nw σ σ2 ω τ2 g (xs (6 * i + 1)) (xs (6 * i + 2)) (xs (6 * i + 3)) (xs (6 * i + 4)) (xs (6 * i + 5)) hI hi hbd rfl rfl rfl rfl rfl h1 h2 hz hRc hRs hP hD hS ls hl kk
    · skip
      exact LW_come_e1_0 C b a a2 n d d2 o i h nc nw σ σ2 ω τ2 g (xs (6 * i + 1)) (xs (6 * i + 2)) (xs (6 * i + 3)) (xs (6 * i + 4)) (xs (6 * i + 5)) hI hi hbd rfl rfl rfl rfl rfl h1 hz hRc hRs hP hD hS ls hl kk
  · skip
    by_cases h1 : ((0 ≤ (xs (6 * i + 1)) ∧ (xs (6 * i + 1)) ≤ 11) ∧ (0 ≤ (xs (6 * i + 2)) ∧ (xs (6 * i + 2)) ≤ 2))
    · skip
      by_cases h2 : ((1 ≤ (xs (6 * i + 3)) ∧ (xs (6 * i + 3)) ≤ 40) ∧ (0 ≤ (xs (6 * i + 4)) ∧ (xs (6 * i + 4)) ≤ 20))
      · skip
        obtain ⟨sn, hs, e1⟩ := nI_btw (n := 11) (M := 11) (by decide) h1.1.1 h1.1.2
        obtain ⟨ln, hl9, e2⟩ := nI_btw (n := 2) (M := 2) (by decide) h1.2.1 h1.2.2
        by_cases h4 : (nc < 8 ∧ (xs (6 * i + 3)) + (xs (6 * i + 4)) ≤ sound (σ 3) (σ 4) (nI sn) (nI ln))
        · skip
          exact LW_come_ok1 C b a a2 n d d2 o i h nc nw σ σ2 ω τ2 g sn ln (xs (6 * i + 3)) (xs (6 * i + 4)) (xs (6 * i + 5)) hI hi hbd e1 e2 rfl rfl rfl (by omega) (by omega) (by rw [← e1, ← e2]; exact h1) h2.1 h2.2 h4.1 h4.2 hz hRc hRs hP hD hS ls hl kk
        · skip
          exact LW_come_e3_1 C b a a2 n d d2 o i h nc nw σ σ2 ω τ2 g sn ln (xs (6 * i + 3)) (xs (6 * i + 4)) (xs (6 * i + 5)) hI hi hbd e1 e2 rfl rfl rfl (by omega) (by omega) (by rw [← e1, ← e2]; exact h1) h2.1 h2.2 (by rcases Nat.lt_or_ge nc 8 with q | q; exact Or.inr (fun z => h4 ⟨q, z⟩); exact Or.inl (hnc.trans (by rw [show nc = 8 by omega]; rfl))) hz hRc hRs hP hD hS ls hl kk
      · skip
        exact LW_come_e2_1 C b a a2 n d d2 o i h nc nw σ σ2 ω τ2 g (xs (6 * i + 1)) (xs (6 * i + 2)) (xs (6 * i + 3)) (xs (6 * i + 4)) (xs (6 * i + 5)) hI hi hbd rfl rfl rfl rfl rfl h1 h2 hz hRc hRs hP hD hS ls hl kk
    · skip
      exact LW_come_e1_1 C b a a2 n d d2 o i h nc nw σ σ2 ω τ2 g (xs (6 * i + 1)) (xs (6 * i + 2)) (xs (6 * i + 3)) (xs (6 * i + 4)) (xs (6 * i + 5)) hI hi hbd rfl rfl rfl rfl rfl h1 hz hRc hRs hP hD hS ls hl kk
set_option maxHeartbeats 4000000 in
theorem LD_send {p : Program} {l : Launch} {e : Env} {s : State} {m : MethodId} {args : Array Value} {below : List Frame} {meth : Method} {c : Code} {A : Nat → Prop} {D : va_G} {cI cJ : ClassId} {bs L : Nat} {xs : Nat → Int32} (C : lwC p l s m args c A D cI cJ bs L xs) (b a a2 n d d2 : Nat → Nat) (o i h nc nw : Nat) (σ σ2 ω τ2 : St) (g : Nat → Int64) (hI : lwI σ ω h nc nw) (hi : 6 * i + 6 ≤ L) (hbd : h + 1000 < 2 ^ 29) {H : Heap} {locs : List Loc} {cells slots : Nat} {Q : State → Prop} (hRc : cells + 100 ≤ room_1.cells) (hRs : slots + 1000 ≤ room_1.slots) (hP : va_P D vwCl (wAll b a a2 n d d2 cI cJ o σ σ2 ω τ2 g) H) (hD : va_D A (wAll b a a2 n d d2 cI cJ o σ σ2 ω τ2 g)) (hS : va_S A s.heap H locs) (ls : Array Slot) (hl : lv_has ls 9 [(0, .ref bs), (1, .ref (b 0)), (2, .ref (n 0)), (3, .ref o), (4, .int (nI (6 * i)))]) (kk : lwK p l e s m args below meth c A D cI cJ b a a2 n d d2 o bs i h cells slots Q) : W p l e room_1 s m args below meth c H locs cells slots Q (F0 m 532 ls []) := by
  obtain ⟨hok, hnw, hw12⟩ := id hI
  have hnc := hok.1.2.1
  have hn8 := hok.1.2.2.1
  by_cases h1 : ((0 ≤ (xs (6 * i + 1)) ∧ (xs (6 * i + 1)) ≤ σ 17 0 - 1) ∧ (0 ≤ (xs (6 * i + 2)) ∧ (xs (6 * i + 2)) ≤ 11))
  · skip
    obtain ⟨cu, hcn, e1⟩ := cu_of nc (by omega) (by rw [← hnc]; exact h1.1)
    by_cases h3 : σ 11 cu = 3
    · skip
      exact LW_send_e2 C b a a2 n d d2 o i h nc nw σ σ2 ω τ2 g cu (xs (6 * i + 2)) hI hi hbd e1 rfl (by omega) (by rw [← e1]; exact h1.1) h1.2 h3 hRc hRs hP hD hS ls hl kk
    · skip
      exact LW_send_ok C b a a2 n d d2 o i h nc nw σ σ2 ω τ2 g cu (xs (6 * i + 2)) hI hi hbd e1 rfl (by omega) (by rw [← e1]; exact h1.1) h1.2 h3 hcn hRc hRs hP hD hS ls hl kk
  · skip
    exact LW_send_e1 C b a a2 n d d2 o i h nc nw σ σ2 ω τ2 g (xs (6 * i + 1)) (xs (6 * i + 2)) hI hi hbd rfl rfl h1 hRc hRs hP hD hS ls hl kk
set_option maxHeartbeats 4000000 in
theorem LD_load {p : Program} {l : Launch} {e : Env} {s : State} {m : MethodId} {args : Array Value} {below : List Frame} {meth : Method} {c : Code} {A : Nat → Prop} {D : va_G} {cI cJ : ClassId} {bs L : Nat} {xs : Nat → Int32} (C : lwC p l s m args c A D cI cJ bs L xs) (b a a2 n d d2 : Nat → Nat) (o i h nc nw : Nat) (σ σ2 ω τ2 : St) (g : Nat → Int64) (hI : lwI σ ω h nc nw) (hi : 6 * i + 6 ≤ L) (hbd : h + 1000 < 2 ^ 29) {H : Heap} {locs : List Loc} {cells slots : Nat} {Q : State → Prop} (hRc : cells + 100 ≤ room_1.cells) (hRs : slots + 1000 ≤ room_1.slots) (hP : va_P D vwCl (wAll b a a2 n d d2 cI cJ o σ σ2 ω τ2 g) H) (hD : va_D A (wAll b a a2 n d d2 cI cJ o σ σ2 ω τ2 g)) (hS : va_S A s.heap H locs) (ls : Array Slot) (hl : lv_has ls 9 [(0, .ref bs), (1, .ref (b 0)), (2, .ref (n 0)), (3, .ref o), (4, .int (nI (6 * i)))]) (kk : lwK p l e s m args below meth c A D cI cJ b a a2 n d d2 o bs i h cells slots Q) : W p l e room_1 s m args below meth c H locs cells slots Q (F0 m 600 ls []) := by
  obtain ⟨hok, hnw, hw12⟩ := id hI
  have hnc := hok.1.2.1
  have hn8 := hok.1.2.2.1
  by_cases h1 : (0 ≤ (xs (6 * i + 1)) ∧ (xs (6 * i + 1)) ≤ σ 17 0 - 1)
  · skip
    obtain ⟨cu, hcn, e1⟩ := cu_of nc (by omega) (by rw [← hnc]; exact h1)
    by_cases h2 : ((xs (6 * i + 2)) = 0 ∨ ¬ ((-20) ≤ (xs (6 * i + 2)) ∧ (xs (6 * i + 2)) ≤ 20))
    · skip
      exact LW_load_e2 C b a a2 n d d2 o i h nc nw σ σ2 ω τ2 g cu (xs (6 * i + 2)) hI hi hbd e1 rfl (by omega) (by rw [← e1]; exact h1) h2 hRc hRs hP hD hS ls hl kk
    · skip
      have okc := hok.1.2.2.2 cu hcn
      obtain ⟨sn, hs, hs8⟩ := inS_nI okc.1
      obtain ⟨ln, hl9, hs9⟩ := inL_nI okc.2.1
      by_cases h4 : (¬ σ 11 cu = 3 ∧ (0 ≤ (σ 6 cu + (xs (6 * i + 2))) ∧ (σ 6 cu + (xs (6 * i + 2))) ≤ 20) ∧ σ 5 cu + (σ 6 cu + (xs (6 * i + 2))) ≤ sound (σ 3) (σ 4) (σ 8 cu) (σ 9 cu))
      · skip
        exact LW_load_ok C b a a2 n d d2 o i h nc nw σ σ2 ω τ2 g cu (xs (6 * i + 2)) sn ln hI hi hbd e1 rfl (by omega) (by rw [← e1]; exact h1) (fun z => h2 (Or.inl z)) (Decidable.not_not.mp (fun z => h2 (Or.inr z))) hs8 hs9 (by omega) (by omega) h4.1 h4.2.1 h4.2.2 hRc hRs hP hD hS ls hl kk
      · skip
        exact LW_load_e3 C b a a2 n d d2 o i h nc nw σ σ2 ω τ2 g cu (xs (6 * i + 2)) sn ln hI hi hbd e1 rfl (by omega) (by rw [← e1]; exact h1) (fun z => h2 (Or.inl z)) (Decidable.not_not.mp (fun z => h2 (Or.inr z))) hs8 hs9 (by omega) (by omega) (by by_cases q1 : σ 11 cu = 3; exact Or.inl q1; by_cases q2 : (0 ≤ (σ 6 cu + (xs (6 * i + 2))) ∧ (σ 6 cu + (xs (6 * i + 2))) ≤ 20); exact Or.inr (Or.inr (fun z => h4 ⟨q1, q2, z⟩)); exact Or.inr (Or.inl q2)) hRc hRs hP hD hS ls hl kk
  · skip
    exact LW_load_e1 C b a a2 n d d2 o i h nc nw σ σ2 ω τ2 g (xs (6 * i + 1)) (xs (6 * i + 2)) hI hi hbd rfl rfl h1 hRc hRs hP hD hS ls hl kk
set_option maxHeartbeats 4000000 in
theorem LD_courier {p : Program} {l : Launch} {e : Env} {s : State} {m : MethodId} {args : Array Value} {below : List Frame} {meth : Method} {c : Code} {A : Nat → Prop} {D : va_G} {cI cJ : ClassId} {bs L : Nat} {xs : Nat → Int32} (C : lwC p l s m args c A D cI cJ bs L xs) (b a a2 n d d2 : Nat → Nat) (o i h nc nw : Nat) (σ σ2 ω τ2 : St) (g : Nat → Int64) (hI : lwI σ ω h nc nw) (hi : 6 * i + 6 ≤ L) (hbd : h + 1000 < 2 ^ 29) {H : Heap} {locs : List Loc} {cells slots : Nat} {Q : State → Prop} (hRc : cells + 100 ≤ room_1.cells) (hRs : slots + 1000 ≤ room_1.slots) (hP : va_P D vwCl (wAll b a a2 n d d2 cI cJ o σ σ2 ω τ2 g) H) (hD : va_D A (wAll b a a2 n d d2 cI cJ o σ σ2 ω τ2 g)) (hS : va_S A s.heap H locs) (ls : Array Slot) (hl : lv_has ls 9 [(0, .ref bs), (1, .ref (b 0)), (2, .ref (n 0)), (3, .ref o), (4, .int (nI (6 * i)))]) (kk : lwK p l e s m args below meth c A D cI cJ b a a2 n d d2 o bs i h cells slots Q) : W p l e room_1 s m args below meth c H locs cells slots Q (F0 m 668 ls []) := by
  obtain ⟨hok, hnw, hw12⟩ := id hI
  have hnc := hok.1.2.1
  have hn8 := hok.1.2.2.1
  by_cases h1 : ((0 ≤ (xs (6 * i + 1)) ∧ (xs (6 * i + 1)) ≤ σ 17 0 - 1) ∧ (0 ≤ (xs (6 * i + 2)) ∧ (xs (6 * i + 2)) ≤ 8))
  · skip
    obtain ⟨cu, hcn, e1⟩ := cu_of nc (by omega) (by rw [← hnc]; exact h1.1)
    obtain ⟨w, hw, e2⟩ := nI_btw (n := 8) (M := 8) (by decide) h1.2.1 h1.2.2
    exact LW_courier_ok C b a a2 n d d2 o i h nc nw σ σ2 ω τ2 g cu w hI hi hbd e1 e2 (by omega) (by rw [← e1]; exact h1.1) (by omega) (by rw [← e2]; exact h1.2) hRc hRs hP hD hS ls hl kk
  · skip
    exact LW_courier_e1 C b a a2 n d d2 o i h nc nw σ σ2 ω τ2 g (xs (6 * i + 1)) (xs (6 * i + 2)) hI hi hbd rfl rfl h1 hRc hRs hP hD hS ls hl kk
set_option maxHeartbeats 4000000 in
theorem LD_wager {p : Program} {l : Launch} {e : Env} {s : State} {m : MethodId} {args : Array Value} {below : List Frame} {meth : Method} {c : Code} {A : Nat → Prop} {D : va_G} {cI cJ : ClassId} {bs L : Nat} {xs : Nat → Int32} (C : lwC p l s m args c A D cI cJ bs L xs) (b a a2 n d d2 : Nat → Nat) (o i h nc nw : Nat) (σ σ2 ω τ2 : St) (g : Nat → Int64) (hI : lwI σ ω h nc nw) (hi : 6 * i + 6 ≤ L) (hbd : h + 1000 < 2 ^ 29) {H : Heap} {locs : List Loc} {cells slots : Nat} {Q : State → Prop} (hRc : cells + 100 ≤ room_1.cells) (hRs : slots + 1000 ≤ room_1.slots) (hP : va_P D vwCl (wAll b a a2 n d d2 cI cJ o σ σ2 ω τ2 g) H) (hD : va_D A (wAll b a a2 n d d2 cI cJ o σ σ2 ω τ2 g)) (hS : va_S A s.heap H locs) (ls : Array Slot) (hl : lv_has ls 9 [(0, .ref bs), (1, .ref (b 0)), (2, .ref (n 0)), (3, .ref o), (4, .int (nI (6 * i)))]) (kk : lwK p l e s m args below meth c A D cI cJ b a a2 n d d2 o bs i h cells slots Q) : W p l e room_1 s m args below meth c H locs cells slots Q (F0 m 736 ls []) := by
  obtain ⟨hok, hnw, hw12⟩ := id hI
  have hnc := hok.1.2.1
  have hn8 := hok.1.2.2.1
  by_cases h1 : ((0 ≤ (xs (6 * i + 1)) ∧ (xs (6 * i + 1)) ≤ 500) ∧ (1 ≤ (xs (6 * i + 2)) ∧ (xs (6 * i + 2)) ≤ 100))
  · skip
    by_cases h2 : (nw < 12 ∧ σ 16 0 = -1)
    · skip
      exact LW_wager_ok C b a a2 n d d2 o i h nc nw σ σ2 ω τ2 g (xs (6 * i + 1)) (xs (6 * i + 2)) hI hi hbd rfl rfl h1.1 h1.2 h2.1 h2.2 hRc hRs hP hD hS ls hl kk
    · skip
      exact LW_wager_e2 C b a a2 n d d2 o i h nc nw σ σ2 ω τ2 g (xs (6 * i + 1)) (xs (6 * i + 2)) hI hi hbd rfl rfl h1.1 h1.2 (by rcases Nat.lt_or_ge nw 12 with q | q; exact Or.inr (fun z => h2 ⟨q, z⟩); exact Or.inl (hnw.trans (by rw [show nw = 12 by omega]; rfl))) hRc hRs hP hD hS ls hl kk
  · skip
    exact LW_wager_e1 C b a a2 n d d2 o i h nc nw σ σ2 ω τ2 g (xs (6 * i + 1)) (xs (6 * i + 2)) hI hi hbd rfl rfl h1 hRc hRs hP hD hS ls hl kk
set_option maxHeartbeats 4000000 in
theorem LD_wins {p : Program} {l : Launch} {e : Env} {s : State} {m : MethodId} {args : Array Value} {below : List Frame} {meth : Method} {c : Code} {A : Nat → Prop} {D : va_G} {cI cJ : ClassId} {bs L : Nat} {xs : Nat → Int32} (C : lwC p l s m args c A D cI cJ bs L xs) (b a a2 n d d2 : Nat → Nat) (o i h nc nw : Nat) (σ σ2 ω τ2 : St) (g : Nat → Int64) (hI : lwI σ ω h nc nw) (hi : 6 * i + 6 ≤ L) (hbd : h + 1000 < 2 ^ 29) {H : Heap} {locs : List Loc} {cells slots : Nat} {Q : State → Prop} (hRc : cells + 100 ≤ room_1.cells) (hRs : slots + 1000 ≤ room_1.slots) (hP : va_P D vwCl (wAll b a a2 n d d2 cI cJ o σ σ2 ω τ2 g) H) (hD : va_D A (wAll b a a2 n d d2 cI cJ o σ σ2 ω τ2 g)) (hS : va_S A s.heap H locs) (ls : Array Slot) (hl : lv_has ls 9 [(0, .ref bs), (1, .ref (b 0)), (2, .ref (n 0)), (3, .ref o), (4, .int (nI (6 * i)))]) (kk : lwK p l e s m args below meth c A D cI cJ b a a2 n d d2 o bs i h cells slots Q) : W p l e room_1 s m args below meth c H locs cells slots Q (F0 m 804 ls []) := by
  obtain ⟨hok, hnw, hw12⟩ := id hI
  have hnc := hok.1.2.1
  have hn8 := hok.1.2.2.1
  by_cases h1 : (0 ≤ (xs (6 * i + 1)) ∧ (xs (6 * i + 1)) ≤ ω 19 0 - 1)
  · skip
    obtain ⟨wg, hwg, e1⟩ := cu_of nw hw12 (by rw [← hnw]; exact h1)
    exact LW_wins_ok C b a a2 n d d2 o i h nc nw σ σ2 ω τ2 g wg hI hi hbd e1 (by rw [← e1]; exact h1) hwg hRc hRs hP hD hS ls hl kk
  · skip
    exact LW_wins_e1 C b a a2 n d d2 o i h nc nw σ σ2 ω τ2 g (xs (6 * i + 1)) hI hi hbd rfl h1 hRc hRs hP hD hS ls hl kk
set_option maxHeartbeats 4000000 in
theorem LD_pass {p : Program} {l : Launch} {e : Env} {s : State} {m : MethodId} {args : Array Value} {below : List Frame} {meth : Method} {c : Code} {A : Nat → Prop} {D : va_G} {cI cJ : ClassId} {bs L : Nat} {xs : Nat → Int32} (C : lwC p l s m args c A D cI cJ bs L xs) (b a a2 n d d2 : Nat → Nat) (o i h nc nw : Nat) (σ σ2 ω τ2 : St) (g : Nat → Int64) (hI : lwI σ ω h nc nw) (hi : 6 * i + 6 ≤ L) (hbd : h + 1000 < 2 ^ 29) {H : Heap} {locs : List Loc} {cells slots : Nat} {Q : State → Prop} (hRc : cells + 100 ≤ room_1.cells) (hRs : slots + 1000 ≤ room_1.slots) (hP : va_P D vwCl (wAll b a a2 n d d2 cI cJ o σ σ2 ω τ2 g) H) (hD : va_D A (wAll b a a2 n d d2 cI cJ o σ σ2 ω τ2 g)) (hS : va_S A s.heap H locs) (ls : Array Slot) (hl : lv_has ls 9 [(0, .ref bs), (1, .ref (b 0)), (2, .ref (n 0)), (3, .ref o), (4, .int (nI (6 * i)))]) (kk : lwK p l e s m args below meth c A D cI cJ b a a2 n d d2 o bs i h cells slots Q) : W p l e room_1 s m args below meth c H locs cells slots Q (F0 m 860 ls []) := by
  obtain ⟨hok, hnw, hw12⟩ := id hI
  have hnc := hok.1.2.1
  have hn8 := hok.1.2.2.1
  by_cases h1 : (1 ≤ (xs (6 * i + 1)) ∧ (xs (6 * i + 1)) ≤ 200)
  · skip
    obtain ⟨n0, hn0, e1⟩ := nI_btw (n := 200) (M := 200) (by decide) (Int32.le_trans (by decide) h1.1) h1.2
    exact LW_pass_ok C b a a2 n d d2 o i h nc nw σ σ2 ω τ2 g n0 hI hi hbd e1 (by rw [← e1]; exact h1) hn0 hRc hRs hP hD hS ls hl kk
  · skip
    exact LW_pass_e1 C b a a2 n d d2 o i h nc nw σ σ2 ω τ2 g (xs (6 * i + 1)) hI hi hbd rfl h1 hRc hRs hP hD hS ls hl kk
set_option maxHeartbeats 4000000 in
theorem LD_count {p : Program} {l : Launch} {e : Env} {s : State} {m : MethodId} {args : Array Value} {below : List Frame} {meth : Method} {c : Code} {A : Nat → Prop} {D : va_G} {cI cJ : ClassId} {bs L : Nat} {xs : Nat → Int32} (C : lwC p l s m args c A D cI cJ bs L xs) (b a a2 n d d2 : Nat → Nat) (o i h nc nw : Nat) (σ σ2 ω τ2 : St) (g : Nat → Int64) (hI : lwI σ ω h nc nw) (hi : 6 * i + 6 ≤ L) (hbd : h + 1000 < 2 ^ 29) {H : Heap} {locs : List Loc} {cells slots : Nat} {Q : State → Prop} (hRc : cells + 100 ≤ room_1.cells) (hRs : slots + 1000 ≤ room_1.slots) (hP : va_P D vwCl (wAll b a a2 n d d2 cI cJ o σ σ2 ω τ2 g) H) (hD : va_D A (wAll b a a2 n d d2 cI cJ o σ σ2 ω τ2 g)) (hS : va_S A s.heap H locs) (ls : Array Slot) (hl : lv_has ls 9 [(0, .ref bs), (1, .ref (b 0)), (2, .ref (n 0)), (3, .ref o), (4, .int (nI (6 * i)))]) (kk : lwK p l e s m args below meth c A D cI cJ b a a2 n d d2 o bs i h cells slots Q) : W p l e room_1 s m args below meth c H locs cells slots Q (F0 m 916 ls []) := by
  obtain ⟨hok, hnw, hw12⟩ := id hI
  have hnc := hok.1.2.1
  have hn8 := hok.1.2.2.1
  by_cases h1 : (0 ≤ (xs (6 * i + 1)) ∧ (xs (6 * i + 1)) ≤ 10)
  · skip
    obtain ⟨w, hw, e1⟩ := nI_btw (n := 10) (M := 10) (by decide) h1.1 h1.2
    exact LW_count_ok C b a a2 n d d2 o i h nc nw σ σ2 ω τ2 g w hI hi hbd e1 (by rw [← e1]; exact h1) (by omega) hRc hRs hP hD hS ls hl kk
  · skip
    exact LW_count_e1 C b a a2 n d d2 o i h nc nw σ σ2 ω τ2 g (xs (6 * i + 1)) hI hi hbd rfl h1 hRc hRs hP hD hS ls hl kk
set_option maxHeartbeats 4000000 in
theorem LD_bears {p : Program} {l : Launch} {e : Env} {s : State} {m : MethodId} {args : Array Value} {below : List Frame} {meth : Method} {c : Code} {A : Nat → Prop} {D : va_G} {cI cJ : ClassId} {bs L : Nat} {xs : Nat → Int32} (C : lwC p l s m args c A D cI cJ bs L xs) (b a a2 n d d2 : Nat → Nat) (o i h nc nw : Nat) (σ σ2 ω τ2 : St) (g : Nat → Int64) (hI : lwI σ ω h nc nw) (hi : 6 * i + 6 ≤ L) (hbd : h + 1000 < 2 ^ 29) {H : Heap} {locs : List Loc} {cells slots : Nat} {Q : State → Prop} (hRc : cells + 100 ≤ room_1.cells) (hRs : slots + 1000 ≤ room_1.slots) (hP : va_P D vwCl (wAll b a a2 n d d2 cI cJ o σ σ2 ω τ2 g) H) (hD : va_D A (wAll b a a2 n d d2 cI cJ o σ σ2 ω τ2 g)) (hS : va_S A s.heap H locs) (ls : Array Slot) (hl : lv_has ls 9 [(0, .ref bs), (1, .ref (b 0)), (2, .ref (n 0)), (3, .ref o), (4, .int (nI (6 * i)))]) (kk : lwK p l e s m args below meth c A D cI cJ b a a2 n d d2 o bs i h cells slots Q) : W p l e room_1 s m args below meth c H locs cells slots Q (F0 m 972 ls []) := by
  obtain ⟨hok, hnw, hw12⟩ := id hI
  have hnc := hok.1.2.1
  have hn8 := hok.1.2.2.1
  by_cases h1 : ((0 ≤ (xs (6 * i + 1)) ∧ (xs (6 * i + 1)) ≤ 11) ∧ (0 ≤ (xs (6 * i + 2)) ∧ (xs (6 * i + 2)) ≤ 11))
  · skip
    obtain ⟨f0, hf0, e1⟩ := nI_btw (n := 11) (M := 11) (by decide) h1.1.1 h1.1.2
    obtain ⟨t0, ht0, e2⟩ := nI_btw (n := 11) (M := 11) (by decide) h1.2.1 h1.2.2
    rcases Nat.le_total f0 t0 with q | q
    · exact LW_bears_ok1 C b a a2 n d d2 o i h nc nw σ σ2 ω τ2 g f0 t0 hI hi hbd e1 e2 (by rw [← e1]; exact h1.1) (by rw [← e2]; exact h1.2) (by omega) (by omega) q hRc hRs hP hD hS ls hl kk
    · exact LW_bears_ok2 C b a a2 n d d2 o i h nc nw σ σ2 ω τ2 g f0 t0 hI hi hbd e1 e2 (by rw [← e1]; exact h1.1) (by rw [← e2]; exact h1.2) (by omega) (by omega) q hRc hRs hP hD hS ls hl kk
  · skip
    exact LW_bears_e1 C b a a2 n d d2 o i h nc nw σ σ2 ω τ2 g (xs (6 * i + 1)) (xs (6 * i + 2)) hI hi hbd rfl rfl h1 hRc hRs hP hD hS ls hl kk
set_option maxHeartbeats 4000000 in
theorem LD_arrives {p : Program} {l : Launch} {e : Env} {s : State} {m : MethodId} {args : Array Value} {below : List Frame} {meth : Method} {c : Code} {A : Nat → Prop} {D : va_G} {cI cJ : ClassId} {bs L : Nat} {xs : Nat → Int32} (C : lwC p l s m args c A D cI cJ bs L xs) (b a a2 n d d2 : Nat → Nat) (o i h nc nw : Nat) (σ σ2 ω τ2 : St) (g : Nat → Int64) (hI : lwI σ ω h nc nw) (hi : 6 * i + 6 ≤ L) (hbd : h + 1000 < 2 ^ 29) {H : Heap} {locs : List Loc} {cells slots : Nat} {Q : State → Prop} (hRc : cells + 100 ≤ room_1.cells) (hRs : slots + 1000 ≤ room_1.slots) (hP : va_P D vwCl (wAll b a a2 n d d2 cI cJ o σ σ2 ω τ2 g) H) (hD : va_D A (wAll b a a2 n d d2 cI cJ o σ σ2 ω τ2 g)) (hS : va_S A s.heap H locs) (ls : Array Slot) (hl : lv_has ls 9 [(0, .ref bs), (1, .ref (b 0)), (2, .ref (n 0)), (3, .ref o), (4, .int (nI (6 * i)))]) (kk : lwK p l e s m args below meth c A D cI cJ b a a2 n d d2 o bs i h cells slots Q) : W p l e room_1 s m args below meth c H locs cells slots Q (F0 m 1040 ls []) := by
  obtain ⟨hok, hnw, hw12⟩ := id hI
  have hnc := hok.1.2.1
  have hn8 := hok.1.2.2.1
  by_cases h1 : (0 ≤ (xs (6 * i + 1)) ∧ (xs (6 * i + 1)) ≤ σ 17 0 - 1)
  · skip
    obtain ⟨cu, hcn, e1⟩ := cu_of nc (by omega) (by rw [← hnc]; exact h1)
    exact LW_arrives_ok C b a a2 n d d2 o i h nc nw σ σ2 ω τ2 g cu hI hi hbd e1 (by rw [← e1]; exact h1) hcn hRc hRs hP hD hS ls hl kk
  · skip
    exact LW_arrives_e1 C b a a2 n d d2 o i h nc nw σ σ2 ω τ2 g (xs (6 * i + 1)) hI hi hbd rfl h1 hRc hRs hP hD hS ls hl kk
set_option maxHeartbeats 4000000 in
theorem LD_best {p : Program} {l : Launch} {e : Env} {s : State} {m : MethodId} {args : Array Value} {below : List Frame} {meth : Method} {c : Code} {A : Nat → Prop} {D : va_G} {cI cJ : ClassId} {bs L : Nat} {xs : Nat → Int32} (C : lwC p l s m args c A D cI cJ bs L xs) (b a a2 n d d2 : Nat → Nat) (o i h nc nw : Nat) (σ σ2 ω τ2 : St) (g : Nat → Int64) (hI : lwI σ ω h nc nw) (hi : 6 * i + 6 ≤ L) (hbd : h + 1000 < 2 ^ 29) {H : Heap} {locs : List Loc} {cells slots : Nat} {Q : State → Prop} (hRc : cells + 100 ≤ room_1.cells) (hRs : slots + 1000 ≤ room_1.slots) (hP : va_P D vwCl (wAll b a a2 n d d2 cI cJ o σ σ2 ω τ2 g) H) (hD : va_D A (wAll b a a2 n d d2 cI cJ o σ σ2 ω τ2 g)) (hS : va_S A s.heap H locs) (ls : Array Slot) (hl : lv_has ls 9 [(0, .ref bs), (1, .ref (b 0)), (2, .ref (n 0)), (3, .ref o), (4, .int (nI (6 * i)))]) (kk : lwK p l e s m args below meth c A D cI cJ b a a2 n d d2 o bs i h cells slots Q) : W p l e room_1 s m args below meth c H locs cells slots Q (F0 m 1096 ls []) := by
  obtain ⟨hok, hnw, hw12⟩ := id hI
  have hnc := hok.1.2.1
  have hn8 := hok.1.2.2.1
  by_cases h1 : (0 ≤ (xs (6 * i + 1)) ∧ (xs (6 * i + 1)) ≤ σ 17 0 - 1)
  · skip
    obtain ⟨cu, hcn, e1⟩ := cu_of nc (by omega) (by rw [← hnc]; exact h1)
    exact LW_best_ok C b a a2 n d d2 o i h nc nw σ σ2 ω τ2 g cu hI hi hbd e1 (by rw [← e1]; exact h1) hcn hRc hRs hP hD hS ls hl kk
  · skip
    exact LW_best_e1 C b a a2 n d d2 o i h nc nw σ σ2 ω τ2 g (xs (6 * i + 1)) hI hi hbd rfl h1 hRc hRs hP hD hS ls hl kk
set_option maxHeartbeats 4000000 in
theorem LD_thaw {p : Program} {l : Launch} {e : Env} {s : State} {m : MethodId} {args : Array Value} {below : List Frame} {meth : Method} {c : Code} {A : Nat → Prop} {D : va_G} {cI cJ : ClassId} {bs L : Nat} {xs : Nat → Int32} (C : lwC p l s m args c A D cI cJ bs L xs) (b a a2 n d d2 : Nat → Nat) (o i h nc nw : Nat) (σ σ2 ω τ2 : St) (g : Nat → Int64) (hI : lwI σ ω h nc nw) (hi : 6 * i + 6 ≤ L) (hbd : h + 1000 < 2 ^ 29) {H : Heap} {locs : List Loc} {cells slots : Nat} {Q : State → Prop} (hRc : cells + 100 ≤ room_1.cells) (hRs : slots + 1000 ≤ room_1.slots) (hP : va_P D vwCl (wAll b a a2 n d d2 cI cJ o σ σ2 ω τ2 g) H) (hD : va_D A (wAll b a a2 n d d2 cI cJ o σ σ2 ω τ2 g)) (hS : va_S A s.heap H locs) (ls : Array Slot) (hl : lv_has ls 9 [(0, .ref bs), (1, .ref (b 0)), (2, .ref (n 0)), (3, .ref o), (4, .int (nI (6 * i)))]) (kk : lwK p l e s m args below meth c A D cI cJ b a a2 n d d2 o bs i h cells slots Q) : W p l e room_1 s m args below meth c H locs cells slots Q (F0 m 1152 ls []) := by
  obtain ⟨hok, hnw, hw12⟩ := id hI
  have hnc := hok.1.2.1
  have hn8 := hok.1.2.2.1
  by_cases h1 : σ 16 0 = -1
  · skip
    exact LW_thaw_ok1 C b a a2 n d d2 o i h nc nw σ σ2 ω τ2 g  hI hi hbd  h1 hRc hRs hP hD hS ls hl kk
  · skip
    exact LW_thaw_ok2 C b a a2 n d d2 o i h nc nw σ σ2 ω τ2 g  hI hi hbd  h1 hRc hRs hP hD hS ls hl kk
