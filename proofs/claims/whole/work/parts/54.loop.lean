theorem and31 (x : Int32) : ∃ k : Nat, k < 32 ∧ x &&& 31 = nI k := by
  refine ⟨(x &&& 31).toBitVec.toNat, ?_, ?_⟩
  · have e : (x &&& 31).toBitVec = x.toBitVec &&& 31#32 := rfl
    rw [e, BitVec.toNat_and]
    exact Nat.lt_succ_of_le (Nat.and_le_right)
  · apply Int32.toBitVec_inj.1
    show (x &&& 31).toBitVec = BitVec.ofNat 32 (x &&& 31).toBitVec.toNat
    simp
theorem lp_law {i L : Nat} (hL : L ≤ 3072) (hi : 6 * i ≤ 4000) : Int32.ofNat L - 6 < nI (6 * i) ↔ ¬ 6 * i + 6 ≤ L := by
  have e6 : (6 : Int32).toInt = 6 := by decide
  have eL : (Int32.ofNat L).toInt = (L : Int) := nI_toInt (n := L) (by omega)
  have q : (Int32.ofNat L - 6).toInt = (L : Int) - 6 := by
    rw [Int32.toInt_sub, eL, e6]
    exact Int.bmod_eq_of_le (by omega) (by omega)
  rw [i_lt, q, nI_toInt (n := 6 * i) (by omega)]
  omega
set_option maxHeartbeats 4000000 in
set_option maxRecDepth 100000 in
theorem law_loop {p : Program} {l : Launch} {e : Env} {s : State} {m : MethodId} {args : Array Value} {below : List Frame} {meth : Method} {c : Code} {A : Nat → Prop} {D : va_G} {cI cJ : ClassId} {bs L : Nat} {xs : Nat → Int32} (C : lwC p l s m args c A D cI cJ bs L xs) (b a a2 n d d2 : Nat → Nat) (o : Nat) {Q : State → Prop}
    (hend : ∀ (H : Heap) (locs : List Loc) (ls : Array Slot), va_S A s.heap H locs → W p l e room_1 s m args below meth c H locs 20000 200000 Q (F0 m 1226 ls [])) :
    ∀ (f i h nc nw : Nat) (σ σ2 ω τ2 : St) (g : Nat → Int64), 600 - i < f → 6 * i ≤ L + 5 → h ≤ 200 * i → lwI σ ω h nc nw → ∀ (H : Heap) (locs : List Loc), va_P D vwCl (wAll b a a2 n d d2 cI cJ o σ σ2 ω τ2 g) H → va_D A (wAll b a a2 n d d2 cI cJ o σ σ2 ω τ2 g) → va_S A s.heap H locs → ∀ (ls : Array Slot), lv_has ls 9 [(0, .ref bs), (1, .ref (b 0)), (2, .ref (n 0)), (3, .ref o), (4, .int (nI (6 * i)))] → W p l e room_1 s m args below meth c H locs (60 + 23 * i) (1000 + 200 * i) Q (F0 m 23 ls []) := by
  intro f
  induction f with
  | zero => intro i h nc nw σ σ2 ω τ2 g hf; exact absurd hf (Nat.not_lt_zero _)
  | succ f ih =>
    intro i h nc nw σ σ2 ω τ2 g hf hiL hh hI H locs hP hD hS ls hl
    obtain ⟨hx, hb, hml, hown, hts, hK, hEX, hX, hbl, hbA, hst, hA, hL⟩ := id C
    refine lv_iload hx hb dL_law_23 (lv_at hl 4 rfl) ?_
    refine lv_aload_n hx hb dL_law_25 rfl (lv_at hl 0 rfl) ?_
    refine va_slen hx hb hX hbl hbA hS dL_law_26 ?_
    refine lv_bipush (v := 6) hx hb dL_law_27 (by decide) ?_
    refine lv_isub hx hb dL_law_29 ?_
    refine lv_icmp_gt (tgt := 1226) hx hb dL_law_30 (by decide) (fun q => ?_) (fun q => ?_)
    · refine W.widen (k := 20000) (n := 200000) (by omega) (by omega) ?_
      exact hend H locs ls hS
    · have hi : 6 * i + 6 ≤ L := Decidable.not_not.mp (fun z => q ((lp_law hL (by omega)).mpr z))
      have hbd : h + 1000 < 2 ^ 29 := by omega
      have kk : lwK p l e s m args below meth c A D cI cJ b a a2 n d d2 o bs i h (60 + 23 * i) (1000 + 200 * i) Q := by
        intro σ' σ2' ω' τ2' g' h' nc' nw' hI' hh' H' locs' hP' hD' hS' ls' hl'
        refine lv_iinc (v := nI (6 * (i + 1))) (lv' := [(4, .int (nI (6 * (i + 1)))), (0, .ref bs), (1, .ref (b 0)), (2, .ref (n 0)), (3, .ref o)]) hx hb dL_law_1220 hl' (k := 4) rfl (by rw [show 6 * (i + 1) = 6 * i + 6 by omega]; exact nI_add (6 * i) 6) (by decide) rfl (fun ls hl => ?_)
        refine lv_goto (tgt := 23) hx hb dL_law_1223 (by decide) ?_
        exact ih (i + 1) h' nc' nw' σ' σ2' ω' τ2' g' (by omega) (by omega) (by omega) hI' H' locs' hP' hD' hS' ls (lv_sub hl [1, 2, 3, 4, 0] rfl)
      have hRc : 60 + 23 * i + 100 ≤ room_1.cells := Nat.le_trans (show _ ≤ 20000 by omega) (by decide)
      have hRs : 1000 + 200 * i + 1000 ≤ room_1.slots := Nat.le_trans (show _ ≤ 200000 by omega) (by decide)
      refine lv_aload_n hx hb dL_law_33 rfl (lv_at hl 0 rfl) ?_
      refine lv_iload hx hb dL_law_34 (lv_at hl 4 rfl) ?_
      refine va_sld hx hb hX hbl hbA hS (vp_in_nI (show 6 * i < L by omega) (by omega)) dL_law_36 ?_
      refine lv_bipush (v := 31) hx hb dL_law_37 (by decide) ?_
      refine lv_iand hx hb dL_law_39 ?_
      obtain ⟨k, hk, ek⟩ := and31 (xs (nI (6 * i)).toNatClampNeg)
      rw [ek]
      rcases (show k = 0 ∨ k = 1 ∨ k = 2 ∨ k = 3 ∨ k = 4 ∨ k = 5 ∨ k = 6 ∨ k = 7 ∨ k = 8 ∨ k = 9 ∨ k = 10 ∨ k = 11 ∨ k = 12 ∨ k = 13 ∨ k = 14 ∨ k = 15 ∨ k = 16 ∨ k = 17 ∨ k = 18 ∨ k = 19 ∨ k = 20 ∨ k = 21 ∨ k = 22 ∨ k = 23 ∨ k = 24 ∨ k = 25 ∨ k = 26 ∨ k = 27 ∨ k = 28 ∨ k = 29 ∨ k = 30 ∨ k = 31 by omega) with rfl | rfl | rfl | rfl | rfl | rfl | rfl | rfl | rfl | rfl | rfl | rfl | rfl | rfl | rfl | rfl | rfl | rfl | rfl | rfl | rfl | rfl | rfl | rfl | rfl | rfl | rfl | rfl | rfl | rfl | rfl | rfl
      · refine lv_tableIn (tgt := 128) hx hb dL_law_40 (by decide) (by decide) (by rfl) (by decide) ?_
        exact LD_setWarm C b a a2 n d d2 o i h nc nw σ σ2 ω τ2 g hI hi hbd hRc hRs hP hD hS ls hl kk
      · refine lv_tableIn (tgt := 196) hx hb dL_law_40 (by decide) (by decide) (by rfl) (by decide) ?_
        exact LD_setIce C b a a2 n d d2 o i h nc nw σ σ2 ω τ2 g hI hi hbd hRc hRs hP hD hS ls hl kk
      · refine lv_tableIn (tgt := 276) hx hb dL_law_40 (by decide) (by decide) (by rfl) (by decide) ?_
        exact LD_build C b a a2 n d d2 o i h nc nw σ σ2 ω τ2 g hI hi hbd hRc hRs hP hD hS ls hl kk
      · refine lv_tableIn (tgt := 332) hx hb dL_law_40 (by decide) (by decide) (by rfl) (by decide) ?_
        exact LD_place C b a a2 n d d2 o i h nc nw σ σ2 ω τ2 g hI hi hbd hRc hRs hP hD hS ls hl kk
      · refine lv_tableIn (tgt := 412) hx hb dL_law_40 (by decide) (by decide) (by rfl) (by decide) ?_
        exact LD_come C b a a2 n d d2 o i h nc nw σ σ2 ω τ2 g hI hi hbd hRc hRs hP hD hS ls hl kk
      · refine lv_tableIn (tgt := 532) hx hb dL_law_40 (by decide) (by decide) (by rfl) (by decide) ?_
        exact LD_send C b a a2 n d d2 o i h nc nw σ σ2 ω τ2 g hI hi hbd hRc hRs hP hD hS ls hl kk
      · refine lv_tableIn (tgt := 600) hx hb dL_law_40 (by decide) (by decide) (by rfl) (by decide) ?_
        exact LD_load C b a a2 n d d2 o i h nc nw σ σ2 ω τ2 g hI hi hbd hRc hRs hP hD hS ls hl kk
      · refine lv_tableIn (tgt := 668) hx hb dL_law_40 (by decide) (by decide) (by rfl) (by decide) ?_
        exact LD_courier C b a a2 n d d2 o i h nc nw σ σ2 ω τ2 g hI hi hbd hRc hRs hP hD hS ls hl kk
      · refine lv_tableIn (tgt := 736) hx hb dL_law_40 (by decide) (by decide) (by rfl) (by decide) ?_
        exact LD_wager C b a a2 n d d2 o i h nc nw σ σ2 ω τ2 g hI hi hbd hRc hRs hP hD hS ls hl kk
      · refine lv_tableIn (tgt := 804) hx hb dL_law_40 (by decide) (by decide) (by rfl) (by decide) ?_
        exact LD_wins C b a a2 n d d2 o i h nc nw σ σ2 ω τ2 g hI hi hbd hRc hRs hP hD hS ls hl kk
      · refine lv_tableIn (tgt := 860) hx hb dL_law_40 (by decide) (by decide) (by rfl) (by decide) ?_
        exact LD_pass C b a a2 n d d2 o i h nc nw σ σ2 ω τ2 g hI hi hbd hRc hRs hP hD hS ls hl kk
      · refine lv_tableIn (tgt := 916) hx hb dL_law_40 (by decide) (by decide) (by rfl) (by decide) ?_
        exact LD_count C b a a2 n d d2 o i h nc nw σ σ2 ω τ2 g hI hi hbd hRc hRs hP hD hS ls hl kk
      · refine lv_tableIn (tgt := 972) hx hb dL_law_40 (by decide) (by decide) (by rfl) (by decide) ?_
        exact LD_bears C b a a2 n d d2 o i h nc nw σ σ2 ω τ2 g hI hi hbd hRc hRs hP hD hS ls hl kk
      · refine lv_tableIn (tgt := 1040) hx hb dL_law_40 (by decide) (by decide) (by rfl) (by decide) ?_
        exact LD_arrives C b a a2 n d d2 o i h nc nw σ σ2 ω τ2 g hI hi hbd hRc hRs hP hD hS ls hl kk
      · refine lv_tableIn (tgt := 1096) hx hb dL_law_40 (by decide) (by decide) (by rfl) (by decide) ?_
        exact LD_best C b a a2 n d d2 o i h nc nw σ σ2 ω τ2 g hI hi hbd hRc hRs hP hD hS ls hl kk
      · refine lv_tableIn (tgt := 1152) hx hb dL_law_40 (by decide) (by decide) (by rfl) (by decide) ?_
        exact LD_thaw C b a a2 n d d2 o i h nc nw σ σ2 ω τ2 g hI hi hbd hRc hRs hP hD hS ls hl kk
      · refine lv_tableIn (tgt := 1165) hx hb dL_law_40 (by decide) (by decide) (by rfl) (by decide) ?_
        exact LW_mean_ok C b a a2 n d d2 o i h nc nw σ σ2 ω τ2 g hI hi hbd hRc hRs hP hD hS ls hl kk
      · refine lv_tableIn (tgt := 1206) hx hb dL_law_40 (by decide) (by decide) (by rfl) (by decide) ?_
        exact LW_digest_ok C b a a2 n d d2 o i h nc nw σ σ2 ω τ2 g hI hi hbd hRc hRs hP hD hS ls hl kk
      · refine lv_tableOut (tgt := 1220) hx hb dL_law_40 (by decide) (by decide) ?_
        refine W.widen (k := 60 + 23 * i + 23) (n := 1000 + 200 * i + 200) (by omega) (by omega) ?_
        exact kk σ σ2 ω τ2 g h nc nw hI (by omega) H locs hP hD hS ls hl
      · refine lv_tableOut (tgt := 1220) hx hb dL_law_40 (by decide) (by decide) ?_
        refine W.widen (k := 60 + 23 * i + 23) (n := 1000 + 200 * i + 200) (by omega) (by omega) ?_
        exact kk σ σ2 ω τ2 g h nc nw hI (by omega) H locs hP hD hS ls hl
      · refine lv_tableOut (tgt := 1220) hx hb dL_law_40 (by decide) (by decide) ?_
        refine W.widen (k := 60 + 23 * i + 23) (n := 1000 + 200 * i + 200) (by omega) (by omega) ?_
        exact kk σ σ2 ω τ2 g h nc nw hI (by omega) H locs hP hD hS ls hl
      · refine lv_tableOut (tgt := 1220) hx hb dL_law_40 (by decide) (by decide) ?_
        refine W.widen (k := 60 + 23 * i + 23) (n := 1000 + 200 * i + 200) (by omega) (by omega) ?_
        exact kk σ σ2 ω τ2 g h nc nw hI (by omega) H locs hP hD hS ls hl
      · refine lv_tableOut (tgt := 1220) hx hb dL_law_40 (by decide) (by decide) ?_
        refine W.widen (k := 60 + 23 * i + 23) (n := 1000 + 200 * i + 200) (by omega) (by omega) ?_
        exact kk σ σ2 ω τ2 g h nc nw hI (by omega) H locs hP hD hS ls hl
      · refine lv_tableOut (tgt := 1220) hx hb dL_law_40 (by decide) (by decide) ?_
        refine W.widen (k := 60 + 23 * i + 23) (n := 1000 + 200 * i + 200) (by omega) (by omega) ?_
        exact kk σ σ2 ω τ2 g h nc nw hI (by omega) H locs hP hD hS ls hl
      · refine lv_tableOut (tgt := 1220) hx hb dL_law_40 (by decide) (by decide) ?_
        refine W.widen (k := 60 + 23 * i + 23) (n := 1000 + 200 * i + 200) (by omega) (by omega) ?_
        exact kk σ σ2 ω τ2 g h nc nw hI (by omega) H locs hP hD hS ls hl
      · refine lv_tableOut (tgt := 1220) hx hb dL_law_40 (by decide) (by decide) ?_
        refine W.widen (k := 60 + 23 * i + 23) (n := 1000 + 200 * i + 200) (by omega) (by omega) ?_
        exact kk σ σ2 ω τ2 g h nc nw hI (by omega) H locs hP hD hS ls hl
      · refine lv_tableOut (tgt := 1220) hx hb dL_law_40 (by decide) (by decide) ?_
        refine W.widen (k := 60 + 23 * i + 23) (n := 1000 + 200 * i + 200) (by omega) (by omega) ?_
        exact kk σ σ2 ω τ2 g h nc nw hI (by omega) H locs hP hD hS ls hl
      · refine lv_tableOut (tgt := 1220) hx hb dL_law_40 (by decide) (by decide) ?_
        refine W.widen (k := 60 + 23 * i + 23) (n := 1000 + 200 * i + 200) (by omega) (by omega) ?_
        exact kk σ σ2 ω τ2 g h nc nw hI (by omega) H locs hP hD hS ls hl
      · refine lv_tableOut (tgt := 1220) hx hb dL_law_40 (by decide) (by decide) ?_
        refine W.widen (k := 60 + 23 * i + 23) (n := 1000 + 200 * i + 200) (by omega) (by omega) ?_
        exact kk σ σ2 ω τ2 g h nc nw hI (by omega) H locs hP hD hS ls hl
      · refine lv_tableOut (tgt := 1220) hx hb dL_law_40 (by decide) (by decide) ?_
        refine W.widen (k := 60 + 23 * i + 23) (n := 1000 + 200 * i + 200) (by omega) (by omega) ?_
        exact kk σ σ2 ω τ2 g h nc nw hI (by omega) H locs hP hD hS ls hl
      · refine lv_tableOut (tgt := 1220) hx hb dL_law_40 (by decide) (by decide) ?_
        refine W.widen (k := 60 + 23 * i + 23) (n := 1000 + 200 * i + 200) (by omega) (by omega) ?_
        exact kk σ σ2 ω τ2 g h nc nw hI (by omega) H locs hP hD hS ls hl
      · refine lv_tableOut (tgt := 1220) hx hb dL_law_40 (by decide) (by decide) ?_
        refine W.widen (k := 60 + 23 * i + 23) (n := 1000 + 200 * i + 200) (by omega) (by omega) ?_
        exact kk σ σ2 ω τ2 g h nc nw hI (by omega) H locs hP hD hS ls hl
