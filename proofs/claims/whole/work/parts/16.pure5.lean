theorem pl_eq (i j : Nat) (h : 3 * i + j < 2 ^ 31) : pl (nI i) (nI j) = 3 * i + j := by
  unfold pl
  rw [pl_nI, nI_clamp h]
theorem lnF_in {σ : St} {cu : Nat} (h : okC σ cu) (hn : ¬ lnF σ cu = -1) : inL (lnF σ cu) := laneOf_in h.2.1 hn
theorem nxF_pl {σ : St} {cu : Nat} (h : okC σ cu) (hn : ¬ nxF σ cu = -1) : ∃ tn j, tn < 12 ∧ j < 3 ∧ nsec σ cu = nI tn ∧ lnF σ cu = nI j ∧ nxF σ cu = nI (3 * tn + j) := by
  have h1 : ¬ lnF σ cu = -1 := fun z => hn (if_pos z)
  obtain ⟨tn, ht, e1⟩ := inS_nI (inS_nsec h.1 h.2.2.1)
  obtain ⟨j, hj, e2⟩ := inL_nI (lnF_in h h1)
  refine ⟨tn, j, ht, hj, e1, e2, ?_⟩
  unfold nxF
  rw [if_neg h1, e1, e2, pl_nI2]
theorem div3 {tn j : Nat} (h : tn < 12) (hj : j < 3) : nI (3 * tn + j) / 3 = nI tn :=
  (div_nI (h := 3 * tn + j) (d := 3) (D := 3) rfl (by omega) (by omega) (by omega)).trans (congrArg nI (by omega))
theorem mod3 {tn j : Nat} (h : tn < 12) (hj : j < 3) : nI (3 * tn + j) - nI (3 * tn + j) / 3 * 3 = nI j :=
  (rem_nI (h := 3 * tn + j) (d := 3) (D := 3) rfl (by omega) (by omega) (by omega)).trans (congrArg nI (by omega))
theorem wsC_t {t c : Nat → Int32} {tn j : Nat} {ld : Int32} (h : 3 * tn + j < 2 ^ 31) (hc : ¬ 2 * ld ≤ sndP t c (nI (3 * tn + j))) : upd c (3 * tn + j) (mn 9 (c (3 * tn + j) + 1)) = wsC t c (nI tn) (nI j) ld := by
  unfold wsC
  rw [sound_nI, pl_eq _ _ h, if_pos (by rw [i_lt]; rw [i_le] at hc; omega)]
theorem wsC_f {t c : Nat → Int32} {tn j : Nat} {ld : Int32} (hc : 2 * ld ≤ sndP t c (nI (3 * tn + j))) : c = wsC t c (nI tn) (nI j) ld := by
  unfold wsC
  rw [sound_nI, if_neg (by rw [i_lt]; rw [i_le] at hc; omega)]
theorem snd2_eq {t c : Nat → Int32} {tn j : Nat} {ld : Int32} (h : 3 * tn + j < 2 ^ 31) : sndP t (wsC t c (nI tn) (nI j) ld) (nI (3 * tn + j)) = snd2 t c (nI tn) (nI j) ld := by
  rw [sndP_nI _ _ h]
  unfold snd2
  rw [pl_eq _ _ h]
theorem wsT_t {t c : Nat → Int32} {s l ld : Int32} (h : ld ≤ snd2 t c s l ld) : wsT t c s l ld = t := if_pos h
theorem wsT_f {t c : Nat → Int32} {tn j : Nat} {ld : Int32} (hb : 3 * tn + j < 2 ^ 31) (h : ¬ ld ≤ snd2 t c (nI tn) (nI j) ld) : wsT t c (nI tn) (nI j) ld = upd t (3 * tn + j) 0 := by
  unfold wsT
  rw [if_neg h, pl_eq _ _ hb]
theorem okC_pace2 {σ : St} {cu : Nat} (h : okC σ cu) : ∃ pn, σ 13 cu = nI pn ∧ 1 ≤ pn ∧ pn ≤ 2 := by
  rcases h.2.2.2.2.2.2 with q | q
  · exact ⟨1, q, by omega, by omega⟩
  · exact ⟨2, q, by omega, by omega⟩
theorem pace_b {x : Int32} {pn : Nat} (h : x = nI pn) (h1 : 1 ≤ pn) (h2 : pn ≤ 2) : bI (x = 2) = nI (pn - 1) := by
  rcases (show pn = 1 ∨ pn = 2 by omega) with rfl | rfl
  · exact (bI_f (by rw [h]; decide)).symm
  · exact (bI_t (by rw [h]; decide)).symm
theorem rs_eq {τ ω : St} {k : Nat} (h2 : τ 2 = ω 2) (hh : okH (ω 2)) (hs : inS (τ 8 k)) : mn 20 ((τ 7 k + 1) + 4 * ω 2 (τ 8 k).toNatClampNeg) = rsN τ k := by
  unfold rsN hutF
  rw [h2]
  obtain ⟨i, hi, e⟩ := inS_nI hs
  rw [e, nI_clamp (by omega)]
  rcases hh i hi with q | q
  · rw [q, if_neg (by decide)]
    rw [Int32.add_assoc]
    rfl
  · rw [q, if_pos rfl]
    rw [Int32.add_assoc]
    rfl
theorem hr1_eq {σ ω : St} {h : Nat} (hh : σ 0 0 = nI h) (hb : h < 2 ^ 30) (hz : h % 12 = 0) (hw : σ 1 = ω 1) : put (put σ 3 (mapTo (meetM (more (ω 1 (h / 12 % 14)))) 36 (σ 3))) 4 (mapTo (meetC (ω 1 (h / 12 % 14))) 36 (σ 4)) = hr1 σ := by
  unfold hr1 meetF
  rw [hh, nI_clamp (by omega), if_pos hz, hw]
theorem nx_end {σ : St} {cu tn na nm k f : Nat} {ld ch be : Int32} (et : nsec σ cu = nI tn) (ea : mx 0 (σ 9 cu - 1) = nI na) (eb : mn 2 (σ 9 cu + 1) = nI nm) (eld : ld = σ 5 cu + σ 6 cu) (ht : tn < 12) (hm : nm < 3) (hk4 : k < 2 ^ 30) (hk : nm < k) (hi : nxI tn ch be) (hv : laneF (σ 3) (σ 4) (nI tn) ld (nI nm) f (nI k) ch = laneF (σ 3) (σ 4) (nI tn) ld (nI nm) 4 (nI na) (-1)) : be = nxF σ cu := by
  rw [laneF_ge k nm (by omega) hk4 f ch hk] at hv
  have hln : lnF σ cu = ch := by
    unfold lnF laneOf ldF
    rw [et, ea, eb, ← eld]
    exact hv.symm
  unfold nxF
  rw [hln, et]
  rcases hi with ⟨h1, h2⟩ | ⟨j, hj, h1, h2⟩
  · rw [if_pos h1]; exact h2
  · rw [h1, if_neg (nI_m1 (by omega)), pl_nI2]; exact h2
