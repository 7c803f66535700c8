def ldF (σ : St) (cu : Nat) : Int32 := σ 5 cu + σ 6 cu
def lnF (σ : St) (cu : Nat) : Int32 := laneOf (σ 3) (σ 4) (nsec σ cu) (σ 9 cu) (ldF σ cu)
def stepN (σ : St) (cu : Nat) (to ln : Int32) : St := put (put (put (put σ 7 (upd (σ 7) cu (σ 7 cu - 1))) 8 (upd (σ 8) cu to)) 9 (upd (σ 9) cu ln)) 12 (upd (σ 12) cu (σ 12 cu + 1))
def stepM (σ : St) (cu : Nat) (to ln ld : Int32) : St := put (put (stepN σ cu to ln) 3 (wsT (σ 3) (σ 4) to ln ld)) 4 (wsC (σ 3) (σ 4) to ln ld)
def stepB (σ : St) (cu : Nat) (to ln ld : Int32) : St := put (put (stepM σ cu to ln ld) 6 (upd (σ 6) cu 0)) 11 (upd (σ 11) cu 3)
def stepA (σ : St) (cu : Nat) (to ln ld : Int32) : St := put (put (stepM σ cu to ln ld) 11 (upd (σ 11) cu 2)) 18 (fun _ => σ 18 0 + 1)
def stepG (σ : St) (cu : Nat) (to ln ld : Int32) : St := if ¬ ld ≤ snd2 (σ 3) (σ 4) to ln ld then stepB σ cu to ln ld else if to = σ 10 cu then stepA σ cu to ln ld else stepM σ cu to ln ld
def stepF (σ : St) (cu : Nat) : St := if σ 7 cu = 0 ∨ lnF σ cu = -1 then put σ 11 (upd (σ 11) cu 0) else stepG σ cu (nsec σ cu) (lnF σ cu) (ldF σ cu)
theorem upd_s (f : Nat → Int32) (k : Nat) (x : Int32) : upd f k x k = x := if_pos rfl
theorem upd_n (f : Nat → Int32) {k j : Nat} (x : Int32) (h : j ≠ k) : upd f k x j = f j := if_neg h
/-- what is known of a courier -/
def okC (σ : St) (cu : Nat) : Prop := inS (σ 8 cu) ∧ inL (σ 9 cu) ∧ inS (σ 10 cu) ∧ (σ 11 cu = 1 → ¬ σ 8 cu = σ 10 cu) ∧ (σ 11 cu = 2 → σ 8 cu = σ 10 cu) ∧ (σ 11 cu = 0 ∨ σ 11 cu = 1 ∨ σ 11 cu = 2 ∨ σ 11 cu = 3) ∧ (σ 13 cu = 1 ∨ σ 13 cu = 2)
theorem inS_nsec {σ : St} {cu : Nat} (h1 : inS (σ 8 cu)) (h2 : inS (σ 10 cu)) : inS (nsec σ cu) := by
  unfold nsec
  split
  · rename_i h
    obtain ⟨i, hi, e1⟩ := inS_nI h1
    obtain ⟨j, hj, e2⟩ := inS_nI h2
    rw [e1, e2] at h
    have := (nI_ltI (a := i) (b := j) (by omega) (by omega)).mp h
    rw [e1, nI_1]
    exact nI_le11 (by omega)
  · split
    · exact h2
    · rename_i h h3
      obtain ⟨i, hi, e1⟩ := inS_nI h1
      obtain ⟨j, hj, e2⟩ := inS_nI h2
      rw [e1, e2] at h h3
      have h4 : ¬ i < j := fun z => h ((nI_ltI (a := i) (b := j) (by omega) (by omega)).mpr z)
      have h5 : ¬ i = j := fun z => h3 (by rw [z])
      rw [e1]
      obtain ⟨k, rfl⟩ : ∃ k, i = k + 1 := ⟨i - 1, by omega⟩
      rw [nI_pred]
      exact nI_le11 (by omega)
theorem laneF_in {t c : Nat → Int32} {s ld : Int32} {nm : Nat} (hm : nm < 3) : ∀ (n k : Nat) (ch : Int32), k < 4 → (ch = -1 ∨ inL ch) → (laneF t c s ld (nI nm) n (nI k) ch = -1 ∨ inL (laneF t c s ld (nI nm) n (nI k) ch))
  | 0, _, _, _, h => h
  | n + 1, k, ch, hk, h => by
    by_cases q : k ≤ nm
    · rw [laneF_step q (by omega)]
      refine laneF_in hm n (k + 1) _ (by omega) ?_
      split
      · exact Or.inr (nI_le2 (by omega))
      · exact h
    · rw [laneF_ge k nm (by omega) (by omega) _ _ (by omega)]
      exact h
theorem laneOf_in {t c : Nat → Int32} {s l ld : Int32} (hl : inL l) (h : ¬ laneOf t c s l ld = -1) : inL (laneOf t c s l ld) := by
  obtain ⟨na, nm, ea, eb, ha, hm, hab⟩ := lane_ends hl
  have e : laneOf t c s l ld = laneF t c s ld (nI nm) 4 (nI na) (-1) := by unfold laneOf; rw [ea, eb]
  rcases laneF_in (t := t) (c := c) (s := s) (ld := ld) hm 4 na (-1) (by omega) (Or.inl rfl) with q | q
  · exact absurd (e.trans q) h
  · rw [e]; exact q
/-- the steps of an hour: n of them, as long as one goes -/
def itS (σ : St) (cu : Nat) : Nat → St
  | 0 => σ
  | n + 1 => if itS σ cu n 11 cu = 1 then stepF (itS σ cu n) cu else itS σ cu n
theorem itS_stop {σ : St} {cu : Nat} {j : Nat} (h : ¬ itS σ cu j 11 cu = 1) : ∀ n, j ≤ n → itS σ cu n = itS σ cu j
  | 0, q => by rw [show j = 0 by omega]
  | n + 1, q => by
    by_cases e : j = n + 1
    · rw [e]
    · have := itS_stop h n (by omega)
      show (if itS σ cu n 11 cu = 1 then _ else _) = _
      rw [this, if_neg h]
def trvF (σ : St) (cu : Nat) : St := itS σ cu (σ 13 cu).toNatClampNeg
def trA (σ : St) : Nat → St
  | 0 => σ
  | n + 1 => trvF (trA σ n) n
def hutF (σ : St) (cu : Nat) : Int32 := if σ 2 (σ 8 cu).toNatClampNeg = 1 then 4 else 0
def rsN (σ : St) (cu : Nat) : Int32 := mn 20 (σ 7 cu + (1 + hutF σ cu))
def restF (σ : St) (cu : Nat) : St := if ¬ σ 11 cu = 0 then σ else if ¬ σ 8 cu = σ 10 cu ∧ 10 ≤ rsN σ cu then put (put σ 7 (upd (σ 7) cu (rsN σ cu))) 11 (upd (σ 11) cu 1) else put σ 7 (upd (σ 7) cu (rsN σ cu))
def rsA (σ : St) : Nat → St
  | 0 => σ
  | n + 1 => restF (rsA σ n) n
def meetF (σ : St) (w : Int32) : St := put (put σ 3 (mapTo (meetM (more w)) 36 (σ 3))) 4 (mapTo (meetC w) 36 (σ 4))
def hr1 (σ : St) : St := if (σ 0 0).toNatClampNeg % 12 = 0 then meetF σ (σ 1 ((σ 0 0).toNatClampNeg / 12 % 14)) else σ
def hr2 (σ : St) : St := if σ 16 0 = -1 ∧ opA (σ 3) 12 = true then put σ 16 (fun _ => nI ((σ 0 0).toNatClampNeg / 12)) else σ
def hourF (σ : St) : St := put (rsA (trA (hr2 (hr1 σ)) (σ 17 0).toNatClampNeg) (σ 17 0).toNatClampNeg) 0 (fun _ => nI ((σ 0 0).toNatClampNeg + 1))
/-- the rows that a step of cu leaves as they are -/
theorem stepF_k (σ : St) (cu : Nat) {k : Nat} (h : k ≠ 3 ∧ k ≠ 4 ∧ k ≠ 6 ∧ k ≠ 7 ∧ k ≠ 8 ∧ k ≠ 9 ∧ k ≠ 11 ∧ k ≠ 12 ∧ k ≠ 18) : stepF σ cu k = σ k := by
  obtain ⟨h1, h2, h3, h4, h5, h6, h7, h8, h9⟩ := h
  unfold stepF stepG stepA stepB stepM stepN
  split
  · simp [put, h7]
  · split
    · simp [put, *]
    · split <;> simp [put, *]
theorem stepF_j (σ : St) (cu : Nat) {k j : Nat} (hk : k ≠ 3 ∧ k ≠ 4 ∧ k ≠ 18) (hj : j ≠ cu) : stepF σ cu k j = σ k j := by
  obtain ⟨h1, h2, h9⟩ := hk
  unfold stepF stepG stepA stepB stepM stepN
  split
  · simp only [put]; split
    · rename_i e; subst e; simp [upd, hj]
    · rfl
  · split
    · simp only [put, h1, h2, if_false]
      repeat' split
      all_goals first | rfl | (rename_i e; subst e; simp [upd, hj])
    · split
      all_goals
        simp only [put, h1, h2, h9, if_false]
        repeat' split
        all_goals first | rfl | (rename_i e; subst e; simp [upd, hj])
theorem okC_eq {σ τ : St} {cu : Nat} (h : okC σ cu) (h8 : τ 8 cu = σ 8 cu) (h9 : τ 9 cu = σ 9 cu) (h10 : τ 10 cu = σ 10 cu) (h11 : τ 11 cu = σ 11 cu) (h13 : τ 13 cu = σ 13 cu) : okC τ cu := by
  unfold okC
  rw [h8, h9, h10, h11, h13]
  exact h
theorem okC_stepj {σ : St} {cu j : Nat} (h : okC σ j) (hj : j ≠ cu) : okC (stepF σ cu) j :=
  okC_eq h (stepF_j σ cu (by omega) hj) (stepF_j σ cu (by omega) hj) (stepF_j σ cu (by omega) hj) (stepF_j σ cu (by omega) hj) (stepF_j σ cu (by omega) hj)
theorem okC_step {σ : St} {cu : Nat} (h : okC σ cu) (hg : σ 11 cu = 1) : okC (stepF σ cu) cu := by
  obtain ⟨h1, h2, h3, h4, h5, h6, h7⟩ := h
  by_cases q : σ 7 cu = 0 ∨ lnF σ cu = -1
  · have e : stepF σ cu = put σ 11 (upd (σ 11) cu 0) := if_pos q
    rw [e]
    have e2 : put σ 11 (upd (σ 11) cu 0) 11 cu = 0 := upd_s _ _ _
    exact ⟨h1, h2, h3, fun k => absurd (e2.symm.trans k) (by decide), fun k => absurd (e2.symm.trans k) (by decide), Or.inl e2, h7⟩
  · have e : stepF σ cu = stepG σ cu (nsec σ cu) (lnF σ cu) (ldF σ cu) := if_neg q
    have hln : inL (lnF σ cu) := laneOf_in h2 (fun z => q (Or.inr z))
    have hto := inS_nsec h1 h3
    rw [e]
    unfold stepG
    split
    · have e2 : stepB σ cu (nsec σ cu) (lnF σ cu) (ldF σ cu) 11 cu = 3 := upd_s _ _ _
      have e8 : stepB σ cu (nsec σ cu) (lnF σ cu) (ldF σ cu) 8 cu = nsec σ cu := upd_s _ _ _
      have e9 : stepB σ cu (nsec σ cu) (lnF σ cu) (ldF σ cu) 9 cu = lnF σ cu := upd_s _ _ _
      exact ⟨by rw [e8]; exact hto, by rw [e9]; exact hln, h3, fun k => absurd (e2.symm.trans k) (by decide), fun k => absurd (e2.symm.trans k) (by decide), Or.inr (Or.inr (Or.inr e2)), h7⟩
    · split
      · rename_i hgo
        have e2 : stepA σ cu (nsec σ cu) (lnF σ cu) (ldF σ cu) 11 cu = 2 := upd_s _ _ _
        have e8 : stepA σ cu (nsec σ cu) (lnF σ cu) (ldF σ cu) 8 cu = nsec σ cu := upd_s _ _ _
        have e9 : stepA σ cu (nsec σ cu) (lnF σ cu) (ldF σ cu) 9 cu = lnF σ cu := upd_s _ _ _
        exact ⟨by rw [e8]; exact hto, by rw [e9]; exact hln, h3, fun k => absurd (e2.symm.trans k) (by decide), fun _ => by rw [e8]; exact hgo, Or.inr (Or.inr (Or.inl e2)), h7⟩
      · rename_i hgo
        have e2 : stepM σ cu (nsec σ cu) (lnF σ cu) (ldF σ cu) 11 cu = 1 := hg
        have e8 : stepM σ cu (nsec σ cu) (lnF σ cu) (ldF σ cu) 8 cu = nsec σ cu := upd_s _ _ _
        have e9 : stepM σ cu (nsec σ cu) (lnF σ cu) (ldF σ cu) 9 cu = lnF σ cu := upd_s _ _ _
        exact ⟨by rw [e8]; exact hto, by rw [e9]; exact hln, h3, fun _ => by rw [e8]; exact hgo, fun k => absurd (e2.symm.trans k) (by decide), Or.inr (Or.inl e2), h7⟩
theorem itS_k (σ : St) (cu : Nat) {k : Nat} (h : k ≠ 3 ∧ k ≠ 4 ∧ k ≠ 6 ∧ k ≠ 7 ∧ k ≠ 8 ∧ k ≠ 9 ∧ k ≠ 11 ∧ k ≠ 12 ∧ k ≠ 18) : ∀ n, itS σ cu n k = σ k
  | 0 => rfl
  | n + 1 => by
    show (if itS σ cu n 11 cu = 1 then stepF (itS σ cu n) cu else itS σ cu n) k = σ k
    split
    · rw [stepF_k _ _ h, itS_k σ cu h n]
    · exact itS_k σ cu h n
theorem itS_j (σ : St) (cu : Nat) {k j : Nat} (hk : k ≠ 3 ∧ k ≠ 4 ∧ k ≠ 18) (hj : j ≠ cu) : ∀ n, itS σ cu n k j = σ k j
  | 0 => rfl
  | n + 1 => by
    show (if itS σ cu n 11 cu = 1 then stepF (itS σ cu n) cu else itS σ cu n) k j = σ k j
    split
    · rw [stepF_j _ _ hk hj, itS_j σ cu hk hj n]
    · exact itS_j σ cu hk hj n
theorem itS_ok {σ : St} {cu j : Nat} (h : okC σ j) : ∀ n, okC (itS σ cu n) j
  | 0 => h
  | n + 1 => by
    show okC (if itS σ cu n 11 cu = 1 then stepF (itS σ cu n) cu else itS σ cu n) j
    split
    · rename_i q
      by_cases e : j = cu
      · subst e; exact okC_step (itS_ok h n) q
      · exact okC_stepj (itS_ok h n) e
    · exact itS_ok h n
theorem itS_succ {σ : St} {cu n : Nat} (h : itS σ cu n 11 cu = 1) : stepF (itS σ cu n) cu = itS σ cu (n + 1) := (if_pos h).symm
theorem trvF_k (σ : St) (cu : Nat) {k : Nat} (h : k ≠ 3 ∧ k ≠ 4 ∧ k ≠ 6 ∧ k ≠ 7 ∧ k ≠ 8 ∧ k ≠ 9 ∧ k ≠ 11 ∧ k ≠ 12 ∧ k ≠ 18) : trvF σ cu k = σ k := itS_k σ cu h _
theorem trvF_ok {σ : St} {cu j : Nat} (h : okC σ j) : okC (trvF σ cu) j := itS_ok h _
theorem trA_k (σ : St) {k : Nat} (h : k ≠ 3 ∧ k ≠ 4 ∧ k ≠ 6 ∧ k ≠ 7 ∧ k ≠ 8 ∧ k ≠ 9 ∧ k ≠ 11 ∧ k ≠ 12 ∧ k ≠ 18) : ∀ n, trA σ n k = σ k
  | 0 => rfl
  | n + 1 => by
    show trvF (trA σ n) n k = σ k
    rw [trvF_k _ _ h, trA_k σ h n]
theorem trA_ok {σ : St} {j : Nat} (h : okC σ j) : ∀ n, okC (trA σ n) j
  | 0 => h
  | n + 1 => trvF_ok (trA_ok h n)
theorem restF_k (σ : St) (cu : Nat) {k : Nat} (h : k ≠ 7 ∧ k ≠ 11) : restF σ cu k = σ k := by
  obtain ⟨h1, h2⟩ := h
  unfold restF
  split
  · rfl
  · split <;> simp [put, *]
theorem restF_ok {σ : St} {cu j : Nat} (h : okC σ j) : okC (restF σ cu) j := by
  have k8 := restF_k σ cu (k := 8) (by omega)
  have k9 := restF_k σ cu (k := 9) (by omega)
  have k10 := restF_k σ cu (k := 10) (by omega)
  have k13 := restF_k σ cu (k := 13) (by omega)
  by_cases q : σ 11 cu = 0
  · by_cases g : ¬ σ 8 cu = σ 10 cu ∧ 10 ≤ rsN σ cu
    · have e : restF σ cu = put (put σ 7 (upd (σ 7) cu (rsN σ cu))) 11 (upd (σ 11) cu 1) := by unfold restF; rw [if_neg (fun z => z q), if_pos g]
      by_cases ej : j = cu
      · subst ej
        obtain ⟨h1, h2, h3, h4, h5, h6, h7⟩ := h
        have e2 : restF σ j 11 j = 1 := by rw [e]; exact upd_s _ _ _
        unfold okC
        rw [k8, k9, k10, k13, e2]
        exact ⟨h1, h2, h3, fun _ => g.1, fun k => absurd k (by decide), Or.inr (Or.inl rfl), h7⟩
      · exact okC_eq h (by rw [k8]) (by rw [k9]) (by rw [k10]) (by rw [e]; exact upd_n _ _ ej) (by rw [k13])
    · have e : restF σ cu = put σ 7 (upd (σ 7) cu (rsN σ cu)) := by unfold restF; rw [if_neg (fun z => z q), if_neg g]
      exact okC_eq h (by rw [k8]) (by rw [k9]) (by rw [k10]) (by rw [e]; rfl) (by rw [k13])
  · have e : restF σ cu = σ := if_pos q
    rw [e]; exact h
theorem rsA_k (σ : St) {k : Nat} (h : k ≠ 7 ∧ k ≠ 11) : ∀ n, rsA σ n k = σ k
  | 0 => rfl
  | n + 1 => by
    show restF (rsA σ n) n k = σ k
    rw [restF_k _ _ h, rsA_k σ h n]
theorem rsA_ok {σ : St} {j : Nat} (h : okC σ j) : ∀ n, okC (rsA σ n) j
  | 0 => h
  | n + 1 => restF_ok (rsA_ok h n)
theorem hr1_k (σ : St) {k : Nat} (h : k ≠ 3 ∧ k ≠ 4) : hr1 σ k = σ k := by
  unfold hr1 meetF
  split
  · simp [put, h.1, h.2]
  · rfl
theorem hr2_k (σ : St) {k : Nat} (h : k ≠ 16) : hr2 σ k = σ k := by
  unfold hr2
  split
  · simp [put, h]
  · rfl
theorem hourF_k (σ : St) {k : Nat} (h : k ≠ 0 ∧ k ≠ 3 ∧ k ≠ 4 ∧ k ≠ 6 ∧ k ≠ 7 ∧ k ≠ 8 ∧ k ≠ 9 ∧ k ≠ 11 ∧ k ≠ 12 ∧ k ≠ 16 ∧ k ≠ 18) : hourF σ k = σ k := by
  unfold hourF
  rw [put_n _ _ h.1, rsA_k _ (by omega), trA_k _ (by omega), hr2_k _ (by omega), hr1_k _ (by omega)]
theorem hr12_ok {σ : St} {j : Nat} (h : okC σ j) : okC (hr2 (hr1 σ)) j := by
  have e : ∀ k, k ≠ 16 → k ≠ 3 → k ≠ 4 → hr2 (hr1 σ) k = σ k := fun k a b c => by rw [hr2_k _ a, hr1_k _ ⟨b, c⟩]
  exact okC_eq h (by rw [e 8 (by omega) (by omega) (by omega)]) (by rw [e 9 (by omega) (by omega) (by omega)]) (by rw [e 10 (by omega) (by omega) (by omega)]) (by rw [e 11 (by omega) (by omega) (by omega)]) (by rw [e 13 (by omega) (by omega) (by omega)])
theorem hourF_ok {σ : St} {j : Nat} (h : okC σ j) : okC (hourF σ) j := by
  have h2 := rsA_ok (trA_ok (hr12_ok h) (σ 17 0).toNatClampNeg) (σ 17 0).toNatClampNeg
  exact okC_eq h2 rfl rfl rfl rfl rfl
