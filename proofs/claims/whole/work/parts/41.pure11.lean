theorem ptL_ptF (σ : St) (sn ln nc w : Nat) : ptL σ sn ln nc w = ptF σ sn ln nc w := rfl
theorem ab_all : ∀ i, i < 12 → ∀ j, j < 12 → ab (nI i - nI j) = ab (nI j - nI i) := by decide +kernel
theorem ab_sym {x y : Int32} (hx : inS x) (hy : inS y) : ab (x - y) = ab (y - x) := by
  obtain ⟨i, hi, rfl⟩ := inS_nI hx
  obtain ⟨j, hj, rfl⟩ := inS_nI hy
  exact ab_all i (by omega) j (by omega)
-- how many came
theorem stepF_18 {σ : St} {cu : Nat} (h : σ 11 cu = 1) : stepF σ cu 18 0 = if stepF σ cu 11 cu = 2 then σ 18 0 + 1 else σ 18 0 := by
  by_cases q : σ 7 cu = 0 ∨ lnF σ cu = -1
  · have e : stepF σ cu = put σ 11 (upd (σ 11) cu 0) := if_pos q
    have e2 : stepF σ cu 11 cu = 0 := by rw [e]; exact upd_s _ _ _
    rw [e2, if_neg (by decide), e]; rfl
  · have e : stepF σ cu = stepG σ cu (nsec σ cu) (lnF σ cu) (ldF σ cu) := if_neg q
    rw [e]
    unfold stepG
    split
    · have e2 : stepB σ cu (nsec σ cu) (lnF σ cu) (ldF σ cu) 11 cu = 3 := upd_s _ _ _
      rw [e2, if_neg (by decide)]; rfl
    · split
      · have e2 : stepA σ cu (nsec σ cu) (lnF σ cu) (ldF σ cu) 11 cu = 2 := upd_s _ _ _
        rw [e2, if_pos rfl]; rfl
      · have e2 : stepM σ cu (nsec σ cu) (lnF σ cu) (ldF σ cu) 11 cu = 1 := h
        rw [e2, if_neg (by decide)]; rfl
theorem itS_11 {σ : St} {cu : Nat} (h : ¬ σ 11 cu = 1) (n : Nat) : itS σ cu n = σ := itS_stop (j := 0) h n (Nat.zero_le n)
theorem itS_18 {σ : St} {cu : Nat} (h : σ 11 cu = 1) : ∀ n, itS σ cu n 18 0 = if itS σ cu n 11 cu = 2 then σ 18 0 + 1 else σ 18 0
  | 0 => by rw [if_neg (by show ¬ σ 11 cu = 2; rw [h]; decide)]; rfl
  | n + 1 => by
    by_cases q : itS σ cu n 11 cu = 1
    · have e : itS σ cu (n + 1) = stepF (itS σ cu n) cu := if_pos q
      rw [e, stepF_18 q, itS_18 h n, if_neg (show ¬ itS σ cu n 11 cu = 2 by rw [q]; decide)]
    · have e : itS σ cu (n + 1) = itS σ cu n := if_neg q
      rw [e]; exact itS_18 h n
theorem trvF_18 (σ : St) (cu : Nat) : trvF σ cu 18 0 = if σ 11 cu = 1 ∧ trvF σ cu 11 cu = 2 then σ 18 0 + 1 else σ 18 0 := by
  by_cases h : σ 11 cu = 1
  · unfold trvF
    rw [itS_18 h]
    by_cases g : itS σ cu (σ 13 cu).toNatClampNeg 11 cu = 2
    · rw [if_pos g, if_pos ⟨h, g⟩]
    · rw [if_neg g, if_neg (fun z => g z.2)]
  · unfold trvF
    rw [itS_11 h, if_neg (fun z => h z.1)]
theorem trA_18 (σ : St) : ∀ n, trA σ n 18 0 = σ 18 0 + arrC σ n
  | 0 => by show σ 18 0 = σ 18 0 + 0; rw [Int32.add_zero]
  | n + 1 => by
    show trvF (trA σ n) n 18 0 = _
    rw [trvF_18, trA_18 σ n]
    by_cases g : trA σ n 11 n = 1 ∧ trvF (trA σ n) n 11 n = 2
    · rw [if_pos g, arrC_t g, Int32.add_assoc]
    · rw [if_neg g, arrC_f g]
theorem hourF_18 (σ : St) : hourF σ 18 0 = σ 18 0 + hourA σ := by
  have e : hourF σ 18 = rsA (trA (hr2 (hr1 σ)) (σ 17 0).toNatClampNeg) (σ 17 0).toNatClampNeg 18 := put_n _ _ (by omega)
  rw [e, rsA_k _ (by omega), trA_18]
  rw [show hr2 (hr1 σ) 18 0 = σ 18 0 by rw [hr2_k _ (by omega), hr1_k _ (by omega)]]
  rfl
theorem hoursF_18 (σ : St) : ∀ n, hoursF n σ 18 0 = σ 18 0 + hsA σ n
  | 0 => by show σ 18 0 = σ 18 0 + 0; rw [Int32.add_zero]
  | n + 1 => by
    show hourF (hoursF n σ) 18 0 = σ 18 0 + (hsA σ n + hourA (hoursF n σ))
    rw [hourF_18, hoursF_18 σ n, Int32.add_assoc]
theorem hsA_eq (σ : St) (n : Nat) : hsA σ n = hoursF n σ 18 0 - σ 18 0 := by
  rw [hoursF_18, Int32.add_comm (σ 18 0), Int32.add_sub_cancel]
-- who is at the goal
def jC (σ : St) (cu : Nat) : Prop := σ 8 cu = σ 10 cu → σ 11 cu = 2 ∨ σ 11 cu = 3
theorem jC_eq {σ τ : St} {cu : Nat} (h : jC σ cu) (h8 : τ 8 cu = σ 8 cu) (h10 : τ 10 cu = σ 10 cu) (h11 : τ 11 cu = σ 11 cu) : jC τ cu := by
  unfold jC
  rw [h8, h10, h11]
  exact h
theorem jC_step {σ : St} {cu : Nat} (h : okC σ cu) (hg : σ 11 cu = 1) : jC (stepF σ cu) cu := by
  by_cases q : σ 7 cu = 0 ∨ lnF σ cu = -1
  · have e : stepF σ cu = put σ 11 (upd (σ 11) cu 0) := if_pos q
    rw [e]
    exact fun z => absurd z (h.2.2.2.1 hg)
  · have e : stepF σ cu = stepG σ cu (nsec σ cu) (lnF σ cu) (ldF σ cu) := if_neg q
    rw [e]
    unfold stepG
    split
    · exact fun _ => Or.inr (upd_s _ _ _)
    · split
      · exact fun _ => Or.inl (upd_s _ _ _)
      · rename_i hgo
        have e8 : stepM σ cu (nsec σ cu) (lnF σ cu) (ldF σ cu) 8 cu = nsec σ cu := upd_s _ _ _
        exact fun z => absurd (e8.symm.trans z) hgo
theorem itS_jC {σ : St} {cu j : Nat} (ho : okC σ j) (h : jC σ j) : ∀ n, jC (itS σ cu n) j
  | 0 => h
  | n + 1 => by
    show jC (if itS σ cu n 11 cu = 1 then stepF (itS σ cu n) cu else itS σ cu n) j
    split
    · rename_i q
      by_cases e : j = cu
      · subst e; exact jC_step (itS_ok ho n) q
      · exact jC_eq (itS_jC ho h n) (stepF_j _ cu (by omega) e) (stepF_j _ cu (by omega) e) (stepF_j _ cu (by omega) e)
    · exact itS_jC ho h n
theorem trA_jC {σ : St} {j : Nat} (ho : okC σ j) (h : jC σ j) : ∀ n, jC (trA σ n) j
  | 0 => h
  | n + 1 => itS_jC (trA_ok ho n) (trA_jC ho h n) _
theorem restF_jC {σ : St} {cu j : Nat} (h : jC σ j) : jC (restF σ cu) j := by
  have k8 := restF_k σ cu (k := 8) (by omega)
  have k10 := restF_k σ cu (k := 10) (by omega)
  by_cases q : σ 11 cu = 0
  · by_cases g : ¬ σ 8 cu = σ 10 cu ∧ 10 ≤ rsN σ cu
    · have e : restF σ cu = put (put σ 7 (upd (σ 7) cu (rsN σ cu))) 11 (upd (σ 11) cu 1) := by unfold restF; rw [if_neg (fun z => z q), if_pos g]
      by_cases ej : j = cu
      · subst ej
        unfold jC
        rw [k8, k10]
        exact fun z => absurd z g.1
      · exact jC_eq h (by rw [k8]) (by rw [k10]) (by rw [e]; exact upd_n _ _ ej)
    · have e : restF σ cu = put σ 7 (upd (σ 7) cu (rsN σ cu)) := by unfold restF; rw [if_neg (fun z => z q), if_neg g]
      exact jC_eq h (by rw [k8]) (by rw [k10]) (by rw [e]; rfl)
  · have e : restF σ cu = σ := if_pos q
    rw [e]; exact h
theorem rsA_jC {σ : St} {j : Nat} (h : jC σ j) : ∀ n, jC (rsA σ n) j
  | 0 => h
  | n + 1 => restF_jC (rsA_jC h n)
theorem hourF_jC {σ : St} {j : Nat} (ho : okC σ j) (h : jC σ j) : jC (hourF σ) j := by
  have e : ∀ k, k ≠ 16 → k ≠ 3 → k ≠ 4 → hr2 (hr1 σ) k = σ k := fun k a b c => by rw [hr2_k _ a, hr1_k _ ⟨b, c⟩]
  have h1 : jC (hr2 (hr1 σ)) j := jC_eq h (by rw [e 8 (by omega) (by omega) (by omega)]) (by rw [e 10 (by omega) (by omega) (by omega)]) (by rw [e 11 (by omega) (by omega) (by omega)])
  exact jC_eq (rsA_jC (trA_jC (hr12_ok ho) h1 (σ 17 0).toNatClampNeg) (σ 17 0).toNatClampNeg) rfl rfl rfl
theorem til_am {cu : Nat} : ∀ (n k : Nat) (τ : St), okC τ cu → jC τ cu → tilR cu n k τ = amR cu n k (hourF τ)
  | 0, _, _, _, _ => rfl
  | n + 1, k, τ, ho, hj => by
    have ho' := hourF_ok ho
    have hj' := hourF_jC ho hj
    by_cases h3 : hourF τ 11 cu = 3
    · rw [tilR_3 h3]
      exact (if_pos h3).symm
    · by_cases hg : hourF τ 8 cu = hourF τ 10 cu
      · rw [tilR_2 ((hj' hg).resolve_right h3)]
        exact ((if_neg h3).trans (if_pos hg)).symm
      · rw [tilR_s (fun z => hg (ho'.2.2.2.2.1 z)) h3, til_am n (k + 1) (hourF τ) ho' hj']
        exact ((if_neg h3).trans (if_neg hg)).symm
theorem arr_am {cu : Nat} {σ : St} (ho : okC σ cu) : arrR σ cu = amR cu 151 0 σ := by
  by_cases h3 : σ 11 cu = 3
  · exact (if_pos h3).trans (if_pos h3).symm
  · by_cases hg : σ 8 cu = σ 10 cu
    · exact ((if_neg h3).trans (if_pos hg)).trans ((if_neg h3).trans (if_pos hg)).symm
    · exact ((if_neg h3).trans (if_neg hg)).trans ((til_am 150 1 σ ho (fun z => absurd z hg)).trans ((if_neg h3).trans (if_neg hg)).symm)
theorem bc_bs {cu : Nat} {σ : St} (ho : okC σ cu) : ∀ n, bcR σ cu n = bsR σ cu n
  | 0 => rfl
  | n + 1 => by
    have e : arrR (ltF σ cu n) cu = amR cu 151 0 (ltF σ cu n) := arr_am (okC_eq ho rfl rfl rfl rfl rfl)
    show (if arrR (ltF σ cu n) cu = -1 then bcR σ cu n else nI n) = (if amR cu 151 0 (ltF σ cu n) = -1 then bsR σ cu n else nI n)
    rw [e, bc_bs ho n]
-- the digest
theorem fdF_add (f : Nat → Int32) (d : Int64) (m : Nat) : ∀ k, fdF f d (m + k) = fdF (fun w => f (m + w)) (fdF f d m) k
  | 0 => rfl
  | k + 1 => by
    show mxd (fdF f d (m + k)) (f (m + k)) = mxd (fdF (fun w => f (m + w)) (fdF f d m) k) (f (m + k))
    rw [fdF_add f d m k]
theorem fdF_cg {f g : Nat → Int32} (d : Int64) : ∀ k, (∀ w, w < k → f w = g w) → fdF f d k = fdF g d k
  | 0, _ => rfl
  | k + 1, h => by
    show mxd (fdF f d k) (f k) = mxd (fdF g d k) (g k)
    rw [fdF_cg d k (fun w hw => h w (by omega)), h k (by omega)]
theorem fdC_eq (σ : St) (d : Int64) : ∀ n, fdC σ d n = fdF (ofC (σ 5) (σ 6) (σ 7) (σ 8) (σ 9) (σ 10) (σ 11) (σ 12) (σ 13)) d (9 * n)
  | 0 => rfl
  | n + 1 => by
    show fdF (fun w => tellF σ n w) (fdC σ d n) 9 = _
    rw [fdC_eq σ d n, show 9 * (n + 1) = 9 * n + 9 by omega, fdF_add]
    exact fdF_cg _ 9 (fun w hw => (ofC_tell σ n w hw).symm)
theorem dgL_dgF {σ ω : St} {nc nw : Nat} (h1 : σ 1 = ω 1) (h2 : σ 2 = ω 2) : dgL σ ω nc nw = dgF σ ω nc nw := by
  unfold dgL dgF dg3
  rw [fdC_eq]
  unfold dgV dg2 dg1
  rw [h1, h2]
