theorem cpy_row {c5 c6 c7 c8 c9 c10 c11 c12 c13 f : Nat → Int32} {nc sp dp n : Nat} {v0 v1 v2 v3 v4 v5 v6 v7 v8 pa : Int32} (hsp : sp = 0) (hdp : dp = 9 * nc) (hn : n = 9) (h0 : f 0 = v0) (h1 : f 1 = v1) (h2 : f 2 = v2) (h3 : f 3 = v3) (h4 : f 4 = v4) (h5 : f 5 = v5) (h6 : f 6 = v6) (h7 : f 7 = v7) (h8 : f 8 = v8) (hpa : v8 = if pa = 2 then 1 else 0) (j : Nat) (hj : j < 72) : va_cpy f (ofC c5 c6 c7 c8 c9 c10 c11 c12 c13) sp dp n j = ofC (upd c5 nc v0) (upd c6 nc v1) (upd c7 nc v2) (upd c8 nc v3) (upd c9 nc v4) (upd c10 nc v5) (upd c11 nc v6) (upd c12 nc v7) (upd c13 nc pa) j := by
  subst hsp; subst hdp; subst hn
  by_cases q : 9 * nc ≤ j ∧ j < 9 * nc + 9
  · rw [pk_cpy_in q.1 q.2]
    obtain ⟨i, hi, rfl⟩ : ∃ i, i < 9 ∧ j = 9 * nc + i := ⟨j - 9 * nc, by omega, by omega⟩
    have e1 : (9 * nc + i) % 9 = i := by omega
    have e2 : (9 * nc + i) / 9 = nc := by omega
    have e3 : 0 + (9 * nc + i - 9 * nc) = i := by omega
    unfold ofC
    rw [e1, e2, e3]
    rcases (show i = 0 ∨ i = 1 ∨ i = 2 ∨ i = 3 ∨ i = 4 ∨ i = 5 ∨ i = 6 ∨ i = 7 ∨ i = 8 by omega) with rfl | rfl | rfl | rfl | rfl | rfl | rfl | rfl | rfl
    all_goals simp [upd, *]
  · rw [pk_cpy_out (by omega)]
    have e : ¬ j / 9 = nc := by omega
    unfold ofC
    simp [upd, e]
def wonF (σ ω : St) (nw wg : Nat) : Int32 := if σ 16 0 = -1 then 0 else winF ω nw (σ 16 0) wg
theorem cnt_t1 {p : Nat → Bool} {k : Nat} (h : p k = true) : cntF p (k + 1) = cntF p k + 1 := cnt_t h
theorem win_z {ω : St} {nw wg k : Nat} {td : Int32} (hk : k < nw) (h : distF ω td k < distF ω td wg) : winF ω nw td wg = 0 := if_pos (anyL_mono (n := k + 1) (by omega) (anyL_t h))
theorem win_q {ω : St} {nw wg : Nat} {td : Int32} (h : anyL (distF ω td) (distF ω td wg) nw = false) : winF ω nw td wg = sumF (ω 15) nw / cntF (fun k => decide (distF ω td k = distF ω td wg)) nw := if_neg (by rw [h]; decide)
theorem hoursF_1 (σ : St) : ∀ n, hoursF n σ 1 = σ 1
  | 0 => rfl
  | n + 1 => (hourF_1 _).trans (hoursF_1 σ n)
