theorem cnt_f0 {p : Nat → Bool} {k : Nat} (h : ¬ p k = true) : cntF p (k + 1) = cntF p k + 0 := by rw [cnt_f h, Int32.add_zero]
theorem pl_inj {x y : Int32} {sn ln : Nat} (hx : inS x) (hy : inL y) (hs : sn < 12) (hl : ln < 3) (h : 3 * x + y = nI (3 * sn + ln)) : x = nI sn ∧ y = nI ln := by
  obtain ⟨i, hi, rfl⟩ := inS_nI hx
  obtain ⟨j, hj, rfl⟩ := inL_nI hy
  rw [pl_nI2] at h
  have := (nI_eq (a := 3 * i + j) (b := 3 * sn + ln) (by omega) (by omega)).mp h
  have h1 : i = sn := by omega
  have h2 : j = ln := by omega
  exact ⟨by rw [h1], by rw [h2]⟩
def pqF (σ : St) (s l : Int32) : Nat → Bool := fun j => decide ((σ 8 j = s ∧ σ 9 j = l) ∧ ¬ σ 11 j = 3)
theorem pq_t {σ : St} {sn ln k : Nat} (hok : okC σ k) (hs : sn < 12) (hl : ln < 3) (h1 : ¬ σ 11 k = 3) (h2 : 3 * σ 8 k + σ 9 k = nI (3 * sn + ln)) : cntF (pqF σ (nI sn) (nI ln)) (k + 1) = cntF (pqF σ (nI sn) (nI ln)) k + 1 :=
  cnt_t (decide_eq_true ⟨pl_inj hok.1 hok.2.1 hs hl h2, h1⟩)
theorem pq_f1 {σ : St} {sn ln k : Nat} (h1 : σ 11 k = 3) : cntF (pqF σ (nI sn) (nI ln)) (k + 1) = cntF (pqF σ (nI sn) (nI ln)) k + 0 :=
  cnt_f0 (fun z => (of_decide_eq_true z).2 h1)
theorem pq_f2 {σ : St} {sn ln k : Nat} (h2 : ¬ 3 * σ 8 k + σ 9 k = nI (3 * sn + ln)) : cntF (pqF σ (nI sn) (nI ln)) (k + 1) = cntF (pqF σ (nI sn) (nI ln)) k + 0 :=
  cnt_f0 (fun z => h2 (by have y := (of_decide_eq_true z).1; rw [y.1, y.2, pl_nI2]))
def ptF (σ : St) (sn ln nc w : Nat) : Int32 := if w = 0 then σ 3 (3 * sn + ln) else if w = 1 then σ 4 (3 * sn + ln) else if w = 2 then mx 0 (sound (σ 3) (σ 4) (nI sn) (nI ln)) else cntF (pqF σ (nI sn) (nI ln)) nc
theorem st_in {σ : St} {k : Nat} (h : okC σ k) : vp_in (σ 11 k) 4 := by
  rcases h.2.2.2.2.2.1 with q | q | q | q <;> (rw [q]; unfold vp_in; decide)
/-- how many are in each state, of the first k -/
def hcF (σ : St) : Nat → Nat → Int32
  | 0 => fun _ => 0
  | k + 1 => upd (hcF σ k) (σ 11 k).toNatClampNeg (hcF σ k (σ 11 k).toNatClampNeg + 1)
theorem hcF_eq {σ : St} {x : Nat} {X : Int32} (hX : X.toNatClampNeg = x) (hx4 : X = 0 ∨ X = 1 ∨ X = 2 ∨ X = 3) : ∀ k, (∀ j, j < k → okC σ j) → hcF σ k x = cntF (fun j => decide (σ 11 j = X)) k
  | 0, _ => rfl
  | k + 1, h => by
    have ih := hcF_eq hX hx4 k (fun j hj => h j (by omega))
    have e4 := (h k (by omega)).2.2.2.2.2.1
    show upd (hcF σ k) (σ 11 k).toNatClampNeg (hcF σ k (σ 11 k).toNatClampNeg + 1) x = _
    by_cases q : σ 11 k = X
    · rw [cnt_t (decide_eq_true q), q, hX, upd_s, ih]
    · rw [cnt_f (fun z => q (of_decide_eq_true z))]
      rw [upd_n]
      · exact ih
      · subst hX
        intro z
        apply q
        rcases e4 with e | e | e | e <;> rcases hx4 with f | f | f | f <;> rw [e, f] <;> rw [e, f] at z <;> first | rfl | exact absurd z (by decide)
def ctF (σ ω : St) (nc nw w : Nat) : Int32 := if w = 0 then σ 0 0 else if w = 1 then σ 17 0 else if w = 2 then cntF (fun j => decide (σ 11 j = 1)) nc else if w = 3 then cntF (fun j => decide (σ 11 j = 2)) nc else if w = 4 then cntF (fun j => decide (σ 11 j = 3)) nc else if w = 5 then sumF (σ 4) 36 else if w = 6 then cntF (fun j => decide (σ 3 j = 0)) 36 else if w = 7 then sumF (ω 2) 12 else if w = 8 then ω 19 0 else if w = 9 then sumF (ω 15) nw else σ 16 0
/-- the ahead's answer, as the reference comes to it -/
def amR (cu : Nat) : Nat → Nat → St → Int32
  | 0, _, _ => -1
  | n + 1, k, τ => if τ 11 cu = 3 then -1 else if τ 8 cu = τ 10 cu then nI k else amR cu n (k + 1) (hourF τ)
def amE (cu : Nat) : Nat → St → St
  | 0, τ => τ
  | n + 1, τ => if τ 11 cu = 3 then τ else if τ 8 cu = τ 10 cu then τ else amE cu n (hourF τ)
theorem amR_3 {cu n k : Nat} {τ : St} (h : τ 11 cu = 3) : amR cu (n + 1) k τ = -1 := if_pos h
theorem amR_g {cu n k : Nat} {τ : St} (h : ¬ τ 11 cu = 3) (g : τ 8 cu = τ 10 cu) : amR cu (n + 1) k τ = nI k := (if_neg h).trans (if_pos g)
theorem amR_s {cu n k : Nat} {τ : St} (h : ¬ τ 11 cu = 3) (g : ¬ τ 8 cu = τ 10 cu) : amR cu (n + 1) k τ = amR cu n (k + 1) (hourF τ) := (if_neg h).trans (if_neg g)
theorem amE_3 {cu n : Nat} {τ : St} (h : τ 11 cu = 3) : amE cu (n + 1) τ = τ := if_pos h
theorem amE_g {cu n : Nat} {τ : St} (h : ¬ τ 11 cu = 3) (g : τ 8 cu = τ 10 cu) : amE cu (n + 1) τ = τ := (if_neg h).trans (if_pos g)
theorem amE_s {cu n : Nat} {τ : St} (h : ¬ τ 11 cu = 3) (g : ¬ τ 8 cu = τ 10 cu) : amE cu (n + 1) τ = amE cu n (hourF τ) := (if_neg h).trans (if_neg g)
theorem hourF_1 (σ : St) : hourF σ 1 = σ 1 := hourF_k σ (by omega)
theorem hourF_2 (σ : St) : hourF σ 2 = σ 2 := hourF_k σ (by omega)
/-- all that is known of a river beside its outer rows -/
def okM (σ ω : St) (h nc : Nat) : Prop := okR σ h nc ∧ okI (σ 3) ∧ σ 1 = ω 1 ∧ σ 2 = ω 2 ∧ okW (ω 1) ∧ okH (ω 2)
theorem okM_hour {σ ω : St} {h nc : Nat} (k : okM σ ω h nc) (hb : h < 2 ^ 30) : okM (hourF σ) ω (h + 1) nc :=
  ⟨okR_hour k.1 hb, hourF_okI k.1.1 hb k.2.1 (by rw [k.2.2.1]; exact k.2.2.2.2.1), by rw [hourF_1]; exact k.2.2.1, by rw [hourF_2]; exact k.2.2.2.1, k.2.2.2.2.1, k.2.2.2.2.2⟩
def hoursF : Nat → St → St
  | 0, σ => σ
  | n + 1, σ => hourF (hoursF n σ)
theorem okM_hours {σ ω : St} {h nc : Nat} (k : okM σ ω h nc) : ∀ n, h + n < 2 ^ 30 → okM (hoursF n σ) ω (h + n) nc
  | 0, _ => k
  | n + 1, hb => okM_hour (okM_hours k n (by omega)) (show h + n < 2 ^ 30 by omega)
