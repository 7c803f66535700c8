def hsA (σ : St) : Nat → Int32
  | 0 => 0
  | n + 1 => hsA σ n + hourA (hoursF n σ)
def fdC (σ : St) (d : Int64) : Nat → Int64
  | 0 => d
  | n + 1 => fdF (fun w => tellF σ n w) (fdC σ d n) 9
def dgV (σ : St) (d : Int64) : Int64 := fdF (σ 2) (fd2 (σ 3) (σ 4) (fdF (σ 1) d 14) 36) 12
def dgL (σ ω : St) (nc nw : Nat) : Int64 := fd3 (ω 14) (ω 15) (fun k => wonF σ ω nw k) (fdC σ (dgV σ (fdF (fun w => ctF σ ω nc nw w) 757 11)) nc) nw
def tlE (σ σ2 : St) : St := if σ 16 0 = -1 then thS 720 σ else σ2
def bcR (σ : St) (cu : Nat) : Nat → Int32
  | 0 => -1
  | m + 1 => if arrR (ltF σ cu m) cu = -1 then bcR σ cu m else nI m
def bcE (σ : St) (cu : Nat) : Nat → St → St
  | 0, α => α
  | m + 1, _ => if arrR (ltF σ cu m) cu = -1 then bcE σ cu m (arrE (ltF σ cu m) cu) else arrE (ltF σ cu m) cu
theorem bcR_t {σ : St} {cu m : Nat} (h : arrR (ltF σ cu m) cu = -1) : bcR σ cu (m + 1) = bcR σ cu m := if_pos h
theorem bcR_f {σ : St} {cu m : Nat} (h : ¬ arrR (ltF σ cu m) cu = -1) : bcR σ cu (m + 1) = nI m := if_neg h
theorem bcE_t {σ α : St} {cu m : Nat} (h : arrR (ltF σ cu m) cu = -1) : bcE σ cu (m + 1) α = bcE σ cu m (arrE (ltF σ cu m) cu) := if_pos h
theorem bcE_f {σ α : St} {cu m : Nat} (h : ¬ arrR (ltF σ cu m) cu = -1) : bcE σ cu (m + 1) α = arrE (ltF σ cu m) cu := if_neg h
theorem okR_lt {σ : St} {h nc cu m : Nat} (k : okR σ h nc) : okR (ltF σ cu m) h nc := ⟨k.1, k.2.1, k.2.2.1, fun j hj => okC_eq (k.2.2.2 j hj) rfl rfl rfl rfl rfl⟩
theorem wonF_t {σ ω : St} {nw wg : Nat} (h : ¬ σ 16 0 = -1) : winF ω nw (σ 16 0) wg = wonF σ ω nw wg := (if_neg h).symm
theorem wonF_f {σ ω : St} {nw wg : Nat} (h : σ 16 0 = -1) : 0 = wonF σ ω nw wg := (if_pos h).symm
theorem mn_l {x y : Int32} (h : x ≤ y) : mn x y = x := if_neg (fun k => absurd (i_lt.mp k) (Int.not_lt.mpr (i_le.mp h)))
theorem mn_r {x y : Int32} (h : y ≤ x) : mn x y = y := by
  unfold mn
  split
  · rfl
  · rename_i k
    exact i_eq.mpr (Int.le_antisymm (Int.not_lt.mp (fun z => k (i_lt.mpr z))) (i_le.mp h))
theorem mx_l {x y : Int32} (h : y ≤ x) : mx x y = x := if_neg (fun k => absurd (i_lt.mp k) (Int.not_lt.mpr (i_le.mp h)))
theorem mx_r {x y : Int32} (h : x ≤ y) : mx x y = y := by
  unfold mx
  split
  · rfl
  · rename_i k
    exact i_eq.mpr (Int.le_antisymm (i_le.mp h) (Int.not_lt.mp (fun z => k (i_lt.mpr z))))
def ptL (σ : St) (sn ln nc w : Nat) : Int32 := if w = 0 then σ 3 (3 * sn + ln) else if w = 1 then σ 4 (3 * sn + ln) else if w = 2 then mx 0 (sound (σ 3) (σ 4) (nI sn) (nI ln)) else cntF (fun j => decide ((σ 8 j = nI sn ∧ σ 9 j = nI ln) ∧ ¬ σ 11 j = 3)) nc
