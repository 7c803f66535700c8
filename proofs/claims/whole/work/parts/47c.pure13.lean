theorem w9 {x : Int32} (h1 : (-9) ≤ x) (h2 : x ≤ 9) : ∃ m, m < 19 ∧ x = nI m - 9 := by
  have e1 : ((-9 : Int32)).toInt = -9 := by decide
  have e2 : (9 : Int32).toInt = 9 := by decide
  have e3 : (18 : Int32).toInt = 18 := by decide
  have e0 : (0 : Int32).toInt = 0 := by decide
  rw [i_le, e1] at h1
  rw [i_le, e2] at h2
  have q : (x + 9).toInt = x.toInt + 9 := by
    rw [Int32.toInt_add, e2]
    exact Int.bmod_eq_of_le (by omega) (by omega)
  obtain ⟨m, hm, em⟩ := nI_btw (x := x + 9) (n := 18) (M := 18) (by decide) (by rw [i_le, q, e0]; omega) (by rw [i_le, q, e3]; omega)
  exact ⟨m, by omega, by rw [← em, Int32.add_sub_cancel]⟩
theorem iv_w {σ ω : St} {h nc nw : Nat} (f : Nat → Int32) (k : lwI σ ω h nc nw) : lwI σ (put ω 20 f) h nc nw := k
theorem iv_setWarm {σ ω : St} {h nc nw dy : Nat} {p1 : Int32} (f : Nat → Int32) (h2 : (-9) ≤ p1 ∧ p1 ≤ 9) (k : lwI σ ω h nc nw) : lwI (put σ 1 (upd (σ 1) dy p1)) (put (put ω 1 (upd (ω 1) dy p1)) 20 f) h nc nw := by
  obtain ⟨⟨k1, k2, k3, k4, k5, k6⟩, k7, k8⟩ := k
  refine ⟨⟨k1, k2, (by show upd (σ 1) dy p1 = upd (ω 1) dy p1; rw [k3]), k4, ?_, k6⟩, k7, k8⟩
  intro j hj
  show ∃ m, m < 19 ∧ upd (ω 1) dy p1 j = nI m - 9
  by_cases e : j = dy
  · rw [e, upd_s]
    exact w9 h2.1 h2.2
  · rw [upd_n _ _ e]; exact k5 j hj
theorem iv_setIce {σ ω : St} {h nc nw pp : Nat} {p2 : Int32} (f : Nat → Int32) (h2 : 0 ≤ p2 ∧ p2 ≤ 60) (k : lwI σ ω h nc nw) : lwI (put σ 3 (upd (σ 3) pp p2)) (put ω 20 f) h nc nw := by
  obtain ⟨⟨k1, k2, k3, k4, k5, k6⟩, k7, k8⟩ := k
  refine ⟨⟨k1, ?_, k3, k4, k5, k6⟩, k7, k8⟩
  intro j hj
  show ∃ m, m < 61 ∧ upd (σ 3) pp p2 j = nI m
  by_cases e : j = pp
  · rw [e, upd_s]
    obtain ⟨m, hm, em⟩ := nI_btw (n := 60) (by decide) h2.1 h2.2
    exact ⟨m, by omega, em⟩
  · rw [upd_n _ _ e]; exact k2 j hj
theorem iv_build {σ ω : St} {h nc nw sn : Nat} (f : Nat → Int32) (k : lwI σ ω h nc nw) : lwI (put σ 2 (upd (σ 2) sn 1)) (put (put ω 2 (upd (ω 2) sn 1)) 20 f) h nc nw := by
  obtain ⟨⟨k1, k2, k3, k4, k5, k6⟩, k7, k8⟩ := k
  refine ⟨⟨k1, k2, k3, (by show upd (σ 2) sn 1 = upd (ω 2) sn 1; rw [k4]), k5, ?_⟩, k7, k8⟩
  intro j hj
  show upd (ω 2) sn 1 j = 0 ∨ upd (ω 2) sn 1 j = 1
  by_cases e : j = sn
  · rw [e, upd_s]; exact Or.inr rfl
  · rw [upd_n _ _ e]; exact k6 j hj
theorem iv_send {σ ω : St} {h nc nw cu : Nat} {p1 : Int32} (f : Nat → Int32) (h2 : 0 ≤ p1 ∧ p1 ≤ 11) (k : lwI σ ω h nc nw) : lwI (put (put σ 10 (upd (σ 10) cu p1)) 11 (upd (σ 11) cu 0)) (put ω 20 f) h nc nw := by
  obtain ⟨⟨⟨k1, k1b, k1c, k1d⟩, k2, k3, k4, k5, k6⟩, k7, k8⟩ := k
  refine ⟨⟨⟨k1, k1b, k1c, ?_⟩, k2, k3, k4, k5, k6⟩, k7, k8⟩
  intro j hj
  have q := k1d j hj
  by_cases e : j = cu
  · subst e
    have e10 : put (put σ 10 (upd (σ 10) j p1)) 11 (upd (σ 11) j 0) 10 j = p1 := upd_s _ _ _
    have e11 : put (put σ 10 (upd (σ 10) j p1)) 11 (upd (σ 11) j 0) 11 j = 0 := upd_s _ _ _
    unfold okC
    rw [e10, e11]
    exact ⟨q.1, q.2.1, h2, fun z => absurd z (by decide), fun z => absurd z (by decide), Or.inl rfl, q.2.2.2.2.2.2⟩
  · exact okC_eq q rfl rfl (upd_n _ _ e) (upd_n _ _ e) rfl
theorem iv_load {σ ω : St} {h nc nw cu : Nat} {x : Int32} (f : Nat → Int32) (k : lwI σ ω h nc nw) : lwI (put σ 6 (upd (σ 6) cu x)) (put ω 20 f) h nc nw := by
  obtain ⟨⟨⟨k1, k1b, k1c, k1d⟩, k2, k3, k4, k5, k6⟩, k7, k8⟩ := k
  exact ⟨⟨⟨k1, k1b, k1c, fun j hj => okC_eq (k1d j hj) rfl rfl rfl rfl rfl⟩, k2, k3, k4, k5, k6⟩, k7, k8⟩
theorem iv_wager {σ ω : St} {h nc nw : Nat} {p0 p1 : Int32} (f : Nat → Int32) (hw : nw < 12) (k : lwI σ ω h nc nw) : lwI σ (put (put (put (put ω 14 (upd (ω 14) nw p0)) 15 (upd (ω 15) nw p1)) 19 (fun _ => nI (nw + 1))) 20 f) h nc (nw + 1) := by
  obtain ⟨k1, k7, k8⟩ := k
  exact ⟨k1, rfl, by omega⟩
theorem iv_pass {σ ω : St} {h nc nw n0 : Nat} (f : Nat → Int32) (hb : h + 200 < 2 ^ 30) (hn : n0 ≤ 200) (k : lwI σ ω h nc nw) : lwI (hoursF n0 σ) (put ω 20 f) (h + n0) nc nw := by
  obtain ⟨k1, k7, k8⟩ := k
  have q := okM_hours k1 n0 (by omega)
  exact ⟨q, k7, k8⟩
def cmF (σ : St) (nc : Nat) (p2 p3 s l pa : Int32) : St := put (put (put (put (put (put (put (put (put (put σ 5 (upd (σ 5) nc p2)) 6 (upd (σ 6) nc p3)) 7 (upd (σ 7) nc 20)) 8 (upd (σ 8) nc s)) 9 (upd (σ 9) nc l)) 10 (upd (σ 10) nc s)) 11 (upd (σ 11) nc 0)) 12 (upd (σ 12) nc 0)) 13 (upd (σ 13) nc pa)) 17 (fun _ => nI (nc + 1))
theorem iv_come {σ ω : St} {h nc nw : Nat} {p2 p3 s l pa : Int32} (f : Nat → Int32) (hn : nc < 8) (hs : inS s) (hl : inL l) (hp : pa = 1 ∨ pa = 2) (k : lwI σ ω h nc nw) : lwI (cmF σ nc p2 p3 s l pa) (put ω 20 f) h (nc + 1) nw := by
  obtain ⟨⟨⟨k1, k1b, k1c, k1d⟩, k2, k3, k4, k5, k6⟩, k7, k8⟩ := k
  refine ⟨⟨⟨k1, rfl, by omega, ?_⟩, k2, k3, k4, k5, k6⟩, k7, k8⟩
  intro j hj
  by_cases e : j = nc
  · subst e
    have e8 : cmF σ j p2 p3 s l pa 8 j = s := upd_s _ _ _
    have e9 : cmF σ j p2 p3 s l pa 9 j = l := upd_s _ _ _
    have e10 : cmF σ j p2 p3 s l pa 10 j = s := upd_s _ _ _
    have e11 : cmF σ j p2 p3 s l pa 11 j = 0 := upd_s _ _ _
    have e13 : cmF σ j p2 p3 s l pa 13 j = pa := upd_s _ _ _
    unfold okC
    rw [e8, e9, e10, e11, e13]
    exact ⟨hs, hl, hs, fun z => absurd z (by decide), fun z => absurd z (by decide), Or.inl rfl, hp⟩
  · exact okC_eq (k1d j (by omega)) (upd_n _ _ e) (upd_n _ _ e) (upd_n _ _ e) (upd_n _ _ e) (upd_n _ _ e)
