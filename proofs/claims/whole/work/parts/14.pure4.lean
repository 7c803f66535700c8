theorem ix_nI (a b : Nat) : 9 * nI a + nI b = nI (9 * a + b) := by
  have h : 9 * nI a = nI (9 * a) := pk_mul 9 a
  rw [h, nI_add]
theorem ofC_tell (σ : St) (c w : Nat) (h : w < 9) : ofC (σ 5) (σ 6) (σ 7) (σ 8) (σ 9) (σ 10) (σ 11) (σ 12) (σ 13) (9 * c + w) = tellF σ c w := by
  have h2 : (9 * c + w) / 9 = c := by omega
  unfold ofC tellF
  rw [h2]
  rcases (show w = 0 ∨ w = 1 ∨ w = 2 ∨ w = 3 ∨ w = 4 ∨ w = 5 ∨ w = 6 ∨ w = 7 ∨ w = 8 by omega) with rfl | rfl | rfl | rfl | rfl | rfl | rfl | rfl | rfl
  all_goals (simp [Nat.mul_add_mod]; try rfl)
theorem ofC_0 {c5 c6 c7 c8 c9 c10 c11 c12 c13 : Nat → Int32} {k : Nat} {x : Int32} : upd (ofC c5 c6 c7 c8 c9 c10 c11 c12 c13) (9 * k + 0) x = ofC (upd c5 k x) c6 c7 c8 c9 c10 c11 c12 c13 := by
  funext j
  unfold upd ofC
  by_cases h : j = 9 * k + 0
  · subst h
    have h1 : (9 * k + 0) % 9 = 0 := by omega
    have h2 : (9 * k + 0) / 9 = k := by omega
    simp [h1, h2]
  · rw [if_neg h]
    by_cases h3 : j % 9 = 0
    · have h4 : ¬ j / 9 = k := by omega
      simp [h3, h4]
    · simp [h3]
theorem ofC_1 {c5 c6 c7 c8 c9 c10 c11 c12 c13 : Nat → Int32} {k : Nat} {x : Int32} : upd (ofC c5 c6 c7 c8 c9 c10 c11 c12 c13) (9 * k + 1) x = ofC c5 (upd c6 k x) c7 c8 c9 c10 c11 c12 c13 := by
  funext j
  unfold upd ofC
  by_cases h : j = 9 * k + 1
  · subst h
    have h1 : (9 * k + 1) % 9 = 1 := by omega
    have h2 : (9 * k + 1) / 9 = k := by omega
    simp [h1, h2]
  · rw [if_neg h]
    by_cases h3 : j % 9 = 1
    · have h4 : ¬ j / 9 = k := by omega
      simp [h3, h4]
    · simp [h3]
theorem ofC_2 {c5 c6 c7 c8 c9 c10 c11 c12 c13 : Nat → Int32} {k : Nat} {x : Int32} : upd (ofC c5 c6 c7 c8 c9 c10 c11 c12 c13) (9 * k + 2) x = ofC c5 c6 (upd c7 k x) c8 c9 c10 c11 c12 c13 := by
  funext j
  unfold upd ofC
  by_cases h : j = 9 * k + 2
  · subst h
    have h1 : (9 * k + 2) % 9 = 2 := by omega
    have h2 : (9 * k + 2) / 9 = k := by omega
    simp [h1, h2]
  · rw [if_neg h]
    by_cases h3 : j % 9 = 2
    · have h4 : ¬ j / 9 = k := by omega
      simp [h3, h4]
    · simp [h3]
theorem ofC_3 {c5 c6 c7 c8 c9 c10 c11 c12 c13 : Nat → Int32} {k : Nat} {x : Int32} : upd (ofC c5 c6 c7 c8 c9 c10 c11 c12 c13) (9 * k + 3) x = ofC c5 c6 c7 (upd c8 k x) c9 c10 c11 c12 c13 := by
  funext j
  unfold upd ofC
  by_cases h : j = 9 * k + 3
  · subst h
    have h1 : (9 * k + 3) % 9 = 3 := by omega
    have h2 : (9 * k + 3) / 9 = k := by omega
    simp [h1, h2]
  · rw [if_neg h]
    by_cases h3 : j % 9 = 3
    · have h4 : ¬ j / 9 = k := by omega
      simp [h3, h4]
    · simp [h3]
theorem ofC_4 {c5 c6 c7 c8 c9 c10 c11 c12 c13 : Nat → Int32} {k : Nat} {x : Int32} : upd (ofC c5 c6 c7 c8 c9 c10 c11 c12 c13) (9 * k + 4) x = ofC c5 c6 c7 c8 (upd c9 k x) c10 c11 c12 c13 := by
  funext j
  unfold upd ofC
  by_cases h : j = 9 * k + 4
  · subst h
    have h1 : (9 * k + 4) % 9 = 4 := by omega
    have h2 : (9 * k + 4) / 9 = k := by omega
    simp [h1, h2]
  · rw [if_neg h]
    by_cases h3 : j % 9 = 4
    · have h4 : ¬ j / 9 = k := by omega
      simp [h3, h4]
    · simp [h3]
theorem ofC_5 {c5 c6 c7 c8 c9 c10 c11 c12 c13 : Nat → Int32} {k : Nat} {x : Int32} : upd (ofC c5 c6 c7 c8 c9 c10 c11 c12 c13) (9 * k + 5) x = ofC c5 c6 c7 c8 c9 (upd c10 k x) c11 c12 c13 := by
  funext j
  unfold upd ofC
  by_cases h : j = 9 * k + 5
  · subst h
    have h1 : (9 * k + 5) % 9 = 5 := by omega
    have h2 : (9 * k + 5) / 9 = k := by omega
    simp [h1, h2]
  · rw [if_neg h]
    by_cases h3 : j % 9 = 5
    · have h4 : ¬ j / 9 = k := by omega
      simp [h3, h4]
    · simp [h3]
theorem ofC_6 {c5 c6 c7 c8 c9 c10 c11 c12 c13 : Nat → Int32} {k : Nat} {x : Int32} : upd (ofC c5 c6 c7 c8 c9 c10 c11 c12 c13) (9 * k + 6) x = ofC c5 c6 c7 c8 c9 c10 (upd c11 k x) c12 c13 := by
  funext j
  unfold upd ofC
  by_cases h : j = 9 * k + 6
  · subst h
    have h1 : (9 * k + 6) % 9 = 6 := by omega
    have h2 : (9 * k + 6) / 9 = k := by omega
    simp [h1, h2]
  · rw [if_neg h]
    by_cases h3 : j % 9 = 6
    · have h4 : ¬ j / 9 = k := by omega
      simp [h3, h4]
    · simp [h3]
theorem ofC_7 {c5 c6 c7 c8 c9 c10 c11 c12 c13 : Nat → Int32} {k : Nat} {x : Int32} : upd (ofC c5 c6 c7 c8 c9 c10 c11 c12 c13) (9 * k + 7) x = ofC c5 c6 c7 c8 c9 c10 c11 (upd c12 k x) c13 := by
  funext j
  unfold upd ofC
  by_cases h : j = 9 * k + 7
  · subst h
    have h1 : (9 * k + 7) % 9 = 7 := by omega
    have h2 : (9 * k + 7) / 9 = k := by omega
    simp [h1, h2]
  · rw [if_neg h]
    by_cases h3 : j % 9 = 7
    · have h4 : ¬ j / 9 = k := by omega
      simp [h3, h4]
    · simp [h3]
def wtM (w t : Int32) : Int32 := if w < 0 then mn 60 (t - w) else mx 0 (t - 2 * w)
theorem wtM_all : ∀ j : Fin 61, ∀ i : Fin 19, wtM (nI i.val - 9) (nI j.val) = meetM (more (nI i.val - 9)) (nI j.val) := by decide +kernel
theorem wtM_eq {w t : Int32} (hw : ∃ i, i < 19 ∧ w = nI i - 9) (ht : ∃ j, j < 61 ∧ t = nI j) : wtM w t = meetM (more w) t := by
  obtain ⟨i, hi, rfl⟩ := hw
  obtain ⟨j, hj, rfl⟩ := ht
  exact wtM_all ⟨j, hj⟩ ⟨i, hi⟩
theorem wtM_t {w t : Int32} (h : 0 ≤ w) : mx 0 (t - 2 * w) = wtM w t := (if_neg (by rw [i_lt]; rw [i_le] at h; omega)).symm
theorem wtM_f {w t : Int32} (h : ¬ 0 ≤ w) : mn 60 (t - w) = wtM w t := (if_pos (by rw [i_lt]; rw [i_le] at h; omega)).symm
/-- ice between 0 and 60, warmth between -9 and 9, huts 0 or 1 -/
def okI (t : Nat → Int32) : Prop := ∀ j, j < 36 → ∃ m, m < 61 ∧ t j = nI m
def okW (f : Nat → Int32) : Prop := ∀ j, j < 14 → ∃ m, m < 19 ∧ f j = nI m - 9
def okH (f : Nat → Int32) : Prop := ∀ j, j < 12 → f j = 0 ∨ f j = 1
theorem meetM_all : ∀ j : Fin 61, ∀ i : Fin 19, (meetM (more (nI i.val - 9)) (nI j.val)).toInt ≤ 60 ∧ 0 ≤ (meetM (more (nI i.val - 9)) (nI j.val)).toInt := by decide +kernel
theorem okI_meet {t : Nat → Int32} {w : Int32} (ht : okI t) (hw : ∃ i, i < 19 ∧ w = nI i - 9) : okI (mapTo (meetM (more w)) 36 t) := by
  intro j hj
  obtain ⟨m, hm, e⟩ := ht j hj
  obtain ⟨i, hi, rfl⟩ := hw
  have h := meetM_all ⟨m, hm⟩ ⟨i, hi⟩
  have e2 : mapTo (meetM (more (nI i - 9))) 36 t j = meetM (more (nI i - 9)) (nI m) := by unfold mapTo; rw [if_pos hj, e]
  rw [e2]
  obtain ⟨q, hq, e3⟩ := nI_btw (x := meetM (more (nI i - 9)) (nI m)) (M := 60) (n := 60) (by decide) (by rw [i_le, i_0]; exact h.2) (by rw [i_le]; exact h.1)
  exact ⟨q, by omega, e3⟩
theorem wsT_okI {t c : Nat → Int32} {s l ld : Int32} (h : okI t) : okI (wsT t c s l ld) := by
  intro j hj
  unfold wsT
  split
  · exact h j hj
  · by_cases e : j = pl s l
    · subst e; exact ⟨0, by omega, by rw [upd_s]; rfl⟩
    · rw [upd_n _ _ e]; exact h j hj
theorem stepF_okI {σ : St} {cu : Nat} (h : okI (σ 3)) : okI (stepF σ cu 3) := by
  unfold stepF stepG
  split
  · exact h
  · split
    · exact wsT_okI h
    · split
      · exact wsT_okI h
      · exact wsT_okI h
theorem itS_okI {σ : St} {cu : Nat} (h : okI (σ 3)) : ∀ n, okI (itS σ cu n 3)
  | 0 => h
  | n + 1 => by
    show okI ((if itS σ cu n 11 cu = 1 then stepF (itS σ cu n) cu else itS σ cu n) 3)
    split
    · exact stepF_okI (itS_okI h n)
    · exact itS_okI h n
theorem trA_okI {σ : St} (h : okI (σ 3)) : ∀ n, okI (trA σ n 3)
  | 0 => h
  | n + 1 => itS_okI (trA_okI h n) _
theorem hourF_okI {σ : St} {h : Nat} (hh : σ 0 0 = nI h) (hb : h < 2 ^ 30) (ht : okI (σ 3)) (hw : okW (σ 1)) : okI (hourF σ 3) := by
  show okI (rsA (trA (hr2 (hr1 σ)) (σ 17 0).toNatClampNeg) (σ 17 0).toNatClampNeg 3)
  rw [rsA_k _ (by omega)]
  refine trA_okI ?_ _
  rw [hr2_k _ (by omega)]
  unfold hr1
  split
  · show okI (mapTo (meetM (more _)) 36 (σ 3))
    exact okI_meet ht (hw _ (by omega))
  · exact ht
theorem nsec_ne {σ : St} {cu : Nat} (h : ¬ σ 8 cu = σ 10 cu) : nsec σ cu = if σ 8 cu < σ 10 cu then σ 8 cu + 1 else σ 8 cu - 1 := by
  unfold nsec
  rw [if_neg h]
theorem sound_nI (t c : Nat → Int32) (i j : Nat) : sound t c (nI i) (nI j) = sndP t c (nI (3 * i + j)) := by
  unfold sound
  rw [pl_nI]
theorem sndP_nI (t c : Nat → Int32) {p : Nat} (h : p < 2 ^ 31) : sndP t c (nI p) = t p - 3 * c p := by
  unfold sndP
  rw [nI_clamp h]
def nxF (σ : St) (cu : Nat) : Int32 := if lnF σ cu = -1 then -1 else 3 * nsec σ cu + lnF σ cu
def nxI (tn : Nat) (ch be : Int32) : Prop := (ch = -1 ∧ be = -1) ∨ ∃ j, j < 3 ∧ ch = nI j ∧ be = nI (3 * tn + j)
theorem nI_m1 {n : Nat} (h : n < 2 ^ 31) : ¬ nI n = -1 := fun e => by
  have h1 := nI_toInt h
  rw [e] at h1
  have h2 : (-1 : Int32).toInt = -1 := by decide
  omega
theorem nx_A {t c : Nat → Int32} {tn k nm f : Nat} {ld ch : Int32} (hk : k ≤ nm) (hm : nm < 3) (h : ¬ ld ≤ sndP t c (nI (3 * tn + k))) : laneF t c (nI tn) ld (nI nm) (f + 1) (nI k) ch = laneF t c (nI tn) ld (nI nm) f (nI (k + 1)) ch := by
  rw [laneF_step hk (by omega), if_neg (fun z => h (by rw [← sound_nI]; exact z.1))]
theorem nx_B {t c : Nat → Int32} {tn k nm f : Nat} {ld ch be : Int32} (hk : k ≤ nm) (hm : nm < 3) (ht : tn < 12) (hi : nxI tn ch be) (h : ld ≤ sndP t c (nI (3 * tn + k))) (hb : be = -1) : laneF t c (nI tn) ld (nI nm) (f + 1) (nI k) ch = laneF t c (nI tn) ld (nI nm) f (nI (k + 1)) (nI k) := by
  have hc : ch = -1 := by
    rcases hi with ⟨h1, _⟩ | ⟨j, hj, _, h2⟩
    · exact h1
    · exact absurd (h2.symm.trans hb) (nI_m1 (by omega))
  rw [laneF_step hk (by omega), if_pos ⟨by rw [sound_nI]; exact h, Or.inl hc⟩]
theorem nx_C {t c : Nat → Int32} {tn k nm f j : Nat} {ld ch : Int32} (hk : k ≤ nm) (hm : nm < 3) (hc : ch = nI j) (h : ld ≤ sndP t c (nI (3 * tn + k))) (hb : ¬ sndP t c (nI (3 * tn + k)) ≤ sndP t c (nI (3 * tn + j))) : laneF t c (nI tn) ld (nI nm) (f + 1) (nI k) ch = laneF t c (nI tn) ld (nI nm) f (nI (k + 1)) (nI k) := by
  rw [laneF_step hk (by omega), if_pos ⟨by rw [sound_nI]; exact h, Or.inr (by rw [hc, sound_nI, sound_nI]; rw [i_le] at hb; rw [i_lt]; omega)⟩]
theorem nx_D {t c : Nat → Int32} {tn k nm f j : Nat} {ld ch : Int32} (hk : k ≤ nm) (hm : nm < 3) (hj : j < 3) (hc : ch = nI j) (hb : sndP t c (nI (3 * tn + k)) ≤ sndP t c (nI (3 * tn + j))) : laneF t c (nI tn) ld (nI nm) (f + 1) (nI k) ch = laneF t c (nI tn) ld (nI nm) f (nI (k + 1)) ch := by
  rw [laneF_step hk (by omega), if_neg]
  rintro ⟨_, h⟩
  rcases h with h | h
  · exact nI_m1 (n := j) (by omega) (hc.symm.trans h)
  · rw [hc, sound_nI, sound_nI] at h
    rw [i_le] at hb; rw [i_lt] at h; omega
def thwV (σ : St) (h k : Nat) : Int32 := if σ 16 0 = -1 ∧ opA (σ 3) k = true then nI (h / 12) else σ 16 0
theorem thwV_0 (σ : St) (h : Nat) : thwV σ h 0 = σ 16 0 := if_neg (fun z => absurd z.2 Bool.false_ne_true)
theorem thw_open {σ : St} {h k : Nat} {th : Int32} (hv : th = thwV σ h k) (e : th = -1) (hb : h < 2 ^ 30) : σ 16 0 = -1 ∧ opA (σ 3) k = false := by
  unfold thwV at hv
  split at hv
  · exact absurd (hv.symm.trans e) (nI_m1 (by omega))
  · rename_i q
    have h1 : σ 16 0 = -1 := hv.symm.trans e
    refine ⟨h1, ?_⟩
    cases hq : opA (σ 3) k with
    | false => rfl
    | true => exact absurd ⟨h1, hq⟩ q
theorem opA_s (t : Nat → Int32) (k : Nat) : opA t (k + 1) = (opA t k || decide (t (3 * k) + t (3 * k + 1) + t (3 * k + 2) = 0)) := rfl
theorem thw_y {σ : St} {h k : Nat} (h1 : σ 16 0 = -1) (h2 : opA (σ 3) k = false) (h3 : σ 3 (3 * k) + σ 3 (3 * k + 1) + σ 3 (3 * k + 2) = 0) : nI (h / 12) = thwV σ h (k + 1) := by
  unfold thwV
  rw [if_pos ⟨h1, by rw [opA_s, h2, decide_eq_true h3]; rfl⟩]
theorem thw_n {σ : St} {h k : Nat} (h1 : σ 16 0 = -1) (h2 : opA (σ 3) k = false) (h3 : ¬ σ 3 (3 * k) + σ 3 (3 * k + 1) + σ 3 (3 * k + 2) = 0) : thwV σ h k = thwV σ h (k + 1) := by
  unfold thwV
  rw [if_neg (fun z => absurd z.2 (by rw [h2]; decide)), if_neg (fun z => absurd z.2 (by rw [opA_s, h2, decide_eq_false h3]; decide))]
theorem thw_end {σ : St} {h : Nat} (hh : σ 0 0 = nI h) (hb : h < 2 ^ 30) : hr2 σ 16 0 = thwV σ h 12 := by
  unfold hr2 thwV
  rw [hh, nI_clamp (by omega)]
  split
  · rfl
  · rfl
theorem thw_mono {σ : St} {h k : Nat} {th : Int32} (hv : th = thwV σ h k) (hk : k ≤ 12) (e : ¬ th = -1) : th = thwV σ h 12 := by
  unfold thwV at hv ⊢
  by_cases q : σ 16 0 = -1
  · by_cases o : opA (σ 3) k = true
    · rw [hv, if_pos ⟨q, o⟩, if_pos ⟨q, opA_mono _ hk o⟩]
    · rw [if_neg (fun z => o z.2)] at hv
      exact absurd (hv.trans q) e
  · rw [if_neg (fun z => q z.1)] at hv
    rw [if_neg (fun z => q z.1)]; exact hv
