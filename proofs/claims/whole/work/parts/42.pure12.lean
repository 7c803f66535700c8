-- max and min of ints: a distributive lattice
theorem mx_max (x y : Int32) : (mx x y).toInt = max x.toInt y.toInt := by
  unfold mx
  split
  · rename_i h; rw [i_lt] at h; omega
  · rename_i h; rw [i_lt] at h; omega
theorem mn_min (x y : Int32) : (mn x y).toInt = min x.toInt y.toInt := by
  unfold mn
  split
  · rename_i h; rw [i_lt] at h; omega
  · rename_i h; rw [i_lt] at h; omega
theorem mx_c (x y : Int32) : mx x y = mx y x := i_eq.mpr (by rw [mx_max, mx_max]; omega)
theorem mn_c (x y : Int32) : mn x y = mn y x := i_eq.mpr (by rw [mn_min, mn_min]; omega)
theorem mx_a (x y z : Int32) : mx (mx x y) z = mx x (mx y z) := i_eq.mpr (by simp only [mx_max]; omega)
theorem mn_a (x y z : Int32) : mn (mn x y) z = mn x (mn y z) := i_eq.mpr (by simp only [mn_min]; omega)
theorem mx_i (x : Int32) : mx x x = x := i_eq.mpr (by rw [mx_max]; omega)
theorem mn_d (x y z : Int32) : mn x (mx y z) = mx (mn x y) (mn x z) := i_eq.mpr (by simp only [mx_max, mn_min]; omega)
theorem mn_d' (x y z : Int32) : mn (mx y z) x = mx (mn y x) (mn z x) := i_eq.mpr (by simp only [mx_max, mn_min]; omega)
def nxt (p : Int32 × Int32 × Int32) : Int32 × Int32 × Int32 := (mx p.1 p.2.1, mx (mx p.1 p.2.1) p.2.2, mx p.2.1 p.2.2)
def cut (p b : Int32 × Int32 × Int32) : Int32 × Int32 × Int32 := (mn p.1 b.1, mn p.2.1 b.2.1, mn p.2.2 b.2.2)
def dot (p u : Int32 × Int32 × Int32) : Int32 := mx (mx (mn p.1 u.1) (mn p.2.1 u.2.1)) (mn p.2.2 u.2.2)
theorem dot_nxt (p b u : Int32 × Int32 × Int32) : dot (cut (nxt p) b) u = dot p (nxt (cut u b)) := by
  obtain ⟨p1, p2, p3⟩ := p
  obtain ⟨b1, b2, b3⟩ := b
  obtain ⟨u1, u2, u3⟩ := u
  simp only [dot, nxt, cut, mn_d, mn_d']
  have i1 : Std.Associative mx := ⟨mx_a⟩
  have i2 : Std.Commutative mx := ⟨mx_c⟩
  have i3 : Std.IdempotentOp mx := ⟨mx_i⟩
  have i4 : Std.Associative mn := ⟨mn_a⟩
  have i5 : Std.Commutative mn := ⟨mn_c⟩
  ac_rfl
theorem dot_cut (p u : Int32 × Int32 × Int32) : dot (cut p u) p = dot p u := by
  obtain ⟨p1, p2, p3⟩ := p
  obtain ⟨u1, u2, u3⟩ := u
  have e : ∀ x y : Int32, mn (mn x y) x = mn x y := fun x y => i_eq.mpr (by simp only [mn_min]; omega)
  simp only [dot, cut, e]
theorem dot_self (p : Int32 × Int32 × Int32) : dot p p = bbM p := by
  have e : ∀ x : Int32, mn x x = x := fun x => i_eq.mpr (by simp only [mn_min]; omega)
  simp only [dot, bbM, e]
def rowB (t c : Nat → Int32) (s : Nat) : Int32 × Int32 × Int32 := (brn t c s 0, brn t c s 1, brn t c s 2)
theorem brm_brn (t c : Nat → Int32) (s j : Nat) : brm t c s j = brn t c s (nI j) := by
  unfold brm brn
  rw [sound_nI]
def fwd (t c : Nat → Int32) (f : Nat) : Nat → Int32 × Int32 × Int32
  | 0 => rowB t c f
  | n + 1 => cut (nxt (fwd t c f n)) (rowB t c (f + n + 1))
def dwn (t c : Nat → Int32) (w : Int32 × Int32 × Int32) (f : Nat) : Nat → Int32 × Int32 × Int32
  | 0 => w
  | n + 1 => cut (nxt (dwn t c w f n)) (rowB t c (f - (n + 1)))
theorem bb_fwd (t c : Nat → Int32) (f : Nat) : ∀ n, bb t c f n = fwd t c f n
  | 0 => rfl
  | n + 1 => by
    show bbS t c (f + n + 1) (bb t c f n) = cut (nxt (fwd t c f n)) (rowB t c (f + n + 1))
    rw [bb_fwd t c f n]
    unfold bbS cut nxt rowB
    have e : ∀ x y z : Int32, mx (mx x y) (mx y z) = mx (mx x y) z := fun x y z => i_eq.mpr (by simp only [mx_max]; omega)
    simp only [e]
theorem mdS_cut (t c : Nat → Int32) (s : Nat) (p : Int32 × Int32 × Int32) : mdS t c s p = cut (nxt p) (rowB t c s) := by
  unfold mdS cut nxt rowB
  simp only [brm_brn]
  have e : ∀ x y z : Int32, mx (mx y x) z = mx (mx x y) z := fun x y z => by rw [mx_c y x]
  rw [e, mx_c p.2.2 p.2.1]
  rfl
theorem md_fwd (t c : Nat → Int32) (f : Nat) : ∀ n, md t c f n = fwd t c f n
  | 0 => by unfold md fwd rowB; simp only [brm_brn]; rfl
  | n + 1 => by
    show mdS t c (f + n + 1) (md t c f n) = _
    rw [mdS_cut, md_fwd t c f n]; rfl
theorem mdD_dwn (t c : Nat → Int32) (f : Nat) : ∀ n, mdD t c f n = dwn t c (rowB t c f) f n
  | 0 => by unfold mdD dwn rowB; simp only [brm_brn]; rfl
  | n + 1 => by
    show mdS t c (f - (n + 1)) (mdD t c f n) = _
    rw [mdS_cut, mdD_dwn t c f n]; rfl
theorem dwn_shift (t c : Nat → Int32) (w : Int32 × Int32 × Int32) (f : Nat) : ∀ n, dwn t c w (f + 1) (n + 1) = dwn t c (cut (nxt w) (rowB t c f)) f n
  | 0 => rfl
  | n + 1 => by
    show cut (nxt (dwn t c w (f + 1) (n + 1))) (rowB t c (f + 1 - (n + 1 + 1))) = cut (nxt (dwn t c (cut (nxt w) (rowB t c f)) f n)) (rowB t c (f - (n + 1)))
    rw [dwn_shift t c w f n, show f + 1 - (n + 1 + 1) = f - (n + 1) by omega]
theorem fwd_dwn (t c : Nat → Int32) (f : Nat) : ∀ (n : Nat) (u : Int32 × Int32 × Int32), dot (fwd t c f n) u = bbM (dwn t c (cut u (rowB t c (f + n))) (f + n) n)
  | 0, u => by
    show dot (rowB t c f) u = bbM (cut u (rowB t c f))
    simp only [dot, cut, bbM, mn_c]
  | n + 1, u => by
    show dot (cut (nxt (fwd t c f n)) (rowB t c (f + n + 1))) u = _
    rw [dot_nxt, fwd_dwn t c f n]
    show _ = bbM (dwn t c (cut u (rowB t c (f + n + 1))) (f + n + 1) (n + 1))
    rw [dwn_shift]
def top3 : Int32 × Int32 × Int32 := (2147483647, 2147483647, 2147483647)
theorem mn_top (x : Int32) : mn x 2147483647 = x := by
  have h := Int32.toInt_le x
  have e1 : Int32.maxValue.toInt = 2147483647 := by decide
  have e2 : (2147483647 : Int32).toInt = 2147483647 := by decide
  rw [e1] at h
  refine i_eq.mpr ?_
  rw [mn_min, e2]
  omega
theorem mn_top' (x : Int32) : mn 2147483647 x = x := (mn_c _ _).trans (mn_top x)
theorem dot_top (p : Int32 × Int32 × Int32) : dot p top3 = bbM p := by
  unfold dot top3 bbM
  simp only [mn_top]
theorem cut_top (p : Int32 × Int32 × Int32) : cut top3 p = p := by
  unfold cut top3
  simp only [mn_top']
theorem mdM_bbM (p : Int32 × Int32 × Int32) : mdM p = bbM p := by
  unfold mdM bbM
  rw [mx_a]
theorem bears_up {t c : Nat → Int32} {f0 t0 : Nat} (h : f0 ≤ t0) : bbM (bb t c f0 (t0 - f0)) = brF t c f0 t0 := by
  unfold brF
  split
  · rw [mdM_bbM, bb_fwd, md_fwd]
  · rw [mdM_bbM, bb_fwd, mdD_dwn, show t0 - f0 = 0 by omega, show f0 - t0 = 0 by omega]; rfl
theorem bears_dn {t c : Nat → Int32} {f0 t0 : Nat} (h : t0 ≤ f0) : bbM (bb t c t0 (f0 - t0)) = brF t c f0 t0 := by
  unfold brF
  rw [if_neg (by omega), mdM_bbM, bb_fwd, mdD_dwn, ← dot_top, fwd_dwn, cut_top, show t0 + (f0 - t0) = f0 by omega]
