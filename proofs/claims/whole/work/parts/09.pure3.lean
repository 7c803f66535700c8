theorem fb_xorI (a b : Nat) : nI a ^^^ nI b = nI (a ^^^ b) := by
  apply Int32.toBitVec_inj.1
  show BitVec.ofNat 32 a ^^^ BitVec.ofNat 32 b = BitVec.ofNat 32 (a ^^^ b)
  apply BitVec.eq_of_getLsbD_eq
  intro i hi
  simp [hi]
theorem xor_nn {d : Nat} (h : d < 2 ^ 31) : 0 ≤ nI d ^^^ (14 : Int32) := by
  show 0 ≤ nI d ^^^ nI 14
  rw [fb_xorI]
  exact nI_pos' (Nat.xor_lt_two_pow h (by decide))
theorem div_nI {h d : Nat} {D : Int32} (hD : D = nI d) (hh : h < 2 ^ 31) (h0 : 0 < d) (hd : d < 2 ^ 31) : nI h / D = nI (h / d) := by
  rw [hD]; exact pk_div hh h0 hd
theorem rem_nI {h d : Nat} {D : Int32} (hD : D = nI d) (hh : h < 2 ^ 31) (h0 : 0 < d) (hd : d < 2 ^ 31) : nI h - nI h / D * D = nI (h % d) := by
  rw [hD]; exact pk_rem hh h0 hd
theorem nI_z {n : Nat} (h : n < 2 ^ 31) : nI n = 0 ↔ n = 0 := ⟨fun k => (nI_eq h (by decide)).mp (k.trans nI_0.symm), fun k => by rw [k]; rfl⟩
theorem okC_pace {σ : St} {cu : Nat} (h : okC σ cu) : ∃ pn, σ 13 cu = nI pn ∧ pn ≤ 2 := by
  rcases h.2.2.2.2.2.2 with q | q
  · exact ⟨1, q, by omega⟩
  · exact ⟨2, q, by omega⟩
/-- how many arrive, of the first n -/
def arrC (σ : St) : Nat → Int32
  | 0 => 0
  | n + 1 => if trA σ n 11 n = 1 ∧ trvF (trA σ n) n 11 n = 2 then arrC σ n + 1 else arrC σ n
theorem arrC_t {σ : St} {n : Nat} (h : trA σ n 11 n = 1 ∧ trvF (trA σ n) n 11 n = 2) : arrC σ (n + 1) = arrC σ n + 1 := if_pos h
theorem arrC_f {σ : St} {n : Nat} (h : ¬ (trA σ n 11 n = 1 ∧ trvF (trA σ n) n 11 n = 2)) : arrC σ (n + 1) = arrC σ n := if_neg h
def hourA (σ : St) : Int32 := arrC (hr2 (hr1 σ)) (σ 17 0).toNatClampNeg
/-- hours till one arrives, k of them gone by; the state behind them -/
def tilR (cu : Nat) : Nat → Nat → St → Int32
  | 0, _, _ => -1
  | n + 1, k, τ => if hourF τ 11 cu = 2 then nI k else if hourF τ 11 cu = 3 then -1 else tilR cu n (k + 1) (hourF τ)
def tilE (cu : Nat) : Nat → St → St
  | 0, τ => τ
  | n + 1, τ => if hourF τ 11 cu = 2 ∨ hourF τ 11 cu = 3 then hourF τ else tilE cu n (hourF τ)
def arrR (σ : St) (cu : Nat) : Int32 := if σ 11 cu = 3 then -1 else if σ 8 cu = σ 10 cu then 0 else tilR cu 150 1 σ
def arrE (σ : St) (cu : Nat) : St := if σ 11 cu = 3 then σ else if σ 8 cu = σ 10 cu then σ else tilE cu 150 σ
def thS : Nat → St → St
  | 0, τ => τ
  | n + 1, τ => if τ 16 0 = -1 then thS n (hourF τ) else τ
theorem thS_t {n : Nat} {τ : St} (h : τ 16 0 = -1) : thS (n + 1) τ = thS n (hourF τ) := if_pos h
theorem thS_f {n : Nat} {τ : St} (h : ¬ τ 16 0 = -1) : thS n τ = τ := by
  cases n with
  | zero => rfl
  | succ n => exact if_neg h
theorem tilR_2 {cu n k : Nat} {τ : St} (h : hourF τ 11 cu = 2) : tilR cu (n + 1) k τ = nI k := if_pos h
theorem tilR_3 {cu n k : Nat} {τ : St} (h : hourF τ 11 cu = 3) : tilR cu (n + 1) k τ = -1 := by
  unfold tilR
  rw [if_neg (by rw [h]; decide), if_pos h]
theorem tilR_s {cu n k : Nat} {τ : St} (h2 : ¬ hourF τ 11 cu = 2) (h3 : ¬ hourF τ 11 cu = 3) : tilR cu (n + 1) k τ = tilR cu n (k + 1) (hourF τ) := by
  show (if _ then _ else _) = _
  rw [if_neg h2, if_neg h3]
theorem tilE_2 {cu n : Nat} {τ : St} (h : hourF τ 11 cu = 2 ∨ hourF τ 11 cu = 3) : tilE cu (n + 1) τ = hourF τ := if_pos h
theorem tilE_s {cu n : Nat} {τ : St} (h2 : ¬ hourF τ 11 cu = 2) (h3 : ¬ hourF τ 11 cu = 3) : tilE cu (n + 1) τ = tilE cu n (hourF τ) := if_neg (fun z => z.elim h2 h3)
theorem hourF_0 (σ : St) {h : Nat} (hh : σ 0 0 = nI h) (hb : h < 2 ^ 30) : hourF σ 0 0 = nI (h + 1) := by
  show nI ((σ 0 0).toNatClampNeg + 1) = _
  rw [hh, nI_clamp (by omega)]
theorem hourF_17 (σ : St) : hourF σ 17 = σ 17 := hourF_k σ (by omega)
/-- what is known of a river: hour h, nc couriers -/
def okR (σ : St) (h nc : Nat) : Prop := σ 0 0 = nI h ∧ σ 17 0 = nI nc ∧ nc ≤ 8 ∧ ∀ j, j < nc → okC σ j
theorem okR_hour {σ : St} {h nc : Nat} (k : okR σ h nc) (hb : h < 2 ^ 30) : okR (hourF σ) (h + 1) nc :=
  ⟨hourF_0 σ k.1 hb, by rw [hourF_17]; exact k.2.1, k.2.2.1, fun j hj => hourF_ok (k.2.2.2 j hj)⟩
-- wagers
def anyL (f : Nat → Int32) (x : Int32) : Nat → Bool
  | 0 => false
  | n + 1 => anyL f x n || decide (f n < x)
theorem anyL_mono {f : Nat → Int32} {x : Int32} {n : Nat} : ∀ {m : Nat}, n ≤ m → anyL f x n = true → anyL f x m = true
  | 0, h, k => by
    have : n = 0 := by omega
    subst this; exact k
  | m + 1, h, k => by
    by_cases e : n = m + 1
    · subst e; exact k
    · have := anyL_mono (m := m) (by omega) k
      simp [anyL, this]
theorem anyL_t {f : Nat → Int32} {x : Int32} {n : Nat} (h : f n < x) : anyL f x (n + 1) = true := by simp [anyL, h]
theorem anyL_f {f : Nat → Int32} {x : Int32} {n : Nat} (h0 : anyL f x n = false) (h : ¬ f n < x) : anyL f x (n + 1) = false := by simp [anyL, h0, h]
def cntN (p : Nat → Bool) : Nat → Nat
  | 0 => 0
  | n + 1 => if p n then cntN p n + 1 else cntN p n
theorem cntF_nI (p : Nat → Bool) : ∀ n, cntF p n = nI (cntN p n)
  | 0 => rfl
  | n + 1 => by
    unfold cntF cntN
    split
    · rw [cntF_nI p n, nI_1]
    · exact cntF_nI p n
theorem cntN_le (p : Nat → Bool) : ∀ n, cntN p n ≤ n
  | 0 => Nat.le_refl 0
  | n + 1 => by
    have := cntN_le p n
    unfold cntN
    split <;> omega
theorem cntN_pos {p : Nat → Bool} {k : Nat} (hp : p k = true) : ∀ {n : Nat}, k < n → 0 < cntN p n
  | 0, h => absurd h (Nat.not_lt_zero k)
  | n + 1, h => by
    unfold cntN
    by_cases e : k = n
    · subst e; rw [if_pos hp]; omega
    · have := cntN_pos hp (n := n) (by omega)
      split <;> omega
def distF (ω : St) (td : Int32) : Nat → Int32 := fun k => ab (ω 14 k - td)
def winF (ω : St) (nw : Nat) (td : Int32) (wg : Nat) : Int32 := if anyL (distF ω td) (distF ω td wg) nw = true then 0 else sumF (ω 15) nw / cntF (fun k => decide (distF ω td k = distF ω td wg)) nw
theorem win_pos {ω : St} {nw wg : Nat} {td : Int32} (h : wg < nw) (hn : nw ≤ 12) : 0 < cntF (fun k => decide (distF ω td k = distF ω td wg)) nw := by
  rw [cntF_nI]
  have h1 := cntN_pos (p := fun k => decide (distF ω td k = distF ω td wg)) (k := wg) (decide_eq_true rfl) h
  have h2 := cntN_le (fun k => decide (distF ω td k = distF ω td wg)) nw
  exact (nI_ltI (a := 0) (by omega) (by omega)).mpr h1
theorem ne_of_pos {x : Int32} (h : 0 < x) : ¬ x = 0 := fun e => by rw [e] at h; exact absurd h (by decide)
theorem my_ofWF {l : Launch} {y : MethodName} {ws ws' : List Cond} {rm : Room} {Pc : Array Value → State → Prop} {Qc : Array Value → State → Outcome → State → Prop} {mc ms : Nat} {free : Addr → Prop} {cc : ByteArray} {maxL : Nat} {ret : Option FieldType}
    (hy : plainFor y = true) (hw : ws = Cond.code y cc maxL ret :: ws')
    (body : ∀ p e s m args below meth c s₁, BodyLoose p l y (headSpec ws rm) cc maxL ret e s m args below meth c s₁ → c.maxLocals = maxL → Pc args s →
      W p l e (headSpec ws rm).room s m args below meth c s.heap [] 0 0 (MQ below Qc args s mc ms free) (entryFrame m args maxL)) : Met l y ws rm Pc Qc mc ms free := by
  refine MetFree.of_bodySF (code := cc) (maxLocals := maxL) (ret := ret) hy ?_ ?_
  · intro args s m h hn
    obtain ⟨meth, c, h1, h2, h3, h4, h5, h6, -, -⟩ := Cond.code_spec hn (atoms_spec (ws := ws) h _ (by rw [hw]; exact List.mem_cons_self))
    exact ⟨meth, c, h1, h2, h3, h4, h5, h6⟩
  · intro p e s m args below meth c s₁ B hml hP _
    have hh0 : s₁.heap = s.heap := by rw [B.state]; rfl
    obtain ⟨t, a1, o, b1, b2, b3⟩ := body p e s m args below meth c s₁ B hml hP s₁ hh0 (Stand.of_body B)
    exact ⟨t, o, a1, b1, b2, ⟨b3.1, b3.2⟩⟩
