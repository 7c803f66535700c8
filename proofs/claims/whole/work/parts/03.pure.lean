def bI (c : Prop) [Decidable c] : Int32 := if c then 1 else 0
theorem bI_t {c : Prop} [Decidable c] (h : c) : (1 : Int32) = bI c := (if_pos h).symm
theorem bI_f {c : Prop} [Decidable c] (h : ¬ c) : (0 : Int32) = bI c := (if_neg h).symm
theorem bI_z {c : Prop} [Decidable c] : bI c = 0 ↔ ¬ c := by
  by_cases h : c
  · rw [← bI_t h]; exact ⟨fun k => absurd k (by decide), fun k => absurd h k⟩
  · rw [← bI_f h]; exact ⟨fun _ => h, fun _ => rfl⟩
theorem bI_nz {c : Prop} [Decidable c] : ¬ bI c = 0 ↔ c := by
  by_cases h : c
  · rw [← bI_t h]; exact ⟨fun _ => h, fun _ => by decide⟩
  · rw [← bI_f h]; exact ⟨fun k => absurd rfl k, fun k => absurd k h⟩
theorem bI_nar {c : Prop} [Decidable c] : narrow .boolean (.int (bI c)) = .int (bI c) := by
  by_cases h : c
  · rw [← bI_t h]; rfl
  · rw [← bI_f h]; rfl
theorem bI_iff {c d : Prop} [Decidable c] [Decidable d] (h : c ↔ d) : bI c = bI d := by
  by_cases k : c
  · rw [← bI_t k, ← bI_t (h.mp k)]
  · rw [← bI_f k, ← bI_f (fun z => k (h.mpr z))]
def mx (x y : Int32) : Int32 := if x < y then y else x
def mn (x y : Int32) : Int32 := if y < x then y else x
def ab (x : Int32) : Int32 := if 0 ≤ x then x else 0 - x
theorem i_le {a b : Int32} : a ≤ b ↔ a.toInt ≤ b.toInt := Int32.le_iff_toInt_le
theorem i_lt {a b : Int32} : a < b ↔ a.toInt < b.toInt := Int32.lt_iff_toInt_lt
theorem i_eq {a b : Int32} : a = b ↔ a.toInt = b.toInt := ⟨fun h => by rw [h], fun h => Int32.toInt_inj.mp h⟩
theorem i_0 : (0 : Int32).toInt = 0 := by decide
/-- a number between 0 and M -/
theorem nI_btw {x M : Int32} {n : Nat} (hM : M.toInt = n) (h0 : 0 ≤ x) (h1 : x ≤ M) : ∃ j : Nat, j ≤ n ∧ x = nI j := by
  have hn : ¬ x < 0 := by
    rw [i_lt]; rw [i_le] at h0; omega
  exact nI_of2 hM hn h1
def inS (x : Int32) : Prop := 0 ≤ x ∧ x ≤ 11
def inL (x : Int32) : Prop := 0 ≤ x ∧ x ≤ 2
theorem inS_nI {x : Int32} (h : inS x) : ∃ j : Nat, j < 12 ∧ x = nI j := by
  obtain ⟨j, h1, h2⟩ := nI_btw (n := 11) (by decide) h.1 h.2
  exact ⟨j, by omega, h2⟩
theorem inL_nI {x : Int32} (h : inL x) : ∃ j : Nat, j < 3 ∧ x = nI j := by
  obtain ⟨j, h1, h2⟩ := nI_btw (n := 2) (by decide) h.1 h.2
  exact ⟨j, by omega, h2⟩
theorem nI_le11 {j : Nat} (h : j < 12) : inS (nI j) := ⟨(nI_leI (a := 0) (by omega) (by omega)).mpr (Nat.zero_le j), (nI_leI (b := 11) (by omega) (by omega)).mpr (by omega)⟩
theorem nI_le2 {j : Nat} (h : j < 3) : inL (nI j) := ⟨(nI_leI (a := 0) (by omega) (by omega)).mpr (Nat.zero_le j), (nI_leI (b := 2) (by omega) (by omega)).mpr (by omega)⟩
theorem pl_nI (i j : Nat) : nI i * 3 + nI j = nI (3 * i + j) := by
  have h : nI i * 3 = nI (i * 3) := pk_mul i 3
  rw [h, nI_add, Nat.mul_comm]
theorem pl_nI2 (i j : Nat) : 3 * nI i + nI j = nI (3 * i + j) := by
  have h : 3 * nI i = nI (3 * i) := pk_mul 3 i
  rw [h, nI_add]
theorem pl_in {s l : Int32} (hs : inS s) (hl : inL l) : vp_in (s * 3 + l) 36 := by
  obtain ⟨i, hi, rfl⟩ := inS_nI hs
  obtain ⟨j, hj, rfl⟩ := inL_nI hl
  rw [pl_nI]
  exact vp_in_nI (by omega) (by decide)
theorem inS_in {s : Int32} (hs : inS s) : vp_in s 12 := by
  obtain ⟨i, hi, rfl⟩ := inS_nI hs
  exact vp_in_nI hi (by decide)
theorem vp_in_lt {x : Int32} {n : Nat} (h : vp_in x n) (hn : n < 2 ^ 31) : x.toNatClampNeg < n := by
  obtain ⟨j, hj, rfl⟩ := vp_in_of h hn
  rw [nI_clamp (by omega)]; exact hj
def sndP (t c : Nat → Int32) (p : Int32) : Int32 := t p.toNatClampNeg - 3 * c p.toNatClampNeg
def sound (t c : Nat → Int32) (s l : Int32) : Int32 := sndP t c (s * 3 + l)
def sumF (f : Nat → Int32) : Nat → Int32
  | 0 => 0
  | n + 1 => sumF f n + f n
def cntF (p : Nat → Bool) : Nat → Int32
  | 0 => 0
  | n + 1 => if p n then cntF p n + 1 else cntF p n
def mapTo (f : Int32 → Int32) (n : Nat) (g : Nat → Int32) : Nat → Int32 := fun j => if j < n then f (g j) else g j
theorem mapTo_0 (f : Int32 → Int32) (g : Nat → Int32) : mapTo f 0 g = g := by
  funext j
  exact if_neg (Nat.not_lt_zero j)
theorem mapTo_self (f : Int32 → Int32) (n : Nat) (g : Nat → Int32) : mapTo f n g n = g n := if_neg (Nat.lt_irrefl n)
theorem mapTo_succ (f : Int32 → Int32) (n : Nat) (g : Nat → Int32) : upd (mapTo f n g) n (f (g n)) = mapTo f (n + 1) g := by
  funext j
  unfold upd mapTo
  by_cases h : j = n
  · subst h; rw [if_pos rfl, if_pos (Nat.lt_succ_self _)]
  · rw [if_neg h]
    by_cases h2 : j < n
    · rw [if_pos h2, if_pos (by omega)]
    · rw [if_neg h2, if_neg (by omega)]
theorem mapTo_congr {f f' : Int32 → Int32} {n : Nat} {g : Nat → Int32} (h : ∀ j, j < n → f (g j) = f' (g j)) : mapTo f n g = mapTo f' n g := by
  funext j
  unfold mapTo
  by_cases h2 : j < n
  · rw [if_pos h2, if_pos h2, h j h2]
  · rw [if_neg h2, if_neg h2]
theorem upd_same {f : Nat → Int32} {i : Nat} : upd f i (f i) = f := by
  funext j
  unfold upd
  by_cases h : j = i
  · rw [if_pos h, h]
  · rw [if_neg h]
theorem put_put (σ : St) (k : Nat) (f g : Nat → Int32) : put (put σ k f) k g = put σ k g := by
  funext j
  unfold put
  by_cases h : j = k
  · rw [if_pos h, if_pos h]
  · rw [if_neg h, if_neg h, if_neg h]
theorem put_swap (σ : St) {k j : Nat} (h : j ≠ k) (f g : Nat → Int32) : put (put σ k f) j g = put (put σ j g) k f := by
  funext i
  unfold put
  by_cases h1 : i = j
  · rw [if_pos h1, if_neg (by omega), if_pos h1]
  · rw [if_neg h1]
    by_cases h2 : i = k
    · rw [if_pos h2, if_pos h2]
    · rw [if_neg h2, if_neg h2, if_neg h1]
theorem put_id (σ : St) (k : Nat) : put σ k (σ k) = σ := by
  funext j
  unfold put
  by_cases h : j = k
  · rw [if_pos h, h]
  · rw [if_neg h]
theorem put_eq {σ : St} {k : Nat} {f : Nat → Int32} (h : σ k = f) : put σ k f = σ := by rw [← h]; exact put_id σ k
section Rules3
variable {p : Program} {l : Launch} {e : Env} {R : Room} {s : State} {m : MethodId} {args : Array Value} {below : List Frame} {meth : Method} {c : Code} {H : Heap} {locs : List Loc} {cells slots : Nat} {Q : State → Prop}
theorem my_newi {cc : ByteArray} {D : va_G} {cI : ClassId} {ws : va_W} {A : Nat → Prop} {H0 : Heap} {pc : Nat} {ls : Array Slot} {rest : List Value} {n : Int32} {N : Nat} (hx : p.tables.exec = Jvm.exec) (hb : c.code = cc) (harr : (Cond.arrayClass .int).before args s = true) (hK : va_K D vwCl [(cI, .int)] s) (hP : va_P D vwCl ws H) (hD : va_D A ws) (hS : va_S A H0 H locs) (hA : ∀ q, H0.size ≤ q → A q)
    (hn : ¬ n < 0) (hN : n.toNatClampNeg = N) (hbytes : N * 4 ≤ 536870912) (hcells : cells + 1 ≤ R.cells) (hslots : slots + N ≤ R.slots) (hdg : decode cc pc = .ok (.newarray .int, 2))
    (kk : ∀ (q : Nat) (H1 : Heap), va_P D vwCl (ws ++ [(q, .inl (cI, N, .inl (fun _ => 0)))]) H1 → va_D A (ws ++ [(q, .inl (cI, N, .inl (fun _ => 0)))]) → va_S A H0 H1 locs → W p l e R s m args below meth c H1 locs (cells + 1) (slots + N) Q (F0 m (pc + 2) ls (.ref q :: rest))) : W p l e R s m args below meth c H locs cells slots Q (F0 m pc ls (.int n :: rest)) := by
  refine va_newa (atype := .int) (ty := .int) hx hb harr rfl hK hP hD hS hA (a0 := (N, .inl (fun _ => 0))) (fun cA => rfl) hn hN hbytes hcells hslots hdg (fun q cA H1 hK1 hP1 hD1 hS1 => ?_)
  have h1 : s.vm.findClass ("[" ++ (FieldType.int).toString) = some cA := (hK1.2 1 (cA, .int) rfl).2
  have h2 : s.vm.findClass ("[" ++ (FieldType.int).toString) = some cI := (hK1.2 0 (cI, .int) rfl).2
  have h3 : cA = cI := Option.some.inj (h1.symm.trans h2)
  subst h3
  exact kk q H1 hP1 hD1 hS1
theorem ret_rdd {cc : ByteArray} {pc : Nat} {ls : Array Slot} {x v : UInt64} (hx : p.tables.exec = Jvm.exec) (hb : c.code = cc) (hr : meth.sig.returnType = some .double) (hlocks : meth.locks = false) (hv : x = v) (hdg : decode cc pc = .ok (.dreturn, 1)) : W p l e R s m args below meth c s.heap [] 0 0 (MQ below (rdQd v) args s 0 0 (fun _ => False)) (F0 m pc ls [.double x]) :=
  W.dret hx hb hr (fun t ht hW => ⟨_, rfl, hv, by rw [ht]⟩) (fun q hq => absurd hq List.not_mem_nil) hdg hlocks
end Rules3
theorem row_fix {D : va_G} {ws : va_W} {H : Heap} {q a n : Nat} {cA : ClassId} {f g : Nat → Int32} (h : va_P D vwCl ws H) (e : ws[q]? = some (a, .inl (cA, n, .inl g))) (hf : ∀ j, j < n → g j = f j) : va_P D vwCl (ws.set q (a, .inl (cA, n, .inl f))) H := by
  intro k x hx
  by_cases hk : q = k
  · subst hk
    have h1 : q < ws.length := (List.getElem?_eq_some_iff.mp e).1
    rw [List.getElem?_set_self h1] at hx
    cases hx
    exact cell_congr hf (h q _ e)
  · rw [List.getElem?_set_ne hk] at hx
    exact h k x hx
theorem row_fixD {ws : va_W} {A : Nat → Prop} {q a n : Nat} {cA : ClassId} {g : Nat → Int32} (f : Nat → Int32) (h : va_D A ws) (e : ws[q]? = some (a, .inl (cA, n, .inl g))) : va_D A (ws.set q (a, .inl (cA, n, .inl f))) := h.set e
theorem cpy_in {f g : Nat → Int32} {sp dp n N j : Nat} (hs : sp = 0) (hd : dp = 0) (hn : n = N) (hj : j < N) : va_cpy f g sp dp n j = f j := by
  subst hs; subst hd; subst hn
  exact sb_cpy0 hj
theorem put_cg {σ τ : St} {k : Nat} {f g : Nat → Int32} (h : σ = τ) (h2 : f = g) : put σ k f = put τ k g := by rw [h, h2]
def more (w : Int32) : Int32 := if w < 0 then -w else (-2) * w
def meetM (mo t : Int32) : Int32 := mx 0 (mn 60 (t + mo))
def meetC (w c : Int32) : Int32 := if w ≤ -3 then mx 0 (c - 1) else c
def opA (t : Nat → Int32) : Nat → Bool
  | 0 => false
  | n + 1 => opA t n || decide (t (3 * n) + t (3 * n + 1) + t (3 * n + 2) = 0)
theorem opA_mono (t : Nat → Int32) {n : Nat} : ∀ {m : Nat}, n ≤ m → opA t n = true → opA t m = true
  | 0, h, k => by
    have : n = 0 := by omega
    subst this; exact k
  | m + 1, h, k => by
    by_cases e : n = m + 1
    · subst e; exact k
    · have := opA_mono t (m := m) (by omega) k
      simp [opA, this]
/-- the lane to which one goes: of those from near on, fuel n -/
def laneF (t c : Nat → Int32) (s load last : Int32) : Nat → Int32 → Int32 → Int32
  | 0, _, ch => ch
  | n + 1, near, ch => if near ≤ last then laneF t c s load last n (near + 1) (if load ≤ sound t c s near ∧ (ch = -1 ∨ sound t c s ch < sound t c s near) then near else ch) else ch
def laneOf (t c : Nat → Int32) (s lane load : Int32) : Int32 := laneF t c s load (mn 2 (lane + 1)) 4 (mx 0 (lane - 1)) (-1)
theorem laneF_ge {t c : Nat → Int32} {s load : Int32} (a b : Nat) (hb : b < 2 ^ 30) (ha : a < 2 ^ 30) : ∀ (n : Nat) (ch : Int32), b < a → laneF t c s load (nI b) n (nI a) ch = ch
  | 0, _, _ => rfl
  | n + 1, ch, h => by
    unfold laneF
    rw [if_neg]
    intro h2
    have := (nI_leI (a := a) (b := b) (by omega) (by omega)).mp h2
    omega
theorem lane_ends {l : Int32} (h : inL l) : ∃ a b : Nat, mx 0 (l - 1) = nI a ∧ mn 2 (l + 1) = nI b ∧ a < 3 ∧ b < 3 ∧ a ≤ b := by
  obtain ⟨j, hj, rfl⟩ := inL_nI h
  rcases (show j = 0 ∨ j = 1 ∨ j = 2 by omega) with rfl | rfl | rfl
  · exact ⟨0, 1, by decide, by decide, by omega, by omega, by omega⟩
  · exact ⟨0, 2, by decide, by decide, by omega, by omega, by omega⟩
  · exact ⟨1, 2, by decide, by decide, by omega, by omega, by omega⟩
theorem lp_ge {N k : Nat} (h : nI N ≤ nI k) (hN : N < 2 ^ 31) (hk : k < 2 ^ 31) : N ≤ k := (nI_leI hN hk).mp h
theorem lp_nge {N k : Nat} (h : ¬ nI N ≤ nI k) (hN : N < 2 ^ 31) (hk : k < 2 ^ 31) : k < N := by
  rcases Nat.lt_or_ge k N with q | q
  · exact q
  · exact absurd ((nI_leI hN hk).mpr q) h
theorem lp_gt {N k : Nat} (h : nI N < nI k) (hN : N < 2 ^ 31) (hk : k < 2 ^ 31) : N < k := (nI_ltI hN hk).mp h
theorem lp_ngt {N k : Nat} (h : ¬ nI N < nI k) (hN : N < 2 ^ 31) (hk : k < 2 ^ 31) : k ≤ N := by
  rcases Nat.lt_or_ge N k with q | q
  · exact absurd ((nI_ltI hN hk).mpr q) h
  · exact q
theorem cnt_t {p : Nat → Bool} {k : Nat} (h : p k = true) : cntF p (k + 1) = cntF p k + 1 := if_pos h
theorem cnt_f {p : Nat → Bool} {k : Nat} (h : ¬ p k = true) : cntF p (k + 1) = cntF p k := if_neg h
def pl (s l : Int32) : Nat := (s * 3 + l).toNatClampNeg
def tellF (σ : St) (c w : Nat) : Int32 := if w = 8 then bI (σ 13 c = 2) else σ (5 + w) c
def nsec (σ : St) (c : Nat) : Int32 := if σ 8 c < σ 10 c then σ 8 c + 1 else if σ 8 c = σ 10 c then σ 10 c else σ 8 c - 1
def wsC (t c : Nat → Int32) (s l ld : Int32) : Nat → Int32 := if sound t c s l < 2 * ld then upd (c) (pl s l) (mn 9 (c (pl s l) + 1)) else c


theorem meetC_f {w x : Int32} (h : -3 < w) : meetC w x = x := if_neg (by rw [i_le]; rw [i_lt] at h; omega)
theorem meetC_t {w x : Int32} (h : ¬ -3 < w) : meetC w x = mx 0 (x - 1) := if_pos (by rw [i_le]; rw [i_lt] at h; omega)
theorem more_t {w : Int32} (h : 0 ≤ w) : (-2) * w = more w := (if_neg (by rw [i_lt]; rw [i_le] at h; omega)).symm
theorem more_f {w : Int32} (h : ¬ 0 ≤ w) : -w = more w := (if_pos (by rw [i_lt]; rw [i_le] at h; omega)).symm
theorem mapTo_skip {f : Int32 → Int32} {k : Nat} {g : Nat → Int32} (h : f (g k) = g k) : mapTo f k g = mapTo f (k + 1) g := by
  rw [← mapTo_succ, h]
  have e : mapTo f k g k = g k := mapTo_self f k g
  rw [← e]
  exact upd_same.symm
theorem laneF_step {t c : Nat → Int32} {s ld ch : Int32} {k nm f : Nat} (h : k ≤ nm) (hn : nm < 2 ^ 30) : laneF t c s ld (nI nm) (f + 1) (nI k) ch = laneF t c s ld (nI nm) f (nI (k + 1)) (if ld ≤ sound t c s (nI k) ∧ (ch = -1 ∨ sound t c s ch < sound t c s (nI k)) then nI k else ch) := by
  rw [← nI_1]
  exact if_pos ((nI_leI (by omega) (by omega)).mpr h)
theorem lane_t {t c : Nat → Int32} {s ld ch so S : Int32} (h1 : ¬ S < ld) (h2 : ch = -1 ∨ ¬ S ≤ so) (hi : ch = -1 ∨ (inL ch ∧ so = sound t c s ch)) : ld ≤ S ∧ (ch = -1 ∨ sound t c s ch < S) := by
  refine ⟨by rw [i_lt] at h1; rw [i_le]; omega, ?_⟩
  rcases hi with hi | ⟨_, hi⟩
  · exact Or.inl hi
  · rcases h2 with h2 | h2
    · exact Or.inl h2
    · rw [hi] at h2
      exact Or.inr (by rw [i_le] at h2; rw [i_lt]; omega)
theorem lane_f {t c : Nat → Int32} {s ld ch so S : Int32} (h : S < ld ∨ (¬ ch = -1 ∧ S ≤ so)) (hi : ch = -1 ∨ (inL ch ∧ so = sound t c s ch)) : ¬ (ld ≤ S ∧ (ch = -1 ∨ sound t c s ch < S)) := by
  rintro ⟨h1, h2⟩
  rcases h with h | ⟨h, h3⟩
  · rw [i_lt] at h; rw [i_le] at h1; omega
  · rcases hi with hi | ⟨_, hi⟩
    · exact h hi
    · rcases h2 with h2 | h2
      · exact h h2
      · rw [hi] at h3; rw [i_le] at h3; rw [i_lt] at h2; omega
def triF (t : Nat → Int32) (k : Nat) : Nat → Int32
  | 0 => 0
  | j + 1 => triF t k j + t (3 * k + j)
theorem opA_tri (t : Nat → Int32) (k : Nat) : opA t (k + 1) = (opA t k || decide (triF t k 3 = 0)) := by
  have e : triF t k 3 = t (3 * k) + t (3 * k + 1) + t (3 * k + 2) := by
    show (0 + t (3 * k + 0)) + t (3 * k + 1) + t (3 * k + 2) = _
    rw [Int32.zero_add]
    rfl
  rw [e]
  rfl
def brn (t c : Nat → Int32) (s : Nat) (l : Int32) : Int32 := mx 0 (sound t c (nI s) l)
def bbS (t c : Nat → Int32) (s : Nat) (p : Int32 × Int32 × Int32) : Int32 × Int32 × Int32 := (mn (mx p.1 p.2.1) (brn t c s 0), mn (mx (mx p.1 p.2.1) (mx p.2.1 p.2.2)) (brn t c s 1), mn (mx p.2.1 p.2.2) (brn t c s 2))
def bb (t c : Nat → Int32) (f : Nat) : Nat → Int32 × Int32 × Int32
  | 0 => (brn t c f 0, brn t c f 1, brn t c f 2)
  | n + 1 => bbS t c (f + n + 1) (bb t c f n)
def bbM (p : Int32 × Int32 × Int32) : Int32 := mx (mx p.1 p.2.1) p.2.2
def snd2 (t c : Nat → Int32) (s l ld : Int32) : Int32 := t (pl s l) - 3 * wsC t c s l ld (pl s l)
def wsT (t c : Nat → Int32) (s l ld : Int32) : Nat → Int32 := if ld ≤ snd2 t c s l ld then t else upd (t) (pl s l) 0
