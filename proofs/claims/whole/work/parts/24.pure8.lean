theorem sub1_lt {m : Nat} (h : m < 2 ^ 30) : nI m - 1 < 0 ↔ m = 0 := by
  cases m with
  | zero => exact ⟨fun _ => rfl, fun _ => by decide⟩
  | succ m =>
    rw [nI_pred]
    exact ⟨fun z => absurd z (nI_pos (by omega)), fun z => absurd z (by omega)⟩
def ltF (σ : St) (cu m : Nat) : St := put σ 6 (upd (σ 6) cu (nI m))
theorem okM_lt {σ ω : St} {h nc cu m : Nat} (k : okM σ ω h nc) : okM (ltF σ cu m) ω h nc :=
  ⟨⟨k.1.1, k.1.2.1, k.1.2.2.1, fun j hj => okC_eq (k.1.2.2.2 j hj) rfl rfl rfl rfl rfl⟩, k.2⟩
def bsR (σ : St) (cu : Nat) : Nat → Int32
  | 0 => -1
  | m + 1 => if amR cu 151 0 (ltF σ cu m) = -1 then bsR σ cu m else nI m
def bsE (σ : St) (cu : Nat) : Nat → St → St
  | 0, α => α
  | m + 1, _ => if amR cu 151 0 (ltF σ cu m) = -1 then bsE σ cu m (amE cu 151 (ltF σ cu m)) else amE cu 151 (ltF σ cu m)
theorem bsR_t {σ : St} {cu m : Nat} (h : amR cu 151 0 (ltF σ cu m) = -1) : bsR σ cu (m + 1) = bsR σ cu m := if_pos h
theorem bsR_f {σ : St} {cu m : Nat} (h : ¬ amR cu 151 0 (ltF σ cu m) = -1) : bsR σ cu (m + 1) = nI m := if_neg h
theorem bsE_t {σ α : St} {cu m : Nat} (h : amR cu 151 0 (ltF σ cu m) = -1) : bsE σ cu (m + 1) α = bsE σ cu m (amE cu 151 (ltF σ cu m)) := if_pos h
theorem bsE_f {σ α : St} {cu m : Nat} (h : ¬ amR cu 151 0 (ltF σ cu m) = -1) : bsE σ cu (m + 1) α = amE cu 151 (ltF σ cu m) := if_neg h
theorem sumF_ok {t : Nat → Int32} (h : okI t) : ∀ n, n ≤ 36 → ∃ m, m ≤ 60 * n ∧ sumF t n = nI m
  | 0, _ => ⟨0, by omega, rfl⟩
  | n + 1, hn => by
    obtain ⟨m, hm, e⟩ := sumF_ok h n (by omega)
    obtain ⟨j, hj, e2⟩ := h n (by omega)
    exact ⟨m + j, by omega, by show sumF t n + t n = _; rw [e, e2, nI_add]⟩
def mnF (σ : St) : UInt64 := FP.ddiv (FP.i2d (sumF (σ 3) 36)) 4630263366890291200
theorem mean_all : ∀ m : Fin 2161, FP.ddiv (FP.i2d (nI m.val)) 4630263366890291200 &&& 0x7fffffffffffffff ≤ 0x7ff0000000000000 := by decide +kernel
theorem mean_n {σ : St} (h : okI (σ 3)) : vf_n64 (FP.ddiv (FP.i2d (sumF (σ 3) 36)) 4630263366890291200) := by
  obtain ⟨m, hm, e⟩ := sumF_ok h 36 (by omega)
  rw [e]
  exact mean_all ⟨m, by omega⟩
section Rules8
variable {p : Program} {l : Launch} {e : Env} {R : Room} {s : State} {m : MethodId} {args : Array Value} {below : List Frame} {meth : Method} {c : Code} {H : Heap} {locs : List Loc} {cells slots : Nat} {pc : Nat} {ls : Array Slot}
theorem ret_wrd {cc : ByteArray} {x v : UInt64} {D : va_G} {w : va_W} {A : Nat → Prop} (hx : p.tables.exec = Jvm.exec) (hb : c.code = cc) (hr : meth.sig.returnType = some .double) (hlocks : meth.locks = false) (hP : va_P D vwCl w H) (hD : va_D A w) (hS : va_S A s.heap H locs) (hv : x = v) (hdg : decode cc pc = .ok (.dreturn, 1)) : W p l e R s m args below meth c H locs cells slots (MQ below (wrQd v D w A) args s cells slots A) (F0 m pc ls [.double x]) :=
  W.dret hx hb hr (fun t ht hW => ⟨⟨_, (), rfl, hv, by rw [ht]; exact hP, hD⟩, hS.F ht⟩) hS.2.2 hdg hlocks
end Rules8
def mxd (d : Int64) (x : Int32) : Int64 := d * 31 + x.toInt64
def fdF (f : Nat → Int32) (d : Int64) : Nat → Int64
  | 0 => d
  | n + 1 => mxd (fdF f d n) (f n)
def fd2 (f g : Nat → Int32) (d : Int64) : Nat → Int64
  | 0 => d
  | n + 1 => mxd (mxd (fd2 f g d n) (f n)) (g n)
def fd3 (f g q : Nat → Int32) (d : Int64) : Nat → Int64
  | 0 => d
  | n + 1 => mxd (mxd (mxd (fd3 f g q d n) (f n)) (g n)) (q n)
def dg1 (σ ω : St) (nc nw : Nat) : Int64 := fdF (fun w => ctF σ ω nc nw w) 757 11
def dg2 (σ ω : St) (nc nw : Nat) : Int64 := fdF (ω 2) (fd2 (σ 3) (σ 4) (fdF (ω 1) (dg1 σ ω nc nw) 14) 36) 12
def dg3 (σ ω : St) (nc nw : Nat) : Int64 := fdF (ofC (σ 5) (σ 6) (σ 7) (σ 8) (σ 9) (σ 10) (σ 11) (σ 12) (σ 13)) (dg2 σ ω nc nw) (9 * nc)
def dgF (σ ω : St) (nc nw : Nat) : Int64 := fd3 (ω 14) (ω 15) (fun k => wonF σ ω nw k) (dg3 σ ω nc nw) nw
