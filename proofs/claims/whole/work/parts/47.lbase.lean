abbrev wAll (b a a2 n d d2 : Nat → Nat) (cI cJ : ClassId) (o : Nat) (σ σ2 ω τ2 : St) (g : Nat → Int64) : va_W := (wLan b a a2 cI σ σ2 ω ++ [(o, .inl (cJ, 1, .inr (.inl g)))]) ++ wMod n d d2 cI σ τ2 ω
/-- what holds between the calls -/
def lwI (σ ω : St) (h nc nw : Nat) : Prop := okM σ ω h nc ∧ ω 19 0 = nI nw ∧ nw ≤ 12
theorem hxS {s : State} {H : Heap} {locs : List Loc} {As : List Value} {D : va_G} {w ws : va_W} {A : Nat → Prop} {tys tys0 : List (ClassId × FieldType)} (hK : KK D tys0 s) (hP : va_P D vwCl ws H) (hD : va_D A ws) (hS : va_S A s.heap H locs) (hEX : EX2 A s) (is ts : List Nat) (hn : va_nd is = true) (hs : is.map (fun i => ws[i]?) = w.map some) (ht : ts.filterMap (fun i => tys0[i]?) = tys) : PreS s H (hxPc As D w tys H.size A) As :=
  ⟨hx_blind, fun U hU hW => ⟨⟨rfl, by rw [hU], by rw [hU]; exact hP.sub is (fm_of_map hs), (hK.sub ts ht).warm hW, (hD.sub is hn hs).weaken (fun _ _ _ _ => trivial)⟩, hEX.warm hW (fun a h1 h2 => by rw [hU]; exact hS.2.1 a h1 h2)⟩⟩
/-- what the law's body knows at each of its places -/
def lwC (p : Program) (l : Launch) (s : State) (m : MethodId) (args : Array Value) (c : Code) (A : Nat → Prop) (D : va_G) (cI cJ : ClassId) (bs L : Nat) (xs : Nat → Int32) : Prop :=
  p.tables.exec = Jvm.exec ∧ c.code = cL_law ∧ c.maxLocals = 9 ∧ s.vm.findClass RL = some m.cls ∧ (∀ w ∈ wsL_law, w.before args s = true) ∧ KK D [(cI, .int), (cJ, .long)] s ∧ EX2 A s ∧ va_X bs L xs s s.heap ∧ bs < s.heap.size ∧ ¬ A bs ∧ l.stackTraces = false ∧ (∀ q : Nat, s.heap.size ≤ q → A q) ∧ L ≤ 3072
section LawRules
variable {p : Program} {l : Launch} {e : Env} {R : Room} {s : State} {m : MethodId} {args : Array Value} {below : List Frame} {meth : Method} {c : Code} {H : Heap} {locs : List Loc} {cells slots : Nat} {Q : State → Prop} {cc : ByteArray} {pc : Nat} {ls : Array Slot} {rest : List Value}
theorem my_lcmpE (hx : p.tables.exec = Jvm.exec) (hb : c.code = cc) {x : Int64} (hdg : decode cc pc = .ok (.lcmp, 1)) (k : W p l e R s m args below meth c H locs cells slots Q (F0 m (pc + 1) ls (.int 0 :: rest))) : W p l e R s m args below meth c H locs cells slots Q (F0 m pc ls (.long x :: .long x :: rest)) := by
  refine W.lcmp hx hb hdg ?_
  rw [show lg_cmp x x = 0 by simp [lg_cmp]]
  exact k
end LawRules
/-- what lies behind a call of the law's: the next round, with the invariant -/
def lwK (p : Program) (l : Launch) (e : Env) (s : State) (m : MethodId) (args : Array Value) (below : List Frame) (meth : Method) (c : Code) (A : Nat → Prop) (D : va_G) (cI cJ : ClassId) (b a a2 n d d2 : Nat → Nat) (o bs i h : Nat) (cells slots : Nat) (Q : State → Prop) : Prop :=
  ∀ (σ σ2 ω τ2 : St) (g : Nat → Int64) (h' nc nw : Nat), lwI σ ω h' nc nw → h' ≤ h + 200 → ∀ (H : Heap) (locs : List Loc), va_P D vwCl (wAll b a a2 n d d2 cI cJ o σ σ2 ω τ2 g) H → va_D A (wAll b a a2 n d d2 cI cJ o σ σ2 ω τ2 g) → va_S A s.heap H locs → ∀ (ls : Array Slot), lv_has ls 9 [(0, .ref bs), (1, .ref (b 0)), (2, .ref (n 0)), (3, .ref o), (4, .int (nI (6 * i)))] → W p l e room_1 s m args below meth c H locs (cells + 23) (slots + 200) Q (F0 m 1220 ls [])
