abbrev wAll (b a a2 n d d2 : Nat → Nat) (cI cJ : ClassId) (o : Nat) (σ σ2 ω τ2 : St) (g : Nat → Int64) : va_W := (wLan b a a2 cI σ σ2 ω ++ [(o, .inl (cJ, 1, .inr (.inl g)))]) ++ wMod n d d2 cI σ τ2 ω
/-- what holds between the calls -/
def lwI (σ ω : St) (h nc nw : Nat) : Prop := okM σ ω h nc ∧ ω 19 0 = nI nw ∧ nw ≤ 12
theorem hxS {s : State} {H : Heap} {locs : List Loc} {As : List Value} {D : va_G} {w ws : va_W} {A : Nat → Prop} {tys tys0 : List (ClassId × FieldType)} (hK : KK D tys0 s) (hP : va_P D vwCl ws H) (hD : va_D A ws) (hS : va_S A s.heap H locs) (hEX : EX2 A s) (is ts : List Nat) (hn : va_nd is = true) (hs : is.map (fun i => ws[i]?) = w.map some) (ht : ts.filterMap (fun i => tys0[i]?) = tys) : PreS s H (hxPc As D w tys H.size A) As :=
  ⟨hx_blind, fun U hU hW => ⟨⟨rfl, by rw [hU], by rw [hU]; exact hP.sub is (fm_of_map hs), (hK.sub ts ht).warm hW, (hD.sub is hn hs).weaken (fun _ _ _ _ => trivial)⟩, hEX.warm hW (fun a h1 h2 => by rw [hU]; exact hS.2.1 a h1 h2)⟩⟩
/-- what the law's body knows at each of its places -/
def lwC (p : Program) (l : Launch) (s : State) (m : MethodId) (args : Array Value) (c : Code) (A : Nat → Prop) (D : va_G) (cI cJ : ClassId) (bs L : Nat) (xs : Nat → Int32) : Prop :=
  p.tables.exec = Jvm.exec ∧ c.code = cL_law ∧ c.maxLocals = 9 ∧ s.vm.findClass RL = some m.cls ∧ (∀ w ∈ wsL_law, w.before args s = true) ∧ KK D [(cI, .int), (cJ, .long)] s ∧ EX2 A s ∧ va_X bs L xs s s.heap ∧ bs < s.heap.size ∧ ¬ A bs ∧ l.stackTraces = false ∧ (∀ q : Nat, s.heap.size ≤ q → A q) ∧ L ≤ 3072
section LawRules
variable {p : Program} {l : Launch} {e : Env} {R : Room} {s : State} {m : MethodId} {args : Array Value} {below : List Frame} {meth : Method} {c : Code} {H : Heap} {locs : List Loc} {cells slots : Nat} {Q : State → Prop} {cc : ByteArray} {pc : Nat} {ls : Array Slot} {rest : List Value}
theorem my_lcmpE (hx : p.tables.exec = Jvm.exec) (hb : c.code = cc) {x : Int64} (hdg : decode cc pc = .ok (.lcmp, 1)) (k : W p l e R s m args below meth c H locs cells slots Q (F0 m (pc + 1) ls (.int 0 :: rest))) : W p l e R s m args below meth c H locs cells slots Q (F0 m pc ls (.long x :: .long x :: rest)) := by
  refine W.lcmp hx hb hdg ?_
  rw [show lg_cmp x x = 0 by simp [lg_cmp]]
  exact k
end LawRules
/-- what lies behind a call of the law's: the next round, with the invariant -/
def lwK (p : Program) (l : Launch) (e : Env) (s : State) (m : MethodId) (args : Array Value) (below : List Frame) (meth : Method) (c : Code) (A : Nat → Prop) (D : va_G) (cI cJ : ClassId) (b a a2 n d d2 : Nat → Nat) (o bs i h : Nat) (cells slots : Nat) (Q : State → Prop) : Prop :=
  ∀ (σ σ2 ω τ2 : St) (g : Nat → Int64) (h' nc nw : Nat), lwI σ ω h' nc nw → h' ≤ h + 200 → ∀ (H : Heap) (locs : List Loc), va_P D vwCl (wAll b a a2 n d d2 cI cJ o σ σ2 ω τ2 g) H → va_D A (wAll b a a2 n d d2 cI cJ o σ σ2 ω τ2 g) → va_S A s.heap H locs → ∀ (ls : Array Slot), lv_has ls 9 [(0, .ref bs), (1, .ref (b 0)), (2, .ref (n 0)), (3, .ref o), (4, .int (nI (6 * i)))] → W p l e room_1 s m args below meth c H locs (cells + 23) (slots + 200) Q (F0 m 1220 ls [])
theorem va_P.left {D : va_G} {cl : List vw_C} {x y : va_W} {H : Heap} (h : va_P D cl (x ++ y) H) : va_P D cl x H := fun k q hk => by
  have hl : k < x.length := (List.getElem?_eq_some_iff.mp hk).1
  exact h k q (by rw [List.getElem?_append_left hl]; exact hk)
theorem va_P.right {D : va_G} {cl : List vw_C} {x y : va_W} {H : Heap} (h : va_P D cl (x ++ y) H) : va_P D cl y H := fun k q hk => h (x.length + k) q (by rw [List.getElem?_append_right (by omega), show x.length + k - x.length = k by omega]; exact hk)
theorem va_D.left {A : Nat → Prop} {x y : va_W} (h : va_D A (x ++ y)) : va_D A x := by
  have e : ∀ (k : Nat) (q : Nat × va_E), x[k]? = some q → (x ++ y)[k]? = some q := fun k q hk => by
    rw [List.getElem?_append_left (List.getElem?_eq_some_iff.mp hk).1]; exact hk
  exact ⟨fun i j p q hp hq => h.1 i j p q (e i p hp) (e j q hq), fun k q hk => h.2 k q (e k q hk)⟩
theorem va_D.right {A : Nat → Prop} {x y : va_W} (h : va_D A (x ++ y)) : va_D A y := by
  have e : ∀ (k : Nat) (q : Nat × va_E), y[k]? = some q → (x ++ y)[x.length + k]? = some q := fun k q hk => by
    rw [List.getElem?_append_right (by omega), show x.length + k - x.length = k by omega]; exact hk
  exact ⟨fun i j p q hp hq hpq => by have := h.1 _ _ p q (e i p hp) (e j q hq) hpq; omega, fun k q hk => h.2 _ q (e k q hk)⟩
theorem va_D.dis {A : Nat → Prop} {x y : va_W} (h : va_D A (x ++ y)) {i j : Nat} {p q : Nat × va_E} (hp : x[i]? = some p) (hq : y[j]? = some q) : p.1 ≠ q.1 := by
  intro e9
  have hl : i < x.length := (List.getElem?_eq_some_iff.mp hp).1
  have := h.1 i (x.length + j) p q (by rw [List.getElem?_append_left hl]; exact hp) (by rw [List.getElem?_append_right (by omega), show x.length + j - x.length = j by omega]; exact hq) e9
  omega
theorem rdV0 {s : State} {H : Heap} {C : String} {T : u_T} {N b q0 ci : Nat} {fs As : List Value} {D : va_G} {w : va_W} {tys tys0 : List (ClassId × FieldType)} (hK : KK D tys0 s) (hP : va_P D vwCl w H) (ts : List Nat) (ht : ts.filterMap (fun i => tys0[i]?) = tys) (hc : vwCl[ci]? = some (C, T, N)) (he : w[q0]? = some (b, .inr (ci, fs))) : PreV s H C b (rdPc (.ref b :: As) D w tys) As :=
  ⟨rd_blind, va_recv hK.1 hP hc he, fun U hU hW => ⟨rfl, by rw [hU]; exact hP, (hK.sub ts ht).warm hW⟩⟩
theorem wrV0 {s : State} {H : Heap} {C : String} {T : u_T} {N b q0 ci : Nat} {fs As : List Value} {D : va_G} {w : va_W} {A : Nat → Prop} {tys tys0 : List (ClassId × FieldType)} (hK : KK D tys0 s) (hP : va_P D vwCl w H) (hD : va_D A w) (ts : List Nat) (ht : ts.filterMap (fun i => tys0[i]?) = tys) (hc : vwCl[ci]? = some (C, T, N)) (he : w[q0]? = some (b, .inr (ci, fs))) : PreV s H C b (wrPc (.ref b :: As) D w tys H.size) As :=
  ⟨wr_blind, va_recv hK.1 hP hc he, fun U hU hW => ⟨rfl, by rw [hU], by rw [hU]; exact hP, (hK.sub ts ht).warm hW, hD.weaken (fun _ _ _ _ => trivial)⟩⟩
theorem wrS0 {s : State} {H : Heap} {As : List Value} {D : va_G} {w : va_W} {A : Nat → Prop} {tys tys0 : List (ClassId × FieldType)} (hK : KK D tys0 s) (hP : va_P D vwCl w H) (hD : va_D A w) (ts : List Nat) (ht : ts.filterMap (fun i => tys0[i]?) = tys) : PreS s H (wrPc As D w tys H.size) As :=
  ⟨wr_blind, fun U hU hW => ⟨rfl, by rw [hU], by rw [hU]; exact hP, (hK.sub ts ht).warm hW, hD.weaken (fun _ _ _ _ => trivial)⟩⟩
theorem hxS0 {s : State} {H : Heap} {locs : List Loc} {As : List Value} {D : va_G} {w : va_W} {A : Nat → Prop} {tys tys0 : List (ClassId × FieldType)} (hK : KK D tys0 s) (hP : va_P D vwCl w H) (hD : va_D A w) (hS : va_S A s.heap H locs) (hEX : EX2 A s) (ts : List Nat) (ht : ts.filterMap (fun i => tys0[i]?) = tys) : PreS s H (hxPc As D w tys H.size A) As :=
  ⟨hx_blind, fun U hU hW => ⟨⟨rfl, by rw [hU], by rw [hU]; exact hP, (hK.sub ts ht).warm hW, hD.weaken (fun _ _ _ _ => trivial)⟩, hEX.warm hW (fun a h1 h2 => by rw [hU]; exact hS.2.1 a h1 h2)⟩⟩
theorem all_free {A0 : Nat → Prop} {x : va_W} {H0 H : Heap} {locs : List Loc} (hD : va_D A0 x) (hS : va_S A0 H0 H locs) (hA : ∀ q, H0.size ≤ q → A0 q) : ∀ q, va_A x H.size q → A0 q := by
  intro q h
  rcases h with ⟨k, e9, h⟩ | h
  · exact hD.2 k _ h
  · exact hA q (Nat.le_trans hS.1 h)
section SideRules
variable {p : Program} {l : Launch} {e : Env} {R : Room} {s : State} {m : MethodId} {args : Array Value} {below : List Frame} {meth : Method} {c : Code} {H : Heap} {locs : List Loc} {cells slots : Nat} {Q : State → Prop}
variable {a : Array Value} {pc : Nat} {ls : Array Slot} {st0 rest : List Value} {mc ms : Nat} {A0 : Nat → Prop} {H0 : Heap}
theorem side_l {D : va_G} {x y x1 : va_W} {H1 : Heap} (hP : va_P D vwCl (x ++ y) H) (hD : va_D A0 (x ++ y)) (hF : ∀ q, va_A x H.size q → A0 q) (hk : ∀ q : Nat, q < H.size → ¬ va_A x H.size q → H1[q]? = H[q]?) (hP1 : va_P D vwCl x1 H1) (hD1 : va_D (va_A x H.size) x1) : va_P D vwCl (x1 ++ y) H1 ∧ va_D A0 (x1 ++ y) := by
  have hPy := hP.right
  have nA : ∀ (j : Nat) (q : Nat × va_E), y[j]? = some q → ¬ va_A x H.size q.1 := fun j q hq h => by
    rcases h with ⟨k, e9, h⟩ | h
    · exact hD.dis h hq rfl
    · exact absurd ((hPy j q hq).lt) (Nat.not_lt.mpr h)
  refine ⟨hP1.app (hPy.kept (fun k q hq => hk q.1 ((hPy k q hq).lt) (nA k q hq))), (hD1.weaken (fun _ _ _ h => hF _ h)).app hD.right (fun i j p q hp hq e9 => nA j q hq ?_)⟩
  rw [← e9]
  exact hD1.2 i p hp
theorem side_r {D : va_G} {x y y1 : va_W} {H1 : Heap} (hP : va_P D vwCl (x ++ y) H) (hD : va_D A0 (x ++ y)) (hF : ∀ q, va_A y H.size q → A0 q) (hk : ∀ q : Nat, q < H.size → ¬ va_A y H.size q → H1[q]? = H[q]?) (hP1 : va_P D vwCl y1 H1) (hD1 : va_D (va_A y H.size) y1) : va_P D vwCl (x ++ y1) H1 ∧ va_D A0 (x ++ y1) := by
  have hPx := hP.left
  have nA : ∀ (j : Nat) (q : Nat × va_E), x[j]? = some q → ¬ va_A y H.size q.1 := fun j q hq h => by
    rcases h with ⟨k, e9, h⟩ | h
    · exact hD.dis hq h rfl
    · exact absurd ((hPx j q hq).lt) (Nat.not_lt.mpr h)
  refine ⟨(hPx.kept (fun k q hq => hk q.1 ((hPx k q hq).lt) (nA k q hq))).app hP1, hD.left.app (hD1.weaken (fun _ _ _ h => hF _ h)) (fun i j p q hp hq e9 => nA i p hp ?_)⟩
  rw [e9]
  exact hD1.2 j q hq
theorem sl_i {D : va_G} {x y x1 : va_W} {v : Int32} (hr : va_Run p l e R s m args below meth c H locs cells slots mc ms (F0 m pc ls st0) rest (wrQi v D x1 (va_A x H.size) a) (va_A x H.size)) (hP : va_P D vwCl (x ++ y) H) (hD : va_D A0 (x ++ y)) (hS : va_S A0 H0 H locs) (hA : ∀ q, H0.size ≤ q → A0 q)
    (kk : ∀ (H1 : Heap) (locs1 : List Loc), va_P D vwCl (x1 ++ y) H1 → va_D A0 (x1 ++ y) → va_S A0 H0 H1 locs1 → W p l e R s m args below meth c H1 locs1 (cells + mc) (slots + ms) Q (F0 m (pc + 3) ls (.int v :: rest))) : W p l e R s m args below meth c H locs cells slots Q (F0 m pc ls st0) := by
  have hF := all_free hD.left hS hA
  refine va_calli hr hS (fun q _ h => hF q h) hF (fun r u t H1 locs1 ht hvm h1 hB hz hk hS1 => ?_)
  obtain ⟨hP1, hD1⟩ := hB
  rw [ht] at hP1
  subst h1
  obtain ⟨k1, k2⟩ := side_l hP hD hF hk hP1 hD1
  exact kk H1 locs1 k1 k2 hS1
theorem sr_i {D : va_G} {x y y1 : va_W} {v : Int32} (hr : va_Run p l e R s m args below meth c H locs cells slots mc ms (F0 m pc ls st0) rest (wrQi v D y1 (va_A y H.size) a) (va_A y H.size)) (hP : va_P D vwCl (x ++ y) H) (hD : va_D A0 (x ++ y)) (hS : va_S A0 H0 H locs) (hA : ∀ q, H0.size ≤ q → A0 q)
    (kk : ∀ (H1 : Heap) (locs1 : List Loc), va_P D vwCl (x ++ y1) H1 → va_D A0 (x ++ y1) → va_S A0 H0 H1 locs1 → W p l e R s m args below meth c H1 locs1 (cells + mc) (slots + ms) Q (F0 m (pc + 3) ls (.int v :: rest))) : W p l e R s m args below meth c H locs cells slots Q (F0 m pc ls st0) := by
  have hF := all_free hD.right hS hA
  refine va_calli hr hS (fun q _ h => hF q h) hF (fun r u t H1 locs1 ht hvm h1 hB hz hk hS1 => ?_)
  obtain ⟨hP1, hD1⟩ := hB
  rw [ht] at hP1
  subst h1
  obtain ⟨k1, k2⟩ := side_r hP hD hF hk hP1 hD1
  exact kk H1 locs1 k1 k2 hS1
theorem sr_l {D : va_G} {x y y1 : va_W} {v : Int64} (hr : va_Run p l e R s m args below meth c H locs cells slots mc ms (F0 m pc ls st0) rest (wrQl v D y1 (va_A y H.size) a) (va_A y H.size)) (hP : va_P D vwCl (x ++ y) H) (hD : va_D A0 (x ++ y)) (hS : va_S A0 H0 H locs) (hA : ∀ q, H0.size ≤ q → A0 q)
    (kk : ∀ (H1 : Heap) (locs1 : List Loc), va_P D vwCl (x ++ y1) H1 → va_D A0 (x ++ y1) → va_S A0 H0 H1 locs1 → W p l e R s m args below meth c H1 locs1 (cells + mc) (slots + ms) Q (F0 m (pc + 3) ls (.long v :: rest))) : W p l e R s m args below meth c H locs cells slots Q (F0 m pc ls st0) := by
  have hF := all_free hD.right hS hA
  refine va_calll hr hS (fun q _ h => hF q h) hF (fun r u t H1 locs1 ht hvm h1 hB hz hk hS1 => ?_)
  obtain ⟨hP1, hD1⟩ := hB
  rw [ht] at hP1
  subst h1
  obtain ⟨k1, k2⟩ := side_r hP hD hF hk hP1 hD1
  exact kk H1 locs1 k1 k2 hS1
theorem sr_d {D : va_G} {x y y1 : va_W} {v : UInt64} (hr : va_Run p l e R s m args below meth c H locs cells slots mc ms (F0 m pc ls st0) rest (wrQd v D y1 (va_A y H.size) a) (va_A y H.size)) (hP : va_P D vwCl (x ++ y) H) (hD : va_D A0 (x ++ y)) (hS : va_S A0 H0 H locs) (hA : ∀ q, H0.size ≤ q → A0 q)
    (kk : ∀ (H1 : Heap) (locs1 : List Loc), va_P D vwCl (x ++ y1) H1 → va_D A0 (x ++ y1) → va_S A0 H0 H1 locs1 → W p l e R s m args below meth c H1 locs1 (cells + mc) (slots + ms) Q (F0 m (pc + 3) ls (.double v :: rest))) : W p l e R s m args below meth c H locs cells slots Q (F0 m pc ls st0) := by
  have hF := all_free hD.right hS hA
  refine va_calld hr hS (fun q _ h => hF q h) hF (fun r u t H1 locs1 ht hvm h1 hB hz hk hS1 => ?_)
  obtain ⟨hP1, hD1⟩ := hB
  rw [ht] at hP1
  subst h1
  obtain ⟨k1, k2⟩ := side_r hP hD hF hk hP1 hD1
  exact kk H1 locs1 k1 k2 hS1
end SideRules
