theorem my_ofWH {l : Launch} {y : MethodName} {ws ws' : List Cond} {rm : Room} {Pc : Array Value → State → Prop} {Qc : Array Value → State → Outcome → State → Prop} {mc ms : Nat} {free : Addr → Prop} {cc : ByteArray} {maxL : Nat} {ret : Option FieldType} {hh : List (Nat × Nat × Nat × Nat)}
    (hy : plainName y.cls = true) (hw : ws = Cond.codeWith y cc maxL ret hh :: ws')
    (body : ∀ p e s m args below meth c s₁, BodyLoose p l y (headSpec ws rm) cc maxL ret e s m args below meth c s₁ → c.maxLocals = maxL → Pc args s →
      W p l e (headSpec ws rm).room s m args below meth c s.heap [] 0 0 (MQ below Qc args s mc ms free) (entryFrame m args maxL)) : Met l y ws rm Pc Qc mc ms free := by
  refine MetFree.of_bodyS (code := cc) (maxLocals := maxL) (ret := ret) hy ?_ ?_
  · intro args s m h hn
    obtain ⟨m9, meth, c, hn9, h1, h2, h3, h4, -, h5, h6, -⟩ := Cond.codeWith_spec (atoms_spec (ws := ws) h _ (by rw [hw]; exact List.mem_cons_self))
    cases hn.symm.trans hn9
    exact ⟨meth, c, h1, h2, h3, h4, h5, h6⟩
  · intro p e s m args below meth c s₁ B hml hP _
    have hh0 : s₁.heap = s.heap := by rw [B.state]; rfl
    obtain ⟨t, a1, o, b1, b2, b3⟩ := body p e s m args below meth c s₁ B hml hP s₁ hh0 (Stand.of_body B)
    exact ⟨t, o, a1, b1, b2, ⟨b3.1, b3.2⟩⟩
def EX2 (A : Nat → Prop) (U : State) : Prop := EX A U ∧ va_Nc "java/lang/IllegalArgumentException" "java/lang/IndexOutOfBoundsException" U ∧ va_Nc "java/lang/IllegalStateException" "java/lang/IndexOutOfBoundsException" U ∧ va_Nc "java/lang/IllegalStateException" "java/lang/IllegalArgumentException" U
theorem EX2.warm {A : Nat → Prop} {s U : State} (hW : s.WarmedH U.vm) (hH : ∀ a : Nat, a < s.heap.size → ¬ A a → U.heap[a]? = s.heap[a]?) (h : EX2 A s) : EX2 A U := ⟨h.1.warm hW hH, h.2.1.moved hW.alike, h.2.2.1.moved hW.alike, h.2.2.2.moved hW.alike⟩
theorem EX2.calling {A : Nat → Prop} {U : State} (g : JFrame) (mk : MethodId) (a : Array Value) (h : EX2 A U) : EX2 A (U.calling g mk a) := ⟨h.1.calling g mk a, h.2.1.moved (Vm.Alike.refl U.vm), h.2.2.1.moved (Vm.Alike.refl U.vm), h.2.2.2.moved (Vm.Alike.refl U.vm)⟩
def hxPc (As : List Value) (D : va_G) (w : va_W) (tys : List (ClassId × FieldType)) (sz : Nat) (A : Nat → Prop) : Array Value → State → Prop := fun v U => wrPc As D w tys sz v U ∧ EX2 A U
theorem hx_blind {As : List Value} {D : va_G} {w : va_W} {tys : List (ClassId × FieldType)} {sz : Nat} {A : Nat → Prop} : FrameBlind (hxPc As D w tys sz A) := fun a U g mk q => ⟨⟨q.1.1, q.1.2.1, q.1.2.2.1, q.1.2.2.2.1.calling g mk a, q.1.2.2.2.2⟩, q.2.calling g mk a⟩
theorem exV {s : State} {C : String} {T : u_T} {N b q0 ci : Nat} {fs As : List Value} {D : va_G} {w ws : va_W} {A : Nat → Prop} {tys tys0 : List (ClassId × FieldType)} (hK : KK D tys0 s) (hP : va_P D vwCl ws s.heap) (hEX : EX A s) (is ts : List Nat) (hs : is.map (fun i => ws[i]?) = w.map some) (ht : ts.filterMap (fun i => tys0[i]?) = tys) (hc : vwCl[ci]? = some (C, T, N)) (he : ws[q0]? = some (b, .inr (ci, fs))) : PreV s s.heap C b (exPc (.ref b :: As) D w tys A) As :=
  ⟨ex_blind, va_recv hK.1 hP hc he, fun U hU hW => ⟨⟨rfl, by rw [hU]; exact hP.sub is (fm_of_map hs), (hK.sub ts ht).warm hW⟩, hEX.warm hW (fun a _ _ => by rw [hU])⟩⟩
section ExCall
variable {p : Program} {l : Launch} {e : Env} {R : Room} {s : State} {m : MethodId} {args : Array Value} {below : List Frame} {meth : Method} {c : Code} {H : Heap} {locs : List Loc} {cells slots : Nat} {Q : State → Prop}
variable {a : Array Value} {pc : Nat} {ls : Array Slot} {st0 rest : List Value} {mc ms : Nat} {A0 : Nat → Prop} {H0 : Heap}
theorem ex_call {D : va_G} {ws : va_W} {E : String} (hr : vx_Run p l e R s m args below meth c H locs cells slots 1 6 (F0 m pc ls st0) rest (exQ a) (exX E) (fun _ => False)) (hP : va_P D vwCl ws H) (hD : va_D A0 ws) (hS : va_S A0 H0 H locs)
    (kx : ∀ (ce : Cell) (q9 : Addr) (H1 : Heap) (locs1 : List Loc), va_P D vwCl ws H1 → va_D A0 ws → va_S A0 H0 H1 locs1 → H1[q9]? = some ce → ce.vm = .none → s.vm.findClass E = some ce.cls → vx_W p l e R s m args below meth c H1 locs1 (cells + 1) (slots + 6) Q (F0 m pc ls rest) q9) : W p l e R s m args below meth c H locs cells slots Q (F0 m pc ls st0) :=
  vx_calli hr hS (fun q _ h => h.elim) (fun q h => h.elim) (fun q _ h => h.elim)
    (fun E' ce q9 u t H1 locs1 ht hvm hpx hbx hsz hk hS1 hce hcv hcl => kx ce q9 H1 locs1 (hP.kept (fun k x hx => hk x.1 ((hP k x hx).lt) (fun z => z))) hD hS1 hce hcv (by have e9 : E' = E := hbx; rw [← e9]; exact hcl))
    (fun r u t H1 locs1 ht hvm hp hb hsz hk hS1 => hp.elim)
end ExCall
