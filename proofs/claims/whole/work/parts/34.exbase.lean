def exN : List String := ["java/lang/RuntimeException", "java/lang/Exception"]
def exL : List Cond := (vx_atS RX4 34 "java/lang/IndexOutOfBoundsException" ["java/lang/RuntimeException", "java/lang/Exception"]).filter (fun w => !goodWord w) ++ ((vx_atS RX4 41 "java/lang/IllegalArgumentException" ["java/lang/RuntimeException", "java/lang/Exception"]).filter (fun w => !goodWord w) ++ (vx_atS RX4 107 "java/lang/IllegalStateException" ["java/lang/RuntimeException", "java/lang/Exception"]).filter (fun w => !goodWord w))
def isDC : Cond → Bool := fun w => match w with
  | .declares _ => true
  | .castable _ _ => true
  | _ => false
theorem exL_dc : ∀ w ∈ exL, isDC w = true := by decide +kernel
theorem dc_warm {w : Cond} (h1 : isDC w = true) {s U : State} (hW : s.WarmedH U.vm) (h : va_Nw w s) : va_Nw w U := by
  cases w <;> first | exact va_Nw.warmD hW h | exact va_Nw.warmC hW h | cases h1
theorem dc_use {w : Cond} (h1 : isDC w = true) {A : Array Value} {U : State} (h : va_Nw w U) : w.before A U = true := by
  cases w <;> first | exact va_Nw.use rfl h | cases h1
def exT : List (Nat × String) := [(32, "no such day of the table"), (39, "it is never that warm or that cold"), (50, "no such place"), (52, "ice is never that thick or that thin"), (71, "no such section"), (80, "no such question of a place"), (97, "no courier has that weight or those letters"), (105, "there are as many couriers as there can be"), (111, "the place does not bear the weight and the letters"), (120, "no such courier or section"), (125, "this courier broke in"), (139, "no such courier"), (141, "not so many letters are given or taken at once"), (146, "nobody carries so many letters"), (151, "the place would not bear it"), (153, "no such courier, or no such question of one"), (158, "no wager is on that day or has that stake"), (161, "there are as many wagers as there can be"), (167, "the thaw has come"), (172, "no such wager"), (177, "not so many hours go by at once"), (182, "nothing such is counted")]
/-- what a throw asks of the state beside the words: the words that aren't good ones, the two statics of Throwable, the texts -/
def EX (A : Nat → Prop) (U : State) : Prop := (∀ w ∈ exL, va_Nw w U) ∧ vx_Zq Bundle.tN "UNASSIGNED_STACK" Bundle.steD A U U.heap ∧ vx_Zq Bundle.tN "SUPPRESSED_SENTINEL" Bundle.listD A U U.heap ∧ ∀ q ∈ exT, ∃ sa, vk_R RX4 q.1 q.2 sa U
theorem EX.warm {A : Nat → Prop} {s U : State} (hW : s.WarmedH U.vm) (hH : ∀ a : Nat, a < s.heap.size → ¬ A a → U.heap[a]? = s.heap[a]?) (h : EX A s) : EX A U :=
  ⟨fun w hw => dc_warm (exL_dc w hw) hW (h.1 w hw), (vx_Zq.moved hW.alike h.2.1).kept hH, (vx_Zq.moved hW.alike h.2.2.1).kept hH, fun q hq => by obtain ⟨sa, hs⟩ := h.2.2.2 q hq; exact ⟨sa, vk_R.warm hW hs⟩⟩
theorem EX.calling {A : Nat → Prop} {U : State} (g : JFrame) (mk : MethodId) (a : Array Value) (h : EX A U) : EX A (U.calling g mk a) :=
  ⟨fun w hw => dc_warm (exL_dc w hw) (State.WarmedH.refl U) (h.1 w hw), vx_Zq.moved (u := U) (U := U.calling g mk a) (Vm.Alike.refl U.vm) h.2.1, vx_Zq.moved (u := U) (U := U.calling g mk a) (Vm.Alike.refl U.vm) h.2.2.1, fun q hq => by obtain ⟨sa, hs⟩ := h.2.2.2 q hq; exact ⟨sa, vk_R.same (u := U) rfl hs⟩⟩
def exPc (As : List Value) (D : va_G) (w : va_W) (tys : List (ClassId × FieldType)) (A : Nat → Prop) : Array Value → State → Prop := fun v U => rdPc As D w tys v U ∧ EX A U
abbrev exQ : Array Value → State → Outcome → State → Prop := va_Qi (fun _ _ => False) (fun (_ : Unit) _ => True) (fun _ => False)
abbrev exX (E : String) : String → State → State → Prop := vx_X (fun _ : Unit => True) (fun E' _ _ => E' = E) (fun _ => False)
theorem ex_blind {As : List Value} {D : va_G} {w : va_W} {tys : List (ClassId × FieldType)} {A : Nat → Prop} : FrameBlind (exPc As D w tys A) := fun a U g mk q => ⟨⟨q.1.1, q.1.2.1, q.1.2.2.calling g mk a⟩, q.2.calling g mk a⟩
section ExRule
variable {p : Program} {l : Launch} {e : Env} {R : Room} {s : State} {m : MethodId} {args : Array Value} {below : List Frame} {meth : Method} {c : Code} {pc : Nat} {ls : Array Slot} {rest : List Value} {cc : ByteArray}
theorem ex_throw {E : String} {ik is ic : Nat} {A : Nat → Prop} {L : List Cond} {hm : Nat} (q : Nat × String) (hx : p.tables.exec = Jvm.exec) (hb : c.code = cc) (hst : l.stackTraces = false) (hown : s.vm.findClass RX4 = some m.cls) (hts : ∀ w ∈ L, w.before args s = true) (hEX : EX A s) (ht : ∀ x ∈ c.exceptionTable.toList, False)
    (hq : q ∈ exT) (hqi : q.1 = is) (hE : Bundle.fit E = true) (hk : Cond.classLink RX4 ik E ∈ L) (hi : Cond.initialized E ∈ L) (hg : ∀ w ∈ (vx_atS RX4 ic E exN).filter goodWord, w ∈ L) (hng : ∀ w ∈ (vx_atS RX4 ic E exN).filter (fun w => !goodWord w), w ∈ exL)
    (hot : ∀ w ∈ Cond.classLink RX4 ik E :: Cond.initialized E :: vx_atS RX4 ic E exN, vx_ot w = true) (hsize : ls.size = hm) (hml : c.maxLocals = hm)
    (d0 : decode cc pc = .ok (.new ik, 3)) (d3 : decode cc (pc + 3) = .ok (.dup, 1)) (d4 : decode cc (pc + 4) = .ok (.ldc is, 2)) (d6 : decode cc (pc + 6) = .ok (.invokespecial ic, 3)) (d9 : decode cc (pc + 9) = .ok (.athrow, 1))
    (hRf : 5 < R.frames) (hRl : (rest.map fun v => v.category).sum + 82 ≤ R.locals) (hRc : 1 ≤ R.cells) (hRs : 6 ≤ R.slots) (hlocks : meth.locks = false) :
    W p l e R s m args below meth c s.heap [] 0 0 (vx_MQ below exQ (exX E) args s 1 6 (fun _ => False)) (F0 m pc ls rest) := by
  obtain ⟨sa, hsa⟩ := hEX.2.2.2 q hq
  obtain ⟨k, tx⟩ := q
  subst hqi
  exact vx_throwS hx hb hst (own := RX4) (cls := E) (names := exN) hown hE (by decide +kernel) (hts _ hk) (hts _ hi) hsa (vx_hat (fun w hw => hts w (hg w hw)) hng (fun w hw => dc_use (exL_dc w hw) (hEX.1 w hw))) hot hEX.2.1 hEX.2.2.1 va_S.rf (hsize.trans hml.symm) d0 d3 d4 d6 d9 (fun x hx => (ht x hx).elim) hRf hRl (by omega) (by omega) hlocks
    (fun t h1 h2 h3 => ⟨(), trivial, rfl, h2, fun z hz _ => h3 z hz⟩) (fun z hz => nomatch hz) (by omega) (by omega)
end ExRule
