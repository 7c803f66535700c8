def adr (l : List Nat) : Nat → Nat := fun k => l.getD k 0
/-- every new thing's rows -/
def s0 : St := fun k _ => if k = 1 then -2 else if k = 3 then 30 else if k = 16 then -1 else 0
def s5 : St := fun k _ => if k = 16 then -1 else 0
abbrev iniQ (k0 q1 : Nat) (D : va_G) (w : (Nat → Nat) → va_W) (A : Nat → Prop) : Array Value → State → Outcome → State → Prop := va_Qv (fun _ : Nat → Nat => True) (fun a t => a k0 = q1 ∧ va_P D vwCl (w a) t.heap ∧ va_D A (w a)) A
theorem ofC_z {c5 c6 c7 c8 c9 c10 c11 c12 c13 : Nat → Int32} (h5 : ∀ j, c5 j = 0) (h6 : ∀ j, c6 j = 0) (h7 : ∀ j, c7 j = 0) (h8 : ∀ j, c8 j = 0) (h9 : ∀ j, c9 j = 0) (h10 : ∀ j, c10 j = 0) (h11 : ∀ j, c11 j = 0) (h12 : ∀ j, c12 j = 0) (h13 : ∀ j, c13 j = 0) (k : Nat) : 0 = ofC c5 c6 c7 c8 c9 c10 c11 c12 c13 k := by
  unfold ofC
  rw [h5, h6, h7, h8, h9, h10, h11, h12, h13, if_neg (by decide : ¬ (0 : Int32) = 2)]
  repeat (first | rfl | (split; · rfl))
section IniRules
variable {p : Program} {l : Launch} {e : Env} {R : Room} {s : State} {m : MethodId} {args : Array Value} {below : List Frame} {meth : Method} {c : Code} {H : Heap} {locs : List Loc} {cells slots : Nat} {Q : State → Prop}
variable {a : Array Value} {pc : Nat} {ls : Array Slot} {st0 rest : List Value} {mc ms : Nat} {A0 : Nat → Prop} {H0 : Heap}
theorem ini_v {D : va_G} {ws wc wr : va_W} {w : (Nat → Nat) → va_W} {k0 q1 : Nat} (hr : va_Run p l e R s m args below meth c H locs cells slots mc ms (F0 m pc ls st0) rest (iniQ k0 q1 D w (va_A wc H.size) a) (va_A wc H.size)) (hP : va_P D vwCl ws H) (hD : va_D A0 ws) (hS : va_S A0 H0 H locs) (hA : ∀ q, H0.size ≤ q → A0 q) (isC isR : List Nat) (hC : isC.map (fun i => ws[i]?) = wc.map some) (hR : isR.map (fun i => ws[i]?) = wr.map some) (hn : va_nd isR = true) (hdis : ∀ i ∈ isR, i ∉ isC)
    (kk : ∀ (a1 : Nat → Nat) (H1 : Heap) (locs1 : List Loc), a1 k0 = q1 → va_P D vwCl (wr ++ w a1) H1 → va_D A0 (wr ++ w a1) → va_S A0 H0 H1 locs1 → W p l e R s m args below meth c H1 locs1 (cells + mc) (slots + ms) Q (F0 m (pc + 3) ls rest)) : W p l e R s m args below meth c H locs cells slots Q (F0 m pc ls st0) := by
  have hF := va_free (wc := wc) hD hS hA isC hC
  refine va_callv hr hS (fun q _ h => hF q h) hF (fun u t H1 locs1 ht hvm h1 hB hz hk hS1 => ?_)
  obtain ⟨ha, hP1, hD1⟩ := hB
  rw [ht] at hP1
  obtain ⟨k1, k2⟩ := va_join hP hD isC isR hC hR hn hdis hk hF hP1 hD1
  exact kk u H1 locs1 ha k1 k2 hS1
theorem ret_ini {cc : ByteArray} {D : va_G} {w : (Nat → Nat) → va_W} {A : Nat → Prop} {k0 q1 : Nat} (a1 : Nat → Nat) (ha : a1 k0 = q1) (hx : p.tables.exec = Jvm.exec) (hb : c.code = cc) (hr : meth.sig.returnType = none) (hlocks : meth.locks = false) (hP : va_P D vwCl (w a1) H) (hD : va_D A (w a1)) (hS : va_S A s.heap H locs) (hdg : decode cc pc = .ok (.return_, 1)) : W p l e R s m args below meth c H locs cells slots (MQ below (iniQ k0 q1 D w A) args s cells slots A) (F0 m pc ls []) :=
  W.vret hx hb hr (fun t ht hW => ⟨⟨a1, rfl, trivial, ha, by rw [ht]; exact hP, hD⟩, hS.F ht⟩) hS.2.2 hdg hlocks
end IniRules
