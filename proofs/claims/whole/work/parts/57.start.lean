theorem my_swP {D : va_G} {cl : List vw_C} {x y z : va_W} {H : Heap} (h : va_P D cl ((x ++ y) ++ z) H) : va_P D cl ((x ++ z) ++ y) H := (h.left.left.app h.right).app h.left.right
theorem my_swD {A : Nat → Prop} {x y z : va_W} (h : va_D A ((x ++ y) ++ z)) : va_D A ((x ++ z) ++ y) := by
  have xz : ∀ (i j : Nat) (p q : Nat × va_E), x[i]? = some p → z[j]? = some q → p.1 ≠ q.1 := fun i j p q hp hq => by
    refine h.dis (i := i) ?_ hq
    rw [List.getElem?_append_left (List.getElem?_eq_some_iff.mp hp).1]; exact hp
  have yz : ∀ (i j : Nat) (p q : Nat × va_E), y[i]? = some p → z[j]? = some q → p.1 ≠ q.1 := fun i j p q hp hq => by
    refine h.dis (i := x.length + i) ?_ hq
    rw [List.getElem?_append_right (by omega), show x.length + i - x.length = i by omega]; exact hp
  refine (h.left.left.app h.right xz).app h.left.right (fun i j p q hp hq => ?_)
  rcases List.mem_append.mp (List.mem_of_getElem? hp) with q1 | q1
  · obtain ⟨k, hk⟩ := List.getElem?_of_mem q1
    exact h.left.dis hk hq
  · obtain ⟨k, hk⟩ := List.getElem?_of_mem q1
    exact fun e => yz j k q p hq hk e.symm
theorem arr_int {args : Array Value} {s : State} (h : (Cond.arrayClass .int).before args s = true) : ∃ cA, ArrOfT s cA .int ∧ va_RA s cA .int := by
  obtain ⟨cA, kA, comp, h1, h2, h3⟩ := Cond.arrayClass_spec h
  exact ⟨cA, fun n z => ⟨fun k h => (by cases h), kA, h2, comp, h3⟩, h1⟩
theorem arr_long {args : Array Value} {s : State} (h : (Cond.arrayClass .long).before args s = true) : ∃ cA, ArrOfT s cA .long ∧ va_RA s cA .long := by
  obtain ⟨cA, kA, comp, h1, h2, h3⟩ := Cond.arrayClass_spec h
  exact ⟨cA, fun n z => ⟨fun k h => (by cases h), kA, h2, comp, h3⟩, h1⟩
section StartRules
variable {p : Program} {l : Launch} {e : Env} {R : Room} {s : State} {m : MethodId} {args : Array Value} {below : List Frame} {meth : Method} {c : Code} {H : Heap} {locs : List Loc} {cells slots : Nat} {Q : State → Prop}
variable {a : Array Value} {pc : Nat} {ls : Array Slot} {st0 rest : List Value} {mc ms : Nat} {A0 : Nat → Prop} {H0 : Heap}
theorem sr_ini {D : va_G} {x y : va_W} {w : (Nat → Nat) → va_W} {k0 q1 : Nat} (hr : va_Run p l e R s m args below meth c H locs cells slots mc ms (F0 m pc ls st0) rest (iniQ k0 q1 D w (va_A y H.size) a) (va_A y H.size)) (hP : va_P D vwCl (x ++ y) H) (hD : va_D A0 (x ++ y)) (hS : va_S A0 H0 H locs) (hA : ∀ q, H0.size ≤ q → A0 q)
    (kk : ∀ (a1 : Nat → Nat) (H1 : Heap) (locs1 : List Loc), a1 k0 = q1 → va_P D vwCl (x ++ w a1) H1 → va_D A0 (x ++ w a1) → va_S A0 H0 H1 locs1 → W p l e R s m args below meth c H1 locs1 (cells + mc) (slots + ms) Q (F0 m (pc + 3) ls rest)) : W p l e R s m args below meth c H locs cells slots Q (F0 m pc ls st0) := by
  have hF := all_free hD.right hS hA
  refine va_callv hr hS (fun q _ h => hF q h) hF (fun u t H1 locs1 ht hvm h1 hB hz hk hS1 => ?_)
  obtain ⟨ha, hP1, hD1⟩ := hB
  rw [ht] at hP1
  obtain ⟨k1, k2⟩ := side_r hP hD hF hk hP1 hD1
  exact kk u H1 locs1 ha k1 k2 hS1
end StartRules
set_option maxHeartbeats 4000000 in
set_option maxRecDepth 100000 in
theorem whole_start {p : Program} {e : Env} {s : State} {m : MethodId} {below : List Frame} {meth : Method} {c : Code} (l : Launch) (hflags : l.flags = flags0) {b L : Nat} {xs : Nat → Int32} (hL : L ≤ 3072) (C0 : lw_At p s m meth c b L xs) : W p l e room_1 s m #[Value.ref b] below meth c s.heap [] 0 0 (lw_Z below #[Value.ref b] s) (entryFrame m ([Value.ref b] : List Value).toArray 9) := by
  obtain ⟨hx, hb, hr, hml, hown, htt, hX, hbl, hlocks, hgv⟩ := id C0
  obtain ⟨A, hAe⟩ : ∃ A : Nat → Prop, A = (fun q : Nat => s.heap.size ≤ q) := ⟨_, rfl⟩
  have hA : ∀ q : Nat, s.heap.size ≤ q → A q := fun q h => by rw [hAe]; exact h
  have hbA : ¬ A b := by rw [hAe]; exact Nat.not_le.mpr hbl
  have hts : ∀ w ∈ wsL_law, w.before #[Value.ref b] s = true := fun w hw => htt w (wsL_law_in w hw)
  have hst : l.stackTraces = false := by first | (unfold Launch.stackTraces; rw [hflags]; rfl) | (simp [Launch.stackTraces, hflags]; done)
  obtain ⟨k0, i0, hk0⟩ := u_known (C := RX0) (T := TX0) (N := 10) (n := 10) htt inX0 (htt (.instantiable RX0 10) (by decide +kernel))
  obtain ⟨k1, i1, hk1⟩ := u_known (C := RX1) (T := TX1) (N := 2) (n := 2) htt inX1 (htt (.instantiable RX1 2) (by decide +kernel))
  obtain ⟨k2, i2, hk2⟩ := u_known (C := RX2) (T := TX2) (N := 6) (n := 6) htt inX2 (htt (.instantiable RX2 6) (by decide +kernel))
  obtain ⟨k3, i3, hk3⟩ := u_known (C := RX3) (T := TX3) (N := 3) (n := 3) htt inX3 (htt (.instantiable RX3 3) (by decide +kernel))
  obtain ⟨k4, i4, hk4⟩ := u_known (C := RX4) (T := TX4) (N := 3) (n := 3) htt inX4 (htt (.instantiable RX4 3) (by decide +kernel))
  obtain ⟨k5, i5, hk5⟩ := u_known (C := RX5) (T := TX5) (N := 8) (n := 8) htt inX5 (htt (.instantiable RX5 8) (by decide +kernel))
  obtain ⟨k6, i6, hk6⟩ := u_known (C := RX6) (T := TX6) (N := 8) (n := 8) htt inX6 (htt (.instantiable RX6 8) (by decide +kernel))
  obtain ⟨D, hKc⟩ : ∃ D : va_G, ∀ (k : Nat) (q : vw_C), vwCl[k]? = some q → u_Kn s q.1 q.2.1 q.2.2 (D.1 k) (D.2 k) := by
    refine ⟨(fun k => [k0, k1, k2, k3, k4, k5, k6].getD k k0, fun k => [i0, i1, i2, i3, i4, i5, i6].getD k i0), ?_⟩
    intro k q hq
    match k, hq with
    | 0, hq => cases hq; exact hk0
    | 1, hq => cases hq; exact hk1
    | 2, hq => cases hq; exact hk2
    | 3, hq => cases hq; exact hk3
    | 4, hq => cases hq; exact hk4
    | 5, hq => cases hq; exact hk5
    | 6, hq => cases hq; exact hk6
    | k + 7, hq => simp [vwCl] at hq
  obtain ⟨cI, hcI⟩ := arr_int (htt (.arrayClass .int) (by decide +kernel))
  obtain ⟨cJ, hcJ⟩ := arr_long (htt (.arrayClass .long) (by decide +kernel))
  have hK : KK D [(cI, .int), (cJ, .long)] s := by
    refine ⟨⟨hKc, fun k q hq => ?_⟩, start_NW htt⟩
    match k, hq with
    | 0, hq => cases hq; exact hcI
    | 1, hq => cases hq; exact hcJ
    | k + 2, hq => simp at hq
  have hEX : EX2 A s := by rw [hAe]; exact start_EX htt hgv
  have hS : va_S A s.heap s.heap [] := va_S.rf
  have hP : va_P D vwCl [] s.heap := fun k q h => by simp at h
  have hD : va_D A [] := ⟨fun i j p q h => by simp at h, fun k q h => by simp at h⟩
  have hl := lv_entry ([.ref b]) (n := 9) (Nat.le_of_ble_eq_true rfl)
  rw [lg_entry_eq]
  generalize (lg_sl ([.ref b]) ++ List.replicate (9 - (lg_sl ([.ref b])).length) Slot.unset).toArray = ls at hl ⊢
  have hl : lv_has ls 9 [(0, .ref b)] := hl
  have C : lwC p l s m #[Value.ref b] c A D cI cJ b L xs := ⟨hx, hb, hml, hown, hts, hK, hEX, hX, hbl, hbA, hst, hA, hL⟩
  have hb : c.code = cL_law := hb
  refine va_new (D := D) (ci := 4) (fs := [.null, .null, .null]) (C := RX4) (T := TX4) (N := 3) hx hb hts inlX4 tyX4 tyX4_ok hown (hts (.classLink RL 8 RX4) (by decide +kernel)) (hts (.instantiable RX4 3) (by decide +kernel)) (hts (.initialized RX4) (by decide +kernel)) hK.1 hP hD hS hA rfl (fun j hj => by rcases (show j = 0 ∨ j = 1 ∨ j = 2 by omega) with rfl | rfl | rfl <;> rfl) (Nat.le_of_ble_eq_true rfl) (Nat.le_of_ble_eq_true rfl) dL_law_0 (fun q1 H hP hD hS => ?_)
  refine lv_dup hx hb dL_law_3 rfl ?_
  refine sr_ini (va_runI (As := []) (rest := [.ref q1]) ⟨hx, hb, hml, hown, hts⟩ (M_X4_init l D cI q1 _) (cwI 0 hts gL_law_X4_init rfl rfl rfl (hts (.initialized RX4) (by decide +kernel)) (hts (.methodLink RL 64 yX4_init) (by decide +kernel)) (hts (.instanceMethod yX4_init) (by decide +kernel)) rfl (by decide +kernel) ⟨Nat.le_of_ble_eq_true rfl, Nat.le_of_ble_eq_true rfl⟩) (wrS0 hK hP.right hD.right [0] rfl) rfl rfl hl.1 rfl (lv_room (Nat.le_of_ble_eq_true rfl)) dL_law_4 ⟨Nat.le_of_ble_eq_true rfl, Nat.le_of_ble_eq_true rfl⟩) hP hD hS hA (fun α H locs ha hP1 hD1 hS1 => ?_)
  subst ha
  have hP := hP1
  have hD := hD1
  have hS := hS1
  refine lv_astore_n (lv' := [(1, .ref (α 0)), (0, .ref b)]) hx hb dL_law_7 rfl hl (by decide) rfl (fun ls hl => ?_)
  refine va_new (D := D) (ci := 6) (fs := [.int 0, .null, .null, .int 0, .null, .null, .null, .null]) (C := RX6) (T := TX6) (N := 8) hx hb hts inlX6 tyX6 tyX6_ok hown (hts (.classLink RL 65 RX6) (by decide +kernel)) (hts (.instantiable RX6 8) (by decide +kernel)) (hts (.initialized RX6) (by decide +kernel)) hK.1 hP hD hS hA rfl (fun j hj => by rcases (show j = 0 ∨ j = 1 ∨ j = 2 ∨ j = 3 ∨ j = 4 ∨ j = 5 ∨ j = 6 ∨ j = 7 by omega) with rfl | rfl | rfl | rfl | rfl | rfl | rfl | rfl <;> rfl) (Nat.le_of_ble_eq_true rfl) (Nat.le_of_ble_eq_true rfl) dL_law_8 (fun q2 H hP hD hS => ?_)
  refine lv_dup hx hb dL_law_11 rfl ?_
  refine sr_ini (va_runI (As := []) (rest := [.ref q2]) ⟨hx, hb, hml, hown, hts⟩ (M_X6_init l D cI q2 _) (cwI 0 hts gL_law_X6_init rfl rfl rfl (hts (.initialized RX6) (by decide +kernel)) (hts (.methodLink RL 67 yX6_init) (by decide +kernel)) (hts (.instanceMethod yX6_init) (by decide +kernel)) rfl (by decide +kernel) ⟨Nat.le_of_ble_eq_true rfl, Nat.le_of_ble_eq_true rfl⟩) (wrS0 hK hP.right hD.right [0] rfl) rfl rfl hl.1 rfl (lv_room (Nat.le_of_ble_eq_true rfl)) dL_law_12 ⟨Nat.le_of_ble_eq_true rfl, Nat.le_of_ble_eq_true rfl⟩) hP hD hS hA (fun β H locs ha hP1 hD1 hS1 => ?_)
  subst ha
  have hP := hP1
  have hD := hD1
  have hS := hS1
  refine lv_astore_n (lv' := [(2, .ref (β 0)), (1, .ref (α 0)), (0, .ref b)]) hx hb dL_law_15 rfl hl (by decide) rfl (fun ls hl => ?_)
  refine lv_iconst (v := 1) hx hb dL_law_16 (by decide) ?_
  refine va_newa (atype := .long) (ty := .long) hx hb (hts (.arrayClass .long) (by decide +kernel)) rfl hK.1 hP hD hS hA (a0 := (1, .inr (.inl (fun _ => 0)))) (fun cA => rfl) (by decide) rfl (Nat.le_of_ble_eq_true rfl) (Nat.le_of_ble_eq_true rfl) (Nat.le_of_ble_eq_true rfl) dL_law_17 (fun q3 cA H hK1 hP hD hS => ?_)
  have h1 : s.vm.findClass ("[" ++ (FieldType.long).toString) = some cA := (hK1.2 2 (cA, .long) rfl).2
  have h2 : s.vm.findClass ("[" ++ (FieldType.long).toString) = some cJ := (hK1.2 1 (cJ, .long) rfl).2
  have h3 : cA = cJ := Option.some.inj (h1.symm.trans h2)
  subst h3
  refine lv_astore_n (lv' := [(3, .ref q3), (2, .ref (β 0)), (1, .ref (α 0)), (0, .ref b)]) hx hb dL_law_19 rfl hl (by decide) rfl (fun ls hl => ?_)
  refine lv_iconst (v := 0) hx hb dL_law_20 (by decide) ?_
  refine lv_istore (lv' := [(4, .int 0), (3, .ref q3), (2, .ref (β 0)), (1, .ref (α 0)), (0, .ref b)]) hx hb dL_law_21 hl (by decide) rfl (fun ls hl => ?_)
  have hP : va_P D vwCl (wAll α (fun k => α (k + 4)) (fun k => α (k + 20)) β (fun k => β (k + 5)) (fun k => β (k + 9)) cI cA q3 s0 s0 s0 s5 (fun _ => 0)) H := my_swP hP
  have hD : va_D A (wAll α (fun k => α (k + 4)) (fun k => α (k + 20)) β (fun k => β (k + 5)) (fun k => β (k + 9)) cI cA q3 s0 s0 s0 s5 (fun _ => 0)) := my_swD hD
  refine W.widen (k := 60 + 23 * 0) (n := 1000 + 200 * 0) (Nat.le_of_ble_eq_true rfl) (Nat.le_of_ble_eq_true rfl) ?_
  refine law_loop C α (fun k => α (k + 4)) (fun k => α (k + 20)) β (fun k => β (k + 5)) (fun k => β (k + 9)) q3 ?_ 601 0 0 0 0 s0 s0 s0 s5 (fun _ => 0) (by omega) (by omega) (by omega) lwI_0 H _ hP hD hS ls (lv_sub hl [4, 3, 2, 1, 0] rfl)
  intro H locs ls hS
  refine lv_iconst (v := 1) hx hb dL_law_1226 (by decide) ?_
  refine va_forget (fun q hq => by have := hS.2.2 q hq; rw [hAe] at this; exact this) ?_
  refine W.widen (k := room_1.cells) (n := room_1.slots) (Nat.le_of_ble_eq_true rfl) (Nat.le_of_ble_eq_true rfl) ?_
  exact W.base (lw_ret (Drawn.sameBut.refl s.drawn lw_cs) hx hb hr hlocks dL_law_1227)
