theorem nw_tbl : ∀ w ∈ nwL, w ∈ lw_tbl := by decide +kernel
theorem exL_tbl : ∀ w ∈ exL, w ∈ lw_tbl := by decide +kernel
theorem nw_of {w : Cond} (h1 : isNW w = true) {A : Array Value} {U : State} (h : w.before A U = true) : va_Nw w U := by
  cases w <;> first | exact va_Nw.of rfl h | cases h1
theorem dc_of {w : Cond} (h1 : isDC w = true) {A : Array Value} {U : State} (h : w.before A U = true) : va_Nw w U := by
  cases w <;> first | exact va_Nw.of rfl h | cases h1
theorem exT_tbl : ∀ q ∈ exT, Cond.stringRef RX4 q.1 q.2 ∈ lw_tbl := by decide +kernel
theorem start_NW {args : Array Value} {s : State} (hts : ∀ w ∈ lw_tbl, w.before args s = true) : NW s := fun w hw => nw_of (List.all_eq_true.mp nwL_is w hw) (hts w (nw_tbl w hw))
theorem exT_ex : ∀ q ∈ exT, Cond.exactly (.string RX4 q.1) "java/lang/String" ∈ flatC (Jvm.Cond.and given_1 narrow_1) := by decide +kernel
theorem start_EX {args : Array Value} {s : State} (hts : ∀ w ∈ lw_tbl, w.before args s = true) (hgv : (Jvm.Cond.and given_1 narrow_1).before args s = true) : EX2 (fun q : Nat => s.heap.size ≤ q) s := by
  have hs := flat_of_before _ hgv
  have hA : ∀ a : Nat, a < s.heap.size → ¬ (fun q : Nat => s.heap.size ≤ q) a := fun a h z => absurd h (Nat.not_lt.mpr z)
  refine ⟨⟨fun w hw => dc_of (exL_dc w hw) (hts w (exL_tbl w hw)), ?_, ?_, ?_⟩, ?_, ?_, ?_⟩
  · exact vx_Zqof (args := args) (hts _ (by decide +kernel)) (hts _ (by decide +kernel)) (hs _ (by decide +kernel)) hA
  · exact vx_Zqof (args := args) (hts _ (by decide +kernel)) (hts _ (by decide +kernel)) (hs _ (by decide +kernel)) hA
  · intro q hq
    have h9 : (Cond.exactly (.string RX4 q.1) "java/lang/String").before args s = true := hs _ (exT_ex q hq)
    obtain ⟨a, c, cell, k, h1, -⟩ := Cond.exactly_spec h9
    exact ⟨a, vk_R.of (A := args) (hts _ (exT_tbl q hq)) h1⟩
  · exact va_Nc.of (args := args) (hs _ (by decide +kernel))
  · exact va_Nc.of (args := args) (hs _ (by decide +kernel))
  · exact va_Nc.of (args := args) (hs _ (by decide +kernel))
theorem lwI_0 : lwI s0 s0 0 0 0 := by
  refine ⟨⟨⟨rfl, rfl, by omega, fun j hj => absurd hj (Nat.not_lt_zero j)⟩, fun j hj => ⟨30, by omega, rfl⟩, rfl, rfl, fun j hj => ⟨7, by omega, by show (-2 : Int32) = nI 7 - 9; decide⟩, fun j hj => Or.inl rfl⟩, rfl, by omega⟩
