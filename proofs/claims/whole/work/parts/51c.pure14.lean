theorem mean_cmp_all : ∀ m : Fin 2161, Op.cmpValue (FP.dcmp (FP.ddiv (FP.i2d (nI m.val)) 4630263366890291200) (FP.ddiv (FP.i2d (nI m.val)) 4630263366890291200)) .l = 0 := by decide +kernel
theorem mean_cmp {σ : St} (h : okI (σ 3)) : Op.cmpValue (FP.dcmp (mnF σ) (mnF σ)) .l = 0 := by
  obtain ⟨m, hm, e⟩ := sumF_ok h 36 (by omega)
  unfold mnF
  rw [e]
  exact mean_cmp_all ⟨m, by omega⟩
