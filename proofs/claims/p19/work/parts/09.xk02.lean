theorem lkmh_290 : (List.range' 290 25).all (fun i => Nat.beq i 205 || nkm i) = true := by decide +kernel
theorem lkmg_290 : ∀ i, 290 ≤ i → i < 315 → (i = 205 ∨ lkm i = true) := fun i h1 h2 => by
  have h := List.all_eq_true.mp lkmh_290 i (List.mem_range'_1.mpr ⟨h1, by omega⟩)
  simp only [Bool.or_eq_true] at h
  exact h.imp neq (nkm_ok (by omega))
theorem lkmh_315 : (List.range' 315 1).all (fun i => Nat.beq i 205 || nkm i) = true := by decide +kernel
theorem lkmg_315 : ∀ i, 315 ≤ i → i < 316 → (i = 205 ∨ lkm i = true) := fun i h1 h2 => by
  have h := List.all_eq_true.mp lkmh_315 i (List.mem_range'_1.mpr ⟨h1, by omega⟩)
  simp only [Bool.or_eq_true] at h
  exact h.imp neq (nkm_ok (by omega))
