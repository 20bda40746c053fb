theorem lkmh_0 : (List.range' 0 32).all (fun i => Nat.beq i 205 || nkm i) = true := by decide +kernel
theorem lkmg_0 : ∀ i, 0 ≤ i → i < 32 → (i = 205 ∨ lkm i = true) := fun i h1 h2 => by
  have h := List.all_eq_true.mp lkmh_0 i (List.mem_range'_1.mpr ⟨h1, by omega⟩)
  simp only [Bool.or_eq_true] at h
  exact h.imp neq (nkm_ok (by omega))
theorem lkmh_32 : (List.range' 32 53).all (fun i => Nat.beq i 205 || nkm i) = true := by decide +kernel
theorem lkmg_32 : ∀ i, 32 ≤ i → i < 85 → (i = 205 ∨ lkm i = true) := fun i h1 h2 => by
  have h := List.all_eq_true.mp lkmh_32 i (List.mem_range'_1.mpr ⟨h1, by omega⟩)
  simp only [Bool.or_eq_true] at h
  exact h.imp neq (nkm_ok (by omega))
theorem lkmh_85 : (List.range' 85 50).all (fun i => Nat.beq i 205 || nkm i) = true := by decide +kernel
theorem lkmg_85 : ∀ i, 85 ≤ i → i < 135 → (i = 205 ∨ lkm i = true) := fun i h1 h2 => by
  have h := List.all_eq_true.mp lkmh_85 i (List.mem_range'_1.mpr ⟨h1, by omega⟩)
  simp only [Bool.or_eq_true] at h
  exact h.imp neq (nkm_ok (by omega))
theorem lkmh_135 : (List.range' 135 41).all (fun i => Nat.beq i 205 || nkm i) = true := by decide +kernel
theorem lkmg_135 : ∀ i, 135 ≤ i → i < 176 → (i = 205 ∨ lkm i = true) := fun i h1 h2 => by
  have h := List.all_eq_true.mp lkmh_135 i (List.mem_range'_1.mpr ⟨h1, by omega⟩)
  simp only [Bool.or_eq_true] at h
  exact h.imp neq (nkm_ok (by omega))
