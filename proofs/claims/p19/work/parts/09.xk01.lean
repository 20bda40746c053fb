theorem lkmh_176 : (List.range' 176 36).all (fun i => Nat.beq i 205 || nkm i) = true := by decide +kernel
theorem lkmg_176 : ∀ i, 176 ≤ i → i < 212 → (i = 205 ∨ lkm i = true) := fun i h1 h2 => by
  have h := List.all_eq_true.mp lkmh_176 i (List.mem_range'_1.mpr ⟨h1, by omega⟩)
  simp only [Bool.or_eq_true] at h
  exact h.imp neq (nkm_ok (by omega))
theorem lkmh_212 : (List.range' 212 32).all (fun i => Nat.beq i 205 || nkm i) = true := by decide +kernel
theorem lkmg_212 : ∀ i, 212 ≤ i → i < 244 → (i = 205 ∨ lkm i = true) := fun i h1 h2 => by
  have h := List.all_eq_true.mp lkmh_212 i (List.mem_range'_1.mpr ⟨h1, by omega⟩)
  simp only [Bool.or_eq_true] at h
  exact h.imp neq (nkm_ok (by omega))
theorem lkmh_244 : (List.range' 244 23).all (fun i => Nat.beq i 205 || nkm i) = true := by decide +kernel
theorem lkmg_244 : ∀ i, 244 ≤ i → i < 267 → (i = 205 ∨ lkm i = true) := fun i h1 h2 => by
  have h := List.all_eq_true.mp lkmh_244 i (List.mem_range'_1.mpr ⟨h1, by omega⟩)
  simp only [Bool.or_eq_true] at h
  exact h.imp neq (nkm_ok (by omega))
theorem lkmh_267 : (List.range' 267 23).all (fun i => Nat.beq i 205 || nkm i) = true := by decide +kernel
theorem lkmg_267 : ∀ i, 267 ≤ i → i < 290 → (i = 205 ∨ lkm i = true) := fun i h1 h2 => by
  have h := List.all_eq_true.mp lkmh_267 i (List.mem_range'_1.mpr ⟨h1, by omega⟩)
  simp only [Bool.or_eq_true] at h
  exact h.imp neq (nkm_ok (by omega))
