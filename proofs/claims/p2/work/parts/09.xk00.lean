theorem lkmh_0 : (List.range' 0 10).all (fun i => Nat.beq i 205 || nkm i) = true := by decide +kernel
theorem lkmg_0 : ∀ i, 0 ≤ i → i < 10 → (i = 205 ∨ lkm i = true) := fun i h1 h2 => by
  have h := List.all_eq_true.mp lkmh_0 i (List.mem_range'_1.mpr ⟨h1, by omega⟩)
  simp only [Bool.or_eq_true] at h
  exact h.imp neq (nkm_ok (by omega))
theorem lkmh_10 : (List.range' 10 8).all (fun i => Nat.beq i 205 || nkm i) = true := by decide +kernel
theorem lkmg_10 : ∀ i, 10 ≤ i → i < 18 → (i = 205 ∨ lkm i = true) := fun i h1 h2 => by
  have h := List.all_eq_true.mp lkmh_10 i (List.mem_range'_1.mpr ⟨h1, by omega⟩)
  simp only [Bool.or_eq_true] at h
  exact h.imp neq (nkm_ok (by omega))
theorem lkmh_18 : (List.range' 18 7).all (fun i => Nat.beq i 205 || nkm i) = true := by decide +kernel
theorem lkmg_18 : ∀ i, 18 ≤ i → i < 25 → (i = 205 ∨ lkm i = true) := fun i h1 h2 => by
  have h := List.all_eq_true.mp lkmh_18 i (List.mem_range'_1.mpr ⟨h1, by omega⟩)
  simp only [Bool.or_eq_true] at h
  exact h.imp neq (nkm_ok (by omega))
theorem lkmh_25 : (List.range' 25 5).all (fun i => Nat.beq i 205 || nkm i) = true := by decide +kernel
theorem lkmg_25 : ∀ i, 25 ≤ i → i < 30 → (i = 205 ∨ lkm i = true) := fun i h1 h2 => by
  have h := List.all_eq_true.mp lkmh_25 i (List.mem_range'_1.mpr ⟨h1, by omega⟩)
  simp only [Bool.or_eq_true] at h
  exact h.imp neq (nkm_ok (by omega))
theorem lkmh_30 : (List.range' 30 8).all (fun i => Nat.beq i 205 || nkm i) = true := by decide +kernel
theorem lkmg_30 : ∀ i, 30 ≤ i → i < 38 → (i = 205 ∨ lkm i = true) := fun i h1 h2 => by
  have h := List.all_eq_true.mp lkmh_30 i (List.mem_range'_1.mpr ⟨h1, by omega⟩)
  simp only [Bool.or_eq_true] at h
  exact h.imp neq (nkm_ok (by omega))
theorem lkmh_38 : (List.range' 38 13).all (fun i => Nat.beq i 205 || nkm i) = true := by decide +kernel
theorem lkmg_38 : ∀ i, 38 ≤ i → i < 51 → (i = 205 ∨ lkm i = true) := fun i h1 h2 => by
  have h := List.all_eq_true.mp lkmh_38 i (List.mem_range'_1.mpr ⟨h1, by omega⟩)
  simp only [Bool.or_eq_true] at h
  exact h.imp neq (nkm_ok (by omega))
theorem lkmh_51 : (List.range' 51 12).all (fun i => Nat.beq i 205 || nkm i) = true := by decide +kernel
theorem lkmg_51 : ∀ i, 51 ≤ i → i < 63 → (i = 205 ∨ lkm i = true) := fun i h1 h2 => by
  have h := List.all_eq_true.mp lkmh_51 i (List.mem_range'_1.mpr ⟨h1, by omega⟩)
  simp only [Bool.or_eq_true] at h
  exact h.imp neq (nkm_ok (by omega))
theorem lkmh_63 : (List.range' 63 20).all (fun i => Nat.beq i 205 || nkm i) = true := by decide +kernel
theorem lkmg_63 : ∀ i, 63 ≤ i → i < 83 → (i = 205 ∨ lkm i = true) := fun i h1 h2 => by
  have h := List.all_eq_true.mp lkmh_63 i (List.mem_range'_1.mpr ⟨h1, by omega⟩)
  simp only [Bool.or_eq_true] at h
  exact h.imp neq (nkm_ok (by omega))
theorem lkmh_83 : (List.range' 83 13).all (fun i => Nat.beq i 205 || nkm i) = true := by decide +kernel
theorem lkmg_83 : ∀ i, 83 ≤ i → i < 96 → (i = 205 ∨ lkm i = true) := fun i h1 h2 => by
  have h := List.all_eq_true.mp lkmh_83 i (List.mem_range'_1.mpr ⟨h1, by omega⟩)
  simp only [Bool.or_eq_true] at h
  exact h.imp neq (nkm_ok (by omega))
theorem lkmh_96 : (List.range' 96 20).all (fun i => Nat.beq i 205 || nkm i) = true := by decide +kernel
theorem lkmg_96 : ∀ i, 96 ≤ i → i < 116 → (i = 205 ∨ lkm i = true) := fun i h1 h2 => by
  have h := List.all_eq_true.mp lkmh_96 i (List.mem_range'_1.mpr ⟨h1, by omega⟩)
  simp only [Bool.or_eq_true] at h
  exact h.imp neq (nkm_ok (by omega))
theorem lkmh_116 : (List.range' 116 11).all (fun i => Nat.beq i 205 || nkm i) = true := by decide +kernel
theorem lkmg_116 : ∀ i, 116 ≤ i → i < 127 → (i = 205 ∨ lkm i = true) := fun i h1 h2 => by
  have h := List.all_eq_true.mp lkmh_116 i (List.mem_range'_1.mpr ⟨h1, by omega⟩)
  simp only [Bool.or_eq_true] at h
  exact h.imp neq (nkm_ok (by omega))
theorem lkmh_127 : (List.range' 127 7).all (fun i => Nat.beq i 205 || nkm i) = true := by decide +kernel
theorem lkmg_127 : ∀ i, 127 ≤ i → i < 134 → (i = 205 ∨ lkm i = true) := fun i h1 h2 => by
  have h := List.all_eq_true.mp lkmh_127 i (List.mem_range'_1.mpr ⟨h1, by omega⟩)
  simp only [Bool.or_eq_true] at h
  exact h.imp neq (nkm_ok (by omega))
