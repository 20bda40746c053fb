theorem lkmh_0 : (List.range' 0 8).all lkm = true := by decide +kernel
theorem lkmg_0 : ∀ i, 0 ≤ i → i < 8 → (i = 205 ∨ lkm i = true) := fun i h1 h2 => Or.inr (List.all_eq_true.mp lkmh_0 i (List.mem_range'_1.mpr ⟨h1, by omega⟩))
theorem lkmh_8 : (List.range' 8 2).all lkm = true := by decide +kernel
theorem lkmg_8 : ∀ i, 8 ≤ i → i < 10 → (i = 205 ∨ lkm i = true) := fun i h1 h2 => Or.inr (List.all_eq_true.mp lkmh_8 i (List.mem_range'_1.mpr ⟨h1, by omega⟩))
theorem lkmh_10 : (List.range' 10 4).all lkm = true := by decide +kernel
theorem lkmg_10 : ∀ i, 10 ≤ i → i < 14 → (i = 205 ∨ lkm i = true) := fun i h1 h2 => Or.inr (List.all_eq_true.mp lkmh_10 i (List.mem_range'_1.mpr ⟨h1, by omega⟩))
theorem lkmh_14 : (List.range' 14 5).all lkm = true := by decide +kernel
theorem lkmg_14 : ∀ i, 14 ≤ i → i < 19 → (i = 205 ∨ lkm i = true) := fun i h1 h2 => Or.inr (List.all_eq_true.mp lkmh_14 i (List.mem_range'_1.mpr ⟨h1, by omega⟩))
theorem lkmh_19 : (List.range' 19 5).all lkm = true := by decide +kernel
theorem lkmg_19 : ∀ i, 19 ≤ i → i < 24 → (i = 205 ∨ lkm i = true) := fun i h1 h2 => Or.inr (List.all_eq_true.mp lkmh_19 i (List.mem_range'_1.mpr ⟨h1, by omega⟩))
theorem lkmh_24 : (List.range' 24 2).all lkm = true := by decide +kernel
theorem lkmg_24 : ∀ i, 24 ≤ i → i < 26 → (i = 205 ∨ lkm i = true) := fun i h1 h2 => Or.inr (List.all_eq_true.mp lkmh_24 i (List.mem_range'_1.mpr ⟨h1, by omega⟩))
theorem lkmh_26 : (List.range' 26 4).all lkm = true := by decide +kernel
theorem lkmg_26 : ∀ i, 26 ≤ i → i < 30 → (i = 205 ∨ lkm i = true) := fun i h1 h2 => Or.inr (List.all_eq_true.mp lkmh_26 i (List.mem_range'_1.mpr ⟨h1, by omega⟩))
theorem lkmh_30 : (List.range' 30 4).all lkm = true := by decide +kernel
theorem lkmg_30 : ∀ i, 30 ≤ i → i < 34 → (i = 205 ∨ lkm i = true) := fun i h1 h2 => Or.inr (List.all_eq_true.mp lkmh_30 i (List.mem_range'_1.mpr ⟨h1, by omega⟩))
theorem lkmh_34 : (List.range' 34 4).all lkm = true := by decide +kernel
theorem lkmg_34 : ∀ i, 34 ≤ i → i < 38 → (i = 205 ∨ lkm i = true) := fun i h1 h2 => Or.inr (List.all_eq_true.mp lkmh_34 i (List.mem_range'_1.mpr ⟨h1, by omega⟩))
theorem lkmh_38 : (List.range' 38 8).all lkm = true := by decide +kernel
theorem lkmg_38 : ∀ i, 38 ≤ i → i < 46 → (i = 205 ∨ lkm i = true) := fun i h1 h2 => Or.inr (List.all_eq_true.mp lkmh_38 i (List.mem_range'_1.mpr ⟨h1, by omega⟩))
