theorem lkmh_46 : (List.range' 46 5).all lkm = true := by decide +kernel
theorem lkmg_46 : ∀ i, 46 ≤ i → i < 51 → (i = 205 ∨ lkm i = true) := fun i h1 h2 => Or.inr (List.all_eq_true.mp lkmh_46 i (List.mem_range'_1.mpr ⟨h1, by omega⟩))
theorem lkmh_51 : (List.range' 51 7).all lkm = true := by decide +kernel
theorem lkmg_51 : ∀ i, 51 ≤ i → i < 58 → (i = 205 ∨ lkm i = true) := fun i h1 h2 => Or.inr (List.all_eq_true.mp lkmh_51 i (List.mem_range'_1.mpr ⟨h1, by omega⟩))
theorem lkmh_58 : (List.range' 58 7).all lkm = true := by decide +kernel
theorem lkmg_58 : ∀ i, 58 ≤ i → i < 65 → (i = 205 ∨ lkm i = true) := fun i h1 h2 => Or.inr (List.all_eq_true.mp lkmh_58 i (List.mem_range'_1.mpr ⟨h1, by omega⟩))
theorem lkmh_65 : (List.range' 65 11).all lkm = true := by decide +kernel
theorem lkmg_65 : ∀ i, 65 ≤ i → i < 76 → (i = 205 ∨ lkm i = true) := fun i h1 h2 => Or.inr (List.all_eq_true.mp lkmh_65 i (List.mem_range'_1.mpr ⟨h1, by omega⟩))
theorem lkmh_76 : (List.range' 76 9).all lkm = true := by decide +kernel
theorem lkmg_76 : ∀ i, 76 ≤ i → i < 85 → (i = 205 ∨ lkm i = true) := fun i h1 h2 => Or.inr (List.all_eq_true.mp lkmh_76 i (List.mem_range'_1.mpr ⟨h1, by omega⟩))
theorem lkmh_85 : (List.range' 85 7).all lkm = true := by decide +kernel
theorem lkmg_85 : ∀ i, 85 ≤ i → i < 92 → (i = 205 ∨ lkm i = true) := fun i h1 h2 => Or.inr (List.all_eq_true.mp lkmh_85 i (List.mem_range'_1.mpr ⟨h1, by omega⟩))
theorem lkmh_92 : (List.range' 92 9).all lkm = true := by decide +kernel
theorem lkmg_92 : ∀ i, 92 ≤ i → i < 101 → (i = 205 ∨ lkm i = true) := fun i h1 h2 => Or.inr (List.all_eq_true.mp lkmh_92 i (List.mem_range'_1.mpr ⟨h1, by omega⟩))
theorem lkmh_101 : (List.range' 101 13).all lkm = true := by decide +kernel
theorem lkmg_101 : ∀ i, 101 ≤ i → i < 114 → (i = 205 ∨ lkm i = true) := fun i h1 h2 => Or.inr (List.all_eq_true.mp lkmh_101 i (List.mem_range'_1.mpr ⟨h1, by omega⟩))
theorem lkmh_114 : (List.range' 114 7).all lkm = true := by decide +kernel
theorem lkmg_114 : ∀ i, 114 ≤ i → i < 121 → (i = 205 ∨ lkm i = true) := fun i h1 h2 => Or.inr (List.all_eq_true.mp lkmh_114 i (List.mem_range'_1.mpr ⟨h1, by omega⟩))
theorem lkmh_121 : (List.range' 121 5).all lkm = true := by decide +kernel
theorem lkmg_121 : ∀ i, 121 ≤ i → i < 126 → (i = 205 ∨ lkm i = true) := fun i h1 h2 => Or.inr (List.all_eq_true.mp lkmh_121 i (List.mem_range'_1.mpr ⟨h1, by omega⟩))
