theorem lkmh_126 : (List.range' 126 3).all lkm = true := by decide +kernel
theorem lkmg_126 : ∀ i, 126 ≤ i → i < 129 → (i = 205 ∨ lkm i = true) := fun i h1 h2 => Or.inr (List.all_eq_true.mp lkmh_126 i (List.mem_range'_1.mpr ⟨h1, by omega⟩))
theorem lkmh_129 : (List.range' 129 4).all lkm = true := by decide +kernel
theorem lkmg_129 : ∀ i, 129 ≤ i → i < 133 → (i = 205 ∨ lkm i = true) := fun i h1 h2 => Or.inr (List.all_eq_true.mp lkmh_129 i (List.mem_range'_1.mpr ⟨h1, by omega⟩))
theorem lkmh_133 : (List.range' 133 3).all lkm = true := by decide +kernel
theorem lkmg_133 : ∀ i, 133 ≤ i → i < 136 → (i = 205 ∨ lkm i = true) := fun i h1 h2 => Or.inr (List.all_eq_true.mp lkmh_133 i (List.mem_range'_1.mpr ⟨h1, by omega⟩))
theorem lkmh_136 : (List.range' 136 5).all lkm = true := by decide +kernel
theorem lkmg_136 : ∀ i, 136 ≤ i → i < 141 → (i = 205 ∨ lkm i = true) := fun i h1 h2 => Or.inr (List.all_eq_true.mp lkmh_136 i (List.mem_range'_1.mpr ⟨h1, by omega⟩))
theorem lkmh_141 : (List.range' 141 4).all lkm = true := by decide +kernel
theorem lkmg_141 : ∀ i, 141 ≤ i → i < 145 → (i = 205 ∨ lkm i = true) := fun i h1 h2 => Or.inr (List.all_eq_true.mp lkmh_141 i (List.mem_range'_1.mpr ⟨h1, by omega⟩))
theorem lkmh_145 : (List.range' 145 3).all lkm = true := by decide +kernel
theorem lkmg_145 : ∀ i, 145 ≤ i → i < 148 → (i = 205 ∨ lkm i = true) := fun i h1 h2 => Or.inr (List.all_eq_true.mp lkmh_145 i (List.mem_range'_1.mpr ⟨h1, by omega⟩))
theorem lkmh_148 : (List.range' 148 5).all lkm = true := by decide +kernel
theorem lkmg_148 : ∀ i, 148 ≤ i → i < 153 → (i = 205 ∨ lkm i = true) := fun i h1 h2 => Or.inr (List.all_eq_true.mp lkmh_148 i (List.mem_range'_1.mpr ⟨h1, by omega⟩))
theorem lkmh_153 : (List.range' 153 7).all lkm = true := by decide +kernel
theorem lkmg_153 : ∀ i, 153 ≤ i → i < 160 → (i = 205 ∨ lkm i = true) := fun i h1 h2 => Or.inr (List.all_eq_true.mp lkmh_153 i (List.mem_range'_1.mpr ⟨h1, by omega⟩))
theorem lkmh_160 : (List.range' 160 6).all lkm = true := by decide +kernel
theorem lkmg_160 : ∀ i, 160 ≤ i → i < 166 → (i = 205 ∨ lkm i = true) := fun i h1 h2 => Or.inr (List.all_eq_true.mp lkmh_160 i (List.mem_range'_1.mpr ⟨h1, by omega⟩))
theorem lkmh_166 : (List.range' 166 7).all lkm = true := by decide +kernel
theorem lkmg_166 : ∀ i, 166 ≤ i → i < 173 → (i = 205 ∨ lkm i = true) := fun i h1 h2 => Or.inr (List.all_eq_true.mp lkmh_166 i (List.mem_range'_1.mpr ⟨h1, by omega⟩))
