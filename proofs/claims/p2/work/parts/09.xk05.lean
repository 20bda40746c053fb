theorem lkmg_244 : ∀ i, 244 ≤ i → i < 248 → (i = 205 ∨ lkm i = true) := fun i h1 h2 => Or.inr (List.all_eq_true.mp lkmh_244 i (List.mem_range'_1.mpr ⟨h1, by omega⟩))
theorem lkmh_248 : (List.range' 248 2).all lkm = true := by decide +kernel
theorem lkmg_248 : ∀ i, 248 ≤ i → i < 250 → (i = 205 ∨ lkm i = true) := fun i h1 h2 => Or.inr (List.all_eq_true.mp lkmh_248 i (List.mem_range'_1.mpr ⟨h1, by omega⟩))
theorem lkmh_250 : (List.range' 250 3).all lkm = true := by decide +kernel
theorem lkmg_250 : ∀ i, 250 ≤ i → i < 253 → (i = 205 ∨ lkm i = true) := fun i h1 h2 => Or.inr (List.all_eq_true.mp lkmh_250 i (List.mem_range'_1.mpr ⟨h1, by omega⟩))
theorem lkmh_253 : (List.range' 253 3).all lkm = true := by decide +kernel
theorem lkmg_253 : ∀ i, 253 ≤ i → i < 256 → (i = 205 ∨ lkm i = true) := fun i h1 h2 => Or.inr (List.all_eq_true.mp lkmh_253 i (List.mem_range'_1.mpr ⟨h1, by omega⟩))
theorem lkmh_256 : (List.range' 256 1).all lkm = true := by decide +kernel
theorem lkmg_256 : ∀ i, 256 ≤ i → i < 257 → (i = 205 ∨ lkm i = true) := fun i h1 h2 => Or.inr (List.all_eq_true.mp lkmh_256 i (List.mem_range'_1.mpr ⟨h1, by omega⟩))
theorem lkmh_257 : (List.range' 257 4).all lkm = true := by decide +kernel
theorem lkmg_257 : ∀ i, 257 ≤ i → i < 261 → (i = 205 ∨ lkm i = true) := fun i h1 h2 => Or.inr (List.all_eq_true.mp lkmh_257 i (List.mem_range'_1.mpr ⟨h1, by omega⟩))
theorem lkmh_261 : (List.range' 261 3).all lkm = true := by decide +kernel
theorem lkmg_261 : ∀ i, 261 ≤ i → i < 264 → (i = 205 ∨ lkm i = true) := fun i h1 h2 => Or.inr (List.all_eq_true.mp lkmh_261 i (List.mem_range'_1.mpr ⟨h1, by omega⟩))
theorem lkmh_264 : (List.range' 264 2).all lkm = true := by decide +kernel
theorem lkmg_264 : ∀ i, 264 ≤ i → i < 266 → (i = 205 ∨ lkm i = true) := fun i h1 h2 => Or.inr (List.all_eq_true.mp lkmh_264 i (List.mem_range'_1.mpr ⟨h1, by omega⟩))
theorem lkmh_266 : (List.range' 266 5).all lkm = true := by decide +kernel
theorem lkmg_266 : ∀ i, 266 ≤ i → i < 271 → (i = 205 ∨ lkm i = true) := fun i h1 h2 => Or.inr (List.all_eq_true.mp lkmh_266 i (List.mem_range'_1.mpr ⟨h1, by omega⟩))
theorem lkmh_271 : (List.range' 271 4).all lkm = true := by decide +kernel
theorem lkmg_271 : ∀ i, 271 ≤ i → i < 275 → (i = 205 ∨ lkm i = true) := fun i h1 h2 => Or.inr (List.all_eq_true.mp lkmh_271 i (List.mem_range'_1.mpr ⟨h1, by omega⟩))
theorem lkmh_275 : (List.range' 275 2).all lkm = true := by decide +kernel
