theorem lkmg_275 : ∀ i, 275 ≤ i → i < 277 → (i = 205 ∨ lkm i = true) := fun i h1 h2 => Or.inr (List.all_eq_true.mp lkmh_275 i (List.mem_range'_1.mpr ⟨h1, by omega⟩))
theorem lkmh_277 : (List.range' 277 1).all lkm = true := by decide +kernel
theorem lkmg_277 : ∀ i, 277 ≤ i → i < 278 → (i = 205 ∨ lkm i = true) := fun i h1 h2 => Or.inr (List.all_eq_true.mp lkmh_277 i (List.mem_range'_1.mpr ⟨h1, by omega⟩))
theorem lkmh_278 : (List.range' 278 5).all lkm = true := by decide +kernel
theorem lkmg_278 : ∀ i, 278 ≤ i → i < 283 → (i = 205 ∨ lkm i = true) := fun i h1 h2 => Or.inr (List.all_eq_true.mp lkmh_278 i (List.mem_range'_1.mpr ⟨h1, by omega⟩))
theorem lkmh_283 : (List.range' 283 2).all lkm = true := by decide +kernel
theorem lkmg_283 : ∀ i, 283 ≤ i → i < 285 → (i = 205 ∨ lkm i = true) := fun i h1 h2 => Or.inr (List.all_eq_true.mp lkmh_283 i (List.mem_range'_1.mpr ⟨h1, by omega⟩))
theorem lkmh_285 : (List.range' 285 2).all lkm = true := by decide +kernel
theorem lkmg_285 : ∀ i, 285 ≤ i → i < 287 → (i = 205 ∨ lkm i = true) := fun i h1 h2 => Or.inr (List.all_eq_true.mp lkmh_285 i (List.mem_range'_1.mpr ⟨h1, by omega⟩))
theorem lkmh_287 : (List.range' 287 3).all lkm = true := by decide +kernel
theorem lkmg_287 : ∀ i, 287 ≤ i → i < 290 → (i = 205 ∨ lkm i = true) := fun i h1 h2 => Or.inr (List.all_eq_true.mp lkmh_287 i (List.mem_range'_1.mpr ⟨h1, by omega⟩))
theorem lkmh_290 : (List.range' 290 5).all lkm = true := by decide +kernel
theorem lkmg_290 : ∀ i, 290 ≤ i → i < 295 → (i = 205 ∨ lkm i = true) := fun i h1 h2 => Or.inr (List.all_eq_true.mp lkmh_290 i (List.mem_range'_1.mpr ⟨h1, by omega⟩))
theorem lkmh_295 : (List.range' 295 2).all lkm = true := by decide +kernel
theorem lkmg_295 : ∀ i, 295 ≤ i → i < 297 → (i = 205 ∨ lkm i = true) := fun i h1 h2 => Or.inr (List.all_eq_true.mp lkmh_295 i (List.mem_range'_1.mpr ⟨h1, by omega⟩))
theorem lkmh_297 : (List.range' 297 1).all lkm = true := by decide +kernel
theorem lkmg_297 : ∀ i, 297 ≤ i → i < 298 → (i = 205 ∨ lkm i = true) := fun i h1 h2 => Or.inr (List.all_eq_true.mp lkmh_297 i (List.mem_range'_1.mpr ⟨h1, by omega⟩))
theorem lkmh_298 : (List.range' 298 3).all lkm = true := by decide +kernel
theorem lkmg_298 : ∀ i, 298 ≤ i → i < 301 → (i = 205 ∨ lkm i = true) := fun i h1 h2 => Or.inr (List.all_eq_true.mp lkmh_298 i (List.mem_range'_1.mpr ⟨h1, by omega⟩))
theorem lkmh_301 : (List.range' 301 2).all lkm = true := by decide +kernel
