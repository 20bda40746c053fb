theorem lkmg_206 : ∀ i, 206 ≤ i → i < 207 → (i = 205 ∨ lkm i = true) := by
  intro i h1 h2
  have e : i = 206 := by omega
  subst e
  refine Or.inr ?_
  unfold lkm
  rw [lkl_206, Bool.true_and]
  have hc : ∀ (l : List ((Nat × List Bool × sm_R) × Nat)) (f : ((Nat × List Bool × sm_R) × Nat) → Bool), (l.take 60).all f = true → (l.drop 60).all f = true → l.all f = true := fun l f h1 h2 => by rw [← List.take_append_drop 60 l, List.all_append, h1, h2]; rfl
  have z : (((sm_code 206).zip (sm_pos 206)).drop 660).all (fun e => lkb 206 e.1.1 e.1.2.2 e.2) = true := by rw [List.drop_eq_nil_of_le (by decide +kernel)]; rfl
  have z := hc (((sm_code 206).zip (sm_pos 206)).drop 600) _ lkp_206_600 (by rw [List.drop_drop]; exact z)
  have z := hc (((sm_code 206).zip (sm_pos 206)).drop 540) _ lkp_206_540 (by rw [List.drop_drop]; exact z)
  have z := hc (((sm_code 206).zip (sm_pos 206)).drop 480) _ lkp_206_480 (by rw [List.drop_drop]; exact z)
  have z := hc (((sm_code 206).zip (sm_pos 206)).drop 420) _ lkp_206_420 (by rw [List.drop_drop]; exact z)
  have z := hc (((sm_code 206).zip (sm_pos 206)).drop 360) _ lkp_206_360 (by rw [List.drop_drop]; exact z)
  have z := hc (((sm_code 206).zip (sm_pos 206)).drop 300) _ lkp_206_300 (by rw [List.drop_drop]; exact z)
  have z := hc (((sm_code 206).zip (sm_pos 206)).drop 240) _ lkp_206_240 (by rw [List.drop_drop]; exact z)
  have z := hc (((sm_code 206).zip (sm_pos 206)).drop 180) _ lkp_206_180 (by rw [List.drop_drop]; exact z)
  have z := hc (((sm_code 206).zip (sm_pos 206)).drop 120) _ lkp_206_120 (by rw [List.drop_drop]; exact z)
  have z := hc (((sm_code 206).zip (sm_pos 206)).drop 60) _ lkp_206_60 (by rw [List.drop_drop]; exact z)
  have z := hc (((sm_code 206).zip (sm_pos 206)).drop 0) _ lkp_206_0 (by rw [List.drop_drop]; exact z)
  exact z
theorem lkmh_207 : (List.range' 207 6).all lkm = true := by decide +kernel
theorem lkmg_207 : ∀ i, 207 ≤ i → i < 213 → (i = 205 ∨ lkm i = true) := fun i h1 h2 => Or.inr (List.all_eq_true.mp lkmh_207 i (List.mem_range'_1.mpr ⟨h1, by omega⟩))
theorem lkmh_213 : (List.range' 213 6).all lkm = true := by decide +kernel
theorem lkmg_213 : ∀ i, 213 ≤ i → i < 219 → (i = 205 ∨ lkm i = true) := fun i h1 h2 => Or.inr (List.all_eq_true.mp lkmh_213 i (List.mem_range'_1.mpr ⟨h1, by omega⟩))
theorem lkmh_219 : (List.range' 219 6).all lkm = true := by decide +kernel
theorem lkmg_219 : ∀ i, 219 ≤ i → i < 225 → (i = 205 ∨ lkm i = true) := fun i h1 h2 => Or.inr (List.all_eq_true.mp lkmh_219 i (List.mem_range'_1.mpr ⟨h1, by omega⟩))
theorem lkmh_225 : (List.range' 225 1).all lkm = true := by decide +kernel
theorem lkmg_225 : ∀ i, 225 ≤ i → i < 226 → (i = 205 ∨ lkm i = true) := fun i h1 h2 => Or.inr (List.all_eq_true.mp lkmh_225 i (List.mem_range'_1.mpr ⟨h1, by omega⟩))
theorem lkmh_226 : (List.range' 226 2).all lkm = true := by decide +kernel
theorem lkmg_226 : ∀ i, 226 ≤ i → i < 228 → (i = 205 ∨ lkm i = true) := fun i h1 h2 => Or.inr (List.all_eq_true.mp lkmh_226 i (List.mem_range'_1.mpr ⟨h1, by omega⟩))
theorem lkmh_228 : (List.range' 228 4).all lkm = true := by decide +kernel
theorem lkmg_228 : ∀ i, 228 ≤ i → i < 232 → (i = 205 ∨ lkm i = true) := fun i h1 h2 => Or.inr (List.all_eq_true.mp lkmh_228 i (List.mem_range'_1.mpr ⟨h1, by omega⟩))
theorem lkmh_232 : (List.range' 232 3).all lkm = true := by decide +kernel
theorem lkmg_232 : ∀ i, 232 ≤ i → i < 235 → (i = 205 ∨ lkm i = true) := fun i h1 h2 => Or.inr (List.all_eq_true.mp lkmh_232 i (List.mem_range'_1.mpr ⟨h1, by omega⟩))
theorem lkmh_235 : (List.range' 235 4).all lkm = true := by decide +kernel
theorem lkmg_235 : ∀ i, 235 ≤ i → i < 239 → (i = 205 ∨ lkm i = true) := fun i h1 h2 => Or.inr (List.all_eq_true.mp lkmh_235 i (List.mem_range'_1.mpr ⟨h1, by omega⟩))
theorem lkmh_239 : (List.range' 239 5).all lkm = true := by decide +kernel
theorem lkmg_239 : ∀ i, 239 ≤ i → i < 244 → (i = 205 ∨ lkm i = true) := fun i h1 h2 => Or.inr (List.all_eq_true.mp lkmh_239 i (List.mem_range'_1.mpr ⟨h1, by omega⟩))
theorem lkmh_244 : (List.range' 244 4).all lkm = true := by decide +kernel
