theorem lkmg_206 : ∀ i, 206 ≤ i → i < 207 → (i = 205 ∨ lkm i = true) := by
  intro i h1 h2
  have e : i = 206 := by omega
  subst e
  refine Or.inr (nkm_ok (by decide) ?_)
  unfold nkm
  rw [lkl_206, Bool.true_and]
  have hc : ∀ (l : List ((Nat × List Bool × sm_R) × Nat)) (f : ((Nat × List Bool × sm_R) × Nat) → Bool), (l.take 60).all f = true → (l.drop 60).all f = true → l.all f = true := fun l f h1 h2 => by rw [← List.take_append_drop 60 l, List.all_append, h1, h2]; rfl
  have z : (((sm_code 206).zip (sm_pos 206)).drop 660).all (fun e => nkb 206 e.1.1 e.1.2.2 e.2) = true := by rw [List.drop_eq_nil_of_le (by decide +kernel)]; rfl
  have z := hc (((sm_code 206).zip (sm_pos 206)).drop 600) _ lkp_206_600 (by rw [List.drop_drop]; exact z)
  have z := hc (((sm_code 206).zip (sm_pos 206)).drop 540) _ lkp_206_540 (by rw [List.drop_drop]; exact z)
  have z := hc (((sm_code 206).zip (sm_pos 206)).drop 480) _ lkp_206_480 (by rw [List.drop_drop]; exact z)
  have z := hc (((sm_code 206).zip (sm_pos 206)).drop 420) _ lkp_206_420 (by rw [List.drop_drop]; exact z)
  have z := hc (((sm_code 206).zip (sm_pos 206)).drop 360) _ lkp_206_360 (by rw [List.drop_drop]; exact z)
  have z := hc (((sm_code 206).zip (sm_pos 206)).drop 300) _ lkp_206_300 (by rw [List.drop_drop]; exact z)
  have z := hc (((sm_code 206).zip (sm_pos 206)).drop 240) _ lkp_206_240 (by rw [List.drop_drop]; exact z)
  have z := hc (((sm_code 206).zip (sm_pos 206)).drop 180) _ lkp_206_180 (by rw [List.drop_drop]; exact z)
  have z := hc (((sm_code 206).zip (sm_pos 206)).drop 120) _ lkp_206_120 (by rw [List.drop_drop]; exact z)
  have z := hc (((sm_code 206).zip (sm_pos 206)).drop 60) _ lkp_206_60 (by rw [List.drop_drop]; exact z)
  have z := hc (((sm_code 206).zip (sm_pos 206)).drop 0) _ lkp_206_0 (by rw [List.drop_drop]; exact z)
  exact z
theorem lkmh_207 : (List.range' 207 12).all (fun i => Nat.beq i 205 || nkm i) = true := by decide +kernel
theorem lkmg_207 : ∀ i, 207 ≤ i → i < 219 → (i = 205 ∨ lkm i = true) := fun i h1 h2 => by
  have h := List.all_eq_true.mp lkmh_207 i (List.mem_range'_1.mpr ⟨h1, by omega⟩)
  simp only [Bool.or_eq_true] at h
  exact h.imp neq (nkm_ok (by omega))
theorem lkmh_219 : (List.range' 219 7).all (fun i => Nat.beq i 205 || nkm i) = true := by decide +kernel
theorem lkmg_219 : ∀ i, 219 ≤ i → i < 226 → (i = 205 ∨ lkm i = true) := fun i h1 h2 => by
  have h := List.all_eq_true.mp lkmh_219 i (List.mem_range'_1.mpr ⟨h1, by omega⟩)
  simp only [Bool.or_eq_true] at h
  exact h.imp neq (nkm_ok (by omega))
theorem lkmh_226 : (List.range' 226 6).all (fun i => Nat.beq i 205 || nkm i) = true := by decide +kernel
theorem lkmg_226 : ∀ i, 226 ≤ i → i < 232 → (i = 205 ∨ lkm i = true) := fun i h1 h2 => by
  have h := List.all_eq_true.mp lkmh_226 i (List.mem_range'_1.mpr ⟨h1, by omega⟩)
  simp only [Bool.or_eq_true] at h
  exact h.imp neq (nkm_ok (by omega))
theorem lkmh_232 : (List.range' 232 8).all (fun i => Nat.beq i 205 || nkm i) = true := by decide +kernel
theorem lkmg_232 : ∀ i, 232 ≤ i → i < 240 → (i = 205 ∨ lkm i = true) := fun i h1 h2 => by
  have h := List.all_eq_true.mp lkmh_232 i (List.mem_range'_1.mpr ⟨h1, by omega⟩)
  simp only [Bool.or_eq_true] at h
  exact h.imp neq (nkm_ok (by omega))
theorem lkmh_240 : (List.range' 240 9).all (fun i => Nat.beq i 205 || nkm i) = true := by decide +kernel
theorem lkmg_240 : ∀ i, 240 ≤ i → i < 249 → (i = 205 ∨ lkm i = true) := fun i h1 h2 => by
  have h := List.all_eq_true.mp lkmh_240 i (List.mem_range'_1.mpr ⟨h1, by omega⟩)
  simp only [Bool.or_eq_true] at h
  exact h.imp neq (nkm_ok (by omega))
theorem lkmh_249 : (List.range' 249 4).all (fun i => Nat.beq i 205 || nkm i) = true := by decide +kernel
theorem lkmg_249 : ∀ i, 249 ≤ i → i < 253 → (i = 205 ∨ lkm i = true) := fun i h1 h2 => by
  have h := List.all_eq_true.mp lkmh_249 i (List.mem_range'_1.mpr ⟨h1, by omega⟩)
  simp only [Bool.or_eq_true] at h
  exact h.imp neq (nkm_ok (by omega))
theorem lkmh_253 : (List.range' 253 4).all (fun i => Nat.beq i 205 || nkm i) = true := by decide +kernel
theorem lkmg_253 : ∀ i, 253 ≤ i → i < 257 → (i = 205 ∨ lkm i = true) := fun i h1 h2 => by
  have h := List.all_eq_true.mp lkmh_253 i (List.mem_range'_1.mpr ⟨h1, by omega⟩)
  simp only [Bool.or_eq_true] at h
  exact h.imp neq (nkm_ok (by omega))
theorem lkmh_257 : (List.range' 257 7).all (fun i => Nat.beq i 205 || nkm i) = true := by decide +kernel
theorem lkmg_257 : ∀ i, 257 ≤ i → i < 264 → (i = 205 ∨ lkm i = true) := fun i h1 h2 => by
  have h := List.all_eq_true.mp lkmh_257 i (List.mem_range'_1.mpr ⟨h1, by omega⟩)
  simp only [Bool.or_eq_true] at h
  exact h.imp neq (nkm_ok (by omega))
theorem lkmh_264 : (List.range' 264 6).all (fun i => Nat.beq i 205 || nkm i) = true := by decide +kernel
theorem lkmg_264 : ∀ i, 264 ≤ i → i < 270 → (i = 205 ∨ lkm i = true) := fun i h1 h2 => by
  have h := List.all_eq_true.mp lkmh_264 i (List.mem_range'_1.mpr ⟨h1, by omega⟩)
  simp only [Bool.or_eq_true] at h
  exact h.imp neq (nkm_ok (by omega))
theorem lkmh_270 : (List.range' 270 7).all (fun i => Nat.beq i 205 || nkm i) = true := by decide +kernel
theorem lkmg_270 : ∀ i, 270 ≤ i → i < 277 → (i = 205 ∨ lkm i = true) := fun i h1 h2 => by
  have h := List.all_eq_true.mp lkmh_270 i (List.mem_range'_1.mpr ⟨h1, by omega⟩)
  simp only [Bool.or_eq_true] at h
  exact h.imp neq (nkm_ok (by omega))
theorem lkmh_277 : (List.range' 277 6).all (fun i => Nat.beq i 205 || nkm i) = true := by decide +kernel
theorem lkmg_277 : ∀ i, 277 ≤ i → i < 283 → (i = 205 ∨ lkm i = true) := fun i h1 h2 => by
  have h := List.all_eq_true.mp lkmh_277 i (List.mem_range'_1.mpr ⟨h1, by omega⟩)
  simp only [Bool.or_eq_true] at h
  exact h.imp neq (nkm_ok (by omega))
theorem lkmh_283 : (List.range' 283 4).all (fun i => Nat.beq i 205 || nkm i) = true := by decide +kernel
