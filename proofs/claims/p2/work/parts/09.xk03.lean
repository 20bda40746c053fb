theorem lkmh_173 : (List.range' 173 6).all lkm = true := by decide +kernel
theorem lkmg_173 : ∀ i, 173 ≤ i → i < 179 → (i = 205 ∨ lkm i = true) := fun i h1 h2 => Or.inr (List.all_eq_true.mp lkmh_173 i (List.mem_range'_1.mpr ⟨h1, by omega⟩))
theorem lkmh_179 : (List.range' 179 8).all lkm = true := by decide +kernel
theorem lkmg_179 : ∀ i, 179 ≤ i → i < 187 → (i = 205 ∨ lkm i = true) := fun i h1 h2 => Or.inr (List.all_eq_true.mp lkmh_179 i (List.mem_range'_1.mpr ⟨h1, by omega⟩))
theorem lkmh_187 : (List.range' 187 12).all lkm = true := by decide +kernel
theorem lkmg_187 : ∀ i, 187 ≤ i → i < 199 → (i = 205 ∨ lkm i = true) := fun i h1 h2 => Or.inr (List.all_eq_true.mp lkmh_187 i (List.mem_range'_1.mpr ⟨h1, by omega⟩))
theorem lkmh_199 : (List.range' 199 7).all (fun i => Nat.beq i 205 || lkm i) = true := by decide +kernel
theorem lkmg_199 : ∀ i, 199 ≤ i → i < 206 → (i = 205 ∨ lkm i = true) := fun i h1 h2 => by
  have h := List.all_eq_true.mp lkmh_199 i (List.mem_range'_1.mpr ⟨h1, by omega⟩)
  simp only [Bool.or_eq_true] at h
  exact h.imp Nat.eq_of_beq_eq_true id
theorem lkp_206_0 : ((((sm_code 206).zip (sm_pos 206)).drop 0).take 60).all (fun e => lkb 206 e.1.1 e.1.2.2 e.2) = true := by decide +kernel
theorem lkp_206_60 : ((((sm_code 206).zip (sm_pos 206)).drop 60).take 60).all (fun e => lkb 206 e.1.1 e.1.2.2 e.2) = true := by decide +kernel
theorem lkp_206_120 : ((((sm_code 206).zip (sm_pos 206)).drop 120).take 60).all (fun e => lkb 206 e.1.1 e.1.2.2 e.2) = true := by decide +kernel
theorem lkp_206_180 : ((((sm_code 206).zip (sm_pos 206)).drop 180).take 60).all (fun e => lkb 206 e.1.1 e.1.2.2 e.2) = true := by decide +kernel
theorem lkp_206_240 : ((((sm_code 206).zip (sm_pos 206)).drop 240).take 60).all (fun e => lkb 206 e.1.1 e.1.2.2 e.2) = true := by decide +kernel
theorem lkp_206_300 : ((((sm_code 206).zip (sm_pos 206)).drop 300).take 60).all (fun e => lkb 206 e.1.1 e.1.2.2 e.2) = true := by decide +kernel
theorem lkp_206_360 : ((((sm_code 206).zip (sm_pos 206)).drop 360).take 60).all (fun e => lkb 206 e.1.1 e.1.2.2 e.2) = true := by decide +kernel
theorem lkp_206_420 : ((((sm_code 206).zip (sm_pos 206)).drop 420).take 60).all (fun e => lkb 206 e.1.1 e.1.2.2 e.2) = true := by decide +kernel
theorem lkp_206_480 : ((((sm_code 206).zip (sm_pos 206)).drop 480).take 60).all (fun e => lkb 206 e.1.1 e.1.2.2 e.2) = true := by decide +kernel
theorem lkp_206_540 : ((((sm_code 206).zip (sm_pos 206)).drop 540).take 60).all (fun e => lkb 206 e.1.1 e.1.2.2 e.2) = true := by decide +kernel
theorem lkp_206_600 : ((((sm_code 206).zip (sm_pos 206)).drop 600).take 60).all (fun e => lkb 206 e.1.1 e.1.2.2 e.2) = true := by decide +kernel
theorem lkl_206 : decide ((sm_pos 206).length = (sm_code 206).length) = true := by decide +kernel
