theorem lkmh_134 : (List.range' 134 9).all (fun i => Nat.beq i 205 || nkm i) = true := by decide +kernel
theorem lkmg_134 : ∀ i, 134 ≤ i → i < 143 → (i = 205 ∨ lkm i = true) := fun i h1 h2 => by
  have h := List.all_eq_true.mp lkmh_134 i (List.mem_range'_1.mpr ⟨h1, by omega⟩)
  simp only [Bool.or_eq_true] at h
  exact h.imp neq (nkm_ok (by omega))
theorem lkmh_143 : (List.range' 143 7).all (fun i => Nat.beq i 205 || nkm i) = true := by decide +kernel
theorem lkmg_143 : ∀ i, 143 ≤ i → i < 150 → (i = 205 ∨ lkm i = true) := fun i h1 h2 => by
  have h := List.all_eq_true.mp lkmh_143 i (List.mem_range'_1.mpr ⟨h1, by omega⟩)
  simp only [Bool.or_eq_true] at h
  exact h.imp neq (nkm_ok (by omega))
theorem lkmh_150 : (List.range' 150 13).all (fun i => Nat.beq i 205 || nkm i) = true := by decide +kernel
theorem lkmg_150 : ∀ i, 150 ≤ i → i < 163 → (i = 205 ∨ lkm i = true) := fun i h1 h2 => by
  have h := List.all_eq_true.mp lkmh_150 i (List.mem_range'_1.mpr ⟨h1, by omega⟩)
  simp only [Bool.or_eq_true] at h
  exact h.imp neq (nkm_ok (by omega))
theorem lkmh_163 : (List.range' 163 13).all (fun i => Nat.beq i 205 || nkm i) = true := by decide +kernel
theorem lkmg_163 : ∀ i, 163 ≤ i → i < 176 → (i = 205 ∨ lkm i = true) := fun i h1 h2 => by
  have h := List.all_eq_true.mp lkmh_163 i (List.mem_range'_1.mpr ⟨h1, by omega⟩)
  simp only [Bool.or_eq_true] at h
  exact h.imp neq (nkm_ok (by omega))
theorem lkmh_176 : (List.range' 176 15).all (fun i => Nat.beq i 205 || nkm i) = true := by decide +kernel
theorem lkmg_176 : ∀ i, 176 ≤ i → i < 191 → (i = 205 ∨ lkm i = true) := fun i h1 h2 => by
  have h := List.all_eq_true.mp lkmh_176 i (List.mem_range'_1.mpr ⟨h1, by omega⟩)
  simp only [Bool.or_eq_true] at h
  exact h.imp neq (nkm_ok (by omega))
theorem lkmh_191 : (List.range' 191 15).all (fun i => Nat.beq i 205 || nkm i) = true := by decide +kernel
theorem lkmg_191 : ∀ i, 191 ≤ i → i < 206 → (i = 205 ∨ lkm i = true) := fun i h1 h2 => by
  have h := List.all_eq_true.mp lkmh_191 i (List.mem_range'_1.mpr ⟨h1, by omega⟩)
  simp only [Bool.or_eq_true] at h
  exact h.imp neq (nkm_ok (by omega))
theorem lkp_206_0 : ((((sm_code 206).zip (sm_pos 206)).drop 0).take 60).all (fun e => nkb 206 e.1.1 e.1.2.2 e.2) = true := by decide +kernel
theorem lkp_206_60 : ((((sm_code 206).zip (sm_pos 206)).drop 60).take 60).all (fun e => nkb 206 e.1.1 e.1.2.2 e.2) = true := by decide +kernel
theorem lkp_206_120 : ((((sm_code 206).zip (sm_pos 206)).drop 120).take 60).all (fun e => nkb 206 e.1.1 e.1.2.2 e.2) = true := by decide +kernel
theorem lkp_206_180 : ((((sm_code 206).zip (sm_pos 206)).drop 180).take 60).all (fun e => nkb 206 e.1.1 e.1.2.2 e.2) = true := by decide +kernel
theorem lkp_206_240 : ((((sm_code 206).zip (sm_pos 206)).drop 240).take 60).all (fun e => nkb 206 e.1.1 e.1.2.2 e.2) = true := by decide +kernel
theorem lkp_206_300 : ((((sm_code 206).zip (sm_pos 206)).drop 300).take 60).all (fun e => nkb 206 e.1.1 e.1.2.2 e.2) = true := by decide +kernel
theorem lkp_206_360 : ((((sm_code 206).zip (sm_pos 206)).drop 360).take 60).all (fun e => nkb 206 e.1.1 e.1.2.2 e.2) = true := by decide +kernel
theorem lkp_206_420 : ((((sm_code 206).zip (sm_pos 206)).drop 420).take 60).all (fun e => nkb 206 e.1.1 e.1.2.2 e.2) = true := by decide +kernel
theorem lkp_206_480 : ((((sm_code 206).zip (sm_pos 206)).drop 480).take 60).all (fun e => nkb 206 e.1.1 e.1.2.2 e.2) = true := by decide +kernel
theorem lkp_206_540 : ((((sm_code 206).zip (sm_pos 206)).drop 540).take 60).all (fun e => nkb 206 e.1.1 e.1.2.2 e.2) = true := by decide +kernel
theorem lkp_206_600 : ((((sm_code 206).zip (sm_pos 206)).drop 600).take 60).all (fun e => nkb 206 e.1.1 e.1.2.2 e.2) = true := by decide +kernel
theorem lkl_206 : decide ((sm_pos 206).length = (sm_code 206).length) = true := by decide +kernel
