theorem lkmg_283 : ∀ i, 283 ≤ i → i < 287 → (i = 205 ∨ lkm i = true) := fun i h1 h2 => by
  have h := List.all_eq_true.mp lkmh_283 i (List.mem_range'_1.mpr ⟨h1, by omega⟩)
  simp only [Bool.or_eq_true] at h
  exact h.imp neq (nkm_ok (by omega))
theorem lkmh_287 : (List.range' 287 8).all (fun i => Nat.beq i 205 || nkm i) = true := by decide +kernel
theorem lkmg_287 : ∀ i, 287 ≤ i → i < 295 → (i = 205 ∨ lkm i = true) := fun i h1 h2 => by
  have h := List.all_eq_true.mp lkmh_287 i (List.mem_range'_1.mpr ⟨h1, by omega⟩)
  simp only [Bool.or_eq_true] at h
  exact h.imp neq (nkm_ok (by omega))
theorem lkmh_295 : (List.range' 295 5).all (fun i => Nat.beq i 205 || nkm i) = true := by decide +kernel
theorem lkmg_295 : ∀ i, 295 ≤ i → i < 300 → (i = 205 ∨ lkm i = true) := fun i h1 h2 => by
  have h := List.all_eq_true.mp lkmh_295 i (List.mem_range'_1.mpr ⟨h1, by omega⟩)
  simp only [Bool.or_eq_true] at h
  exact h.imp neq (nkm_ok (by omega))
theorem lkmh_300 : (List.range' 300 6).all (fun i => Nat.beq i 205 || nkm i) = true := by decide +kernel
theorem lkmg_300 : ∀ i, 300 ≤ i → i < 306 → (i = 205 ∨ lkm i = true) := fun i h1 h2 => by
  have h := List.all_eq_true.mp lkmh_300 i (List.mem_range'_1.mpr ⟨h1, by omega⟩)
  simp only [Bool.or_eq_true] at h
  exact h.imp neq (nkm_ok (by omega))
theorem lkmh_306 : (List.range' 306 9).all (fun i => Nat.beq i 205 || nkm i) = true := by decide +kernel
theorem lkmg_306 : ∀ i, 306 ≤ i → i < 315 → (i = 205 ∨ lkm i = true) := fun i h1 h2 => by
  have h := List.all_eq_true.mp lkmh_306 i (List.mem_range'_1.mpr ⟨h1, by omega⟩)
  simp only [Bool.or_eq_true] at h
  exact h.imp neq (nkm_ok (by omega))
theorem lkp_315_0 : ((((sm_code 315).zip (sm_pos 315)).drop 0).take 60).all (fun e => nkb 315 e.1.1 e.1.2.2 e.2) = true := by decide +kernel
theorem lkp_315_60 : ((((sm_code 315).zip (sm_pos 315)).drop 60).take 60).all (fun e => nkb 315 e.1.1 e.1.2.2 e.2) = true := by decide +kernel
theorem lkp_315_120 : ((((sm_code 315).zip (sm_pos 315)).drop 120).take 60).all (fun e => nkb 315 e.1.1 e.1.2.2 e.2) = true := by decide +kernel
theorem lkp_315_180 : ((((sm_code 315).zip (sm_pos 315)).drop 180).take 60).all (fun e => nkb 315 e.1.1 e.1.2.2 e.2) = true := by decide +kernel
theorem lkp_315_240 : ((((sm_code 315).zip (sm_pos 315)).drop 240).take 60).all (fun e => nkb 315 e.1.1 e.1.2.2 e.2) = true := by decide +kernel
theorem lkp_315_300 : ((((sm_code 315).zip (sm_pos 315)).drop 300).take 60).all (fun e => nkb 315 e.1.1 e.1.2.2 e.2) = true := by decide +kernel
theorem lkp_315_360 : ((((sm_code 315).zip (sm_pos 315)).drop 360).take 60).all (fun e => nkb 315 e.1.1 e.1.2.2 e.2) = true := by decide +kernel
theorem lkp_315_420 : ((((sm_code 315).zip (sm_pos 315)).drop 420).take 60).all (fun e => nkb 315 e.1.1 e.1.2.2 e.2) = true := by decide +kernel
theorem lkp_315_480 : ((((sm_code 315).zip (sm_pos 315)).drop 480).take 60).all (fun e => nkb 315 e.1.1 e.1.2.2 e.2) = true := by decide +kernel
theorem lkp_315_540 : ((((sm_code 315).zip (sm_pos 315)).drop 540).take 60).all (fun e => nkb 315 e.1.1 e.1.2.2 e.2) = true := by decide +kernel
theorem lkp_315_600 : ((((sm_code 315).zip (sm_pos 315)).drop 600).take 60).all (fun e => nkb 315 e.1.1 e.1.2.2 e.2) = true := by decide +kernel
theorem lkp_315_660 : ((((sm_code 315).zip (sm_pos 315)).drop 660).take 60).all (fun e => nkb 315 e.1.1 e.1.2.2 e.2) = true := by decide +kernel
theorem lkp_315_720 : ((((sm_code 315).zip (sm_pos 315)).drop 720).take 60).all (fun e => nkb 315 e.1.1 e.1.2.2 e.2) = true := by decide +kernel
theorem lkp_315_780 : ((((sm_code 315).zip (sm_pos 315)).drop 780).take 60).all (fun e => nkb 315 e.1.1 e.1.2.2 e.2) = true := by decide +kernel
theorem lkp_315_840 : ((((sm_code 315).zip (sm_pos 315)).drop 840).take 60).all (fun e => nkb 315 e.1.1 e.1.2.2 e.2) = true := by decide +kernel
