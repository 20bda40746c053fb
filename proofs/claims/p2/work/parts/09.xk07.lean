theorem lkmg_301 : ∀ i, 301 ≤ i → i < 303 → (i = 205 ∨ lkm i = true) := fun i h1 h2 => Or.inr (List.all_eq_true.mp lkmh_301 i (List.mem_range'_1.mpr ⟨h1, by omega⟩))
theorem lkmh_303 : (List.range' 303 2).all lkm = true := by decide +kernel
theorem lkmg_303 : ∀ i, 303 ≤ i → i < 305 → (i = 205 ∨ lkm i = true) := fun i h1 h2 => Or.inr (List.all_eq_true.mp lkmh_303 i (List.mem_range'_1.mpr ⟨h1, by omega⟩))
theorem lkmh_305 : (List.range' 305 5).all lkm = true := by decide +kernel
theorem lkmg_305 : ∀ i, 305 ≤ i → i < 310 → (i = 205 ∨ lkm i = true) := fun i h1 h2 => Or.inr (List.all_eq_true.mp lkmh_305 i (List.mem_range'_1.mpr ⟨h1, by omega⟩))
theorem lkmh_310 : (List.range' 310 5).all lkm = true := by decide +kernel
theorem lkmg_310 : ∀ i, 310 ≤ i → i < 315 → (i = 205 ∨ lkm i = true) := fun i h1 h2 => Or.inr (List.all_eq_true.mp lkmh_310 i (List.mem_range'_1.mpr ⟨h1, by omega⟩))
theorem lkp_315_0 : ((((sm_code 315).zip (sm_pos 315)).drop 0).take 60).all (fun e => lkb 315 e.1.1 e.1.2.2 e.2) = true := by decide +kernel
theorem lkp_315_60 : ((((sm_code 315).zip (sm_pos 315)).drop 60).take 60).all (fun e => lkb 315 e.1.1 e.1.2.2 e.2) = true := by decide +kernel
theorem lkp_315_120 : ((((sm_code 315).zip (sm_pos 315)).drop 120).take 60).all (fun e => lkb 315 e.1.1 e.1.2.2 e.2) = true := by decide +kernel
theorem lkp_315_180 : ((((sm_code 315).zip (sm_pos 315)).drop 180).take 60).all (fun e => lkb 315 e.1.1 e.1.2.2 e.2) = true := by decide +kernel
theorem lkp_315_240 : ((((sm_code 315).zip (sm_pos 315)).drop 240).take 60).all (fun e => lkb 315 e.1.1 e.1.2.2 e.2) = true := by decide +kernel
theorem lkp_315_300 : ((((sm_code 315).zip (sm_pos 315)).drop 300).take 60).all (fun e => lkb 315 e.1.1 e.1.2.2 e.2) = true := by decide +kernel
theorem lkp_315_360 : ((((sm_code 315).zip (sm_pos 315)).drop 360).take 60).all (fun e => lkb 315 e.1.1 e.1.2.2 e.2) = true := by decide +kernel
theorem lkp_315_420 : ((((sm_code 315).zip (sm_pos 315)).drop 420).take 60).all (fun e => lkb 315 e.1.1 e.1.2.2 e.2) = true := by decide +kernel
theorem lkp_315_480 : ((((sm_code 315).zip (sm_pos 315)).drop 480).take 60).all (fun e => lkb 315 e.1.1 e.1.2.2 e.2) = true := by decide +kernel
theorem lkp_315_540 : ((((sm_code 315).zip (sm_pos 315)).drop 540).take 60).all (fun e => lkb 315 e.1.1 e.1.2.2 e.2) = true := by decide +kernel
theorem lkp_315_600 : ((((sm_code 315).zip (sm_pos 315)).drop 600).take 60).all (fun e => lkb 315 e.1.1 e.1.2.2 e.2) = true := by decide +kernel
theorem lkp_315_660 : ((((sm_code 315).zip (sm_pos 315)).drop 660).take 60).all (fun e => lkb 315 e.1.1 e.1.2.2 e.2) = true := by decide +kernel
theorem lkp_315_720 : ((((sm_code 315).zip (sm_pos 315)).drop 720).take 60).all (fun e => lkb 315 e.1.1 e.1.2.2 e.2) = true := by decide +kernel
