theorem lkp_315_900 : ((((sm_code 315).zip (sm_pos 315)).drop 900).take 60).all (fun e => nkb 315 e.1.1 e.1.2.2 e.2) = true := by decide +kernel
theorem lkp_315_960 : ((((sm_code 315).zip (sm_pos 315)).drop 960).take 60).all (fun e => nkb 315 e.1.1 e.1.2.2 e.2) = true := by decide +kernel
theorem lkp_315_1020 : ((((sm_code 315).zip (sm_pos 315)).drop 1020).take 60).all (fun e => nkb 315 e.1.1 e.1.2.2 e.2) = true := by decide +kernel
theorem lkp_315_1080 : ((((sm_code 315).zip (sm_pos 315)).drop 1080).take 60).all (fun e => nkb 315 e.1.1 e.1.2.2 e.2) = true := by decide +kernel
theorem lkl_315 : decide ((sm_pos 315).length = (sm_code 315).length) = true := by decide +kernel
theorem lkmg_315 : ∀ i, 315 ≤ i → i < 316 → (i = 205 ∨ lkm i = true) := by
  intro i h1 h2
  have e : i = 315 := by omega
  subst e
  refine Or.inr (nkm_ok (by decide) ?_)
  unfold nkm
  rw [lkl_315, Bool.true_and]
  have hc : ∀ (l : List ((Nat × List Bool × sm_R) × Nat)) (f : ((Nat × List Bool × sm_R) × Nat) → Bool), (l.take 60).all f = true → (l.drop 60).all f = true → l.all f = true := fun l f h1 h2 => by rw [← List.take_append_drop 60 l, List.all_append, h1, h2]; rfl
  have z : (((sm_code 315).zip (sm_pos 315)).drop 1140).all (fun e => nkb 315 e.1.1 e.1.2.2 e.2) = true := by rw [List.drop_eq_nil_of_le (by decide +kernel)]; rfl
  have z := hc (((sm_code 315).zip (sm_pos 315)).drop 1080) _ lkp_315_1080 (by rw [List.drop_drop]; exact z)
  have z := hc (((sm_code 315).zip (sm_pos 315)).drop 1020) _ lkp_315_1020 (by rw [List.drop_drop]; exact z)
  have z := hc (((sm_code 315).zip (sm_pos 315)).drop 960) _ lkp_315_960 (by rw [List.drop_drop]; exact z)
  have z := hc (((sm_code 315).zip (sm_pos 315)).drop 900) _ lkp_315_900 (by rw [List.drop_drop]; exact z)
  have z := hc (((sm_code 315).zip (sm_pos 315)).drop 840) _ lkp_315_840 (by rw [List.drop_drop]; exact z)
  have z := hc (((sm_code 315).zip (sm_pos 315)).drop 780) _ lkp_315_780 (by rw [List.drop_drop]; exact z)
  have z := hc (((sm_code 315).zip (sm_pos 315)).drop 720) _ lkp_315_720 (by rw [List.drop_drop]; exact z)
  have z := hc (((sm_code 315).zip (sm_pos 315)).drop 660) _ lkp_315_660 (by rw [List.drop_drop]; exact z)
  have z := hc (((sm_code 315).zip (sm_pos 315)).drop 600) _ lkp_315_600 (by rw [List.drop_drop]; exact z)
  have z := hc (((sm_code 315).zip (sm_pos 315)).drop 540) _ lkp_315_540 (by rw [List.drop_drop]; exact z)
  have z := hc (((sm_code 315).zip (sm_pos 315)).drop 480) _ lkp_315_480 (by rw [List.drop_drop]; exact z)
  have z := hc (((sm_code 315).zip (sm_pos 315)).drop 420) _ lkp_315_420 (by rw [List.drop_drop]; exact z)
  have z := hc (((sm_code 315).zip (sm_pos 315)).drop 360) _ lkp_315_360 (by rw [List.drop_drop]; exact z)
  have z := hc (((sm_code 315).zip (sm_pos 315)).drop 300) _ lkp_315_300 (by rw [List.drop_drop]; exact z)
  have z := hc (((sm_code 315).zip (sm_pos 315)).drop 240) _ lkp_315_240 (by rw [List.drop_drop]; exact z)
  have z := hc (((sm_code 315).zip (sm_pos 315)).drop 180) _ lkp_315_180 (by rw [List.drop_drop]; exact z)
  have z := hc (((sm_code 315).zip (sm_pos 315)).drop 120) _ lkp_315_120 (by rw [List.drop_drop]; exact z)
  have z := hc (((sm_code 315).zip (sm_pos 315)).drop 60) _ lkp_315_60 (by rw [List.drop_drop]; exact z)
  have z := hc (((sm_code 315).zip (sm_pos 315)).drop 0) _ lkp_315_0 (by rw [List.drop_drop]; exact z)
  exact z
