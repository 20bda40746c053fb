theorem tt_lin : (List.range 316).all (fun i => sm_lin (sm_code i)) = true := by decide +kernel
theorem tt_lin' (i : Nat) (h : i < 316) : sm_lin (sm_code i) = true := List.all_eq_true.mp tt_lin i (List.mem_range.mpr h)
