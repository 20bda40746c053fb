/-! The law on a script of one call, with its room. -/
theorem room_k (mo : Bool) : (sK mo).length ≤ 144 ∧ ((sK mo).map (fun q => q.2)).sum ≤ 100000 := by
  cases mo <;> decide +kernel
theorem law_room {k : Nat} {M : sm_M} (hk : k ≤ 512) (h : Inv k M) : cz M ≤ 601024 ∧ sz M ≤ 7293034 := by
  obtain ⟨mo, G, I, J, rfl, n, m, t, p, q, r, ch, ln, -, -, -, -, -, -, -, -, -, -, -, -, -, -, -, -, hZ⟩ := h
  have h1 := room_k mo
  refine ⟨?_, ?_⟩
  · show (sK mo).length + G.1 ≤ 601024
    have := hZ.1
    omega
  · show ((sK mo).map (fun q => q.2)).sum + G.2 ≤ 7293034
    have := hZ.2
    omega
theorem law_wpX {X : (Nat → Int32) × Nat} (hX : X.2 ≤ 3584) : law_wp X := law_all hX (fun _ _ hk hI => ⟨rfl, law_room hk hI⟩)
