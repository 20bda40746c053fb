def ty (i : Nat) : Nat := bif Nat.beq i 207 then 212 else i
theorem ty_ok (i : Nat) : my (ty i) = my i ∧ mb (ty i) = mb i ∧ (sm_mi (ty i)).2 = (sm_mi i).2 ∧ mr (ty i) = mr i ∧ mq (ty i) = mq i ∧ mc (ty i) = mc i := by
  unfold ty
  cases h : Nat.beq i 207 with
  | true =>
    have := neq h
    subst this
    exact ⟨rfl, rfl, rfl, rfl, rfl, rfl⟩
  | false => exact ⟨rfl, rfl, rfl, rfl, rfl, rfl⟩
theorem cwn_0 : ((List.range' 0 80).all fun i => wc (mq i).2.1 [10, ty i]) = true := by decide +kernel
theorem lwn_0 : ((List.range' 0 80).all fun i => Nat.beq i 311 || (Nat.beq i 312 || (Nat.beq i 313 || (Nat.beq i 207 || nlw i)))) = true := by decide +kernel
theorem cwn_80 : ((List.range' 80 80).all fun i => wc (mq i).2.1 [10, ty i]) = true := by decide +kernel
theorem lwn_80 : ((List.range' 80 80).all fun i => Nat.beq i 311 || (Nat.beq i 312 || (Nat.beq i 313 || (Nat.beq i 207 || nlw i)))) = true := by decide +kernel
theorem cwn_160 : ((List.range' 160 80).all fun i => wc (mq i).2.1 [10, ty i]) = true := by decide +kernel
theorem lwn_160 : ((List.range' 160 80).all fun i => Nat.beq i 311 || (Nat.beq i 312 || (Nat.beq i 313 || (Nat.beq i 207 || nlw i)))) = true := by decide +kernel
theorem cwn_240 : ((List.range' 240 75).all fun i => wc (mq i).2.1 [10, ty i]) = true := by decide +kernel
theorem lwn_240 : ((List.range' 240 75).all fun i => Nat.beq i 311 || (Nat.beq i 312 || (Nat.beq i 313 || (Nat.beq i 207 || nlw i)))) = true := by decide +kernel
theorem cw_of {l : List Nat} {i : Nat} (h : (l.all fun i => wc (mq i).2.1 [10, ty i]) = true) (hi : i ∈ l) : lw_tbl[(mq i).2.1]? = some (.code (my i) (mb i) (sm_mi i).2 (mr i)) := by
  have h := wc_ok (List.all_eq_true.mp h i hi)
  obtain ⟨e1, e2, e3, e4, -, -⟩ := ty_ok i
  rw [h]
  show some (Cond.code (my (ty i)) (mb (ty i)) (sm_mi (ty i)).2 (mr (ty i))) = _
  rw [e1, e2, e3, e4]
theorem cw_all : ∀ i, i < 315 → lw_tbl[(mq i).2.1]? = some (.code (my i) (mb i) (sm_mi i).2 (mr i)) := by
  intro i h
  by_cases h80 : i < 80
  · exact cw_of cwn_0 (List.mem_range'_1.mpr ⟨by omega, by omega⟩)
  by_cases h160 : i < 160
  · exact cw_of cwn_80 (List.mem_range'_1.mpr ⟨by omega, by omega⟩)
  by_cases h240 : i < 240
  · exact cw_of cwn_160 (List.mem_range'_1.mpr ⟨by omega, by omega⟩)
  exact cw_of cwn_240 (List.mem_range'_1.mpr ⟨by omega, by omega⟩)
theorem lkw_ty {i : Nat} (h : lkw (ty i) = true) : lkw i = true := by
  obtain ⟨e1, -, -, -, e5, -⟩ := ty_ok i
  unfold lkw at h ⊢
  rw [e1, e5] at h
  exact h
theorem lkw_of {l : List Nat} {i : Nat} (h : (l.all fun i => Nat.beq i 311 || (Nat.beq i 312 || (Nat.beq i 313 || (Nat.beq i 207 || nlw i)))) = true) (hi : i ∈ l) (hn : i < 311 ∨ i = 314) : i = 207 ∨ lkw i = true := by
  have h := List.all_eq_true.mp h i hi
  simp only [Bool.or_eq_true] at h
  rcases h with h | h | h | h | h
  · have := neq h; omega
  · have := neq h; omega
  · have := neq h; omega
  · exact Or.inl (neq h)
  · exact Or.inr (nlw_ok (by omega) h)
theorem lkw_al0 : ∀ i, i < 315 → (i < 311 ∨ i = 314) → i = 207 ∨ lkw i = true := by
  intro i h hn
  by_cases h80 : i < 80
  · exact lkw_of lwn_0 (List.mem_range'_1.mpr ⟨by omega, by omega⟩) hn
  by_cases h160 : i < 160
  · exact lkw_of lwn_80 (List.mem_range'_1.mpr ⟨by omega, by omega⟩) hn
  by_cases h240 : i < 240
  · exact lkw_of lwn_160 (List.mem_range'_1.mpr ⟨by omega, by omega⟩) hn
  exact lkw_of lwn_240 (List.mem_range'_1.mpr ⟨by omega, by omega⟩) hn
theorem lkw_all : ∀ i, i < 315 → (i < 311 ∨ i = 314) → lkw i = true := by
  intro i h hn
  rcases lkw_al0 i h hn with e | e
  · subst e
    refine lkw_ty ?_
    exact (lkw_al0 212 (by decide) (by decide)).resolve_left (by decide)
  · exact e
