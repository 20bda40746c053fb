/-! The law: one call of the script; the end; a script of one call. -/
theorem inv_s {c : Nat} {mo : Bool} {G : Nat × Nat} {I : Nat → Nat → Int32} {J : Nat → Nat → Int64} (h : inv c mo G I J) : inv (c + 1) mo G I J := inv_e h (fun _ _ _ => rfl) (fun _ _ _ => rfl) rfl rfl
section L3
variable {X : (Nat → Int32) × Nat} {c : Nat} {mo : Bool} {G : Nat × Nat} {I : Nat → Nat → Int32} {J : Nat → Nat → Int64} {Q : Option Value → sm_M → Prop}
theorem vp_z {a n : Nat} (ha : a < 2147483648) (h : a < n) : vp_in (zI a) n := Eq.mpr (zI_vp (a := a) (n := n) ha) h
theorem lw_case (h : inv c mo G I J) (hc : c ≤ 1000) {i : Nat} (h7 : i + 7 ≤ X.2) (hX : X.2 < 1000000) (hQ : ∀ M', Inv (c + 1) M' → sm_wp X 315 23 [some (.retAddr 1), some (.ref 0), some (.ref 81), some (.ref 142), some (.int (zI (i + 7))), none, none] [] M' Q) : sm_wp X 315 23 [some (.retAddr 1), some (.ref 0), some (.ref 81), some (.ref 142), some (.int (zI i)), none, none] [] (sM mo G I J) Q := by
  have e : ∀ k : Nat, zI i + zI k = zI (i + k) := fun k => zI_add i k
  have v : vp6 (zI i) X.2 := ⟨by rw [show (1 : Int32) = zI 1 from rfl, e]; exact vp_z (by omega) (by omega), by rw [show (2 : Int32) = zI 2 from rfl, e]; exact vp_z (by omega) (by omega), by rw [show (3 : Int32) = zI 3 from rfl, e]; exact vp_z (by omega) (by omega), by rw [show (4 : Int32) = zI 4 from rfl, e]; exact vp_z (by omega) (by omega), by rw [show (5 : Int32) = zI 5 from rfl, e]; exact vp_z (by omega) (by omega), by rw [show (6 : Int32) = zI 6 from rfl, e]; exact vp_z (by omega) (by omega)⟩
  have hQ' : ∀ M', Inv (c + 1) M' → sm_wp X 315 23 [some (.retAddr 1), some (.ref 0), some (.ref 81), some (.ref 142), some (.int (zI i + 7)), none, none] [] M' Q := fun M' hM => by
    rw [show (7 : Int32) = zI 7 from rfl, e]
    exact hQ M' hM
  rw [bk_315_23, if_neg (by
    show ¬ zI X.2 - zI 7 < zI i
    rw [zI_sub (by omega), zI_lt (by omega) (by omega)]
    omega)]
  refine ⟨vp_z (by omega) (by omega), ?_⟩
  by_cases h0 : X.1 (zI i).toNatClampNeg &&& 63 = 0
  · rw [if_pos h0]; exact lc_0 h hc v hQ'
  rw [if_neg h0]
  by_cases h1 : X.1 (zI i).toNatClampNeg &&& 63 = 1
  · rw [if_pos h1]; exact lc_1 h hc v hQ'
  rw [if_neg h1]
  by_cases h2 : X.1 (zI i).toNatClampNeg &&& 63 = 2
  · rw [if_pos h2]; exact lc_2 h hc v hQ'
  rw [if_neg h2]
  by_cases h3 : X.1 (zI i).toNatClampNeg &&& 63 = 3
  · rw [if_pos h3]; exact lc_3 h hc v hQ'
  rw [if_neg h3]
  by_cases h4 : X.1 (zI i).toNatClampNeg &&& 63 = 4
  · rw [if_pos h4]; exact lc_4 h hc v hQ'
  rw [if_neg h4]
  by_cases h5 : X.1 (zI i).toNatClampNeg &&& 63 = 5
  · rw [if_pos h5]; exact lc_5 h hc v hQ'
  rw [if_neg h5]
  by_cases h6 : X.1 (zI i).toNatClampNeg &&& 63 = 6
  · rw [if_pos h6]; exact lc_6 h hc v hQ'
  rw [if_neg h6]
  by_cases h7 : X.1 (zI i).toNatClampNeg &&& 63 = 7
  · rw [if_pos h7]; exact lc_7 h hc v hQ'
  rw [if_neg h7]
  by_cases h8 : X.1 (zI i).toNatClampNeg &&& 63 = 8
  · rw [if_pos h8]; exact lc_8 h hc v hQ'
  rw [if_neg h8]
  by_cases h9 : X.1 (zI i).toNatClampNeg &&& 63 = 9
  · rw [if_pos h9]; exact lc_9 h hc v hQ'
  rw [if_neg h9]
  by_cases h10 : X.1 (zI i).toNatClampNeg &&& 63 = 10
  · rw [if_pos h10]; exact lc_10 h hc v hQ'
  rw [if_neg h10]
  by_cases h11 : X.1 (zI i).toNatClampNeg &&& 63 = 11
  · rw [if_pos h11]; exact lc_11 h hc v hQ'
  rw [if_neg h11]
  by_cases h12 : X.1 (zI i).toNatClampNeg &&& 63 = 12
  · rw [if_pos h12]; exact lc_12 h hc v hQ'
  rw [if_neg h12]
  by_cases h13 : X.1 (zI i).toNatClampNeg &&& 63 = 13
  · rw [if_pos h13]; exact lc_13 h hc v hQ'
  rw [if_neg h13]
  by_cases h14 : X.1 (zI i).toNatClampNeg &&& 63 = 14
  · rw [if_pos h14]; exact lc_14 h hc v hQ'
  rw [if_neg h14]
  by_cases h15 : X.1 (zI i).toNatClampNeg &&& 63 = 15
  · rw [if_pos h15]; exact lc_15 h hc v hQ'
  rw [if_neg h15]
  by_cases h16 : X.1 (zI i).toNatClampNeg &&& 63 = 16
  · rw [if_pos h16]; exact lc_16 h hc v hQ'
  rw [if_neg h16]
  by_cases h17 : X.1 (zI i).toNatClampNeg &&& 63 = 17
  · rw [if_pos h17]; exact lc_17 h hc v hQ'
  rw [if_neg h17]
  by_cases h18 : X.1 (zI i).toNatClampNeg &&& 63 = 18
  · rw [if_pos h18]; exact lc_18 h hc v hQ'
  rw [if_neg h18]
  by_cases h19 : X.1 (zI i).toNatClampNeg &&& 63 = 19
  · rw [if_pos h19]; exact lc_19 h hc v hQ'
  rw [if_neg h19]
  by_cases h20 : X.1 (zI i).toNatClampNeg &&& 63 = 20
  · rw [if_pos h20]; exact lc_20 h hc v hQ'
  rw [if_neg h20]
  by_cases h21 : X.1 (zI i).toNatClampNeg &&& 63 = 21
  · rw [if_pos h21]; exact lc_21 h hc v hQ'
  rw [if_neg h21]
  by_cases h22 : X.1 (zI i).toNatClampNeg &&& 63 = 22
  · rw [if_pos h22]; exact lc_22 h hc v hQ'
  rw [if_neg h22]
  by_cases h23 : X.1 (zI i).toNatClampNeg &&& 63 = 23
  · rw [if_pos h23]; exact lc_23 h hc v hQ'
  rw [if_neg h23]
  by_cases h24 : X.1 (zI i).toNatClampNeg &&& 63 = 24
  · rw [if_pos h24]; exact lc_24 h hc v hQ'
  rw [if_neg h24]
  by_cases h25 : X.1 (zI i).toNatClampNeg &&& 63 = 25
  · rw [if_pos h25]; exact lc_25 h hc v hQ'
  rw [if_neg h25]
  by_cases h26 : X.1 (zI i).toNatClampNeg &&& 63 = 26
  · rw [if_pos h26]; exact lc_26 h hc v hQ'
  rw [if_neg h26]
  by_cases h27 : X.1 (zI i).toNatClampNeg &&& 63 = 27
  · rw [if_pos h27]; exact lc_27 h hc v hQ'
  rw [if_neg h27]
  by_cases h28 : X.1 (zI i).toNatClampNeg &&& 63 = 28
  · rw [if_pos h28]; exact lc_28 h hc v hQ'
  rw [if_neg h28]
  by_cases h29 : X.1 (zI i).toNatClampNeg &&& 63 = 29
  · rw [if_pos h29]; exact lc_29 h hc v hQ'
  rw [if_neg h29]
  by_cases h30 : X.1 (zI i).toNatClampNeg &&& 63 = 30
  · rw [if_pos h30]; exact lc_30 h hc v hQ'
  rw [if_neg h30]
  by_cases h31 : X.1 (zI i).toNatClampNeg &&& 63 = 31
  · rw [if_pos h31]; exact lc_31 h hc v hQ'
  rw [if_neg h31]
  by_cases h32 : X.1 (zI i).toNatClampNeg &&& 63 = 32
  · rw [if_pos h32]; exact lc_32 h hc v hQ'
  rw [if_neg h32]
  by_cases h33 : X.1 (zI i).toNatClampNeg &&& 63 = 33
  · rw [if_pos h33]; exact lc_33 h hc v hQ'
  rw [if_neg h33]
  by_cases h34 : X.1 (zI i).toNatClampNeg &&& 63 = 34
  · rw [if_pos h34]; exact lc_34 h hc v hQ'
  rw [if_neg h34]
  by_cases h35 : X.1 (zI i).toNatClampNeg &&& 63 = 35
  · rw [if_pos h35]; exact op_lookL h v.1 v.2.1 hQ'
  rw [if_neg h35]
  by_cases h36 : X.1 (zI i).toNatClampNeg &&& 63 = 36
  · rw [if_pos h36]; exact lc_36 h hc v hQ'
  rw [if_neg h36]
  exact lw_end hQ' ⟨mo, G, I, J, rfl, inv_s h⟩
theorem lw_over {M : sm_M} (h : Inv c M) {i : Nat} (h7 : X.2 < i + 7) (hi : i ≤ X.2) (hX : X.2 < 1000000) (hQ : Q (some (.int 1)) M) : sm_wp X 315 23 [some (.retAddr 1), some (.ref 0), some (.ref 81), some (.ref 142), some (.int (zI i)), none, none] [] M Q := by
  obtain ⟨mo, G, I, J, rfl, hI⟩ := h
  rw [bk_315_23, if_pos (by
    show zI X.2 - zI 7 < zI i
    by_cases g : 7 ≤ X.2
    · rw [zI_sub g, zI_lt (by omega) (by omega)]
      omega
    · have : X.2 = 0 ∨ X.2 = 1 ∨ X.2 = 2 ∨ X.2 = 3 ∨ X.2 = 4 ∨ X.2 = 5 ∨ X.2 = 6 := by omega
      have ng : zI X.2 - zI 7 < 0 := by
        rcases this with e | e | e | e | e | e | e <;> rw [e] <;> decide
      exact Int32.lt_of_lt_of_le ng (by rw [show (0 : Int32) = zI 0 from rfl, zI_le (by omega) (by omega)]; exact Nat.zero_le _)), bk_315_1680]
  exact ⟨Or.inr rfl, hQ⟩
theorem lw_loop (hX : X.2 ≤ 3584) (hQ : ∀ M' k, k ≤ 512 → Inv k M' → Q (some (.int 1)) M') : ∀ (d c i : Nat) (M : sm_M), Inv c M → 7 * c ≤ i → i ≤ X.2 → X.2 ≤ i + d → sm_wp X 315 23 [some (.retAddr 1), some (.ref 0), some (.ref 81), some (.ref 142), some (.int (zI i)), none, none] [] M Q := by
  intro d
  induction d with
  | zero => intro c i M hM h1 h2 h3; exact lw_over hM (by omega) h2 (by omega) (hQ _ c (by omega) hM)
  | succ d ih =>
    intro c i M hM h1 h2 h3
    by_cases g : X.2 < i + 7
    · exact lw_over hM g h2 (by omega) (hQ _ c (by omega) hM)
    · obtain ⟨mo, G, I, J, rfl, hI⟩ := hM
      refine lw_case hI (by omega) (by omega) (by omega) ?_
      intro M' hM'
      exact ih (c + 1) (i + 7) M' hM' (by omega) (by omega) (by omega)
/-- every script -/
theorem law_all (hX : X.2 ≤ 3584) (hQ : ∀ M' k, k ≤ 512 → Inv k M' → Q (some (.int 1)) M') : sm_wp X 315 0 [some (.retAddr 1), none, none, none, none, none, none] [] ([], (0, 0), fun _ _ => 0, fun _ _ => 0, []) Q := by
  refine cn_15 X _ _ _ ?_
  have I0 : Inv 0 (sM false (0, 0) I00 J00) := ⟨false, (0, 0), I00, J00, rfl, inv_0⟩
  rw [kk_end, rr_end]
  show sm_wp X 315 23 [some (.retAddr 1), some (.ref 0), some (.ref 81), some (.ref 142), some (.int (zI 0)), none, none] [] (sM false (0, 0) I00 J00) Q
  exact lw_loop hX hQ X.2 0 0 _ I0 (by omega) (by omega) (by omega)
end L3
