/-! Shares: the table is made at the first use. -/
section S0
variable {X : (Nat → Int32) × Nat} {mo : Bool} {G : Nat × Nat} {I : Nat → Nat → Int32} {J : Nat → Nat → Int64} {Q : Option Value → sm_M → Prop}
set_option maxRecDepth 100000 in
theorem bz_145_t : sm_wp X 145 19 [some (.ref 48), none, none, none] [] (sM true G I J) Q = sm_wp X 145 55 [some (.ref 48), none, none, none] [] (sM true G (up2 (up2 I 48 1 (I 1 4)) 48 2 0) J) Q :=
  (sm_blk X 145 19 (tt_lin 145 (by decide)) rfl rfl _ _ _ _).trans rfl
set_option maxRecDepth 100000 in
theorem bz_145_f : sm_wp X 145 19 [some (.ref 48), none, none, none] [] (sM false G I J) Q = sm_wp X 145 59 [some (.ref 48), some (.int 0), some (.int 1), none] [] (sM true G (up2 (up2 I 48 1 (I 1 4)) 48 2 0) J) Q :=
  (sm_blk X 145 19 (tt_lin 145 (by decide)) rfl rfl _ _ _ _).trans rfl
theorem sh_145_0 : sm_wp X 145 0 [some (.ref 48), none, none, none] [] (sM mo G I J) Q = if I 48 1 = I 1 4 then Q (some (.int (I 48 2))) (sM mo G I J) else sm_wp X 145 59 [some (.ref 48), some (.int 0), some (.int 1), none] [] (sM true G (up2 (up2 I 48 1 (I 1 4)) 48 2 0) J) Q := by
  by_cases h : I 48 1 = I 1 4
  · rw [if_pos h]
    cases mo
    · rw [bkf_145_0, if_neg (fun e => e h)]
      simp only [true_and]
    · rw [bk_145_0, if_neg (fun e => e h)]
      simp only [true_and]
  · rw [if_neg h]
    cases mo
    · rw [bkf_145_0, if_pos h, bz_145_f]
    · rw [bk_145_0, if_pos h, bz_145_t, bk_145_55]
end S0
