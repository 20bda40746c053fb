/-! Shares: one land more in a row. -/
theorem zI_p1 (k : Nat) : zI (k + 1) + (-1) = zI k := by
  rw [← zI_add k 1, Int32.add_assoc, show zI 1 + (-1) = 0 by decide, Int32.add_zero]
theorem zI_sti {a b : Nat} (ha : a < 1073741824) (hb : b < 1073741824) : (zI a - zI b).toInt = (a : Int) - b := by
  rw [Int32.toInt_sub, zI_ti (by omega), zI_ti (by omega)]
  exact Int.bmod_eq_of_le (by omega) (by omega)
def nwF (M : Nat → Int32) (F wa wb at' : Nat) : Int32 :=
  if (if F + wa ≤ at' then M (at' - wa) else -1) ≤ (if M at' = -1 then -1 else M at' + zI wb) then (if M at' = -1 then -1 else M at' + zI wb) else (if F + wa ≤ at' then M (at' - wa) else -1)
def adR (M : Nat → Int32) (F E wa wb i : Nat) : Nat → Int32 := fun j => if F + i ≤ j ∧ j ≤ F + E then nwF M F wa wb j else M j
section S1
variable {X : (Nat → Int32) × Nat} {mo : Bool} {G : Nat × Nat} {I : Nat → Nat → Int32} {J : Nat → Nat → Int64} {Q : Option Value → sm_M → Prop}
theorem st_148 {F wa wb at' : Nat} (h1 : F ≤ at') (h2 : at' < 5955) (h3 : wa ≤ 99) : sm_wp X 148 21 [some (.ref 48), some (.int (zI F)), none, some (.int (zI wa)), some (.int (zI wb)), some (.int (zI at')), none, none] [] (sM true G I J) Q = sm_wp X 148 21 [some (.ref 48), some (.int (zI F)), none, some (.int (zI wa)), some (.int (zI wb)), some (.int (zI at' + (-1))), none, none] [] (sM true G (up2 I 143 at' (nwF (I 143) F wa wb at')) J) Q := by
  have a1 : zI at' - zI wa < zI F ↔ ¬ F + wa ≤ at' := by
    rw [Int32.lt_iff_toInt_lt, zI_sti (by omega) (by omega), zI_ti (by omega)]
    omega
  have s2 : ∀ s0 : Int32, sm_wp X 148 75 [some (.ref 48), some (.int (zI F)), none, some (.int (zI wa)), some (.int (zI wb)), some (.int (zI at')), some (.int (if I 143 at' = -1 then -1 else I 143 at' + zI wb)), none] [.int s0] (sM true G I J) Q = sm_wp X 148 21 [some (.ref 48), some (.int (zI F)), none, some (.int (zI wa)), some (.int (zI wb)), some (.int (zI at' + (-1))), none, none] [] (sM true G (up2 I 143 at' (if s0 ≤ (if I 143 at' = -1 then -1 else I 143 at' + zI wb) then (if I 143 at' = -1 then -1 else I 143 at' + zI wb) else s0)) J) Q := by
    intro s0
    rw [bk_148_75]
    by_cases g : s0 ≤ (if I 143 at' = -1 then -1 else I 143 at' + zI wb)
    · rw [if_pos g, if_pos g, bk_148_95, zI_vp (by omega), zI_cn (by omega), eq_true h2, true_and]
    · rw [if_neg g, if_neg g, bk_148_97, zI_vp (by omega), zI_cn (by omega), eq_true h2, true_and]
  have s1 : sm_wp X 148 74 [some (.ref 48), some (.int (zI F)), none, some (.int (zI wa)), some (.int (zI wb)), some (.int (zI at')), some (.int (if I 143 at' = -1 then -1 else I 143 at' + zI wb)), none] [] (sM true G I J) Q = sm_wp X 148 21 [some (.ref 48), some (.int (zI F)), none, some (.int (zI wa)), some (.int (zI wb)), some (.int (zI at' + (-1))), none, none] [] (sM true G (up2 I 143 at' (if (-1 : Int32) ≤ (if I 143 at' = -1 then -1 else I 143 at' + zI wb) then (if I 143 at' = -1 then -1 else I 143 at' + zI wb) else -1)) J) Q := by
    rw [bk_148_74]
    by_cases g : (-1 : Int32) ≤ (if I 143 at' = -1 then -1 else I 143 at' + zI wb)
    · rw [if_pos g, if_pos g, bk_148_95, zI_vp (by omega), zI_cn (by omega), eq_true h2, true_and]
    · rw [if_neg g, if_neg g, bk_148_97, zI_vp (by omega), zI_cn (by omega), eq_true h2, true_and]
  have nlt : ¬ zI at' < zI F := by rw [zI_lt (by omega) (by omega)]; omega
  unfold nwF
  by_cases g : F + wa ≤ at'
  · have g2 : ¬ zI at' - zI wa < zI F := fun e => a1.mp e g
    have e3 : zI at' - zI wa = zI (at' - wa) := zI_sub (by omega)
    rw [if_pos g, ← s2 (I 143 (at' - wa)), bk_148_21, if_neg nlt, zI_vp (by omega), zI_cn (by omega), eq_true h2, true_and]
    by_cases m : I 143 at' = -1
    · rw [if_neg (fun e => e m), if_pos m, bk_148_52, if_neg g2, e3, zI_vp (by omega), zI_cn (by omega), eq_true (by omega : at' - wa < 5955), true_and]
    · rw [if_pos m, if_neg m, bk_148_42, if_neg g2, e3, zI_vp (by omega), zI_cn (by omega), zI_vp (by omega), zI_cn (by omega), eq_true h2, true_and, eq_true (by omega : at' - wa < 5955), true_and]
  · have g2 : zI at' - zI wa < zI F := a1.mpr g
    rw [if_neg g, ← s1, bk_148_21, if_neg nlt, zI_vp (by omega), zI_cn (by omega), eq_true h2, true_and]
    by_cases m : I 143 at' = -1
    · rw [if_neg (fun e => e m), if_pos m, bk_148_52, if_pos g2]
    · rw [if_pos m, if_neg m, bk_148_42, if_pos g2, zI_vp (by omega), zI_cn (by omega), eq_true h2, true_and]
theorem lp_148 {F E wa wb : Nat} (h2 : F + E < 5955) (h3 : wa ≤ 99) : ∀ i, i ≤ E + 1 → sm_wp X 148 21 [some (.ref 48), some (.int (zI F)), none, some (.int (zI wa)), some (.int (zI wb)), some (.int (zI (F + i) + (-1))), none, none] [] (sM true G (rw2 I 143 (adR (I 143) F E wa wb i)) J) Q = Q none (sM true G (rw2 I 143 (adR (I 143) F E wa wb 0)) J) := by
  intro i
  induction i with
  | zero =>
    intro _
    have g : zI (F + 0) + (-1) < zI F := by
      cases F with
      | zero => decide
      | succ f =>
        rw [Nat.add_zero, zI_p1, zI_lt (by omega) (by omega)]
        omega
    rw [bk_148_21, if_pos g, bk_148_104, true_and]
  | succ i ih =>
    intro hi
    rw [← ih (by omega), show F + (i + 1) = (F + i) + 1 from rfl, zI_p1, st_148 (by omega) (by omega) h3]
    have e1 : nwF (rw2 I 143 (adR (I 143) F E wa wb (i + 1)) 143) F wa wb (F + i) = nwF (I 143) F wa wb (F + i) := by
      have e2 : ∀ j, j ≤ F + i → rw2 I 143 (adR (I 143) F E wa wb (i + 1)) 143 j = I 143 j := by
        intro j hj
        rw [rw2_a]
        unfold adR
        rw [if_neg (by omega)]
      unfold nwF
      rw [e2 (F + i) (Nat.le_refl _), e2 (F + i - wa) (by omega)]
    rw [e1, up2_rw, rw2_a, rw2_rw]
    have e3 : va_up (adR (I 143) F E wa wb (i + 1)) (F + i) (nwF (I 143) F wa wb (F + i)) = adR (I 143) F E wa wb i := by
      funext j
      rw [va_ap]
      unfold adR
      by_cases g : j = F + i
      · subst g
        rw [if_pos rfl, if_pos ⟨by omega, by omega⟩]
      · rw [if_neg g]
        by_cases g2 : F + i ≤ j ∧ j ≤ F + E
        · rw [if_pos g2, if_pos ⟨by omega, by omega⟩]
        · rw [if_neg g2, if_neg (by omega)]
    rw [e3]
theorem ct_148 {F E wa wb : Nat} (h2 : F + E < 5955) (h3 : wa ≤ 99) : sm_wp X 148 0 [some (.ref 48), some (.int (zI F)), some (.int (zI (F + E))), some (.int (zI wa)), some (.int (zI wb)), none, none, none] [] (sM true G I J) Q = Q none (sM true G (rw2 I 143 (adR (I 143) F E wa wb 0)) J) := by
  have e : adR (I 143) F E wa wb (E + 1) = I 143 := by
    funext j
    unfold adR
    rw [if_neg (by omega)]
  rw [← lp_148 (X := X) (G := G) (I := I) (J := J) (Q := Q) (wb := wb) h2 h3 (E + 1) (Nat.le_refl _), e, rw2_self, bk_148_0, if_neg (by rw [zIr_lt (c := 0) (by decide) (by omega)]; exact Nat.not_lt_zero _), if_neg (by rw [show Int32.ofNat 5955 = zI 5955 from rfl, zI_le (by omega) (by omega)]; omega), if_pos (by rw [zIl_le (c := 0) (by decide) (by omega)]; exact Nat.zero_le _), bk_148_18, show F + (E + 1) = (F + E) + 1 from rfl, zI_p1]
end S1
