/-! Lands are handed over. -/
def hvw (K : Nat → Nat → Int32) (sel : Nat → Bool) (j : Nat) : Bool := sel (j / 80) && decide (j % 80 = (K 6 (j / 80)).toNatClampNeg)
def hv (K : Nat → Nat → Int32) (sel : Nat → Bool) (who : Nat → Int32) (pap : Int32) (cnt : Nat) : Nat → Nat → Int32 := fun d j =>
  if d = 4 then (if sel j = true then who j else K 4 j)
  else if d = 6 then (if sel j = true then K 6 j + 1 else K 6 j)
  else if d = 7 then (if hvw K sel j = true then who (j / 80) else K 7 j)
  else if d = 8 then (if hvw K sel j = true then K 1 3 else K 8 j)
  else if d = 9 then (if hvw K sel j = true then pap else K 9 j)
  else if d = 1 then (if j = 4 then K 1 4 + zI cnt else K 1 j)
  else K d j
section H1
variable {K : Nat → Nat → Int32} {sel : Nat → Bool} {who : Nat → Int32} {pap : Int32} {cnt : Nat}
theorem hv_4 (j : Nat) : hv K sel who pap cnt 4 j = if sel j = true then who j else K 4 j := rfl
theorem hv_6 (j : Nat) : hv K sel who pap cnt 6 j = if sel j = true then K 6 j + 1 else K 6 j := rfl
theorem hv_7 (j : Nat) : hv K sel who pap cnt 7 j = if hvw K sel j = true then who (j / 80) else K 7 j := rfl
theorem hv_8 (j : Nat) : hv K sel who pap cnt 8 j = if hvw K sel j = true then K 1 3 else K 8 j := rfl
theorem hv_9 (j : Nat) : hv K sel who pap cnt 9 j = if hvw K sel j = true then pap else K 9 j := rfl
theorem hv_1 (j : Nat) : hv K sel who pap cnt 1 j = if j = 4 then K 1 4 + zI cnt else K 1 j := rfl
theorem hv_d {d : Nat} (h4 : ¬ d = 4) (h6 : ¬ d = 6) (h7 : ¬ d = 7) (h8 : ¬ d = 8) (h9 : ¬ d = 9) (h1 : ¬ d = 1) : hv K sel who pap cnt d = K d := by
  funext j
  unfold hv
  rw [if_neg h4, if_neg h6, if_neg h7, if_neg h8, if_neg h9, if_neg h1]
theorem hv_0 (h : ∀ l, sel l = false) : hv K sel who pap 0 = K := by
  funext d j
  have hw : ∀ j, ¬ hvw K sel j = true := fun j e => by unfold hvw at e; rw [h] at e; cases e
  have hs : ∀ j, ¬ sel j = true := fun j e => by rw [h] at e; cases e
  unfold hv
  by_cases d4 : d = 4
  · rw [if_pos d4, if_neg (hs j), d4]
  rw [if_neg d4]
  by_cases d6 : d = 6
  · rw [if_pos d6, if_neg (hs j), d6]
  rw [if_neg d6]
  by_cases d7 : d = 7
  · rw [if_pos d7, if_neg (hw j), d7]
  rw [if_neg d7]
  by_cases d8 : d = 8
  · rw [if_pos d8, if_neg (hw j), d8]
  rw [if_neg d8]
  by_cases d9 : d = 9
  · rw [if_pos d9, if_neg (hw j), d9]
  rw [if_neg d9]
  by_cases d1 : d = 1
  · rw [if_pos d1]
    by_cases j4 : j = 4
    · rw [if_pos j4, j4, d1]; exact Int32.add_zero _
    · rw [if_neg j4, d1]
  rw [if_neg d1]
/-- one more -/
def slp (sel : Nat → Bool) (l : Nat) : Nat → Bool := fun i => sel i || decide (i = l)
theorem hvw_s {l w : Nat} (hw : K 6 l = zI w) (h80 : w < 80) (i : Nat) : hvw K (slp sel l) i = (hvw K sel i || decide (i = 80 * l + w)) := by
  unfold hvw slp
  by_cases e : i / 80 = l
  · have cn : (K 6 (i / 80)).toNatClampNeg = w := by rw [e, hw]; exact zI_cn (by omega)
    rw [cn]
    by_cases e2 : i % 80 = w
    · have : i = 80 * l + w := by omega
      rw [decide_eq_true e, decide_eq_true e2, decide_eq_true this, Bool.or_true, Bool.and_true, Bool.or_true]
    · have : ¬ i = 80 * l + w := by omega
      rw [decide_eq_false e2, decide_eq_false this, Bool.and_false, Bool.and_false, Bool.or_false]
  · have : ¬ i = 80 * l + w := by omega
    rw [decide_eq_false e, decide_eq_false this, Bool.or_false, Bool.or_false]
theorem hv_s {l w : Nat} (hs : sel l = false) (hw : K 6 l = zI w) (h80 : w < 80) : up2 (up2 (up2 (up2 (up2 (up2 (hv K sel who pap cnt) 7 (80 * l + w) (who l)) 8 (80 * l + w) (K 1 3)) 9 (80 * l + w) pap) 6 l (zI (w + 1))) 4 l (who l)) 1 4 (K 1 4 + zI (cnt + 1)) = hv K (slp sel l) who pap (cnt + 1) := by
  have ss : ∀ i, slp sel l i = (sel i || decide (i = l)) := fun _ => rfl
  funext d i
  by_cases d1 : d = 1
  · subst d1
    rw [up2_ra, va_ap, hv_1]
    by_cases i4 : i = 4
    · rw [if_pos i4, if_pos i4]
    · rw [if_neg i4, if_neg i4, up2_rn _ _ _ _ _ (by decide), up2_rn _ _ _ _ _ (by decide), up2_rn _ _ _ _ _ (by decide), up2_rn _ _ _ _ _ (by decide), up2_rn _ _ _ _ _ (by decide), hv_1, if_neg i4]
  by_cases d4 : d = 4
  · subst d4
    rw [up2_rn _ _ _ _ _ d1, up2_ra, va_ap, hv_4, ss]
    by_cases e : i = l
    · rw [if_pos e, e, decide_eq_true rfl, Bool.or_true, if_pos rfl]
    · rw [if_neg e, decide_eq_false e, Bool.or_false, up2_rn _ _ _ _ _ (by decide), up2_rn _ _ _ _ _ (by decide), up2_rn _ _ _ _ _ (by decide), up2_rn _ _ _ _ _ (by decide), hv_4]
  by_cases d6 : d = 6
  · subst d6
    rw [up2_rn _ _ _ _ _ d1, up2_rn _ _ _ _ _ d4, up2_ra, va_ap, hv_6, ss]
    by_cases e : i = l
    · rw [if_pos e, e, decide_eq_true rfl, Bool.or_true, if_pos rfl, hw]; exact (zI_add w 1).symm
    · rw [if_neg e, decide_eq_false e, Bool.or_false, up2_rn _ _ _ _ _ (by decide), up2_rn _ _ _ _ _ (by decide), up2_rn _ _ _ _ _ (by decide), hv_6]
  by_cases d9 : d = 9
  · subst d9
    rw [up2_rn _ _ _ _ _ d1, up2_rn _ _ _ _ _ d4, up2_rn _ _ _ _ _ d6, up2_ra, va_ap, hv_9, hvw_s hw h80]
    by_cases e : i = 80 * l + w
    · rw [if_pos e, decide_eq_true e, Bool.or_true, if_pos rfl]
    · rw [if_neg e, decide_eq_false e, Bool.or_false, up2_rn _ _ _ _ _ (by decide), up2_rn _ _ _ _ _ (by decide), hv_9]
  by_cases d8 : d = 8
  · subst d8
    rw [up2_rn _ _ _ _ _ d1, up2_rn _ _ _ _ _ d4, up2_rn _ _ _ _ _ d6, up2_rn _ _ _ _ _ d9, up2_ra, va_ap, hv_8, hvw_s hw h80]
    by_cases e : i = 80 * l + w
    · rw [if_pos e, decide_eq_true e, Bool.or_true, if_pos rfl]
    · rw [if_neg e, decide_eq_false e, Bool.or_false, up2_rn _ _ _ _ _ (by decide), hv_8]
  by_cases d7 : d = 7
  · subst d7
    rw [up2_rn _ _ _ _ _ d1, up2_rn _ _ _ _ _ d4, up2_rn _ _ _ _ _ d6, up2_rn _ _ _ _ _ d9, up2_rn _ _ _ _ _ d8, up2_ra, va_ap, hv_7, hv_7, hvw_s hw h80]
    by_cases e : i = 80 * l + w
    · have : i / 80 = l := by omega
      rw [if_pos e, decide_eq_true e, Bool.or_true, if_pos rfl, this]
    · rw [if_neg e, decide_eq_false e, Bool.or_false]
  rw [up2_rn _ _ _ _ _ d1, up2_rn _ _ _ _ _ d4, up2_rn _ _ _ _ _ d6, up2_rn _ _ _ _ _ d9, up2_rn _ _ _ _ _ d8, up2_rn _ _ _ _ _ d7, hv_d d4 d6 d7 d8 d9 d1, hv_d d4 d6 d7 d8 d9 d1]
end H1
/-- those below j -/
def blw (S : Nat → Bool) (j : Nat) : Nat → Bool := fun l => S l && decide (l < j)
theorem blw_y {S : Nat → Bool} {j : Nat} (h : S j = true) : blw S (j + 1) = slp (blw S j) j := by
  funext l
  unfold blw slp
  by_cases e : l = j
  · rw [e, h, decide_eq_true (Nat.lt_succ_self j), decide_eq_true rfl, Bool.or_true]; rfl
  · rw [decide_eq_false e, Bool.or_false]
    have : decide (l < j + 1) = decide (l < j) := by rw [decide_eq_decide]; omega
    rw [this]
theorem blw_n {S : Nat → Bool} {j : Nat} (h : S j = false) : blw S (j + 1) = blw S j := by
  funext l
  unfold blw
  by_cases e : l = j
  · rw [e, h]; rfl
  · have : decide (l < j + 1) = decide (l < j) := by rw [decide_eq_decide]; omega
    rw [this]
theorem blw_0 (S : Nat → Bool) (l : Nat) : blw S 0 l = false := by unfold blw; rw [decide_eq_false (Nat.not_lt_zero _), Bool.and_false]
theorem blw_f {S : Nat → Bool} {n : Nat} (h : ∀ l, S l = true → l < n) : blw S n = S := by
  funext l
  unfold blw
  cases g : S l with
  | false => rfl
  | true => rw [decide_eq_true (h l g)]; rfl
theorem blw_s (S : Nat → Bool) (j : Nat) : blw S j j = false := by unfold blw; rw [decide_eq_false (Nat.lt_irrefl _), Bool.and_false]
section H2
variable {X : (Nat → Int32) × Nat} {mo : Bool} {G : Nat × Nat} {I A K : Nat → Nat → Int32}
theorem c_38 {n pap : Nat} {S who : Int32} (hn : K 1 0 = zI n) (h12 : n ≤ 12) (hb : ∀ l, bt S l = true → l < n) (hw : ∀ l, bt S l = true → ∃ w, K 6 l = zI w ∧ w < 80) : cRun mo G (fun M Q => sm_wp X 38 0 [some (.ref 45), some (.int S), some (.int who), some (.int (zI pap)), none] [] M Q) K (hv K (bt S) (fun _ => who) (zI pap) (cN (bt S) n)) := by
  intro L J Q hL hQ
  have loop : ∀ d j U, j + d = n → eqC (hv K (blw (bt S) j) (fun _ => who) (zI pap) (cN (bt S) j)) U → sm_wp X 38 3 [some (.ref 45), some (.int S), some (.int who), some (.int (zI pap)), some (.int (zI j))] [] (sM mo G U J) Q := by
    intro d
    induction d with
    | zero =>
      intro j U hj hU
      have : j = n := by omega
      subst this
      have en : U 1 0 = zI j := by rw [hU 1 (by decide), hv_1, if_neg (by decide)]; exact hn
      rw [lp_38_3, if_pos (by rw [en, zI_le (by omega) (by omega)]; exact Nat.le_refl _)]
      rw [blw_f hb] at hU
      exact hQ U J hU (fun _ _ _ => rfl)
    | succ d ih =>
      intro j U hj hU
      have en : U 1 0 = zI n := by rw [hU 1 (by decide), hv_1, if_neg (by decide)]; exact hn
      rw [lp_38_3, if_neg (by rw [en, zI_le (by omega) (by omega)]; omega), show zI j + 1 = zI (j + 1) from zIr_add 1 j]
      by_cases g : bt S j = true
      · obtain ⟨w, e6, w80⟩ := hw j g
        have u6 : U 6 j = zI w := by rw [hU 6 (by decide), hv_6, blw_s, if_neg (by decide)]; exact e6
        have u13 : U 1 3 = K 1 3 := by rw [hU 1 (by decide), hv_1, if_neg (by decide)]
        have u14 : U 1 4 + 1 = K 1 4 + zI (cN (bt S) j + 1) := by
          rw [hU 1 (by decide), hv_1, if_pos rfl, ← zI_add]
          exact Int32.add_assoc _ _ _
        rw [if_neg (fun e => e (by rw [hb_bt _ _ (by omega)]; exact g)), if_pos (by rw [hLand_vp en h12, zI_sIn (by omega) (by omega)]; omega), zI_cn (by omega), u6, if_neg (by rw [zIr_lt (c := 0) (by decide) (by omega)]; exact Nat.not_lt_zero _), if_neg (by rw [zIl_le (c := 80) (by decide) (by omega)]; show ¬ 80 ≤ w; omega), show zI j * (80 : Int32) = zI (j * 80) from zIr_mul 80 j, zI_add, zI_vp (by omega), zI_vp (by omega), zI_cn (by omega), show j * 80 + w = 80 * j + w from by omega, u13, u14, show zI w + 1 = zI (w + 1) from zIr_add 1 w]
        refine ⟨by omega, by omega, ih (j + 1) _ (by omega) ?_⟩
        rw [blw_y g, cN_p g, ← hv_s (blw_s _ j) e6 w80]
        exact eqC_u (eqC_u (eqC_u (eqC_u (eqC_u (eqC_u hU 7 _ _) 8 _ _) 9 _ _) 6 _ _) 4 _ _) 1 _ _
      · rw [if_pos (by rw [hb_bt _ _ (by omega)]; exact g)]
        refine ih (j + 1) U (by omega) ?_
        rw [blw_n (by cases h : bt S j with | false => rfl | true => exact absurd h g), cN_q g]
        exact hU
  show sm_wp X 38 0 [some (.ref 45), some (.int S), some (.int who), some (.int (zI pap)), none] [] (sM mo G L J) Q
  rw [lp_38_0]
  refine loop n 0 L (by omega) ?_
  have e0 : cN (bt S) 0 = 0 := rfl
  rw [e0, hv_0 (blw_0 _)]
  exact hL
/-- the coupling sees some rows alone -/
theorem cpl_K {K' T : Nat → Nat → Int32} (h : cplR I A K T) (h13 : K' 1 3 = K 1 3) (h4 : K' 4 = K 4) (h6 : K' 6 = K 6) (h7 : K' 7 = K 7) (h8 : K' 8 = K 8) (h9 : K' 9 = K 9) (h42 : K' 42 = K 42) (h44 : K' 44 = K 44) : cplR I A K' T := by
  unfold cplR
  rw [h13, h4, h6, h7, h8, h9, h42, h44]
  exact h
/-- a land, by the reference -/
theorem cpl_h {T : Nat → Nat → Int32} {sel : Nat → Bool} {who : Nat → Int32} {l w pap : Nat} (h : cplR I A (hv K sel who (zI pap) 0) T) (hl : l < 12) (hs : sel l = false) (hw : K 6 l = zI w) (h80 : w < 80) : cplR I A (hv K (slp sel l) who (zI pap) 0) (up2 (up2 (up2 (up2 (up2 T 85 l (who l)) 88 (300 * l + 3 * w) (who l)) 88 (300 * l + 3 * w + 1) (K 1 3)) 88 (300 * l + 3 * w + 2) (zI pap)) 87 l (zI (w + 1))) := by
  have st := hv_s (cnt := 0) (who := who) (pap := zI pap) hs hw h80
  obtain ⟨c1, c2, c3, c4, c5, c6, c7, c8, c9⟩ := h
  have row : ∀ d, ¬ d = 1 → hv K (slp sel l) who (zI pap) 0 d = hv K (slp sel l) who (zI pap) (0 + 1) d := fun d hd => by
    funext j
    unfold hv
    rw [if_neg hd, if_neg hd]
  refine ⟨fun d a => by simp only [up2_rn, ne_eq, show ¬ d = 85 from by omega, show ¬ d = 88 from by omega, show ¬ d = 87 from by omega, not_false_eq_true]; exact c1 d a, fun d x y a b c d' e f g => by simp only [up2_rn, ne_eq, a, b, c, not_false_eq_true]; exact c2 d x y a b c d' e f g, fun j a b c => by simp (decide := true) only [up2_ra, up2_rn, va_ap, ne_eq, if_false, if_true, not_false_eq_true]; exact c3 j a b c, ?_, ?_, ?_, ?_, ?_, ?_⟩
  · simp (decide := true) only [up2_ra, up2_rn, va_ap, ne_eq, if_false, if_true, not_false_eq_true]
    rw [c4, hv_1, hv_1, if_neg (by decide)]
  · simp (decide := true) only [up2_ra, up2_rn, ne_eq, not_false_eq_true]
    rw [c5, row 4 (by decide), ← st]
    simp (decide := true) only [up2_ra, up2_rn, ne_eq, not_false_eq_true]
  · simp (decide := true) only [up2_ra, up2_rn, ne_eq, not_false_eq_true]
    rw [c6, row 6 (by decide), ← st]
    simp (decide := true) only [up2_ra, up2_rn, ne_eq, not_false_eq_true]
  · simp (decide := true) only [up2_ra, up2_rn, ne_eq, not_false_eq_true]
    rw [c7, hv_d (by decide) (by decide) (by decide) (by decide) (by decide) (by decide), hv_d (by decide) (by decide) (by decide) (by decide) (by decide) (by decide)]
  · simp (decide := true) only [up2_ra, up2_rn, ne_eq, not_false_eq_true]
    rw [c8, hv_d (by decide) (by decide) (by decide) (by decide) (by decide) (by decide), hv_d (by decide) (by decide) (by decide) (by decide) (by decide) (by decide)]
  · rw [row 7 (by decide), row 8 (by decide), row 9 (by decide), ← st]
    simp (decide := true) only [up2_ra, up2_rn, ne_eq, not_false_eq_true]
    intro l' hl' k hk
    obtain ⟨z7, z8, z9⟩ := c9 l' hl' k hk
    simp only [va_ap]
    by_cases e : l' = l ∧ k = w
    · obtain ⟨rfl, rfl⟩ := e
      refine ⟨?_, ?_, ?_⟩
      · rw [if_pos rfl, if_neg (by omega), if_neg (by omega), if_pos rfl]
      · rw [if_pos rfl, if_neg (by omega), if_pos rfl]
      · rw [if_pos rfl, if_pos rfl]
    · have n1 : ¬ 80 * l' + k = 80 * l + w := by omega
      refine ⟨?_, ?_, ?_⟩
      · rw [if_neg n1, if_neg (by omega), if_neg (by omega), if_neg (by omega)]; exact z7
      · rw [if_neg n1, if_neg (by omega), if_neg (by omega), if_neg (by omega)]; exact z8
      · rw [if_neg n1, if_neg (by omega), if_neg (by omega), if_neg (by omega)]; exact z9
end H2
