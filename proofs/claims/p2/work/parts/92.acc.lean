/-! The class takes a token. -/
def sc16 (r : Nat → Int32) (a z w d kn o : Nat) (cm : Int32) : Prop := (r 0 = 0 ∧ r 2 = zI a ∧ r 3 = zI z ∧ r 9 = zI w ∧ r 10 = zI d ∧ r 11 = zI kn ∧ r 12 = zI o ∧ r 13 = cm) ∧ a ≤ 16 ∧ z ≤ 64 ∧ w ≤ 72 ∧ kn ≤ 64 ∧ o ≤ 8 ∧ d ≤ 4
def fl1 (I : Nat → Nat → Int32) : Nat → Nat → Int32 := up2 (up2 I 16 0 1) 16 1 (I 14 1)
def fl2 (I : Nat → Nat → Int32) : Nat → Nat → Int32 := up2 (up2 I 16 0 2) 16 1 (I 14 1)
section A1
variable {X : (Nat → Int32) × Nat} {mo : Bool} {G : Nat × Nat} {I : Nat → Nat → Int32} {J : Nat → Nat → Int64} {Q : Option Value → sm_M → Prop}
theorem a_ve {a z w kn o : Nat} {cm : Int32} (h : sc16 (I 16) a z w 0 kn o cm) (hQ : Q none (sM mo G (up2 I 16 10 4) J)) : sm_wp X 48 0 [some (.ref 16), some (.int (zI 34))] [] (sM mo G I J) Q := by
  obtain ⟨⟨h0, h2, h3, h9, h10, h11, h12, h13⟩, b1, b2, b3, b4, b5, b6⟩ := h
  rw [lp_48_0]
  simp (disch := first | omega | decide) only [h10, zI_lt, zI_le, zI_eq, zI_cn, zI_vp, zI_add, zI_mul, zI_sub, zIl_add, zIr_add, zIl_mul, zIr_mul, zIr_sub, zIl_lt, zIr_lt, zIl_le, zIr_le, zIl_eq, zIr_eq, zI_sIn, zI_m1, zI_m1', Int32.add_zero, Int32.or_zero, if_pos, if_neg, not_true_eq_false, not_false_eq_true]
  exact hQ
theorem a_vb {a z w kn o t : Nat} {cm : Int32} (h : sc16 (I 16) a z w 0 kn o cm) (h3' : 3 < t) (h34 : ¬ t = 34) (ht : t < 100) (hQ : Q none (sM mo G (fl1 I) J)) : sm_wp X 48 0 [some (.ref 16), some (.int (zI t))] [] (sM mo G I J) Q := by
  obtain ⟨⟨h0, h2, h3, h9, h10, h11, h12, h13⟩, b1, b2, b3, b4, b5, b6⟩ := h
  rw [lp_48_0, if_neg (fun e => e h10)]
  simp (disch := first | omega | decide) only [zI_lt, zI_le, zI_eq, zI_cn, zI_vp, zI_add, zI_mul, zI_sub, zIl_add, zIr_add, zIl_mul, zIr_mul, zIr_sub, zIl_lt, zIr_lt, zIl_le, zIr_le, zIl_eq, zIr_eq, zI_sIn, zI_m1, zI_m1', Int32.add_zero, Int32.or_zero, if_pos, if_neg, not_true_eq_false, not_false_eq_true]
  exact hQ
theorem a_vf {z w kn o t : Nat} {cm : Int32} (h : sc16 (I 16) 16 z w 0 kn o cm) (h3' : t ≤ 3) (hQ : Q none (sM mo G (fl2 I) J)) : sm_wp X 48 0 [some (.ref 16), some (.int (zI t))] [] (sM mo G I J) Q := by
  obtain ⟨⟨h0, h2, h3, h9, h10, h11, h12, h13⟩, b1, b2, b3, b4, b5, b6⟩ := h
  rw [lp_48_0]
  simp (disch := first | omega | decide) only [h10, h2, zI_lt, zI_le, zI_eq, zI_cn, zI_vp, zI_add, zI_mul, zI_sub, zIl_add, zIr_add, zIl_mul, zIr_mul, zIr_sub, zIl_lt, zIr_lt, zIl_le, zIr_le, zIl_eq, zIr_eq, zI_sIn, zI_m1, zI_m1', Int32.add_zero, Int32.or_zero, if_pos, if_neg, not_true_eq_false, not_false_eq_true]
  exact hQ
theorem a_vo {a z w kn o t : Nat} {cm : Int32} (h : sc16 (I 16) a z w 0 kn o cm) (h3' : t ≤ 3) (h16 : a < 16) (hQ : Q none (sM mo G (up2 (up2 (up2 (up2 I 18 a (zI t)) 16 2 (zI (a + 1))) 16 13 0) 16 10 1) J)) : sm_wp X 48 0 [some (.ref 16), some (.int (zI t))] [] (sM mo G I J) Q := by
  obtain ⟨⟨h0, h2, h3, h9, h10, h11, h12, h13⟩, b1, b2, b3, b4, b5, b6⟩ := h
  rw [lp_48_0]
  simp (disch := first | omega | decide) only [h10, h2, zI_lt, zI_le, zI_eq, zI_cn, zI_vp, zI_add, zI_mul, zI_sub, zIl_add, zIr_add, zIl_mul, zIr_mul, zIr_sub, zIl_lt, zIr_lt, zIl_le, zIr_le, zIl_eq, zIr_eq, zI_sIn, zI_m1, zI_m1', Int32.add_zero, Int32.or_zero, if_pos, if_neg, not_true_eq_false, not_false_eq_true]
  exact ⟨h16, hQ⟩
/-- a number -/
theorem a_on {a z w d kn o nu : Nat} {cm : Int32} (h : sc16 (I 16) a z w d kn o cm) (hd : d = 1 ∨ d = 2) (hz : z < 64) (hk : kn < 64) (h14 : I 14 2 = zI nu) (hn : nu ≤ 99999) (hQ : Q none (sM mo G (up2 (up2 (up2 (up2 I 16 11 (zI (kn + 1))) 17 z (zI (100 + nu))) 16 3 (zI (z + 1))) 16 10 3) J)) : sm_wp X 48 0 [some (.ref 16), some (.int (zI 36))] [] (sM mo G I J) Q := by
  obtain ⟨⟨h0, h2, h3, h9, h10, h11, h12, h13⟩, b1, b2, b3, b4, b5, b6⟩ := h
  rw [lp_48_0]
  simp (disch := first | omega | decide) only [h10, h11, h3, h14, zI_lt, zI_le, zI_eq, zI_cn, zI_vp, zI_add, zI_mul, zI_sub, zIl_add, zIr_add, zIl_mul, zIr_mul, zIr_sub, zIl_lt, zIr_lt, zIl_le, zIr_le, zIl_eq, zIr_eq, zI_sIn, zI_m1, zI_m1', Int32.add_zero, Int32.or_zero, if_pos, if_neg, not_true_eq_false, not_false_eq_true]
  exact ⟨hz, hQ⟩
theorem a_onb {a z w d kn o nu : Nat} {cm : Int32} (h : sc16 (I 16) a z w d kn o cm) (hd : d = 1 ∨ d = 2) (h14 : I 14 2 = zI nu) (hn : 99999 < nu) (hn2 : nu < 1000000) (hQ : Q none (sM mo G (fl2 I) J)) : sm_wp X 48 0 [some (.ref 16), some (.int (zI 36))] [] (sM mo G I J) Q := by
  obtain ⟨⟨h0, h2, h3, h9, h10, h11, h12, h13⟩, b1, b2, b3, b4, b5, b6⟩ := h
  rw [lp_48_0]
  simp (disch := first | omega | decide) only [h10, h14, zI_lt, zI_le, zI_eq, zI_cn, zI_vp, zI_add, zI_mul, zI_sub, zIl_add, zIr_add, zIl_mul, zIr_mul, zIr_sub, zIl_lt, zIr_lt, zIl_le, zIr_le, zIl_eq, zIr_eq, zI_sIn, zI_m1, zI_m1', Int32.add_zero, Int32.or_zero, if_pos, if_neg, not_true_eq_false, not_false_eq_true]
  exact hQ
theorem a_onk {a z w d o nu : Nat} {cm : Int32} (h : sc16 (I 16) a z w d 64 o cm) (hd : d = 1 ∨ d = 2) (h14 : I 14 2 = zI nu) (hn : nu ≤ 99999) (hQ : Q none (sM mo G (fl2 I) J)) : sm_wp X 48 0 [some (.ref 16), some (.int (zI 36))] [] (sM mo G I J) Q := by
  obtain ⟨⟨h0, h2, h3, h9, h10, h11, h12, h13⟩, b1, b2, b3, b4, b5, b6⟩ := h
  rw [lp_48_0]
  simp (disch := first | omega | decide) only [h10, h11, h14, zI_lt, zI_le, zI_eq, zI_cn, zI_vp, zI_add, zI_mul, zI_sub, zIl_add, zIr_add, zIl_mul, zIr_mul, zIr_sub, zIl_lt, zIr_lt, zIl_le, zIr_le, zIl_eq, zIr_eq, zI_sIn, zI_m1, zI_m1', Int32.add_zero, Int32.or_zero, if_pos, if_neg, not_true_eq_false, not_false_eq_true]
  exact hQ
/-- a name -/
theorem a_om {a z w d kn o t : Nat} {cm : Int32} (h : sc16 (I 16) a z w d kn o cm) (hd : d = 1 ∨ d = 2) (hz : z < 64) (hk : kn < 64) (t1 : 7 ≤ t) (t2 : t < 19) (hQ : Q none (sM mo G (up2 (up2 (up2 (up2 I 16 11 (zI (kn + 1))) 17 z (zI t)) 16 3 (zI (z + 1))) 16 10 3) J)) : sm_wp X 48 0 [some (.ref 16), some (.int (zI t))] [] (sM mo G I J) Q := by
  obtain ⟨⟨h0, h2, h3, h9, h10, h11, h12, h13⟩, b1, b2, b3, b4, b5, b6⟩ := h
  rw [lp_48_0]
  simp (disch := first | omega | decide) only [h10, h11, h3, zI_lt, zI_le, zI_eq, zI_cn, zI_vp, zI_add, zI_mul, zI_sub, zIl_add, zIr_add, zIl_mul, zIr_mul, zIr_sub, zIl_lt, zIr_lt, zIl_le, zIr_le, zIl_eq, zIr_eq, zI_sIn, zI_m1, zI_m1', Int32.add_zero, Int32.or_zero, if_pos, if_neg, not_true_eq_false, not_false_eq_true]
  exact ⟨hz, hQ⟩
theorem a_omk {a z w d o t : Nat} {cm : Int32} (h : sc16 (I 16) a z w d 64 o cm) (hd : d = 1 ∨ d = 2) (t1 : 7 ≤ t) (t2 : t < 19) (hQ : Q none (sM mo G (fl2 I) J)) : sm_wp X 48 0 [some (.ref 16), some (.int (zI t))] [] (sM mo G I J) Q := by
  obtain ⟨⟨h0, h2, h3, h9, h10, h11, h12, h13⟩, b1, b2, b3, b4, b5, b6⟩ := h
  rw [lp_48_0]
  simp (disch := first | omega | decide) only [h10, h11, zI_lt, zI_le, zI_eq, zI_cn, zI_vp, zI_add, zI_mul, zI_sub, zIl_add, zIr_add, zIl_mul, zIr_mul, zIr_sub, zIl_lt, zIr_lt, zIl_le, zIr_le, zIl_eq, zIr_eq, zI_sIn, zI_m1, zI_m1', Int32.add_zero, Int32.or_zero, if_pos, if_neg, not_true_eq_false, not_false_eq_true]
  exact hQ
/-- a parenthesis -/
theorem a_oo {a z w d kn o : Nat} {cm : Int32} (h : sc16 (I 16) a z w d kn o cm) (hd : d = 1 ∨ d = 2) (hw : w < 72) (ho : o < 8) (hQ : Q none (sM mo G (up2 (up2 (up2 (up2 (up2 I 16 12 (zI (o + 1))) 16 13 (cm &&& (b1 (o + 1) ^^^ (-1)))) 20 w 30) 16 9 (zI (w + 1))) 16 10 1) J)) : sm_wp X 48 0 [some (.ref 16), some (.int (zI 30))] [] (sM mo G I J) Q := by
  obtain ⟨⟨h0, h2, h3, h9, h10, h11, h12, h13⟩, b1', b2, b3, b4, b5, b6⟩ := h
  rw [lp_48_0]
  simp (disch := first | omega | decide) only [h10, h12, h9, h13, zI_lt, zI_le, zI_eq, zI_cn, zI_vp, zI_add, zI_mul, zI_sub, zIl_add, zIr_add, zIl_mul, zIr_mul, zIr_sub, zIl_lt, zIr_lt, zIl_le, zIr_le, zIl_eq, zIr_eq, zI_sIn, zI_m1, zI_m1', Int32.add_zero, Int32.or_zero, if_pos, if_neg, not_true_eq_false, not_false_eq_true]
  exact ⟨hw, hQ⟩
theorem a_oof {a z w d kn : Nat} {cm : Int32} (h : sc16 (I 16) a z w d kn 8 cm) (hd : d = 1 ∨ d = 2) (hQ : Q none (sM mo G (fl2 I) J)) : sm_wp X 48 0 [some (.ref 16), some (.int (zI 30))] [] (sM mo G I J) Q := by
  obtain ⟨⟨h0, h2, h3, h9, h10, h11, h12, h13⟩, b1', b2, b3, b4, b5, b6⟩ := h
  rw [lp_48_0]
  simp (disch := first | omega | decide) only [h10, h12, zI_lt, zI_le, zI_eq, zI_cn, zI_vp, zI_add, zI_mul, zI_sub, zIl_add, zIr_add, zIl_mul, zIr_mul, zIr_sub, zIl_lt, zIr_lt, zIl_le, zIr_le, zIl_eq, zIr_eq, zI_sIn, zI_m1, zI_m1', Int32.add_zero, Int32.or_zero, if_pos, if_neg, not_true_eq_false, not_false_eq_true]
  exact hQ
/-- a minus, a not -/
theorem a_og {a z w d kn o : Nat} {cm : Int32} (h : sc16 (I 16) a z w d kn o cm) (hd : d = 1 ∨ d = 2) (hw : w < 72) (hk : kn < 64) (hQ : Q none (sM mo G (up2 (up2 (up2 (up2 I 16 11 (zI (kn + 1))) 20 w 33) 16 9 (zI (w + 1))) 16 10 2) J)) : sm_wp X 48 0 [some (.ref 16), some (.int (zI 20))] [] (sM mo G I J) Q := by
  obtain ⟨⟨h0, h2, h3, h9, h10, h11, h12, h13⟩, b1, b2, b3, b4, b5, b6⟩ := h
  rw [lp_48_0]
  simp (disch := first | omega | decide) only [h10, h11, h9, zI_lt, zI_le, zI_eq, zI_cn, zI_vp, zI_add, zI_mul, zI_sub, zIl_add, zIr_add, zIl_mul, zIr_mul, zIr_sub, zIl_lt, zIr_lt, zIl_le, zIr_le, zIl_eq, zIr_eq, zI_sIn, zI_m1, zI_m1', Int32.add_zero, Int32.or_zero, if_pos, if_neg, not_true_eq_false, not_false_eq_true]
  exact ⟨hw, hQ⟩
theorem a_ogk {a z w d o : Nat} {cm : Int32} (h : sc16 (I 16) a z w d 64 o cm) (hd : d = 1 ∨ d = 2) (hQ : Q none (sM mo G (fl2 I) J)) : sm_wp X 48 0 [some (.ref 16), some (.int (zI 20))] [] (sM mo G I J) Q := by
  obtain ⟨⟨h0, h2, h3, h9, h10, h11, h12, h13⟩, b1, b2, b3, b4, b5, b6⟩ := h
  rw [lp_48_0]
  simp (disch := first | omega | decide) only [h10, h11, zI_lt, zI_le, zI_eq, zI_cn, zI_vp, zI_add, zI_mul, zI_sub, zIl_add, zIr_add, zIl_mul, zIr_mul, zIr_sub, zIl_lt, zIr_lt, zIl_le, zIr_le, zIl_eq, zIr_eq, zI_sIn, zI_m1, zI_m1', Int32.add_zero, Int32.or_zero, if_pos, if_neg, not_true_eq_false, not_false_eq_true]
  exact hQ
theorem a_ot {a z w kn o : Nat} {cm : Int32} (h : sc16 (I 16) a z w 1 kn o cm) (hw : w < 72) (hk : kn < 64) (hQ : Q none (sM mo G (up2 (up2 (up2 (up2 I 16 11 (zI (kn + 1))) 20 w 4) 16 9 (zI (w + 1))) 16 10 1) J)) : sm_wp X 48 0 [some (.ref 16), some (.int (zI 4))] [] (sM mo G I J) Q := by
  obtain ⟨⟨h0, h2, h3, h9, h10, h11, h12, h13⟩, b1, b2, b3, b4, b5, b6⟩ := h
  rw [lp_48_0]
  simp (disch := first | omega | decide) only [h10, h11, h9, zI_lt, zI_le, zI_eq, zI_cn, zI_vp, zI_add, zI_mul, zI_sub, zIl_add, zIr_add, zIl_mul, zIr_mul, zIr_sub, zIl_lt, zIr_lt, zIl_le, zIr_le, zIl_eq, zIr_eq, zI_sIn, zI_m1, zI_m1', Int32.add_zero, Int32.or_zero, if_pos, if_neg, not_true_eq_false, not_false_eq_true]
  exact ⟨hw, hQ⟩
theorem a_otk {a z w o : Nat} {cm : Int32} (h : sc16 (I 16) a z w 1 64 o cm) (hQ : Q none (sM mo G (fl2 I) J)) : sm_wp X 48 0 [some (.ref 16), some (.int (zI 4))] [] (sM mo G I J) Q := by
  obtain ⟨⟨h0, h2, h3, h9, h10, h11, h12, h13⟩, b1, b2, b3, b4, b5, b6⟩ := h
  rw [lp_48_0]
  simp (disch := first | omega | decide) only [h10, h11, zI_lt, zI_le, zI_eq, zI_cn, zI_vp, zI_add, zI_mul, zI_sub, zIl_add, zIr_add, zIl_mul, zIr_mul, zIr_sub, zIl_lt, zIr_lt, zIl_le, zIr_le, zIl_eq, zIr_eq, zI_sIn, zI_m1, zI_m1', Int32.add_zero, Int32.or_zero, if_pos, if_neg, not_true_eq_false, not_false_eq_true]
  exact hQ
theorem a_ob {a z w d kn o t : Nat} {cm : Int32} (h : sc16 (I 16) a z w d kn o cm) (hd : d = 1 ∨ d = 2) (ht : t < 100) (t1 : ¬ t = 36) (t2 : ¬ (7 ≤ t ∧ t < 19)) (t3 : ¬ t = 30) (t4 : ¬ t = 20) (t5 : ¬ (t = 4 ∧ d = 1)) (hQ : Q none (sM mo G (fl1 I) J)) : sm_wp X 48 0 [some (.ref 16), some (.int (zI t))] [] (sM mo G I J) Q := by
  obtain ⟨⟨h0, h2, h3, h9, h10, h11, h12, h13⟩, b1, b2, b3, b4, b5, b6⟩ := h
  rw [lp_48_0]
  by_cases g : t < 7
  · by_cases g4 : t = 4
    · simp (disch := first | omega | decide) only [h10, zI_lt, zI_le, zI_eq, zI_cn, zI_vp, zI_add, zI_mul, zI_sub, zIl_add, zIr_add, zIl_mul, zIr_mul, zIr_sub, zIl_lt, zIr_lt, zIl_le, zIr_le, zIl_eq, zIr_eq, zI_sIn, zI_m1, zI_m1', Int32.add_zero, Int32.or_zero, if_pos, if_neg, not_true_eq_false, not_false_eq_true]
      exact hQ
    · simp (disch := first | omega | decide) only [h10, zI_lt, zI_le, zI_eq, zI_cn, zI_vp, zI_add, zI_mul, zI_sub, zIl_add, zIr_add, zIl_mul, zIr_mul, zIr_sub, zIl_lt, zIr_lt, zIl_le, zIr_le, zIl_eq, zIr_eq, zI_sIn, zI_m1, zI_m1', Int32.add_zero, Int32.or_zero, if_pos, if_neg, not_true_eq_false, not_false_eq_true]
      exact hQ
  · simp (disch := first | omega | decide) only [h10, zI_lt, zI_le, zI_eq, zI_cn, zI_vp, zI_add, zI_mul, zI_sub, zIl_add, zIr_add, zIl_mul, zIr_mul, zIr_sub, zIl_lt, zIr_lt, zIl_le, zIr_le, zIl_eq, zIr_eq, zI_sIn, zI_m1, zI_m1', Int32.add_zero, Int32.or_zero, if_pos, if_neg, not_true_eq_false, not_false_eq_true]
    exact hQ
end A1
