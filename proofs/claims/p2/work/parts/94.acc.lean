/-! The class takes a token: the closing parenthesis, the end of a line, the faults. -/
/-- what a fault leaves -/
def flt (f : Nat) (I L : Nat → Nat → Int32) : Prop := (∀ d, d ≠ 16 → L d = I d) ∧ L 16 0 = zI f ∧ L 16 1 = I 14 1
theorem flt_1 (I : Nat → Nat → Int32) : flt 1 I (fl1 I) := ⟨fun d hd => by unfold fl1; rw [up2_rn _ _ _ _ _ hd, up2_rn _ _ _ _ _ hd], by unfold fl1; simp (decide := true) only [up2_ra, up2_rn, va_ap, ne_eq, if_false, if_true, not_false_eq_true], by unfold fl1; simp (decide := true) only [up2_ra, up2_rn, va_ap, ne_eq, if_false, if_true, not_false_eq_true]⟩
theorem flt_2 (I : Nat → Nat → Int32) : flt 2 I (fl2 I) := ⟨fun d hd => by unfold fl2; rw [up2_rn _ _ _ _ _ hd, up2_rn _ _ _ _ _ hd], by unfold fl2; simp (decide := true) only [up2_ra, up2_rn, va_ap, ne_eq, if_false, if_true, not_false_eq_true], by unfold fl2; simp (decide := true) only [up2_ra, up2_rn, va_ap, ne_eq, if_false, if_true, not_false_eq_true]⟩
theorem flt_3 {I K : Nat → Nat → Int32} (h : ∀ d, d ≠ 16 → K d = I d) : flt 2 I (up2 (up2 K 16 0 2) 16 1 (K 14 1)) := ⟨fun d hd => by rw [up2_rn _ _ _ _ _ hd, up2_rn _ _ _ _ _ hd]; exact h d hd, by simp (decide := true) only [up2_ra, up2_rn, va_ap, ne_eq, if_false, if_true, not_false_eq_true], by simp (decide := true) only [up2_ra, up2_rn, va_ap, ne_eq, if_false, if_true, not_false_eq_true]; rw [h 14 (by decide)]⟩
section A3
variable {X : (Nat → Int32) × Nat} {mo : Bool} {G : Nat × Nat} {I : Nat → Nat → Int32} {J : Nat → Nat → Int64} {Q : Option Value → sm_M → Prop}
theorem c_rt (t : Int32) (L : Nat → Nat → Int32) : sm_wp X 48 28 [some (.ref 16), some (.int t)] [] (sM mo G L J) Q = Q none (sM mo G L J) := by rw [lp_48_28]
theorem c_clo {a z w kn o : Nat} {cm : Int32} {c sg : Nat → Nat} (h : sc16 (I 16) a z w 3 kn o cm) (ho : 0 < o) (hz : z + pm 1 sg w ≤ 64) (hw : 1 ≤ w - pm 1 sg w) (hs : ∀ j, j < w → sg j < 40) (h20 : ∀ j, j < w → I 20 j = zI (sg j)) (h17 : ∀ i, i < z → I 17 i = zI (c i))
    (hQ : ∀ L, (∀ d, d ≠ 16 → d ≠ 17 → L d = I d) → (∀ j, j ≠ 9 → j ≠ 3 → j ≠ 12 → L 16 j = I 16 j) → L 16 9 = zI (w - pm 1 sg w - 1) → L 16 3 = zI (z + pm 1 sg w) → L 16 12 = zI (o - 1) → (∀ i, i < z + pm 1 sg w → L 17 i = zI (pcG 1 sg sg w z c i)) → Q none (sM mo G L J)) :
    sm_wp X 48 0 [some (.ref 16), some (.int (zI 31))] [] (sM mo G I J) Q := by
  obtain ⟨⟨h0, h2, h3, h9, h10, h11, h12, h13⟩, b1', b2, b3, b4, b5, b6⟩ := h
  rw [lp_48_0, if_pos (by rw [h10]; decide), if_neg (fun e => e h10), lp_51_0, if_neg (by decide), if_pos (by decide), if_neg (by decide), if_pos (by decide), if_neg (by decide), if_pos (by decide), if_neg (by decide), if_neg (by rw [h12, zIr_le (c := 0) (by decide) (by omega)]; show ¬ o ≤ 0; omega)]
  refine c_pop (least := 1) (sg := sg) (by omega) (by omega) w z c b3 hz hs I h9 h3 h20 h17 ?_
  intro L l1 lj l9 l3 l17
  simp only [tl_none]
  have e9 : L 16 9 - 1 = zI (w - pm 1 sg w - 1) := by rw [l9]; exact zIr_sub (c := 1) hw
  rw [lp_51_126, e9, lj 12 (by decide) (by decide), h12]
  simp only [tl_none]
  rw [lp_48_28]
  refine hQ _ (fun d e f => by rw [up2_rn _ _ _ _ _ e, up2_rn _ _ _ _ _ e]; exact l1 d e f) (fun j e f g => by rw [up2_ra, va_ap, if_neg g, up2_ra, va_ap, if_neg e]; exact lj j e f) ?_ (by simp (decide := true) only [up2_ra, up2_rn, va_ap, ne_eq, if_false, if_true, not_false_eq_true]; exact l3) (by simp (decide := true) only [up2_ra, up2_rn, va_ap, ne_eq, if_false, if_true, not_false_eq_true]; exact zIr_sub (c := 1) ho) (fun i hi => by simp (decide := true) only [up2_ra, up2_rn, va_ap, ne_eq, if_false, if_true, not_false_eq_true]; exact l17 i hi)
  simp (decide := true) only [up2_ra, up2_rn, va_ap, ne_eq, if_false, if_true, not_false_eq_true]
  by_cases g : w - pm 1 sg w - 1 = 0
  · rw [g]; rfl
  · rw [if_pos (by rw [zIl_lt (c := 0) (by decide) (by omega)]; show 0 < w - pm 1 sg w - 1; omega)]
theorem c_eol {a z w kn : Nat} {cm : Int32} {c sg : Nat → Nat} (h : sc16 (I 16) a z w 3 kn 0 cm) (ha : 1 ≤ a) (hz : z + pm 1 sg w ≤ 64) (hs : ∀ j, j < w → sg j < 40) (h20 : ∀ j, j < w → I 20 j = zI (sg j)) (h17 : ∀ i, i < z → I 17 i = zI (c i))
    (hQ : ∀ L, (∀ d, d ≠ 16 → d ≠ 17 → d ≠ 19 → L d = I d) → (∀ j, j ≠ 9 → j ≠ 3 → j ≠ 10 → L 16 j = I 16 j) → L 16 9 = zI (w - pm 1 sg w) → L 16 3 = zI (z + pm 1 sg w) → L 16 10 = 0 → L 19 = va_up (I 19) (a - 1) (zI (z + pm 1 sg w)) → (∀ i, i < z + pm 1 sg w → L 17 i = zI (pcG 1 sg sg w z c i)) → Q none (sM mo G L J)) :
    sm_wp X 48 0 [some (.ref 16), some (.int (zI 32))] [] (sM mo G I J) Q := by
  obtain ⟨⟨h0, h2, h3, h9, h10, h11, h12, h13⟩, b1', b2, b3, b4, b5, b6⟩ := h
  rw [lp_48_0, if_pos (by rw [h10]; decide), if_neg (fun e => e h10), lp_51_0, if_neg (by decide), if_pos (by decide), if_neg (by decide), if_pos (by decide), if_neg (by decide), if_pos (by decide), if_pos (by decide), if_neg (by decide), if_neg (fun e => e h12), lp_58_0]
  refine c_pop (least := 1) (sg := sg) (by omega) (by omega) w z c b3 hz hs I h9 h3 h20 h17 ?_
  intro L l1 lj l9 l3 l17
  simp only [tl_none]
  have e2 : L 16 2 = zI a := by rw [lj 2 (by decide) (by decide)]; exact h2
  have e19 : L 19 = I 19 := l1 19 (by decide) (by decide)
  rw [lp_58_5, e2, if_neg (by rw [zIr_lt (c := 1) (by decide) (by omega)]; show ¬ a < 1; omega), if_neg (by rw [zIl_lt (c := 16) (by decide) (by omega)]; show ¬ 16 < a; omega), show zI a - 1 = zI (a - 1) from zIr_sub (c := 1) ha, zI_vp (by omega), zI_cn (by omega), l3]
  refine ⟨by omega, ?_⟩
  simp only [tl_none]
  rw [lp_51_170]
  simp only [tl_none]
  rw [lp_48_28]
  refine hQ _ (fun d e f g => by rw [up2_rn _ _ _ _ _ e, up2_rn _ _ _ _ _ g]; exact l1 d e f) (fun j e f g => by rw [up2_ra, va_ap, if_neg g, up2_rn _ _ _ _ _ (by decide)]; exact lj j e f) (by simp (decide := true) only [up2_ra, up2_rn, va_ap, ne_eq, if_false, if_true, not_false_eq_true]; exact l9) (by simp (decide := true) only [up2_ra, up2_rn, va_ap, ne_eq, if_false, if_true, not_false_eq_true]; exact l3) (by simp (decide := true) only [up2_ra, up2_rn, va_ap, ne_eq, if_false, if_true, not_false_eq_true]) (by simp (decide := true) only [up2_ra, up2_rn, va_ap, ne_eq, if_false, if_true, not_false_eq_true]; rw [e19]) (fun i hi => by simp (decide := true) only [up2_ra, up2_rn, va_ap, ne_eq, if_false, if_true, not_false_eq_true]; exact l17 i hi)
theorem c_bad {a z w kn o t : Nat} {cm : Int32} (h : sc16 (I 16) a z w 3 kn o cm) (ht : t < 100) (n1 : ¬ (t = 5 ∨ t = 6)) (n2 : ¬ (19 ≤ t ∧ t ≤ 23)) (n3 : ¬ (24 ≤ t ∧ t ≤ 29 ∧ ¬ bt cm o = true)) (n4 : ¬ (t = 31 ∧ 0 < o)) (n5 : ¬ (t = 32 ∧ o = 0)) (hQ : Q none (sM mo G (fl1 I) J)) :
    sm_wp X 48 0 [some (.ref 16), some (.int (zI t))] [] (sM mo G I J) Q := by
  obtain ⟨⟨h0, h2, h3, h9, h10, h11, h12, h13⟩, b1', b2, b3, b4, b5, b6⟩ := h
  have tail : (if zI t = 5 then sm_wp X 52 0 [some (.ref 16), some (.int (zI t)), some (.int 1)] [] (sM mo G (up2 I 16 13 ((I 16 13) &&& (((1 : Int32) <<< ((I 16 12) &&& 31)) ^^^ (-1)))) J) (fun v M => sm_wp X 51 105 [some (.ref 16), some (.int (zI t))] (v.toList ++ []) M (fun v M => sm_wp X 48 28 [some (.ref 16), some (.int (zI t))] (v.toList ++ []) M Q)) else (if ¬ zI t = 6 then (if ¬ zI t = 31 then (if ¬ zI t = 32 then ((fun (v : Option Value) M => sm_wp X 48 28 [some (.ref 16), some (.int (zI t))] (v.toList ++ []) M Q) none (sM mo G (up2 (up2 I 16 0 1) 16 1 (I 14 1)) J)) else (if ¬ I 16 12 = 0 then ((fun (v : Option Value) M => sm_wp X 48 28 [some (.ref 16), some (.int (zI t))] (v.toList ++ []) M Q) none (sM mo G (up2 (up2 I 16 0 1) 16 1 (I 14 1)) J)) else (sm_wp X 58 0 [some (.ref 16)] [] (sM mo G I J) (fun v M => sm_wp X 51 170 [some (.ref 16), some (.int (zI t))] (v.toList ++ []) M (fun v M => sm_wp X 48 28 [some (.ref 16), some (.int (zI t))] (v.toList ++ []) M Q))))) else (if I 16 12 ≤ 0 then (if ¬ zI t = 32 then ((fun (v : Option Value) M => sm_wp X 48 28 [some (.ref 16), some (.int (zI t))] (v.toList ++ []) M Q) none (sM mo G (up2 (up2 I 16 0 1) 16 1 (I 14 1)) J)) else (if ¬ I 16 12 = 0 then ((fun (v : Option Value) M => sm_wp X 48 28 [some (.ref 16), some (.int (zI t))] (v.toList ++ []) M Q) none (sM mo G (up2 (up2 I 16 0 1) 16 1 (I 14 1)) J)) else (sm_wp X 58 0 [some (.ref 16)] [] (sM mo G I J) (fun v M => sm_wp X 51 170 [some (.ref 16), some (.int (zI t))] (v.toList ++ []) M (fun v M => sm_wp X 48 28 [some (.ref 16), some (.int (zI t))] (v.toList ++ []) M Q))))) else (sm_wp X 55 0 [some (.ref 16), some (.int 1)] [] (sM mo G I J) (fun v M => sm_wp X 51 126 [some (.ref 16), some (.int (zI t))] (v.toList ++ []) M (fun v M => sm_wp X 48 28 [some (.ref 16), some (.int (zI t))] (v.toList ++ []) M Q))))) else (sm_wp X 52 0 [some (.ref 16), some (.int (zI t)), some (.int 1)] [] (sM mo G (up2 I 16 13 ((I 16 13) &&& (((1 : Int32) <<< ((I 16 12) &&& 31)) ^^^ (-1)))) J) (fun v M => sm_wp X 51 105 [some (.ref 16), some (.int (zI t))] (v.toList ++ []) M (fun v M => sm_wp X 48 28 [some (.ref 16), some (.int (zI t))] (v.toList ++ []) M Q))))) := by
    have fin : sm_wp X 48 28 [some (.ref 16), some (.int (zI t))] [] (sM mo G (up2 (up2 I 16 0 1) 16 1 (I 14 1)) J) Q := by
      rw [lp_48_28]; exact hQ
    rw [if_neg (by rw [zIr_eq (c := 5) (by decide) (by omega)]; show ¬ t = 5; omega), if_pos (by rw [zIr_eq (c := 6) (by decide) (by omega)]; show ¬ t = 6; omega)]
    by_cases g31 : t = 31
    · subst g31
      rw [if_neg (fun e => e rfl), if_pos (by rw [h12, zIr_le (c := 0) (by decide) (by omega)]; show o ≤ 0; omega), if_pos (by decide)]
      exact fin
    · rw [if_pos (by rw [zIr_eq (c := 31) (by decide) (by omega)]; exact g31)]
      by_cases g32 : t = 32
      · subst g32
        rw [if_neg (fun e => e rfl), if_pos (by rw [h12, zIr_eq (c := 0) (by decide) (by omega)]; show ¬ o = 0; omega)]
        exact fin
      · rw [if_pos (by rw [zIr_eq (c := 32) (by decide) (by omega)]; exact g32)]
        exact fin
  rw [lp_48_0, if_pos (by rw [h10]; decide), if_neg (fun e => e h10), lp_51_0]
  by_cases l19 : t < 19
  · rw [if_pos (by rw [zIr_lt (c := 19) (by decide) (by omega)]; exact l19), if_pos (by rw [zIr_lt (c := 24) (by decide) (by omega)]; show t < 24; omega)]
    exact tail
  · rw [if_neg (by rw [zIr_lt (c := 19) (by decide) (by omega)]; exact l19), if_pos (by rw [zIl_lt (c := 23) (by decide) (by omega)]; show 23 < t; omega), if_neg (by rw [zIr_lt (c := 24) (by decide) (by omega)]; show ¬ t < 24; omega)]
    by_cases l29 : 29 < t
    · rw [if_pos (by rw [zIl_lt (c := 29) (by decide) (by omega)]; exact l29)]
      exact tail
    · rw [if_neg (by rw [zIl_lt (c := 29) (by decide) (by omega)]; exact l29), if_pos (by rw [h13, h12, hb_bt _ _ (by omega)]; exact Classical.not_not.mp (fun e => n3 ⟨by omega, by omega, e⟩))]
      exact tail
theorem c_ful {a z w o t : Nat} {cm : Int32} (h : sc16 (I 16) a z w 3 64 o cm) (ht : (19 ≤ t ∧ t ≤ 23) ∨ (24 ≤ t ∧ t ≤ 29 ∧ ¬ bt cm o = true) ∨ (t = 5 ∨ t = 6)) (hQ : ∀ L, flt 2 I L → Q none (sM mo G L J)) :
    sm_wp X 48 0 [some (.ref 16), some (.int (zI t))] [] (sM mo G I J) Q := by
  obtain ⟨⟨h0, h2, h3, h9, h10, h11, h12, h13⟩, b1', b2, b3, b4, b5, b6⟩ := h
  have core : ∀ (du : Int32) K, (∀ d, d ≠ 16 → K d = I d) → K 16 11 = zI 64 → ∀ R : Option Value → sm_M → Prop, (∀ L, R none (sM mo G L J) = Q none (sM mo G L J)) → sm_wp X 52 0 [some (.ref 16), some (.int (zI t)), some (.int du)] [] (sM mo G K J) R := by
    intro du K k1 k11 R hR
    rw [lp_52_0, if_neg (by rw [k11]; decide), hR]
    exact hQ _ (flt_3 k1)
  rw [lp_48_0, if_pos (by rw [h10]; decide), if_neg (fun e => e h10), lp_51_0]
  have rw1 : ∀ L, (fun (v : Option Value) M => sm_wp X 48 28 [some (.ref 16), some (.int (zI t))] (v.toList ++ []) M Q) none (sM mo G L J) = Q none (sM mo G L J) := fun L => by
    show sm_wp X 48 28 [some (.ref 16), some (.int (zI t))] [] (sM mo G L J) Q = _
    rw [lp_48_28]
  have k13 : ∀ v d, d ≠ 16 → up2 I 16 13 v d = I d := fun v d hd => up2_rn _ _ _ _ _ hd
  have k11 : ∀ v, up2 I 16 13 v 16 11 = zI 64 := fun v => by rw [up2_ra, va_ap, if_neg (by decide)]; exact h11
  rcases ht with ⟨t1, t2⟩ | ⟨t1, t2, t3⟩ | t1
  · rw [if_neg (by rw [zIr_lt (c := 19) (by decide) (by omega)]; show ¬ t < 19; omega), if_neg (by rw [zIl_lt (c := 23) (by decide) (by omega)]; show ¬ 23 < t; omega)]
    refine core 2 I (fun _ _ => rfl) h11 _ (fun L => ?_)
    show sm_wp X 51 18 [some (.ref 16), some (.int (zI t))] [] (sM mo G L J) _ = _
    rw [lp_51_18]
    exact rw1 L
  · rw [if_neg (by rw [zIr_lt (c := 19) (by decide) (by omega)]; show ¬ t < 19; omega), if_pos (by rw [zIl_lt (c := 23) (by decide) (by omega)]; show 23 < t; omega), if_neg (by rw [zIr_lt (c := 24) (by decide) (by omega)]; show ¬ t < 24; omega), if_neg (by rw [zIl_lt (c := 29) (by decide) (by omega)]; show ¬ 29 < t; omega), if_neg (by rw [h13, h12, hb_bt _ _ (by omega)]; exact t3)]
    refine core 2 _ (k13 _) (k11 _) _ (fun L => ?_)
    show sm_wp X 51 68 [some (.ref 16), some (.int (zI t))] [] (sM mo G L J) _ = _
    rw [lp_51_68]
    exact rw1 L
  · rw [if_pos (by rw [zIr_lt (c := 19) (by decide) (by omega)]; show t < 19; omega), if_pos (by rw [zIr_lt (c := 24) (by decide) (by omega)]; show t < 24; omega)]
    have r2 : ∀ L, (fun (v : Option Value) M => sm_wp X 51 105 [some (.ref 16), some (.int (zI t))] (v.toList ++ []) M (fun (v : Option Value) M => sm_wp X 48 28 [some (.ref 16), some (.int (zI t))] (v.toList ++ []) M Q)) none (sM mo G L J) = Q none (sM mo G L J) := fun L => by
      show sm_wp X 51 105 [some (.ref 16), some (.int (zI t))] [] (sM mo G L J) _ = _
      rw [lp_51_105]
      exact rw1 L
    rcases t1 with t1 | t1
    · rw [if_pos (by rw [t1]; rfl)]
      exact core 1 _ (k13 _) (k11 _) _ r2
    · rw [if_neg (by rw [t1]; decide), if_neg (fun e => e (by rw [t1]; rfl))]
      exact core 1 _ (k13 _) (k11 _) _ r2
end A3
