/-! The class takes a token: what waits is put behind; the signs. -/
def stg (c : Nat) : Nat := if c = 30 then 0 else if c = 6 then 1 else if c = 5 then 2 else if c = 4 then 3 else if c = 19 ∨ c = 20 then 5 else if c = 21 ∨ c = 22 ∨ c = 23 then 6 else if c = 33 then 7 else 4
theorem stg_z {c : Nat} (h : c < 40) : vf_Read_strength (zI c) = zI (stg c) := by
  have e : ∀ c : Fin 40, vf_Read_strength (zI c.val) = zI (stg c.val) := by decide
  exact e ⟨c, h⟩
theorem stg_b (c : Nat) : stg c ≤ 7 := by
  unfold stg
  repeat' split
  all_goals omega
/-- so many are put behind; and what they make of a row -/
def pm (least : Nat) (sg : Nat → Nat) : Nat → Nat
  | 0 => 0
  | w + 1 => if least ≤ stg (sg w) then pm least sg w + 1 else 0
def pcG (least : Nat) (sg wo : Nat → Nat) : Nat → Nat → (Nat → Nat) → (Nat → Nat)
  | 0, _, f => f
  | w + 1, z, f => if least ≤ stg (sg w) then pcG least sg wo w (z + 1) (va_up f z (wo w)) else f
theorem pm_b (least : Nat) (sg : Nat → Nat) : ∀ w, pm least sg w ≤ w := by
  intro w
  induction w with
  | zero => exact Nat.le_refl _
  | succ w ih => unfold pm; split <;> omega
section A2
variable {X : (Nat → Int32) × Nat} {mo : Bool} {G : Nat × Nat} {I : Nat → Nat → Int32} {J : Nat → Nat → Int64} {Q : Option Value → sm_M → Prop}
theorem c_pop {least : Nat} {sg : Nat → Nat} (hl : least ≤ 8) (hl1 : 1 ≤ least) : ∀ w z c, w ≤ 72 → z + pm least sg w ≤ 64 → (∀ j, j < w → sg j < 40) → ∀ K, K 16 9 = zI w → K 16 3 = zI z → (∀ j, j < w → K 20 j = zI (sg j)) → (∀ i, i < z → K 17 i = zI (c i)) → (∀ L, (∀ d, d ≠ 16 → d ≠ 17 → L d = K d) → (∀ j, j ≠ 9 → j ≠ 3 → L 16 j = K 16 j) → L 16 9 = zI (w - pm least sg w) → L 16 3 = zI (z + pm least sg w) → (∀ i, i < z + pm least sg w → L 17 i = zI (pcG least sg sg w z c i)) → Q none (sM mo G L J)) → sm_wp X 55 0 [some (.ref 16), some (.int (zI least))] [] (sM mo G K J) Q := by
  intro w
  induction w with
  | zero =>
    intro z c hw hz hs K k9 k3 k20 k17 hQ
    rw [lp_55_0, if_pos (by rw [k9]; decide)]
    exact hQ K (fun _ _ _ => rfl) (fun _ _ _ => rfl) k9 k3 k17
  | succ w ih =>
    intro z c hw hz hs K k9 k3 k20 k17 hQ
    have sw := hs w (by omega)
    have sb := stg_b (sg w)
    have um : pm least sg (w + 1) = if least ≤ stg (sg w) then pm least sg w + 1 else 0 := rfl
    have uc : pcG least sg sg (w + 1) z c = if least ≤ stg (sg w) then pcG least sg sg w (z + 1) (va_up c z (sg w)) else c := rfl
    rw [lp_55_0, if_neg (by rw [k9, zIr_le (c := 0) (by decide) (by omega)]; show ¬ w + 1 ≤ 0; omega), if_neg (by rw [k9, zIl_lt (c := 72) (by decide) (by omega)]; show ¬ 72 < w + 1; omega), k9, show zI (w + 1) - 1 = zI w from zIr_sub (c := 1) (a := w + 1) (by show 1 ≤ w + 1; omega), zI_vp (by omega), zI_cn (by omega), k20 w (by omega), stg_z sw, k3]
    refine ⟨by omega, ?_⟩
    by_cases g : least ≤ stg (sg w)
    · rw [if_pos g] at um uc
      rw [um] at hz hQ
      rw [uc] at hQ
      rw [if_neg (by rw [zI_lt (by omega) (by omega)]; omega), if_neg (by rw [zIr_lt (c := 0) (by decide) (by omega)]; exact Nat.not_lt_zero _), if_neg (by rw [zIl_le (c := 64) (by decide) (by omega)]; show ¬ 64 ≤ z; omega), zI_vp (by omega), zI_cn (by omega), show zI z + 1 = zI (z + 1) from zIr_add 1 z]
      refine ⟨by omega, ih (z + 1) (va_up c z (sg w)) (by omega) (by omega) (fun j hj => hs j (by omega)) _ (by simp (decide := true) only [up2_ra, up2_rn, va_ap, ne_eq, if_false, if_true, not_false_eq_true]) (by simp (decide := true) only [up2_ra, up2_rn, va_ap, ne_eq, if_false, if_true, not_false_eq_true]) (fun j hj => by simp (decide := true) only [up2_ra, up2_rn, va_ap, ne_eq, if_false, if_true, not_false_eq_true]; exact k20 j (by omega)) (fun i hi => ?_) (fun L l1 lj l9 l3 l17 => ?_)⟩
      · simp (decide := true) only [up2_ra, up2_rn, va_ap, ne_eq, if_false, if_true, not_false_eq_true]
        by_cases e : i = z
        · rw [if_pos e, if_pos e]
        · rw [if_neg e, if_neg e]; exact k17 i (by omega)
      · refine hQ L (fun d a b => by rw [l1 d a b, up2_rn _ _ _ _ _ a, up2_rn _ _ _ _ _ b, up2_rn _ _ _ _ _ a]) (fun j a b => by rw [lj j a b, up2_ra, va_ap, if_neg b, up2_rn _ _ _ _ _ (by decide), up2_ra, va_ap, if_neg a]) (by rw [l9]; congr 1; omega) (by rw [l3]; congr 1; omega) (fun i hi => l17 i (by omega))
    · rw [if_neg g] at um uc
      rw [um] at hQ
      rw [uc] at hQ
      rw [if_pos (by rw [zI_lt (by omega) (by omega)]; omega)]
      exact hQ K (fun _ _ _ => rfl) (fun _ _ _ => rfl) k9 k3 k17
/-- a sign between two -/
theorem c_bin {a z w kn o t du : Nat} {cm cm' : Int32} {c sg : Nat → Nat} (h : sc16 (I 16) a z w 3 kn o cm) (hk : kn < 64) (hz : z + pm (stg t) sg w ≤ 64) (hw : w - pm (stg t) sg w < 72) (hs : ∀ j, j < w → sg j < 40) (h20 : ∀ j, j < w → I 20 j = zI (sg j)) (h17 : ∀ i, i < z → I 17 i = zI (c i))
    (ht : (19 ≤ t ∧ t ≤ 23 ∧ du = 2 ∧ cm' = cm) ∨ (24 ≤ t ∧ t ≤ 29 ∧ ¬ bt cm o = true ∧ du = 2 ∧ cm' = cm ||| b1 o) ∨ ((t = 5 ∨ t = 6) ∧ du = 1 ∧ cm' = cm &&& (b1 o ^^^ (-1))))
    (hQ : ∀ L, (∀ d, d < 16 ∨ 20 < d → L d = I d) → L 18 = I 18 → L 19 = I 19 → (∀ j, j ≠ 9 → j ≠ 3 → j ≠ 10 → j ≠ 11 → j ≠ 13 → L 16 j = I 16 j) → L 16 9 = zI (w - pm (stg t) sg w + 1) → L 16 3 = zI (z + pm (stg t) sg w) → L 16 10 = zI du → L 16 11 = zI (kn + 1) → L 16 13 = cm' → (∀ i, i < z + pm (stg t) sg w → L 17 i = zI (pcG (stg t) sg sg w z c i)) → (∀ j, j < w - pm (stg t) sg w → L 20 j = zI (sg j)) → L 20 (w - pm (stg t) sg w) = zI t → Q none (sM mo G L J)) :
    sm_wp X 48 0 [some (.ref 16), some (.int (zI t))] [] (sM mo G I J) Q := by
  obtain ⟨⟨h0, h2, h3, h9, h10, h11, h12, h13⟩, b1', b2, b3, b4, b5, b6⟩ := h
  have t40 : t < 40 := by omega
  have st1 : 1 ≤ stg t := by
    have e : ∀ t : Fin 40, (19 ≤ t.val ∧ t.val ≤ 29 ∨ t.val = 5 ∨ t.val = 6) → 1 ≤ stg t.val := by decide
    exact e ⟨t, t40⟩ (by show 19 ≤ t ∧ t ≤ 29 ∨ t = 5 ∨ t = 6; omega)
  have stb := stg_b t
  have core : ∀ K, (∀ d, d ≠ 16 → K d = I d) → (∀ j, j ≠ 13 → K 16 j = I 16 j) → K 16 13 = cm' → ∀ R : Option Value → sm_M → Prop, (∀ L, R none (sM mo G L J) = Q none (sM mo G L J)) → sm_wp X 52 0 [some (.ref 16), some (.int (zI t)), some (.int (zI du))] [] (sM mo G K J) R := by
    intro K k1 kj k13 R hR
    rw [lp_52_0, if_pos (by rw [kj 11 (by decide), h11, zIr_lt (c := 64) (by decide) (by omega)]; exact hk), stg_z t40]
    refine c_pop (least := stg t) (sg := sg) (by omega) st1 w z c b3 hz hs _ (by rw [up2_ra, va_ap, if_neg (by decide), kj 9 (by decide)]; exact h9) (by rw [up2_ra, va_ap, if_neg (by decide), kj 3 (by decide)]; exact h3) (fun j hj => by rw [up2_rn _ _ _ _ _ (by decide), k1 20 (by decide)]; exact h20 j hj) (fun i hi => by rw [up2_rn _ _ _ _ _ (by decide), k1 17 (by decide)]; exact h17 i hi) ?_
    intro L l1 lj l9 l3 l17
    simp only [tl_none]
    rw [lp_52_15, l9, if_neg (by rw [zIr_lt (c := 0) (by decide) (by omega)]; exact Nat.not_lt_zero _), if_neg (by rw [zIl_le (c := 72) (by decide) (by omega)]; show ¬ 72 ≤ w - pm (stg t) sg w; omega), zI_vp (by omega), zI_cn (by omega), show zI (w - pm (stg t) sg w) + 1 = zI (w - pm (stg t) sg w + 1) from zIr_add 1 _, hR]
    have l20 : L 20 = I 20 := by rw [l1 20 (by decide) (by decide), up2_rn _ _ _ _ _ (by decide)]; exact k1 20 (by decide)
    refine ⟨hw, hQ _ (fun d hd => ?_) ?_ ?_ (fun j a b c d e => ?_) ?_ ?_ ?_ ?_ ?_ (fun i hi => ?_) (fun j hj => ?_) ?_⟩
    · rw [up2_rn _ _ _ _ _ (by omega), up2_rn _ _ _ _ _ (by omega), up2_rn _ _ _ _ _ (by omega), l1 d (by omega) (by omega), up2_rn _ _ _ _ _ (by omega)]
      exact k1 d (by omega)
    · simp (decide := true) only [up2_ra, up2_rn, va_ap, ne_eq, if_false, if_true, not_false_eq_true]; rw [l1 18 (by decide) (by decide), up2_rn _ _ _ _ _ (by decide)]; exact k1 18 (by decide)
    · simp (decide := true) only [up2_ra, up2_rn, va_ap, ne_eq, if_false, if_true, not_false_eq_true]; rw [l1 19 (by decide) (by decide), up2_rn _ _ _ _ _ (by decide)]; exact k1 19 (by decide)
    · rw [up2_ra, va_ap, if_neg c, up2_ra, va_ap, if_neg a, up2_rn _ _ _ _ _ (by decide), lj j a b, up2_ra, va_ap, if_neg d]
      exact kj j e
    · simp (decide := true) only [up2_ra, up2_rn, va_ap, ne_eq, if_false, if_true, not_false_eq_true]
    · simp (decide := true) only [up2_ra, up2_rn, va_ap, ne_eq, if_false, if_true, not_false_eq_true]; exact l3
    · simp (decide := true) only [up2_ra, up2_rn, va_ap, ne_eq, if_false, if_true, not_false_eq_true]
    · simp (decide := true) only [up2_ra, up2_rn, va_ap, ne_eq, if_false, if_true, not_false_eq_true]; rw [lj 11 (by decide) (by decide), up2_ra, va_ap, if_pos rfl, kj 11 (by decide), h11]; exact zIr_add 1 _
    · simp (decide := true) only [up2_ra, up2_rn, va_ap, ne_eq, if_false, if_true, not_false_eq_true]; rw [lj 13 (by decide) (by decide), up2_ra, va_ap, if_neg (by decide)]; exact k13
    · simp (decide := true) only [up2_ra, up2_rn, va_ap, ne_eq, if_false, if_true, not_false_eq_true]; exact l17 i hi
    · simp (decide := true) only [up2_ra, up2_rn, va_ap, ne_eq, if_false, if_true, not_false_eq_true]; rw [if_neg (by omega), l20]; exact h20 j (by omega)
    · simp (decide := true) only [up2_ra, up2_rn, va_ap, ne_eq, if_false, if_true, not_false_eq_true]
  rw [lp_48_0, if_pos (by rw [h10]; decide), if_neg (fun e => e h10), lp_51_0]
  have rw1 : ∀ L, (fun (v : Option Value) M => sm_wp X 48 28 [some (.ref 16), some (.int (zI t))] (v.toList ++ []) M Q) none (sM mo G L J) = Q none (sM mo G L J) := fun L => by
    show sm_wp X 48 28 [some (.ref 16), some (.int (zI t))] [] (sM mo G L J) Q = _
    rw [lp_48_28]
  rcases ht with ⟨t1, t2, e1, e2⟩ | ⟨t1, t2, t3, e1, e2⟩ | ⟨t1, e1, e2⟩
  · subst e1 e2
    rw [if_neg (by rw [zIr_lt (c := 19) (by decide) (by omega)]; show ¬ t < 19; omega), if_neg (by rw [zIl_lt (c := 23) (by decide) (by omega)]; show ¬ 23 < t; omega)]
    refine core I (fun _ _ => rfl) (fun _ _ => rfl) h13 _ (fun L => ?_)
    show sm_wp X 51 18 [some (.ref 16), some (.int (zI t))] [] (sM mo G L J) _ = _
    rw [lp_51_18]
    exact rw1 L
  · subst e1 e2
    rw [if_neg (by rw [zIr_lt (c := 19) (by decide) (by omega)]; show ¬ t < 19; omega), if_pos (by rw [zIl_lt (c := 23) (by decide) (by omega)]; show 23 < t; omega), if_neg (by rw [zIr_lt (c := 24) (by decide) (by omega)]; show ¬ t < 24; omega), if_neg (by rw [zIl_lt (c := 29) (by decide) (by omega)]; show ¬ 29 < t; omega), if_neg (by rw [h13, h12, hb_bt _ _ (by omega)]; exact t3)]
    refine core _ (fun d hd => up2_rn _ _ _ _ _ hd) (fun j hj => by rw [up2_ra, va_ap, if_neg hj]) (by rw [up2_ra, va_ap, if_pos rfl, h13, h12]; rfl) _ (fun L => ?_)
    show sm_wp X 51 68 [some (.ref 16), some (.int (zI t))] [] (sM mo G L J) _ = _
    rw [lp_51_68]
    exact rw1 L
  · subst e1 e2
    rw [if_pos (by rw [zIr_lt (c := 19) (by decide) (by omega)]; show t < 19; omega), if_pos (by rw [zIr_lt (c := 24) (by decide) (by omega)]; show t < 24; omega)]
    have go : ∀ R : Option Value → sm_M → Prop, (∀ L, R none (sM mo G L J) = Q none (sM mo G L J)) → sm_wp X 52 0 [some (.ref 16), some (.int (zI t)), some (.int 1)] [] (sM mo G (up2 I 16 13 ((I 16 13) &&& (((1 : Int32) <<< ((I 16 12) &&& 31)) ^^^ (-1)))) J) R := fun R hR => core _ (fun d hd => up2_rn _ _ _ _ _ hd) (fun j hj => by rw [up2_ra, va_ap, if_neg hj]) (by rw [up2_ra, va_ap, if_pos rfl, h13, h12]; rfl) R hR
    have r2 : ∀ L, (fun (v : Option Value) M => sm_wp X 51 105 [some (.ref 16), some (.int (zI t))] (v.toList ++ []) M (fun (v : Option Value) M => sm_wp X 48 28 [some (.ref 16), some (.int (zI t))] (v.toList ++ []) M Q)) none (sM mo G L J) = Q none (sM mo G L J) := fun L => by
      show sm_wp X 51 105 [some (.ref 16), some (.int (zI t))] [] (sM mo G L J) _ = _
      rw [lp_51_105]
      exact rw1 L
    rcases t1 with t1 | t1
    · rw [if_pos (by rw [t1]; rfl)]
      exact go _ r2
    · rw [if_neg (by rw [t1]; decide), if_neg (fun e => e (by rw [t1]; rfl))]
      exact go _ r2
end A2
