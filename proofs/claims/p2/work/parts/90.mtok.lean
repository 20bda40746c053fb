/-! The reference's tokens. -/
def sgW (t : Nat) : Nat := if t < 24 then t - 12 else if t < 30 then t - 23 else if t = 30 then 40 else if t = 31 then 41 else 59
/-- a sign by its code: the reference's number; two bytes long just where it is 2, 4 or 5 -/
theorem sg_rel {M : Nat → Nat → Int32} {b c : Nat} (hb : b < 256) (h61 : vf_Model_isAt M (M 81 21) 61 ↔ c = 61) (h62 : vf_Model_isAt M (M 81 21) 62 ↔ c = 62) : (vf_Model_signOf M (zI b) = -1 ∧ sgC b c = (35, 1)) ∨ ∃ t l, sgC b c = (t, l) ∧ 19 ≤ t ∧ t ≤ 32 ∧ vf_Model_signOf M (zI b) = zI (sgW t) ∧ ((l = 2 ∧ (sgW t = 2 ∨ sgW t = 4 ∨ sgW t = 5)) ∨ (l = 1 ∧ ¬ sgW t = 2 ∧ ¬ sgW t = 4 ∧ ¬ sgW t = 5)) := by
  by_cases g37 : b = 37
  · subst g37
    refine Or.inr ⟨23, 1, by unfold sgC; rw [if_pos rfl], by decide, by decide, by unfold vf_Model_signOf; rw [if_pos (show ¬ zI 37 = 60 from by decide), if_pos (show ¬ zI 37 = 62 from by decide), if_pos (show ¬ zI 37 = 61 from by decide), if_pos (show ¬ zI 37 = 43 from by decide), if_pos (show ¬ zI 37 = 45 from by decide), if_pos (show ¬ zI 37 = 42 from by decide), if_pos (show ¬ zI 37 = 47 from by decide), if_neg (fun e => e (show zI 37 = 37 from rfl))]; rfl, by decide⟩
  by_cases g40 : b = 40
  · subst g40
    refine Or.inr ⟨30, 1, by unfold sgC; rw [if_neg (show ¬ 40 = 37 from by decide), if_pos rfl], by decide, by decide, by unfold vf_Model_signOf; rw [if_pos (show ¬ zI 40 = 60 from by decide), if_pos (show ¬ zI 40 = 62 from by decide), if_pos (show ¬ zI 40 = 61 from by decide), if_pos (show ¬ zI 40 = 43 from by decide), if_pos (show ¬ zI 40 = 45 from by decide), if_pos (show ¬ zI 40 = 42 from by decide), if_pos (show ¬ zI 40 = 47 from by decide), if_pos (show ¬ zI 40 = 37 from by decide), if_neg (show ¬ zI 40 = 59 from by decide), if_pos (show zI 40 = 40 from rfl)]; rfl, by decide⟩
  by_cases g41 : b = 41
  · subst g41
    refine Or.inr ⟨31, 1, by unfold sgC; rw [if_neg (show ¬ 41 = 37 from by decide), if_neg (show ¬ 41 = 40 from by decide), if_pos rfl], by decide, by decide, by unfold vf_Model_signOf; rw [if_pos (show ¬ zI 41 = 60 from by decide), if_pos (show ¬ zI 41 = 62 from by decide), if_pos (show ¬ zI 41 = 61 from by decide), if_pos (show ¬ zI 41 = 43 from by decide), if_pos (show ¬ zI 41 = 45 from by decide), if_pos (show ¬ zI 41 = 42 from by decide), if_pos (show ¬ zI 41 = 47 from by decide), if_pos (show ¬ zI 41 = 37 from by decide), if_neg (show ¬ zI 41 = 59 from by decide), if_neg (show ¬ zI 41 = 40 from by decide), if_neg (fun e => e (show zI 41 = 41 from rfl))]; rfl, by decide⟩
  by_cases g42 : b = 42
  · subst g42
    refine Or.inr ⟨21, 1, by unfold sgC; rw [if_neg (show ¬ 42 = 37 from by decide), if_neg (show ¬ 42 = 40 from by decide), if_neg (show ¬ 42 = 41 from by decide), if_pos rfl], by decide, by decide, by unfold vf_Model_signOf; rw [if_pos (show ¬ zI 42 = 60 from by decide), if_pos (show ¬ zI 42 = 62 from by decide), if_pos (show ¬ zI 42 = 61 from by decide), if_pos (show ¬ zI 42 = 43 from by decide), if_pos (show ¬ zI 42 = 45 from by decide), if_neg (fun e => e (show zI 42 = 42 from rfl))]; rfl, by decide⟩
  by_cases g43 : b = 43
  · subst g43
    refine Or.inr ⟨19, 1, by unfold sgC; rw [if_neg (show ¬ 43 = 37 from by decide), if_neg (show ¬ 43 = 40 from by decide), if_neg (show ¬ 43 = 41 from by decide), if_neg (show ¬ 43 = 42 from by decide), if_pos rfl], by decide, by decide, by unfold vf_Model_signOf; rw [if_pos (show ¬ zI 43 = 60 from by decide), if_pos (show ¬ zI 43 = 62 from by decide), if_pos (show ¬ zI 43 = 61 from by decide), if_neg (fun e => e (show zI 43 = 43 from rfl))]; rfl, by decide⟩
  by_cases g45 : b = 45
  · subst g45
    refine Or.inr ⟨20, 1, by unfold sgC; rw [if_neg (show ¬ 45 = 37 from by decide), if_neg (show ¬ 45 = 40 from by decide), if_neg (show ¬ 45 = 41 from by decide), if_neg (show ¬ 45 = 42 from by decide), if_neg (show ¬ 45 = 43 from by decide), if_pos rfl], by decide, by decide, by unfold vf_Model_signOf; rw [if_pos (show ¬ zI 45 = 60 from by decide), if_pos (show ¬ zI 45 = 62 from by decide), if_pos (show ¬ zI 45 = 61 from by decide), if_pos (show ¬ zI 45 = 43 from by decide), if_neg (fun e => e (show zI 45 = 45 from rfl))]; rfl, by decide⟩
  by_cases g47 : b = 47
  · subst g47
    refine Or.inr ⟨22, 1, by unfold sgC; rw [if_neg (show ¬ 47 = 37 from by decide), if_neg (show ¬ 47 = 40 from by decide), if_neg (show ¬ 47 = 41 from by decide), if_neg (show ¬ 47 = 42 from by decide), if_neg (show ¬ 47 = 43 from by decide), if_neg (show ¬ 47 = 45 from by decide), if_pos rfl], by decide, by decide, by unfold vf_Model_signOf; rw [if_pos (show ¬ zI 47 = 60 from by decide), if_pos (show ¬ zI 47 = 62 from by decide), if_pos (show ¬ zI 47 = 61 from by decide), if_pos (show ¬ zI 47 = 43 from by decide), if_pos (show ¬ zI 47 = 45 from by decide), if_pos (show ¬ zI 47 = 42 from by decide), if_neg (fun e => e (show zI 47 = 47 from rfl))]; rfl, by decide⟩
  by_cases g59 : b = 59
  · subst g59
    refine Or.inr ⟨32, 1, by unfold sgC; rw [if_neg (show ¬ 59 = 37 from by decide), if_neg (show ¬ 59 = 40 from by decide), if_neg (show ¬ 59 = 41 from by decide), if_neg (show ¬ 59 = 42 from by decide), if_neg (show ¬ 59 = 43 from by decide), if_neg (show ¬ 59 = 45 from by decide), if_neg (show ¬ 59 = 47 from by decide), if_pos rfl], by decide, by decide, by unfold vf_Model_signOf; rw [if_pos (show ¬ zI 59 = 60 from by decide), if_pos (show ¬ zI 59 = 62 from by decide), if_pos (show ¬ zI 59 = 61 from by decide), if_pos (show ¬ zI 59 = 43 from by decide), if_pos (show ¬ zI 59 = 45 from by decide), if_pos (show ¬ zI 59 = 42 from by decide), if_pos (show ¬ zI 59 = 47 from by decide), if_pos (show ¬ zI 59 = 37 from by decide), if_pos (show zI 59 = 59 from rfl)]; rfl, by decide⟩
  by_cases g60 : b = 60
  · subst g60
    by_cases k61 : c = 61
    · refine Or.inr ⟨25, 2, by unfold sgC; rw [if_neg (show ¬ 60 = 37 from by decide), if_neg (show ¬ 60 = 40 from by decide), if_neg (show ¬ 60 = 41 from by decide), if_neg (show ¬ 60 = 42 from by decide), if_neg (show ¬ 60 = 43 from by decide), if_neg (show ¬ 60 = 45 from by decide), if_neg (show ¬ 60 = 47 from by decide), if_neg (show ¬ 60 = 59 from by decide), if_pos rfl, if_pos k61], by decide, by decide, by unfold vf_Model_signOf; rw [if_neg (fun e => e (show zI 60 = 60 from rfl)), if_neg (fun e => e (h61.mpr k61))]; rfl, by decide⟩
    by_cases k62 : c = 62
    · refine Or.inr ⟨27, 2, by unfold sgC; rw [if_neg (show ¬ 60 = 37 from by decide), if_neg (show ¬ 60 = 40 from by decide), if_neg (show ¬ 60 = 41 from by decide), if_neg (show ¬ 60 = 42 from by decide), if_neg (show ¬ 60 = 43 from by decide), if_neg (show ¬ 60 = 45 from by decide), if_neg (show ¬ 60 = 47 from by decide), if_neg (show ¬ 60 = 59 from by decide), if_pos rfl, if_neg k61, if_pos k62], by decide, by decide, by unfold vf_Model_signOf; rw [if_neg (fun e => e (show zI 60 = 60 from rfl)), if_pos (fun e => k61 (h61.mp e)), if_neg (fun e => e (h62.mpr k62))]; rfl, by decide⟩
    refine Or.inr ⟨24, 1, by unfold sgC; rw [if_neg (show ¬ 60 = 37 from by decide), if_neg (show ¬ 60 = 40 from by decide), if_neg (show ¬ 60 = 41 from by decide), if_neg (show ¬ 60 = 42 from by decide), if_neg (show ¬ 60 = 43 from by decide), if_neg (show ¬ 60 = 45 from by decide), if_neg (show ¬ 60 = 47 from by decide), if_neg (show ¬ 60 = 59 from by decide), if_pos rfl, if_neg k61, if_neg k62], by decide, by decide, by unfold vf_Model_signOf; rw [if_neg (fun e => e (show zI 60 = 60 from rfl)), if_pos (fun e => k61 (h61.mp e)), if_pos (fun e => k62 (h62.mp e))]; rfl, by decide⟩
  by_cases g61 : b = 61
  · subst g61
    refine Or.inr ⟨26, 1, by unfold sgC; rw [if_neg (show ¬ 61 = 37 from by decide), if_neg (show ¬ 61 = 40 from by decide), if_neg (show ¬ 61 = 41 from by decide), if_neg (show ¬ 61 = 42 from by decide), if_neg (show ¬ 61 = 43 from by decide), if_neg (show ¬ 61 = 45 from by decide), if_neg (show ¬ 61 = 47 from by decide), if_neg (show ¬ 61 = 59 from by decide), if_neg (show ¬ 61 = 60 from by decide), if_pos rfl], by decide, by decide, by unfold vf_Model_signOf; rw [if_pos (show ¬ zI 61 = 60 from by decide), if_pos (show ¬ zI 61 = 62 from by decide), if_neg (fun e => e (show zI 61 = 61 from rfl))]; rfl, by decide⟩
  by_cases g62 : b = 62
  · subst g62
    by_cases k61 : c = 61
    · refine Or.inr ⟨28, 2, by unfold sgC; rw [if_neg (show ¬ 62 = 37 from by decide), if_neg (show ¬ 62 = 40 from by decide), if_neg (show ¬ 62 = 41 from by decide), if_neg (show ¬ 62 = 42 from by decide), if_neg (show ¬ 62 = 43 from by decide), if_neg (show ¬ 62 = 45 from by decide), if_neg (show ¬ 62 = 47 from by decide), if_neg (show ¬ 62 = 59 from by decide), if_neg (show ¬ 62 = 60 from by decide), if_neg (show ¬ 62 = 61 from by decide), if_pos rfl, if_pos k61], by decide, by decide, by unfold vf_Model_signOf; rw [if_pos (show ¬ zI 62 = 60 from by decide), if_neg (fun e => e (show zI 62 = 62 from rfl)), if_neg (fun e => e (h61.mpr k61))]; rfl, by decide⟩
    refine Or.inr ⟨29, 1, by unfold sgC; rw [if_neg (show ¬ 62 = 37 from by decide), if_neg (show ¬ 62 = 40 from by decide), if_neg (show ¬ 62 = 41 from by decide), if_neg (show ¬ 62 = 42 from by decide), if_neg (show ¬ 62 = 43 from by decide), if_neg (show ¬ 62 = 45 from by decide), if_neg (show ¬ 62 = 47 from by decide), if_neg (show ¬ 62 = 59 from by decide), if_neg (show ¬ 62 = 60 from by decide), if_neg (show ¬ 62 = 61 from by decide), if_pos rfl, if_neg k61], by decide, by decide, by unfold vf_Model_signOf; rw [if_pos (show ¬ zI 62 = 60 from by decide), if_neg (fun e => e (show zI 62 = 62 from rfl)), if_pos (fun e => k61 (h61.mp e))]; rfl, by decide⟩
  left
  refine ⟨?_, by unfold sgC; rw [if_neg g37, if_neg g40, if_neg g41, if_neg g42, if_neg g43, if_neg g45, if_neg g47, if_neg g59, if_neg g60, if_neg g61, if_neg g62]⟩
  have ne : ∀ d, d < 256 → ¬ b = d → ¬ zI b = zI d := fun d hd g e => g (by rw [zI_eq (by omega) (by omega)] at e; exact e)
  unfold vf_Model_signOf
  rw [if_pos (show ¬ zI b = 60 from ne 60 (by decide) g60), if_pos (show ¬ zI b = 62 from ne 62 (by decide) g62), if_pos (show ¬ zI b = 61 from ne 61 (by decide) g61), if_pos (show ¬ zI b = 43 from ne 43 (by decide) g43), if_pos (show ¬ zI b = 45 from ne 45 (by decide) g45), if_pos (show ¬ zI b = 42 from ne 42 (by decide) g42), if_pos (show ¬ zI b = 47 from ne 47 (by decide) g47), if_pos (show ¬ zI b = 37 from ne 37 (by decide) g37), if_neg (show ¬ zI b = 59 from ne 59 (by decide) g59), if_neg (show ¬ zI b = 40 from ne 40 (by decide) g40), if_pos (show ¬ zI b = 41 from ne 41 (by decide) g41)]
/-- what the reference has of a token -/
def tkR (B : Nat → Nat) (q t e : Nat) (kd wh : Int32) : Prop := (t = 34 ∧ kd = 0) ∨ (t < 19 ∧ kd = 1 ∧ wh = zI (prm t)) ∨ (19 ≤ t ∧ t ≤ 32 ∧ kd = 3 ∧ wh = zI (sgW t)) ∨ (t = 35 ∧ kd = 4) ∨ (t = 36 ∧ kd = 2 ∧ ((nuC B q (e - q) ≤ 99999 ∧ wh = zI (nuC B q (e - q))) ∨ (99999 < nuC B q (e - q) ∧ ¬ wh ≤ 99999)))
def tkM (B : Nat → Nat) (n q : Nat) (I L : Nat → Nat → Int32) : Prop := (∀ c, c ≠ 81 → L c = I c) ∧ (∀ j, j ≠ 21 → j ≠ 22 → j ≠ 23 → j ≠ 24 → L 81 j = I 81 j) ∧ L 81 24 = zI q ∧ L 81 21 = zI (tkN B n q).2 ∧ tkR B q (tkN B n q).1 (tkN B n q).2 (L 81 22) (L 81 23)
def tpM (B : Nat → Nat) (r82 : Nat → Int32) : Prop := ∀ j, B j < 256 ∧ r82 j = zI (B j)
def ofR : List (List Nat) → Nat → Bool
  | [], o => decide (o = 95)
  | w :: r, o => decide (o + w.length < 95) && (List.range w.length).all (fun j => decide (rf_words.getD (o + j) 0 = zI (w.getD j 0)) && (decide (w.getD j 0 < 128) && decide (¬ w.getD j 0 = 32))) && decide (rf_words.getD (o + w.length) 0 = 32) && ofR r (o + w.length + 1)
theorem ofR_R : ofR wR 0 = true := by decide
section K3
variable {X : (Nat → Int32) × Nat} {mo : Bool} {G : Nat × Nat} {I : Nat → Nat → Int32} {J : Nat → Nat → Int64} {Q : Option Value → sm_M → Prop}
theorem mw_1 {B : Nat → Nat} {q e : Nat} (hT : tpM B (I 82)) (hX : ivX (I 93)) (hqe : q ≤ e) (he : e ≤ 400) {w : List Nat} {o k : Nat} (ho : o + w.length < 95) (hw : ∀ j, j < w.length → rf_words.getD (o + j) 0 = zI (w.getD j 0) ∧ w.getD j 0 < 128 ∧ ¬ w.getD j 0 = 32) (hb : rf_words.getD (o + w.length) 0 = 32) :
    sm_wp X 228 5 [some (.ref 81), some (.int (zI q)), some (.int (zI e)), some (.int (zI k)), some (.int (zI o)), none, none, none] [] (sM mo G I J) Q = if pB (mtc B q e w) = true then Q (some (.int (zI k))) (sM mo G I J) else sm_wp X 228 5 [some (.ref 81), some (.int (zI q)), some (.int (zI e)), some (.int (zI (k + 1))), some (.int (zI (o + (w.length + 1)))), none, none, none] [] (sM mo G I J) Q := by
  -- the letters compared
  have cmp : ∀ d j, j + d = w.length → ∀ x : Int32, (x = 1 ∧ q + w.length = e ∧ (∀ i, i < j → B (q + i) = w.getD i 0) ∨ x = 0 ∧ ¬ (q + w.length = e ∧ ∀ i, i < j → B (q + i) = w.getD i 0)) → sm_wp X 228 57 [some (.ref 81), some (.int (zI q)), some (.int (zI e)), some (.int (zI k)), some (.int (zI o)), some (.int (zI w.length)), some (.int x), some (.int (zI j))] [] (sM mo G I J) Q = if pB (mtc B q e w) = true then Q (some (.int (zI k))) (sM mo G I J) else sm_wp X 228 5 [some (.ref 81), some (.int (zI q)), some (.int (zI e)), some (.int (zI (k + 1))), some (.int (zI (o + (w.length + 1)))), none, none, none] [] (sM mo G I J) Q := by
    intro d
    induction d with
    | zero =>
      intro j hj x hx
      have : j = w.length := by omega
      subst this
      rw [lp_228_57, if_pos (by rw [zI_le (by omega) (by omega)]; exact Nat.le_refl _), show zI k + 1 = zI (k + 1) from zIr_add 1 k, show zI w.length + 1 = zI (w.length + 1) from zIr_add 1 _, zI_add]
      rcases hx with ⟨rfl, h1, h2⟩ | ⟨rfl, h1⟩
      · rw [if_neg (by decide), if_pos (pB_t.mpr ⟨h1, h2⟩)]
      · rw [if_pos rfl, if_neg (fun m : pB (mtc B q e w) = true => h1 (pB_t.mp m))]
    | succ d ih =>
      intro j hj x hx
      have jw : j < w.length := by omega
      have hwj := hw j jw
      rw [lp_228_57, if_neg (by rw [zI_le (by omega) (by omega)]; omega), show zI k + 1 = zI (k + 1) from zIr_add 1 k, show zI w.length + 1 = zI (w.length + 1) from zIr_add 1 _, zI_add]
      rcases hx with ⟨rfl, h1, h2⟩ | ⟨rfl, h1⟩
      · rw [if_neg (by decide), zI_add, zI_add, zI_vp (by omega), zI_vp (by omega), zI_cn (by omega), zI_cn (by omega), eq_true (by omega : o + j < 95), true_and, eq_true (by omega : q + j < 400), true_and, hX (o + j) (by omega), hwj.1, (hT (q + j)).2, show zI j + 1 = zI (j + 1) from zIr_add 1 j]
        have hB := (hT (q + j)).1
        by_cases g : B (q + j) = w.getD j 0
        · rw [if_neg (fun e => e (by rw [g]))]
          refine ih (j + 1) (by omega) 1 (Or.inl ⟨rfl, h1, fun i hi => ?_⟩)
          by_cases e3 : i = j
          · rw [e3]; exact g
          · exact h2 i (by omega)
        · rw [if_pos (by rw [zI_eq (by omega) (by omega)]; exact fun e => g e.symm)]
          exact ih (j + 1) (by omega) 0 (Or.inr ⟨rfl, fun a => g (a.2 j (by omega))⟩)
      · rw [if_pos rfl, if_neg (fun m => h1 ⟨(pB_t.mp m).1, fun i hi => (pB_t.mp m).2 i (by omega)⟩)]
  have scan : ∀ d j, j + d = w.length → sm_wp X 228 18 [some (.ref 81), some (.int (zI q)), some (.int (zI e)), some (.int (zI k)), some (.int (zI o)), some (.int (zI j)), none, none] [] (sM mo G I J) Q = if pB (mtc B q e w) = true then Q (some (.int (zI k))) (sM mo G I J) else sm_wp X 228 5 [some (.ref 81), some (.int (zI q)), some (.int (zI e)), some (.int (zI (k + 1))), some (.int (zI (o + (w.length + 1)))), none, none, none] [] (sM mo G I J) Q := by
    intro d
    induction d with
    | zero =>
      intro j hj
      have : j = w.length := by omega
      subst this
      rw [lp_228_18, zI_add, zI_vp (by omega), zI_cn (by omega), eq_true ho, true_and, hX _ ho, if_pos hb, zI_sub hqe]
      by_cases g : q + w.length = e
      · rw [if_neg (fun x => x (by rw [show w.length = e - q from by omega]))]
        exact cmp w.length 0 (by omega) 1 (Or.inl ⟨rfl, g, fun i hi => absurd hi (Nat.not_lt_zero _)⟩)
      · rw [if_pos (by rw [zI_eq (by omega) (by omega)]; omega)]
        exact cmp w.length 0 (by omega) 0 (Or.inr ⟨rfl, fun a => g a.1⟩)
    | succ d ih =>
      intro j hj
      have hwj := hw j (by omega)
      rw [lp_228_18, zI_add, zI_vp (by omega), zI_cn (by omega), eq_true (by omega : o + j < 95), true_and, hX _ (by omega), if_neg (by rw [hwj.1, zIr_eq (c := 32) (by decide) (by omega)]; exact hwj.2.2), show zI j + 1 = zI (j + 1) from zIr_add 1 j]
      exact ih (j + 1) (by omega)
  rw [lp_228_5, if_neg (by rw [show Int32.ofNat 95 = zI 95 from rfl, zI_le (by omega) (by omega)]; omega)]
  exact scan w.length 0 (by omega)
theorem mw_2 {B : Nat → Nat} {q e : Nat} (hT : tpM B (I 82)) (hX : ivX (I 93)) (hqe : q ≤ e) (he : e ≤ 400) : ∀ (ws : List (List Nat)) (o k : Nat), ofR ws o = true → k + ws.length < 99 → sm_wp X 228 5 [some (.ref 81), some (.int (zI q)), some (.int (zI e)), some (.int (zI k)), some (.int (zI o)), none, none, none] [] (sM mo G I J) Q = Q (some (.int (if fi (fun w => pB (mtc B q e w)) ws k 99 = 99 then -1 else zI (fi (fun w => pB (mtc B q e w)) ws k 99)))) (sM mo G I J)
  | [], o, k, h, _ => by
    have h' : o = 95 := decide_eq_true_iff.mp h
    rw [lp_228_5, if_pos (by rw [h']; decide)]
    unfold fi
    rw [if_pos rfl]
  | w :: r, o, k, h, hk => by
    unfold ofR at h
    simp only [Bool.and_eq_true, decide_eq_true_iff, List.all_eq_true, List.mem_range] at h
    obtain ⟨⟨⟨h1, h2⟩, h3⟩, h5⟩ := h
    rw [List.length_cons] at hk
    rw [mw_1 hT hX hqe he (w := w) (o := o) (k := k) h1 (fun j hj => h2 j hj) h3]
    unfold fi
    by_cases g : pB (mtc B q e w) = true
    · rw [if_pos g, if_pos g, if_neg (by omega)]
    · rw [if_neg g, if_neg g]
      exact mw_2 hT hX hqe he r (o + w.length + 1) (k + 1) h5 (by omega)
end K3
