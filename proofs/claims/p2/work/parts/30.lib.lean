/-! Words for the mathematics: answers as numbers, reads over writes. -/
def bi (p : Prop) [Decidable p] : Int32 := if p then 1 else 0
theorem zb_0 : sm_zb 0 = True := eq_true (Or.inl rfl)
theorem zb_1 : sm_zb 1 = True := eq_true (Or.inr rfl)
theorem zb_bi (p : Prop) [Decidable p] : sm_zb (bi p) = True := by
  unfold bi
  split
  · exact zb_1
  · exact zb_0
theorem bi_t {p : Prop} [Decidable p] (h : p) : bi p = 1 := if_pos h
theorem bi_f {p : Prop} [Decidable p] (h : ¬ p) : bi p = 0 := if_neg h
theorem bi_ne {p : Prop} [Decidable p] : (¬ bi p = 0) = p := by
  unfold bi
  split
  · rename_i h; simp [h]
  · rename_i h; simp [h]
theorem bi_eq {p : Prop} [Decidable p] : (bi p = 0) = ¬ p := by
  unfold bi
  split
  · rename_i h; simp [h]
  · rename_i h; simp [h]
theorem up2_ap {α : Type} (I : Nat → Nat → α) (a k : Nat) (v : α) (c j : Nat) : up2 I a k v c j = if c = a then (if j = k then v else I c j) else I c j := by
  unfold up2 va_up
  by_cases h : c = a
  · subst h; simp
  · simp [h]
theorem tl_some {α : Type} (v : α) (l : List α) : (some v).toList ++ l = v :: l := rfl
theorem tl_none {α : Type} (l : List α) : (none : Option α).toList ++ l = l := rfl
def isLd (I : Nat → Nat → Int32) (x : Int32) : Prop := ¬ x < 0 ∧ ¬ I 1 0 ≤ x ∧ ¬ 12 ≤ x
theorem rl_isLand (X : (Nat → Int32) × Nat) (mo : Bool) (G : Nat × Nat) (I : Nat → Nat → Int32) (J : Nat → Nat → Int64) (Q : Option Value → sm_M → Prop) (x : Int32) :
    sm_wp X 90 0 [some (.ref 1), some (.int x)] [] (sM mo G I J) Q = Q (some (.int (bi (¬ x < 0 ∧ ¬ I 1 0 ≤ x ∧ ¬ 12 ≤ x)))) (sM mo G I J) := by
  rw [bk_90_0]
  simp only [bk_90_22, bk_90_23, zb_0, zb_1, true_and]
  by_cases h1 : x < 0
  · simp [h1, bi]
  · by_cases h2 : I 1 0 ≤ x
    · simp [h1, h2, bi]
    · by_cases h3 : 12 ≤ x <;> simp [h1, h2, h3, bi]
