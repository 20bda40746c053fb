/-! Values: what two values make, on both sides. -/
abbrev bnd (x : Int64) : Prop := -1000000000000 ≤ x.toInt ∧ x.toInt ≤ 1000000000000
def bnO (v : Int64) : Option Int64 := if bnd v then some v else none
def abv (x : Int64) : Int64 := if 0 < x then x else -x
def mul_n (l r : Int64) : Bool := decide (¬ l = 0) && decide (¬ abv r ≤ 1000000000000 / abv l)
/-- what a sign between two makes; none: no value -/
def bopv (c : Nat) (l r : Int64) : Option Int64 := if c = 19 then bnO (l + r) else if c = 20 then bnO (l - r) else if c = 21 then (if mul_n l r = true then none else some (l * r)) else if c = 22 then (if r = 0 then none else some (l / r)) else if c = 23 then (if r = 0 then none else some (l - l / r * r)) else some (if vf_Del_compares (zI c) l r then 1 else 0)
theorem t12 : (1000000000000 : Int64).toInt = 1000000000000 := by decide
theorem tm12 : (-1000000000000 : Int64).toInt = -1000000000000 := by decide
theorem tmin : (-9223372036854775808 : Int64).toInt = -9223372036854775808 := by decide
theorem t64_0 : (0 : Int64).toInt = 0 := by decide
theorem abv_b (x : Int64) : vf_Model_big x = abv x := by
  unfold vf_Model_big abv
  by_cases h : 0 ≤ lg_cmp x 0
  · rw [if_pos h]
    rw [lg_cmp_ge] at h
    by_cases g : 0 < x
    · rw [if_pos g]
    · rw [if_neg g]
      rw [Int64.le_iff_toInt_le] at h
      rw [Int64.lt_iff_toInt_lt] at g
      have e : x = 0 := Int64.toInt_inj.mp (by rw [t64_0] at *; omega)
      rw [e]; decide
  · rw [if_neg h]
    rw [lg_cmp_ge] at h
    by_cases g : 0 < x
    · rw [Int64.le_iff_toInt_le] at h
      rw [Int64.lt_iff_toInt_lt] at g
      omega
    · rw [if_neg g]
theorem neg_t {x : Int64} (h : bnd x) : (-x).toInt = -x.toInt := Jvm.Kit.i64_neg (by have := h.1; omega)
theorem abv_t {x : Int64} (h : bnd x) : (abv x).toInt = (x.toInt.natAbs : Int) := by
  unfold abv
  by_cases g : 0 < x
  · rw [if_pos g]
    rw [Int64.lt_iff_toInt_lt, t64_0] at g
    omega
  · rw [if_neg g, neg_t h]
    rw [Int64.lt_iff_toInt_lt, t64_0] at g
    omega
theorem i64_z {x : Int64} : x = 0 ↔ x.toInt = 0 := ⟨fun h => by rw [h]; exact t64_0, fun h => Int64.toInt_inj.mp (by rw [h, t64_0])⟩
theorem abv_0 {x : Int64} (h : bnd x) (hx : ¬ x = 0) : ¬ abv x = 0 := by
  rw [i64_z, abv_t h]
  rw [i64_z] at hx
  omega
theorem mul_l {l r : Int64} (hl : bnd l) (hr : bnd r) (h : ¬ mul_n l r = true) : bnd (l * r) := by
  by_cases z : l = 0
  · subst z
    rw [Int64.zero_mul]
    exact ⟨by rw [t64_0]; decide, by rw [t64_0]; decide⟩
  · have g : abv r ≤ 1000000000000 / abv l := by
      by_cases e : abv r ≤ 1000000000000 / abv l
      · exact e
      · exfalso
        apply h
        unfold mul_n
        rw [decide_eq_true z, decide_eq_true e]
        rfl
    have la := abv_t hl
    have ra := abv_t hr
    have l0 : 0 < l.toInt.natAbs := by
      rw [i64_z] at z
      omega
    rw [Int64.le_iff_toInt_le, lg_ldiv_nonneg (by rw [t12]; decide) (by rw [la]; omega), t12, la, ra] at g
    have g2 : r.toInt.natAbs ≤ 1000000000000 / l.toInt.natAbs := by
      have e : ((1000000000000 / l.toInt.natAbs : Nat) : Int) = 1000000000000 / (l.toInt.natAbs : Int) := by rw [Int.natCast_ediv]; rfl
      rw [← e] at g
      omega
    have g3 : r.toInt.natAbs * l.toInt.natAbs ≤ 1000000000000 := (Nat.le_div_iff_mul_le l0).mp g2
    have g4 : (l.toInt * r.toInt).natAbs ≤ 1000000000000 := by rw [Int.natAbs_mul, Nat.mul_comm]; exact g3
    have e : (l * r).toInt = l.toInt * r.toInt := Jvm.Kit.i64_mul (by omega) (by omega)
    unfold bnd
    rw [e]
    omega
theorem div_l {l r : Int64} (hl : bnd l) : bnd (l / r) := by
  have e : (l / r).toInt = l.toInt.tdiv r.toInt := Jvm.Kit.i64_div (by have := hl.1; omega)
  have g : (l.toInt.tdiv r.toInt).natAbs ≤ l.toInt.natAbs := by rw [Int.natAbs_tdiv]; exact Nat.div_le_self _ _
  unfold bnd
  rw [e]
  have := hl.1
  have := hl.2
  omega
theorem rem_l {l r : Int64} (hl : bnd l) : bnd (l - l / r * r) := by
  have e := Jvm.Kit.i64_rem l r
  have g : (l.toInt.tmod r.toInt).natAbs ≤ l.toInt.natAbs := by rw [Int.natAbs_tmod]; exact Nat.mod_le _ _
  unfold bnd
  rw [e]
  have := hl.1
  have := hl.2
  omega
theorem bnd_1 (p : Prop) [Decidable p] : bnd (if p then 1 else 0) := by
  have a : bnd 1 := by decide
  have b : bnd 0 := by decide
  split
  · exact a
  · exact b
theorem bop_b {c : Nat} {l r v : Int64} (hl : bnd l) (hr : bnd r) (h : bopv c l r = some v) : bnd v := by
  unfold bopv bnO at h
  have s : ∀ {a b : Int64}, some a = some b → a = b := fun e => Option.some.inj e
  by_cases c1 : c = 19
  · rw [if_pos c1] at h
    by_cases g : bnd (l + r)
    · rw [if_pos g] at h; rw [← s h]; exact g
    · rw [if_neg g] at h; cases h
  rw [if_neg c1] at h
  by_cases c2 : c = 20
  · rw [if_pos c2] at h
    by_cases g : bnd (l - r)
    · rw [if_pos g] at h; rw [← s h]; exact g
    · rw [if_neg g] at h; cases h
  rw [if_neg c2] at h
  by_cases c3 : c = 21
  · rw [if_pos c3] at h
    by_cases g : mul_n l r = true
    · rw [if_pos g] at h; cases h
    · rw [if_neg g] at h; rw [← s h]; exact mul_l hl hr g
  rw [if_neg c3] at h
  by_cases c4 : c = 22
  · rw [if_pos c4] at h
    by_cases g : r = 0
    · rw [if_pos g] at h; cases h
    · rw [if_neg g] at h; rw [← s h]; exact div_l hl
  rw [if_neg c4] at h
  by_cases c5 : c = 23
  · rw [if_pos c5] at h
    by_cases g : r = 0
    · rw [if_pos g] at h; cases h
    · rw [if_neg g] at h; rw [← s h]; exact rem_l hl
  rw [if_neg c5] at h
  rw [← s h]
  exact bnd_1 _
/-- the size is tested -/
theorem rng {α : Type} (v : Int64) (A B : α) : (if 0 < lg_cmp v 1000000000000 then A else if 0 ≤ lg_cmp v (-1000000000000) then B else A) = if bnd v then B else A := by
  by_cases g : bnd v
  · rw [if_pos g, if_neg (by rw [lg_cmp_gt, Int64.lt_iff_toInt_lt, t12]; have := g.2; omega), if_pos (by rw [lg_cmp_ge, Int64.le_iff_toInt_le, tm12]; exact g.1)]
  · rw [if_neg g]
    by_cases a : 0 < lg_cmp v 1000000000000
    · rw [if_pos a]
    · rw [if_neg a, if_neg]
      intro b
      rw [lg_cmp_gt, Int64.lt_iff_toInt_lt, t12] at a
      rw [lg_cmp_ge, Int64.le_iff_toInt_le, tm12] at b
      exact g ⟨b, by omega⟩
/-- the value or the mark of none -/
def orM (o : Option Int64) : Int64 := match o with
  | some v => v
  | none => -9223372036854775808
theorem nbM : ¬ bnd (-9223372036854775808) := by decide
theorem cpt {c : Nat} {l r : Int64} (hl : bnd l) (hr : bnd r) (h1 : 19 ≤ c) (h2 : c ≤ 23) : vc_Del_compute (zI c) l r ∧ (if bnd (vf_Del_compute (zI c) l r) then vf_Del_compute (zI c) l r else -9223372036854775808) = orM (bopv c l r) := by
  refine ⟨fun _ _ => ⟨fun _ a => ?_, fun _ => ⟨fun _ a b => a (by rw [lg_cmp_eq]; exact b), fun _ a b => a (by rw [lg_cmp_eq]; exact b)⟩⟩, ?_⟩
  · rw [lg_cmp_eq] at a
    exact abv_0 hl a
  · unfold vf_Del_compute bopv bnO
    have hc : c = 19 ∨ c = 20 ∨ c = 21 ∨ c = 22 ∨ c = 23 := by omega
    rcases hc with rfl | rfl | rfl | rfl | rfl
    · rw [if_pos (show zI 19 = 19 from rfl), if_pos rfl]
      split <;> rfl
    · rw [if_neg (show ¬ zI 20 = 19 by decide), if_pos (show zI 20 = 20 from rfl), if_neg (show ¬ 20 = 19 by decide), if_pos rfl]
      split <;> rfl
    · rw [if_neg (show ¬ zI 21 = 19 by decide), if_neg (show ¬ zI 21 = 20 by decide), if_pos (show zI 21 = 21 from rfl), if_neg (show ¬ 21 = 19 by decide), if_neg (show ¬ 21 = 20 by decide), if_pos rfl]
      by_cases z : lg_cmp l 0 = 0
      · rw [if_pos z]
        rw [lg_cmp_eq] at z
        have n : ¬ mul_n l r = true := by unfold mul_n; rw [decide_eq_false (fun e => e z), Bool.false_and]; exact Bool.false_ne_true
        rw [if_neg n, if_pos (mul_l hl hr n)]
        rfl
      · rw [if_neg z]
        rw [lg_cmp_eq] at z
        by_cases g : lg_cmp (if 0 < (r : Int64) then r else -r) (1000000000000 / (if 0 < (l : Int64) then l else -l)) ≤ 0
        · rw [if_pos g]
          rw [lg_cmp_le] at g
          have n : ¬ mul_n l r = true := by
            unfold mul_n
            have : decide (¬ abv r ≤ 1000000000000 / abv l) = false := decide_eq_false (fun e => e g)
            rw [this, Bool.and_false]
            decide
          rw [if_neg n, if_pos (mul_l hl hr n)]
          rfl
        · rw [if_neg g, if_neg nbM]
          rw [lg_cmp_le] at g
          have n : mul_n l r = true := by
            unfold mul_n
            have : decide (¬ abv r ≤ 1000000000000 / abv l) = true := decide_eq_true g
            rw [this, decide_eq_true z]
            rfl
          rw [if_pos n]
          rfl
    · rw [if_neg (show ¬ zI 22 = 19 by decide), if_neg (show ¬ zI 22 = 20 by decide), if_neg (show ¬ zI 22 = 21 by decide), if_pos (show zI 22 = 22 from rfl), if_neg (show ¬ 22 = 19 by decide), if_neg (show ¬ 22 = 20 by decide), if_neg (show ¬ 22 = 21 by decide), if_pos rfl]
      by_cases z : r = 0
      · have e : (if ¬ lg_cmp r 0 = 0 then (l / r : Int64) else -9223372036854775808) = -9223372036854775808 := if_neg (fun g => g ((lg_cmp_eq r 0).mpr z))
        rw [e, if_neg nbM, if_pos z]
        rfl
      · have e : (if ¬ lg_cmp r 0 = 0 then (l / r : Int64) else -9223372036854775808) = l / r := if_pos (fun g => z ((lg_cmp_eq r 0).mp g))
        rw [e, if_pos (div_l hl), if_neg z]
        rfl
    · rw [if_neg (show ¬ zI 23 = 19 by decide), if_neg (show ¬ zI 23 = 20 by decide), if_neg (show ¬ zI 23 = 21 by decide), if_neg (show ¬ zI 23 = 22 by decide), if_neg (show ¬ 23 = 19 by decide), if_neg (show ¬ 23 = 20 by decide), if_neg (show ¬ 23 = 21 by decide), if_neg (show ¬ 23 = 22 by decide), if_pos rfl]
      by_cases z : r = 0
      · have e : (if ¬ lg_cmp r 0 = 0 then (l - l / r * r : Int64) else -9223372036854775808) = -9223372036854775808 := if_neg (fun g => g ((lg_cmp_eq r 0).mpr z))
        rw [e, if_neg nbM, if_pos z]
        rfl
      · have e : (if ¬ lg_cmp r 0 = 0 then (l - l / r * r : Int64) else -9223372036854775808) = l - l / r * r := if_pos (fun g => z ((lg_cmp_eq r 0).mp g))
        rw [e, if_pos (rem_l hl), if_neg z]
        rfl
section V1
variable {X : (Nat → Int32) × Nat} {mo : Bool} {G : Nat × Nat} {I : Nat → Nat → Int32} {J : Nat → Nat → Int64} {Q : Option Value → sm_M → Prop}
/-- the class, two values at hand -/
theorem c_69 {c : Nat} {l r : Int64} (hc : c = 5 ∨ c = 6 ∨ (19 ≤ c ∧ c ≤ 29)) (hl : bnd l) (hr : bnd r) (hQ : Q (some (.long (orM (bopv c l r)))) (sM mo G I J)) : sm_wp X 27 69 [some (.ref 45), some (.int (zI c)), some (.long r), none, none, none, none, none] [.long l] (sM mo G I J) Q := by
  rw [lp_27_69]
  have cmpT : (¬ (19 ≤ c ∧ c ≤ 23)) → (if ¬ (vf_Del_compares (zI c) l r) then (if 0 < lg_cmp 0 1000000000000 then (Q (some (.long (-9223372036854775808))) (sM mo G I J)) else (if 0 ≤ lg_cmp 0 (-1000000000000) then (Q (some (.long 0)) (sM mo G I J)) else (Q (some (.long (-9223372036854775808))) (sM mo G I J)))) else (if 0 < lg_cmp 1 1000000000000 then (Q (some (.long (-9223372036854775808))) (sM mo G I J)) else (if 0 ≤ lg_cmp 1 (-1000000000000) then (Q (some (.long 1)) (sM mo G I J)) else (Q (some (.long (-9223372036854775808))) (sM mo G I J))))) := by
    intro hn
    rw [rng, rng, if_pos (show bnd 0 by decide), if_pos (show bnd 1 by decide)]
    unfold bopv at hQ
    rw [if_neg (by omega), if_neg (by omega), if_neg (by omega), if_neg (by omega), if_neg (by omega)] at hQ
    by_cases g : vf_Del_compares (zI c) l r
    · rw [if_pos g] at hQ
      rw [if_neg (fun e => e g)]
      exact hQ
    · rw [if_neg g] at hQ
      rw [if_pos g]
      exact hQ
  by_cases a : c < 19
  · rw [if_pos (by rw [zIr_lt (c := 19) (by decide) (by omega)]; exact a)]
    exact cmpT (by omega)
  · rw [if_neg (by rw [zIr_lt (c := 19) (by decide) (by omega)]; exact a)]
    by_cases b : 23 < c
    · rw [if_pos (by rw [zIl_lt (c := 23) (by decide) (by omega)]; exact b)]
      exact cmpT (by omega)
    · rw [if_neg (by rw [zIl_lt (c := 23) (by decide) (by omega)]; exact b), rng]
      obtain ⟨h1, h2⟩ := cpt hl hr (show 19 ≤ c by omega) (show c ≤ 23 by omega)
      refine ⟨h1, ?_⟩
      rw [← h2] at hQ
      split
      · rename_i g; rw [if_pos g] at hQ; exact hQ
      · rename_i g; rw [if_neg g] at hQ; exact hQ
/-- the reference, two values at hand -/
theorem r_261 {c : Nat} {l r : Int64} (hc : c = 5 ∨ c = 6 ∨ (19 ≤ c ∧ c ≤ 29)) (hl : bnd l) (hr : bnd r) (h63 : I 81 63 = 0)
    (hQ : ∀ L, (∀ d, ¬ d = 81 → L d = I d) → (∀ j, ¬ j = 63 → L 81 j = I 81 j) → (∀ v, bopv c l r = some v → L 81 63 = 0 → Q (some (.long v)) (sM mo G L J)) ∧ (bopv c l r = none → L 81 63 = 1 → Q (some (.long 0)) (sM mo G L J))) : sm_wp X 261 0 [some (.ref 81), some (.int (zI (kdc c))), some (.long l), none, some (.long r), none] [] (sM mo G I J) Q := by
  have q0 := hQ I (fun _ _ => rfl) (fun _ _ => rfl)
  have qb : ∀ z : Int32, (∀ v, bopv c l r = some v → z = 0 → Q (some (.long v)) (sM mo G (up2 I 81 63 z) J)) ∧ (bopv c l r = none → z = 1 → Q (some (.long 0)) (sM mo G (up2 I 81 63 z) J)) := fun z => by
    have := hQ (up2 I 81 63 z) (fun d hd => up2_rn _ _ _ _ _ hd) (fun j hj => by rw [up2_ra, va_ap, if_neg hj])
    rw [up2_ss] at this
    exact this
  have tr : vf_Model_truth 0 = 0 ∧ vf_Model_truth 1 = 1 := by decide
  rw [ct_Model_made, h63, tr.1, tr.2]
  have cmp : (¬ (19 ≤ c ∧ c ≤ 23)) → ∀ v : Int64, v = (if vf_Del_compares (zI c) l r then 1 else 0) → Q (some (.long v)) (sM mo G I J) := fun hn v hv => by
    refine q0.1 v ?_ h63
    unfold bopv
    rw [if_neg (by omega), if_neg (by omega), if_neg (by omega), if_neg (by omega), if_neg (by omega), hv]
  have bn : ∀ v : Int64, (lg_cmp (vf_Model_big v) 1000000000000 ≤ 0 ↔ bnd v) ∨ v.toInt = -9223372036854775808 := fun v => by
    by_cases e : v.toInt = -9223372036854775808
    · exact Or.inr e
    · left
      rw [lg_cmp_le, abv_b, Int64.le_iff_toInt_le, t12]
      unfold abv
      by_cases g : 0 < v
      · rw [if_pos g]
        rw [Int64.lt_iff_toInt_lt, t64_0] at g
        exact ⟨fun h => ⟨by omega, h⟩, fun h => h.2⟩
      · rw [if_neg g, Jvm.Kit.i64_neg e]
        rw [Int64.lt_iff_toInt_lt, t64_0] at g
        exact ⟨fun h => ⟨by omega, by omega⟩, fun h => by have := h.1; omega⟩
  have nn : ¬ ¬ (0 : Int32) = 0 := fun e => e rfl
  rcases hc with rfl | rfl | hc
  · -- and
    have e : zI (kdc 5) = 14 := rfl
    rw [e, if_neg (by decide), if_neg (by decide), if_neg (by decide), if_neg (by decide), if_neg (by decide), if_neg (by decide), if_neg (by decide), if_neg (by decide), if_neg (by decide), if_neg (by decide), if_neg (by decide), if_pos rfl]
    have cp : vf_Del_compares (zI 5) l r ↔ (¬ lg_cmp l 0 = 0 ∧ ¬ lg_cmp r 0 = 0) := ⟨fun h => by rcases h with h | h; exact h.2; exact absurd rfl h.1, fun h => Or.inl ⟨rfl, h⟩⟩
    by_cases a : lg_cmp l 0 = 0
    · rw [if_pos a]; exact cmp (by omega) 0 (by rw [if_neg (fun h => (cp.mp h).1 a)])
    · rw [if_neg a]
      by_cases b : lg_cmp r 0 = 0
      · rw [if_pos b]; exact cmp (by omega) 0 (by rw [if_neg (fun h => (cp.mp h).2 b)])
      · rw [if_neg b]; exact cmp (by omega) 1 (by rw [if_pos (cp.mpr ⟨a, b⟩)])
  · have e : zI (kdc 6) = 15 := rfl
    rw [e, if_neg (by decide), if_neg (by decide), if_neg (by decide), if_neg (by decide), if_neg (by decide), if_neg (by decide), if_neg (by decide), if_neg (by decide), if_neg (by decide), if_neg (by decide), if_neg (by decide), if_neg (by decide)]
    have cp : vf_Del_compares (zI 6) l r ↔ (¬ lg_cmp l 0 = 0 ∨ ¬ lg_cmp r 0 = 0) := ⟨fun h => by
      rcases h with h | ⟨-, h⟩
      · exact absurd h.1 (by decide)
      · rcases h with h | h
        · exact h.2
        · exact absurd rfl h.1, fun h => Or.inr ⟨by decide, Or.inl ⟨rfl, h⟩⟩⟩
    by_cases a : lg_cmp l 0 = 0
    · rw [if_neg (fun e => e a)]
      by_cases b : lg_cmp r 0 = 0
      · rw [if_pos b]; exact cmp (by omega) 0 (by rw [if_neg (fun h => by rcases cp.mp h with h | h; exact h a; exact h b)])
      · rw [if_neg b]; exact cmp (by omega) 1 (by rw [if_pos (cp.mpr (Or.inr b))])
    · rw [if_pos a]; exact cmp (by omega) 1 (by rw [if_pos (cp.mpr (Or.inl a))])
  · have hc' : c = 19 ∨ c = 20 ∨ c = 21 ∨ c = 22 ∨ c = 23 ∨ c = 24 ∨ c = 25 ∨ c = 26 ∨ c = 27 ∨ c = 28 ∨ c = 29 := by omega
    have ad : ∀ v : Int64, ¬ v.toInt = -9223372036854775808 → bopv c l r = bnO v → (if ¬ (0 : Int32) = 0 then (Q (some (.long 0)) (sM mo G (up2 I 81 63 1) J)) else (if lg_cmp (vf_Model_big v) 1000000000000 ≤ 0 then (Q (some (.long v)) (sM mo G (up2 I 81 63 0) J)) else (Q (some (.long 0)) (sM mo G (up2 I 81 63 1) J)))) := fun v hv hb => by
      rw [if_neg nn]
      have bv := (bn v).resolve_right hv
      by_cases g : bnd v
      · rw [if_pos (bv.mpr g)]
        exact (qb 0).1 v (by rw [hb]; unfold bnO; rw [if_pos g]) rfl
      · rw [if_neg (fun e => g (bv.mp e))]
        exact (qb 1).2 (by rw [hb]; unfold bnO; rw [if_neg g]) rfl
    have sums := And.intro hl.1 (And.intro hl.2 (And.intro hr.1 hr.2))
    rcases hc' with rfl | rfl | rfl | rfl | rfl | rfl | rfl | rfl | rfl | rfl | rfl
    · have e : zI (kdc 19) = 7 := rfl
      rw [e, if_neg (by decide), if_neg (by decide), if_neg (by decide), if_neg (by decide), if_neg (by decide), if_neg (by decide), if_pos rfl]
      exact ad (l + r) (by rw [Jvm.Kit.i64_add (by omega) (by omega)]; omega) rfl
    · have e : zI (kdc 20) = 8 := rfl
      rw [e, if_neg (by decide), if_neg (by decide), if_neg (by decide), if_neg (by decide), if_neg (by decide), if_neg (by decide), if_neg (by decide), if_pos rfl]
      exact ad (l - r) (by rw [Jvm.Kit.i64_sub (by omega) (by omega)]; omega) rfl
    · have e : zI (kdc 21) = 9 := rfl
      rw [e, if_neg (by decide), if_neg (by decide), if_neg (by decide), if_neg (by decide), if_neg (by decide), if_neg (by decide), if_neg (by decide), if_neg (by decide), if_pos rfl, if_neg nn]
      have bo : bopv 21 l r = if mul_n l r = true then none else some (l * r) := rfl
      by_cases z : lg_cmp l 0 = 0
      · rw [if_pos z]
        rw [lg_cmp_eq] at z
        have n : ¬ mul_n l r = true := by unfold mul_n; rw [decide_eq_false (fun e => e z), Bool.false_and]; exact Bool.false_ne_true
        exact (qb 0).1 _ (by rw [bo, if_neg n]) rfl
      · rw [if_neg z]
        rw [lg_cmp_eq] at z
        rw [abv_b, abv_b]
        refine ⟨abv_0 hl z, ?_⟩
        by_cases g : lg_cmp (abv r) (1000000000000 / abv l) ≤ 0
        · rw [if_pos g]
          rw [lg_cmp_le] at g
          have n : ¬ mul_n l r = true := by
            unfold mul_n
            rw [decide_eq_false (p := ¬ abv r ≤ 1000000000000 / abv l) (fun e => e g), Bool.and_false]
            decide
          exact (qb 0).1 _ (by rw [bo, if_neg n]) rfl
        · rw [if_neg g]
          rw [lg_cmp_le] at g
          have n : mul_n l r = true := by
            unfold mul_n
            rw [decide_eq_true (p := ¬ abv r ≤ 1000000000000 / abv l) g, decide_eq_true z]
            rfl
          exact (qb 1).2 (by rw [bo, if_pos n]) rfl
    · have e : zI (kdc 22) = 10 := rfl
      rw [e, if_neg (by decide), if_neg (by decide), if_neg (by decide), if_neg (by decide), if_neg (by decide), if_neg (by decide), if_neg (by decide), if_neg (by decide), if_neg (by decide), if_pos rfl, if_neg nn]
      have bo : bopv 22 l r = if r = 0 then none else some (l / r) := rfl
      by_cases z : r = 0
      · rw [if_neg (fun e => e (by rw [lg_cmp_eq]; exact z))]
        exact (qb 1).2 (by rw [bo, if_pos z]) rfl
      · rw [if_pos (by rw [lg_cmp_eq]; exact z)]
        exact ⟨z, (qb 0).1 _ (by rw [bo, if_neg z]) rfl⟩
    · have e : zI (kdc 23) = 11 := rfl
      rw [e, if_neg (by decide), if_neg (by decide), if_neg (by decide), if_neg (by decide), if_neg (by decide), if_neg (by decide), if_neg (by decide), if_neg (by decide), if_neg (by decide), if_neg (by decide), if_pos rfl, if_neg nn]
      have bo : bopv 23 l r = if r = 0 then none else some (l - l / r * r) := rfl
      by_cases z : r = 0
      · rw [if_neg (fun e => e (by rw [lg_cmp_eq]; exact z))]
        exact (qb 1).2 (by rw [bo, if_pos z]) rfl
      · rw [if_pos (by rw [lg_cmp_eq]; exact z)]
        exact ⟨z, (qb 0).1 _ (by rw [bo, if_neg z]) rfl⟩
    · have e : zI (kdc 24) = 1 := rfl
      have cp : vf_Del_compares (zI 24) l r ↔ ¬ 0 ≤ lg_cmp l r := by simp (decide := true) only [vf_Del_compares, false_and, true_and, false_or, or_false, not_false_eq_true, not_true_eq_false]
      rw [e, if_pos rfl]
      by_cases a : 0 ≤ lg_cmp l r
      · rw [if_pos a]; exact cmp (by omega) 0 (by rw [if_neg (fun h => cp.mp h a)])
      · rw [if_neg a]; exact cmp (by omega) 1 (by rw [if_pos (cp.mpr a)])
    · have e : zI (kdc 25) = 2 := rfl
      have cp : vf_Del_compares (zI 25) l r ↔ ¬ 0 < lg_cmp l r := by simp (decide := true) only [vf_Del_compares, false_and, true_and, false_or, or_false, not_false_eq_true, not_true_eq_false]
      rw [e, if_neg (by decide), if_pos rfl]
      by_cases a : 0 < lg_cmp l r
      · rw [if_pos a]; exact cmp (by omega) 0 (by rw [if_neg (fun h => cp.mp h a)])
      · rw [if_neg a]; exact cmp (by omega) 1 (by rw [if_pos (cp.mpr a)])
    · have e : zI (kdc 26) = 3 := rfl
      have cp : vf_Del_compares (zI 26) l r ↔ lg_cmp l r = 0 := by simp (decide := true) only [vf_Del_compares, false_and, true_and, false_or, or_false, not_false_eq_true, not_true_eq_false]
      rw [e, if_neg (by decide), if_neg (by decide), if_pos rfl]
      by_cases a : lg_cmp l r = 0
      · rw [if_neg (fun h => h a)]; exact cmp (by omega) 1 (by rw [if_pos (cp.mpr a)])
      · rw [if_pos a]; exact cmp (by omega) 0 (by rw [if_neg (fun h => a (cp.mp h))])
    · have e : zI (kdc 27) = 4 := rfl
      have cp : vf_Del_compares (zI 27) l r ↔ ¬ lg_cmp l r = 0 := by simp (decide := true) only [vf_Del_compares, false_and, true_and, false_or, or_false, not_false_eq_true, not_true_eq_false]
      rw [e, if_neg (by decide), if_neg (by decide), if_neg (by decide), if_pos rfl]
      by_cases a : lg_cmp l r = 0
      · rw [if_pos a]; exact cmp (by omega) 0 (by rw [if_neg (fun h => cp.mp h a)])
      · rw [if_neg a]; exact cmp (by omega) 1 (by rw [if_pos (cp.mpr a)])
    · have e : zI (kdc 28) = 5 := rfl
      have cp : vf_Del_compares (zI 28) l r ↔ ¬ lg_cmp l r < 0 := by simp (decide := true) only [vf_Del_compares, false_and, true_and, false_or, or_false, not_false_eq_true, not_true_eq_false]
      rw [e, if_neg (by decide), if_neg (by decide), if_neg (by decide), if_neg (by decide), if_pos rfl]
      by_cases a : lg_cmp l r < 0
      · rw [if_pos a]; exact cmp (by omega) 0 (by rw [if_neg (fun h => cp.mp h a)])
      · rw [if_neg a]; exact cmp (by omega) 1 (by rw [if_pos (cp.mpr a)])
    · have e : zI (kdc 29) = 6 := rfl
      have cp : vf_Del_compares (zI 29) l r ↔ ¬ lg_cmp l r ≤ 0 := by simp (decide := true) only [vf_Del_compares, false_and, true_and, false_or, or_false, not_false_eq_true, not_true_eq_false]
      rw [e, if_neg (by decide), if_neg (by decide), if_neg (by decide), if_neg (by decide), if_neg (by decide), if_pos rfl]
      by_cases a : lg_cmp l r ≤ 0
      · rw [if_pos a]; exact cmp (by omega) 0 (by rw [if_neg (fun h => cp.mp h a)])
      · rw [if_neg a]; exact cmp (by omega) 1 (by rw [if_pos (cp.mpr a)])
end V1
