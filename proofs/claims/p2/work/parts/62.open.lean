/-! Open through others; the calls distance, laid, word. -/
def hgA (hg : Nat → Nat → Bool) (r k : Nat) (o : Nat → Bool) : Bool := up (fun on (acc : Bool) => acc || (hg k on && o on)) r false
def hgS (hg : Nat → Nat → Bool) (r k : Nat) (o : Nat → Bool) : Nat → Bool := fun j => if j = k then (o k || hgA hg r k o) else o j
def hgR (hg : Nat → Nat → Bool) (r : Nat) (_ : Nat) (o : Nat → Bool) : Nat → Bool := up (hgS hg r) r o
def hgO (hg : Nat → Nat → Bool) (r : Nat) (o : Nat → Bool) : Nat → Bool := up (hgR hg r) 8 o
theorem or_ex (g : Nat → Bool) (n : Nat) : up (fun k (acc : Bool) => acc || g k) n false = true ↔ ∃ k, k < n ∧ g k = true := by
  induction n with
  | zero => rw [up_0]; constructor
            · intro h; cases h
            · rintro ⟨k, hk, -⟩; omega
  | succ n ih =>
    rw [up_s, Bool.or_eq_true, ih]
    constructor
    · rintro (⟨k, hk, h⟩ | h)
      · exact ⟨k, by omega, h⟩
      · exact ⟨n, by omega, h⟩
    · rintro ⟨k, hk, h⟩
      by_cases e : k = n
      · subst e
        exact Or.inr h
      · exact Or.inl ⟨k, by omega, h⟩
section O1
variable {X : (Nat → Int32) × Nat} {mo : Bool} {G : Nat × Nat} {J : Nat → Nat → Int64} {Q : Option Value → sm_M → Prop}
theorem hc_isOpen {r ms a : Nat} {I : Nat → Nat → Int32} (h : aC r ms I) (hR : ∀ j, ∃ w, w ≤ 99 ∧ I 10 j = zI w) (hH : ∀ a b, r ≤ b → bt (I 74 a) b = false) (ha : a < r) (hQ : ∀ K, Fr I K → Q (some (.int (if hgO (fun k on => bt (I 74 k) on) r (fun k => opA (I 1 2) (I 72) (I 73) (I 10) ms k) a = true then 1 else 0))) (sM mo G K J)) : sm_wp X 13 0 [some (.ref 71), some (.int (zI a)), none, none, none] [] (sM mo G I J) Q := by
  have hr := h.2.1
  -- the rounds
  have l3 : ∀ d n, n + d = 8 → ∀ K, Fr I K → ∀ x : Int32, (∀ j, bt x j = (decide (j < r) && up (hgR (fun k on => bt (I 74 k) on) r) n (fun k => opA (I 1 2) (I 72) (I 73) (I 10) ms k) j)) → sm_wp X 13 34 [some (.ref 71), some (.int (zI a)), some (.int x), some (.int (zI n)), none] [] (sM mo G K J) Q := by
    intro d
    induction d with
    | zero =>
      intro n hn K f x hx
      have : n = 8 := by omega
      subst this
      rw [lp_13_34, if_pos (by decide)]
      have e := hQ K f
      have hv : bi (hBit x (zI a)) = if hgO (fun k on => bt (I 74 k) on) r (fun k => opA (I 1 2) (I 72) (I 73) (I 10) ms k) a = true then 1 else 0 := by
        unfold bi
        simp only [hb_bt x a (by omega), hx a, decide_eq_true ha, Bool.true_and]
        rfl
      rw [hv]
      exact e
    | succ d ih =>
      intro n hn K f x hx
      have c8 : ¬ (8 : Int32) ≤ zI n := by rw [zIl_le (c := 8) (by decide) (by omega)]; show ¬ 8 ≤ n; omega
      rw [lp_13_34, if_neg c8]
      have nx := ih (n + 1) (by omega) K f
      rw [up_s] at nx
      generalize up (hgR (fun k on => bt (I 74 k) on) r) n (fun k => opA (I 1 2) (I 72) (I 73) (I 10) ms k) = o at hx nx
      have inn : ∀ e k, k + e = r → ∀ y : Int32, (∀ j, bt y j = (decide (j < r) && up (hgS (fun k on => bt (I 74 k) on) r) k o j)) → sm_wp X 13 43 [some (.ref 71), some (.int (zI a)), some (.int y), some (.int (zI n)), some (.int (zI k))] [] (sM mo G K J) Q := by
        intro e
        induction e with
        | zero =>
          intro k hk y hy
          have : k = r := by omega
          subst this
          rw [lp_13_43, if_pos (by rw [f.1 71 rfl, h.1, zI_le (by omega) (by omega)]; exact Nat.le_refl _), show zI n + 1 = zI (n + 1) from zIr_add 1 n]
          exact nx y hy
        | succ e ihe =>
          intro k hk y hy
          rw [lp_13_43, if_neg (by rw [f.1 71 rfl, h.1, zI_le (by omega) (by omega)]; omega), if_neg (by rw [zIl_le (c := 8) (by decide) (by omega)]; show ¬ 8 ≤ k; omega), zI_vp (by omega), zI_cn (by omega), f.1 74 rfl, show zI k + 1 = zI (k + 1) from zIr_add 1 k]
          refine ⟨by omega, ?_⟩
          have nx2 := ihe (k + 1) (by omega)
          rw [up_s] at nx2
          generalize up (hgS (fun k on => bt (I 74 k) on) r) k o = p at hy nx2
          have hand : (I 74 k &&& y = 0) ↔ ¬ hgA (fun k on => bt (I 74 k) on) r k p = true := by
            unfold hgA
            rw [or_ex, bt_eq0]
            constructor
            · rintro h1 ⟨j, hj, h2⟩
              have := h1 j (by omega)
              rw [bt_and, hy j, decide_eq_true hj, Bool.true_and, h2] at this
              cases this
            · intro h1 j hj
              rw [bt_and, hy j]
              by_cases g : j < r
              · rw [decide_eq_true g, Bool.true_and]
                cases hh : (bt (I 74 k) j && p j) with
                | false => rfl
                | true => exact absurd ⟨j, g, hh⟩ h1
              · rw [decide_eq_false g]
                simp
          by_cases g : I 74 k &&& y = 0
          · rw [if_pos g]
            have g2 := hand.mp g
            refine nx2 y ?_
            intro j
            rw [hy j]
            unfold hgS
            by_cases e : j = k
            · subst e
              rw [if_pos rfl, Bool.eq_false_iff.mpr g2, Bool.or_false]
            · rw [if_neg e]
          · rw [if_neg g]
            have g2 : hgA (fun k on => bt (I 74 k) on) r k p = true := by
              cases hh : hgA (fun k on => bt (I 74 k) on) r k p with
              | true => rfl
              | false => exact absurd (hand.mpr (by rw [hh]; decide)) g
            refine nx2 _ ?_
            intro j
            have e1 := bt_b1' k j (by omega)
            unfold b1 at e1
            rw [bt_or, hy j, e1]
            unfold hgS
            by_cases e : j = k
            · subst e
              rw [if_pos rfl, g2, Bool.or_true]
              simp
              omega
            · rw [if_neg e, decide_eq_false e, Bool.or_false]
      exact inn r 0 (by omega) x hx
  -- each by itself
  have l1 : ∀ d k, k + d = r → ∀ K, Fr I K → ∀ x : Int32, (∀ j, bt x j = (decide (j < k) && opA (I 1 2) (I 72) (I 73) (I 10) ms j)) → sm_wp X 13 4 [some (.ref 71), some (.int (zI a)), some (.int x), some (.int (zI k)), none] [] (sM mo G K J) Q := by
    intro d
    induction d with
    | zero =>
      intro k hk K f x hx
      have : k = r := by omega
      subst this
      rw [lp_13_4, if_pos (by rw [f.1 71 rfl, h.1, zI_le (by omega) (by omega)]; exact Nat.le_refl _)]
      exact l3 8 0 rfl K f x hx
    | succ d ih =>
      intro k hk K f x hx
      rw [lp_13_4, if_neg (by rw [f.1 71 rfl, h.1, zI_le (by omega) (by omega)]; omega)]
      refine hc_open (aC_f f h) (by rw [f.1 10 rfl]; exact hR) (by omega) ?_
      intro K2 f2
      have f3 := Fr_t f f2
      simp only [tl_some]
      rw [f.1 1 rfl, f.1 72 rfl, f.1 73 rfl, f.1 10 rfl, lp_13_17, show zI k + 1 = zI (k + 1) from zIr_add 1 k]
      cases hh : opA (I 1 2) (I 72) (I 73) (I 10) ms k with
      | false =>
        rw [if_pos (by decide)]
        refine ih (k + 1) (by omega) K2 f3 x ?_
        intro j
        rw [hx j]
        by_cases e : j = k
        · subst e
          rw [hh, Bool.and_false, Bool.and_false]
        · have e2 : decide (j < k) = decide (j < k + 1) := decide_eq_decide.mpr (by omega)
          rw [e2]
      | true =>
        rw [if_neg (by decide)]
        refine ih (k + 1) (by omega) K2 f3 _ ?_
        intro j
        have e1 := bt_b1' k j (by omega)
        unfold b1 at e1
        rw [bt_or, hx j, e1]
        by_cases e : j = k
        · subst e
          rw [hh]
          simp
        · have e2 : decide (j < k) = decide (j < k + 1) := decide_eq_decide.mpr (by omega)
          rw [e2, decide_eq_false e, Bool.or_false]
  rw [lp_13_0]
  exact l1 r 0 (by omega) I (Fr_r I) 0 (fun j => by rw [bt_0, decide_eq_false (Nat.not_lt_zero _), Bool.false_and])
theorem b01 (b : Bool) : sm_zb (if b = true then 1 else 0) := by
  cases b with
  | true => exact Or.inr rfl
  | false => exact Or.inl rfl
theorem hm_isOpen {r ms a : Nat} {I : Nat → Nat → Int32} (h : aM r ms I) (ha : a < r) (hQ : ∀ K, Fr I K → Q (some (.int (if hgO (fun k on => decide (¬ I 137 (8 * k + on) = 0)) r (fun k => opA (I 81 15) (I 135) (I 136) (I 89) ms k) a = true then 1 else 0))) (sM mo G K J)) : sm_wp X 301 0 [some (.ref 81), some (.int (zI a)), none, none, none] [] (sM mo G I J) Q := by
  have hr := h.2.1
  have l3 : ∀ d n, n + d = 8 → ∀ K, Fr I K → (∀ j, j < r → K 141 j = if up (hgR (fun k on => decide (¬ I 137 (8 * k + on) = 0)) r) n (fun k => opA (I 81 15) (I 135) (I 136) (I 89) ms k) j = true then 1 else 0) → sm_wp X 301 29 [some (.ref 81), some (.int (zI a)), some (.int (zI n)), none, none] [] (sM mo G K J) Q := by
    intro d
    induction d with
    | zero =>
      intro n hn K f hx
      have : n = 8 := by omega
      subst this
      rw [lp_301_29, if_pos (by decide), zI_vp (by omega), zI_cn (by omega), hx a ha]
      exact ⟨by omega, b01 _, hQ K f⟩
    | succ d ih =>
      intro n hn K f hx
      have c8 : ¬ (8 : Int32) ≤ zI n := by rw [zIl_le (c := 8) (by decide) (by omega)]; show ¬ 8 ≤ n; omega
      rw [lp_301_29, if_neg c8]
      have nx := ih (n + 1) (by omega)
      rw [up_s] at nx
      generalize up (hgR (fun k on => decide (¬ I 137 (8 * k + on) = 0)) r) n (fun k => opA (I 81 15) (I 135) (I 136) (I 89) ms k) = o at hx nx
      have inn : ∀ e k, k + e = r → ∀ K, Fr I K → (∀ j, j < r → K 141 j = if up (hgS (fun k on => decide (¬ I 137 (8 * k + on) = 0)) r) k o j = true then 1 else 0) → sm_wp X 301 37 [some (.ref 81), some (.int (zI a)), some (.int (zI n)), some (.int (zI k)), none] [] (sM mo G K J) Q := by
        intro e
        induction e with
        | zero =>
          intro k hk K f hy
          have : k = r := by omega
          subst this
          rw [lp_301_37, if_pos (by rw [f.2.2.2.2 81 rfl, h.1, zI_le (by omega) (by omega)]; exact Nat.le_refl _), show zI n + 1 = zI (n + 1) from zIr_add 1 n]
          exact nx K f hy
        | succ e ihe =>
          intro k hk K f hy
          rw [lp_301_37, if_neg (by rw [f.2.2.2.2 81 rfl, h.1, zI_le (by omega) (by omega)]; omega)]
          have nx2 := ihe (k + 1) (by omega)
          rw [up_s] at nx2
          generalize up (hgS (fun k on => decide (¬ I 137 (8 * k + on) = 0)) r) k o = p at hy nx2
          have in2 : ∀ e2 q, q + e2 = r → ∀ K, Fr I K → (∀ j, j < r → K 141 j = if (if j = k then (p k || up (fun on (acc : Bool) => acc || (decide (¬ I 137 (8 * k + on) = 0) && p on)) q false) else p j) = true then 1 else 0) → sm_wp X 301 48 [some (.ref 81), some (.int (zI a)), some (.int (zI n)), some (.int (zI k)), some (.int (zI q))] [] (sM mo G K J) Q := by
            intro e2
            induction e2 with
            | zero =>
              intro q hq K f hz
              have : q = r := by omega
              subst this
              rw [lp_301_48, if_pos (by rw [f.2.2.2.2 81 rfl, h.1, zI_le (by omega) (by omega)]; exact Nat.le_refl _), show zI k + 1 = zI (k + 1) from zIr_add 1 k]
              exact nx2 K f hz
            | succ e2 ih2 =>
              intro q hq K f hz
              have y64 : 8 * k + q < 64 := by omega
              rw [lp_301_48, if_neg (by rw [f.2.2.2.2 81 rfl, h.1, zI_le (by omega) (by omega)]; omega), zI_vp (by omega), zI_cn (by omega), show zI q + 1 = zI (q + 1) from zIr_add 1 q, show (8 : Int32) * zI k + zI q = zI (8 * k + q) by rw [show (8 : Int32) * zI k = zI (8 * k) from zIl_mul 8 k, zI_add], zI_vp (by omega), zI_cn (by omega), zI_vp (by omega), zI_cn (by omega), nar_0, nar_1, f.1 137 rfl]
              refine ⟨by omega, ?_⟩
              have zk := hz k (by omega)
              rw [if_pos rfl] at zk
              have zq := hz q (by omega)
              have nx3 : ∀ (v : Int32), (v = if (p k || (up (fun on (acc : Bool) => acc || (decide (¬ I 137 (8 * k + on) = 0) && p on)) q false || (decide (¬ I 137 (8 * k + q) = 0) && p q))) = true then 1 else 0) → sm_wp X 301 48 [some (.ref 81), some (.int (zI a)), some (.int (zI n)), some (.int (zI k)), some (.int (zI (q + 1)))] [] (sM mo G (up2 K 141 k v) J) Q := by
                intro v hv
                refine ih2 (q + 1) (by omega) _ (Fr_u f rfl (by decide) (by decide) (by decide) _ _) ?_
                intro j hj
                rw [up2_ra, va_ap, up_s]
                by_cases e : j = k
                · rw [if_pos e, if_pos e]
                  exact hv
                · rw [if_neg e, if_neg e]
                  have := hz j hj
                  rw [if_neg e] at this
                  exact this
              generalize up (fun on (acc : Bool) => acc || (decide (¬ I 137 (8 * k + on) = 0) && p on)) q false = w at *
              cases hkk : (p k || w) with
              | true =>
                rw [hkk] at zk
                rw [zk, if_pos (by decide)]
                apply nx3
                rw [← Bool.or_assoc, hkk, Bool.true_or]
                rfl
              | false =>
                rw [hkk] at zk
                rw [zk, if_neg (by decide)]
                refine ⟨y64, ?_⟩
                by_cases g : I 137 (8 * k + q) = 0
                · rw [if_pos g]
                  apply nx3
                  rw [← Bool.or_assoc, hkk, g]
                  rfl
                · rw [if_neg g]
                  refine ⟨by omega, ?_⟩
                  have pq : K 141 q = if p q = true then 1 else 0 := by
                    by_cases e : q = k
                    · subst e
                      rw [zk]
                      rw [(Bool.or_eq_false_iff.mp hkk).1]
                    · rw [if_neg e] at zq
                      exact zq
                  rw [pq]
                  cases hp : p q with
                  | true =>
                    rw [if_neg (by decide)]
                    apply nx3
                    rw [hp, decide_eq_true g, Bool.and_true, Bool.or_true, Bool.or_true]
                    rfl
                  | false =>
                    rw [if_pos (by decide)]
                    apply nx3
                    rw [hp, Bool.and_false, Bool.or_false, hkk]
                    rfl
          refine in2 r 0 (by omega) K f ?_
          intro j hj
          rw [hy j hj, up_0, Bool.or_false]
          by_cases e : j = k
          · rw [if_pos e, e]
          · rw [if_neg e]
      exact inn r 0 (by omega) K f hx
  have l1 : ∀ d k, k + d = r → ∀ K, Fr I K → (∀ j, j < k → K 141 j = if opA (I 81 15) (I 135) (I 136) (I 89) ms j = true then 1 else 0) → sm_wp X 301 2 [some (.ref 81), some (.int (zI a)), some (.int (zI k)), none, none] [] (sM mo G K J) Q := by
    intro d
    induction d with
    | zero =>
      intro k hk K f hx
      have : k = r := by omega
      subst this
      rw [lp_301_2, if_pos (by rw [f.2.2.2.2 81 rfl, h.1, zI_le (by omega) (by omega)]; exact Nat.le_refl _)]
      exact l3 8 0 rfl K f hx
    | succ d ih =>
      intro k hk K f hx
      rw [lp_301_2, if_neg (by rw [f.2.2.2.2 81 rfl, h.1, zI_le (by omega) (by omega)]; omega)]
      refine hm_open (aM_f f h) (by omega) ?_
      intro K2 f2 g2
      have f3 := Fr_t f f2
      simp only [tl_some]
      rw [f.2.2.2.2 15 rfl, f.1 135 rfl, f.1 136 rfl, f.1 89 rfl, lp_301_20, zI_vp (by omega), zI_cn (by omega), show zI k + 1 = zI (k + 1) from zIr_add 1 k]
      refine ⟨by omega, ih (k + 1) (by omega) _ (Fr_u f3 rfl (by decide) (by decide) (by decide) _ _) ?_⟩
      intro j hj
      rw [up2_ra, va_ap, g2]
      by_cases e : j = k
      · rw [if_pos e, e]
        cases opA (I 81 15) (I 135) (I 136) (I 89) ms k with
        | true => exact nar_1
        | false => exact nar_0
      · rw [if_neg e]
        exact hx j (by omega)
  rw [lp_301_0]
  exact l1 r 0 (by omega) I (Fr_r I) (fun j hj => absurd hj (Nat.not_lt_zero _))
end O1
