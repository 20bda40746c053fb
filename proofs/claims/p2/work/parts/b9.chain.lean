/-! Chains, by the reference. -/
theorem cN_lt2 {P R : Nat → Bool} : ∀ n, (∀ l, l < n → P l = true → R l = true) → (∃ l, l < n ∧ R l = true ∧ ¬ P l = true) → cN P n < cN R n := by
  intro n
  induction n with
  | zero => rintro _ ⟨l, h, -⟩; exact absurd h (Nat.not_lt_zero _)
  | succ n ih =>
    rintro h ⟨l, hl, h1, h2⟩
    have le : cN P n ≤ cN R n := cN_imp (fun j hj => h j (by omega))
    by_cases e : l = n
    · subst e
      rw [cN_p h1, cN_q h2]
      omega
    · have lt := ih (fun j hj => h j (by omega)) ⟨l, by omega, h1, h2⟩
      by_cases g : P n = true
      · rw [cN_p g, cN_p (h n (by omega) g)]; omega
      · rw [cN_q g]
        have := cN_mono R (show n ≤ n + 1 by omega)
        omega
/-- in one chain with p -/
def chn (I : Nat → Nat → Int32) (p k : Nat) : Prop := ¬ I 42 k = -1 ∧ I 41 k = I 41 p
def zer (r : Nat → Int32) (k : Nat) : Bool := decide (r k = 0)
def inC (I : Nat → Nat → Int32) (np p : Nat) (r : Nat → Int32) : Prop := (∀ k, k < 60 → r k = 0 ∨ r k = 1) ∧ (∀ k, k < 60 → r k = 1 → k < np ∧ chn I p k) ∧ r p = 1
def clo (I : Nat → Nat → Int32) (r : Nat → Int32) (j : Nat) : Prop := ∀ i, ¬ I 42 j = -1 → I 40 j = zI i → i < j → r j = r i
section C1
variable {X : (Nat → Int32) × Nat} {mo : Bool} {G : Nat × Nat} {I A K : Nat → Nat → Int32} {J : Nat → Nat → Int64} {Q : Option Value → sm_M → Prop}
/-- only the row of the chain differs -/
def fr122 (T T' : Nat → Nat → Int32) : Prop := ∀ d, ¬ d = 122 → T' d = T d
theorem cpl_122 {T T' : Nat → Nat → Int32} (h : cplR I A K T) (f : fr122 T T') : cplR I A K T' := by
  obtain ⟨h1, h2, h3, h4, h5, h6, h7, h8, h9⟩ := h
  refine ⟨fun d a => by rw [f d (by omega)]; exact h1 d a, fun d x y a b c d' e f' g => by rw [f d g]; exact h2 d x y a b c d' e f' g, fun j a b c => by rw [f 81 (by decide)]; exact h3 j a b c, by rw [f 81 (by decide)]; exact h4, by rw [f 85 (by decide)]; exact h5, by rw [f 87 (by decide)]; exact h6, by rw [f 117 (by decide)]; exact h7, by rw [f 119 (by decide)]; exact h8, by rw [f 88 (by decide)]; exact h9⟩
theorem r_265i {p : Nat} {T : Nat → Nat → Int32} (hp : p < 60) (hQ : ∀ T', fr122 T T' → (∀ k, k < 60 → T' 122 k = if k = p then 1 else 0) → sm_wp X 265 32 [some (.ref 81), none, some (.int 1), none] [] (sM mo G T' J) Q) : ∀ d j U, j + d = 60 → fr122 T U → (∀ k, k < j → U 122 k = if k = p then 1 else 0) → sm_wp X 265 2 [some (.ref 81), some (.int (zI p)), some (.int (zI j)), none] [] (sM mo G U J) Q := by
  intro d
  induction d with
  | zero =>
    intro j U hj hf hu
    rw [lp_265_2, if_pos (by rw [zIl_le (c := 60) (by decide) (by omega)]; show 60 ≤ j; omega)]
    exact hQ U hf (fun k hk => hu k (by omega))
  | succ d ih =>
    intro j U hj hf hu
    rw [lp_265_2, if_neg (by rw [zIl_le (c := 60) (by decide) (by omega)]; show ¬ 60 ≤ j; omega), zI_vp (by omega), zI_cn (by omega), show zI j + 1 = zI (j + 1) from zIr_add 1 j]
    have nx : ∀ v : Int32, v = (if j = p then 1 else 0) → sm_wp X 265 2 [some (.ref 81), some (.int (zI p)), some (.int (zI (j + 1))), none] [] (sM mo G (up2 U 122 j v) J) Q := fun v hv => by
      refine ih (j + 1) _ (by omega) (fun e he => by rw [up2_rn _ _ _ _ _ he]; exact hf e he) (fun k hk => ?_)
      rw [up2_ra, va_ap]
      by_cases e : k = j
      · rw [if_pos e, hv, e]
      · rw [if_neg e]; exact hu k (by omega)
    by_cases e : j = p
    · rw [if_neg (fun g => g (by rw [e]))]
      exact ⟨by omega, nx _ (by rw [if_pos e]; rfl)⟩
    · rw [if_pos (by rw [zI_eq (by omega) (by omega)]; exact e)]
      exact ⟨by omega, nx _ (by rw [if_neg e]; rfl)⟩
/-- a round -/
theorem r_265r {n m np p : Nat} {T : Nat → Nat → Int32} (hp : ppS n m np I) (hT : cplR I A K T) (hpn : p < np) {r0 : Nat → Int32} (hQ : ∀ T', fr122 T T' → inC I np p (T' 122) → ((T' 122 = r0 ∧ (∀ j, j < np → clo I r0 j) ∧ sm_wp X 265 32 [some (.ref 81), none, some (.int 0), none] [] (sM mo G T' J) Q = Q none (sM mo G T' J)) ∨ cN (zer (T' 122)) 60 < cN (zer r0) 60) → ∀ x : Int32, (x = 0 → T' 122 = r0 ∧ ∀ j, j < np → clo I r0 j) → (¬ x = 0 → x = 1 ∧ cN (zer (T' 122)) 60 < cN (zer r0) 60) → sm_wp X 265 32 [some (.ref 81), none, some (.int x), none] [] (sM mo G T' J) Q) :
    ∀ d j U (x : Int32), j + d = np → fr122 T U → inC I np p (U 122) → (x = 0 → U 122 = r0 ∧ ∀ i, i < j → clo I r0 i) → (¬ x = 0 → x = 1 ∧ cN (zer (U 122)) 60 < cN (zer r0) 60) → sm_wp X 265 40 [some (.ref 81), none, some (.int x), some (.int (zI j))] [] (sM mo G U J) Q := by
  have np60 := hp.2.2.1.2.2
  intro d
  induction d with
  | zero =>
    intro j U x hj hf hi h0 h1
    have e46 : U 81 46 = zI np := by rw [hf 81 (by decide), hT.2.2.1 46 (by decide) (by decide) (by decide)]; exact hp.2.2.1.2.1
    rw [lp_265_40, e46, if_pos (by rw [zI_le (by omega) (by omega)]; omega)]
    refine hQ U hf hi ?_ x (fun e => ⟨(h0 e).1, fun i hi => (h0 e).2 i (by omega)⟩) h1
    by_cases e : x = 0
    · left
      refine ⟨(h0 e).1, fun i hi => (h0 e).2 i (by omega), ?_⟩
      rw [lp_265_32, if_pos rfl]
    · exact Or.inr (h1 e).2
  | succ d ih =>
    intro j U x hj hf hi h0 h1
    have e46 : U 81 46 = zI np := by rw [hf 81 (by decide), hT.2.2.1 46 (by decide) (by decide) (by decide)]; exact hp.2.2.1.2.1
    have e107 : U 107 = I 107 := by rw [hf 107 (by decide)]; exact hT.2.1 107 (by decide) (by decide) (by decide) (by decide) (by decide) (by decide) (by decide) (by decide) (by decide)
    have e114 : U 114 = I 114 := by rw [hf 114 (by decide)]; exact hT.2.1 114 (by decide) (by decide) (by decide) (by decide) (by decide) (by decide) (by decide) (by decide) (by decide)
    rw [lp_265_40, e46, if_neg (by rw [zI_le (by omega) (by omega)]; omega), zI_vp (by omega), zI_cn (by omega), e107, e114, show zI j + 1 = zI (j + 1) from zIr_add 1 j]
    refine ⟨by omega, ?_⟩
    have st : (∀ i, ¬ I 42 j = -1 → I 40 j = zI i → i < j → U 122 j = U 122 i) → sm_wp X 265 40 [some (.ref 81), none, some (.int x), some (.int (zI (j + 1)))] [] (sM mo G U J) Q := fun hcl => by
      refine ih (j + 1) U x (by omega) hf hi (fun e => ⟨(h0 e).1, fun i hi => ?_⟩) h1
      by_cases e2 : i = j
      · subst e2
        intro a b c e'
        rw [← (h0 e).1]
        exact hcl a b c e'
      · exact (h0 e).2 i (by omega)
    rcases hp.2.2.2.2.2.2.2.2.2.2 j (by omega) with ⟨a1, a2, a3, a4⟩ | ⟨a1, a2, -, -, -, a3, a4, -⟩
    · rw [a2, if_pos (by decide)]
      exact st (fun i h => absurd a1 h)
    · rw [a2, if_neg (fun e => e rfl), a3]
      rcases a4 with ⟨b1, b2⟩ | ⟨i, hij, b1, b2, b3⟩
      · rw [b1, if_pos rfl]
        refine st (fun i _ e => ?_)
        rw [b1] at e
        intro hij
        rw [zI_m1' (by omega)] at e
        exact e.elim
      · rw [b1, if_neg (by rw [zI_m1 (by omega)]; exact fun e => e), zI_vp (by omega), zI_cn (by omega)]
        refine ⟨by omega, ?_⟩
        by_cases e : U 122 j = U 122 i
        · rw [if_neg (fun g => g e)]
          refine st (fun i' _ e2 h3 => ?_)
          rw [b1, zI_eq (by omega) (by omega)] at e2
          rw [← e2]
          exact e
        · rw [if_pos e]
          have bj := hi.1 j (by omega)
          have bi' := hi.1 i (by omega)
          have same : chn I p j ↔ chn I p i := by unfold chn; rw [b3]; exact ⟨fun h => ⟨b2, h.2⟩, fun h => ⟨a1, h.2⟩⟩
          have both : chn I p j ∧ chn I p i := by
            rcases bj with g | g
            · rcases bi' with g' | g'
              · exact absurd (g.trans g'.symm) e
              · have := (hi.2.1 i (by omega) g').2
                exact ⟨same.mpr this, this⟩
            · have := (hi.2.1 j (by omega) g).2
              exact ⟨this, same.mp this⟩
          have rd : ∀ k, up2 (up2 U 122 j (vp_nar .boolean 1)) 122 i (vp_nar .boolean 1) 122 k = if k = i ∨ k = j then 1 else U 122 k := fun k => by
            rw [up2_ra, va_ap, up2_ra, va_ap]
            by_cases g1 : k = i
            · rw [if_pos g1, if_pos (Or.inl g1)]; rfl
            · rw [if_neg g1]
              by_cases g2 : k = j
              · rw [if_pos g2, if_pos (Or.inr g2)]; rfl
              · rw [if_neg g2, if_neg (by omega)]
          have dec : cN (zer (up2 (up2 U 122 j (vp_nar .boolean 1)) 122 i (vp_nar .boolean 1) 122)) 60 < cN (zer (U 122)) 60 := by
            refine cN_lt2 60 (fun l hl h => ?_) ?_
            · unfold zer at h ⊢
              rw [decide_eq_true_iff, rd l] at h
              rw [decide_eq_true_iff]
              by_cases g : l = i ∨ l = j
              · rw [if_pos g] at h; exact absurd h (by decide)
              · rw [if_neg g] at h; exact h
            · have ze : ∀ l, (l = i ∨ l = j) → ¬ zer (up2 (up2 U 122 j (vp_nar .boolean 1)) 122 i (vp_nar .boolean 1) 122) l = true := fun l hl h => by
                unfold zer at h
                rw [decide_eq_true_iff, rd l, if_pos hl] at h
                exact absurd h (by decide)
              rcases bj with g | g
              · exact ⟨j, by omega, decide_eq_true g, ze j (Or.inr rfl)⟩
              · rcases bi' with g' | g'
                · exact ⟨i, by omega, decide_eq_true g', ze i (Or.inl rfl)⟩
                · exact absurd (g.trans g'.symm) e
          have le0 : cN (zer (U 122)) 60 ≤ cN (zer r0) 60 := by
            by_cases e0 : x = 0
            · rw [(h0 e0).1]; exact Nat.le_refl _
            · exact Nat.le_of_lt (h1 e0).2
          refine ih (j + 1) _ 1 (by omega) (fun d hd => by rw [up2_rn _ _ _ _ _ hd, up2_rn _ _ _ _ _ hd]; exact hf d hd) ⟨fun k hk => ?_, fun k hk h => ?_, ?_⟩ (fun e0 => absurd e0 (by decide)) (fun _ => ⟨rfl, by omega⟩)
          · rw [rd k]
            by_cases g : k = i ∨ k = j
            · rw [if_pos g]; exact Or.inr rfl
            · rw [if_neg g]; exact hi.1 k hk
          · rw [rd k] at h
            by_cases g : k = i ∨ k = j
            · rcases g with rfl | rfl
              · exact ⟨by omega, both.2⟩
              · exact ⟨by omega, both.1⟩
            · rw [if_neg g] at h; exact hi.2.1 k hk h
          · rw [rd p]
            by_cases g : p = i ∨ p = j
            · rw [if_pos g]
            · rw [if_neg g]; exact hi.2.2
theorem r_265 {n m np p : Nat} {T : Nat → Nat → Int32} (hp : ppS n m np I) (hT : cplR I A K T) (hpn : p < np) (hpo : ¬ I 42 p = -1) (hQ : ∀ T', fr122 T T' → (∀ k, k < 60 → T' 122 k = 0 ∨ T' 122 k = 1) → (∀ k, k < np → (T' 122 k = 1 ↔ chn I p k)) → Q none (sM mo G T' J)) : sm_wp X 265 0 [some (.ref 81), some (.int (zI p)), none, none] [] (sM mo G T J) Q := by
  have np60 := hp.2.2.1.2.2
  have fin : ∀ r, inC I np p r → (∀ j, j < np → clo I r j) → ∀ k, k < np → (r k = 1 ↔ chn I p k) := by
    intro r hi hc
    have root : ∀ f k, k < f → k < np → ¬ I 42 k = -1 → ∃ j, j < np ∧ I 41 k = zI j ∧ r k = r j := by
      intro f
      induction f with
      | zero => intro k hk; exact absurd hk (Nat.not_lt_zero _)
      | succ f ih =>
        intro k hk hkn ho
        rcases hp.2.2.2.2.2.2.2.2.2.2 k hkn with ⟨a1, -⟩ | ⟨a1, a2, -, -, -, a3, a4, -⟩
        · exact absurd a1 ho
        · rcases a4 with ⟨b1, b2⟩ | ⟨i, hik, b1, b2, b3⟩
          · exact ⟨k, hkn, b2, rfl⟩
          · obtain ⟨j, h1, h2, h3⟩ := ih i (by omega) (by omega) b2
            exact ⟨j, h1, by rw [b3]; exact h2, by rw [hc k hkn i ho b1 hik]; exact h3⟩
    intro k hk
    constructor
    · exact fun h => (hi.2.1 k (by omega) h).2
    · rintro ⟨h1, h2⟩
      obtain ⟨j, j1, j2, j3⟩ := root (k + 1) k (by omega) hk h1
      obtain ⟨i, i1, i2, i3⟩ := root (p + 1) p (by omega) hpn hpo
      rw [j2, i2, zI_eq (by omega) (by omega)] at h2
      rw [j3, h2, ← i3]
      exact hi.2.2
  have rounds : ∀ z U, cN (zer (U 122)) 60 ≤ z → fr122 T U → inC I np p (U 122) → sm_wp X 265 32 [some (.ref 81), none, some (.int 1), none] [] (sM mo G U J) Q := by
    intro z
    induction z with
    | zero =>
      intro U hz hf hi
      rw [lp_265_32, if_neg (by decide)]
      refine r_265r (r0 := U 122) hp hT hpn ?_ np 0 U 0 (by omega) hf hi (fun _ => ⟨rfl, fun i h => absurd h (Nat.not_lt_zero _)⟩) (fun e => absurd rfl e)
      intro T' f' i' _ x hx0 hx1
      by_cases e : x = 0
      · obtain ⟨q1, q2⟩ := hx0 e
        rw [e, lp_265_32, if_pos rfl]
        rw [← q1] at q2
        exact hQ T' f' i'.1 (fin _ i' q2)
      · have := (hx1 e).2
        omega
    | succ z ih =>
      intro U hz hf hi
      rw [lp_265_32, if_neg (by decide)]
      refine r_265r (r0 := U 122) hp hT hpn ?_ np 0 U 0 (by omega) hf hi (fun _ => ⟨rfl, fun i h => absurd h (Nat.not_lt_zero _)⟩) (fun e => absurd rfl e)
      intro T' f' i' _ x hx0 hx1
      by_cases e : x = 0
      · obtain ⟨q1, q2⟩ := hx0 e
        rw [e, lp_265_32, if_pos rfl]
        rw [← q1] at q2
        exact hQ T' f' i'.1 (fin _ i' q2)
      · obtain ⟨q1, q2⟩ := hx1 e
        rw [q1]
        exact ih T' (by omega) f' i'
  rw [lp_265_0]
  refine r_265i (p := p) (by omega) (fun T' f' h' => ?_) 60 0 T (by omega) (fun _ _ => rfl) (fun k h => absurd h (Nat.not_lt_zero _))
  refine rounds _ T' (Nat.le_refl _) f' ⟨fun k hk => ?_, fun k hk h => ?_, ?_⟩
  · rw [h' k hk]
    split
    · exact Or.inr rfl
    · exact Or.inl rfl
  · rw [h' k hk] at h
    by_cases e : k = p
    · rw [e]; exact ⟨hpn, hpo, rfl⟩
    · rw [if_neg e] at h; exact absurd h (by decide)
  · rw [h' p (by omega), if_pos rfl]
end C1
