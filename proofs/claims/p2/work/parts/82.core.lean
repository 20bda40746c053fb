/-! Calls on settlements: core. -/
def kpt (n m : Nat) (r4 r5 r12 W : Nat → Int32) (pr : Int32) (u : Nat) : Int32 := kpI pr (bdN m r12) (gv n r4 r5 W pr u) 6
abbrev subS (a b : Int32) : Prop := a &&& (b ^^^ (-1)) = 0
theorem subS_b {a b : Int32} : subS a b ↔ ∀ k, bt a k = true → bt b k = true := by
  unfold subS
  rw [bt_eq0]
  constructor
  · intro h k hk
    by_cases k32 : k < 32
    · have := h k k32
      rw [bt_and, bt_xor, bt_m1 k32, Bool.xor_true, hk, Bool.true_and] at this
      cases e : bt b k with
      | true => rfl
      | false => rw [e] at this; cases this
    · rw [bt_big _ _ (by omega)] at hk; cases hk
  · intro h k hk
    rw [bt_and, bt_xor, bt_m1 hk, Bool.xor_true]
    cases e : bt a k with
    | false => rfl
    | true => rw [h k e]; rfl
/-- bounds that can't hold together -/
def badG (n m : Nat) (r4 r5 r12 W : Nat → Int32) (pr : Int32) (g : Nat) : Prop := subS (zI g) pr ∧ ¬ ∃ u, u < rws n r5 pr ∧ subS (zI g) (kpt n m r4 r5 r12 W pr u)
def pcN (g : Nat) : Nat := pc6 (zI g)
def isCr (B : Nat → Prop) (v : Nat) : Prop := (v = 0 ∧ ∀ g, 1 ≤ g → g < 64 → ¬ B g) ∨ (1 ≤ v ∧ v < 64 ∧ B v ∧ ∀ g, 1 ≤ g → g < 64 → B g → pcN v < pcN g ∨ (pcN v = pcN g ∧ v ≤ g))
theorem isCr_u {B : Nat → Prop} {v w : Nat} (h : isCr B v) (k : isCr B w) : v = w := by
  rcases h with ⟨h1, h2⟩ | ⟨h1, h2, h3, h4⟩
  · rcases k with ⟨k1, k2⟩ | ⟨k1, k2, k3, k4⟩
    · omega
    · exact absurd k3 (h2 w k1 k2)
  · rcases k with ⟨k1, k2⟩ | ⟨k1, k2, k3, k4⟩
    · exact absurd h3 (k2 v h1 h2)
    · have a := h4 w k1 k2 k3
      have b := k4 v h1 h2 h3
      omega
theorem pcN_b {g : Nat} (h : g < 64) : pcN g ≤ 6 := (bc_64 ⟨g, h⟩).2.2
theorem pcN_1 {g : Nat} (h : g < 64) (h1 : 1 ≤ g) : 1 ≤ pcN g := by
  have e : ∀ g : Fin 64, 1 ≤ g.val → 1 ≤ pcN g.val := by decide +kernel
  exact e ⟨g, h⟩ h1
theorem bc_pcN {g : Nat} (h : g < 64) : vf_Integer_bitCount (zI g) = zI (pcN g) ∧ popc (zI g) = zI (pcN g) := ⟨(bc_64 ⟨g, h⟩).1, (bc_64 ⟨g, h⟩).2.1⟩
theorem s64_k : ∀ k : Fin 64, ((zI k.val).toInt64.toUInt64 &&& Int64.toUInt64 63).toNat % 64 = k.val := by decide +kernel
theorem lsr_lb (x : Int64) {k : Nat} (h : k < 64) : ((x.toUInt64 >>> ((zI k).toInt64.toUInt64 &&& Int64.toUInt64 63)).toInt64 &&& 1) = if lb x k = true then 1 else 0 := by
  have e1 : ∀ i, ((x.toUInt64 >>> ((zI k).toInt64.toUInt64 &&& Int64.toUInt64 63)).toInt64 &&& 1).toBitVec.getLsbD i = (lb x (k + i) && decide (i = 0)) := by
    intro i
    rw [Int64.toBitVec_and, BitVec.getLsbD_and]
    have a : (x.toUInt64 >>> ((zI k).toInt64.toUInt64 &&& Int64.toUInt64 63)).toInt64.toBitVec.getLsbD i = lb x (k + i) := by
      show (x.toUInt64 >>> ((zI k).toInt64.toUInt64 &&& Int64.toUInt64 63)).toBitVec.getLsbD i = _
      rw [UInt64.toBitVec_shiftRight]
      have s := s64_k ⟨k, h⟩
      generalize (zI k).toInt64.toUInt64 &&& Int64.toUInt64 63 = y at *
      simp only [BitVec.ushiftRight_eq', BitVec.getLsbD_ushiftRight]
      have e : (y.toBitVec % 64).toNat = k := by
        rw [BitVec.toNat_umod]
        exact s
      rw [e]
      rfl
    have b : (1 : Int64).toBitVec.getLsbD i = decide (i = 0) := by
      show (BitVec.ofNat 64 1).getLsbD i = _
      rw [BitVec.getLsbD_one]
      simp
    rw [a, b]
  apply Int64.toBitVec_inj.mp
  apply BitVec.eq_of_getLsbD_eq
  intro i _
  rw [e1 i]
  have b : (1 : Int64).toBitVec.getLsbD i = decide (i = 0) := by
    show (BitVec.ofNat 64 1).getLsbD i = _
    rw [BitVec.getLsbD_one]
    simp
  by_cases g : i = 0
  · subst g
    rw [Nat.add_zero]
    cases lb x k with
    | true => rfl
    | false => rfl
  · rw [decide_eq_false g, Bool.and_false]
    cases lb x k with
    | true => simp only [if_true]; rw [b, decide_eq_false g]
    | false => simp
theorem lsr_c (x : Int64) {k : Nat} (h : k < 64) : lg_cmp ((x.toUInt64 >>> ((zI k).toInt64.toUInt64 &&& Int64.toUInt64 63)).toInt64 &&& 1) 0 = 0 ↔ lb x k = false := by
  rw [lsr_lb x h]
  cases lb x k with
  | true => simp only [if_true]; decide
  | false => simp only [Bool.false_eq_true, if_false]; decide
section V3
variable {X : (Nat → Int32) × Nat} {mo : Bool} {G : Nat × Nat} {I : Nat → Nat → Int32} {J : Nat → Nat → Int64} {Q : Option Value → sm_M → Prop} {c : Nat}
theorem ct_142 {g : Nat} {E : Prop} (hE : E ↔ ∃ k, k < 64 ∧ lb (J 52 16) k = true ∧ subS (zI g) (zI k)) (hQ : ∀ z : Int32, (z = 1 ∧ E ∨ z = 0 ∧ ¬ E) → Q (some (.int z)) (sM mo G I J)) : sm_wp X 142 0 [some (.ref 52), some (.int (zI g)), none] [] (sM mo G I J) Q := by
  have key : ∀ d k, k + d = 64 → (∀ j, j < k → ¬ (lb (J 52 16) j = true ∧ subS (zI g) (zI j))) → sm_wp X 142 2 [some (.ref 52), some (.int (zI g)), some (.int (zI k))] [] (sM mo G I J) Q := by
    intro d
    induction d with
    | zero =>
      intro k hk h
      rw [lp_142_2, if_pos (by rw [zIl_le (c := 64) (by decide) (by omega)]; show 64 ≤ k; omega)]
      exact hQ 0 (Or.inr ⟨rfl, fun e => by
        obtain ⟨j, hj, e2⟩ := hE.mp e
        exact h j (by omega) e2⟩)
    | succ d ih =>
      intro k hk h
      have nxt : ¬ (lb (J 52 16) k = true ∧ subS (zI g) (zI k)) → sm_wp X 142 2 [some (.ref 52), some (.int (zI g)), some (.int (zI k + 1))] [] (sM mo G I J) Q := by
        intro hn
        rw [show zI k + 1 = zI (k + 1) from zIr_add 1 k]
        refine ih (k + 1) (by omega) (fun j hj => ?_)
        by_cases e : j = k
        · rw [e]; exact hn
        · exact h j (by omega)
      rw [lp_142_2, if_neg (by rw [zIl_le (c := 64) (by decide) (by omega)]; show ¬ 64 ≤ k; omega)]
      cases c1 : lb (J 52 16) k with
      | false =>
        rw [if_pos ((lsr_c _ (by omega)).mpr c1)]
        exact nxt (fun e => by rw [c1] at e; cases e.1)
      | true =>
        rw [if_neg (fun e => by rw [(lsr_c _ (by omega)).mp e] at c1; cases c1)]
        by_cases c2 : subS (zI g) (zI k)
        · rw [if_neg (fun e => e c2)]
          exact hQ 1 (Or.inl ⟨rfl, hE.mpr ⟨k, by omega, c1, c2⟩⟩)
        · rw [if_pos c2]
          exact nxt (fun e => c2 e.2)
  rw [lp_142_0]
  exact key 64 0 (by omega) (fun j hj => absurd hj (Nat.not_lt_zero _))
theorem ct_141 {n m : Nat} {pr : Int32} (h12 : n ≤ 12) (h6 : ∀ k, 6 ≤ k → bt pr k = false) (h3 : ∀ l, pc6 (I 5 l) ≤ 3) (hr : srD n m (I 4) (I 5) (I 12) (I 13) pr (I 52) (I 53) (I 59) (J 52 16))
    (hQ : ∀ x : Int32, (8 < dK n (I 5) pr ∧ x = -1 ∨ dK n (I 5) pr ≤ 8 ∧ ∃ v, x = zI v ∧ isCr (badG n m (I 4) (I 5) (I 12) (I 13) pr) v) → Q (some (.int x)) (sM mo G I J)) :
    sm_wp X 141 0 [some (.ref 52), none, none] [] (sM mo G I J) Q := by
  obtain ⟨r1, r2, r3, r4, r5⟩ := hr
  have d12 : dK n (I 5) pr ≤ 12 := Nat.le_trans (cN_le _ _) h12
  rw [lp_141_0, lp_131_0, r2]
  by_cases g8 : dK n (I 5) pr ≤ 8
  · obtain ⟨q1, q2, q3, q4, q5⟩ := r5 g8
    have rb := rws_b (n := n) (pr := pr) h3 g8
    have fb : nFr n m (I 4) (I 5) (I 12) (I 13) pr (rws n (I 5) pr) ≤ rws n (I 5) pr := cN_le _ _
    rw [if_pos (by rw [zIr_le (c := 8) (by decide) (by omega)]; exact g8)]
    simp only [tl_some]
    rw [lp_141_4, if_pos rfl, q2]
    by_cases g0 : nFr n m (I 4) (I 5) (I 12) (I 13) pr (rws n (I 5) pr) = 0
    · rw [g0, if_pos (by decide)]
      have kE : ∀ g, (∃ u, u < rws n (I 5) pr ∧ subS (zI g) (kpt n m (I 4) (I 5) (I 12) (I 13) pr u)) ↔ ∃ k, k < 64 ∧ lb (J 52 16) k = true ∧ subS (zI g) (zI k) := by
        intro g
        constructor
        · rintro ⟨u, hu, e⟩
          obtain ⟨j, hj, ej⟩ := kpI_z pr (bdN m (I 12)) (gv n (I 4) (I 5) (I 13) pr u)
          refine ⟨j, hj, (q4 j hj).mpr ⟨u, hu, ej⟩, ?_⟩
          rw [← ej]
          exact e
        · rintro ⟨k, hk, e1, e2⟩
          obtain ⟨u, hu, eu⟩ := (q4 k hk).mp e1
          refine ⟨u, hu, ?_⟩
          unfold kpt
          rw [eu]
          exact e2
      have sz : ∀ d s, s + d = 7 → 1 ≤ s → (∀ g, 1 ≤ g → g < 64 → badG n m (I 4) (I 5) (I 12) (I 13) pr g → s ≤ pcN g) → sm_wp X 141 20 [some (.ref 52), some (.int (zI s)), none] [] (sM mo G I J) Q := by
        intro d
        induction d with
        | zero =>
          intro s hs h1 h
          rw [lp_141_20, if_pos (by rw [zIl_lt (c := 6) (by decide) (by omega)]; show 6 < s; omega)]
          refine hQ 0 (Or.inr ⟨g8, 0, rfl, Or.inl ⟨rfl, fun g a b e => ?_⟩⟩)
          have := h g a b e
          have := pcN_b b
          omega
        | succ d ih =>
          intro s hs h1 h
          rw [lp_141_20, if_neg (by rw [zIl_lt (c := 6) (by decide) (by omega)]; show ¬ 6 < s; omega)]
          have gl : ∀ d g, g + d = 64 → 1 ≤ g → (∀ g', 1 ≤ g' → g' < g → badG n m (I 4) (I 5) (I 12) (I 13) pr g' → s < pcN g') → sm_wp X 141 28 [some (.ref 52), some (.int (zI s)), some (.int (zI g))] [] (sM mo G I J) Q := by
            intro d
            induction d with
            | zero =>
              intro g hg hg1 hh
              rw [lp_141_28, if_pos (by rw [zIl_le (c := 64) (by decide) (by omega)]; show 64 ≤ g; omega), show zI s + 1 = zI (s + 1) from zIr_add 1 s]
              exact ih (s + 1) (by omega) (by omega) (fun g' a b e => hh g' a (by omega) e)
            | succ d ih2 =>
              intro g hg hg1 hh
              have nxt : (badG n m (I 4) (I 5) (I 12) (I 13) pr g → s < pcN g) → sm_wp X 141 28 [some (.ref 52), some (.int (zI s)), some (.int (zI g + 1))] [] (sM mo G I J) Q := by
                intro hn
                rw [show zI g + 1 = zI (g + 1) from zIr_add 1 g]
                refine ih2 (g + 1) (by omega) (by omega) (fun g' a b e => ?_)
                by_cases e3 : g' = g
                · rw [e3] at e ⊢; exact hn e
                · exact hh g' a (by omega) e
              have pb := pcN_b (show g < 64 by omega)
              rw [lp_141_28, if_neg (by rw [zIl_le (c := 64) (by decide) (by omega)]; show ¬ 64 ≤ g; omega), (bc_pcN (show g < 64 by omega)).1, r1]
              by_cases c1 : pcN g = s
              · rw [if_neg (fun e => e (by rw [c1]))]
                by_cases c2 : subS (zI g) pr
                · rw [if_neg (fun e => e c2)]
                  refine ct_142 (kE g) (fun z hz => ?_)
                  simp only [tl_some]
                  rw [lp_141_58]
                  rcases hz with ⟨rfl, hz⟩ | ⟨rfl, hz⟩
                  · rw [if_pos (by decide)]
                    exact nxt (fun e => absurd hz e.2)
                  · rw [if_neg (fun e => e rfl)]
                    refine hQ (zI g) (Or.inr ⟨g8, g, rfl, Or.inr ⟨hg1, by omega, ⟨c2, hz⟩, fun g' a b e => ?_⟩⟩)
                    have p1 := h g' a b e
                    rcases Nat.lt_or_ge g' g with k | k
                    · have := hh g' a k e
                      omega
                    · omega
                · rw [if_pos c2]
                  exact nxt (fun e => absurd e.1 c2)
              · rw [if_pos (by rw [zI_eq (by omega) (by omega)]; exact c1)]
                refine nxt (fun e => ?_)
                have := h g hg1 (by omega) e
                omega
          exact gl 63 1 (by omega) (Nat.le_refl _) (fun g' a b => absurd b (by omega))
      exact sz 6 1 (by omega) (Nat.le_refl _) (fun g a b _ => pcN_1 b a)
    · rw [if_neg (by rw [zIr_le (c := 0) (by decide) (by omega)]; show ¬ nFr n m (I 4) (I 5) (I 12) (I 13) pr (rws n (I 5) pr) ≤ 0; omega)]
      refine hQ 0 (Or.inr ⟨g8, 0, rfl, Or.inl ⟨rfl, fun g _ _ e => e.2 ?_⟩⟩)
      have np := nt_p (P := fun u => pB (frC m (I 12) pr (gv n (I 4) (I 5) (I 13) pr u))) (n := rws n (I 5) pr) (j := 0) (by unfold nFr at g0; omega)
      refine ⟨_, np.2.1, ?_⟩
      unfold kpt
      rw [(kpI_f h6).mpr (pB_t.mp np.1)]
      exact e.1
  · rw [if_neg (by rw [zIr_le (c := 8) (by decide) (by omega)]; exact g8)]
    simp only [tl_some]
    rw [lp_141_4, if_neg (by decide)]
    exact hQ (-1) (Or.inl ⟨by omega, rfl⟩)
theorem mc_b {n m : Nat} {pr : Int32} {r4 r5 r12 W : Nat → Int32} {E : Nat → Prop} (hpr : I 81 15 = pr) (hE : ∀ k, k < 64 → (I 132 k = 1 ∧ E k ∨ I 132 k = 0 ∧ ¬ E k)) (hEk : ∀ k, k < 64 → (E k ↔ ∃ u, u < rws n r5 pr ∧ kpt n m r4 r5 r12 W pr u = zI k))
    (hQ : ∀ v, isCr (badG n m r4 r5 r12 W pr) v → Q (some (.int (zI v))) (sM mo G I J)) :
    ∀ d g, g + d = 64 → 1 ≤ g → ∀ b, b < 64 → (b = 0 ∧ (∀ g', 1 ≤ g' → g' < g → ¬ badG n m r4 r5 r12 W pr g') ∨ 1 ≤ b ∧ b < g ∧ badG n m r4 r5 r12 W pr b ∧ ∀ g', 1 ≤ g' → g' < g → badG n m r4 r5 r12 W pr g' → pcN b < pcN g' ∨ (pcN b = pcN g' ∧ b ≤ g')) → sm_wp X 285 122 [some (.ref 81), some (.int (zI b)), some (.int (zI g)), none, none] [] (sM mo G I J) Q := by
  have kE : ∀ g, (∃ u, u < rws n r5 pr ∧ subS (zI g) (kpt n m r4 r5 r12 W pr u)) ↔ ∃ k, k < 64 ∧ E k ∧ subS (zI g) (zI k) := by
    intro g
    constructor
    · rintro ⟨u, hu, e⟩
      obtain ⟨j, hj, ej⟩ := kpI_z pr (bdN m r12) (gv n r4 r5 W pr u)
      have ej' : kpt n m r4 r5 r12 W pr u = zI j := ej
      refine ⟨j, hj, (hEk j hj).mpr ⟨u, hu, ej'⟩, ?_⟩
      rw [← ej']
      exact e
    · rintro ⟨k, hk, e1, e2⟩
      obtain ⟨u, hu, eu⟩ := (hEk k hk).mp e1
      exact ⟨u, hu, by rw [eu]; exact e2⟩
  intro d
  induction d with
  | zero =>
    intro g hg hg1 b hb h
    rw [lp_285_122, if_pos (by rw [zIl_le (c := 64) (by decide) (by omega)]; show 64 ≤ g; omega)]
    refine hQ b ?_
    rcases h with ⟨h1, h2⟩ | ⟨h1, h2, h3, h4⟩
    · exact Or.inl ⟨h1, fun g' a b' => h2 g' a (by omega)⟩
    · exact Or.inr ⟨h1, hb, h3, fun g' a b' => h4 g' a (by omega)⟩
  | succ d ih =>
    intro g hg hg1 b hb h
    -- not this one
    have skip : (badG n m r4 r5 r12 W pr g → ¬ b = 0 ∧ pcN b ≤ pcN g) → sm_wp X 285 122 [some (.ref 81), some (.int (zI b)), some (.int (zI g + 1)), none, none] [] (sM mo G I J) Q := by
      intro hn
      rw [show zI g + 1 = zI (g + 1) from zIr_add 1 g]
      refine ih (g + 1) (by omega) (by omega) b hb ?_
      rcases h with ⟨h1, h2⟩ | ⟨h1, h2, h3, h4⟩
      · refine Or.inl ⟨h1, fun g' a b' e => ?_⟩
        by_cases eg : g' = g
        · rw [eg] at e; exact (hn e).1 h1
        · exact h2 g' a (by omega) e
      · refine Or.inr ⟨h1, by omega, h3, fun g' a b' e => ?_⟩
        by_cases eg : g' = g
        · rw [eg] at e ⊢
          have := (hn e).2
          omega
        · exact h4 g' a (by omega) e
    have take : badG n m r4 r5 r12 W pr g → (b = 0 ∨ pcN g < pcN b) → sm_wp X 285 122 [some (.ref 81), some (.int (zI g)), some (.int (zI g + 1)), none, none] [] (sM mo G I J) Q := by
      intro hb1 hb2
      rw [show zI g + 1 = zI (g + 1) from zIr_add 1 g]
      refine ih (g + 1) (by omega) (by omega) g (by omega) (Or.inr ⟨hg1, by omega, hb1, fun g' a b' e => ?_⟩)
      by_cases eg : g' = g
      · rw [eg]; exact Or.inr ⟨rfl, Nat.le_refl _⟩
      · rcases h with ⟨h1, h2⟩ | ⟨h1, h2, h3, h4⟩
        · exact absurd e (h2 g' a (by omega))
        · have := h4 g' a (by omega) e
          omega
    rw [lp_285_122, if_neg (by rw [zIl_le (c := 64) (by decide) (by omega)]; show ¬ 64 ≤ g; omega), hpr]
    by_cases c1 : subS (zI g) pr
    · rw [if_pos c1]
      have lk : ∀ d k, k + d = 64 → ∀ x : Int32, (x = 1 ∧ (∃ j, j < k ∧ E j ∧ subS (zI g) (zI j)) ∨ x = 0 ∧ ¬ ∃ j, j < k ∧ E j ∧ subS (zI g) (zI j)) → sm_wp X 285 147 [some (.ref 81), some (.int (zI b)), some (.int (zI g)), some (.int x), some (.int (zI k))] [] (sM mo G I J) Q := by
        intro d
        induction d with
        | zero =>
          intro k hk x hx
          have : k = 64 := by omega
          subst this
          rw [lp_285_147, if_pos (by decide)]
          rcases hx with ⟨rfl, hx⟩ | ⟨rfl, hx⟩
          · rw [if_pos (by decide)]
            exact skip (fun e => absurd ((kE g).mpr hx) e.2)
          · rw [if_neg (fun e => e rfl)]
            have hbad : badG n m r4 r5 r12 W pr g := ⟨c1, fun e => hx ((kE g).mp e)⟩
            by_cases b0 : b = 0
            · rw [if_pos (by rw [b0]; rfl)]
              exact take hbad (Or.inl b0)
            · have p1 := pcN_b hb
              have p2 := pcN_b (show g < 64 by omega)
              rw [if_neg (by rw [zIr_eq (c := 0) (by decide) (by omega)]; exact b0), ct_Mbits, (bc_pcN (show g < 64 by omega)).2]
              simp only [tl_some]
              rw [lp_285_201, ct_Mbits, (bc_pcN hb).2]
              simp only [tl_some]
              rw [lp_285_205]
              by_cases c3 : pcN b ≤ pcN g
              · rw [if_pos (by rw [zI_le (by omega) (by omega)]; exact c3)]
                exact skip (fun _ => ⟨b0, c3⟩)
              · rw [if_neg (by rw [zI_le (by omega) (by omega)]; exact c3)]
                exact take hbad (Or.inr (by omega))
        | succ d ih2 =>
          intro k hk x hx
          rw [lp_285_147, if_neg (by rw [zIl_le (c := 64) (by decide) (by omega)]; show ¬ 64 ≤ k; omega), show zI k + 1 = zI (k + 1) from zIr_add 1 k]
          rcases hx with ⟨rfl, j, hj, e⟩ | ⟨rfl, hx⟩
          · rw [if_pos (by decide)]
            exact ih2 (k + 1) (by omega) 1 (Or.inl ⟨rfl, j, by omega, e⟩)
          · have no : ¬ (E k ∧ subS (zI g) (zI k)) → sm_wp X 285 147 [some (.ref 81), some (.int (zI b)), some (.int (zI g)), some (.int 0), some (.int (zI (k + 1)))] [] (sM mo G I J) Q := by
              intro hn
              refine ih2 (k + 1) (by omega) 0 (Or.inr ⟨rfl, ?_⟩)
              rintro ⟨j, hj, e⟩
              by_cases ej : j = k
              · rw [ej] at e; exact hn e
              · exact hx ⟨j, by omega, e⟩
            rw [if_neg (fun e => e rfl), zI_vp (by omega), zI_cn (by omega)]
            refine ⟨by omega, ?_⟩
            rcases hE k (by omega) with ⟨e1, e2⟩ | ⟨e1, e2⟩
            · rw [if_neg (by rw [e1]; decide)]
              by_cases c2 : subS (zI g) (zI k)
              · rw [if_neg (fun e => e c2)]
                exact ih2 (k + 1) (by omega) 1 (Or.inl ⟨rfl, k, by omega, e2, c2⟩)
              · rw [if_pos c2]
                exact no (fun e => c2 e.2)
            · rw [if_pos e1]
              exact no (fun e => e2 e.1)
      exact lk 64 0 (by omega) 0 (Or.inr ⟨rfl, fun e => by
        obtain ⟨j, hj, -⟩ := e
        exact absurd hj (Nat.not_lt_zero _)⟩)
    · rw [if_neg c1]
      exact skip (fun e => absurd e.1 c1)
theorem m_core {n m : Nat} {pr : Int32} {r4 r5 r12 W : Nat → Int32} (hb : basM n m pr r4 r5 r12 W I)
    (hQ : ∀ L, Fr I L → ∀ x : Int32, (8 < dK n r5 pr ∧ x = -1 ∨ dK n r5 pr ≤ 8 ∧ ∃ v, x = zI v ∧ isCr (badG n m r4 r5 r12 W pr) v) → Q (some (.int x)) (sM mo G L J)) :
    sm_wp X 285 0 [some (.ref 81), none, none, none, none] [] (sM mo G I J) Q := by
  have f0 : Fr I (up2 I 81 2 0) := Fr_m (Fr_r I) rfl 0
  have hb1 := basM_fr hb f0
  have hb0 := hb1
  obtain ⟨⟨c1, c2, c3, c4, c5⟩, bp, ⟨d1, d2, d3, d4⟩, b2, b3, b4, b5, b6⟩ := hb1
  have d12 : dK n r5 pr ≤ 12 := Nat.le_trans (cN_le _ _) c2
  rw [lp_285_0]
  refine ct_275 (n := n) (m := m) c1 c2 c3 c4 (by rw [c5]; exact bp) (by rw [d2]; exact b3) (by rw [d2]; exact b4) (by rw [d1]; exact b2) (by rw [d4]; exact b5) ?_
  intro K fK hM
  rw [d1, d2, d4, c5] at hM
  have frK : Fr I K := Fr_t f0 (Fr_M fK)
  have sp : vf_Model_isSpent K ↔ 8 < dK n r5 pr := by
    unfold vf_Model_isSpent
    rw [hM.1]
    rw [zIr_le (c := 8) (by decide) (by omega)]
    show ¬ dK n r5 pr ≤ 8 ↔ _
    omega
  simp only [tl_none]
  rw [lp_285_9]
  by_cases g8 : 8 < dK n r5 pr
  · rw [if_neg (fun e => e (sp.mpr g8))]
    exact hQ K frK (-1) (Or.inl ⟨g8, rfl⟩)
  · rw [if_pos (fun e => g8 (sp.mp e))]
    have h8 : dK n r5 pr ≤ 8 := by omega
    have rb := rws_b (n := n) (pr := pr) b4 h8
    have MIk : ∀ L, Fr I L → (∀ c, c ≠ 128 → c ≠ 129 → c ≠ 132 → L c = K c) → MI n r4 r5 W pr (L 81) (L 123) (L 124) (L 125) (L 126) (L 127) := by
      intro L _ e
      rw [e 81 (by decide) (by decide) (by decide), e 123 (by decide) (by decide) (by decide), e 124 (by decide) (by decide) (by decide), e 125 (by decide) (by decide) (by decide), e 126 (by decide) (by decide) (by decide), e 127 (by decide) (by decide) (by decide)]
      exact hM
    -- all rows
    have rows : ∀ d v, v + d = rws n r5 pr → ∀ L, Fr I L → (∀ c, c ≠ 128 → c ≠ 129 → c ≠ 132 → L c = K c) → (∀ k, k < 64 → (L 132 k = 1 ∧ (∃ u, u < v ∧ kpt n m r4 r5 r12 W pr u = zI k) ∨ L 132 k = 0 ∧ ¬ ∃ u, u < v ∧ kpt n m r4 r5 r12 W pr u = zI k)) → sm_wp X 285 41 [some (.ref 81), some (.int (zI v)), none, none, none] [] (sM mo G L J) Q := by
      intro d
      induction d with
      | zero =>
        intro v hv L fL eL hE
        have : v = rws n r5 pr := by omega
        subst this
        rw [lp_285_41, if_pos (by rw [(MIk L fL eL).2.2.2.1 h8, zI_le (by omega) (by omega)]; exact Nat.le_refl _)]
        refine mc_b (n := n) (m := m) (pr := pr) (E := fun k => ∃ u, u < rws n r5 pr ∧ kpt n m r4 r5 r12 W pr u = zI k) ((basM_fr hb fL).1.2.2.2.2) hE (fun k _ => Iff.rfl) (fun v hv => hQ L fL _ (Or.inr ⟨h8, v, rfl, hv⟩)) 63 1 (by omega) (Nat.le_refl _) 0 (by decide) (Or.inl ⟨rfl, fun g' a b => absurd b (by omega)⟩)
      | succ d ih =>
        intro v hv L fL eL hE
        have bL := basM_fr hb fL
        obtain ⟨⟨k1, k2, k3, k4, k5⟩, -, ⟨e1, e2, e3, e4⟩, -⟩ := bL
        rw [lp_285_41, if_neg (by rw [(MIk L fL eL).2.2.2.1 h8, zI_le (by omega) (by omega)]; omega)]
        refine ct_278 (I := L) (n := n) (v := v) (pr := pr) (r4 := r4) (r5 := r5) c2 (by rw [e4]; exact b5) b4 h8 (by omega) (by rw [e4]; exact MIk L fL eL) ?_
        intro N fN n129 n128
        rw [e4] at n128
        have gb : ∀ s, gv n r4 r5 W pr v s ≤ 1188 := fun s => gtC_b b5 c2 s
        have fIN : Fr I N := Fr_t fL (Fr_R fN)
        obtain ⟨⟨j1, j2, j3, j4, j5⟩, -, ⟨g1, g2, g3, g4⟩, -⟩ := basM_fr hb fIN
        have eN : ∀ c, c ≠ 128 → c ≠ 129 → c ≠ 132 → N c = K c := fun c x y z => (fN c x y).trans (eL c x y z)
        have n132 : N 132 = L 132 := fN 132 (by decide) (by decide)
        simp only [tl_none]
        rw [lp_285_54]
        have sl : ∀ d s, s + d = m → sm_wp X 285 58 [some (.ref 81), some (.int (zI v)), some (.int (kpI pr (bdN m r12) (gv n r4 r5 W pr v) s)), some (.int (zI s)), none] [] (sM mo G N J) Q := by
          intro d
          induction d with
          | zero =>
            intro s hs
            have : s = m := by omega
            subst this
            have e6 : kpI pr (bdN s r12) (gv n r4 r5 W pr v) s = kpt n s r4 r5 r12 W pr v := by
              apply bt_ext
              intro k _
              unfold kpt
              rw [bt_kpI _ _ _ s c4, bt_kpI _ _ _ 6 (Nat.le_refl _)]
              by_cases ks : k < s
              · rw [decide_eq_true ks, decide_eq_true (show k < 6 by omega)]
              · rw [decide_eq_false ks, bp k (by omega), Bool.false_and, Bool.false_and, Bool.and_false]
            obtain ⟨j, hj, ej⟩ := kpI_z pr (bdN s r12) (gv n r4 r5 W pr v)
            have ej' : kpt n s r4 r5 r12 W pr v = zI j := ej
            rw [lp_285_58, if_pos (by rw [j3, zI_le (by omega) (by omega)]; exact Nat.le_refl _), e6, ej', zI_vp (by omega), zI_cn (by omega), nar_1, show zI v + 1 = zI (v + 1) from zIr_add 1 v]
            refine ⟨hj, ih (v + 1) (by omega) _ (Fr_u fIN rfl (by decide) (by decide) (by decide) _ _) (fun c x y z => by rw [up2_rn _ _ _ _ _ z]; exact eN c x y z) (fun k hk => ?_)⟩
            rw [up2_ra, va_ap, n132]
            by_cases ek : k = j
            · rw [if_pos ek]
              exact Or.inl ⟨rfl, v, by omega, by rw [ek]; exact ej'⟩
            · rw [if_neg ek]
              rcases hE k hk with ⟨h1, u, hu, h2⟩ | ⟨h1, h2⟩
              · exact Or.inl ⟨h1, u, by omega, h2⟩
              · refine Or.inr ⟨h1, ?_⟩
                rintro ⟨u, hu, h3⟩
                by_cases eu : u = v
                · rw [eu, ej', zI_eq (by omega) (by omega)] at h3
                  exact ek h3.symm
                · exact h2 ⟨u, by omega, h3⟩
          | succ d ih2 =>
            intro s hs
            have sm' : s < m := by omega
            have ps : vf_Model_isPresent N (zI s) ↔ bt pr s = true := by
              rw [mPres_vp j3 c4, zI_sIn (by omega) (by omega), zI_cn (by omega), j5]
              exact ⟨fun e => e.2, fun e => ⟨sm', e⟩⟩
            have ek : kpI pr (bdN m r12) (gv n r4 r5 W pr v) (s + 1) = if bt pr s = true ∧ bdN m r12 s ≤ gv n r4 r5 W pr v s then kpI pr (bdN m r12) (gv n r4 r5 W pr v) s ||| b1 s else kpI pr (bdN m r12) (gv n r4 r5 W pr v) s := rfl
            rw [lp_285_58, if_neg (by rw [j3, zI_le (by omega) (by omega)]; omega), show zI s + 1 = zI (s + 1) from zIr_add 1 s, Int32.or_zero]
            by_cases q1 : bt pr s = true
            · obtain ⟨w, hw, ew⟩ := b6 s
              have ebd : bdN m r12 s = w := by unfold bdN; rw [if_pos sm', ew, zI_cn (by omega)]
              have gs := gb s
              rw [if_neg (fun e => e (ps.mpr q1)), zI_vp (by omega), zI_cn (by omega), n128 s (by omega), g3, ew]
              refine ⟨by omega, ?_⟩
              by_cases q2 : w ≤ gv n r4 r5 W pr v s
              · rw [if_neg (by rw [zI_lt (by omega) (by omega)]; omega), show kpI pr (bdN m r12) (gv n r4 r5 W pr v) s ||| ((1 : Int32) <<< (zI s &&& 31)) = kpI pr (bdN m r12) (gv n r4 r5 W pr v) (s + 1) from by rw [ek, if_pos ⟨q1, by rw [ebd]; exact q2⟩]; rfl]
                exact ih2 (s + 1) (by omega)
              · rw [if_pos (by rw [zI_lt (by omega) (by omega)]; omega)]
                rw [if_neg (fun e => q2 (by rw [← ebd]; exact e.2))] at ek
                rw [← ek]
                exact ih2 (s + 1) (by omega)
            · rw [if_pos (fun e => q1 (ps.mp e))]
              rw [if_neg (fun e => q1 e.1)] at ek
              rw [← ek]
              exact ih2 (s + 1) (by omega)
        exact sl m 0 (by omega)
    have clr : ∀ d k, k + d = 64 → ∀ q : Nat → Int32, (∀ j, j < k → q j = 0) → sm_wp X 285 20 [some (.ref 81), some (.int (zI k)), none, none, none] [] (sM mo G (rw2 K 132 q) J) Q := by
      intro d
      induction d with
      | zero =>
        intro k hk q hq
        have : k = 64 := by omega
        subst this
        rw [lp_285_20, if_pos (by decide)]
        refine rows (rws n r5 pr) 0 (by omega) _ (Fr_w frK rfl (by decide) (by decide) (by decide) q) (fun c _ _ z => rw2_n _ _ _ _ z) (fun k hk => Or.inr ⟨by rw [rw2_a]; exact hq k hk, ?_⟩)
        rintro ⟨u, hu, -⟩
        exact absurd hu (Nat.not_lt_zero _)
      | succ d ih =>
        intro k hk q hq
        rw [lp_285_20, if_neg (by rw [zIl_le (c := 64) (by decide) (by omega)]; show ¬ 64 ≤ k; omega), zI_vp (by omega), zI_cn (by omega), nar_0, show zI k + 1 = zI (k + 1) from zIr_add 1 k, up2_rw, rw2_a, rw2_rw]
        refine ⟨by omega, ih (k + 1) (by omega) _ (fun j hj => ?_)⟩
        rw [va_ap]
        by_cases e : j = k
        · rw [if_pos e]
        · rw [if_neg e]; exact hq j (by omega)
    have q := clr 64 0 (by omega) (K 132) (fun j hj => absurd hj (Nat.not_lt_zero _))
    rw [rw2_self] at q
    exact q
theorem op_core (h : inv c mo G I J) (hc : c ≤ 1000) : Agr X 192 [some (.ref 0)] 285 [some (.ref 81), none, none, none, none] (sM mo G I J) (Inv (c + 1)) := by
  obtain ⟨n, m, hb⟩ := inv_bas h
  unfold Agr
  rw [lp_192_0]
  refine c_52 h hc hb (fun mo' K J' hK bK k4 k5 k12 k13 k1 hr => ?_)
  simp only [tl_none]
  rw [← k4, ← k5, ← k12, ← k13, ← k1] at hr
  rw [lp_192_14]
  refine ct_141 bK.2.1 (fun k hk => bK.2.2.2.2.1 k (by have := bK.2.2.2.1; omega)) bK.2.2.2.2.2.2.2.2.1 hr (fun x hx => ?_)
  simp only [tl_some]
  rw [lp_192_21]
  refine m_core (bas_M bK) (fun L fL y hy => ?_)
  refine ⟨?_, inv_fr hK fL rfl rfl⟩
  have e : y = x := by
    rcases hx with ⟨a1, rfl⟩ | ⟨a1, v, rfl, a2⟩
    · rcases hy with ⟨b1, rfl⟩ | ⟨b1, -⟩
      · rfl
      · omega
    · rcases hy with ⟨b1, -⟩ | ⟨b1, w, rfl, b2⟩
      · omega
      · rw [isCr_u b2 a2]
  rw [e]
end V3
