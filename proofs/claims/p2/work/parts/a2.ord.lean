/-! Orders: the two read the same text. -/
theorem it_p {α : Type} {P : α → Prop} {p : Prop} [Decidable p] {x y : α} (hx : p → P x) (hy : P y) : P (if p then x else y) := by
  by_cases h : p
  · rw [if_pos h]; exact hx h
  · rw [if_neg h]; exact hy
def sgP (c : Nat) (x : Nat × Nat) : Prop := 1 ≤ x.2 ∧ x.2 ≤ 2 ∧ (x.2 = 2 → ¬ c = 0) ∧ ¬ x.1 = 34
theorem sgP_1 (c a : Nat) (h : ¬ a = 34) : sgP c (a, 1) := ⟨Nat.le_refl 1, (show 1 ≤ 2 by decide), fun e => absurd e (show ¬ 1 = 2 by decide), h⟩
theorem sgP_2 (c a : Nat) (h : ¬ a = 34) (k : ¬ c = 0) : sgP c (a, 2) := ⟨(show 1 ≤ 2 by decide), Nat.le_refl 2, fun _ => k, h⟩
theorem sgC_l (b c : Nat) : sgP c (sgC b c) := by
  unfold sgC
  refine it_p (fun _ => sgP_1 c _ (by decide)) ?_
  refine it_p (fun _ => sgP_1 c _ (by decide)) ?_
  refine it_p (fun _ => sgP_1 c _ (by decide)) ?_
  refine it_p (fun _ => sgP_1 c _ (by decide)) ?_
  refine it_p (fun _ => sgP_1 c _ (by decide)) ?_
  refine it_p (fun _ => sgP_1 c _ (by decide)) ?_
  refine it_p (fun _ => sgP_1 c _ (by decide)) ?_
  refine it_p (fun _ => sgP_1 c _ (by decide)) ?_
  refine it_p (fun _ => ?_) ?_
  · refine it_p (fun h => sgP_2 c _ (by decide) (by omega)) ?_
    exact it_p (fun h => sgP_2 c _ (by decide) (by omega)) (sgP_1 c _ (by decide))
  refine it_p (fun _ => sgP_1 c _ (by decide)) ?_
  refine it_p (fun _ => ?_) (sgP_1 c _ (by decide))
  exact it_p (fun h => sgP_2 c _ (by decide) (by omega)) (sgP_1 c _ (by decide))
theorem tk_adv {B : Nat → Nat} {n q : Nat} (hq : q < n) : q < (tkN B n q).2 ∧ (tkN B n q).2 ≤ n ∧ ¬ (tkN B n q).1 = 34 ∧ (tkN B n q).1 < 100 := by
  unfold tkN
  rw [if_neg (by omega)]
  have spu : ∀ P : Nat → Bool, P q = true → q < sp P (n - q) q ∧ sp P (n - q) q ≤ n := fun P h => by
    have e : n - q = (n - q - 1) + 1 := by omega
    rw [e]
    unfold sp
    rw [if_pos h]
    have := sp_b P (n - q - 1) (q + 1)
    omega
  by_cases g : isLt B q = true
  · rw [if_pos g]
    have w := wds (p := fun w => pB (mtc B q (sp (isLt B) (n - q) q) w)) mtc_u
    have e : wcd B q (sp (isLt B) (n - q) q) = fi (fun w => pB (mtc B q (sp (isLt B) (n - q) q) w)) wC 0 35 := rfl
    have w2 : wcd B q (sp (isLt B) (n - q) q) = 35 ∨ wcd B q (sp (isLt B) (n - q) q) < 19 := by
      rw [e]
      rcases w with ⟨w1, -⟩ | ⟨i, hi, w1, -⟩
      · exact Or.inl w1
      · right; rw [w1]; exact hi
    refine ⟨(spu _ g).1, (spu _ g).2, ?_, ?_⟩
    · show ¬ wcd B q (sp (isLt B) (n - q) q) = 34
      omega
    · show wcd B q (sp (isLt B) (n - q) q) < 100
      omega
  · rw [if_neg g]
    by_cases g2 : isDt B q = true
    · rw [if_pos g2]
      exact ⟨(spu _ g2).1, (spu _ g2).2, (show ¬ 36 = 34 by decide), (show 36 < 100 by decide)⟩
    · rw [if_neg g2]
      obtain ⟨la, lb, lc, ld⟩ := sgC_l (B q) (nxB B n q)
      have b := sgC_b (B q) (nxB B n q)
      have x : (sgC (B q) (nxB B n q)).2 = 2 → q + 1 < n := fun h => by
        have := lc h
        unfold nxB at this
        split at this
        · assumption
        · exact absurd rfl this
      refine ⟨?_, ?_, ld, ?_⟩
      · show q < q + (sgC (B q) (nxB B n q)).2
        omega
      · show q + (sgC (B q) (nxB B n q)).2 ≤ n
        omega
      · show (sgC (B q) (nxB B n q)).1 < 100
        omega
theorem plc_b (B : Nat → Nat) {n p : Nat} (h : p ≤ n) : p ≤ plc B n p ∧ plc B n p ≤ n := by
  unfold plc
  have := sp_b (isBl B) (n - p) p
  omega
theorem pW_pm {m kn o least : Nat} {sg vb le : Nat → Nat} (hl : 1 ≤ least) : ∀ w z c, pW m z w 3 kn o c sg vb le → pW m (z + pm least sg w) (w - pm least sg w) 3 kn o (pcG least sg sg w z c) sg vb le := by
  intro w
  induction w with
  | zero => intro z c h; exact h
  | succ w ih =>
    intro z c h
    have um : pm least sg (w + 1) = if least ≤ stg (sg w) then pm least sg w + 1 else 0 := rfl
    have uc : pcG least sg sg (w + 1) z c = if least ≤ stg (sg w) then pcG least sg sg w (z + 1) (va_up c z (sg w)) else c := rfl
    by_cases g : least ≤ stg (sg w)
    · rw [if_pos g] at um uc
      have n30 : ¬ sg w = 30 := by rw [← stg_30 (h.2.1.1 w (by omega))]; omega
      have := ih (z + 1) _ (pW_p h n30).1
      rw [um, uc, show z + (pm least sg w + 1) = z + 1 + pm least sg w from by omega, show w + 1 - (pm least sg w + 1) = w - pm least sg w from by omega]
      exact this
    · rw [if_neg g] at um uc
      rw [um, uc]
      exact h
theorem vsg_40 {s : Nat} (h : vsg s) : s < 40 := by unfold vsg at h; omega
def scE (r : Nat → Int32) (a z w d kn o : Nat) (cm : Int32) : Prop := r 0 = 0 ∧ r 2 = zI a ∧ r 3 = zI z ∧ r 9 = zI w ∧ r 10 = zI d ∧ r 11 = zI kn ∧ r 12 = zI o ∧ r 13 = cm
theorem pW_sc {r : Nat → Int32} {m z w d kn o : Nat} {cm : Int32} {c sg vb le : Nat → Nat} (h : pW m z w d kn o c sg vb le) (e : scE r (m + on d) z w d kn o cm) : sc16 r (m + on d) z w d kn o cm := by
  have n := np_w sg w
  have h1 := h.1
  exact ⟨e, by omega, by omega, by omega, by omega, by omega, by omega⟩
def frO (I0 K : Nat → Nat → Int32) : Prop := (∀ d, ¬ d = 14 → d < 16 ∨ 20 < d → K d = I0 d) ∧ ∀ j, ¬ j = 1 → ¬ j = 5 → ¬ j = 2 → K 14 j = I0 14 j
def CC (p m z w d kn o : Nat) (cm : Int32) (c sg vb le : Nat → Nat) (I0 K : Nat → Nat → Int32) : Prop := scE (K 16) (m + on d) z w d kn o cm ∧ (∀ i, i < z → K 17 i = zI (c i)) ∧ (∀ i, i < m + on d → K 18 i = zI (vb i)) ∧ (∀ i, i < m → K 19 i = zI (le i)) ∧ (∀ j, j < w → K 20 j = zI (sg j)) ∧ K 16 1 = -1 ∧ frO I0 K ∧ K 14 5 = zI p
/-- what may come of it -/
def okR (I0 : Nat → Nat → Int32) (b : Bool) (F : (Nat → Nat → Int32) → Prop) (S : (Nat → Nat → Int32) → (Nat → Nat → Int32) → Prop) : Prop :=
  (b = false ∧ ∃ fa pl : Nat, (fa = 1 ∨ fa = 2) ∧ F = (fun L => frO I0 L ∧ L 16 0 = zI fa ∧ L 16 1 = zI pl) ∧ S = (fun T0 L => ∃ L0, frR T0 L0 ∧ L = up2 (up2 L0 81 18 (zI fa)) 81 19 (zI pl))) ∨
  (b = true ∧ ∃ (m z kn : Nat) (cm : Int32) (c sg vb le : Nat → Nat), pW m z 0 0 kn 0 c sg vb le ∧ F = (fun L => frO I0 L ∧ L 16 0 = 0 ∧ L 16 1 = -1 ∧ L 16 2 = zI m ∧ (∀ i, i < z → L 17 i = zI (c i)) ∧ (∀ i, i < m → L 18 i = zI (vb i)) ∧ (∀ i, i < m → L 19 i = zI (le i))) ∧ S = (fun T0 L => frR T0 L ∧ ∃ gb wo, CT m z 0 0 kn 0 cm c sg vb le gb wo L))
def cWP (X : (Nat → Int32) × Nat) (mo : Bool) (G : Nat × Nat) (J : Nat → Nat → Int64) (n k : Nat) (P F : (Nat → Nat → Int32) → Prop) : Prop := ∀ K (Q : Option Value → sm_M → Prop), P K → (∀ L, F L → Q none (sM mo G L J)) → sm_wp X 47 55 [some (.ref 16), some (.int (zI n)), some (.int (zI k))] [] (sM mo G K J) Q
def rGo (X : (Nat → Int32) × Nat) (mo : Bool) (G : Nat × Nat) (J : Nat → Nat → Int64) (x2 : Int32) (m d : Nat) (T : Nat → Nat → Int32) (Q : Option Value → sm_M → Prop) : Prop := if d = 0 then sm_wp X 225 75 [some (.ref 81), none, some (.int x2), none, none] [] (sM mo G T J) Q else sm_wp X 234 30 [some (.ref 81), none] [] (sM mo G T J) (RC X m x2 Q)
def rFi (X : (Nat → Int32) × Nat) (mo : Bool) (G : Nat × Nat) (J : Nat → Nat → Int64) (x2 : Int32) (b : Bool) (L : Nat → Nat → Int32) (Q : Option Value → sm_M → Prop) : Prop := if b = true then sm_wp X 225 106 [some (.ref 81), none, some (.int x2), some (.int ((384 : Int32) - ((64 : Int32) * x2))), some (.int ((64 : Int32) * x2))] [] (sM mo G L J) Q else Q (some (.int (-1))) (sM mo G L J)
def t0F (B : Nat → Nat) (n : Nat) (T0 : Nat → Nat → Int32) : Prop := tpM B (T0 82) ∧ ivX (T0 93) ∧ T0 81 20 = zI n
def rWP (X : (Nat → Int32) × Nat) (mo : Bool) (G : Nat × Nat) (J : Nat → Nat → Int64) (x2 : Int32) (B : Nat → Nat) (n q m d : Nat) (P : (Nat → Nat) → (Nat → Nat) → (Nat → Nat → Int32) → Prop) (b : Bool) (S : (Nat → Nat → Int32) → (Nat → Nat → Int32) → Prop) : Prop := ∀ T0 T (Q : Option Value → sm_M → Prop) gb wo, t0F B n T0 → P gb wo T → frR T0 T → tkF B n q T → (∀ L, S T0 L → rFi X mo G J x2 b L Q) → rGo X mo G J x2 m d T Q
section O1
variable {X : (Nat → Int32) × Nat} {mo : Bool} {G : Nat × Nat} {J : Nat → Nat → Int64} {Q : Option Value → sm_M → Prop}
theorem c_it {B : Nat → Nat} {n p k : Nat} {I0 K : Nat → Nat → Int32} (hT : tpC B (I0 15)) (h4 : I0 14 4 = zI n) (hn : n ≤ 400) (hk : k ≤ n) (hp : p ≤ n) (fr : frO I0 K) (h5 : K 14 5 = zI p) (h10 : ¬ K 16 10 = 4) (h0 : K 16 0 = 0)
    (hQ : ∀ L, (∀ c, ¬ c = 14 → L c = K c) → frO I0 L → L 14 1 = zI (plc B n p) → L 14 5 = zI (tkN B n (plc B n p)).2 → ((tkN B n (plc B n p)).1 = 36 → L 14 2 = zI (nuC B (plc B n p) ((tkN B n (plc B n p)).2 - plc B n p))) → sm_wp X 48 0 [some (.ref 16), some (.int (zI (tkN B n (plc B n p)).1))] [] (sM mo G L J) (fun v M => sm_wp X 47 86 [some (.ref 16), some (.int (zI n)), some (.int (zI k))] (v.toList ++ []) M Q)) :
    sm_wp X 47 55 [some (.ref 16), some (.int (zI n)), some (.int (zI k))] [] (sM mo G K J) Q := by
  rw [lp_47_55, if_neg (by rw [zI_lt (by omega) (by omega)]; omega), if_neg h10, if_neg (fun e => e h0)]
  refine ct_156 (I := K) (B := B) (n := n) (by rw [fr.1 15 (by decide) (by decide)]; exact hT) (by rw [fr.2 4 (by decide) (by decide) (by decide)]; exact h4) hn (n - p) p (by omega) K (fun _ _ => rfl) (fun _ _ => rfl) h5 ?_
  intro L hL
  obtain ⟨l1, l2, l3, l4, l5⟩ := hL
  simp only [tl_some]
  rw [lp_47_83]
  exact hQ L l1 ⟨fun d a b => by rw [l1 d a]; exact fr.1 d a b, fun j a b c => by rw [l2 j a b c]; exact fr.2 j a b c⟩ l3 l4 l5
theorem c_go {n k : Nat} {L : Nat → Nat → Int32} (h : sm_wp X 47 55 [some (.ref 16), some (.int (zI n)), some (.int (zI (k + 1)))] [] (sM mo G L J) Q) : (fun (v : Option Value) M => sm_wp X 47 86 [some (.ref 16), some (.int (zI n)), some (.int (zI k))] (v.toList ++ []) M Q) none (sM mo G L J) := by
  show sm_wp X 47 86 [some (.ref 16), some (.int (zI n)), some (.int (zI k))] [] (sM mo G L J) Q
  rw [lp_47_86, show zI k + 1 = zI (k + 1) from zIr_add 1 k]
  exact h
theorem c_xf {n k : Nat} {L : Nat → Nat → Int32} (h : Q none (sM mo G L J)) (hx : L 16 10 = 4 ∨ ¬ L 16 0 = 0) : sm_wp X 47 55 [some (.ref 16), some (.int (zI n)), some (.int (zI k))] [] (sM mo G L J) Q := by
  rw [lp_47_55]
  by_cases a : zI n < zI k
  · rw [if_pos a]; exact h
  · rw [if_neg a]
    by_cases b : L 16 10 = 4
    · rw [if_pos b]; exact h
    · rw [if_neg b, if_pos (by rcases hx with hx | hx; exact absurd hx b; exact hx)]; exact h
end O1
