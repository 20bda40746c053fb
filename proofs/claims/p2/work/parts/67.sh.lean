/-! Shares: what a row says. -/
theorem wA_s (W : Nat → Int32) (s : Nat) (A : Int32) (k : Nat) : wA W s A (k + 1) = if bt A k = true then wA W s A k + ww W s k else wA W s A k := rfl
theorem wA_p {W : Nat → Int32} {s : Nat} {A : Int32} {k : Nat} (h : bt A k = true) : wA W s A (k + 1) = wA W s A k + ww W s k := by rw [wA_s, if_pos h]
theorem wA_q {W : Nat → Int32} {s : Nat} {A : Int32} {k : Nat} (h : bt A k = false) : wA W s A (k + 1) = wA W s A k := by rw [wA_s, if_neg (by rw [h]; decide)]
theorem wA_c {W : Nat → Int32} {s : Nat} {A B : Int32} {k : Nat} (h : ∀ l, l < k → bt A l = bt B l) : wA W s A k = wA W s B k := by
  unfold wA
  apply up_congr
  intro l hl x
  rw [h l hl]
theorem wA_m {W : Nat → Int32} {s : Nat} {A B : Int32} {k : Nat} (h : ∀ l, l < k → bt A l = true → bt B l = true) : wA W s A k ≤ wA W s B k := by
  unfold wA
  refine up_rel (fun _ (x y : Nat) => x ≤ y) (Nat.le_refl _) ?_ k (Nat.le_refl _)
  intro l hl x y hxy
  by_cases g : bt A l = true
  · rw [if_pos g, if_pos (h l hl g)]
    exact Nat.add_le_add_right hxy _
  · rw [if_neg g]
    by_cases g2 : bt B l = true
    · rw [if_pos g2]; omega
    · rw [if_neg g2]; exact hxy
theorem wA_t {W : Nat → Int32} {s : Nat} {A : Int32} {n : Nat} (h : ∀ l, n ≤ l → bt A l = false) : ∀ k, wA W s A (n + k) = wA W s A n := by
  intro k
  induction k with
  | zero => rfl
  | succ k ih => rw [← Nat.add_assoc, wA_q (h _ (by omega)), ih]
theorem ww_le {W : Nat → Int32} (h : okW W) (s l : Nat) : ww W s l ≤ 99 := by
  obtain ⟨w, hw, e⟩ := h (12 * s + l)
  unfold ww
  rw [e, zI_cn (by omega)]
  exact hw
theorem wof_w {W : Nat → Int32} (h : okW W) {s l : Nat} (hs : s < 6) (hl : l < 12) : wof W (zI s) (zI l) = zI (ww W s l) := by
  obtain ⟨w, hw, e⟩ := h (12 * s + l)
  have e1 : (zI s * 12 + zI l : Int32) = zI (12 * s + l) := by
    rw [show zI s * 12 = zI (s * 12) from zIr_mul 12 s, zI_add, Nat.mul_comm]
  have g : ¬ (zI s < 0 ∨ 6 ≤ zI s ∨ zI l < 0 ∨ 12 ≤ zI l) := by
    rw [zIr_lt (c := 0) (by decide) (by omega), zIl_le (c := 6) (by decide) (by omega), zIr_lt (c := 0) (by decide) (by omega), zIl_le (c := 12) (by decide) (by omega)]
    show ¬ (s < 0 ∨ 6 ≤ s ∨ l < 0 ∨ 12 ≤ l)
    omega
  unfold wof ww
  rw [if_neg g, e1, zI_cn (by omega), e, zI_cn (by omega)]
theorem wA_b {W : Nat → Int32} (h : okW W) (s : Nat) (A : Int32) : ∀ k, wA W s A k ≤ 99 * k := by
  intro k
  induction k with
  | zero => exact Nat.le_refl _
  | succ k ih =>
    have := ww_le h s k
    rw [wA_s]
    split <;> omega
theorem wsum_w {W : Nat → Int32} (h : okW W) {s n : Nat} (hs : s < 6) (hn : n ≤ 12) (A : Int32) : wsum W (zI s) A n = zI (wA W s A n) := by
  unfold wsum wA
  refine up_rel (fun _ (x : Int32) (y : Nat) => x = zI y) rfl ?_ n (Nat.le_refl _)
  intro l hl x y hxy
  by_cases g : bt A l = true
  · rw [if_pos g, if_pos g, wof_w h hs (by omega), hxy, zI_add]
  · rw [if_neg g, if_neg g, hxy]
theorem bt_m1 {l : Nat} (h : l < 32) : bt (-1) l = true := by
  have e : ∀ l, l < 32 → bt (-1) l = true := by decide
  exact e l h
theorem bt_rst (S A : Int32) {l : Nat} (h : l < 32) : bt (rst S A) l = (bt S l && !bt A l) := by
  unfold rst
  rw [bt_and, bt_xor, bt_m1 h, Bool.xor_true]
theorem rv_g {B : Nat} {P R : Nat → Prop} {x : Int32} (h : rv B P x) (e : ∀ y, R y ↔ P y) : rv B R x := by
  rcases h with ⟨h1, h2⟩ | ⟨z, hz, h1, h2⟩
  · exact Or.inl ⟨h1, fun y hy => h2 y ((e y).mp hy)⟩
  · exact Or.inr ⟨z, hz, h1, fun y => (e y).trans (h2 y)⟩
theorem rv_b {B C : Nat} {P : Nat → Prop} {x : Int32} (h : rv B P x) (e : B ≤ C) : rv C P x := by
  rcases h with h | ⟨z, hz, h⟩
  · exact Or.inl h
  · exact Or.inr ⟨z, by omega, h⟩
theorem rv_or {B : Nat} (hB : B < 1000000) {P R : Nat → Prop} {x y : Int32} (h : rv B P x) (k : rv B R y) : rv B (fun v => P v ∨ R v) (if y ≤ x then x else y) := by
  rcases h with ⟨rfl, h2⟩ | ⟨z, hz, rfl, h2⟩
  · rcases k with ⟨rfl, k2⟩ | ⟨u, hu, rfl, k2⟩
    · exact Or.inl ⟨by rw [ite_self], fun v hv => hv.elim (h2 v) (k2 v)⟩
    · rw [if_neg (by rw [Int32.le_iff_toInt_le, zI_ti (by omega)]; show ¬ (u : Int) ≤ -1; omega)]
      exact Or.inr ⟨u, hu, rfl, fun v => ⟨fun hv => hv.elim (fun e => absurd e (h2 v)) (k2 v).mp, fun hv => Or.inr ((k2 v).mpr hv)⟩⟩
  · rcases k with ⟨rfl, k2⟩ | ⟨u, hu, rfl, k2⟩
    · rw [if_pos (by rw [Int32.le_iff_toInt_le, zI_ti (by omega)]; show (-1 : Int) ≤ z; omega)]
      exact Or.inr ⟨z, hz, rfl, fun v => ⟨fun hv => hv.elim (h2 v).mp (fun e => absurd e (k2 v)), fun hv => Or.inl ((h2 v).mpr hv)⟩⟩
    · by_cases g : u ≤ z
      · rw [if_pos (by rw [zI_le (by omega) (by omega)]; exact g)]
        refine Or.inr ⟨z, hz, rfl, fun v => ?_⟩
        show (P v ∨ R v) ↔ _
        rw [h2 v, k2 v]
        omega
      · rw [if_neg (by rw [zI_le (by omega) (by omega)]; exact g)]
        refine Or.inr ⟨u, hu, rfl, fun v => ?_⟩
        show (P v ∨ R v) ↔ _
        rw [h2 v, k2 v]
        omega
theorem rv_add {B : Nat} (hB : B < 1000000) {P : Nat → Prop} {x : Int32} {w : Nat} (hw : w ≤ 99) (h : rv B P x) : rv (B + 99) (fun y => ∃ v, P v ∧ y ≤ v + w) (if x = -1 then -1 else x + zI w) := by
  rcases h with ⟨rfl, h2⟩ | ⟨z, hz, rfl, h2⟩
  · rw [if_pos rfl]
    exact Or.inl ⟨rfl, fun y hy => h2 _ hy.choose_spec.1⟩
  · rw [if_neg (by rw [zI_m1 (by omega)]; exact id), zI_add]
    refine Or.inr ⟨z + w, by omega, rfl, fun y => ⟨fun hy => ?_, fun hy => ⟨z, (h2 z).mpr (Nat.le_refl _), hy⟩⟩⟩
    obtain ⟨v, hv, hy⟩ := hy
    have := (h2 v).mp hv
    omega
theorem rv_no {B : Nat} {P : Nat → Prop} (h : ∀ y, ¬ P y) : rv B P (-1) := Or.inl ⟨rfl, h⟩
theorem rv_lt {B : Nat} (hB : B < 1000000) {P : Nat → Prop} {x : Int32} (h : rv B P x) {y : Nat} (hy : y < 1000000) : ¬ x ≤ zI y ↔ P (y + 1) := by
  rcases h with ⟨rfl, h2⟩ | ⟨z, hz, rfl, h2⟩
  · refine ⟨fun e => absurd ?_ e, fun e => absurd e (h2 _)⟩
    rw [Int32.le_iff_toInt_le, zI_ti (by omega)]
    show (-1 : Int) ≤ y
    omega
  · rw [h2, zI_le (by omega) (by omega)]
    omega
theorem rch_no {W : Nat → Int32} {S : Int32} {a b k v : Nat} (h : wA W a S k < v) (y : Nat) : ¬ rch W S a b k v y := by
  rintro ⟨A, h1, h2, -⟩
  have := wA_m (W := W) (s := a) (k := k) (fun l _ => h1 l)
  omega
theorem rch_0 {W : Nat → Int32} {S : Int32} {a b : Nat} (y : Nat) : rch W S a b 0 0 y ↔ y ≤ 0 := ⟨fun ⟨_, _, _, h⟩ => h, fun h => ⟨0, ⟨fun l hl => absurd hl (by rw [bt_0]; decide), rfl, h⟩⟩⟩
theorem rch_q {W : Nat → Int32} {S : Int32} {a b k : Nat} (hk : k < 12) (h : bt S k = false) (v y : Nat) : rch W S a b (k + 1) v y ↔ rch W S a b k v y := by
  unfold rch
  refine ⟨fun ⟨A, h1, h2, h3⟩ => ⟨A, h1, ?_, ?_⟩, fun ⟨A, h1, h2, h3⟩ => ⟨A, h1, ?_, ?_⟩⟩
  all_goals
    have e1 : bt A k = false := by
      cases e : bt A k with
      | false => rfl
      | true => rw [h1 k e] at h; exact h
    have e2 : bt (rst S A) k = false := by rw [bt_rst S A (by omega), h]; rfl
  · rw [wA_q e1] at h2; exact h2
  · rw [wA_q e2] at h3; exact h3
  · rw [wA_q e1]; exact h2
  · rw [wA_q e2]; exact h3
theorem rch_p {W : Nat → Int32} {S : Int32} {a b k : Nat} (hk : k < 12) (h : bt S k = true) (v y : Nat) : rch W S a b (k + 1) v y ↔ ((∃ u, rch W S a b k v u ∧ y ≤ u + ww W b k) ∨ (ww W a k ≤ v ∧ rch W S a b k (v - ww W a k) y)) := by
  constructor
  · rintro ⟨A, h1, h2, h3⟩
    cases e : bt A k with
    | false =>
      have e2 : bt (rst S A) k = true := by rw [bt_rst S A (by omega), h, e]; rfl
      rw [wA_q e] at h2
      rw [wA_p e2] at h3
      exact Or.inl ⟨wA W b (rst S A) k, ⟨A, h1, h2, Nat.le_refl _⟩, h3⟩
    | true =>
      have e2 : bt (rst S A) k = false := by rw [bt_rst S A (by omega), h, e]; rfl
      rw [wA_p e] at h2
      rw [wA_q e2] at h3
      exact Or.inr ⟨by omega, A, h1, by omega, h3⟩
  · rintro (⟨u, ⟨A, h1, h2, h3⟩, h4⟩ | ⟨h4, A, h1, h2, h3⟩)
    · have eB : ∀ l, l < 32 → bt (rst A (b1 k)) l = (bt A l && !decide (l = k)) := by
        intro l hl
        rw [bt_rst _ _ hl, bt_b1 k l (by omega) hl]
      have n1 : bt (rst A (b1 k)) k = false := by rw [eB k (by omega)]; simp
      have ag : ∀ l, l < k → bt (rst A (b1 k)) l = bt A l := by
        intro l hl
        rw [eB l (by omega), decide_eq_false (by omega), Bool.not_false, Bool.and_true]
      refine ⟨rst A (b1 k), fun l hl => ?_, ?_, ?_⟩
      · by_cases l32 : l < 32
        · rw [eB l l32] at hl
          exact h1 l (by simp at hl; exact hl.1)
        · rw [bt_big _ _ (by omega)] at hl
          cases hl
      · rw [wA_q n1, wA_c ag]; exact h2
      · have n2 : bt (rst S (rst A (b1 k))) k = true := by rw [bt_rst _ _ (by omega), h, n1]; rfl
        rw [wA_p n2, wA_c (B := rst S A) (fun l hl => by rw [bt_rst S _ (by omega), bt_rst S A (by omega), ag l hl])]
        omega
    · have eB : ∀ l, l < 32 → bt (A ||| b1 k) l = (bt A l || decide (l = k)) := by
        intro l hl
        rw [bt_or, bt_b1 k l (by omega) hl]
      have n1 : bt (A ||| b1 k) k = true := by rw [eB k (by omega)]; simp
      have ag : ∀ l, l < k → bt (A ||| b1 k) l = bt A l := by
        intro l hl
        rw [eB l (by omega), decide_eq_false (by omega), Bool.or_false]
      refine ⟨A ||| b1 k, fun l hl => ?_, ?_, ?_⟩
      · by_cases l32 : l < 32
        · rw [eB l l32] at hl
          by_cases g : l = k
          · rw [g]; exact h
          · rw [decide_eq_false g, Bool.or_false] at hl
            exact h1 l hl
        · rw [bt_big _ _ (by omega)] at hl
          cases hl
      · rw [wA_p n1, wA_c ag, h2]; omega
      · have n2 : bt (rst S (A ||| b1 k)) k = false := by rw [bt_rst _ _ (by omega), h, n1]; rfl
        rw [wA_q n2, wA_c (B := rst S A) (fun l hl => by rw [bt_rst S _ (by omega), bt_rst S A (by omega), ag l hl])]
        exact h3
def rwk (W : Nat → Int32) (S : Int32) (a b k F R : Nat) (M : Nat → Int32) : Prop := ∀ v, v ≤ R → rv (99 * k) (rch W S a b k v) (M (F + v))
theorem rwk_0 {W : Nat → Int32} {S : Int32} {a b F R : Nat} {M : Nat → Int32} (h : ∀ v, v ≤ R → M (F + v) = if v = 0 then 0 else -1) : rwk W S a b 0 F R M := by
  intro v hv
  rw [h v hv]
  by_cases g : v = 0
  · subst g
    rw [if_pos rfl]
    exact Or.inr ⟨0, Nat.le_refl _, rfl, rch_0⟩
  · rw [if_neg g]
    exact rv_no (rch_no (by show 0 < v; omega))
theorem rwk_q {W : Nat → Int32} {S : Int32} {a b k F R : Nat} {M : Nat → Int32} (hk : k < 12) (h : bt S k = false) (hr : rwk W S a b k F R M) : rwk W S a b (k + 1) F R M := fun v hv => rv_b (rv_g (hr v hv) (rch_q hk h v)) (by omega)
theorem rwk_p {W : Nat → Int32} (hW : okW W) {S : Int32} {a b k F R : Nat} {M : Nat → Int32} (hk : k < 12) (h : bt S k = true) (hr : rwk W S a b k F R M) : rwk W S a b (k + 1) F R (adR M F (wA W a S (k + 1)) (ww W a k) (ww W b k) 0) := by
  intro v hv
  unfold adR
  by_cases g : v ≤ wA W a S (k + 1)
  · rw [if_pos ⟨by omega, by omega⟩]
    unfold nwF
    refine rv_g (P := fun y => (∃ u, rch W S a b k v u ∧ y ≤ u + ww W b k) ∨ (ww W a k ≤ v ∧ rch W S a b k (v - ww W a k) y)) ?_ (rch_p hk h v)
    rw [show 99 * (k + 1) = 99 * k + 99 from by omega]
    refine rv_or (by omega) (rv_add (by omega) (ww_le hW b k) (hr v hv)) ?_
    by_cases g2 : ww W a k ≤ v
    · rw [if_pos (by omega), show F + v - ww W a k = F + (v - ww W a k) from by omega]
      exact rv_b (rv_g (hr _ (by omega)) (fun y => ⟨fun e => e.2, fun e => ⟨g2, e⟩⟩)) (by omega)
    · rw [if_neg (by omega)]
      exact rv_no (fun y e => g2 e.1)
  · rw [if_neg (by omega)]
    refine rv_b (rv_g (hr v hv) (fun y => ⟨fun e => absurd e (rch_no (by omega) y), fun e => absurd e (rch_no ?_ y)⟩)) (by omega)
    rw [wA_p h] at g
    omega
