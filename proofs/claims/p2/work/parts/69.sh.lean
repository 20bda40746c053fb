/-! Shares: who could both have more; the rivals. -/
theorem bt_hl (h : Nat → Int32) (s : Int32) : ∀ n, n ≤ 12 → ∀ l, bt (hlds h s n) l = decide (l < n ∧ h l = s) := by
  intro n
  induction n with
  | zero =>
    intro _ l
    rw [decide_eq_false (by omega)]
    exact bt_0 l
  | succ n ih =>
    intro hn l
    have e : hlds h s (n + 1) = if h n = s then hlds h s n ||| b1 n else hlds h s n := rfl
    rw [e]
    by_cases l32 : l < 32
    · by_cases g : h n = s
      · rw [if_pos g, bt_or, ih (by omega), bt_b1 n l (by omega) l32]
        by_cases g2 : l = n
        · subst g2
          simp [g]
        · have : (l < n + 1 ∧ h l = s) ↔ (l < n ∧ h l = s) := ⟨fun e => ⟨by omega, e.2⟩, fun e => ⟨by omega, e.2⟩⟩
          simp [this, g2]
      · rw [if_neg g, ih (by omega)]
        have : (l < n + 1 ∧ h l = s) ↔ (l < n ∧ h l = s) := ⟨fun e => ⟨by
          by_cases g2 : l = n
          · subst g2; exact absurd e.2 g
          · omega, e.2⟩, fun e => ⟨by omega, e.2⟩⟩
        simp [this]
    · rw [bt_big _ _ (by omega), decide_eq_false (by omega)]
theorem bt_bth {r4 : Nat → Int32} {n : Nat} (hn : n ≤ 12) (a b l : Nat) : bt (bth r4 n a b) l = (decide (l < n ∧ r4 l = zI a) || decide (l < n ∧ r4 l = zI b)) := by
  unfold bth
  rw [bt_or, bt_hl _ _ n hn, bt_hl _ _ n hn]
theorem bth_hi {r4 : Nat → Int32} {n : Nat} (hn : n ≤ 12) (a b : Nat) : ∀ l, n ≤ l → bt (bth r4 n a b) l = false := by
  intro l hl
  rw [bt_bth hn, decide_eq_false (by omega), decide_eq_false (by omega)]
  rfl
theorem cB_sfp {r4 W : Nat → Int32} {n a b x y : Nat} : cB r4 W n a b x y ↔ sfp W (bth r4 n a b) a b (x + 1) (y + 1) := by
  constructor
  · rintro ⟨A, h1, h2, h3⟩
    exact ⟨_, h2, A, h1, rfl, h3⟩
  · rintro ⟨u, hu, A, h1, h2, h3⟩
    exact ⟨A, h1, by omega, h3⟩
def hcN (r4 : Nat → Int32) (n s : Nat) : Nat := up (fun l a => if r4 l = zI s then a + 1 else a) n 0
theorem hcN_6 (r4 : Nat → Int32) (n : Nat) : hcN r4 n 0 + hcN r4 n 1 + hcN r4 n 2 + hcN r4 n 3 + hcN r4 n 4 + hcN r4 n 5 ≤ n := by
  induction n with
  | zero => exact Nat.le_refl _
  | succ n ih =>
    have e : ∀ s, hcN r4 (n + 1) s = if r4 n = zI s then hcN r4 n s + 1 else hcN r4 n s := fun s => rfl
    rw [e, e, e, e, e, e]
    by_cases g : ∃ s, s < 6 ∧ r4 n = zI s
    · obtain ⟨s, hs, g⟩ := g
      rw [g]
      have d : ∀ s k, s < 6 → k < 6 → (zI s = zI k) = (s = k) := fun s k h1 h2 => zI_eq (by omega) (by omega)
      simp only [d s 0 hs (by decide), d s 1 hs (by decide), d s 2 hs (by decide), d s 3 hs (by decide), d s 4 hs (by decide), d s 5 hs (by decide)]
      match s, hs with
      | 0, _ => simp; omega
      | 1, _ => simp; omega
      | 2, _ => simp; omega
      | 3, _ => simp; omega
      | 4, _ => simp; omega
      | 5, _ => simp; omega
    · have d : ∀ s, s < 6 → ¬ r4 n = zI s := fun s hs e => g ⟨s, hs, e⟩
      rw [if_neg (d 0 (by decide)), if_neg (d 1 (by decide)), if_neg (d 2 (by decide)), if_neg (d 3 (by decide)), if_neg (d 4 (by decide)), if_neg (d 5 (by decide))]
      omega
theorem wA_hc {r4 W : Nat → Int32} (hW : okW W) {n : Nat} (hn : n ≤ 12) (a b : Nat) : wA W a (bth r4 n a b) n ≤ 99 * (hcN r4 n a + hcN r4 n b) := by
  have e : ∀ k, k ≤ n → wA W a (bth r4 n a b) k ≤ 99 * (hcN r4 k a + hcN r4 k b) := by
    intro k
    induction k with
    | zero => intro _; exact Nat.zero_le _
    | succ k ih =>
      intro hk
      have i := ih (by omega)
      have e : ∀ s, hcN r4 (k + 1) s = if r4 k = zI s then hcN r4 k s + 1 else hcN r4 k s := fun s => rfl
      have w := ww_le hW a k
      rw [wA_s, bt_bth hn, e, e]
      by_cases g1 : r4 k = zI a
      · rw [if_pos g1]
        split <;> split <;> omega
      · rw [if_neg g1, decide_eq_false (fun e => g1 e.2), Bool.false_or]
        by_cases g2 : r4 k = zI b
        · rw [if_pos g2]
          split <;> omega
        · rw [if_neg g2, decide_eq_false (fun e => g2 e.2), if_neg (by decide)]
          exact i
  exact e n (Nat.le_refl _)
def tbF (h : Nat → Nat) (b : Nat) (a x : Nat) : Nat := x + (99 * (h a + h b) + 1)
def tb2 (h : Nat → Nat) (b a : Nat) : Nat := up (tbF h b) a (up (fun c x => up (tbF h c) c x) b 0)
theorem tb2_s (h : Nat → Nat) (b a : Nat) : tb2 h b (a + 1) = tb2 h b a + (99 * (h a + h b) + 1) := rfl
theorem tb2_n (h : Nat → Nat) (b : Nat) : tb2 h (b + 1) 0 = tb2 h b b := rfl
theorem tb2_lt {h : Nat → Nat} (hh : h 0 + h 1 + h 2 + h 3 + h 4 + h 5 ≤ 12) {b a : Nat} (hb : b < 6) (ha : a < b) : tb2 h b a + 99 * (h a + h b) < 5955 := by
  unfold tb2
  match b, hb with
  | 1, _ => match a, ha with
    | 0, _ => simp only [up, tbF]; omega
  | 2, _ => match a, ha with
    | 0, _ => simp only [up, tbF]; omega
    | 1, _ => simp only [up, tbF]; omega
  | 3, _ => match a, ha with
    | 0, _ => simp only [up, tbF]; omega
    | 1, _ => simp only [up, tbF]; omega
    | 2, _ => simp only [up, tbF]; omega
  | 4, _ => match a, ha with
    | 0, _ => simp only [up, tbF]; omega
    | 1, _ => simp only [up, tbF]; omega
    | 2, _ => simp only [up, tbF]; omega
    | 3, _ => simp only [up, tbF]; omega
  | 5, _ => match a, ha with
    | 0, _ => simp only [up, tbF]; omega
    | 1, _ => simp only [up, tbF]; omega
    | 2, _ => simp only [up, tbF]; omega
    | 3, _ => simp only [up, tbF]; omega
    | 4, _ => simp only [up, tbF]; omega
section S3
variable {X : (Nat → Int32) × Nat} {mo : Bool} {G : Nat × Nat} {I : Nat → Nat → Int32} {J : Nat → Nat → Int64} {Q : Option Value → sm_M → Prop}
theorem ct_149 {n a b x y T : Nat} (hn : n ≤ 12) (hT : T ≤ 5955) (hab : a < b) (hb : b < 6) (hW : okW (I 13)) (hx : x < 1000000) (hy : y < 1000000) (h : shP (I 4) (I 13) (I 49) (I 50) (I 143) n a b T) (hQ : ∀ z : Int32, (z = 1 ∧ cB (I 4) (I 13) n a b x y) ∨ (z = 0 ∧ ¬ cB (I 4) (I 13) n a b x y) → Q (some (.int z)) (sM true G I J)) : sm_wp X 149 0 [some (.ref 48), some (.int (zI a)), some (.int (zI b)), some (.int (zI x)), some (.int (zI y)), none, none] [] (sM true G I J) Q := by
  obtain ⟨F, e49, e50, hF, hv⟩ := h
  have p15 := pr2_lt hab hb
  have hR2 : wA (I 13) a (bth (I 4) n a b) 12 = wA (I 13) a (bth (I 4) n a b) n := by
    rw [show 12 = n + (12 - n) from by omega, wA_t (bth_hi hn a b)]
  generalize hR : wA (I 13) a (bth (I 4) n a b) n = R at *
  rw [bk_149_0, bk_147_0, pr2_z (by omega) hb]
  refine ⟨by decide, trivial, ?_⟩
  simp only [tl_some]
  rw [bk_149_5, if_neg (by rw [zIr_lt (c := 0) (by decide) (by omega)]; exact Nat.not_lt_zero _), if_neg (by rw [zI_le (by omega) (by omega)]; omega), if_neg (by rw [zIl_le (c := 15) (by decide) (by omega)]; show ¬ 15 ≤ pr2 a b; omega), if_neg (by rw [zIr_lt (c := 0) (by decide) (by omega)]; exact Nat.not_lt_zero _), zI_vp (by omega), zI_cn (by omega), e50]
  refine ⟨p15, ?_⟩
  by_cases g : x < R
  · rw [if_pos (by rw [zI_lt (by omega) (by omega)]; exact g), bk_149_40, zI_vp (by omega), zI_cn (by omega), e49, zI_add, show zI (F + x) + 1 = zI (F + (x + 1)) from zIr_add 1 _]
    refine ⟨p15, ?_⟩
    rw [if_neg (by rw [zIr_lt (c := 0) (by decide) (by omega)]; exact Nat.not_lt_zero _), if_neg (by rw [show Int32.ofNat 5955 = zI 5955 from rfl, zI_le (by omega) (by omega)]; omega), zI_vp (by omega), zI_cn (by omega)]
    refine ⟨by omega, ?_⟩
    have q := rv_lt (by omega) (hv (x + 1) g) hy
    by_cases g2 : I 143 (F + (x + 1)) ≤ zI y
    · rw [if_pos g2, bk_149_84]
      exact ⟨Or.inl rfl, hQ 0 (Or.inr ⟨rfl, fun c => q.mpr (cB_sfp.mp c) g2⟩)⟩
    · rw [if_neg g2, bk_149_85]
      exact ⟨Or.inr rfl, hQ 1 (Or.inl ⟨rfl, cB_sfp.mpr (q.mp g2)⟩)⟩
  · rw [if_neg (by rw [zI_lt (by omega) (by omega)]; exact g)]
    refine ⟨Or.inl rfl, hQ 0 (Or.inr ⟨rfl, ?_⟩)⟩
    rintro ⟨A, h1, h2, -⟩
    have := wA_m (W := I 13) (s := a) (k := 12) (fun l _ => h1 l)
    omega
end S3
