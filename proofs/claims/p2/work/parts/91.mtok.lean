/-! The reference's next token. -/
/-- a number, as the reference has it -/
def nuR (B : Nat → Nat) (q k : Nat) : Nat := up (fun i a => if 99999 < a then a else 10 * a + B (q + i) - 48) k 0
theorem nuR_s (B : Nat → Nat) (q k : Nat) : nuR B q (k + 1) = if 99999 < nuR B q k then nuR B q k else 10 * nuR B q k + B (q + k) - 48 := by
  unfold nuR
  rw [up_s]
theorem nuR_e {B : Nat → Nat} {q : Nat} : ∀ k, (∀ i, i < k → 48 ≤ B (q + i) ∧ B (q + i) ≤ 57) → nuR B q k ≤ 1000000 ∧ ((nuC B q k ≤ 99999 ∧ nuR B q k = nuC B q k) ∨ (nuC B q k = 100000 ∧ 99999 < nuR B q k)) := by
  intro k
  induction k with
  | zero => intro _; exact ⟨Nat.zero_le _, Or.inl ⟨Nat.zero_le _, rfl⟩⟩
  | succ k ih =>
    intro h
    obtain ⟨i1, i2⟩ := ih (fun i hi => h i (by omega))
    have hk := h k (by omega)
    rw [nuR_s, nuC_s]
    rcases i2 with ⟨a, b⟩ | ⟨a, b⟩
    · rw [b]
      rw [if_neg (show ¬ 99999 < nuC B q k by omega)]
      by_cases g : 100000 < nuC B q k * 10 + B (q + k) - 48
      · rw [if_pos g]; exact ⟨by omega, Or.inr ⟨rfl, by omega⟩⟩
      · rw [if_neg g]
        by_cases g2 : nuC B q k * 10 + B (q + k) - 48 ≤ 99999
        · exact ⟨by omega, Or.inl ⟨g2, by omega⟩⟩
        · exact ⟨by omega, Or.inr ⟨by omega, by omega⟩⟩
    · rw [if_pos b, a]
      rw [if_pos (show 100000 < 100000 * 10 + B (q + k) - 48 by omega)]
      exact ⟨i1, Or.inr ⟨rfl, b⟩⟩
theorem sp_in (P : Nat → Bool) : ∀ f q j, q ≤ j → j < sp P f q → P j = true := by
  intro f
  induction f with
  | zero => intro q j h1 h2; unfold sp at h2; omega
  | succ f ih =>
    intro q j h1 h2
    unfold sp at h2
    by_cases g : P q = true
    · rw [if_pos g] at h2
      by_cases e : j = q
      · rw [e]; exact g
      · exact ih (q + 1) j (by omega) h2
    · rw [if_neg g] at h2
      omega
section K4
variable {X : (Nat → Int32) × Nat} {mo : Bool} {G : Nat × Nat} {I : Nat → Nat → Int32} {J : Nat → Nat → Int64} {Q : Option Value → sm_M → Prop}
theorem byS {B : Nat → Nat} {n j : Nat} (hT : tpM B (I 82)) (h4 : I 81 20 = zI n) (hn : n ≤ 400) (hj : j ≤ n) : vc_Model_isSmall I (zI j) ∧ (vf_Model_isSmall I (zI j) ↔ (j < n ∧ isLt B j = true)) := by
  have hB := (hT j).1
  have e1 : ¬ I 81 20 ≤ zI j ↔ j < n := by rw [h4, zI_le (by omega) (by omega)]; omega
  have v : j < n → vp_in (zI j) 400 := fun g => by rw [zI_vp (by omega)]; omega
  refine ⟨fun g => ⟨v (e1.mp g), fun _ => v (e1.mp g)⟩, ?_⟩
  unfold vf_Model_isSmall isLt
  rw [e1, zI_cn (by omega), (hT j).2, Bool.and_eq_true, decide_eq_true_iff, decide_eq_true_iff, zIr_lt (c := 97) (by decide) (by omega), zIl_lt (c := 122) (by decide) (by omega)]
  show (j < n ∧ ¬ B j < 97 ∧ ¬ 122 < B j) ↔ _
  omega
theorem byD {B : Nat → Nat} {n j : Nat} (hT : tpM B (I 82)) (h4 : I 81 20 = zI n) (hn : n ≤ 400) (hj : j ≤ n) : vc_Model_isDigit I (zI j) ∧ (vf_Model_isDigit I (zI j) ↔ (j < n ∧ isDt B j = true)) := by
  have hB := (hT j).1
  have e1 : ¬ I 81 20 ≤ zI j ↔ j < n := by rw [h4, zI_le (by omega) (by omega)]; omega
  have v : j < n → vp_in (zI j) 400 := fun g => by rw [zI_vp (by omega)]; omega
  refine ⟨fun g => ⟨v (e1.mp g), fun _ => v (e1.mp g)⟩, ?_⟩
  unfold vf_Model_isDigit isDt
  rw [e1, zI_cn (by omega), (hT j).2, Bool.and_eq_true, decide_eq_true_iff, decide_eq_true_iff, zIr_lt (c := 48) (by decide) (by omega), zIl_lt (c := 57) (by decide) (by omega)]
  show (j < n ∧ ¬ B j < 48 ∧ ¬ 57 < B j) ↔ _
  omega
theorem mw_l {B : Nat → Nat} {n q : Nat} (hT : tpM B (I 82)) (hX : ivX (I 93)) (h4 : I 81 20 = zI n) (hn : n ≤ 400) (hq : I 81 24 = zI q) : ∀ f e, e + f = n → q ≤ e → ∀ K, (∀ c, c ≠ 81 → K c = I c) → (∀ j, j ≠ 21 → K 81 j = I 81 j) → K 81 21 = zI e → (∀ L, (∀ c, c ≠ 81 → L c = I c) → (∀ j, j ≠ 21 → j ≠ 22 → j ≠ 23 → L 81 j = I 81 j) → L 81 21 = zI (sp (isLt B) f e) → tkR B q (wcd B q (sp (isLt B) f e)) (sp (isLt B) f e) (L 81 22) (L 81 23) → Q none (sM mo G L J)) → sm_wp X 226 90 [some (.ref 81), none] [] (sM mo G K J) Q := by
  have word : ∀ e, q ≤ e → e ≤ n → ∀ K, (∀ c, c ≠ 81 → K c = I c) → (∀ j, j ≠ 21 → K 81 j = I 81 j) → K 81 21 = zI e → (∀ L, (∀ c, c ≠ 81 → L c = I c) → (∀ j, j ≠ 21 → j ≠ 22 → j ≠ 23 → L 81 j = I 81 j) → L 81 21 = zI e → tkR B q (wcd B q e) e (L 81 22) (L 81 23) → Q none (sM mo G L J)) → sm_wp X 228 0 [some (.ref 81), some (.int (K 81 24)), some (.int (K 81 21)), none, none, none, none, none] [] (sM mo G K J) (fun v M => sm_wp X 226 127 [some (.ref 81), none] (v.toList ++ [.ref 81]) M Q) := by
    intro e hqe hen K k1 kj k5 hQ
    rw [lp_228_0, kj 24 (by decide), hq, k5]
    have s := mw_2 (X := X) (mo := mo) (G := G) (I := K) (J := J) (Q := fun v M => sm_wp X 226 127 [some (.ref 81), none] (v.toList ++ [.ref 81]) M Q) (B := B) (q := q) (e := e) (by rw [k1 82 (by decide)]; exact hT) (by rw [k1 93 (by decide)]; exact hX) hqe (by omega) wR 0 0 ofR_R (by decide)
    refine s.mpr ?_
    simp only [tl_some]
    have w := wds (p := fun w => pB (mtc B q e w)) mtc_u
    rcases w with ⟨w1, w2⟩ | ⟨i, hi, w1, w2⟩
    · rw [w2, if_pos rfl, lp_226_127, if_neg (by decide)]
      refine hQ _ (fun c hc => by rw [up2_rn _ _ _ _ _ hc, up2_rn _ _ _ _ _ hc]; exact k1 c hc) (fun j a b d => by rw [up2_ra, va_ap, if_neg b, up2_ra, va_ap, if_neg d]; exact kj j a) (by simp (decide := true) only [up2_ra, up2_rn, va_ap, ne_eq, if_false, if_true, not_false_eq_true]; exact k5) ?_
      have e35 : wcd B q e = 35 := w1
      rw [e35]
      exact Or.inr (Or.inr (Or.inr (Or.inl ⟨rfl, by simp (decide := true) only [up2_ra, up2_rn, va_ap, ne_eq, if_false, if_true, not_false_eq_true]⟩)))
    · have pb : prm i < 19 := by
        have : ∀ i : Fin 19, prm i.val < 19 := by decide
        exact this ⟨i, hi⟩
      rw [w2, if_neg (by omega), lp_226_127, if_pos (by rw [zIl_le (c := 0) (by decide) (by omega)]; exact Nat.zero_le _)]
      refine hQ _ (fun c hc => by rw [up2_rn _ _ _ _ _ hc, up2_rn _ _ _ _ _ hc]; exact k1 c hc) (fun j a b d => by rw [up2_ra, va_ap, if_neg b, up2_ra, va_ap, if_neg d]; exact kj j a) (by simp (decide := true) only [up2_ra, up2_rn, va_ap, ne_eq, if_false, if_true, not_false_eq_true]; exact k5) ?_
      have ei : wcd B q e = i := w1
      rw [ei]
      exact Or.inr (Or.inl ⟨hi, by simp (decide := true) only [up2_ra, up2_rn, va_ap, ne_eq, if_false, if_true, not_false_eq_true], by simp (decide := true) only [up2_ra, up2_rn, va_ap, ne_eq, if_false, if_true, not_false_eq_true]⟩)
  intro f
  induction f with
  | zero =>
    intro e hf hqe K k1 kj k5 hQ
    have e4 : K 81 20 = zI n := by rw [kj 20 (by decide)]; exact h4
    have s := byS (I := K) (B := B) (j := e) (by rw [k1 82 (by decide)]; exact hT) e4 hn (by omega)
    rw [lp_226_90]
    have s1 : vc_Model_isSmall K (K 81 21) := by rw [k5]; exact s.1
    refine ⟨s1, ?_⟩
    rw [if_pos (by rw [k5]; exact fun c => by have := (s.2.mp c).1; omega)]
    exact word e hqe (by omega) K k1 kj k5 hQ
  | succ f ih =>
    intro e hf hqe K k1 kj k5 hQ
    have e4 : K 81 20 = zI n := by rw [kj 20 (by decide)]; exact h4
    have s := byS (I := K) (B := B) (j := e) (by rw [k1 82 (by decide)]; exact hT) e4 hn (by omega)
    have un : sp (isLt B) (f + 1) e = if isLt B e = true then sp (isLt B) f (e + 1) else e := rfl
    rw [lp_226_90]
    have s1 : vc_Model_isSmall K (K 81 21) := by rw [k5]; exact s.1
    refine ⟨s1, ?_⟩
    by_cases g : isLt B e = true
    · rw [if_pos g] at un
      rw [un] at hQ
      rw [if_neg (by rw [k5]; exact fun c => c (s.2.mpr ⟨by omega, g⟩)), k5, show zI e + 1 = zI (e + 1) from zIr_add 1 e]
      exact ih (e + 1) (by omega) (by omega) _ (fun c hc => by rw [up2_rn _ _ _ _ _ hc]; exact k1 c hc) (fun j hj => by rw [up2_ra, va_ap, if_neg hj]; exact kj j hj) up2_ss hQ
    · rw [if_neg g] at un
      rw [un] at hQ
      rw [if_pos (by rw [k5]; exact fun c => g (s.2.mp c).2)]
      exact word e hqe (by omega) K k1 kj k5 hQ
theorem mn_l {B : Nat → Nat} {n q : Nat} (hT : tpM B (I 82)) (h4 : I 81 20 = zI n) (hn : n ≤ 400) : ∀ f k, q + k + f = n → (∀ i, i < k → isDt B (q + i) = true) → ∀ K, (∀ c, c ≠ 81 → K c = I c) → (∀ j, j ≠ 21 → j ≠ 23 → K 81 j = I 81 j) → K 81 21 = zI (q + k) → K 81 23 = zI (nuR B q k) → (∀ L, (∀ c, c ≠ 81 → L c = I c) → (∀ j, j ≠ 21 → j ≠ 23 → L 81 j = I 81 j) → L 81 21 = zI (sp (isDt B) f (q + k)) → L 81 23 = zI (nuR B q (sp (isDt B) f (q + k) - q)) → Q none (sM mo G L J)) → sm_wp X 226 170 [some (.ref 81), none] [] (sM mo G K J) Q := by
  intro f
  have dg' : ∀ j, isDt B j = true → 48 ≤ B j ∧ B j ≤ 57 := fun j g => by
    unfold isDt at g
    rw [Bool.and_eq_true, decide_eq_true_iff, decide_eq_true_iff] at g
    exact g
  induction f with
  | zero =>
    intro k hf hd K k1 kj k5 kn hQ
    have e4 : K 81 20 = zI n := by rw [kj 20 (by decide) (by decide)]; exact h4
    have s := byD (I := K) (B := B) (j := q + k) (by rw [k1 82 (by decide)]; exact hT) e4 hn (by omega)
    rw [lp_226_170]
    have s1 : vc_Model_isDigit K (K 81 21) := by rw [k5]; exact s.1
    refine ⟨s1, ?_⟩
    rw [if_pos (by rw [k5]; exact fun c => by have := (s.2.mp c).1; omega)]
    refine hQ K k1 kj k5 ?_
    show K 81 23 = zI (nuR B q (q + k - q))
    rw [Nat.add_sub_cancel_left]
    exact kn
  | succ f ih =>
    intro k hf hd K k1 kj k5 kn hQ
    have e4 : K 81 20 = zI n := by rw [kj 20 (by decide) (by decide)]; exact h4
    have s := byD (I := K) (B := B) (j := q + k) (by rw [k1 82 (by decide)]; exact hT) e4 hn (by omega)
    have un : sp (isDt B) (f + 1) (q + k) = if isDt B (q + k) = true then sp (isDt B) f (q + k + 1) else q + k := rfl
    rw [lp_226_170]
    have s1 : vc_Model_isDigit K (K 81 21) := by rw [k5]; exact s.1
    refine ⟨s1, ?_⟩
    by_cases g : isDt B (q + k) = true
    · have dd := dg' _ g
      have nb := (nuR_e (B := B) (q := q) k (fun i hi => dg' _ (hd i hi))).1
      rw [if_pos g] at un
      rw [un] at hQ
      have nx : ∀ v : Nat, zI v = zI (nuR B q (k + 1)) → sm_wp X 226 170 [some (.ref 81), none] [] (sM mo G (up2 (up2 K 81 23 (zI v)) 81 21 (zI (q + (k + 1)))) J) Q := by
        intro v hv
        refine ih (k + 1) (by omega) (fun i hi => ?_) _ (fun c hc => by rw [up2_rn _ _ _ _ _ hc, up2_rn _ _ _ _ _ hc]; exact k1 c hc) (fun j a b => by rw [up2_ra, va_ap, if_neg a, up2_ra, va_ap, if_neg b]; exact kj j a b) up2_ss (by rw [up2_ra, va_ap, if_neg (by decide), up2_ra, va_ap, if_pos rfl]; exact hv) hQ
        by_cases e : i = k
        · rw [e]; exact g
        · exact hd i (by omega)
      rw [if_neg (by rw [k5]; exact fun c => c (s.2.mpr ⟨by omega, g⟩)), kn, k5, zI_vp (by omega), zI_cn (by omega), k1 82 (by decide), (hT (q + k)).2, show zI (q + k) + 1 = zI (q + (k + 1)) from zIr_add 1 _]
      by_cases c1 : nuR B q k ≤ 99999
      · rw [if_pos (by rw [zIr_le (c := 99999) (by decide) (by omega)]; exact c1), show (10 : Int32) * zI (nuR B q k) = zI (10 * nuR B q k) from zIl_mul 10 _, zI_add, show zI (10 * nuR B q k + B (q + k)) - 48 = zI (10 * nuR B q k + B (q + k) - 48) from zIr_sub (c := 48) (by show 48 ≤ 10 * nuR B q k + B (q + k); omega)]
        exact ⟨by omega, nx _ (by rw [nuR_s, if_neg (by omega)])⟩
      · rw [if_neg (by rw [zIr_le (c := 99999) (by decide) (by omega)]; exact c1)]
        exact nx _ (by rw [nuR_s, if_pos (by omega)])
    · rw [if_neg g] at un
      rw [un, Nat.add_sub_cancel_left] at hQ
      rw [if_pos (by rw [k5]; exact fun c => g (s.2.mp c).2)]
      exact hQ K k1 kj k5 kn
theorem mk_1 {B : Nat → Nat} {n q : Nat} (hT : tpM B (I 82)) (hX : ivX (I 93)) (h4 : I 81 20 = zI n) (hn : n ≤ 400) (h5 : I 81 21 = zI q) (hq : q < n) (hnb : ¬ isBl B q = true) (hQ : ∀ L, tkM B n q I L → Q none (sM mo G L J)) :
    sm_wp X 226 0 [some (.ref 81), none] [] (sM mo G I J) Q := by
  have hB := (hT q).1
  have nbl : ¬ B q = 10 ∧ ¬ B q = 32 := by
    unfold isBl at hnb
    rw [Bool.or_eq_true, decide_eq_true_iff, decide_eq_true_iff] at hnb
    exact ⟨fun e => hnb (Or.inl e), fun e => hnb (Or.inr e)⟩
  rw [lp_226_0, if_neg (by rw [h4, h5, zI_le (by omega) (by omega)]; omega), h5, zI_vp (by omega)]
  refine ⟨by omega, ?_⟩
  rw [if_neg (by rw [zI_cn (by omega), (hT q).2, zIr_eq (c := 10) (by decide) (by omega)]; exact nbl.1), if_pos (by rw [zI_cn (by omega), (hT q).2, zIr_eq (c := 32) (by decide) (by omega)]; exact nbl.2), if_pos (by rw [h4, zI_eq (by omega) (by omega)]; omega)]
  generalize hM : up2 I 81 24 (zI q) = M0
  have a1 : ∀ c, c ≠ 81 → M0 c = I c := fun c hc => by rw [← hM, up2_rn _ _ _ _ _ hc]
  have aj : ∀ j, j ≠ 24 → M0 81 j = I 81 j := fun j hj => by rw [← hM, up2_ra, va_ap, if_neg hj]
  have a24 : M0 81 24 = zI q := by rw [← hM]; exact up2_ss
  have T0 : tpM B (M0 82) := by rw [a1 82 (by decide)]; exact hT
  have e4 : M0 81 20 = zI n := by rw [aj 20 (by decide)]; exact h4
  have un : tkN B n q = if isLt B q = true then (wcd B q (sp (isLt B) (n - q) q), sp (isLt B) (n - q) q) else if isDt B q = true then (36, sp (isDt B) (n - q) q) else ((sgC (B q) (nxB B n q)).1, q + (sgC (B q) (nxB B n q)).2) := by
    unfold tkN
    rw [if_neg (by omega)]
  have sS := byS (I := M0) T0 e4 hn (show q ≤ n by omega)
  have sD := byD (I := M0) T0 e4 hn (show q ≤ n by omega)
  refine ⟨sS.1, ?_⟩
  by_cases gl : isLt B q = true
  · rw [if_pos gl] at un
    rw [if_neg (fun c => c (sS.2.mpr ⟨hq, gl⟩))]
    refine mw_l (I := M0) (B := B) (n := n) (q := q) T0 (by rw [a1 93 (by decide)]; exact hX) e4 hn a24 (n - q) q (by omega) (Nat.le_refl _) M0 (fun _ _ => rfl) (fun _ _ => rfl) (by rw [aj 21 (by decide)]; exact h5) ?_
    intro L l1 lj l5 lR
    refine hQ L ⟨fun c hc => (l1 c hc).trans (a1 c hc), fun j b1 b2 b3 b4 => (lj j b1 b2 b3).trans (aj j b4), (lj 24 (by decide) (by decide) (by decide)).trans a24, by rw [un]; exact l5, by rw [un]; exact lR⟩
  · rw [if_neg gl] at un
    rw [if_pos (fun c => gl (sS.2.mp c).2)]
    refine ⟨sD.1, ?_⟩
    by_cases gd : isDt B q = true
    · rw [if_pos gd] at un
      rw [if_neg (fun c => c (sD.2.mpr ⟨hq, gd⟩))]
      refine mn_l (I := up2 M0 81 22 2) (B := B) (n := n) (q := q) (by rw [up2_rn _ _ _ _ _ (by decide)]; exact T0) (by rw [up2_ra, va_ap, if_neg (by decide)]; exact e4) hn (n - q) 0 (by omega) (fun i hi => absurd hi (Nat.not_lt_zero _)) _ (fun c hc => by rw [up2_rn _ _ _ _ _ hc]) (fun j a b => by rw [up2_ra, va_ap, if_neg b]) (by rw [up2_ra, va_ap, if_neg (by decide), up2_ra, va_ap, if_neg (by decide), aj 21 (by decide)]; exact h5) up2_ss ?_
      intro L l1 lj l5 l2
      have ls := sp_b (isDt B) (n - q) q
      have ne := nuR_e (B := B) (q := q) (sp (isDt B) (n - q) q - q) (fun i hi => by
        have g := sp_in (isDt B) (n - q) q (q + i) (by omega) (by omega)
        unfold isDt at g
        rw [Bool.and_eq_true, decide_eq_true_iff, decide_eq_true_iff] at g
        exact g)
      refine hQ L ⟨fun c hc => ((l1 c hc).trans (up2_rn _ _ _ _ _ hc)).trans (a1 c hc), fun j b1 b2 b3 b4 => by rw [lj j b1 b3, up2_ra, va_ap, if_neg b2]; exact aj j b4, by rw [lj 24 (by decide) (by decide), up2_ra, va_ap, if_neg (by decide)]; exact a24, by rw [un]; exact l5, ?_⟩
      rw [un]
      refine Or.inr (Or.inr (Or.inr (Or.inr ⟨rfl, by rw [lj 22 (by decide) (by decide)]; exact up2_ss, ?_⟩)))
      have l2' : L 81 23 = zI (nuR B q (sp (isDt B) (n - q) q - q)) := l2
      rw [l2']
      rcases ne.2 with ⟨c1, c2⟩ | ⟨c1, c2⟩
      · exact Or.inl ⟨c1, by rw [c2]⟩
      · refine Or.inr ⟨?_, by rw [zIr_le (c := 99999) (by decide) (by have := ne.1; omega)]; show ¬ nuR B q (sp (isDt B) (n - q) q - q) ≤ 99999; omega⟩
        show 99999 < nuC B q (sp (isDt B) (n - q) q - q)
        omega
    · rw [if_neg gd] at un
      rw [if_pos (fun c => gd (sD.2.mp c).2), zI_cn (by omega), (hT q).2, show zI q + 1 = zI (q + 1) from zIr_add 1 q, show zI (q + 1) + 1 = zI (q + 2) from zIr_add 1 _]
      generalize hM1 : up2 M0 81 21 (zI (q + 1)) = M1
      have m1 : ∀ c, c ≠ 81 → M1 c = M0 c := fun c hc => by rw [← hM1, up2_rn _ _ _ _ _ hc]
      have mj : ∀ j, j ≠ 21 → M1 81 j = M0 81 j := fun j b => by rw [← hM1, up2_ra, va_ap, if_neg b]
      have m21 : M1 81 21 = zI (q + 1) := by rw [← hM1]; exact up2_ss
      have at1 : ∀ d, d < 256 → 0 < d → (vf_Model_isAt M1 (M1 81 21) (zI d) ↔ nxB B n q = d) := by
        intro d hd d0
        unfold vf_Model_isAt nxB
        rw [m21, mj 20 (by decide), e4, zI_le (by omega) (by omega), zI_cn (by omega), m1 82 (by decide), (T0 (q + 1)).2, zI_eq (by have := (T0 (q + 1)).1; omega) (by omega)]
        by_cases g : q + 1 < n
        · rw [if_pos g]
          exact ⟨fun e => e.2, fun e => ⟨by omega, e⟩⟩
        · rw [if_neg g]
          exact ⟨fun e => absurd e.1 (by omega), fun e => absurd e (by omega)⟩
      have vc : vc_Model_signOf M1 (zI (B q)) := by
        have va : ∀ y, vc_Model_isAt M1 (M1 81 21) y := fun y h => by
          rw [m21, zI_vp (by omega)]
          rw [m21, mj 20 (by decide), e4, zI_le (by omega) (by omega)] at h
          omega
        exact ⟨fun _ _ => va _, fun _ => ⟨va _, fun _ => va _⟩⟩
      refine ⟨vc, ?_⟩
      have fin : ∀ kd : Int32, ∀ l, ∀ L : Nat → Nat → Int32, (∀ d, d ≠ 81 → L d = M0 d) → (∀ j, j ≠ 21 → j ≠ 22 → j ≠ 23 → L 81 j = M0 81 j) → L 81 21 = zI (q + l) → (sgC (B q) (nxB B n q)).2 = l → tkR B q (sgC (B q) (nxB B n q)).1 (q + l) (L 81 22) (L 81 23) → Q none (sM mo G L J) := by
        intro kd l L b1 b2 b3 b4 b5
        refine hQ L ⟨fun c hc => (b1 c hc).trans (a1 c hc), fun j d1 d2 d3 d4 => (b2 j d1 d2 d3).trans (aj j d4), (b2 24 (by decide) (by decide) (by decide)).trans a24, by rw [un, b4]; exact b3, by rw [un, b4]; exact b5⟩
      rcases sg_rel (M := M1) hB (at1 61 (by decide) (by decide)) (at1 62 (by decide) (by decide)) with ⟨v1, v2⟩ | ⟨t, l, v2, t1, t2, v1, v3⟩
      · rw [v1, if_neg (by decide), if_neg (by decide), if_neg (by decide), if_pos (by decide)]
        refine fin 4 1 _ (fun d hd => by rw [up2_rn _ _ _ _ _ hd, up2_rn _ _ _ _ _ hd]; exact m1 d hd) (fun j b c d => by rw [up2_ra, va_ap, if_neg c, up2_ra, va_ap, if_neg d]; exact mj j b) (by simp (decide := true) only [up2_ra, up2_rn, va_ap, ne_eq, if_false, if_true, not_false_eq_true]; exact m21) (by rw [v2]) ?_
        rw [v2]
        exact Or.inr (Or.inr (Or.inr (Or.inl ⟨rfl, by simp (decide := true) only [up2_ra, up2_rn, va_ap, ne_eq, if_false, if_true, not_false_eq_true]⟩)))
      · have sb : sgW t < 100 := by
          unfold sgW
          split
          · omega
          · split
            · omega
            · split
              · omega
              · split <;> omega
        rw [v1, if_pos (by rw [zIl_le (c := 0) (by decide) (by omega)]; exact Nat.zero_le _)]
        rcases v3 with ⟨rfl, v3⟩ | ⟨rfl, v4, v5, v6⟩
        · have two : Q none (sM mo G (up2 (up2 (up2 M1 81 23 (zI (sgW t))) 81 22 3) 81 21 (zI (q + 2))) J) := by
            refine fin 3 2 _ (fun d hd => by rw [up2_rn _ _ _ _ _ hd, up2_rn _ _ _ _ _ hd, up2_rn _ _ _ _ _ hd]; exact m1 d hd) (fun j b c d => by rw [up2_ra, va_ap, if_neg b, up2_ra, va_ap, if_neg c, up2_ra, va_ap, if_neg d]; exact mj j b) (by simp (decide := true) only [up2_ra, up2_rn, va_ap, ne_eq, if_false, if_true, not_false_eq_true]) (by rw [v2]) ?_
            rw [v2]
            exact Or.inr (Or.inr (Or.inl ⟨t1, t2, by simp (decide := true) only [up2_ra, up2_rn, va_ap, ne_eq, if_false, if_true, not_false_eq_true], by simp (decide := true) only [up2_ra, up2_rn, va_ap, ne_eq, if_false, if_true, not_false_eq_true]⟩))
          rcases v3 with e | e | e
          · rw [if_pos (by rw [e]; rfl)]; exact two
          · rw [if_neg (by rw [e]; decide), if_pos (by rw [e]; rfl)]; exact two
          · rw [if_neg (by rw [e]; decide), if_neg (by rw [e]; decide), if_neg (by rw [e]; exact fun x => x rfl)]; exact two
        · rw [if_neg (by rw [zIr_eq (c := 2) (by decide) (by omega)]; exact v4), if_neg (by rw [zIr_eq (c := 4) (by decide) (by omega)]; exact v5), if_pos (by rw [zIr_eq (c := 5) (by decide) (by omega)]; exact v6)]
          refine fin 3 1 _ (fun d hd => by rw [up2_rn _ _ _ _ _ hd, up2_rn _ _ _ _ _ hd]; exact m1 d hd) (fun j b c d => by rw [up2_ra, va_ap, if_neg c, up2_ra, va_ap, if_neg d]; exact mj j b) (by simp (decide := true) only [up2_ra, up2_rn, va_ap, ne_eq, if_false, if_true, not_false_eq_true]; exact m21) (by rw [v2]) ?_
          rw [v2]
          exact Or.inr (Or.inr (Or.inl ⟨t1, t2, by simp (decide := true) only [up2_ra, up2_rn, va_ap, ne_eq, if_false, if_true, not_false_eq_true], by simp (decide := true) only [up2_ra, up2_rn, va_ap, ne_eq, if_false, if_true, not_false_eq_true]⟩))
theorem ct_226 {B : Nat → Nat} {n : Nat} (hT : tpM B (I 82)) (hX : ivX (I 93)) (h4 : I 81 20 = zI n) (hn : n ≤ 400) : ∀ f p, p + f = n → ∀ K, (∀ c, c ≠ 81 → K c = I c) → (∀ j, j ≠ 21 → K 81 j = I 81 j) → K 81 21 = zI p → (∀ L, tkM B n (sp (isBl B) f p) I L → Q none (sM mo G L J)) → sm_wp X 226 0 [some (.ref 81), none] [] (sM mo G K J) Q := by
  intro f
  induction f with
  | zero =>
    intro p hf K k1 kj k5 hQ
    have e4 : K 81 20 = zI n := by rw [kj 20 (by decide)]; exact h4
    have un : tkN B n p = (34, p) := by unfold tkN; rw [if_pos (by omega)]
    rw [lp_226_0, if_pos (by rw [e4, k5, zI_le (by omega) (by omega)]; omega), if_neg (by rw [e4, k5, show p = n from by omega]; exact fun e => e rfl)]
    refine hQ _ ⟨fun c hc => by rw [up2_rn _ _ _ _ _ hc, up2_rn _ _ _ _ _ hc]; exact k1 c hc, fun j b1 b2 b3 b4 => by rw [up2_ra, va_ap, if_neg b2, up2_ra, va_ap, if_neg b4]; exact kj j b1, ?_, ?_, ?_⟩
    · simp (decide := true) only [up2_ra, up2_rn, va_ap, ne_eq, if_false, if_true, not_false_eq_true]; exact k5
    · show _ = zI (tkN B n p).2
      rw [un]; simp (decide := true) only [up2_ra, up2_rn, va_ap, ne_eq, if_false, if_true, not_false_eq_true]; exact k5
    · show tkR B p (tkN B n p).1 (tkN B n p).2 _ _
      rw [un]
      exact Or.inl ⟨rfl, by simp (decide := true) only [up2_ra, up2_rn, va_ap, ne_eq, if_false, if_true, not_false_eq_true]⟩
  | succ f ih =>
    intro p hf K k1 kj k5 hQ
    have e4 : K 81 20 = zI n := by rw [kj 20 (by decide)]; exact h4
    have T : tpM B (K 82) := by rw [k1 82 (by decide)]; exact hT
    have hB := (T p).1
    have un : sp (isBl B) (f + 1) p = if isBl B p = true then sp (isBl B) f (p + 1) else p := rfl
    by_cases g : isBl B p = true
    · rw [if_pos g] at un
      rw [un] at hQ
      have go : sm_wp X 226 0 [some (.ref 81), none] [] (sM mo G (up2 K 81 21 (zI p + 1)) J) Q := by
        rw [show zI p + 1 = zI (p + 1) from zIr_add 1 p]
        exact ih (p + 1) (by omega) _ (fun c hc => by rw [up2_rn _ _ _ _ _ hc]; exact k1 c hc) (fun j hj => by rw [up2_ra, va_ap, if_neg hj]; exact kj j hj) up2_ss hQ
      rw [lp_226_0, if_neg (by rw [e4, k5, zI_le (by omega) (by omega)]; omega), k5, zI_vp (by omega)]
      refine ⟨by omega, ?_⟩
      unfold isBl at g
      rw [Bool.or_eq_true, decide_eq_true_iff, decide_eq_true_iff] at g
      by_cases g1 : B p = 10
      · rw [if_pos (by rw [zI_cn (by omega), (T p).2, g1]; rfl)]; exact go
      · rw [if_neg (by rw [zI_cn (by omega), (T p).2, zIr_eq (c := 10) (by decide) (by omega)]; exact g1), if_neg (fun e => e (by rw [zI_cn (by omega), (T p).2, g.resolve_left g1]; rfl))]
        exact go
    · rw [if_neg g] at un
      rw [un] at hQ
      refine mk_1 T (by rw [k1 93 (by decide)]; exact hX) e4 hn k5 (by omega) g (fun L hL => hQ L ?_)
      obtain ⟨l1, l2, l3, l4, l5⟩ := hL
      exact ⟨fun c hc => (l1 c hc).trans (k1 c hc), fun j b1 b2 b3 b4 => (l2 j b1 b2 b3 b4).trans (kj j b1), l3, l4, l5⟩
end K4
