/-! Orders: what holds while they are read, without any memory. -/
def nprx (sg : Nat → Nat) (j : Nat) : Bool := decide (¬ sg j = 30)
def par (sg : Nat → Nat) (j : Nat) : Bool := decide (sg j = 30)
def bnr (sg : Nat → Nat) (j : Nat) : Bool := decide (¬ sg j = 30 ∧ ar (sg j) = 2)
def vsg (s : Nat) : Prop := s = 30 ∨ s = 33 ∨ s = 4 ∨ s = 5 ∨ s = 6 ∨ (19 ≤ s ∧ s ≤ 29)
def on (d : Nat) : Nat := if d = 0 then 0 else 1
theorem on_1 {d : Nat} (h : ¬ d = 0) : on d = 1 := if_neg h
def lnO (c le : Nat → Nat) (z i : Nat) : Prop := ls le i ≤ le i ∧ le i ≤ z ∧ pL c (ls le i) (le i) ∧ hg c (ls le i) (le i - ls le i) = 1
def pW (m z w d kn o : Nat) (c sg vb le : Nat → Nat) : Prop := (m + on d ≤ 16 ∧ z + cN (nprx sg) w = kn ∧ kn ≤ 64 ∧ cN (par sg) w = o ∧ o ≤ 8 ∧ d ≤ 3) ∧ ((∀ j, j < w → vsg (sg j)) ∧ (∀ i, i < z → vcd (c i)) ∧ (∀ i, i < m + on d → vb i ≤ 3)) ∧ (∀ i, i < m → lnO c le z i) ∧ ls le m ≤ z ∧
  (d = 0 → w = 0 ∧ z = ls le m) ∧ (¬ d = 0 → pL c (ls le m) z ∧ hg c (ls le m) (z - ls le m) = cN (bnr sg) w + (if d = 3 then 1 else 0))
theorem hg_s (c : Nat → Nat) (f k : Nat) : hg c f (k + 1) = hg c f k - ar (c (f + k)) + 1 := rfl
theorem hs_s (c gb : Nat → Nat) (f k : Nat) : hs c gb f (k + 1) = va_up (hs c gb f k) (hg c f k - ar (c (f + k))) (gb (f + k)) := rfl
theorem hg_c {c c' : Nat → Nat} {f : Nat} : ∀ k, (∀ i, f ≤ i → i < f + k → c i = c' i) → hg c f k = hg c' f k := by
  intro k
  induction k with
  | zero => exact fun _ => rfl
  | succ k ih => intro h; rw [hg_s, hg_s, ih (fun i a b => h i a (by omega)), h (f + k) (by omega) (by omega)]
theorem hs_c {c c' g g' : Nat → Nat} {f : Nat} : ∀ k, (∀ i, f ≤ i → i < f + k → c i = c' i ∧ g i = g' i) → hs c g f k = hs c' g' f k := by
  intro k
  induction k with
  | zero => exact fun _ => rfl
  | succ k ih => intro h; rw [hs_s, hs_s, ih (fun i a b => h i a (by omega)), hg_c k (fun i a b => (h i a (by omega)).1), (h (f + k) (by omega) (by omega)).1, (h (f + k) (by omega) (by omega)).2]
theorem hg_b (c : Nat → Nat) (f : Nat) : ∀ k, hg c f k ≤ k := by
  intro k
  induction k with
  | zero => exact Nat.le_refl _
  | succ k ih => rw [hg_s]; omega
theorem hs_b {c gb : Nat → Nat} {f b : Nat} : ∀ k, (∀ i, i < k → gb (f + i) < b) → ∀ j, j < hg c f k → hs c gb f k j < b := by
  intro k
  induction k with
  | zero => intro _ j hj; exact absurd hj (Nat.not_lt_zero _)
  | succ k ih =>
    intro h j hj
    rw [hg_s] at hj
    rw [hs_s]
    unfold va_up
    by_cases e : j = hg c f k - ar (c (f + k))
    · rw [if_pos e]; exact h k (by omega)
    · rw [if_neg e]; exact ih (fun i hi => h i (by omega)) j (by omega)
theorem pL_c {c c' : Nat → Nat} {f e : Nat} (h : ∀ i, f ≤ i → i < e → c i = c' i) (p : pL c f e) : pL c' f e := by
  intro k hk
  rw [← h (f + k) (by omega) hk, ← hg_c (c := c) k (fun i a b => h i a (by omega))]
  exact p k hk
theorem pL_s {c : Nat → Nat} {f z x : Nat} (hf : f ≤ z) (p : pL c f z) (hx : ar x ≤ hg c f (z - f)) : pL (va_up c z x) f (z + 1) := by
  intro k hk
  have g : hg (va_up c z x) f k = hg c f k := hg_c k (fun i a b => by unfold va_up; rw [if_neg (by omega)])
  rw [g]
  by_cases e : f + k = z
  · have : k = z - f := by omega
    unfold va_up
    rw [if_pos e, this]
    exact hx
  · unfold va_up
    rw [if_neg e]
    exact p k (by omega)
theorem hg_x {c : Nat → Nat} {f z x : Nat} (hf : f ≤ z) : hg (va_up c z x) f (z + 1 - f) = hg c f (z - f) - ar x + 1 := by
  rw [show z + 1 - f = (z - f) + 1 from by omega, hg_s, show f + (z - f) = z from by omega, hg_c (c' := c) (z - f) (fun i a b => by unfold va_up; rw [if_neg (by omega)])]
  unfold va_up
  rw [if_pos rfl]
theorem hs_x {c gb : Nat → Nat} {f z x g : Nat} (hf : f ≤ z) : hs (va_up c z x) (va_up gb z g) f (z + 1 - f) = va_up (hs c gb f (z - f)) (hg c f (z - f) - ar x) g := by
  rw [show z + 1 - f = (z - f) + 1 from by omega, hs_s, show f + (z - f) = z from by omega, hg_c (c' := c) (z - f) (fun i a b => by unfold va_up; rw [if_neg (by omega)]), hs_c (c' := c) (g' := gb) (z - f) (fun i a b => by unfold va_up; rw [if_neg (by omega), if_neg (by omega)]; exact ⟨rfl, rfl⟩)]
  have e1 : va_up c z x z = x := by unfold va_up; rw [if_pos rfl]
  have e2 : va_up gb z g z = g := by unfold va_up; rw [if_pos rfl]
  rw [e1, e2]
theorem lnO_c {c c' le le' : Nat → Nat} {z z' i : Nat} (hc : ∀ j, j < z → c j = c' j) (hl : ∀ j, j ≤ i → le j = le' j) (hz : z ≤ z') (h : lnO c le z i) : lnO c' le' z' i := by
  obtain ⟨a, b, p, q⟩ := h
  have e : ls le' i = ls le i := by
    unfold ls
    split
    · rfl
    · exact (hl (i - 1) (by omega)).symm
  unfold lnO
  rw [e, ← hl i (Nat.le_refl _)]
  refine ⟨a, by omega, pL_c (fun j _ hj => hc j (by omega)) p, ?_⟩
  rw [← hg_c (c := c) _ (fun j _ hj => hc j (by omega))]
  exact q
theorem cN_va {P R : Nat → Bool} {w : Nat} (h : ∀ l, l < w → P l = R l) : cN P w = cN R w := cN_congr h
theorem npr_u (sg : Nat → Nat) (w x : Nat) : cN (nprx (va_up sg w x)) w = cN (nprx sg) w := cN_congr (fun l hl => by unfold nprx va_up; rw [if_neg (by omega)])
theorem par_u (sg : Nat → Nat) (w x : Nat) : cN (par (va_up sg w x)) w = cN (par sg) w := cN_congr (fun l hl => by unfold par va_up; rw [if_neg (by omega)])
theorem bnr_u (sg : Nat → Nat) (w x : Nat) : cN (bnr (va_up sg w x)) w = cN (bnr sg) w := cN_congr (fun l hl => by unfold bnr va_up; rw [if_neg (by omega)])
theorem np_w (sg : Nat → Nat) : ∀ w, cN (nprx sg) w + cN (par sg) w = w := by
  intro w
  induction w with
  | zero => rfl
  | succ w ih =>
    by_cases g : sg w = 30
    · rw [cN_q (P := nprx sg) (by unfold nprx; rw [decide_eq_true_iff]; exact fun e => e g), cN_p (P := par sg) (by unfold par; rw [decide_eq_true_iff]; exact g)]; omega
    · rw [cN_p (P := nprx sg) (by unfold nprx; rw [decide_eq_true_iff]; exact g), cN_q (P := par sg) (by unfold par; rw [decide_eq_true_iff]; exact g)]; omega
theorem npr_s {sg : Nat → Nat} {w : Nat} : cN (nprx sg) (w + 1) = cN (nprx sg) w + (if sg w = 30 then 0 else 1) := by
  by_cases g : sg w = 30
  · rw [if_pos g, cN_q (P := nprx sg) (by unfold nprx; rw [decide_eq_true_iff]; exact fun e => e g)]; rfl
  · rw [if_neg g, cN_p (P := nprx sg) (by unfold nprx; rw [decide_eq_true_iff]; exact g)]
theorem par_s {sg : Nat → Nat} {w : Nat} : cN (par sg) (w + 1) = cN (par sg) w + (if sg w = 30 then 1 else 0) := by
  by_cases g : sg w = 30
  · rw [if_pos g, cN_p (P := par sg) (by unfold par; rw [decide_eq_true_iff]; exact g)]
  · rw [if_neg g, cN_q (P := par sg) (by unfold par; rw [decide_eq_true_iff]; exact g)]; rfl
theorem bnr_s {sg : Nat → Nat} {w : Nat} : cN (bnr sg) (w + 1) = cN (bnr sg) w + (if ¬ sg w = 30 ∧ ar (sg w) = 2 then 1 else 0) := by
  by_cases g : ¬ sg w = 30 ∧ ar (sg w) = 2
  · rw [if_pos g, cN_p (P := bnr sg) (by unfold bnr; rw [decide_eq_true_iff]; exact g)]
  · rw [if_neg g, cN_q (P := bnr sg) (by unfold bnr; rw [decide_eq_true_iff]; exact g)]; rfl
theorem va_s (f : Nat → Nat) (k v : Nat) : va_up f k v k = v := if_pos rfl
theorem va_n (f : Nat → Nat) {k j : Nat} (v : Nat) (h : ¬ j = k) : va_up f k v j = f j := if_neg h
/-- an operand -/
theorem pW_o {m z w d kn o x : Nat} {c sg vb le : Nat → Nat} (h : pW m z w d kn o c sg vb le) (hd : d = 1 ∨ d = 2) (hk : kn < 64) (hx : vcd x) (ha : ar x = 0) : pW m (z + 1) w 3 (kn + 1) o (va_up c z x) sg vb le := by
  obtain ⟨⟨h1, h2, h3, h4, h5, h6⟩, ⟨s1, s2, s3⟩, hl, hz, h0, hn⟩ := h
  obtain ⟨n1, n2⟩ := hn (by omega)
  have od : on d = 1 := on_1 (by omega)
  rw [od] at h1 s3
  refine ⟨⟨by rw [on_1 (by omega)]; exact h1, by omega, by omega, h4, h5, by omega⟩, ⟨s1, fun i hi => ?_, by rw [on_1 (by omega)]; exact s3⟩, fun i hi => lnO_c (fun j hj => (va_n c x (by omega)).symm) (fun _ _ => rfl) (by omega) (hl i hi), by omega, fun e => by omega, fun _ => ⟨pL_s hz n1 (by omega), ?_⟩⟩
  · by_cases e : i = z
    · rw [e, va_s]; exact hx
    · rw [va_n _ _ e]; exact s2 i (by omega)
  · rw [hg_x hz, n2, ha, if_pos rfl, if_neg (by omega)]; omega
/-- a sign that waits: before an operand, or an open parenthesis -/
theorem pW_u {m z w d kn o x d' kn' o' : Nat} {c sg vb le : Nat → Nat} (h : pW m z w d kn o c sg vb le) (hd : d = 1 ∨ d = 2) (hd' : d' = 1 ∨ d' = 2) (hx : vsg x) (ha : (x = 30 ∧ kn' = kn ∧ o' = o + 1 ∧ o < 8) ∨ (¬ x = 30 ∧ ar x = 1 ∧ kn' = kn + 1 ∧ o' = o ∧ kn < 64)) : pW m z (w + 1) d' kn' o' c (va_up sg w x) vb le := by
  obtain ⟨⟨h1, h2, h3, h4, h5, h6⟩, ⟨s1, s2, s3⟩, hl, hz, h0, hn⟩ := h
  obtain ⟨n1, n2⟩ := hn (by omega)
  have od : on d = 1 := on_1 (by omega)
  have od' : on d' = 1 := on_1 (by omega)
  rw [od] at h1 s3
  have e1 := npr_s (sg := va_up sg w x) (w := w)
  have e2 := par_s (sg := va_up sg w x) (w := w)
  have e3 := bnr_s (sg := va_up sg w x) (w := w)
  rw [va_s, npr_u] at e1
  rw [va_s, par_u] at e2
  rw [va_s, bnr_u] at e3
  refine ⟨⟨by rw [od']; exact h1, ?_, ?_, ?_, ?_, by omega⟩, ⟨fun j hj => ?_, s2, by rw [od']; exact s3⟩, hl, hz, fun e => by omega, fun _ => ⟨n1, ?_⟩⟩
  · rcases ha with ⟨a1, a2, a3, a4⟩ | ⟨a1, a2, a3, a4, a5⟩
    · rw [e1, if_pos a1]; omega
    · rw [e1, if_neg a1]; omega
  · rcases ha with ⟨a1, a2, a3, a4⟩ | ⟨a1, a2, a3, a4, a5⟩ <;> omega
  · rcases ha with ⟨a1, a2, a3, a4⟩ | ⟨a1, a2, a3, a4, a5⟩
    · rw [e2, if_pos a1]; omega
    · rw [e2, if_neg a1]; omega
  · rcases ha with ⟨a1, a2, a3, a4⟩ | ⟨a1, a2, a3, a4, a5⟩ <;> omega
  · by_cases e : j = w
    · rw [e, va_s]; exact hx
    · rw [va_n _ _ e]; exact s1 j (by omega)
  · rw [n2, e3, if_neg (by omega), if_neg (by omega), if_neg (by rintro ⟨a, b⟩; rcases ha with ⟨a1, a2, a3, a4⟩ | ⟨a1, a2, a3, a4, a5⟩ <;> omega)]
/-- what waits on top has its right side -/
theorem pW_p {m z w kn o : Nat} {c sg vb le : Nat → Nat} (h : pW m z (w + 1) 3 kn o c sg vb le) (hx : ¬ sg w = 30) : pW m (z + 1) w 3 kn o (va_up c z (sg w)) sg vb le ∧ (ar (sg w) = 1 ∨ ar (sg w) = 2) ∧ ar (sg w) ≤ hg c (ls le m) (z - ls le m) ∧ z < 64 := by
  obtain ⟨⟨h1, h2, h3, h4, h5, h6⟩, ⟨s1, s2, s3⟩, hl, hz, h0, hn⟩ := h
  obtain ⟨n1, n2⟩ := hn (by omega)
  have vw := s1 w (by omega)
  have v1 : vcd (sg w) := by unfold vsg at vw; unfold vcd; omega
  have v2 : ar (sg w) = 1 ∨ ar (sg w) = 2 := by unfold vsg at vw; unfold ar; split <;> (try split) <;> omega
  rw [npr_s, if_neg hx] at h2
  rw [par_s, if_neg hx] at h4
  rw [bnr_s, if_pos rfl] at n2
  have v3 : ar (sg w) ≤ hg c (ls le m) (z - ls le m) := by
    rw [n2]
    rcases v2 with v2 | v2
    · omega
    · rw [if_pos ⟨hx, v2⟩]; omega
  refine ⟨⟨⟨h1, by omega, h3, by omega, h5, h6⟩, ⟨fun j hj => s1 j (by omega), fun i hi => ?_, s3⟩, fun i hi => lnO_c (fun j hj => (va_n c _ (by omega)).symm) (fun _ _ => rfl) (by omega) (hl i hi), by omega, fun e => by omega, fun _ => ⟨pL_s hz n1 v3, ?_⟩⟩, v2, v3, by omega⟩
  · by_cases e : i = z
    · rw [e, va_s]; exact v1
    · rw [va_n _ _ e]; exact s2 i (by omega)
  · rw [hg_x hz, n2, if_pos rfl]
    rcases v2 with v2 | v2
    · rw [v2, if_neg (by rintro ⟨-, b⟩; omega)]; omega
    · rw [v2, if_pos ⟨hx, rfl⟩]; omega
/-- a sign between two waits -/
theorem pW_b {m z w d' kn o x : Nat} {c sg vb le : Nat → Nat} (h : pW m z w 3 kn o c sg vb le) (hd' : d' = 1 ∨ d' = 2) (hk : kn < 64) (hx : vsg x) (h30 : ¬ x = 30) (ha : ar x = 2) : pW m z (w + 1) d' (kn + 1) o c (va_up sg w x) vb le := by
  obtain ⟨⟨h1, h2, h3, h4, h5, h6⟩, ⟨s1, s2, s3⟩, hl, hz, h0, hn⟩ := h
  obtain ⟨n1, n2⟩ := hn (by omega)
  have od' : on d' = on 3 := by rw [on_1 (by omega), on_1 (by omega)]
  have e1 := npr_s (sg := va_up sg w x) (w := w)
  have e2 := par_s (sg := va_up sg w x) (w := w)
  have e3 := bnr_s (sg := va_up sg w x) (w := w)
  rw [va_s, npr_u, if_neg h30] at e1
  rw [va_s, par_u, if_neg h30] at e2
  rw [va_s, bnr_u, if_pos ⟨h30, ha⟩] at e3
  refine ⟨⟨by rw [od']; exact h1, by omega, by omega, by omega, h5, by omega⟩, ⟨fun j hj => ?_, s2, by rw [od']; exact s3⟩, hl, hz, fun e => by omega, fun _ => ⟨n1, ?_⟩⟩
  · by_cases e : j = w
    · rw [e, va_s]; exact hx
    · rw [va_n _ _ e]; exact s1 j (by omega)
  · rw [n2, e3, if_pos rfl, if_neg (by omega)]
/-- a closing parenthesis meets its open one -/
theorem pW_q {m z w kn o : Nat} {c sg vb le : Nat → Nat} (h : pW m z (w + 1) 3 kn o c sg vb le) (hx : sg w = 30) : pW m z w 3 kn (o - 1) c sg vb le ∧ 0 < o := by
  obtain ⟨⟨h1, h2, h3, h4, h5, h6⟩, ⟨s1, s2, s3⟩, hl, hz, h0, hn⟩ := h
  obtain ⟨n1, n2⟩ := hn (by omega)
  rw [npr_s, if_pos hx] at h2
  rw [par_s, if_pos hx] at h4
  rw [bnr_s, if_neg (fun e => e.1 hx)] at n2
  exact ⟨⟨⟨h1, by omega, h3, by omega, by omega, h6⟩, ⟨fun j hj => s1 j (by omega), s2, s3⟩, hl, hz, fun e => by omega, fun _ => ⟨n1, n2⟩⟩, by omega⟩
/-- a line ends -/
theorem pW_e {m z kn : Nat} {c sg vb le : Nat → Nat} (h : pW m z 0 3 kn 0 c sg vb le) : pW (m + 1) z 0 0 kn 0 c sg vb (va_up le m z) := by
  obtain ⟨⟨h1, h2, h3, h4, h5, h6⟩, ⟨s1, s2, s3⟩, hl, hz, h0, hn⟩ := h
  obtain ⟨n1, n2⟩ := hn (by omega)
  rw [on_1 (by omega)] at h1 s3
  have l1 : ls (va_up le m z) (m + 1) = z := by unfold ls; rw [if_neg (by omega), Nat.add_sub_cancel, va_s]
  have l2 : ls (va_up le m z) m = ls le m := by
    unfold ls
    split
    · rfl
    · rw [va_n _ _ (by omega)]
  refine ⟨⟨h1, h2, h3, h4, h5, by omega⟩, ⟨s1, s2, s3⟩, fun i hi => ?_, by rw [l1]; exact Nat.le_refl _, fun _ => ⟨rfl, l1.symm⟩, fun e => absurd rfl e⟩
  by_cases e : i = m
  · subst e
    unfold lnO
    rw [l2, va_s]
    exact ⟨hz, Nat.le_refl _, n1, by rw [n2]; rfl⟩
  · exact lnO_c (fun _ _ => rfl) (fun j hj => (va_n le z (by omega)).symm) (Nat.le_refl _) (hl i (by omega))
/-- a line begins -/
theorem pW_v {m z kn t : Nat} {w o : Nat} {c sg vb le : Nat → Nat} (h : pW m z w 0 kn o c sg vb le) (hm : m < 16) (ht : t ≤ 3) : pW m z 0 1 kn 0 c sg (va_up vb m t) le := by
  obtain ⟨⟨h1, h2, h3, h4, h5, h6⟩, ⟨s1, s2, s3⟩, hl, hz, h0, hn⟩ := h
  obtain ⟨w0, z0⟩ := h0 rfl
  subst w0
  have e0 : on 0 = 0 := rfl
  refine ⟨⟨by rw [on_1 (by omega)]; omega, h2, h3, rfl, by omega, by omega⟩, ⟨s1, s2, fun i hi => ?_⟩, hl, hz, fun e => by omega, fun _ => ⟨fun k hk => by omega, ?_⟩⟩
  · rw [on_1 (by omega)] at hi
    rw [e0] at s3
    by_cases e : i = m
    · rw [e, va_s]; exact ht
    · rw [va_n _ _ e]; exact s3 i (by omega)
  · rw [← z0, Nat.sub_self]; rfl
/-- the pops -/
theorem pm_stop (least : Nat) (sg : Nat → Nat) : ∀ w, w - pm least sg w = 0 ∨ ¬ least ≤ stg (sg (w - pm least sg w - 1)) := by
  intro w
  induction w with
  | zero => exact Or.inl (Nat.zero_sub _)
  | succ w ih =>
    unfold pm
    by_cases g : least ≤ stg (sg w)
    · rw [if_pos g]
      have : w + 1 - (pm least sg w + 1) = w - pm least sg w := by omega
      rw [this]
      exact ih
    · rw [if_neg g]
      exact Or.inr (by rw [show w + 1 - 0 - 1 = w from by omega]; exact g)
theorem stg_30 {s : Nat} (h : vsg s) : (1 ≤ stg s) = ¬ s = 30 := by
  apply propext
  unfold vsg at h
  unfold stg
  constructor
  · intro g e
    rw [if_pos e] at g
    omega
  · intro g
    rw [if_neg g]
    split
    · omega
    · split
      · omega
      · split
        · omega
        · split
          · omega
          · split
            · omega
            · split <;> omega
