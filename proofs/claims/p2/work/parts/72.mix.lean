/-! The j-th for which it holds; mixed digits. -/
theorem cN_s (P : Nat → Bool) (k : Nat) : cN P (k + 1) = if P k = true then cN P k + 1 else cN P k := rfl
theorem cN_p {P : Nat → Bool} {k : Nat} (h : P k = true) : cN P (k + 1) = cN P k + 1 := by rw [cN_s, if_pos h]
theorem cN_q {P : Nat → Bool} {k : Nat} (h : ¬ P k = true) : cN P (k + 1) = cN P k := by rw [cN_s, if_neg h]
theorem cN_m (P : Nat → Bool) (a : Nat) : ∀ d, cN P a ≤ cN P (a + d) := by
  intro d
  induction d with
  | zero => exact Nat.le_refl _
  | succ d ih => rw [← Nat.add_assoc, cN_s]; split <;> omega
theorem cN_mono (P : Nat → Bool) {a b : Nat} (h : a ≤ b) : cN P a ≤ cN P b := by
  have := cN_m P a (b - a)
  rw [show a + (b - a) = b from by omega] at this
  exact this
theorem cN_le (P : Nat → Bool) : ∀ k, cN P k ≤ k := by
  intro k
  induction k with
  | zero => exact Nat.le_refl _
  | succ k ih => rw [cN_s]; split <;> omega
theorem cN_inj {P : Nat → Bool} {a b : Nat} (ha : P a = true) (hb : P b = true) (h : cN P a = cN P b) : a = b := by
  rcases Nat.lt_trichotomy a b with g | g | g
  · have := cN_mono P (a := a + 1) (b := b) (by omega)
    rw [cN_p ha] at this
    omega
  · exact g
  · have := cN_mono P (a := b + 1) (b := a) (by omega)
    rw [cN_p hb] at this
    omega
theorem nt_s (P : Nat → Bool) (n j : Nat) : nt P (n + 1) j = if P n = true ∧ cN P n = j then n else nt P n j := rfl
theorem nt_p {P : Nat → Bool} : ∀ {n j : Nat}, j < cN P n → P (nt P n j) = true ∧ nt P n j < n ∧ cN P (nt P n j) = j := by
  intro n
  induction n with
  | zero => intro j h; exact absurd h (Nat.not_lt_zero _)
  | succ n ih =>
    intro j h
    rw [nt_s]
    by_cases g : P n = true ∧ cN P n = j
    · rw [if_pos g]
      exact ⟨g.1, Nat.lt_succ_self _, g.2⟩
    · rw [if_neg g]
      have h2 : j < cN P n := by
        rw [cN_s] at h
        by_cases g2 : P n = true
        · rw [if_pos g2] at h
          have : cN P n ≠ j := fun e => g ⟨g2, e⟩
          omega
        · rw [if_neg g2] at h
          exact h
      have q := ih h2
      exact ⟨q.1, by omega, q.2.2⟩
theorem nt_c {P : Nat → Bool} {n l : Nat} (hl : l < n) (h : P l = true) : nt P n (cN P l) = l := by
  have h2 : cN P l < cN P n := by
    have := cN_mono P (a := l + 1) (b := n) (by omega)
    rw [cN_p h] at this
    omega
  have q := nt_p h2
  exact cN_inj q.1 h q.2.2
theorem cN_lt {P : Nat → Bool} {n l : Nat} (hl : l < n) (h : P l = true) : cN P l < cN P n := by
  have := cN_mono P (a := l + 1) (b := n) (by omega)
  rw [cN_p h] at this
  omega
theorem cN_congr {P R : Nat → Bool} {n : Nat} (h : ∀ l, l < n → P l = R l) : cN P n = cN R n := by
  unfold cN
  apply up_congr
  intro k hk x
  rw [h k hk]
theorem rp_K (c : Nat → Nat) (K : Nat) : rp c K K = 1 := by
  unfold rp
  rw [Nat.sub_self]
  rfl
theorem rp_s (c : Nat → Nat) {K k : Nat} (h : k < K) : rp c K k = rp c K (k + 1) * c k := by
  unfold rp
  rw [show K - k = (K - (k + 1)) + 1 from by omega, up_s, show K - 1 - (K - (k + 1)) = k from by omega]
theorem rp_pos {c : Nat → Nat} {K : Nat} (hc : ∀ j, j < K → 0 < c j) : ∀ d k, k + d = K → 0 < rp c K k := by
  intro d
  induction d with
  | zero => intro k hk; rw [show k = K from by omega, rp_K]; decide
  | succ d ih =>
    intro k hk
    rw [rp_s c (by omega)]
    exact Nat.mul_pos (ih (k + 1) (by omega)) (hc k (by omega))
theorem rp_dvd (c : Nat → Nat) {K : Nat} : ∀ d j, j + d ≤ K → rp c K (j + d) ∣ rp c K j := by
  intro d
  induction d with
  | zero => intro j _; exact Nat.dvd_refl _
  | succ d ih =>
    intro j hj
    have e1 := ih (j + 1) (by omega)
    rw [show j + 1 + d = j + (d + 1) from by omega] at e1
    refine Nat.dvd_trans e1 ?_
    rw [rp_s c (k := j) (by omega)]
    exact Nat.dvd_mul_right _ _
theorem rp_le {c : Nat → Nat} {K : Nat} (hc : ∀ j, j < K → c j ≤ 3) : ∀ d k, k + d = K → rp c K k ≤ 3 ^ d := by
  intro d
  induction d with
  | zero => intro k hk; rw [show k = K from by omega, rp_K]; decide
  | succ d ih =>
    intro k hk
    rw [rp_s c (by omega), Nat.pow_succ]
    exact Nat.mul_le_mul (ih (k + 1) (by omega)) (hc k (by omega))
theorem dg_lt {c : Nat → Nat} {K : Nat} (v : Nat) {k : Nat} (h : 0 < c k) : dg c K v k < c k := Nat.mod_lt _ h
theorem dg_0 (c : Nat → Nat) (K k : Nat) : dg c K 0 k = 0 := by
  unfold dg
  rw [Nat.zero_div, Nat.zero_mod]
theorem sd_1 {v R : Nat} (hR : 0 < R) (h : (v + 1) % R = 0) : (v + 1) / R = v / R + 1 := by
  rw [Nat.succ_div, if_pos (Nat.dvd_of_mod_eq_zero h)]
theorem dg_hi {c : Nat → Nat} {K v k : Nat} (hc : ∀ j, j < K → 0 < c j) (h : (v + 1) % rp c K (k + 1) = 0) {j : Nat} (hj : k < j) (hK : j < K) : dg c K (v + 1) j = 0 := by
  have d1 := rp_dvd c (K := K) (j - (k + 1)) (k + 1) (by omega)
  rw [show k + 1 + (j - (k + 1)) = j from by omega] at d1
  obtain ⟨t, ht⟩ := Nat.dvd_trans d1 (Nat.dvd_of_mod_eq_zero h)
  unfold dg
  rw [ht, rp_s c hK, Nat.mul_assoc, Nat.mul_div_cancel_left _ (rp_pos hc (K - (j + 1)) (j + 1) (by omega)), Nat.mul_mod_right]
theorem dg_at {c : Nat → Nat} {K v k : Nat} (hc : ∀ j, j < K → 0 < c j) (hk : k < K) (h : (v + 1) % rp c K (k + 1) = 0) (g : dg c K v k + 1 < c k) : dg c K (v + 1) k = dg c K v k + 1 := by
  unfold dg at g ⊢
  rw [sd_1 (rp_pos hc (K - (k + 1)) (k + 1) (by omega)) h, Nat.add_mod, Nat.mod_eq_of_lt (show 1 < c k by omega), Nat.mod_eq_of_lt g]
theorem dg_lo {c : Nat → Nat} {K v k : Nat} (hc : ∀ j, j < K → 0 < c j) (hk : k < K) (h : (v + 1) % rp c K (k + 1) = 0) (g : dg c K v k + 1 < c k) {j : Nat} (hj : j < k) : dg c K (v + 1) j = dg c K v j := by
  have e : (v + 1) / rp c K k = v / rp c K k := by
    rw [rp_s c hk, ← Nat.div_div_eq_div_mul, ← Nat.div_div_eq_div_mul, sd_1 (rp_pos hc (K - (k + 1)) (k + 1) (by omega)) h, Nat.succ_div, if_neg ?_, Nat.add_zero]
    intro d
    have d2 := Nat.mod_eq_zero_of_dvd d
    unfold dg at g
    rw [Nat.add_mod, Nat.mod_eq_of_lt (show 1 < c k by omega), Nat.mod_eq_of_lt g] at d2
    omega
  have d1 := rp_dvd c (K := K) (k - (j + 1)) (j + 1) (by omega)
  rw [show j + 1 + (k - (j + 1)) = k from by omega] at d1
  obtain ⟨t, ht⟩ := d1
  unfold dg
  rw [ht, ← Nat.div_div_eq_div_mul, ← Nat.div_div_eq_div_mul, e]
theorem dg_ca {c : Nat → Nat} {K v k : Nat} (hc : ∀ j, j < K → 0 < c j) (hk : k < K) (h : (v + 1) % rp c K (k + 1) = 0) (g : ¬ dg c K v k + 1 < c k) : (v + 1) % rp c K k = 0 := by
  have l := dg_lt (K := K) v (hc k hk)
  have e : dg c K v k + 1 = c k := by omega
  have p := rp_pos hc (K - (k + 1)) (k + 1) (by omega)
  unfold dg at e
  have e2 : c k ∣ v / rp c K (k + 1) + 1 := by
    apply Nat.dvd_of_mod_eq_zero
    rw [Nat.add_mod]
    by_cases g1 : c k = 1
    · rw [g1]; exact Nat.mod_one _
    · rw [Nat.mod_eq_of_lt (show 1 < c k by omega), e, Nat.mod_self]
  rw [← sd_1 p h] at e2
  obtain ⟨t, ht⟩ := Nat.dvd_of_mod_eq_zero h
  rw [ht, Nat.mul_div_cancel_left _ p] at e2
  rw [ht, rp_s c hk]
  exact Nat.mod_eq_zero_of_dvd (Nat.mul_dvd_mul_left _ e2)
theorem dg_in {c : Nat → Nat} {K v k : Nat} (hc : ∀ j, j < K → 0 < c j) (hk : k < K) (h : (v + 1) % rp c K (k + 1) = 0) (g : dg c K v k + 1 < c k) (hv : v < rp c K 0) : v + 1 < rp c K 0 := by
  rcases Nat.lt_or_ge (v + 1) (rp c K 0) with e | e
  · exact e
  · have e2 : v + 1 = rp c K 0 := by omega
    have d1 := rp_dvd c (K := K) k 0 (by omega)
    rw [Nat.zero_add, ← e2, rp_s c hk] at d1
    obtain ⟨t, ht⟩ := d1
    have p := rp_pos hc (K - (k + 1)) (k + 1) (by omega)
    have a := dg_at hc hk h g
    unfold dg at a
    rw [ht, Nat.mul_assoc, Nat.mul_div_cancel_left _ p, Nat.mul_mod_right] at a
    omega
theorem dg_end {c : Nat → Nat} {K v : Nat} (h : (v + 1) % rp c K 0 = 0) (hv : v < rp c K 0) : v + 1 = rp c K 0 := by
  rcases Nat.lt_or_ge (v + 1) (rp c K 0) with e | e
  · rw [Nat.mod_eq_of_lt e] at h
    omega
  · omega
theorem pB_t {p : Prop} : pB p = true ↔ p := by
  unfold pB
  exact @decide_eq_true_iff p (Classical.propDecidable p)
theorem pB_f {p : Prop} : pB p = false ↔ ¬ p := by
  unfold pB
  exact @decide_eq_false_iff_not p (Classical.propDecidable p)
