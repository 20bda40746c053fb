/-! Going through rows in order, place by place. -/
def LB (k : Nat) (m : Nat → Nat) (t : Nat) (x : Nat → Nat) : Prop := (∃ i, i < k ∧ (∀ j, j < i → x j = m j) ∧ x i < m i) ∨ ((∀ j, j < k → x j = m j) ∧ x k < t)
/-- so many steps at most for a whole subtree -/
def cT (b : Nat) : Nat → Nat
  | 0 => 0
  | j + 1 => b * (1 + cT b j) + 1
def cS (b k : Nat) : Nat := cT b (4 - k)
theorem cS_s (b : Nat) {k : Nat} (h : k < 4) : cS b k = b * (1 + cS b (k + 1)) + 1 := by
  unfold cS
  rw [show 4 - k = (4 - (k + 1)) + 1 from by omega]
  rfl
def pS (b : Nat) (M : Nat → Nat) (k : Nat) : Nat := up (fun i a => a + ((b - (M i + 1)) * (1 + cS b (i + 1)) + 1)) k 0
def bS (b : Nat) (M : Nat → Nat) (k t : Nat) : Nat := pS b M k + ((b - t) * (1 + cS b (k + 1)) + 1)
theorem pS_s (b : Nat) (M : Nat → Nat) (k : Nat) : pS b M (k + 1) = bS b M k (M k + 1) := rfl
theorem pS_c {b : Nat} {M M' : Nat → Nat} {k : Nat} (h : ∀ j, j < k → M j = M' j) : pS b M k = pS b M' k := by
  unfold pS
  apply up_congr
  intro j hj x
  rw [h j hj]
theorem bS_0 (b : Nat) (M : Nat → Nat) : bS b M 0 0 = cS b 0 := by
  rw [cS_s b (by decide)]
  show 0 + ((b - 0) * (1 + cS b 1) + 1) = _
  rw [Nat.zero_add, Nat.sub_zero]
theorem bS_p (b : Nat) (M : Nat → Nat) (k t : Nat) : pS b M k + 1 ≤ bS b M k t := by
  unfold bS
  omega
theorem bS_1 {b : Nat} {M : Nat → Nat} {k s t : Nat} (h : s < t) (ht : t ≤ b) : bS b M k t + (1 + cS b (k + 1)) ≤ bS b M k s := by
  have e : (b - t + 1) * (1 + cS b (k + 1)) ≤ (b - s) * (1 + cS b (k + 1)) := Nat.mul_le_mul_right _ (by omega)
  rw [Nat.add_mul, Nat.one_mul] at e
  unfold bS
  omega
theorem bS_d {b : Nat} {M : Nat → Nat} {k t : Nat} (hk : k < 3) : bS b M (k + 1) t ≤ bS b M k (M k + 1) + cS b (k + 1) := by
  have e : (b - t) * (1 + cS b (k + 1 + 1)) ≤ b * (1 + cS b (k + 1 + 1)) := Nat.mul_le_mul_right _ (by omega)
  have e2 := cS_s b (k := k + 1) (by omega)
  rw [← pS_s]
  show pS b M (k + 1) + _ ≤ _
  omega
theorem dfs {N b : Nat} (hN : N ≤ 4) (h1 : 1 ≤ N) (hb : 0 < b) (V : Nat → (Nat → Nat) → Nat → Prop) (t0 : (Nat → Nat) → Nat) (Sol : (Nat → Nat) → Prop) (F : (Nat → Nat) → Prop) (S : Nat)
    (hS : ∀ x, Sol x → ∀ k, k < N → x k < b ∧ V k x (x k)) (hVc : ∀ k M M' s, (∀ j, j < k → M j = M' j) → V k M s → V k M' s)
    (ht0 : ∀ x, Sol x → ∀ k, 0 < k → k < N → t0 x ≤ x k) (ht0c : ∀ M M', M 0 = M' 0 → t0 M = t0 M') (ht0b : ∀ M, M 0 < b → t0 M ≤ b)
    (hF : ∀ M, ¬ F M → ∀ x, Sol x → (∀ j, j < N → x j = M j) → False)
    (W : Nat → Nat → Nat → (Nat → Nat) → Prop) (W0 : Prop) (Fd : (Nat → Nat) → Prop) (h0 : (∀ x, ¬ Sol x) → W0) (hfd : ∀ M, F M → (∀ k, k < N → M k < b ∧ V k M (M k)) → (∀ x, Sol x → ¬ lxL N x M) → Fd M)
    (step : ∀ k t st M, k < N → st < S → t ≤ b → (∀ j, j < k → M j < b ∧ V j M (M j)) →
      ((∀ s, t ≤ s → s < b → ¬ V k M s) → (k = 0 → W0) ∧ ∀ k', k = k' + 1 → W k' (M k' + 1) (st + 1) M) →
      (∀ s, t ≤ s → s < b → V k M s → (∀ s', t ≤ s' → s' < s → ¬ V k M s') → (k + 1 < N → W (k + 1) (t0 (va_up M k s)) (st + 1) (va_up M k s)) ∧ (k + 1 = N → (¬ F (va_up M k s) → W k (s + 1) (st + 1) (va_up M k s)) ∧ (F (va_up M k s) → Fd (va_up M k s)))) → W k t st M) :
    ∀ f k t st M, k < N → t ≤ b → (∀ j, j < k → M j < b ∧ V j M (M j)) → (∀ x, Sol x → ¬ LB k M t x) → bS b M k t ≤ f → st + f ≤ S → W k t st M := by
  intro f
  induction f with
  | zero =>
    intro k t st M hk ht hM hL hf hst
    have := bS_p b M k t
    omega
  | succ f ih =>
    intro k t st M hk ht hM hL hf hst
    have bp := bS_p b M k t
    refine step k t st M hk (by omega) ht hM (fun hno => ⟨fun k0 => ?_, fun k' ek => ?_⟩) (fun s hs1 hs2 hs3 hs4 => ?_)
    · subst k0
      refine h0 (fun x hx => ?_)
      have q := hS x hx 0 hk
      rcases Nat.lt_or_ge (x 0) t with g | g
      · exact hL x hx (Or.inr ⟨fun j hj => absurd hj (Nat.not_lt_zero _), g⟩)
      · exact hno (x 0) g q.1 (hVc 0 x M _ (fun j hj => absurd hj (Nat.not_lt_zero _)) q.2)
    · subst ek
      have mk := hM k' (by omega)
      refine ih k' (M k' + 1) (st + 1) M (by omega) (by omega) (fun j hj => hM j (by omega)) (fun x hx hlb => ?_) ?_ (by omega)
      · have q := hS x hx (k' + 1) hk
        rcases hlb with ⟨i, hi, h2, h3⟩ | ⟨h2, h3⟩
        · exact hL x hx (Or.inl ⟨i, by omega, h2, h3⟩)
        · rcases Nat.lt_or_ge (x k') (M k') with g | g
          · exact hL x hx (Or.inl ⟨k', by omega, h2, g⟩)
          · have pe : ∀ j, j < k' + 1 → x j = M j := by
              intro j hj
              by_cases e : j = k'
              · rw [e]; omega
              · exact h2 j (by omega)
            rcases Nat.lt_or_ge (x (k' + 1)) t with g2 | g2
            · exact hL x hx (Or.inr ⟨pe, g2⟩)
            · exact hno _ g2 q.1 (hVc (k' + 1) x M _ pe q.2)
      · rw [pS_s] at bp
        omega
    · have Mc : ∀ j, j < k → va_up M k s j = M j := fun j hj => by rw [va_ap, if_neg (by omega)]
      have Mk : va_up M k s k = s := by rw [va_ap, if_pos rfl]
      have hM' : ∀ j, j < k + 1 → va_up M k s j < b ∧ V j (va_up M k s) (va_up M k s j) := by
        intro j hj
        by_cases e : j = k
        · rw [e, Mk]
          exact ⟨hs2, hVc k M _ s (fun i hi => (Mc i hi).symm) hs3⟩
        · have q := hM j (by omega)
          rw [Mc j (by omega)]
          exact ⟨q.1, hVc j M _ _ (fun i hi => (Mc i (by omega)).symm) q.2⟩
      have pc : pS b (va_up M k s) k = pS b M k := pS_c Mc
      have hLs : ∀ x, Sol x → ¬ LB k (va_up M k s) s x := by
        intro x hx hlb
        have q := hS x hx k hk
        rcases hlb with ⟨i, hi, h2, h3⟩ | ⟨h2, h3⟩
        · exact hL x hx (Or.inl ⟨i, hi, fun j hj => by rw [h2 j hj, Mc j (by omega)], by rw [← Mc i hi]; exact h3⟩)
        · have pe : ∀ j, j < k → x j = M j := fun j hj => by rw [h2 j hj, Mc j hj]
          rcases Nat.lt_or_ge (x k) t with g | g
          · exact hL x hx (Or.inr ⟨pe, g⟩)
          · exact hs4 _ g h3 (hVc k x M _ pe q.2)
      have bt' : bS b (va_up M k s) k (s + 1) + (1 + cS b (k + 1)) ≤ bS b M k t := by
        have e := bS_1 (b := b) (M := M) (k := k) (show t < s + 1 by omega) (by omega)
        unfold bS at e ⊢
        rw [pc]
        exact e
      refine ⟨fun hk1 => ?_, fun hk1 => ⟨fun hnF => ?_, fun hF1 => ?_⟩⟩
      · have M0 : va_up M k s 0 < b := (hM' 0 (by omega)).1
        refine ih (k + 1) (t0 (va_up M k s)) (st + 1) _ hk1 (ht0b _ M0) hM' (fun x hx hlb => ?_) ?_ (by omega)
        · rcases hlb with ⟨i, hi, h2, h3⟩ | ⟨h2, h3⟩
          · by_cases e : i = k
            · rw [e] at h2 h3
              rw [Mk] at h3
              exact hLs x hx (Or.inr ⟨h2, h3⟩)
            · exact hLs x hx (Or.inl ⟨i, by omega, h2, h3⟩)
          · have := ht0 x hx (k + 1) (by omega) hk1
            rw [ht0c x (va_up M k s) (h2 0 (by omega))] at this
            omega
        · have e1 := bS_d (b := b) (M := va_up M k s) (k := k) (t := t0 (va_up M k s)) (by omega)
          rw [Mk] at e1
          omega
      · refine ih k (s + 1) (st + 1) _ hk (by omega) (fun j hj => hM' j (by omega)) (fun x hx hlb => ?_) ?_ (by omega)
        · rcases hlb with ⟨i, hi, h2, h3⟩ | ⟨h2, h3⟩
          · exact hLs x hx (Or.inl ⟨i, hi, h2, h3⟩)
          · rcases Nat.lt_or_ge (x k) s with g | g
            · exact hLs x hx (Or.inr ⟨h2, g⟩)
            · refine hF _ hnF x hx (fun j hj => ?_)
              by_cases e : j = k
              · rw [e, Mk]; omega
              · exact h2 j (by omega)
        · omega
      · refine hfd _ hF1 (fun j hj => hM' j (by omega)) (fun x hx hlx => ?_)
        obtain ⟨i, hi, h2, h3⟩ := hlx
        by_cases e : i = k
        · rw [e] at h2 h3
          rw [Mk] at h3
          exact hLs x hx (Or.inr ⟨h2, h3⟩)
        · exact hLs x hx (Or.inl ⟨i, by omega, h2, h3⟩)
