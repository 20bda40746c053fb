/-! The base by the reference; what the base's words are held by. -/
theorem up_sm6 {f : Nat → Nat} {ms : Nat} (h : ms ≤ 6) (hf : ∀ j, ms ≤ j → f j = 0) : up (fun j acc => acc + f j) ms 0 = sm6 f := by
  have h0 := hf 0
  have h1 := hf 1
  have h2 := hf 2
  have h3 := hf 3
  have h4 := hf 4
  have h5 := hf 5
  have : ms = 0 ∨ ms = 1 ∨ ms = 2 ∨ ms = 3 ∨ ms = 4 ∨ ms = 5 ∨ ms = 6 := by omega
  rcases this with rfl | rfl | rfl | rfl | rfl | rfl | rfl <;> simp only [up, sm6] <;> omega
theorem up_sle {f : Nat → Nat} {b : Nat} (hf : ∀ j, f j ≤ b) (n : Nat) : up (fun j acc => acc + f j) n 0 ≤ n * b := by
  induction n with
  | zero => rw [up_0]; omega
  | succ n ih =>
    rw [up_s]
    have := hf n
    rw [Nat.succ_mul]
    omega
def lst (pr : Int32) (L W : Nat → Int32) (ms a : Nat) (b : Option Nat) : Nat := match b with
  | none => 0
  | some t => asm pr L W ms a t
theorem enc_s (t : Nat) : enc (some t) = zI t := by cases t <;> rfl
theorem lst_s (pr : Int32) (L W : Nat → Int32) (ms a t : Nat) : lst pr L W ms a (some t) = asm pr L W ms a t := by cases t <;> rfl
def trc (A B : Nat → Int32) (n m : Nat) : Nat → Nat → Nat → (Nat → Int32) → (Nat → Int32)
  | 0, _, _, r => r
  | f + 1, i, j, r => if i < n ∧ j < m then (if ed A B n m (n - i) (m - j) = ed A B n m (n - (i + 1)) (m - (j + 1)) + (if A i = B j then 0 else 1) then trc A B n m f (i + 1) (j + 1) (va_up r i (r i + (if A i = B j then 1 else 0))) else if ed A B n m (n - i) (m - j) = ed A B n m (n - (i + 1)) (m - j) + 1 then trc A B n m f (i + 1) j r else trc A B n m f i (j + 1) r) else r
theorem trc_s (A B : Nat → Int32) (n m f i j : Nat) (r : Nat → Int32) : trc A B n m (f + 1) i j r = if i < n ∧ j < m then (if ed A B n m (n - i) (m - j) = ed A B n m (n - (i + 1)) (m - (j + 1)) + (if A i = B j then 0 else 1) then trc A B n m f (i + 1) (j + 1) (va_up r i (r i + (if A i = B j then 1 else 0))) else if ed A B n m (n - i) (m - j) = ed A B n m (n - (i + 1)) (m - j) + 1 then trc A B n m f (i + 1) j r else trc A B n m f i (j + 1) r) else r := rfl
theorem trc_e (A B : Nat → Int32) (n m f i j : Nat) (r : Nat → Int32) (h : ¬ (i < n ∧ j < m)) : trc A B n m f i j r = r := by
  cases f with
  | zero => rfl
  | succ f => rw [trc_s, if_neg h]
theorem trc_ag (A B : Nat → Int32) (n m : Nat) : ∀ f i j (r q : Nat → Int32), (∀ k, k < 8 → r k = q k) → ∀ k, k < 8 → trc A B n m f i j r k = trc A B n m f i j q k := by
  intro f
  induction f with
  | zero => intro i j r q h k hk; exact h k hk
  | succ f ih =>
    intro i j r q h k hk
    rw [trc_s, trc_s]
    by_cases c1 : i < n ∧ j < m
    · rw [if_pos c1, if_pos c1]
      by_cases c2 : ed A B n m (n - i) (m - j) = ed A B n m (n - (i + 1)) (m - (j + 1)) + (if A i = B j then 0 else 1)
      · rw [if_pos c2, if_pos c2]
        apply ih _ _ _ _ _ k hk
        intro l hl
        rw [va_ap, va_ap]
        by_cases e : l = i
        · subst e
          rw [if_pos rfl, if_pos rfl, h l hl]
        · rw [if_neg e, if_neg e]
          exact h l hl
      · rw [if_neg c2, if_neg c2]
        by_cases c3 : ed A B n m (n - i) (m - j) = ed A B n m (n - (i + 1)) (m - j) + 1
        · rw [if_pos c3, if_pos c3]
          exact ih _ _ _ _ h k hk
        · rw [if_neg c3, if_neg c3]
          exact ih _ _ _ _ h k hk
    · rw [if_neg c1, if_neg c1]
      exact h k hk
section O1
variable {X : (Nat → Int32) × Nat} {mo : Bool} {G : Nat × Nat} {J : Nat → Nat → Int64} {Q : Option Value → sm_M → Prop}
theorem hm_base {r ms a : Nat} {I : Nat → Nat → Int32} (h : aM r ms I) (ha : a < r) (hQ : ∀ K, Fr I K → K 141 = I 141 → Q (some (.int (enc (abs (I 81 15) (I 135) (I 136) (I 89) ms a)))) (sM mo G K J)) : sm_wp X 299 0 [some (.ref 81), some (.int (zI a)), none, none, none, none, none] [] (sM mo G I J) Q := by
  have hL := h.2.2.2.2
  have h6 := h.2.2.2.1
  have out : ∀ d k, k + d = ms → ∀ K, Fr I K → K 141 = I 141 → sm_wp X 299 7 [some (.ref 81), some (.int (zI a)), some (.int (enc (up (abF (I 81 15) (I 135) (I 136) (I 89) ms a) k none))), some (.int (zI (lst (I 81 15) (I 135) (I 136) ms a (up (abF (I 81 15) (I 135) (I 136) (I 89) ms a) k none)))), some (.int (zI k)), none, none] [] (sM mo G K J) Q := by
    intro d
    induction d with
    | zero =>
      intro k hk K f g1
      have : k = ms := by omega
      subst this
      rw [lp_299_7, if_pos (by rw [f.2.2.2.2 10 rfl, h.2.2.1, zI_le (by omega) (by omega)]; exact Nat.le_refl _)]
      have e := hQ K f g1
      unfold abs at e
      have e2 := abF_t (pr := I 81 15) (L := I 135) (W := I 136) (R := I 89) (ms := k) (a := a) (6 - k)
      rw [show k + (6 - k) = 6 by omega] at e2
      rw [e2] at e
      exact e
    | succ d ih =>
      intro k hk K f g1
      have hlt := abF_lt (pr := I 81 15) (L := I 135) (W := I 136) (R := I 89) (ms := ms) (a := a) k (by omega)
      have nx := ih (k + 1) (by omega)
      rw [up_s] at nx
      generalize up (abF (I 81 15) (I 135) (I 136) (I 89) ms a) k none = b at hlt nx ⊢
      obtain ⟨v1, v2⟩ := hdr_v (aM_f f h) ha (show k < 6 by omega)
      rw [lp_299_7, if_neg (by rw [f.2.2.2.2 10 rfl, h.2.2.1, zI_le (by omega) (by omega)]; omega)]
      refine ⟨v2, ?_⟩
      simp only [v1, f.2.2.2.2 15 rfl, f.1 135 rfl, show zI k + 1 = zI (k + 1) from zIr_add 1 k]
      by_cases g : adr (I 81 15) (I 135) ms a k = true
      · rw [if_pos g]
        have inn : ∀ e o, o + e = ms → ∀ K, Fr I K → K 141 = I 141 → sm_wp X 299 35 [some (.ref 81), some (.int (zI a)), some (.int (enc b)), some (.int (zI (lst (I 81 15) (I 135) (I 136) ms a b))), some (.int (zI k)), some (.int (zI (up (fun j acc => acc + (if adr (I 81 15) (I 135) ms a j = true then adD (I 135) (I 136) a k j else 0)) o 0))), some (.int (zI o))] [] (sM mo G K J) Q := by
          intro e
          induction e with
          | zero =>
            intro o ho K f g1
            have : o = ms := by omega
            subst this
            have es : up (fun j acc => acc + (if adr (I 81 15) (I 135) o a j = true then adD (I 135) (I 136) a k j else 0)) o 0 = asm (I 81 15) (I 135) (I 136) o a k := by
              rw [up_sm6 h6]
              · rfl
              · intro j hj
                rw [if_neg]
                unfold adr
                rw [decide_eq_false (by omega)]
                simp
            rw [es, lp_299_35, if_pos (by rw [f.2.2.2.2 10 rfl, h.2.2.1, zI_le (by omega) (by omega)]; exact Nat.le_refl _), show zI k + 1 = zI (k + 1) from zIr_add 1 k]
            unfold abF at nx
            rw [if_pos g] at nx
            have b1 := asm_le (pr := I 81 15) (W := I 136) (ms := o) (a := a) hL k
            cases b with
            | none =>
              rw [if_pos (by decide)]
              exact nx K f g1
            | some t =>
              obtain ⟨t1, t2⟩ := hlt t rfl
              have b2 := asm_le (pr := I 81 15) (W := I 136) (ms := o) (a := a) hL t
              simp only [enc_s, lst_s] at nx ⊢
              have z0 : ¬ zI t < 0 := by rw [zIr_lt (c := 0) (by decide) (by omega)]; exact Nat.not_lt_zero _
              rw [if_neg z0]
              simp only [zI_lt (show asm (I 81 15) (I 135) (I 136) o a t < 2147483648 by omega) (show asm (I 81 15) (I 135) (I 136) o a k < 2147483648 by omega), zI_eq (show asm (I 81 15) (I 135) (I 136) o a k < 2147483648 by omega) (show asm (I 81 15) (I 135) (I 136) o a t < 2147483648 by omega), zI_vp (show k < 2147483648 by omega), zI_vp (show t < 2147483648 by omega), zI_cn (show k < 2147483648 by omega), zI_cn (show t < 2147483648 by omega), f.1 89 rfl]
              by_cases c1 : asm (I 81 15) (I 135) (I 136) o a t < asm (I 81 15) (I 135) (I 136) o a k
              · rw [if_pos c1]
                rw [if_neg (by omega)] at nx
                exact nx K f g1
              · rw [if_neg c1]
                by_cases c2 : asm (I 81 15) (I 135) (I 136) o a k = asm (I 81 15) (I 135) (I 136) o a t
                · rw [if_neg (fun g => g c2)]
                  refine ⟨by omega, by omega, ?_⟩
                  by_cases c3 : I 89 k < I 89 t
                  · rw [if_pos c3]
                    rw [if_pos (Or.inr ⟨c2, c3⟩)] at nx
                    exact nx K f g1
                  · rw [if_neg c3]
                    rw [if_neg (fun g => by rcases g with g | g; omega; exact c3 g.2)] at nx
                    exact nx K f g1
                · rw [if_pos c2]
                  rw [if_pos (Or.inl (by omega))] at nx
                  exact nx K f g1
          | succ e ihe =>
            intro o ho K f g1
            obtain ⟨w1, w2⟩ := hdr_v (aM_f f h) ha (show o < 6 by omega)
            rw [lp_299_35, if_neg (by rw [f.2.2.2.2 10 rfl, h.2.2.1, zI_le (by omega) (by omega)]; omega)]
            refine ⟨w2, ?_⟩
            simp only [w1, f.2.2.2.2 15 rfl, f.1 135 rfl, show zI o + 1 = zI (o + 1) from zIr_add 1 o, Int32.add_zero]
            have nx2 := ihe (o + 1) (by omega)
            rw [up_s] at nx2
            by_cases g2 : adr (I 81 15) (I 135) ms a o = true
            · rw [if_neg (fun g => g g2)]
              rw [if_pos g2] at nx2
              have km : k < ms := by omega
              rw [show (6 : Int32) * zI a + zI k = zI (6 * a + k) by rw [show (6 : Int32) * zI a = zI (6 * a) from zIl_mul 6 a, zI_add], show (6 : Int32) * zI a + zI o = zI (6 * a + o) by rw [show (6 : Int32) * zI a = zI (6 * a) from zIl_mul 6 a, zI_add], hm_far (aM_f f h) ha km (by omega)]
              simp only [tl_some]
              rw [lp_299_74, zI_add, show zI o + 1 = zI (o + 1) from zIr_add 1 o, f.1 135 rfl, f.1 136 rfl]
              exact nx2 _ (Fr_w f rfl (by decide) (by decide) (by decide) _) (by rw [rw2_n _ _ _ _ (by decide)]; exact g1)
            · rw [if_pos g2]
              rw [if_neg g2] at nx2
              exact nx2 K f g1
        have e0 := inn ms 0 (by omega) K f g1
        exact e0
      · rw [if_neg g]
        unfold abF at nx
        rw [if_neg g] at nx
        exact nx K f g1
  rw [lp_299_0]
  exact out ms 0 (by omega) I (Fr_r I) rfl
theorem hc_add {n m : Nat} (hn : n ≤ 8) (hm : m ≤ 8) (A B : Nat → Int32) (K : Nat → Nat → Int32) (hA : ∀ i, i < 8 → K 76 i = A i) (hB : ∀ j, j < 8 → K 77 j = B j) (hT : ∀ i j, i ≤ n → j ≤ m → K 78 (9 * i + j) = zI (ed A B n m (n - i) (m - j))) : ∀ f k, k + f = 16 → ∀ i j r, i ≤ n → j ≤ m → sm_wp X 16 8 [some (.ref 71), some (.int (zI n)), some (.int (zI m)), some (.int (zI i)), some (.int (zI j)), some (.int (zI k)), none, none] [] (sM mo G (rw2 K 80 r) J) Q = Q none (sM mo G (rw2 K 80 (trc A B n m f i j r)) J) := by
  intro f
  induction f with
  | zero =>
    intro k hk i j r hi hj
    have : k = 16 := by omega
    subst this
    rw [lp_16_8, if_pos (by decide)]
    rfl
  | succ f ih =>
    intro k hk i j r hi hj
    rw [lp_16_8, if_neg (by rw [zIl_le (c := 16) (by decide) (by omega)]; show ¬ 16 ≤ k; omega)]
    by_cases h1 : i < n
    · by_cases h2 : j < m
      · have hi8 : i < 8 := by omega
        have hj8 : j < 8 := by omega
        have c1 : ¬ n ≤ i := by omega
        have c2 : ¬ 8 ≤ i := by omega
        have c3 : ¬ m ≤ j := by omega
        have w1 : i * 9 + j = 9 * i + j := by omega
        have w2 : (i + 1) * 9 + j = 9 * (i + 1) + j := by omega
        have y1 : 9 * i + j < 81 := by omega
        have y2 : 9 * (i + 1) + j < 81 := by omega
        have y3 : 9 * (i + 1) + j + 1 < 81 := by omega
        have t1 := hT i j hi hj
        have t2 := hT (i + 1) j (by omega) hj
        have t3 : K 78 (9 * (i + 1) + j + 1) = _ := hT (i + 1) (j + 1) (by omega) (by omega)
        have l1 := ed_le A B n m (n - i) (m - j)
        have l2 := ed_le A B n m (n - (i + 1)) (m - j)
        have l3 := ed_le A B n m (n - (i + 1)) (m - (j + 1))
        have n1 := ih (k + 1) (by omega) (i + 1) (j + 1)
        have n2 := ih (k + 1) (by omega) (i + 1) j
        have n3 := ih (k + 1) (by omega) i (j + 1)
        have z0 : (0 : Int32) = zI 0 := rfl
        simp (decide := true) only [rw2_a, rw2_n, ne_eq, not_false_eq_true, up2_rw, rw2_rw]
        simp (disch := first | omega | decide) only [zI_le, zIl_le, zIr_lt, zIr_add, zIr_mul, zIl_add, zI_add, zI_vp, zI_cn, zI_eq, c1, c2, c3, hi8, hj8, w1, w2, y1, y2, y3, t1, t2, t3, hA i hi8, hB j hj8, if_false, if_true, true_and]
        have ts := trc_s A B n m f i j r
        rw [if_pos (⟨h1, h2⟩ : i < n ∧ j < m)] at ts
        rw [ts]
        generalize ed A B n m (n - i) (m - j) = e1 at *
        generalize ed A B n m (n - (i + 1)) (m - j) = e2 at *
        generalize ed A B n m (n - (i + 1)) (m - (j + 1)) = e3 at *
        by_cases hc : A i = B j
        · simp only [hc, not_true_eq_false, if_false, if_true]
          by_cases q1 : e1 = e3 + 0
          · have q2 : e1 = 0 + e3 := by omega
            rw [if_neg (fun g => g q2), if_pos q1, n1 _ (by omega) (by omega)]
            rfl
          · have q2 : ¬ e1 = 0 + e3 := by omega
            rw [if_pos q2, if_neg q1]
            by_cases q3 : e1 = e2 + 1
            · have q4 : e1 = 1 + e2 := by omega
              rw [if_neg (fun g => g q4), if_pos q3, n2 _ (by omega) (by omega)]
            · have q4 : ¬ e1 = 1 + e2 := by omega
              rw [if_pos q4, if_neg q3, n3 _ (by omega) (by omega)]
        · simp only [hc, not_false_eq_true, if_false, if_true]
          by_cases q1 : e1 = e3 + 1
          · have q2 : e1 = 1 + e3 := by omega
            rw [if_neg (fun g => g q2), if_pos q1, n1 _ (by omega) (by omega)]
            rfl
          · have q2 : ¬ e1 = 1 + e3 := by omega
            rw [if_pos q2, if_neg q1]
            by_cases q3 : e1 = e2 + 1
            · have q4 : e1 = 1 + e2 := by omega
              rw [if_neg (fun g => g q4), if_pos q3, n2 _ (by omega) (by omega)]
            · have q4 : ¬ e1 = 1 + e2 := by omega
              rw [if_pos q4, if_neg q3, n3 _ (by omega) (by omega)]
      · rw [trc_e _ _ _ _ _ _ _ _ (fun g => h2 g.2), if_neg (by rw [zI_le (by omega) (by omega)]; omega), if_neg (by rw [zIl_le (c := 8) (by decide) (by omega)]; show ¬ 8 ≤ i; omega), if_pos (by rw [zI_le (by omega) (by omega)]; omega)]
    · rw [trc_e _ _ _ _ _ _ _ _ (fun g => h1 g.1), if_pos (by rw [zI_le (by omega) (by omega)]; omega)]
end O1
