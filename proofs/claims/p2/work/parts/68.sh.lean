/-! Shares: a row is filled. -/
theorem pr2_z {a b : Nat} (ha : a < 6) (hb : b < 6) : zI b * (zI b - 1) / 2 + zI a = zI (pr2 a b) := by
  have e : ∀ a, a < 6 → ∀ b, b < 6 → zI b * (zI b - 1) / 2 + zI a = zI (pr2 a b) := by decide
  exact e a ha b hb
theorem pr2_lt {a b : Nat} (ha : a < b) (hb : b < 6) : pr2 a b < 15 := by
  have e : ∀ b, b < 6 → ∀ a, a < b → pr2 a b < 15 := by decide
  exact e b hb a ha
theorem pr2_in {a b c d : Nat} (ha : a < b) (hb : b < 6) (hc : c < d) (hd : d < 6) (h : pr2 a b = pr2 c d) : a = c ∧ b = d := by
  have e : ∀ b a d c : Fin 6, a.1 < b.1 → c.1 < d.1 → pr2 a.1 b.1 = pr2 c.1 d.1 → a.1 = c.1 ∧ b.1 = d.1 := by decide +kernel
  exact e ⟨b, hb⟩ ⟨a, by omega⟩ ⟨d, hd⟩ ⟨c, by omega⟩ ha hc h
section S2
variable {X : (Nat → Int32) × Nat} {mo : Bool} {G : Nat × Nat} {I : Nat → Nat → Int32} {J : Nat → Nat → Int64} {Q : Option Value → sm_M → Prop}
theorem l3_146 {W : Nat → Int32} {S : Int32} {a b F R : Nat} (hF : F + R < 5955) (hR : wA W a S 12 = R) (hQ : ∀ M, (∀ v, v ≤ R → rv 1188 (sfp W S a b v) (M (F + v))) → (∀ j, j < F → M j = I 143 j) → Q (some (.int (zI (F + R + 1)))) (sM true G (rw2 I 143 M) J)) : ∀ i, i ≤ R → ∀ M, (∀ v, v ≤ R → i ≤ v → rv 1188 (sfp W S a b v) (M (F + v))) → (∀ v, v < i → rv 1188 (rch W S a b 12 v) (M (F + v))) → (∀ j, j < F → M j = I 143 j) → sm_wp X 146 198 [some (.ref 48), some (.int (zI F)), none, none, none, none, some (.int (zI (F + R))), none, some (.int (zI (F + i) + (-1)))] [] (sM true G (rw2 I 143 M) J) Q := by
  intro i
  induction i with
  | zero =>
    intro _ M h1 h2 h3
    have g : zI (F + 0) + (-1) < zI F := by
      cases F with
      | zero => decide
      | succ f =>
        rw [Nat.add_zero, zI_p1, zI_lt (by omega) (by omega)]
        omega
    rw [bk_146_198, if_pos g, bk_146_236, show zI (F + R) + 1 = zI (F + R + 1) from zIr_add 1 _]
    exact ⟨trivial, hQ M (fun v hv => h1 v hv (Nat.zero_le _)) h3⟩
  | succ i ih =>
    intro hi M h1 h2 h3
    rw [show F + (i + 1) = (F + i) + 1 from rfl, zI_p1, bk_146_198, if_neg (by rw [zI_lt (by omega) (by omega)]; omega), show zI (F + i) + 1 = zI (F + i + 1) from zIr_add 1 _, zI_vp (by omega), zI_vp (by omega), zI_cn (by omega), zI_cn (by omega), rw2_a, up2_rw, rw2_a, rw2_rw]
    have c1 : F + i < 5955 := by omega
    refine ⟨c1, by omega, trivial, c1, ?_⟩
    refine ih (by omega) _ (fun v hv hiv => ?_) (fun v hv => ?_) (fun j hj => ?_)
    · rw [va_ap]
      by_cases g : v = i
      · subst g
        rw [if_pos rfl]
        have q1 := h1 (v + 1) (by omega) (Nat.le_refl _)
        have q2 := h2 v (by omega)
        have q3 : (if M (F + v) < M (F + v + 1) then M (F + v + 1) else M (F + v)) = (if M (F + v + 1) ≤ M (F + v) then M (F + v) else M (F + v + 1)) := by
          by_cases g : M (F + v + 1) ≤ M (F + v)
          · rw [if_pos g, if_neg (Int32.not_lt.mpr g)]
          · rw [if_neg g, if_pos (Int32.not_le.mp g)]
        rw [q3]
        refine rv_g (rv_or (by omega) q2 q1) (fun y => ⟨?_, ?_⟩)
        · rintro ⟨u, hu, e⟩
          by_cases g : u = v
          · subst g; exact Or.inl e
          · exact Or.inr ⟨u, by omega, e⟩
        · rintro (e | ⟨u, hu, e⟩)
          · exact ⟨v, Nat.le_refl _, e⟩
          · exact ⟨u, by omega, e⟩
      · rw [if_neg (by omega)]
        exact h1 v hv (by omega)
    · rw [va_ap, if_neg (by omega)]
      exact h2 v (by omega)
    · rw [va_ap, if_neg (by omega)]
      exact h3 j hj
theorem l2_146 {S : Int32} {a b F R : Nat} (ha : a < 6) (hb : b < 6) (hW : okW (I 13)) (hF : F + R < 5955) (hR : wA (I 13) a S 12 = R) (hQ : ∀ M, (∀ v, v ≤ R → rv 1188 (sfp (I 13) S a b v) (M (F + v))) → (∀ j, j < F → M j = I 143 j) → Q (some (.int (zI (F + R + 1)))) (sM true G (rw2 I 143 M) J)) : ∀ d k, k + d = 12 → ∀ M, rwk (I 13) S a b k F R M → (∀ j, j < F → M j = I 143 j) → sm_wp X 146 127 [some (.ref 48), some (.int (zI F)), some (.int (zI a)), some (.int (zI b)), none, some (.int S), some (.int (zI (F + R))), some (.int (zI (F + wA (I 13) a S k))), some (.int (zI k))] [] (sM true G (rw2 I 143 M) J) Q := by
  intro d
  induction d with
  | zero =>
    intro k hk M h1 h2
    have : k = 12 := by omega
    subst this
    rw [bk_146_127, if_pos (by decide), bk_146_192]
    have e : zI (F + R) - 1 = zI (F + R) + (-1) := Int32.sub_eq_add_neg _ _
    rw [e]
    refine l3_146 hF hR hQ R (Nat.le_refl _) M (fun v hv hv2 => ?_) (fun v hv => h1 v (by omega)) h2
    have : v = R := by omega
    subst this
    refine rv_g (h1 v hv) (fun y => ⟨?_, fun e => ⟨v, Nat.le_refl _, e⟩⟩)
    rintro ⟨u, hu, e2⟩
    by_cases g : u = v
    · rw [g] at e2; exact e2
    · exact absurd e2 (rch_no (by omega) y)
  | succ d ih =>
    intro k hk M h1 h2
    have c12 : ¬ (12 : Int32) ≤ zI k := by rw [zIl_le (c := 12) (by decide) (by omega)]; show ¬ 12 ≤ k; omega
    have e13 : rw2 I 143 M 13 = I 13 := rw2_n _ _ _ _ (by decide)
    rw [bk_146_127, if_neg c12, ct_House_hasBit]
    simp only [tl_some]
    have eb : bi (hBit S (zI k)) = if bt S k = true then 1 else 0 := by
      unfold bi
      by_cases g : bt S k = true
      · rw [if_pos g, if_pos (by rw [hb_bt S k (by omega)]; exact g)]
      · rw [if_neg g, if_neg (by rw [hb_bt S k (by omega)]; exact g)]
    rw [bk_146_141, eb]
    cases g : bt S k with
    | false =>
      rw [if_pos (by decide), bk_146_186, show zI k + 1 = zI (k + 1) from zIr_add 1 k, ← wA_q (W := I 13) (s := a) g]
      exact ih (k + 1) (by omega) M (rwk_q (by omega) g h1) h2
    | true =>
      rw [if_neg (by decide), ct_Realm_worthOf, e13, wof_w hW ha (by omega)]
      simp only [tl_some]
      rw [bk_146_156, ct_Realm_worthOf, e13, wof_w hW ha (by omega), zI_add, Nat.add_assoc, ← wA_p (W := I 13) (s := a) g]
      simp only [tl_some]
      rw [bk_146_173, ct_Realm_worthOf, e13, wof_w hW hb (by omega)]
      simp only [tl_some]
      have le : wA (I 13) a S (k + 1) ≤ R := by
        rw [← hR, show 12 = (k + 1) + (12 - (k + 1)) from by omega]
        have mon : ∀ e, wA (I 13) a S (k + 1) ≤ wA (I 13) a S (k + 1 + e) := by
          intro e
          induction e with
          | zero => exact Nat.le_refl _
          | succ e ih2 =>
            rw [← Nat.add_assoc, wA_s _ _ _ (k + 1 + e)]
            split <;> omega
        exact mon _
      rw [bk_146_183, ct_148 (by omega) (ww_le hW a k), rw2_a, rw2_rw]
      simp only [tl_none]
      rw [bk_146_186, show zI k + 1 = zI (k + 1) from zIr_add 1 k]
      refine ih (k + 1) (by omega) _ (rwk_p hW (by omega) g h1) (fun j hj => ?_)
      unfold adR
      rw [if_neg (by omega)]
      exact h2 j hj
theorem ct_146 {n a b F R : Nat} (hn : I 1 0 = zI n) (h12 : n ≤ 12) (hab : a < b) (hb : b < 6) (hW : okW (I 13)) (hF : F + R < 5955) (hR : wA (I 13) a (hlds (I 4) (zI a) n ||| hlds (I 4) (zI b) n) n = R) (hS : ∀ l, n ≤ l → bt (hlds (I 4) (zI a) n ||| hlds (I 4) (zI b) n) l = false) (hQ : ∀ M, (∀ v, v ≤ R → rv 1188 (sfp (I 13) (hlds (I 4) (zI a) n ||| hlds (I 4) (zI b) n) a b v) (M (F + v))) → (∀ j, j < F → M j = I 143 j) → Q (some (.int (zI (F + R + 1)))) (sM true G (rw2 (up2 (up2 I 49 (pr2 a b) (zI F)) 50 (pr2 a b) (zI R)) 143 M) J)) : sm_wp X 146 0 [some (.ref 48), some (.int (zI F)), some (.int (zI a)), some (.int (zI b)), none, none, none, none, none] [] (sM true G I J) Q := by
  have p15 := pr2_lt hab hb
  rw [bk_146_0, bk_147_0, pr2_z (by omega) hb]
  refine ⟨by decide, ?_⟩
  refine ⟨trivial, ?_⟩
  simp only [tl_some]
  rw [bk_146_5, ct_landsHeld _ _ _ _ _ _ hn h12]
  simp only [tl_some]
  rw [bk_146_15, ct_landsHeld _ _ _ _ _ _ hn h12]
  simp only [tl_some]
  rw [bk_146_23, ct_worthOfLands _ _ _ _ _ _ hn h12, wsum_w hW (by omega) h12, hR]
  simp only [tl_some]
  generalize hlds (I 4) (zI a) n ||| hlds (I 4) (zI b) n = S at *
  have hR2 : wA (I 13) a S 12 = R := by
    rw [show 12 = n + (12 - n) from by omega, wA_t hS]
    exact hR
  rw [bk_146_37, if_neg (by rw [zIr_lt (c := 0) (by decide) (by omega)]; exact Nat.not_lt_zero _), if_neg (by rw [zIl_le (c := 15) (by decide) (by omega)]; show ¬ 15 ≤ pr2 a b; omega), if_neg (by rw [zIr_lt (c := 0) (by decide) (by omega)]; exact Nat.not_lt_zero _), zI_add, if_pos (by rw [show Int32.ofNat 5955 = zI 5955 from rfl, zI_lt (by omega) (by omega)]; exact hF), bk_146_68, zI_vp (by omega), zI_cn (by omega), zI_sub (by omega), show F + R - F = R from by omega]
  refine ⟨p15, p15, ?_⟩
  have e13 : up2 (up2 I 49 (pr2 a b) (zI F)) 50 (pr2 a b) (zI R) 13 = I 13 := by simp (decide := true) only [up2_ra, up2_rn, va_ap, ne_eq, if_false, if_true, not_false_eq_true]
  have e143 : up2 (up2 I 49 (pr2 a b) (zI F)) 50 (pr2 a b) (zI R) 143 = I 143 := by simp (decide := true) only [up2_ra, up2_rn, va_ap, ne_eq, if_false, if_true, not_false_eq_true]
  generalize up2 (up2 I 49 (pr2 a b) (zI F)) 50 (pr2 a b) (zI R) = K at *
  rw [← e13] at hR2 hW hQ
  rw [← e143] at hQ
  have l1 : ∀ d i, i + d = R + 1 → ∀ M, (∀ v, v < i → M (F + v) = if v = 0 then 0 else -1) → (∀ j, j < F → M j = K 143 j) → sm_wp X 146 90 [some (.ref 48), some (.int (zI F)), some (.int (zI a)), some (.int (zI b)), none, some (.int S), some (.int (zI (F + R))), some (.int (zI (F + i))), none] [] (sM true G (rw2 K 143 M) J) Q := by
    intro d
    induction d with
    | zero =>
      intro i hi M h1 h2
      have : i = R + 1 := by omega
      subst this
      rw [bk_146_90, if_pos (by rw [zI_lt (by omega) (by omega)]; omega), bk_146_121]
      have q := l2_146 (X := X) (G := G) (J := J) (Q := Q) (by omega : a < 6) hb hW hF hR2 hQ 12 0 (by omega) M (rwk_0 (fun v hv => h1 v (by omega))) h2
      exact q
    | succ d ih =>
      intro i hi M h1 h2
      have st : ∀ x : Int32, (x = if i = 0 then 0 else -1) → sm_wp X 146 90 [some (.ref 48), some (.int (zI F)), some (.int (zI a)), some (.int (zI b)), none, some (.int S), some (.int (zI (F + R))), some (.int (zI (F + i) + 1)), none] [] (sM true G (up2 (rw2 K 143 M) 143 (F + i) x) J) Q := by
        intro x hx
        rw [show zI (F + i) + 1 = zI (F + (i + 1)) from zIr_add 1 _, up2_rw, rw2_a, rw2_rw]
        refine ih (i + 1) (by omega) _ (fun v hv => ?_) (fun j hj => ?_)
        · rw [va_ap]
          by_cases g : v = i
          · subst g
            rw [if_pos rfl]
            exact hx
          · rw [if_neg (by omega)]
            exact h1 v (by omega)
        · rw [va_ap, if_neg (by omega)]
          exact h2 j hj
      rw [bk_146_90, if_neg (by rw [zI_lt (by omega) (by omega)]; omega)]
      by_cases g : i = 0
      · subst g
        rw [if_neg (fun e => e rfl), bk_146_114, zI_vp (by omega), zI_cn (by omega)]
        exact ⟨by omega, st 0 rfl⟩
      · rw [if_pos (by rw [zI_eq (by omega) (by omega)]; omega), bk_146_113, zI_vp (by omega), zI_cn (by omega)]
        exact ⟨by omega, st (-1) (by rw [if_neg g])⟩
  have q := l1 (R + 1) 0 (by omega) (K 143) (fun v hv => absurd hv (Nat.not_lt_zero _)) (fun j _ => rfl)
  rw [rw2_self] at q
  exact q
end S2
