/-! note agrees; offer. -/
section O2
variable {X : (Nat → Int32) × Nat} {c : Nat} {mo : Bool} {G : Nat × Nat} {I : Nat → Nat → Int32} {J : Nat → Nat → Int64}
theorem op_note (h : inv c mo G I J) (x y w : Int32) : Agr X 179 [some (.ref 0), some (.int x), some (.int y), some (.int w), none] 249 [some (.ref 81), some (.int x), some (.int y), some (.int w), none, none] (sM mo G I J) (Inv (c + 1)) := by
  have hv := inv_t 0 h
  obtain ⟨n, m, t, p, q, r, ch, ln, ⟨hn, hn', h12, hm, hm', h6, hp, hpb, ht, ht', h300⟩, hE, hV, hY, hG, hK, hP, ⟨hq, hq', h20, hs⟩, hA, hT, hF, hB, hC, hD, hD2, hX, hZ⟩ := h
  obtain ⟨p1, p2, p3, ⟨f1, f2, f3, f4, f5, f6, f7, f8, f9, f10, f11⟩, p5, p6, p7⟩ := hP
  unfold Agr
  rw [nH_note _ _ _ _ _ _ hm h6 p1 p3 ht hq h20]
  by_cases g : ((sIn x m ∧ bt (I 1 2) x.toNatClampNeg = true) ∧ (sIn y m ∧ bt (I 1 2) y.toNatClampNeg = true) ∧ (¬ w < 1 ∧ ¬ 99 < w)) ∧ p < 60
  · rw [if_pos g, nM_note _ _ _ _ _ _ (m := m) (t := t) (p := p) (q := q) (by simp (decide := true) only [adC, up2_ra, up2_rn, va_ap, ne_eq, if_false, if_true, not_false_eq_true]; exact hm') h6 (by simp (decide := true) only [adC, up2_ra, up2_rn, va_ap, ne_eq, if_false, if_true, not_false_eq_true]; exact p2) p3 (by simp (decide := true) only [adC, up2_ra, up2_rn, va_ap, ne_eq, if_false, if_true, not_false_eq_true]; exact ht') (by simp (decide := true) only [adC, up2_ra, up2_rn, va_ap, ne_eq, if_false, if_true, not_false_eq_true]; exact hq') h20 (by simp (decide := true) only [adC, up2_ra, up2_rn, va_ap, ne_eq, if_false, if_true, not_false_eq_true]; exact hs), if_pos (by simp (decide := true) only [adC, up2_ra, up2_rn, va_ap, ne_eq, if_false, if_true, not_false_eq_true]; rw [hp]; exact g)]
    have eo : opn (up2 (up2 (adC I p x y) 35 p w) 36 p (if x = y then opn I x (zI t) q else 0)) x (zI t) q = opn I x (zI t) q := by
      unfold opn
      simp (decide := true) only [adC, up2_ra, up2_rn, va_ap, ne_eq, if_false, if_true, not_false_eq_true]
    rw [eo]
    generalize (if x = y then opn I x (zI t) q else 0) = o
    obtain ⟨sx, hsx, -, rfl⟩ := sIn_ex g.1.1.1
    obtain ⟨sy, hsy, -, rfl⟩ := sIn_ex g.1.2.1.1
    refine ⟨rfl, mo, G, _, _, rfl, n, m, t, p + 1, q, r, ch, ln, ?_⟩
    simp (decide := true) only [adC, ntM, up2_ra, up2_rn, va_ap, ne_eq, if_false, if_true, not_false_eq_true]
    refine ⟨⟨hn, hn', h12, hm, hm', h6, hp, hpb, ht, ht', h300⟩, hE, hV, ?_, hG, ivK_s hK, ⟨rfl, rfl, by omega, ⟨by rw [f1], by rw [f2], by rw [f3, ht, ht'], f4, f5, f6, by rw [f7], by rw [f8], by rw [f9], trivial, by rw [f11]⟩, fun k hk => ?_, fun k hk => ?_, fun k hk => ?_⟩, ⟨hq, hq', h20, hs⟩, hA, hT, hF, hB, hC, hD, hD2, hX, ivZ_s hZ⟩
    · obtain ⟨y1, y2, y3⟩ := hY
      exact ⟨y1, fun l => by rw [nBound_s (by decide)]; exact y2 l, y3⟩
    · have e : ¬ k = p := by omega
      simp only [va_ap, e, if_false]
      exact p5 k (by omega)
    · by_cases e : k = p
      · simp only [va_ap, e, if_true]
        exact ⟨⟨sx, hsx, rfl⟩, ⟨sy, hsy, rfl⟩, t, Nat.le_refl _, ht⟩
      · simp only [va_ap, e, if_false]
        exact p6 k (by omega)
    · by_cases e : k = p
      · simp only [va_ap, e, if_true]
        exact Or.inl ⟨trivial, trivial, trivial, trivial⟩
      · simp only [va_ap, e, if_false]
        rcases p7 k (by omega) with a | ⟨a1, a2, a3, a4, a5, a6, a7, a8, a9, a10, a11⟩
        · exact Or.inl a
        · refine Or.inr ⟨a1, a2, a3, a4, a5, a6, a7, a8, a9, ?_, a11⟩
          rcases a10 with b | ⟨j, j1, j2, j3, j4⟩
          · exact Or.inl b
          · have e2 : ¬ j = p := by omega
            exact Or.inr ⟨j, j1, j2, by rw [if_neg e2]; exact j3, by rw [if_neg e2]; exact j4⟩
  · rw [if_neg g, nM_note _ _ _ _ _ _ hm' h6 p2 p3 ht' hq' h20 hs, if_neg (by rw [hp]; exact g)]
    exact ⟨rfl, hv⟩
end O2
theorem bt_z (k j : Nat) (hj : j < 32) : bt (zI k) j = k.testBit j := by
  unfold bt zI
  rw [show (Int32.ofNat k).toBitVec = BitVec.ofNat 32 k from rfl, BitVec.getLsbD_ofNat]
  simp [hj]
theorem one_sh : ∀ n : Fin 13, (1 : Int32) <<< (zI n.val &&& 31) = zI (2 ^ n.val) := by decide +kernel
theorem in_b {n : Nat} (hn : n ≤ 12) (x : Int32) : (¬ x < 0 ∧ ¬ (1 : Int32) <<< (zI n &&& 31) ≤ x) ↔ ∀ k, n ≤ k → bt x k = false := by
  have e := one_sh ⟨n, by omega⟩
  simp only at e
  rw [e]
  have h2 : 2 ^ n ≤ 2 ^ 12 := Nat.pow_le_pow_right (by decide) hn
  constructor
  · rintro ⟨h1, h3⟩
    obtain ⟨k, hk, rfl⟩ := zI_of h1
    rw [zI_le (by omega) hk] at h3
    intro j hj
    by_cases h32 : j < 32
    · rw [bt_z _ _ h32]
      exact Nat.testBit_lt_two_pow (Nat.lt_of_lt_of_le (by omega) (Nat.pow_le_pow_right (by decide) hj))
    · exact bt_big _ _ (by omega)
  · intro h
    obtain ⟨k, hk, rfl⟩ := bt_nat (by omega) h
    refine ⟨?_, ?_⟩
    · rw [zIr_lt (c := 0) (by decide) (by omega)]
      exact Nat.not_lt_zero _
    · rw [zI_le (by omega) (by omega)]
      omega
theorem ms_b {n : Nat} (hn : n ≤ 12) (l : Nat) (hl : l < 32) : bt ((((1 : Int32) <<< (zI n &&& 31)) - 1) ^^^ (-1)) l = decide (n ≤ l) := by
  have hh := (by decide +kernel : ∀ n : Fin 13, ∀ l : Fin 32, bt ((((1 : Int32) <<< (zI n.val &&& 31)) - 1) ^^^ (-1)) l.val = decide (n.val ≤ l.val))
  exact hh ⟨n, by omega⟩ ⟨l, hl⟩
theorem of_m {n : Nat} (hn : n ≤ 12) (x : Int32) : (x &&& ((((1 : Int32) <<< (zI n &&& 31)) - 1) ^^^ (-1)) = 0) ↔ ∀ k, n ≤ k → bt x k = false := by
  rw [bt_eq0]
  constructor
  · intro h k hk
    by_cases h32 : k < 32
    · have := h k h32
      rw [bt_and, ms_b hn k h32, decide_eq_true hk, Bool.and_true] at this
      exact this
    · exact bt_big _ _ (by omega)
  · intro h k hk
    rw [bt_and, ms_b hn k hk]
    by_cases e : n ≤ k
    · rw [h k e, Bool.false_and]
    · rw [decide_eq_false e, Bool.and_false]
theorem or_0 (x y : Int32) : x ||| y = 0 ↔ x = 0 ∧ y = 0 := by
  rw [bt_eq0, bt_eq0, bt_eq0]
  constructor
  · intro h
    refine ⟨fun k hk => ?_, fun k hk => ?_⟩
    · have := h k hk
      rw [bt_or] at this
      exact (Bool.or_eq_false_iff.mp this).1
    · have := h k hk
      rw [bt_or] at this
      exact (Bool.or_eq_false_iff.mp this).2
  · rintro ⟨h1, h2⟩ k hk
    rw [bt_or, h1 k hk, h2 k hk]
    rfl
theorem of_eq {n : Nat} (hn : n ≤ 12) (x y : Int32) : (¬ x ||| y = 0 ∧ x &&& y = 0 ∧ (x ||| y) &&& ((((1 : Int32) <<< (zI n &&& 31)) - 1) ^^^ (-1)) = 0) ↔ (¬ x < 0 ∧ ¬ (1 : Int32) <<< (zI n &&& 31) ≤ x ∧ ¬ y < 0 ∧ ¬ (1 : Int32) <<< (zI n &&& 31) ≤ y ∧ ¬ x + y = 0 ∧ x &&& y = 0) := by
  have hx := in_b hn x
  have hy := in_b hn y
  have hs : (∀ k, n ≤ k → bt x k = false) → (∀ k, n ≤ k → bt y k = false) → (x + y = 0 ↔ x ||| y = 0) := by
    intro h1 h2
    obtain ⟨a, ha, rfl⟩ := bt_nat (by omega) h1
    obtain ⟨b, hb, rfl⟩ := bt_nat (by omega) h2
    have h2 : 2 ^ n ≤ 2 ^ 12 := Nat.pow_le_pow_right (by decide) hn
    rw [or_0, zI_add, show (0 : Int32) = zI 0 from rfl, zI_eq (by omega) (by omega), zI_eq (by omega) (by omega), zI_eq (by omega) (by omega)]
    omega
  rw [of_m hn]
  have ho : (∀ k, n ≤ k → bt (x ||| y) k = false) ↔ (∀ k, n ≤ k → bt x k = false) ∧ (∀ k, n ≤ k → bt y k = false) := by
    constructor
    · intro h
      refine ⟨fun k hk => ?_, fun k hk => ?_⟩
      · have := h k hk
        rw [bt_or] at this
        exact (Bool.or_eq_false_iff.mp this).1
      · have := h k hk
        rw [bt_or] at this
        exact (Bool.or_eq_false_iff.mp this).2
    · rintro ⟨h1, h2⟩ k hk
      rw [bt_or, h1 k hk, h2 k hk]
      rfl
  rw [ho]
  constructor
  · rintro ⟨h1, h2, h3, h4⟩
    have a := hx.mpr h3
    have b := hy.mpr h4
    exact ⟨a.1, a.2, b.1, b.2, fun e => h1 ((hs h3 h4).mp e), h2⟩
  · rintro ⟨a1, a2, b1, b2, h1, h2⟩
    have h3 := hx.mp ⟨a1, a2⟩
    have h4 := hy.mp ⟨b1, b2⟩
    exact ⟨fun e => h1 ((hs h3 h4).mpr e), h2, h3, h4⟩
