/-! orders: the books are written; orders agrees. -/
theorem rL_k {f e b b' : Nat} {c gb : Nat → Nat} {r95 r96 r95' r96' : Nat → Int32} (h : rL b f e c gb r95 r96) (h5 : ∀ i v, f ≤ i → i < e → r95 (b + gb i) = zI (b + v) → r95' (b' + gb i) = zI (b' + v)) (h6 : ∀ i v, f ≤ i → i < e → r96 (b + gb i) = zI (b + v) → r96' (b' + gb i) = zI (b' + v)) : rL b' f e c gb r95' r96' := by
  intro k hk
  obtain ⟨h1, h2⟩ := h k hk
  exact ⟨fun a => h5 _ _ (by omega) hk (h1 a), fun a => ⟨h6 _ _ (by omega) hk (h2 a).1, h5 _ _ (by omega) hk (h2 a).2⟩⟩
/-- other states' books stay -/
theorem bkS_c {s : Nat} (hs : s < 6) {r22 r23 r24 r25 q94 q95 q96 q97 q98 q99 q100 q101 q102 r22' r23' r24' r25' q94' q95' q96' q97' q98' q99' q100' q101' q102' : Nat → Int32} (h : bkS s r22 r23 r24 r25 q94 q95 q96 q97 q98 q99 q100 q101 q102)
    (e22 : r22' s = r22 s) (e102 : q102' s = q102 s) (e23 : ∀ j, j < 64 → r23' (64 * s + j) = r23 (64 * s + j)) (e24 : ∀ j, j < 16 → r24' (16 * s + j) = r24 (16 * s + j)) (e25 : ∀ j, j < 16 → r25' (16 * s + j) = r25 (16 * s + j))
    (e94 : ∀ j, j < 64 → q94' (64 * s + j) = q94 (64 * s + j)) (e95 : ∀ j, j < 64 → q95' (64 * s + j) = q95 (64 * s + j)) (e96 : ∀ j, j < 64 → q96' (64 * s + j) = q96 (64 * s + j)) (e97 : ∀ j, j < 64 → q97' (64 * s + j) = q97 (64 * s + j)) (e98 : ∀ j, j < 64 → q98' (64 * s + j) = q98 (64 * s + j))
    (e99 : ∀ j, j < 16 → q99' (16 * s + j) = q99 (16 * s + j)) (e100 : ∀ j, j < 16 → q100' (16 * s + j) = q100 (16 * s + j)) (e101 : ∀ j, j < 16 → q101' (16 * s + j) = q101 (16 * s + j)) : bkS s r22' r23' r24' r25' q94' q95' q96' q97' q98' q99' q100' q101' q102' := by
  obtain ⟨m, c, gb, vb, le, h1, h2, h3, ⟨T, hc, hi⟩, hl⟩ := h
  refine ⟨m, c, gb, vb, le, by rw [e22]; exact h1, by rw [e102]; exact h2, h3, ⟨T, fun i hi => ?_, hi⟩, fun i hi => ?_⟩
  · obtain ⟨a1, a2, a3, a4, a5, a6⟩ := hc i hi
    exact ⟨by rw [e23 i (by omega)]; exact a1, a2, by rw [e98 i (by omega)]; exact a3, a4, by rw [e94 _ a4]; exact a5, by rw [e97 _ a4]; exact a6⟩
  · obtain ⟨a1, a2, a3, a4, a5, a6, a7, a8, a9, a10, a11⟩ := hl i hi
    refine ⟨by rw [e24 i (by omega)]; exact a1, by rw [e99 i (by omega)]; exact a2, a3, by rw [e25 i (by omega)]; exact a4, by rw [e100 i (by omega)]; exact a5, by rw [e101 i (by omega)]; exact a6, a7, a8, a9, a10, rL_k a11 (fun j v _ hj e => ?_) (fun j v _ hj e => ?_)⟩
    · rw [e95 _ (hc j (by omega)).2.2.2.1]; exact e
    · rw [e96 _ (hc j (by omega)).2.2.2.1]; exact e
theorem inv_o {c : Nat} {mo : Bool} {G : Nat × Nat} {I V : Nat → Nat → Int32} {J : Nat → Nat → Int64} (h : inv c mo G I J) (hd : ∀ d, ¬ d = 14 → d < 16 ∨ (20 < d ∧ d < 22) ∨ (25 < d ∧ d < 81) ∨ (81 < d ∧ d < 94) ∨ 106 < d → V d = I d) (h14 : V 14 0 = 0) (h81 : V 81 1 = 0) (hj : ∀ j, j = 3 ∨ j = 10 ∨ j = 15 ∨ j = 16 ∨ j = 46 ∨ j = 60 ∨ j = 81 → V 81 j = I 81 j) (hf : V 81 18 = V 16 0 ∧ V 81 19 = V 16 1)
    (hB' : ivB (V 22) (V 23) (V 24) (V 25) (V 94) (V 95) (V 96) (V 97) (V 98) (V 99) (V 100) (V 101) (V 102)) : inv (c + 1) mo G V J := by
  obtain ⟨n, m, t, p, q, r, ch, ln, hN, hE, hV, hY, hG, hK, hP, hS, hA, ⟨t1, t2, t3, t4⟩, hF, hB, hC, hD, hD2, hX, hZ⟩ := h
  refine ⟨n, m, t, p, q, r, ch, 0, ?_⟩
  simp (decide := true) only [hd, hj]
  exact ⟨hN, hE, hV, hY, hG, ivK_s hK, hP, hS, hA, ⟨h14, h81, by omega, t4⟩, hf, hB', hC, hD, hD2, hX, ivZ_s hZ⟩
section O3
variable {X : (Nat → Int32) × Nat} {mo : Bool} {G : Nat × Nat} {J : Nat → Nat → Int64} {Q : Option Value → sm_M → Prop}
/-- the class's copies -/
theorem c_c1 {s : Nat} (hs : s < 6) : ∀ f j, j + f = 64 → ∀ K, (∀ L, (∀ d, ¬ d = 23 → L d = K d) → (∀ i, i < 64 * s + j ∨ 64 * s + 64 ≤ i → L 23 i = K 23 i) → (∀ i, j ≤ i → i < 64 → L 23 (64 * s + i) = K 17 i) → sm_wp X 40 59 [some (.ref 21), some (.ref 16), some (.int (zI s)), some (.int 0)] [] (sM mo G L J) Q) → sm_wp X 40 28 [some (.ref 21), some (.ref 16), some (.int (zI s)), some (.int (zI j))] [] (sM mo G K J) Q := by
  intro f
  induction f with
  | zero =>
    intro j hj K hQ
    rw [lp_40_28, if_pos (by rw [zIl_le (c := 64) (by decide) (by omega)]; show 64 ≤ j; omega)]
    exact hQ K (fun _ _ => rfl) (fun _ _ => rfl) (fun i a b => by omega)
  | succ f ih =>
    intro j hj K hQ
    rw [lp_40_28, if_neg (by rw [zIl_le (c := 64) (by decide) (by omega)]; show ¬ 64 ≤ j; omega), show zI s * (64 : Int32) = zI (s * 64) from zIr_mul 64 s, zI_add, zI_vp (by omega), zI_vp (by omega), zI_cn (by omega), zI_cn (by omega), show zI j + 1 = zI (j + 1) from zIr_add 1 j]
    refine ⟨by omega, by omega, ih (j + 1) (by omega) _ (fun L l1 l2 l3 => ?_)⟩
    refine hQ L (fun d hd => by rw [l1 d hd, up2_rn _ _ _ _ _ hd]) (fun i hi => ?_) (fun i a b => ?_)
    · rw [l2 i (by omega), up2_ra, va_ap, if_neg (by omega)]
    · by_cases e : i = j
      · rw [e, l2 _ (by omega), up2_ra, va_ap, if_pos (by omega)]
      · rw [l3 i (by omega) b, up2_rn _ _ _ _ _ (by decide)]
theorem c_c2 {s : Nat} (hs : s < 6) : ∀ f j, j + f = 16 → ∀ K, (∀ L, (∀ d, ¬ d = 24 → ¬ d = 25 → L d = K d) → (∀ i, i < 16 * s + j ∨ 16 * s + 16 ≤ i → L 24 i = K 24 i ∧ L 25 i = K 25 i) → (∀ i, j ≤ i → i < 16 → L 24 (16 * s + i) = K 18 i ∧ L 25 (16 * s + i) = K 19 i) → Q none (sM mo G L J)) → sm_wp X 40 59 [some (.ref 21), some (.ref 16), some (.int (zI s)), some (.int (zI j))] [] (sM mo G K J) Q := by
  intro f
  induction f with
  | zero =>
    intro j hj K hQ
    rw [lp_40_59, if_pos (by rw [zIl_le (c := 16) (by decide) (by omega)]; show 16 ≤ j; omega)]
    exact hQ K (fun _ _ _ => rfl) (fun _ _ => ⟨rfl, rfl⟩) (fun i a b => by omega)
  | succ f ih =>
    intro j hj K hQ
    rw [lp_40_59, if_neg (by rw [zIl_le (c := 16) (by decide) (by omega)]; show ¬ 16 ≤ j; omega), show zI s * (16 : Int32) = zI (s * 16) from zIr_mul 16 s, zI_add, zI_vp (by omega), zI_vp (by omega), zI_cn (by omega), zI_cn (by omega), show zI j + 1 = zI (j + 1) from zIr_add 1 j]
    refine ⟨by omega, by omega, ih (j + 1) (by omega) _ (fun L l1 l2 l3 => ?_)⟩
    refine hQ L (fun d a b => by rw [l1 d a b, up2_rn _ _ _ _ _ b, up2_rn _ _ _ _ _ a]) (fun i hi => ?_) (fun i a b => ?_)
    · have := l2 i (by omega)
      have nn : ¬ i = s * 16 + j := by omega
      rw [this.1, this.2]
      simp (decide := true) only [up2_ra, up2_rn, va_ap, ne_eq, if_false, if_true, not_false_eq_true, nn, and_self]
    · by_cases e : i = j
      · have := l2 (16 * s + j) (by omega)
        rw [e, this.1, this.2, up2_ra, va_ap, if_pos (by omega), up2_rn _ _ _ _ _ (by decide), up2_ra, va_ap, if_pos (by omega)]
        exact ⟨rfl, rfl⟩
      · have := l3 i (by omega) b
        rw [this.1, this.2, up2_rn _ _ _ _ _ (by decide), up2_rn _ _ _ _ _ (by decide), up2_rn _ _ _ _ _ (by decide), up2_rn _ _ _ _ _ (by decide)]
        exact ⟨rfl, rfl⟩
/-- the reference's copies -/
theorem r_c1 {s kn : Nat} (hs : s < 6) (h64 : kn ≤ 64) : ∀ f j, j + f = kn → ∀ K, K 81 34 = zI kn → (∀ L, (∀ d, d < 94 ∨ 98 < d → L d = K d) → (∀ d i, 94 ≤ d → d ≤ 98 → i < 64 * s + j ∨ 64 * s + kn ≤ i → L d i = K d i) → (∀ i, j ≤ i → i < kn → L 94 (64 * s + i) = K 94 (384 + i) ∧ L 97 (64 * s + i) = K 97 (384 + i) ∧ L 95 (64 * s + i) = K 95 (384 + i) - zI (384 - 64 * s) ∧ L 96 (64 * s + i) = K 96 (384 + i) - zI (384 - 64 * s) ∧ L 98 (64 * s + i) = K 98 (384 + i) - zI (384 - 64 * s)) → sm_wp X 225 228 [some (.ref 81), none, some (.int (zI s)), none, some (.int 0)] [] (sM mo G (up2 L 102 s (L 102 6)) J) Q) → sm_wp X 225 106 [some (.ref 81), none, some (.int (zI s)), some (.int (zI (384 - 64 * s))), some (.int (zI (64 * s + j)))] [] (sM mo G K J) Q := by
  intro f
  induction f with
  | zero =>
    intro j hj K k34 hQ
    rw [lp_225_106, k34, show (64 : Int32) * zI s = zI (64 * s) from zIl_mul 64 s, zI_add, if_pos (by rw [zI_le (by omega) (by omega)]; omega), zI_vp (by omega), zI_cn (by omega), show (6 : Int32).toNatClampNeg = 6 from rfl]
    exact ⟨v67, by omega, hQ K (fun _ _ => rfl) (fun _ _ _ _ _ => rfl) (fun i a b => by omega)⟩
  | succ f ih =>
    intro j hj K k34 hQ
    rw [lp_225_106, k34, show (64 : Int32) * zI s = zI (64 * s) from zIl_mul 64 s, zI_add, if_neg (by rw [zI_le (by omega) (by omega)]; omega), zI_add, zI_vp (by omega), zI_vp (by omega), zI_cn (by omega), zI_cn (by omega), show zI (64 * s + j) + 1 = zI (64 * s + (j + 1)) from zIr_add 1 _, show 64 * s + j + (384 - 64 * s) = 384 + j from by omega]
    refine ⟨by omega, by omega, ih (j + 1) (by omega) _ (by simp (decide := true) only [up2_ra, up2_rn, va_ap, ne_eq, if_false, if_true, not_false_eq_true]; exact k34) (fun L l1 l2 l3 => ?_)⟩
    refine hQ L (fun d hd => by rw [l1 d hd]; simp only [up2_rn, ne_eq, show ¬ d = 94 from by omega, show ¬ d = 95 from by omega, show ¬ d = 96 from by omega, show ¬ d = 97 from by omega, show ¬ d = 98 from by omega, not_false_eq_true]) (fun d i a b hi => ?_) (fun i a b => ?_)
    · rw [l2 d i a b (by omega)]
      have ne : ∀ (U : Nat → Nat → Int32) (e : Nat) (v : Int32), up2 U e (64 * s + j) v d i = U d i := fun U e v => by
        rw [up2_ap]
        split
        · rw [if_neg (by omega)]
        · rfl
      rw [ne, ne, ne, ne, ne]
    · by_cases e : i = j
      · subst e
        rw [l2 94 _ (by decide) (by decide) (by omega), l2 95 _ (by decide) (by decide) (by omega), l2 96 _ (by decide) (by decide) (by omega), l2 97 _ (by decide) (by decide) (by omega), l2 98 _ (by decide) (by decide) (by omega)]
        simp (decide := true) only [up2_ra, up2_rn, va_ap, ne_eq, if_false, if_true, not_false_eq_true, and_self]
      · have := l3 i (by omega) b
        have n1 : ¬ 384 + i = 64 * s + j := by omega
        rw [this.1, this.2.1, this.2.2.1, this.2.2.2.1, this.2.2.2.2]
        simp (decide := true) only [up2_ra, up2_rn, va_ap, ne_eq, if_false, if_true, not_false_eq_true, n1, and_self]
theorem r_c2 {s m : Nat} (hs : s < 6) (h16 : m ≤ 16) : ∀ f j, j + f = m → ∀ K, K 102 s = zI m → (∀ L, (∀ d, d < 99 ∨ 101 < d → L d = K d) → (∀ d i, 99 ≤ d → d ≤ 101 → i < 16 * s + j ∨ 16 * s + m ≤ i → L d i = K d i) → (∀ d i, 99 ≤ d → d ≤ 101 → j ≤ i → i < m → L d (16 * s + i) = K d (96 + i)) → Q (some (.int (zI m))) (sM mo G L J)) → sm_wp X 225 228 [some (.ref 81), none, some (.int (zI s)), none, some (.int (zI j))] [] (sM mo G K J) Q := by
  intro f
  induction f with
  | zero =>
    intro j hj K k102 hQ
    rw [lp_225_228, zI_vp (by omega), zI_cn (by omega), k102, if_pos (by rw [zI_le (by omega) (by omega)]; omega)]
    exact ⟨by omega, hQ K (fun _ _ => rfl) (fun _ _ _ _ _ => rfl) (fun d i a b e f => by omega)⟩
  | succ f ih =>
    intro j hj K k102 hQ
    rw [lp_225_228, zI_vp (by omega), zI_cn (by omega), k102, if_neg (by rw [zI_le (by omega) (by omega)]; omega), show (16 : Int32) * zI s = zI (16 * s) from zIl_mul 16 s, zI_add, show (96 : Int32) + zI j = zI (96 + j) from zIl_add 96 j, zI_vp (by omega), zI_vp (by omega), zI_cn (by omega), zI_cn (by omega), show zI j + 1 = zI (j + 1) from zIr_add 1 j]
    refine ⟨by omega, by omega, by omega, ih (j + 1) (by omega) _ (by simp (decide := true) only [up2_ra, up2_rn, va_ap, ne_eq, if_false, if_true, not_false_eq_true]; exact k102) (fun L l1 l2 l3 => ?_)⟩
    have ne : ∀ (U : Nat → Nat → Int32) (d e i : Nat) (v : Int32), ¬ i = 16 * s + j → up2 U e (16 * s + j) v d i = U d i := fun U d e i v h => by
      rw [up2_ap]
      by_cases hh : d = e
      · rw [if_pos hh, if_neg h]
      · rw [if_neg hh]
    refine hQ L (fun d hd => by rw [l1 d hd]; simp only [up2_rn, ne_eq, show ¬ d = 99 from by omega, show ¬ d = 100 from by omega, show ¬ d = 101 from by omega, not_false_eq_true]) (fun d i a b hi => ?_) (fun d i a b p q => ?_)
    · rw [l2 d i a b (by omega), ne _ _ _ _ _ (by omega), ne _ _ _ _ _ (by omega), ne _ _ _ _ _ (by omega)]
    · by_cases e : i = j
      · subst e
        rw [l2 d _ a b (by omega)]
        have hd : d = 99 ∨ d = 100 ∨ d = 101 := by omega
        rcases hd with rfl | rfl | rfl
        · simp (decide := true) only [up2_ra, up2_rn, va_ap, ne_eq, if_false, if_true, not_false_eq_true]
        · simp (decide := true) only [up2_ra, up2_rn, va_ap, ne_eq, if_false, if_true, not_false_eq_true]
        · simp (decide := true) only [up2_ra, up2_rn, va_ap, ne_eq, if_false, if_true, not_false_eq_true]
      · rw [l3 d i a b (by omega) q, ne _ _ _ _ _ (by omega), ne _ _ _ _ _ (by omega), ne _ _ _ _ _ (by omega)]
end O3
