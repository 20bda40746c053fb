/-! The call: days. -/
theorem ivC_m {n m n' m' : Nat} {pr pr' : Int32} {r4 r5 r12 r13 r4' r5' r12' r13' r48 r49 r50 r143 r68 r69 r70 : Nat → Int32} {mo : Bool} {ch : Nat} (h : ivC ch n m pr r4 r5 r12 r13 mo r48 r49 r50 r143 r68 r69 r70) : ∀ k, ivC (ch + (k + 1)) n' m' pr' r4' r5' r12' r13' mo r48 r49 r50 r143 r68 r69 r70 := by
  intro k
  induction k with
  | zero => exact ivC_u h
  | succ k ih => exact ivC_u ih
theorem ivD_m {w : Bool} {n m n' m' : Nat} {pr pr' : Int32} {r4 r5 r12 r13 r4' r5' r12' r13' r52 r53 r54 r55 r56 r57 r58 r59 : Nat → Int32} {j52 : Nat → Int64} {ch : Nat} (h : ivD w ch n m pr r4 r5 r12 r13 r52 r53 r54 r55 r56 r57 r58 r59 j52) : ∀ k, ivD w (ch + (k + 1)) n' m' pr' r4' r5' r12' r13' r52 r53 r54 r55 r56 r57 r58 r59 j52 := by
  intro k
  induction k with
  | zero => exact ivD_u h
  | succ k ih => exact ivD_u ih
section F2
variable {X : (Nat → Int32) × Nat} {c : Nat} {mo : Bool} {G : Nat × Nat} {I : Nat → Nat → Int32} {J : Nat → Nat → Int64}
theorem inv_dy {n m t p q r ch ln nd : Nat} {K T : Nat → Nat → Int32} {J' : Nat → Nat → Int64}
    (hN : ivN n m t (I 1 0) (I 1 1) (I 1 2) (I 1 3) (I 81 3) (I 81 10) (I 81 15) (I 81 16))
    (hE : ivE (I 2) (I 4) (I 5) (I 6) (I 10) (I 11) (I 12) (I 13) (I 83) (I 85) (I 86) (I 87) (I 89) (I 90) (I 92) (I 91))
    (hV : ivV n m (I 2) (I 4) (I 5) (I 10) (I 11) (I 12) (I 13)) (hG : ivG (I 3) (I 84))
    (hP : ivP p n m t (I 31 0) (I 81 46) (I 32) (I 33) (I 34) (I 35) (I 36) (I 37) (I 38) (I 39) (I 40) (I 41) (I 42) (I 43) (I 44) (I 107) (I 108) (I 109) (I 110) (I 111) (I 112) (I 113) (I 114) (I 115) (I 116) (I 117) (I 118) (I 119))
    (hS : ivS q (I 26 0) (I 81 60) (I 27) (I 28) (I 29) (I 30) (I 120))
    (hA : ivA r (I 71 0) (I 81 81) (I 72) (I 73) (I 74) (I 75) (I 135) (I 136) (I 137) (I 138))
    (hT : ivT ln (I 14 0) (I 81 1) (I 15) (I 82)) (hF : ivF (I 16 0) (I 16 1) (I 81 18) (I 81 19))
    (hB : ivB (I 22) (I 23) (I 24) (I 25) (I 94) (I 95) (I 96) (I 97) (I 98) (I 99) (I 100) (I 101) (I 102))
    (hC : ivC ch n m (I 1 2) (I 4) (I 5) (I 12) (I 13) mo (I 48) (I 49) (I 50) (I 143) (I 68) (I 69) (I 70))
    (hD : ivD true ch n m (I 1 2) (I 4) (I 5) (I 12) (I 13) (I 52) (I 53) (I 54) (I 55) (I 56) (I 57) (I 58) (I 59) (J 52))
    (hD2 : ivD false ch n m (I 1 2) (I 4) (I 5) (I 12) (I 13) (I 60) (I 61) (I 62) (I 63) (I 64) (I 65) (I 66) (I 67) (J 60))
    (hX : ivX (I 93)) (hZ : ivZ c G) (h300 : t + nd ≤ 300) (wd : wdC n m p (t + nd) ch (c + 86400 * t + 86400 * nd) I K)
    (kc : ∀ d, (d < 81 ∨ 142 < d) → ¬ d = 45 → ¬ d = 1 → ¬ d = 4 → ¬ d = 6 → ¬ d = 7 → ¬ d = 8 → ¬ d = 9 → ¬ d = 42 → ¬ d = 43 → ¬ d = 44 → T d = I d)
    (kr : ∀ d, 81 < d → d ≤ 142 → ¬ d = 85 → ¬ d = 87 → ¬ d = 88 → ¬ d = 117 → ¬ d = 118 → ¬ d = 119 → ¬ d = 122 → T d = I d)
    (k1 : ∀ j, ¬ j = 3 → ¬ j = 4 → T 1 j = I 1 j) (k81 : ∀ j, ¬ j = 2 → ¬ j = 16 → ¬ j = 63 → T 81 j = I 81 j)
    (t3 : T 1 3 = K 1 3) (t16 : T 81 16 = K 1 3) (t14 : T 1 4 = K 1 4) (t4 : T 4 = K 4) (t6 : T 6 = K 6) (t7 : T 7 = K 7) (t8 : T 8 = K 8) (t9 : T 9 = K 9) (t42 : T 42 = K 42) (t44 : T 44 = K 44)
    (t85 : T 85 = K 4) (t87 : T 87 = K 6) (t117 : T 117 = K 42) (t119 : T 119 = K 44) (wy : wyE (K 7) (K 8) (K 9) (T 88)) (j52 : J' 52 = J 52) (j60 : J' 60 = J 60) : inv (c + 1) mo G T J' := by
  obtain ⟨w1, w2, ⟨t', -, rfl, w3⟩, ⟨ch', w4, w5, w6⟩, w7, w8, w9⟩ := wd
  obtain ⟨n1, n2, n3, n4, n5, n6, n7, n8, n9, n10, n11⟩ := hN
  obtain ⟨e1, e2, e3, e4, e5, e6, e7, e8⟩ := hE
  obtain ⟨v1, v2, v3, v4, v5, v6, v7, v8, v9⟩ := hV
  obtain ⟨p1, p2, p3, ⟨q1, q2, q3, q4, q5, q6, q7, q8, q9, q10, q11⟩, p4, p5, p6⟩ := hP
  have hch : ch' = ch ∧ K 4 = I 4 ∨ ch < ch' := w6
  have hCC : ivC ch' n m (I 1 2) (K 4) (I 5) (I 12) (I 13) mo (I 48) (I 49) (I 50) (I 143) (I 68) (I 69) (I 70) := by
    rcases hch with ⟨a, b⟩ | a
    · rw [a, b]; exact hC
    · have := ivC_m (n' := n) (m' := m) (pr' := I 1 2) (r4' := K 4) (r5' := I 5) (r12' := I 12) (r13' := I 13) hC (ch' - ch - 1)
      rw [show ch + (ch' - ch - 1 + 1) = ch' from by omega] at this
      exact this
  have hDD : ivD true ch' n m (I 1 2) (K 4) (I 5) (I 12) (I 13) (I 52) (I 53) (I 54) (I 55) (I 56) (I 57) (I 58) (I 59) (J 52) := by
    rcases hch with ⟨a, b⟩ | a
    · rw [a, b]; exact hD
    · have := ivD_m (n' := n) (m' := m) (pr' := I 1 2) (r4' := K 4) (r5' := I 5) (r12' := I 12) (r13' := I 13) hD (ch' - ch - 1)
      rw [show ch + (ch' - ch - 1 + 1) = ch' from by omega] at this
      exact this
  have hDE : ivD false ch' n m (I 1 2) (K 4) (I 5) (I 12) (I 13) (I 60) (I 61) (I 62) (I 63) (I 64) (I 65) (I 66) (I 67) (J 60) := by
    rcases hch with ⟨a, b⟩ | a
    · rw [a, b]; exact hD2
    · have := ivD_m (n' := n) (m' := m) (pr' := I 1 2) (r4' := K 4) (r5' := I 5) (r12' := I 12) (r13' := I 13) hD2 (ch' - ch - 1)
      rw [show ch + (ch' - ch - 1 + 1) = ch' from by omega] at this
      exact this
  refine ⟨n, m, t + nd, p, q, r, ch', ln, ?_⟩
  simp (decide := true) only [kc, kr, k1, k81, t3, t16, t14, t4, t6, t7, t8, t9, t42, t44, t85, t87, t117, t119, j52, j60]
  refine ⟨⟨n1, n2, n3, n4, n5, n6, n7, n8, w3, w3, h300⟩, ⟨e1, rfl, e3, rfl, e5, e6, e7, e8⟩, ⟨w7, v2, v3, v4, v5, v6, v7, v8, v9⟩, ⟨w8, fun l => ?_, wy⟩, hG, ⟨w4, by omega⟩, ?_, hS, hA, hT, hF, hB, hCC, hDD, hDE, hX, ivZ_s hZ⟩
  · obtain ⟨v, h1, h2⟩ := w9 l
    exact ⟨v, h1, h2⟩
  · refine ⟨p1, p2, p3, ⟨q1, q2, q3, q4, q5, q6, q7, q8, rfl, trivial, rfl⟩, p4, fun k hk => ?_, fun k hk => ?_⟩
    · obtain ⟨a, b, dd, d1, d2⟩ := p5 k hk
      exact ⟨a, b, dd, by omega, d2⟩
    · rcases p6 k hk with ⟨a1, a2, a3, a4⟩ | ⟨a1, ⟨f, hf, ef⟩, a3, a4, a5, a6, a7, a8, a9, a10, a11⟩
      · refine Or.inl ⟨?_, a2, a3, a4⟩
        rcases w2 k hk with ⟨-, b⟩ | ⟨b, -⟩
        · exact b
        · exact absurd a1 b
      · refine Or.inr ⟨a1, ?_, a3, a4, a5, a6, a7, a8, a9, ?_, a11⟩
        · rcases w2 k hk with ⟨b, -⟩ | ⟨-, b⟩
          · rw [ef, zI_m1 (by omega)] at b
            exact b.elim
          · exact b
        · rcases a10 with b | ⟨j, j1, j2, j3, j4⟩
          · exact Or.inl b
          · refine Or.inr ⟨j, j1, j2, ?_, j4⟩
            rcases w2 j (by omega) with ⟨b, -⟩ | ⟨-, g, hg, b⟩
            · exact absurd b j3
            · rw [b, zI_m1 (by omega)]; exact fun e => e
theorem op_days (h : inv c mo G I J) (x : Int32) : Agr X 182 [some (.ref 0), some (.int x), none] 251 [some (.ref 81), some (.int x), none, none] (sM mo G I J) (Inv (c + 1)) := by
  have hv := inv_t 0 h
  have h' := h
  obtain ⟨n, m, t, p, q, r, ch, ln, hN, hE, hV, hY, hG, hK, hP, hS, hA, hT, hF, hB, hC, hD, hD2, hX, hZ⟩ := h
  have e13 : I 1 3 = zI t := hN.2.2.2.2.2.2.2.2.1
  have e16 : I 81 16 = zI t := hN.2.2.2.2.2.2.2.2.2.1
  have t300 : t ≤ 300 := hN.2.2.2.2.2.2.2.2.2.2
  have u16 : up2 I 81 2 0 81 16 = zI t := by rw [up2_ra, va_ap, if_neg (by decide)]; exact e16
  unfold Agr
  rw [lp_182_0]
  by_cases g1 : x < 1
  · rw [if_pos g1, lp_251_0, if_pos (fun e => e.1 g1)]
    exact ⟨rfl, hv⟩
  rw [if_neg g1]
  by_cases g2 : (50 : Int32) < x
  · rw [if_pos g2, lp_251_0, if_pos (fun e => e.2 g2)]
    exact ⟨rfl, hv⟩
  rw [if_neg g2]
  have gi : ¬ ¬ vf_Model_isIn x 1 50 := fun e => e ⟨g1, g2⟩
  have x0 : ¬ x < 0 := fun e => g1 (Int32.lt_trans e (by decide))
  obtain ⟨nd, hnd, rfl⟩ := zI_in (c := 50) (by decide) x0 g2
  rw [e13, show zI t + zI nd = zI (t + nd) from zI_add t nd]
  by_cases g3 : zI (t + nd) ≤ 300
  case neg =>
    rw [if_neg g3, lp_251_0, if_neg gi, e16, show zI t + zI nd = zI (t + nd) from zI_add t nd, if_neg g3]
    exact ⟨rfl, hv⟩
  have h300 : t + nd ≤ 300 := by
    rw [zIr_le (c := 300) (by decide) (by omega)] at g3
    exact g3
  rw [if_pos g3]
  have hp : ppS n m p I := ppS_h (c := c) (mo := mo) (G := G) (J := J) (q := q) (r := r) (ch := ch) (ln := ln) hN hE hV hG hP hB
  have sta0 : sta I I p := fun k hk => by
    rcases hP.2.2.2.2.2.2 k hk with ⟨a1, -⟩ | ⟨-, ⟨f, hf, ef⟩, -⟩
    · exact Or.inl ⟨a1, a1⟩
    · exact Or.inr ⟨by rw [ef, zI_m1 (by omega)]; exact fun e => e, f, hf, ef⟩
  have wd0 : wdC n m p t ch (c + 86400 * t) I I := ⟨⟨fun _ _ _ _ _ _ _ _ _ _ => rfl, fun _ _ _ => rfl⟩, sta0, ⟨t, t300, rfl, e13⟩, ⟨ch, hK.1, hK.2, Or.inl ⟨rfl, rfl⟩⟩, hV.1, hY.1, hY.2.1⟩
  obtain ⟨K, wd, cR, rR⟩ := dys (X := X) (mo := mo) (G := G) hp hnd nd 0 t _ I (by omega) h300 wd0
  refine cR I J _ (fun _ _ => rfl) ?_
  intro L J1 hL hJ
  have fx := wd.1
  have lA : ∀ d, ¬ d = 45 → ¬ d = 1 → ¬ d = 4 → ¬ d = 6 → ¬ d = 7 → ¬ d = 8 → ¬ d = 9 → ¬ d = 42 → ¬ d = 43 → ¬ d = 44 → L d = I d := fun d z a b c d' e f g h i => by rw [hL d z]; exact fx.1 d a b c d' e f g h i
  have l81 : L 81 = I 81 := lA 81 (by decide) (by decide) (by decide) (by decide) (by decide) (by decide) (by decide) (by decide) (by decide) (by decide)
  have lo : ∀ d, 81 < d → d ≤ 142 → L d = I d := fun d a b => lA d (by omega) (by omega) (by omega) (by omega) (by omega) (by omega) (by omega) (by omega) (by omega) (by omega)
  rw [lp_251_0, if_neg gi, l81, e16, show zI t + zI nd = zI (t + nd) from zI_add t nd, if_pos g3]
  obtain ⟨e1, e2, e3, e4, e5, e6, e7, e8⟩ := hE
  have hP' := hP
  obtain ⟨p1, p2, p3, ⟨q1, q2, q3, q4, q5, q6, q7, q8, q9, q10, q11⟩, p4, p5, p6⟩ := hP'
  have cp : cplR I L I (up2 L 81 2 0) := by
    refine ⟨fun d a => up2_rn _ _ _ _ _ (by omega), fun d a b _ _ _ _ _ _ _ => by rw [up2_rn _ _ _ _ _ (by omega)]; exact lo d a b, fun j a _ _ => by rw [up2_ra, va_ap, if_neg a, l81], ?_, ?_, ?_, ?_, ?_, ?_⟩
    · rw [up2_ra, va_ap, if_neg (by decide), l81, e16, e13]
    · rw [up2_rn _ _ _ _ _ (by decide), lo 85 (by decide) (by decide)]; exact e2
    · rw [up2_rn _ _ _ _ _ (by decide), lo 87 (by decide) (by decide)]; exact e4
    · rw [up2_rn _ _ _ _ _ (by decide), lo 117 (by decide) (by decide)]; exact q9
    · rw [up2_rn _ _ _ _ _ (by decide), lo 119 (by decide) (by decide)]; exact q11
    · rw [up2_rn _ _ _ _ _ (by decide), lo 88 (by decide) (by decide)]; exact hY.2.2
  refine rR L _ J1 _ cp ?_
  intro T J2 hT2 hJ2
  obtain ⟨c1, c2, c3, c4, c5, c6, c7, c8, c9⟩ := hT2
  have tc : ∀ d, (d < 81 ∨ 142 < d) → ¬ d = 45 → T d = K d := fun d a b => by rw [c1 d a]; exact hL d b
  refine ⟨rfl, mo, G, T, J2, rfl, ?_⟩
  refine inv_dy (nd := nd) (K := K) hN ⟨e1, e2, e3, e4, e5, e6, e7, e8⟩ hV hG hP hS hA hT hF hB hC hD hD2 hX hZ h300 wd ?_ c2 ?_ c3 ?_ c4 ?_ ?_ ?_ ?_ ?_ ?_ ?_ ?_ c5 c6 c7 c8 c9 ?_ ?_
  · intro d x a b c d' e f g h i j
    rw [tc d x a]; exact fx.1 d b c d' e f g h i j
  · intro j a b
    rw [tc 1 (by decide) (by decide)]; exact fx.2 j a b
  · rw [tc 1 (by decide) (by decide)]
  · rw [tc 1 (by decide) (by decide)]
  · exact tc 4 (by decide) (by decide)
  · exact tc 6 (by decide) (by decide)
  · exact tc 7 (by decide) (by decide)
  · exact tc 8 (by decide) (by decide)
  · exact tc 9 (by decide) (by decide)
  · exact tc 42 (by decide) (by decide)
  · exact tc 44 (by decide) (by decide)
  · rw [hJ2 52 (by decide), hJ 52 (by decide) (by decide)]
  · rw [hJ2 60 (by decide), hJ 60 (by decide) (by decide)]
end F2
