/-! A day goes by: the two sides' data while it does. -/
/-- the class's memory, up to the delegates' own fields -/
def eqC (K L : Nat → Nat → Int32) : Prop := ∀ d, ¬ d = 45 → L d = K d
def jD (J J' : Nat → Nat → Int64) : Prop := ∀ d, ¬ d = 46 → ¬ d = 47 → J' d = J d
def jR (J J' : Nat → Nat → Int64) : Prop := ∀ d, ¬ d = 121 → J' d = J d
/-- what a day doesn't change -/
def fixC (I K : Nat → Nat → Int32) : Prop := (∀ d, ¬ d = 1 → ¬ d = 4 → ¬ d = 6 → ¬ d = 7 → ¬ d = 8 → ¬ d = 9 → ¬ d = 42 → ¬ d = 43 → ¬ d = 44 → K d = I d) ∧ ∀ j, ¬ j = 3 → ¬ j = 4 → K 1 j = I 1 j
def wyE (r7 r8 r9 q88 : Nat → Int32) : Prop := ∀ l, l < 12 → ∀ k, k < 80 → r7 (80 * l + k) = q88 (300 * l + 3 * k) ∧ r8 (80 * l + k) = q88 (300 * l + 3 * k + 1) ∧ r9 (80 * l + k) = q88 (300 * l + 3 * k + 2)
/-- the reference's memory beside the class's: A as the class left it all, K as the class stood at this point -/
def cplR (I A K T : Nat → Nat → Int32) : Prop := (∀ d, d < 81 ∨ 142 < d → T d = A d) ∧ (∀ d, 81 < d → d ≤ 142 → ¬ d = 85 → ¬ d = 87 → ¬ d = 88 → ¬ d = 117 → ¬ d = 118 → ¬ d = 119 → ¬ d = 122 → T d = I d) ∧ (∀ j, ¬ j = 2 → ¬ j = 16 → ¬ j = 63 → T 81 j = I 81 j) ∧
  T 81 16 = K 1 3 ∧ T 85 = K 4 ∧ T 87 = K 6 ∧ T 117 = K 42 ∧ T 119 = K 44 ∧ wyE (K 7) (K 8) (K 9) (T 88)
/-- the papers, as they stay -/
def ppS (n m np : Nat) (I : Nat → Nat → Int32) : Prop := (I 1 0 = zI n ∧ I 81 3 = zI n ∧ n ≤ 12) ∧ (I 1 1 = zI m ∧ I 81 10 = zI m ∧ m ≤ 6) ∧ (I 31 0 = zI np ∧ I 81 46 = zI np ∧ np ≤ 60) ∧ I 81 15 = I 1 2 ∧
  (I 91 = I 13 ∧ I 83 = I 2 ∧ I 92 = I 12 ∧ I 89 = I 10 ∧ I 90 = I 11) ∧ (I 109 = I 33 ∧ I 108 = I 32 ∧ I 111 = I 37 ∧ I 112 = I 38 ∧ I 113 = I 39) ∧ ivG (I 3) (I 84) ∧
  (∀ s, s < 6 → bkS s (I 22) (I 23) (I 24) (I 25) (I 94) (I 95) (I 96) (I 97) (I 98) (I 99) (I 100) (I 101) (I 102)) ∧ (∀ j, ∃ w, w ≤ 9 ∧ I 11 j = zI w) ∧
  (∀ k, k < np → (∃ s, s < m ∧ I 32 k = zI s) ∧ ∃ s, s < m ∧ I 33 k = zI s) ∧
  ∀ k, k < np → (I 42 k = -1 ∧ I 107 k = 1 ∧ I 40 k = -1 ∧ I 41 k = -1) ∨ (¬ I 42 k = -1 ∧ I 107 k = 0 ∧ (∀ j, n ≤ j → bt (I 37 k) j = false) ∧ (∀ j, n ≤ j → bt (I 38 k) j = false) ∧ I 37 k &&& I 38 k = 0 ∧ I 114 k = I 40 k ∧ ((I 40 k = -1 ∧ I 41 k = zI k) ∨ ∃ j, j < k ∧ I 40 k = zI j ∧ ¬ I 42 j = -1 ∧ I 41 k = I 41 j) ∧ ∃ j, j ≤ k ∧ I 41 k = zI j)
/-- an offer's standing -/
def sta (I K : Nat → Nat → Int32) (np : Nat) : Prop := ∀ k, k < np → (I 42 k = -1 ∧ K 42 k = -1) ∨ (¬ I 42 k = -1 ∧ ∃ f, f ≤ 6 ∧ K 42 k = zI f)
/-- what a day's steps keep -/
def wdC (n m np t0 ch0 bd : Nat) (I K : Nat → Nat → Int32) : Prop := fixC I K ∧ sta I K np ∧ (∃ t, t ≤ 300 ∧ t = t0 ∧ K 1 3 = zI t) ∧ (∃ ch, K 1 4 = zI ch ∧ ch ≤ bd ∧ ((ch = ch0 ∧ K 4 = I 4) ∨ ch0 < ch)) ∧
  (∀ l, l < n → K 4 l = -1 ∨ ∃ s, s < m ∧ K 4 l = zI s) ∧ (∀ l, n ≤ l → K 6 l = 0) ∧ ∀ l, ∃ v, K 6 l = zI v ∧ v ≤ 20 + nBound np (K 42)
section D1
variable {I A K T : Nat → Nat → Int32}
theorem ppS_h {c : Nat} {mo : Bool} {G : Nat × Nat} {J : Nat → Nat → Int64} {n m t p q r ch ln : Nat} (hN : ivN n m t (I 1 0) (I 1 1) (I 1 2) (I 1 3) (I 81 3) (I 81 10) (I 81 15) (I 81 16)) (hE : ivE (I 2) (I 4) (I 5) (I 6) (I 10) (I 11) (I 12) (I 13) (I 83) (I 85) (I 86) (I 87) (I 89) (I 90) (I 92) (I 91)) (hV : ivV n m (I 2) (I 4) (I 5) (I 10) (I 11) (I 12) (I 13)) (hG : ivG (I 3) (I 84))
    (hP : ivP p n m t (I 31 0) (I 81 46) (I 32) (I 33) (I 34) (I 35) (I 36) (I 37) (I 38) (I 39) (I 40) (I 41) (I 42) (I 43) (I 44) (I 107) (I 108) (I 109) (I 110) (I 111) (I 112) (I 113) (I 114) (I 115) (I 116) (I 117) (I 118) (I 119)) (hB : ivB (I 22) (I 23) (I 24) (I 25) (I 94) (I 95) (I 96) (I 97) (I 98) (I 99) (I 100) (I 101) (I 102)) : ppS n m p I := by
  obtain ⟨n1, n2, n3, n4, n5, n6, n7, n8, n9, n10, n11⟩ := hN
  obtain ⟨e1, e2, e3, e4, e5, e6, e7, e8⟩ := hE
  obtain ⟨p1, p2, p3, ⟨q1, q2, q3, q4, q5, q6, q7, q8, q9, q10, q11⟩, p4, p5, p6⟩ := hP
  refine ⟨⟨n1, n2, n3⟩, ⟨n4, n5, n6⟩, ⟨p1, p2, p3⟩, n7, ⟨e8, e1, e7, e5, e6⟩, ⟨q2, q1, q4, q5, q6⟩, hG, hB, hV.2.2.2.2.2.2.1, fun k hk => ⟨(p5 k hk).1, (p5 k hk).2.1⟩, fun k hk => ?_⟩
  rcases p6 k hk with ⟨s1, s2, s3, s4⟩ | ⟨s1, ⟨fa, hfa, s2⟩, s3, s4, s5, s6, s7, s8, s9, s10, s11⟩
  · exact Or.inl ⟨s1, s2, s3, s4⟩
  · exact Or.inr ⟨by rw [s2, zI_m1 (by omega)]; exact fun e => e, s1, s5, s6, s7, s9, s10, s11⟩
/-- the joined memory: the class's rows as it stood, the reference's as they stand -/
def jn (K T : Nat → Nat → Int32) : Nat → Nat → Int32 := fun d => if d < 81 then K d else T d
theorem jn_c {d : Nat} (h : d < 81) : jn K T d = K d := if_pos h
theorem jn_r {d : Nat} (h : 81 ≤ d) : jn K T d = T d := if_neg (by omega)
theorem jn_pp {n m np k to fr : Nat} (hp : ppS n m np I) (hf : fixC I K) (hc : cplR I A K T) (hk : k < np) (hto : I 33 k = zI to) (htm : to < m) (hfr : I 32 k = zI fr) (hfm : fr < m) (ho : ¬ I 42 k = -1) : ppF np n m k to fr (jn K T) := by
  obtain ⟨⟨a1, a2, a3⟩, ⟨b1, b2, b3⟩, ⟨c1, c2, c3⟩, d1, ⟨e1, e2, e3, e4, e5⟩, ⟨f1, f2, f3, f4, f5⟩, g1, g2, g3, g4, g5⟩ := hp
  obtain ⟨h1, h2, h3, h4, h5, h6, h7, h8, h9⟩ := hc
  have hof := (g5 k hk).resolve_left (fun e => ho e.1)
  have kc : ∀ d, d < 81 → ¬ d = 1 → ¬ d = 4 → ¬ d = 6 → ¬ d = 7 → ¬ d = 8 → ¬ d = 9 → ¬ d = 42 → ¬ d = 43 → ¬ d = 44 → jn K T d = I d := fun d x a b c d e f g h i => by rw [jn_c x]; exact hf.1 _ a b c d e f g h i
  have kr : ∀ d, 81 < d → d ≤ 142 → ¬ d = 85 → ¬ d = 87 → ¬ d = 88 → ¬ d = 117 → ¬ d = 118 → ¬ d = 119 → ¬ d = 122 → jn K T d = I d := fun d x y a b c d e f g => by rw [jn_r (by omega)]; exact h2 _ x y a b c d e f g
  refine ⟨⟨⟨?_, ?_, a3⟩, ⟨?_, b3⟩, ⟨?_, c3⟩, ⟨?_, ?_, ?_, ?_, ?_, ?_⟩, ⟨?_, ?_, ?_, ?_, ?_⟩, ?_⟩, hk, ?_, htm, ?_, hfm, ?_⟩
  · rw [jn_c (by decide), hf.2 0 (by decide) (by decide)]; exact a1
  · rw [jn_r (by decide), h3 3 (by decide) (by decide) (by decide)]; exact a2
  · rw [jn_c (by decide), hf.2 1 (by decide) (by decide)]; exact b1
  · rw [kc 31 (by decide) (by decide) (by decide) (by decide) (by decide) (by decide) (by decide) (by decide) (by decide) (by decide)]; exact c1
  · rw [kr 91 (by decide) (by decide) (by decide) (by decide) (by decide) (by decide) (by decide) (by decide) (by decide), kc 13 (by decide) (by decide) (by decide) (by decide) (by decide) (by decide) (by decide) (by decide) (by decide) (by decide)]; exact e1
  · rw [jn_r (by decide), jn_c (by decide)]; exact h5
  · rw [kr 83 (by decide) (by decide) (by decide) (by decide) (by decide) (by decide) (by decide) (by decide) (by decide), kc 2 (by decide) (by decide) (by decide) (by decide) (by decide) (by decide) (by decide) (by decide) (by decide) (by decide)]; exact e2
  · rw [kr 92 (by decide) (by decide) (by decide) (by decide) (by decide) (by decide) (by decide) (by decide) (by decide), kc 12 (by decide) (by decide) (by decide) (by decide) (by decide) (by decide) (by decide) (by decide) (by decide) (by decide)]; exact e3
  · rw [kr 89 (by decide) (by decide) (by decide) (by decide) (by decide) (by decide) (by decide) (by decide) (by decide), kc 10 (by decide) (by decide) (by decide) (by decide) (by decide) (by decide) (by decide) (by decide) (by decide) (by decide)]; exact e4
  · rw [jn_r (by decide), jn_c (by decide)]; exact h4
  · rw [kr 109 (by decide) (by decide) (by decide) (by decide) (by decide) (by decide) (by decide) (by decide) (by decide), kc 33 (by decide) (by decide) (by decide) (by decide) (by decide) (by decide) (by decide) (by decide) (by decide) (by decide)]; exact f1
  · rw [kr 108 (by decide) (by decide) (by decide) (by decide) (by decide) (by decide) (by decide) (by decide) (by decide), kc 32 (by decide) (by decide) (by decide) (by decide) (by decide) (by decide) (by decide) (by decide) (by decide) (by decide)]; exact f2
  · rw [kr 111 (by decide) (by decide) (by decide) (by decide) (by decide) (by decide) (by decide) (by decide) (by decide), kc 37 (by decide) (by decide) (by decide) (by decide) (by decide) (by decide) (by decide) (by decide) (by decide) (by decide)]; exact f3
  · rw [kr 112 (by decide) (by decide) (by decide) (by decide) (by decide) (by decide) (by decide) (by decide) (by decide), kc 38 (by decide) (by decide) (by decide) (by decide) (by decide) (by decide) (by decide) (by decide) (by decide) (by decide)]; exact f4
  · rw [kr 113 (by decide) (by decide) (by decide) (by decide) (by decide) (by decide) (by decide) (by decide) (by decide), kc 39 (by decide) (by decide) (by decide) (by decide) (by decide) (by decide) (by decide) (by decide) (by decide) (by decide)]; exact f5
  · rw [kr 84 (by decide) (by decide) (by decide) (by decide) (by decide) (by decide) (by decide) (by decide) (by decide), kc 3 (by decide) (by decide) (by decide) (by decide) (by decide) (by decide) (by decide) (by decide) (by decide) (by decide)]; exact g1
  · rw [kc 33 (by decide) (by decide) (by decide) (by decide) (by decide) (by decide) (by decide) (by decide) (by decide) (by decide)]; exact hto
  · rw [kc 32 (by decide) (by decide) (by decide) (by decide) (by decide) (by decide) (by decide) (by decide) (by decide) (by decide)]; exact hfr
  · rw [kr 114 (by decide) (by decide) (by decide) (by decide) (by decide) (by decide) (by decide) (by decide) (by decide), kc 40 (by decide) (by decide) (by decide) (by decide) (by decide) (by decide) (by decide) (by decide) (by decide) (by decide)]; exact hof.2.2.2.2.2.1
theorem cl_pp {n m np k to fr : Nat} {L : Nat → Nat → Int32} (hp : ppS n m np I) (hf : fixC I K) (he : eqC K L) (hk : k < np) (hto : I 33 k = zI to) (htm : to < m) (hfr : I 32 k = zI fr) (hfm : fr < m) : clF np n m k to fr L := by
  obtain ⟨⟨a1, a2, a3⟩, ⟨b1, b2, b3⟩, ⟨c1, c2, c3⟩, -⟩ := hp
  refine ⟨⟨?_, a3⟩, ⟨?_, b3⟩, ⟨?_, c3⟩, hk, ?_, htm, ?_, hfm⟩
  · rw [he 1 (by decide), hf.2 0 (by decide) (by decide)]; exact a1
  · rw [he 1 (by decide), hf.2 1 (by decide) (by decide)]; exact b1
  · rw [he 31 (by decide), hf.1 31 (by decide) (by decide) (by decide) (by decide) (by decide) (by decide) (by decide) (by decide) (by decide)]; exact c1
  · rw [he 33 (by decide), hf.1 33 (by decide) (by decide) (by decide) (by decide) (by decide) (by decide) (by decide) (by decide) (by decide)]; exact hto
  · rw [he 32 (by decide), hf.1 32 (by decide) (by decide) (by decide) (by decide) (by decide) (by decide) (by decide) (by decide) (by decide)]; exact hfr
theorem fx_bk {s m : Nat} {c gb vb le : Nat → Nat} (h : bkP s m c gb vb le (I 22) (I 23) (I 24) (I 25) (I 94) (I 95) (I 96) (I 97) (I 98) (I 99) (I 100) (I 101) (I 102)) {L : Nat → Nat → Int32} (e : ∀ d, (21 < d ∧ d < 26) ∨ (93 < d ∧ d < 103) → L d = I d) : bkP s m c gb vb le (L 22) (L 23) (L 24) (L 25) (L 94) (L 95) (L 96) (L 97) (L 98) (L 99) (L 100) (L 101) (L 102) := by
  rw [e 22 (by decide), e 23 (by decide), e 24 (by decide), e 25 (by decide), e 94 (by decide), e 95 (by decide), e 96 (by decide), e 97 (by decide), e 98 (by decide), e 99 (by decide), e 100 (by decide), e 101 (by decide), e 102 (by decide)]
  exact h
end D1
