/-! What holds between two calls of the law: the two sides side by side. -/
def ivN (n m t : Nat) (a0 a1 a2 a3 b0 b1 b2 b3 : Int32) : Prop := a0 = zI n ∧ b0 = zI n ∧ n ≤ 12 ∧ a1 = zI m ∧ b1 = zI m ∧ m ≤ 6 ∧ b2 = a2 ∧ (∀ k, m ≤ k → bt a2 k = false) ∧ a3 = zI t ∧ b3 = zI t ∧ t ≤ 300
def ivE (r2 r4 r5 r6 r10 r11 r12 r13 q2 q4 q5 q6 q10 q11 q12 q13 : Nat → Int32) : Prop := q2 = r2 ∧ q4 = r4 ∧ q5 = r5 ∧ q6 = r6 ∧ q10 = r10 ∧ q11 = r11 ∧ q12 = r12 ∧ q13 = r13
def ivV (n m : Nat) (r2 r4 r5 r10 r11 r12 r13 : Nat → Int32) : Prop :=
  (∀ l, l < n → r4 l = -1 ∨ ∃ s, s < m ∧ r4 l = zI s) ∧ (∀ l k, m ≤ k → bt (r5 l) k = false) ∧ (∀ l, pc6 (r5 l) ≤ 3) ∧ (∀ l, n ≤ l → r5 l = 0) ∧
  (∀ j, ∃ w, w ≤ 9999 ∧ r2 j = zI w) ∧ (∀ j, ∃ w, w ≤ 99 ∧ r10 j = zI w) ∧ (∀ j, ∃ w, w ≤ 9 ∧ r11 j = zI w) ∧ (∀ j, ∃ w, w ≤ 999 ∧ r12 j = zI w) ∧ (∀ j, ∃ w, w ≤ 99 ∧ r13 j = zI w)
/-- how many papers are carried out -/
def nBound (p : Nat) (r42 : Nat → Int32) : Nat := up (fun k a => if r42 k = 5 then a + 1 else a) p 0
def ivY (n p : Nat) (r42 r6 r7 r8 r9 q88 : Nat → Int32) : Prop := (∀ l, n ≤ l → r6 l = 0) ∧ (∀ l, ∃ w, r6 l = zI w ∧ w ≤ 20 + nBound p r42) ∧
  ∀ l, l < 12 → ∀ k, k < 80 → r7 (80 * l + k) = q88 (300 * l + 3 * k) ∧ r8 (80 * l + k) = q88 (300 * l + 3 * k + 1) ∧ r9 (80 * l + k) = q88 (300 * l + 3 * k + 2)
def ivG (r3 q84 : Nat → Int32) : Prop := (∀ j, q84 j = 0 ∨ q84 j = 1) ∧ ∀ a, a < 12 → ∀ b, b < 12 → (bt (r3 a) b = true ↔ q84 (12 * a + b) = 1)
def ivK (c t ch : Nat) (a4 : Int32) : Prop := a4 = zI ch ∧ ch ≤ c + 86400 * t
/-- of the lines by which papers were answered nothing is kept: the two sides differ there -/
def lnE (q r : Nat → Int32) : Prop := True
def ivP (p n m t : Nat) (a0 b0 : Int32) (r32 r33 r34 r35 r36 r37 r38 r39 r40 r41 r42 r43 r44 q107 q108 q109 q110 q111 q112 q113 q114 q115 q116 q117 q118 q119 : Nat → Int32) : Prop :=
  a0 = zI p ∧ b0 = zI p ∧ p ≤ 60 ∧ (q108 = r32 ∧ q109 = r33 ∧ q110 = r34 ∧ q111 = r37 ∧ q112 = r38 ∧ q113 = r39 ∧ q115 = r35 ∧ q116 = r36 ∧ q117 = r42 ∧ lnE q118 r43 ∧ q119 = r44) ∧
  (∀ k, p ≤ k → q107 k = 0 ∧ r35 k = 0 ∧ r36 k = 0) ∧
  (∀ k, k < p → (∃ s, s < m ∧ r32 k = zI s) ∧ (∃ s, s < m ∧ r33 k = zI s) ∧ (∃ d, d ≤ t ∧ r34 k = zI d)) ∧
  (∀ k, k < p → (r42 k = -1 ∧ q107 k = 1 ∧ r40 k = -1 ∧ r41 k = -1) ∨
    (q107 k = 0 ∧ (∃ f, f ≤ 6 ∧ r42 k = zI f) ∧ r35 k = 0 ∧ r36 k = 0 ∧ (∀ j, n ≤ j → bt (r37 k) j = false) ∧ (∀ j, n ≤ j → bt (r38 k) j = false) ∧ r37 k &&& r38 k = 0 ∧ (∃ d, d ≤ 300 ∧ r39 k = zI d) ∧ q114 k = r40 k ∧
      ((r40 k = -1 ∧ r41 k = zI k) ∨ ∃ j, j < k ∧ r40 k = zI j ∧ ¬ r42 j = -1 ∧ r41 k = r41 j) ∧ (∃ j, j ≤ k ∧ r41 k = zI j)))
def ivS (q : Nat) (a0 b0 : Int32) (r27 r28 r29 r30 q120 : Nat → Int32) : Prop := a0 = zI q ∧ b0 = zI q ∧ q ≤ 20 ∧ ∀ k, k < 20 → q120 (4 * k) = r27 k ∧ q120 (4 * k + 1) = r28 k ∧ q120 (4 * k + 2) = r29 k ∧ q120 (4 * k + 3) = r30 k
def ivA (r : Nat) (a0 b0 : Int32) (r72 r73 r74 r75 q135 q136 q137 q138 : Nat → Int32) : Prop := a0 = zI r ∧ b0 = zI r ∧ r ≤ 8 ∧ q135 = r72 ∧ q136 = r73 ∧ q138 = r75 ∧ (∀ j, ∃ w, w ≤ 8 ∧ r72 j = zI w) ∧ (∀ j, q137 j = 0 ∨ q137 j = 1) ∧
  (∀ a, a < 8 → ∀ b, b < 8 → (bt (r74 a) b = true ↔ q137 (8 * a + b) = 1)) ∧ ∀ a b, r ≤ b → bt (r74 a) b = false
def ivT (ln : Nat) (a0 b0 : Int32) (r15 q82 : Nat → Int32) : Prop := a0 = zI ln ∧ b0 = zI ln ∧ ln ≤ 400 ∧ ∀ j, (∃ w, w < 256 ∧ q82 j = zI w) ∧ r15 j = (q82 j).toInt8.toInt32
def ivF (a0 a1 b0 b1 : Int32) : Prop := b0 = a0 ∧ b1 = a1
/-- the books of orders -/
def ivB (r22 r23 r24 r25 q94 q95 q96 q97 q98 q99 q100 q101 q102 : Nat → Int32) : Prop := ∀ s, s < 6 → bkS s r22 r23 r24 r25 q94 q95 q96 q97 q98 q99 q100 q101 q102
/-- a search's stamp -/
def stp (ch : Nat) (a : Int32) : Prop := a = -1 ∨ ∃ k, k ≤ ch ∧ a = zI k
def ivC (ch n m : Nat) (pr : Int32) (r4 r5 r12 r13 : Nat → Int32) (mo : Bool) (r48 r49 r50 r143 r68 r69 r70 : Nat → Int32) : Prop := stp ch (r48 1) ∧ stp ch (r68 4) ∧
  (ch < 100000000 → r48 1 = zI ch → mo = true ∧ shT r4 r13 (r48 2) r49 r50 r143 n m) ∧
  (ch < 100000000 → r68 4 = zI ch → ∃ len M L, r68 3 = zI len ∧ (∀ i, i < len → r69 i = zI (M i) ∧ r70 i = zI (L i)) ∧ rgR n r4 r13 pr len M L)
def ivD (w : Bool) (ch n m : Nat) (pr : Int32) (r4 r5 r12 r13 r52 r53 r54 r55 r56 r57 r58 r59 : Nat → Int32) (j52 : Nat → Int64) : Prop := stp ch (r52 4) ∧
  (ch < 100000000 → r52 4 = zI ch → srD n m r4 r5 r12 r13 (r52 3) r52 r53 r59 (j52 16)) ∧ (ch < 100000000 → w = true → r52 4 = zI ch → r52 3 = pr)
/-- the words of the reference -/
def rf_words : List Int32 := [116, 97, 107, 101, 32, 114, 101, 102, 117, 115, 101, 32, 97, 115, 107, 32, 104, 111, 109, 101, 32, 111, 114, 32, 97, 110, 100, 32, 110, 111, 116, 32, 103, 97, 105, 110, 32, 103, 111, 116, 32, 108, 111, 115, 116, 32, 115, 111, 117, 108, 115, 32, 110, 101, 97, 114, 32, 109, 105, 110, 101, 32, 98, 111, 117, 110, 100, 32, 114, 97, 110, 107, 32, 111, 116, 104, 101, 114, 32, 100, 97, 121, 32, 108, 101, 102, 116, 32, 108, 105, 110, 107, 101, 100, 32]
def ivX (q93 : Nat → Int32) : Prop := ∀ j, j < 95 → q93 j = rf_words.getD j 0
def ivZ (c : Nat) (G : Nat × Nat) : Prop := G.1 ≤ c ∧ G.2 ≤ 6 * c
def inv (c : Nat) (mo : Bool) (G : Nat × Nat) (I : Nat → Nat → Int32) (J : Nat → Nat → Int64) : Prop := ∃ n m t p q r ch ln : Nat,
  ivN n m t (I 1 0) (I 1 1) (I 1 2) (I 1 3) (I 81 3) (I 81 10) (I 81 15) (I 81 16) ∧
  ivE (I 2) (I 4) (I 5) (I 6) (I 10) (I 11) (I 12) (I 13) (I 83) (I 85) (I 86) (I 87) (I 89) (I 90) (I 92) (I 91) ∧
  ivV n m (I 2) (I 4) (I 5) (I 10) (I 11) (I 12) (I 13) ∧
  ivY n p (I 42) (I 6) (I 7) (I 8) (I 9) (I 88) ∧
  ivG (I 3) (I 84) ∧
  ivK c t ch (I 1 4) ∧
  ivP p n m t (I 31 0) (I 81 46) (I 32) (I 33) (I 34) (I 35) (I 36) (I 37) (I 38) (I 39) (I 40) (I 41) (I 42) (I 43) (I 44) (I 107) (I 108) (I 109) (I 110) (I 111) (I 112) (I 113) (I 114) (I 115) (I 116) (I 117) (I 118) (I 119) ∧
  ivS q (I 26 0) (I 81 60) (I 27) (I 28) (I 29) (I 30) (I 120) ∧
  ivA r (I 71 0) (I 81 81) (I 72) (I 73) (I 74) (I 75) (I 135) (I 136) (I 137) (I 138) ∧
  ivT ln (I 14 0) (I 81 1) (I 15) (I 82) ∧
  ivF (I 16 0) (I 16 1) (I 81 18) (I 81 19) ∧
  ivB (I 22) (I 23) (I 24) (I 25) (I 94) (I 95) (I 96) (I 97) (I 98) (I 99) (I 100) (I 101) (I 102) ∧
  ivC ch n m (I 1 2) (I 4) (I 5) (I 12) (I 13) mo (I 48) (I 49) (I 50) (I 143) (I 68) (I 69) (I 70) ∧
  ivD true ch n m (I 1 2) (I 4) (I 5) (I 12) (I 13) (I 52) (I 53) (I 54) (I 55) (I 56) (I 57) (I 58) (I 59) (J 52) ∧
  ivD false ch n m (I 1 2) (I 4) (I 5) (I 12) (I 13) (I 60) (I 61) (I 62) (I 63) (I 64) (I 65) (I 66) (I 67) (J 60) ∧
  ivX (I 93) ∧ ivZ c G
def Inv (c : Nat) (M : sm_M) : Prop := ∃ mo G I J, M = sM mo G I J ∧ inv c mo G I J
/-- the class does its part, the reference does its part, and they answer alike -/
def Agr (X : (Nat → Int32) × Nat) (h : Nat) (La : sm_L) (m : Nat) (Lb : sm_L) (M : sm_M) (R : sm_M → Prop) : Prop :=
  sm_wp X h 0 La [] M (fun v M1 => sm_wp X m 0 Lb [] M1 (fun w M2 => w = v ∧ R M2))
/-- the two do their parts, whatever they answer -/
def AgW (X : (Nat → Int32) × Nat) (h : Nat) (La : sm_L) (m : Nat) (Lb : sm_L) (M : sm_M) (R : sm_M → Prop) : Prop :=
  sm_wp X h 0 La [] M (fun _ M1 => sm_wp X m 0 Lb [] M1 (fun _ M2 => R M2))
theorem ivK_s {c t ch : Nat} {a : Int32} (h : ivK c t ch a) : ivK (c + 1) t ch a := ⟨h.1, by have := h.2; omega⟩
theorem ivK_u {c t ch : Nat} {a : Int32} (h : ivK c t ch a) : ivK (c + 1) t (ch + 1) (a + 1) := ⟨by rw [h.1]; exact zI_add ch 1, by have := h.2; omega⟩
theorem ivZ_s {c : Nat} {G : Nat × Nat} (h : ivZ c G) : ivZ (c + 1) G := ⟨by have := h.1; omega, by have := h.2; omega⟩
theorem stp_u {ch : Nat} {a : Int32} (h : stp ch a) : stp (ch + 1) a := by
  rcases h with h | ⟨k, hk, h⟩
  · exact Or.inl h
  · exact Or.inr ⟨k, by omega, h⟩
theorem stp_n {ch : Nat} {a : Int32} (h : stp ch a) (hc : ch + 1 < 100000000) (e : a = zI (ch + 1)) : False := by
  rcases h with h | ⟨k, hk, h⟩
  · rw [h, zI_m1' (by omega)] at e
    exact e
  · rw [h, zI_eq (by omega) (by omega)] at e
    omega
theorem ivC_u {ch n m n' m' : Nat} {pr pr' : Int32} {r4 r5 r12 r13 r4' r5' r12' r13' r48 r49 r50 r143 r68 r69 r70 : Nat → Int32} {mo : Bool} (h : ivC ch n m pr r4 r5 r12 r13 mo r48 r49 r50 r143 r68 r69 r70) : ivC (ch + 1) n' m' pr' r4' r5' r12' r13' mo r48 r49 r50 r143 r68 r69 r70 :=
  ⟨stp_u h.1, stp_u h.2.1, fun b e => (stp_n h.1 b e).elim, fun b e => (stp_n h.2.1 b e).elim⟩
theorem ivD_u {w : Bool} {ch n m n' m' : Nat} {pr pr' : Int32} {r4 r5 r12 r13 r4' r5' r12' r13' r52 r53 r54 r55 r56 r57 r58 r59 : Nat → Int32} {j52 : Nat → Int64} (h : ivD w ch n m pr r4 r5 r12 r13 r52 r53 r54 r55 r56 r57 r58 r59 j52) : ivD w (ch + 1) n' m' pr' r4' r5' r12' r13' r52 r53 r54 r55 r56 r57 r58 r59 j52 := ⟨stp_u h.1, fun b e => (stp_n h.1 b e).elim, fun b _ e => (stp_n h.1 b e).elim⟩
/-- a call that changes nothing but the reference's note of what it threw -/
theorem inv_t {c : Nat} {mo : Bool} {G : Nat × Nat} {I : Nat → Nat → Int32} {J : Nat → Nat → Int64} (v : Int32) (h : inv c mo G I J) : Inv (c + 1) (sM mo G (up2 I 81 2 v) J) := by
  obtain ⟨n, m, t, p, q, r, ch, ln, hN, hE, hV, hY, hG, hK, hP, hS, hA, hT, hF, hB, hC, hD, hD2, hX, hZ⟩ := h
  refine ⟨mo, G, _, _, rfl, n, m, t, p, q, r, ch, ln, ?_⟩
  simp (decide := true) only [up2_ra, up2_rn, va_ap, ne_eq, if_false, not_false_eq_true]
  exact ⟨hN, hE, hV, hY, hG, ivK_s hK, hP, hS, hA, hT, hF, hB, hC, hD, hD2, hX, ivZ_s hZ⟩
/-! the tests of the two sides -/
theorem hLand_vp {I : Nat → Nat → Int32} {n : Nat} (h : I 1 0 = zI n) (hn : n ≤ 12) (x : Int32) : hLand I x = sIn x n := by
  unfold hLand
  rw [h]
  exact vp_lt2 hn (by decide)
theorem hState_vp {I : Nat → Nat → Int32} {n : Nat} (h : I 1 1 = zI n) (hn : n ≤ 6) (x : Int32) : hState I x = sIn x n := by
  unfold hState
  rw [h]
  exact vp_lt2 hn (by decide)
theorem hPres_vp {I : Nat → Nat → Int32} {n : Nat} (h : I 1 1 = zI n) (hn : n ≤ 6) (x : Int32) : hPres I x = (sIn x n ∧ bt (I 1 2) x.toNatClampNeg = true) := by
  unfold hPres
  rw [hState_vp h hn]
  apply propext
  constructor
  · rintro ⟨a, b⟩
    obtain ⟨k, hk, hk2, rfl⟩ := sIn_ex a
    rw [hb_bt _ _ (by omega)] at b
    rw [zI_cn hk2]
    exact ⟨a, b⟩
  · rintro ⟨a, b⟩
    obtain ⟨k, hk, hk2, rfl⟩ := sIn_ex a
    rw [hb_bt _ _ (by omega)]
    rw [zI_cn hk2] at b
    exact ⟨a, b⟩
theorem hPap_vp {I : Nat → Nat → Int32} {n : Nat} (h : I 31 0 = zI n) (hn : n ≤ 60) (x : Int32) : hPap I x = sIn x n := by
  unfold hPap
  rw [h]
  exact vp_lt2 hn (by decide)
theorem hArt_vp {I : Nat → Nat → Int32} {n : Nat} (h : I 71 0 = zI n) (hn : n ≤ 8) (x : Int32) : hArt I x = sIn x n := by
  unfold hArt
  rw [h]
  exact vp_lt2 hn (by decide)
theorem mLand_vp {I : Nat → Nat → Int32} {n : Nat} (h : I 81 3 = zI n) (hn : n ≤ 12) (x : Int32) : vf_Model_isLand I x = sIn x n := by
  unfold vf_Model_isLand
  rw [h]
theorem mState_vp {I : Nat → Nat → Int32} {n : Nat} (h : I 81 10 = zI n) (hn : n ≤ 6) (x : Int32) : vf_Model_isState I x = sIn x n := by
  unfold vf_Model_isState
  rw [h]
theorem mPres_vp {I : Nat → Nat → Int32} {n : Nat} (h : I 81 10 = zI n) (hn : n ≤ 6) (x : Int32) : vf_Model_isPresent I x = (sIn x n ∧ bt (I 81 15) x.toNatClampNeg = true) := by
  unfold vf_Model_isPresent
  rw [mState_vp h hn]
  apply propext
  constructor
  · rintro ⟨a, b⟩
    obtain ⟨k, hk, hk2, rfl⟩ := sIn_ex a
    rw [sb_1 _ _ (by omega)] at b
    rw [zI_cn hk2]
    exact ⟨a, b⟩
  · rintro ⟨a, b⟩
    obtain ⟨k, hk, hk2, rfl⟩ := sIn_ex a
    rw [sb_1 _ _ (by omega)]
    rw [zI_cn hk2] at b
    exact ⟨a, b⟩
theorem mArt_vp {I : Nat → Nat → Int32} {n : Nat} (h : I 81 81 = zI n) (hn : n ≤ 8) (x : Int32) : vf_Model_isArticle I x = sIn x n := by
  unfold vf_Model_isArticle
  rw [h]
theorem mL0 {I : Nat → Nat → Int32} {n : Nat} (h : I 81 3 = zI n) (hn : n ≤ 12) (x : Int32) : vf_Model_isLand (up2 I 81 2 0) x = sIn x n := mLand_vp (by simp (decide := true) only [up2_ra, up2_rn, va_ap, ne_eq, if_false, if_true, not_false_eq_true]; exact h) hn x
theorem mS0 {I : Nat → Nat → Int32} {n : Nat} (h : I 81 10 = zI n) (hn : n ≤ 6) (x : Int32) : vf_Model_isState (up2 I 81 2 0) x = sIn x n := mState_vp (by simp (decide := true) only [up2_ra, up2_rn, va_ap, ne_eq, if_false, if_true, not_false_eq_true]; exact h) hn x
theorem mP0 {I : Nat → Nat → Int32} {n : Nat} (h : I 81 10 = zI n) (hn : n ≤ 6) (x : Int32) : vf_Model_isPresent (up2 I 81 2 0) x = (sIn x n ∧ bt (I 81 15) x.toNatClampNeg = true) := by
  rw [mPres_vp (I := up2 I 81 2 0) (n := n) (by simp (decide := true) only [up2_ra, up2_rn, va_ap, ne_eq, if_false, if_true, not_false_eq_true]; exact h) hn x]
  simp (decide := true) only [up2_ra, up2_rn, va_ap, ne_eq, if_false, if_true, not_false_eq_true]
theorem mA0 {I : Nat → Nat → Int32} {n : Nat} (h : I 81 81 = zI n) (hn : n ≤ 8) (x : Int32) : vf_Model_isArticle (up2 I 81 2 0) x = sIn x n := mArt_vp (by simp (decide := true) only [up2_ra, up2_rn, va_ap, ne_eq, if_false, if_true, not_false_eq_true]; exact h) hn x
