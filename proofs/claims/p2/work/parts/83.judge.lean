/-! Calls on settlements: judge. -/
theorem bt_7 {i : Nat} (h : i < 32) : bt 7 i = decide (i < 3) := by
  have e : ∀ i : Fin 32, bt 7 i.val = decide (i.val < 3) := by decide
  exact e ⟨i, h⟩
theorem jd_bits (x : Int32) {k : Nat} (h : k < 8) : ∃ t, t < 8 ∧ (x >>> (zI (3 * k) &&& 31)) &&& 7 = zI t ∧ ((x.toUInt32 >>> ((zI (3 * k)).toUInt32 &&& Int32.toUInt32 31)).toInt32) &&& 7 = zI t := by
  have e0 : (x.toUInt32 >>> ((zI (3 * k)).toUInt32 &&& Int32.toUInt32 31)).toInt32 &&& 7 = (x >>> (zI (3 * k) &&& 31)) &&& 7 := by
    apply bt_ext
    intro i hi
    rw [bt_and, bt_and, bt_7 hi]
    by_cases i3 : i < 3
    · rw [decide_eq_true i3, Bool.and_true, Bool.and_true]
      have a : bt ((x.toUInt32 >>> ((zI (3 * k)).toUInt32 &&& Int32.toUInt32 31)).toInt32) i = bt x (3 * k + i) := by
        show (x.toUInt32 >>> ((zI (3 * k)).toUInt32 &&& Int32.toUInt32 31)).toBitVec.getLsbD i = _
        rw [UInt32.toBitVec_shiftRight]
        have s : ∀ k : Fin 32, (((zI k.val).toUInt32 &&& Int32.toUInt32 31).toBitVec % 32).toNat = k.val := by decide
        have s2 := s ⟨3 * k, by omega⟩
        simp only [BitVec.ushiftRight_eq', BitVec.getLsbD_ushiftRight]
        rw [s2]
        rfl
      have b : bt (x >>> (zI (3 * k) &&& 31)) i = bt x (3 * k + i) := by
        unfold bt
        rw [Int32.toBitVec_shiftRight, sh_k ⟨3 * k, by omega⟩]
        simp only [BitVec.sshiftRight', BitVec.toNat_ofNat, BitVec.getLsbD_sshiftRight]
        have : 3 * k % 2 ^ 32 = 3 * k := Nat.mod_eq_of_lt (by omega)
        rw [this]
        simp [show ¬ 32 ≤ i by omega, show 3 * k + i < 32 by omega]
      rw [a, b]
    · rw [decide_eq_false i3, Bool.and_false, Bool.and_false]
  obtain ⟨t, ht, et⟩ := bt_nat (x := (x >>> (zI (3 * k) &&& 31)) &&& 7) (m := 3) (by decide) (fun i hi => by
    by_cases i32 : i < 32
    · rw [bt_and, bt_7 i32, decide_eq_false (by omega), Bool.and_false]
    · exact bt_big _ _ (by omega))
  exact ⟨t, ht, et, e0.trans et⟩
noncomputable def jt (x : Int32) (k : Nat) : Nat := if h : k < 8 then (jd_bits x h).choose else 0
theorem jt_p (x : Int32) {k : Nat} (h : k < 8) : jt x k < 8 ∧ (x >>> (zI (3 * k) &&& 31)) &&& 7 = zI (jt x k) ∧ ((x.toUInt32 >>> ((zI (3 * k)).toUInt32 &&& Int32.toUInt32 31)).toInt32) &&& 7 = zI (jt x k) := by
  unfold jt
  rw [dif_pos h]
  exact (jd_bits x h).choose_spec
noncomputable def jC (x : Int32) : Nat → Int32 := fun k => zI (jt x k)
def jOK (n : Nat) (r5 : Nat → Int32) (pr x : Int32) (K : Nat) : Prop := ∀ k, k < K → bt (clB n r5 pr k) (jt x k) = true
def jdR (n m : Nat) (r4 r5 r12 W : Nat → Int32) (pr x y : Int32) : Prop := (8 < dK n r5 pr ∧ y = -1) ∨ (dK n r5 pr ≤ 8 ∧ ((¬ jOK n r5 pr x (dK n r5 pr) ∧ y = 0) ∨ (jOK n r5 pr x (dK n r5 pr) ∧ ((¬ frC m r12 pr (gtC n r4 r5 W pr (jC x)) ∧ y = 1) ∨ (frC m r12 pr (gtC n r4 r5 W pr (jC x)) ∧ (stbC n r4 W pr (gtC n r4 r5 W pr (jC x)) ∧ y = 3 ∨ ¬ stbC n r4 W pr (gtC n r4 r5 W pr (jC x)) ∧ y = 2))))))
theorem jdR_u {n m : Nat} {r4 r5 r12 W : Nat → Int32} {pr x y z : Int32} (h : jdR n m r4 r5 r12 W pr x y) (k : jdR n m r4 r5 r12 W pr x z) : z = y := by
  rcases h with ⟨h1, rfl⟩ | ⟨h1, ⟨h2, rfl⟩ | ⟨h2, ⟨h3, rfl⟩ | ⟨h3, ⟨h4, rfl⟩ | ⟨h4, rfl⟩⟩⟩⟩ <;> rcases k with ⟨k1, rfl⟩ | ⟨k1, ⟨k2, rfl⟩ | ⟨k2, ⟨k3, rfl⟩ | ⟨k3, ⟨k4, rfl⟩ | ⟨k4, rfl⟩⟩⟩⟩ <;> first | rfl | omega | (exact absurd k2 h2) | (exact absurd h2 k2) | (exact absurd k3 h3) | (exact absurd h3 k3) | (exact absurd k4 h4) | (exact absurd h4 k4)
theorem clB_6 {n : Nat} {r5 : Nat → Int32} {pr : Int32} (h6 : ∀ l k, 6 ≤ k → bt (r5 l) k = false) {j s : Nat} (h : bt (clB n r5 pr j) s = true) : s < 6 := by
  rcases Nat.lt_or_ge s 6 with k | k
  · exact k
  · unfold clB at h
    rw [bt_and, h6 _ s k, Bool.false_and] at h
    cases h
section V4
variable {X : (Nat → Int32) × Nat} {mo : Bool} {G : Nat × Nat} {I : Nat → Nat → Int32} {J : Nat → Nat → Int64} {Q : Option Value → sm_M → Prop} {c : Nat}
theorem h_judge {n m : Nat} (h : inv c mo G I J) (hc : c ≤ 1000) (hb : bas n m I) {x : Int32}
    (hQ : ∀ mo' K y, inv c mo' G K J → bas n m K → K 4 = I 4 → K 5 = I 5 → K 12 = I 12 → K 13 = I 13 → K 1 = I 1 → jdR n m (I 4) (I 5) (I 12) (I 13) (I 1 2) x y → Q (some (.int y)) (sM mo' G K J)) :
    sm_wp X 143 0 [some (.ref 52), some (.int (I 1 2)), some (.int x), none, none] [] (sM mo G I J) Q := by
  have hsh := inv_sh h hc hb
  have hb0 := hb
  obtain ⟨b1', b2, b3, b4, b5, -, b7, b8, b9, b10, b11⟩ := hb
  have d12 : dK n (I 5) (I 1 2) ≤ 12 := Nat.le_trans (cN_le _ _) b2
  have p6 : ∀ k, 6 ≤ k → bt (I 1 2) k = false := fun k hk => b5 k (by omega)
  -- what comes back
  have back : ∀ mo' K L, FrS 52 58 I K → (∃ ch, SI n m (I 4) (I 5) (I 12) (I 13) (I 1 2) ch (K 52) (K 53) (K 54) (K 56) (K 57) (K 58)) → FrH K L → shOK mo' L n m → inv c mo' G L J ∧ bas n m L ∧ L 4 = I 4 ∧ L 5 = I 5 ∧ L 12 = I 12 ∧ L 13 = I 13 ∧ L 1 = I 1 := by
    rintro mo' K L f ⟨ch, hS⟩ fL hs
    have e : ∀ c, sx52 c = false → L c = I c := fun c hc => by
      unfold sx52 at hc
      simp only [Bool.or_eq_false_iff, Bool.and_eq_false_iff, decide_eq_false_iff_not] at hc
      rw [fL.1 c (by omega) (by omega) (by omega) (by omega), f.1 c (by omega)]
    have fX : FrX I L 52 59 := by
      refine ⟨fun c a1 a2 a3 a4 a5 => by rw [fL.1 c a1 a2 a3 a4, f.1 c (by omega)], ?_⟩
      have := fL.2
      rw [f.1 48 (by decide), f.1 1 (by decide)] at this
      exact this
    have l52 : L 52 = K 52 := fL.1 52 (by decide) (by decide) (by decide) (by decide)
    have l53 : L 53 = K 53 := fL.1 53 (by decide) (by decide) (by decide) (by decide)
    have l59 : L 59 = I 59 := (fL.1 59 (by decide) (by decide) (by decide) (by decide)).trans (f.1 59 (by decide))
    have lj : ∀ j, j ≠ 2 → j ≠ 5 → j ≠ 12 → L 52 j = I 52 j := fun j a b d => by rw [l52]; exact f.2 j a b d
    refine ⟨?_, bas_x hb0 fX (by decide) (by decide), e 4 rfl, e 5 rfl, e 12 rfl, e 13 rfl, e 1 rfl⟩
    unfold shOK at hs
    rw [e 1 rfl, e 4 rfl, e 13 rfl] at hs
    have h0 := h
    obtain ⟨n', m', t, p, q, r, ch0, ln, hN, hE, hV, hY, hG, hK, hP, hS', hA, hT, hF, hB, hC, hD, hD2, hX, hZ⟩ := h
    have en : n = n' := by
      have := hb0.1.symm.trans hN.1
      rw [zI_eq (by omega) (by have := hN.2.2.1; omega)] at this
      exact this
    have em : m = m' := by
      have := hb0.2.2.1.symm.trans hN.2.2.2.1
      rw [zI_eq (by omega) (by have := hN.2.2.2.2.2.1; omega)] at this
      exact this
    subst en; subst em
    have t3 := hN.2.2.2.2.2.2.2.2.2.2
    have cb0 : ch0 < 100000000 := by have := hK.2; omega
    refine inv_x52 e rfl h0 hc hb0 (fun ch' cb' hk hC' => ⟨?_, hC'.2.1, fun _ e1 => hs (by rw [hk]; exact e1), hC'.2.2.2⟩) (fun ch' cb' hk => ?_)
    · rcases fX.2 with e1 | e1
      · rw [e1]; exact hC'.1
      · rw [e1]; exact Or.inr ⟨ch', Nat.le_refl _, hk⟩
    · have ech : ch' = ch0 := by
        have := hk.symm.trans hK.1
        rw [zI_eq (by omega) (by omega)] at this
        exact this
      subst ech
      obtain ⟨g1, g2, g3⟩ := hD
      unfold ivD
      rw [lj 4 (by decide) (by decide) (by decide), lj 3 (by decide) (by decide) (by decide)]
      refine ⟨g1, fun _ e4 => ?_, g3⟩
      have e3 := g3 cb0 rfl e4
      obtain ⟨s1, s2, s3, s4, s5⟩ := g2 cb0 e4
      rw [e3] at s1 s2 s3 s4 s5 ⊢
      refine ⟨by rw [l52]; exact hS.1, by rw [l52]; exact hS.2.1, fun k a b => by rw [l53]; exact (hS.2.2.1 k a b).1, fun a => ?_, fun a => ?_⟩
      · rw [lj 14 (by decide) (by decide) (by decide), lj 17 (by decide) (by decide) (by decide)]; exact s4 a
      · obtain ⟨u1, u2, u3, u4, u5⟩ := s5 a
        unfold RI
        rw [lj 13 (by decide) (by decide) (by decide), lj 14 (by decide) (by decide) (by decide), lj 15 (by decide) (by decide) (by decide), lj 17 (by decide) (by decide) (by decide), lj 18 (by decide) (by decide) (by decide), l59]
        exact ⟨u1, u2, u3, u4, u5⟩
  have stay : ∀ K, FrS 52 58 I K → (∃ ch, SI n m (I 4) (I 5) (I 12) (I 13) (I 1 2) ch (K 52) (K 53) (K 54) (K 56) (K 57) (K 58)) → ∀ y, jdR n m (I 4) (I 5) (I 12) (I 13) (I 1 2) x y → Q (some (.int y)) (sM mo G K J) := by
    intro K f hS y hy
    have hs : shOK mo K n m := by
      unfold shOK
      rw [f.1 48 (by decide), f.1 1 (by decide), f.1 4 (by decide), f.1 13 (by decide), f.1 49 (by decide), f.1 50 (by decide), f.1 143 (by decide)]
      exact hsh
    obtain ⟨q1, q2, q3, q4, q5, q6, q7⟩ := back mo K K f hS ⟨fun _ _ _ _ _ => rfl, Or.inl rfl⟩ hs
    exact hQ mo K y q1 q2 q3 q4 q5 q6 q7 hy
  rw [lp_143_0]
  refine cs_129 (n := n) (m := m) (pr := I 1 2) b1' b2 b3 b4 b8 b10 b11 ?_
  intro K f k55 hS
  simp only [tl_none]
  rw [lp_143_5, lp_131_0, hS.2.1]
  by_cases g8 : dK n (I 5) (I 1 2) ≤ 8
  · rw [if_pos (by rw [zIr_le (c := 8) (by decide) (by omega)]; exact g8)]
    simp only [tl_some]
    rw [lp_143_9, if_pos rfl]
    have key : ∀ d k, k + d = dK n (I 5) (I 1 2) → jOK n (I 5) (I 1 2) x k → ∀ N ch, FrS 52 58 I N → (∀ j, j < 8 → j < dK n (I 5) (I 1 2) → N 55 j = ch j) → (∀ j, j < dK n (I 5) (I 1 2) → ch j = if j < k then jC x j else -1) → SI n m (I 4) (I 5) (I 12) (I 13) (I 1 2) ch (N 52) (N 53) (N 54) (N 56) (N 57) (N 58) → sm_wp X 143 16 [some (.ref 52), none, some (.int x), some (.int (zI k)), none] [] (sM mo G N J) Q := by
      intro d
      induction d with
      | zero =>
        intro k hk hj N ch fN n55 hch hN
        have : k = dK n (I 5) (I 1 2) := by omega
        subst this
        have e : ∀ j, j < dK n (I 5) (I 1 2) → ch j = jC x j := fun j hj => by rw [hch j hj, if_pos hj]
        have hN2 : SI n m (I 4) (I 5) (I 12) (I 13) (I 1 2) (jC x) (N 52) (N 53) (N 54) (N 56) (N 57) (N 58) := si_ch hN (fun s => by
          unfold gtC
          rw [gsm_c (fun j hj => (e j (Nat.lt_of_lt_of_le hj (Nat.min_le_right _ _))).symm)])
        have no : ∀ c, c < 52 ∨ 58 < c → N c = I c := fN.1
        have ek := kpS_e hN2.2.2.2.2
        rw [lp_143_16, if_pos (by rw [hN.2.1, zI_le (by omega) (by omega)]; exact Nat.le_refl _)]
        by_cases gf : frC m (I 12) (I 1 2) (gtC n (I 4) (I 5) (I 13) (I 1 2) (jC x))
        · rw [if_pos (by rw [ek, hN.1]; exact (kpI_f p6).mpr gf)]
          have hs : shOK mo N n m := by
            unfold shOK
            rw [no 48 (by decide), no 1 (by decide), no 4 (by decide), no 13 (by decide), no 49 (by decide), no 50 (by decide), no 143 (by decide)]
            exact hsh
          refine cs_135 (I := N) (n := n) (m := m) (pr := I 1 2) (ch := jC x) (by rw [no 1 (by decide)]; exact b1') b2 (by rw [no 1 (by decide)]; exact b3) b4 b5 (by rw [no 13 (by decide)]; exact b10) hs (by rw [no 4 (by decide), no 5 (by decide), no 12 (by decide), no 13 (by decide)]; exact hN2) ?_
          intro mo' L z fL shL hz
          rw [no 4 (by decide), no 5 (by decide), no 13 (by decide)] at hz
          simp only [tl_some]
          rw [lp_143_86]
          obtain ⟨q1, q2, q3, q4, q5, q6, q7⟩ := back mo' N L fN ⟨_, hN2⟩ fL shL
          rcases hz with ⟨rfl, hz⟩ | ⟨rfl, hz⟩
          · rw [if_neg (by decide)]
            exact hQ mo' L 3 q1 q2 q3 q4 q5 q6 q7 (Or.inr ⟨g8, Or.inr ⟨hj, Or.inr ⟨gf, Or.inl ⟨hz, rfl⟩⟩⟩⟩)
          · rw [if_pos rfl]
            exact hQ mo' L 2 q1 q2 q3 q4 q5 q6 q7 (Or.inr ⟨g8, Or.inr ⟨hj, Or.inr ⟨gf, Or.inr ⟨hz, rfl⟩⟩⟩⟩)
        · rw [if_neg (by rw [ek, hN.1]; exact fun e => gf ((kpI_f p6).mp e))]
          exact stay N fN ⟨_, hN⟩ 1 (Or.inr ⟨g8, Or.inr ⟨hj, Or.inl ⟨gf, rfl⟩⟩⟩)
      | succ d ih =>
        intro k hk hj N ch fN n55 hch hN
        have kD : k < dK n (I 5) (I 1 2) := by omega
        have no : ∀ c, c < 52 ∨ 58 < c → N c = I c := fN.1
        have jp := jt_p x (show k < 8 by omega)
        rw [lp_143_16, if_neg (by rw [hN.2.1, zI_le (by omega) (by omega)]; omega), if_neg (by rw [zIl_le (c := 8) (by decide) (by omega)]; show ¬ 8 ≤ k; omega), zI_vp (by omega), zI_cn (by omega), show (3 : Int32) * zI k = zI (3 * k) from zIl_mul 3 k, jp.2.2]
        refine ⟨by omega, ?_⟩
        have hbit : hBit (N 54 k) (zI (jt x k)) = (bt (clB n (I 5) (I 1 2) k) (jt x k) = true) := by
          rw [(hN.2.2.1 k (by omega) kD).2, hb_bt _ _ (by omega)]
        by_cases gb : bt (clB n (I 5) (I 1 2) k) (jt x k) = true
        · have t6 := clB_6 b8 gb
          have ck : ch k = -1 := by rw [hch k kD, if_neg (Nat.lt_irrefl _)]
          rw [if_pos (by rw [hbit]; exact gb)]
          refine cs_133 (I := N) (n := n) (m := m) (pr := I 1 2) (ch := ch) (by omega) (by rw [no 5 (by decide)]; exact kD) t6 b2 (by rw [no 13 (by decide)]; exact b10) (by rw [no 12 (by decide)]; exact b11) (by rw [no 4 (by decide), no 5 (by decide), no 12 (by decide), no 13 (by decide)]; exact hN) (by rw [no 5 (by decide)]; exact n55) (Or.inl ck) ?_
          intro P fP p55 hP
          rw [no 5 (by decide)] at p55
          rw [no 4 (by decide), no 5 (by decide), no 12 (by decide), no 13 (by decide)] at hP
          simp only [tl_none]
          rw [lp_143_63, show zI k + 1 = zI (k + 1) from zIr_add 1 k]
          refine ih (k + 1) (by omega) (fun j hj2 => ?_) P _ (FrS_t fN fP) p55 (fun j hj2 => ?_) hP
          · by_cases e : j = k
            · rw [e]; exact gb
            · exact hj j (by omega)
          · rw [va_ap]
            by_cases g1 : j = k
            · subst g1
              rw [if_pos rfl, if_pos (Nat.lt_succ_self _)]
              rfl
            · rw [if_neg g1, hch j hj2]
              by_cases g2 : j < k
              · rw [if_pos g2, if_pos (by omega)]
              · rw [if_neg g2, if_neg (by omega)]
        · rw [if_neg (by rw [hbit]; exact gb)]
          exact stay N fN ⟨_, hN⟩ 0 (Or.inr ⟨g8, Or.inl ⟨fun e => gb (e k kD), rfl⟩⟩)
    exact key (dK n (I 5) (I 1 2)) 0 (by omega) (fun j hj => absurd hj (Nat.not_lt_zero _)) K _ f k55 (fun j hj => by rw [if_neg (Nat.not_lt_zero _)]) hS
  · rw [if_neg (by rw [zIr_le (c := 8) (by decide) (by omega)]; exact g8)]
    simp only [tl_some]
    rw [lp_143_9, if_neg (by decide)]
    exact stay K f ⟨_, hS⟩ (-1) (Or.inl ⟨by omega, rfl⟩)
theorem m_judge {n m : Nat} {pr : Int32} {r4 r5 r12 W : Nat → Int32} (hb : basM n m pr r4 r5 r12 W I) {x : Int32}
    (hQ : ∀ L y, Fr I L → jdR n m r4 r5 r12 W pr x y → Q (some (.int y)) (sM mo G L J)) :
    sm_wp X 286 0 [some (.ref 81), some (.int x), none, none] [] (sM mo G I J) Q := by
  have f0 : Fr I (up2 I 81 2 0) := Fr_m (Fr_r I) rfl 0
  have hb1 := basM_fr hb f0
  obtain ⟨⟨c1, c2, c3, c4, c5⟩, bp, ⟨d1, d2, d3, d4⟩, b2, b3, b4, b5, b6⟩ := hb1
  have d12 : dK n r5 pr ≤ 12 := Nat.le_trans (cN_le _ _) c2
  rw [lp_286_0]
  refine ct_275 (n := n) (m := m) c1 c2 c3 c4 (by rw [c5]; exact bp) (by rw [d2]; exact b3) (by rw [d2]; exact b4) (by rw [d1]; exact b2) (by rw [d4]; exact b5) ?_
  intro K fK hM
  rw [d1, d2, d4, c5] at hM
  have frK : Fr I K := Fr_t f0 (Fr_M fK)
  have sp : vf_Model_isSpent K ↔ 8 < dK n r5 pr := by
    unfold vf_Model_isSpent
    rw [hM.1]
    rw [zIr_le (c := 8) (by decide) (by omega)]
    show ¬ dK n r5 pr ≤ 8 ↔ _
    omega
  simp only [tl_none]
  rw [lp_286_9]
  by_cases g8 : 8 < dK n r5 pr
  · rw [if_neg (fun e => e (sp.mpr g8))]
    exact hQ K (-1) frK (Or.inl ⟨g8, rfl⟩)
  · rw [if_pos (fun e => g8 (sp.mp e))]
    have h8 : dK n r5 pr ≤ 8 := by omega
    have f128 : ∀ q, Fr I (rw2 K 128 q) := fun q => Fr_w frK rfl (by decide) (by decide) (by decide) q
    have key : ∀ d k, k + d = dK n r5 pr → jOK n r5 pr x k → ∀ q : Nat → Int32, (∀ s, s < 6 → q s = zI (sur n r4 r5 W pr s + gsm n r5 W pr (jC x) k s)) → sm_wp X 286 46 [some (.ref 81), some (.int x), some (.int (zI k)), none] [] (sM mo G (rw2 K 128 q) J) Q := by
      intro d
      induction d with
      | zero =>
        intro k hk hj q hq
        have : k = dK n r5 pr := by omega
        subst this
        obtain ⟨⟨k1, k2, k3, k4, k5⟩, -, ⟨e1, e2, e3, e4⟩, -⟩ := basM_fr hb (f128 q)
        have hg : ∀ s, s < 6 → rw2 K 128 q 128 s = zI (gtC n r4 r5 W pr (jC x) s) := fun s hs => by
          rw [rw2_a, hq s hs]
          unfold gtC
          rw [Nat.min_eq_right h8]
        have gb : ∀ s, gtC n r4 r5 W pr (jC x) s ≤ 1188 := fun s => gtC_b b5 c2 s
        rw [lp_286_46, if_pos (by rw [rw2_n _ _ _ _ (by decide), hM.1, zI_le (by omega) (by omega)]; exact Nat.le_refl _)]
        refine ct_279 (m := m) (pr := pr) (g := gtC n r4 r5 W pr (jC x)) k3 c4 k5 bp (by rw [e3]; exact b6) hg gb ?_
        intro z hz
        rw [e3] at hz
        simp only [tl_some]
        rw [lp_286_126]
        rcases hz with ⟨rfl, hz⟩ | ⟨rfl, hz⟩
        · rw [if_pos (by decide)]
          refine ct_277 (n := n) (m := m) k1 c2 k3 c4 (by rw [e4]; exact b5) ?_
          intro q130 hq130
          rw [e1, e4, k5] at hq130
          simp only [tl_none]
          rw [lp_286_135]
          have fL : Fr I (rw2 (rw2 K 128 q) 130 q130) := Fr_w (f128 q) rfl (by decide) (by decide) (by decide) q130
          obtain ⟨⟨l1, l2, l3, l4, l5⟩, -, ⟨m1, m2, m3, m4⟩, -⟩ := basM_fr hb fL
          refine ct_280 (n := n) (m := m) (pr := pr) (r4 := r4) (g := gtC n r4 r5 W pr (jC x)) c2 l3 c4 l5 bp (by rw [m4]; exact b5) (by rw [rw2_n _ _ _ _ (by decide)]; exact hg) gb (fun s hs => by rw [m4, rw2_n _ _ _ _ (by decide), rw2_n _ _ _ _ (by decide)]; exact (hM.2.2.2.2 s hs).2) (by rw [m4, rw2_a]; exact hq130) ?_
          intro z2 hz2
          rw [m4] at hz2
          simp only [tl_some]
          rw [lp_286_139]
          rcases hz2 with ⟨rfl, hz2⟩ | ⟨rfl, hz2⟩
          · rw [if_neg (by decide)]
            exact hQ _ 3 fL (Or.inr ⟨h8, Or.inr ⟨hj, Or.inr ⟨hz, Or.inl ⟨hz2, rfl⟩⟩⟩⟩)
          · rw [if_pos rfl]
            exact hQ _ 2 fL (Or.inr ⟨h8, Or.inr ⟨hj, Or.inr ⟨hz, Or.inr ⟨hz2, rfl⟩⟩⟩⟩)
        · rw [if_neg (fun e => e rfl)]
          exact hQ _ 1 (f128 q) (Or.inr ⟨h8, Or.inr ⟨hj, Or.inl ⟨hz, rfl⟩⟩⟩)
      | succ d ih =>
        intro k hk hj q hq
        have kD : k < dK n r5 pr := by omega
        have np := nt_p (P := stD r5 pr) (n := n) kD
        have dn : dl n r5 pr k < n := np.2.1
        obtain ⟨⟨k1, k2, k3, k4, k5⟩, -, ⟨e1, e2, e3, e4⟩, -⟩ := basM_fr hb (f128 q)
        have jp := jt_p x (show k < 8 by omega)
        have pe : vf_Model_isPresent (rw2 K 128 q) (zI (jt x k)) ↔ bt pr (jt x k) = true := by
          rw [mPres_vp k3 c4, zI_sIn (by omega) (by omega), zI_cn (by omega), k5]
          refine ⟨fun e => e.2, fun e => ⟨?_, e⟩⟩
          rcases Nat.lt_or_ge (jt x k) m with g | g
          · exact g
          · rw [bp _ g] at e; cases e
        have cle : bt (clB n r5 pr k) (jt x k) = (bt (r5 (dl n r5 pr k)) (jt x k) && bt pr (jt x k)) := by unfold clB; rw [bt_and]
        rw [lp_286_46, if_neg (by rw [rw2_n _ _ _ _ (by decide), hM.1, zI_le (by omega) (by omega)]; omega), show (3 : Int32) * zI k = zI (3 * k) from zIl_mul 3 k, jp.2.1]
        by_cases g1 : bt pr (jt x k) = true
        · rw [if_neg (fun e => e (pe.mpr g1)), zI_vp (by omega), zI_cn (by omega), rw2_n _ _ _ 123 (by decide), hM.2.1 k kD, zI_vp (by omega), zI_cn (by omega), e2]
          refine ⟨by omega, by omega, ?_⟩
          cases g2 : bt (r5 (dl n r5 pr k)) (jt x k) with
          | true =>
            have hcl : bt (clB n r5 pr k) (jt x k) = true := by rw [cle, g1, g2]; rfl
            have t6 := clB_6 b3 hcl
            have wz : W (12 * jt x k + dl n r5 pr k) = zI (ww W (jt x k) (dl n r5 pr k)) := by
              obtain ⟨w, hw, e⟩ := b5 (12 * jt x k + dl n r5 pr k)
              unfold ww
              rw [e, zI_cn (by omega)]
            rw [if_pos (by rw [sb_0 _ _ (by omega), g2]; decide), zI_vp (by omega), zI_cn (by omega), show (12 : Int32) * zI (jt x k) = zI (12 * jt x k) from zIl_mul 12 _, zI_add, zI_vp (by omega), zI_cn (by omega), e4, wz, up2_rw, rw2_a, rw2_rw, hq _ t6, zI_add, show zI k + 1 = zI (k + 1) from zIr_add 1 k]
            refine ⟨t6, by omega, ih (k + 1) (by omega) (fun j hj2 => ?_) _ (fun s hs => ?_)⟩
            · by_cases e : j = k
              · rw [e]; exact hcl
              · exact hj j (by omega)
            · rw [va_ap, gsm_s]
              by_cases e : s = jt x k
              · rw [if_pos e, e, if_pos (show jC x k = zI (jt x k) from rfl), Nat.add_assoc]
              · rw [if_neg e, if_neg (show ¬ jC x k = zI s from by unfold jC; rw [zI_eq (by omega) (by omega)]; omega)]
                exact hq s hs
          | false =>
            rw [if_neg (by rw [sb_0 _ _ (by omega), g2]; exact fun e => e rfl)]
            refine hQ _ 0 (f128 q) (Or.inr ⟨h8, Or.inl ⟨fun e => ?_, rfl⟩⟩)
            have := e k kD
            rw [cle, g2, Bool.false_and] at this
            cases this
        · rw [if_pos (fun e => g1 (pe.mp e))]
          refine hQ _ 0 (f128 q) (Or.inr ⟨h8, Or.inl ⟨fun e => ?_, rfl⟩⟩)
          have := e k kD
          rw [cle, Bool.and_eq_true] at this
          exact g1 this.2
    have ini : ∀ d s, s + d = 6 → ∀ q : Nat → Int32, (∀ t, t < s → q t = zI (sur n r4 r5 W pr t)) → sm_wp X 286 20 [some (.ref 81), some (.int x), some (.int (zI s)), none] [] (sM mo G (rw2 K 128 q) J) Q := by
      intro d
      induction d with
      | zero =>
        intro s hs q hq
        have : s = 6 := by omega
        subst this
        rw [lp_286_20, if_pos (by decide)]
        exact key (dK n r5 pr) 0 (by omega) (fun j hj => absurd hj (Nat.not_lt_zero _)) q (fun t ht => hq t ht)
      | succ d ih =>
        intro s hs q hq
        rw [lp_286_20, if_neg (by rw [zIl_le (c := 6) (by decide) (by omega)]; show ¬ 6 ≤ s; omega), zI_vp (by omega), zI_cn (by omega), rw2_n _ _ _ 126 (by decide), (hM.2.2.2.2 s (by omega)).1, show zI s + 1 = zI (s + 1) from zIr_add 1 s, up2_rw, rw2_a, rw2_rw]
        refine ⟨by omega, ih (s + 1) (by omega) _ (fun t ht => ?_)⟩
        rw [va_ap]
        by_cases e : t = s
        · rw [if_pos e, e]
        · rw [if_neg e]; exact hq t (by omega)
    have q := ini 6 0 (by omega) (K 128) (fun t ht => absurd ht (Nat.not_lt_zero _))
    rw [rw2_self] at q
    exact q
theorem op_judge (h : inv c mo G I J) (hc : c ≤ 1000) (x : Int32) : Agr X 193 [some (.ref 0), some (.int x)] 286 [some (.ref 81), some (.int x), none, none] (sM mo G I J) (Inv (c + 1)) := by
  obtain ⟨n, m, hb⟩ := inv_bas h
  unfold Agr
  rw [lp_193_0]
  refine h_judge h hc hb (fun mo' K y hK bK k4 k5 k12 k13 k1 hy => ?_)
  simp only [tl_some]
  rw [lp_193_15]
  refine m_judge (bas_M bK) (fun L z fL hz => ?_)
  rw [k4, k5, k12, k13, k1] at hz
  rw [jdR_u hy hz]
  exact ⟨rfl, inv_fr hK fL rfl rfl⟩
end V4
