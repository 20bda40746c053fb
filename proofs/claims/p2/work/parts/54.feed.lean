/-! feed. -/
/-- a byte as the class keeps it, and as the reference does -/
def cb (x : Int32) (s : Nat) : Int32 := vp_nar .byte (((x.toUInt32 >>> ((zI s).toUInt32 &&& Int32.toUInt32 31)).toInt32).toInt8.toInt32)
def mbw (x : Int32) (s : Nat) : Int32 := (x >>> (zI s &&& 31)) &&& 255
def fdw (a b c d e : Int32) (k : Nat) : Int32 := if k < 4 then a else if k < 8 then b else if k < 12 then c else if k < 16 then d else e
def fsh (k : Nat) : Nat := 24 - 8 * (k % 4)
theorem i8_of (u v : Int32) (h : ∀ k, k < 8 → bt u k = bt v k) : u.toInt8 = v.toInt8 := by
  apply Int8.toBitVec_inj.mp
  apply BitVec.eq_of_getLsbD_eq
  intro i hi
  have := h i hi
  unfold bt at this
  have h32 : i < 32 := by omega
  simp only [Int32.toBitVec_toInt8, BitVec.getLsbD_signExtend, hi, h32, decide_true, Bool.true_and, if_true]
  exact this
theorem bt_mb (x : Int32) (s k : Nat) (hs : s ≤ 24) (hk : k < 32) : bt (mbw x s) k = (decide (k < 8) && bt x (s + k)) := by
  unfold mbw
  rw [bt_and]
  have e1 : bt (x >>> (zI s &&& 31)) k = if s + k < 32 then bt x (s + k) else x.toBitVec.msb := by
    unfold bt
    rw [Int32.toBitVec_shiftRight, sh_k ⟨s, by omega⟩]
    simp only [BitVec.sshiftRight', BitVec.toNat_ofNat, BitVec.getLsbD_sshiftRight]
    have : s % 2 ^ 32 = s := Nat.mod_eq_of_lt (by omega)
    rw [this]
    simp [hk]
  have e2 : bt 255 k = decide (k < 8) := by
    have h := (by decide +kernel : ∀ i : Fin 32, bt 255 i.val = decide (i.val < 8))
    exact h ⟨k, hk⟩
  rw [e1, e2]
  by_cases h8 : k < 8
  · simp [h8, show s + k < 32 by omega]
  · simp [h8]
theorem us_k : ∀ k : Fin 32, ((zI k.val).toUInt32 &&& Int32.toUInt32 31) = UInt32.ofNat k.val := by decide +kernel
theorem bt_us (x : Int32) (s k : Nat) (hs : s ≤ 24) (hk : k < 32) : bt ((x.toUInt32 >>> ((zI s).toUInt32 &&& Int32.toUInt32 31)).toInt32) k = bt x (s + k) := by
  rw [us_k ⟨s, by omega⟩]
  unfold bt
  have e : ((x.toUInt32 >>> UInt32.ofNat s).toInt32).toBitVec = x.toBitVec >>> s := by
    show (x.toUInt32 >>> UInt32.ofNat s).toBitVec = _
    rw [UInt32.toBitVec_shiftRight]
    have : ((UInt32.ofNat s).toBitVec % 32).toNat = s := by
      have h := (by decide +kernel : ∀ s : Fin 32, ((UInt32.ofNat s.val).toBitVec % 32).toNat = s.val)
      exact h ⟨s, by omega⟩
    rw [BitVec.ushiftRight_eq']
    rw [this]
    rfl
  rw [e, BitVec.getLsbD_ushiftRight]
theorem cb_mb (x : Int32) (s : Nat) (hs : s ≤ 24) : cb x s = (mbw x s).toInt8.toInt32 := by
  have e : vp_nar .byte (((x.toUInt32 >>> ((zI s).toUInt32 &&& Int32.toUInt32 31)).toInt32).toInt8.toInt32) = ((x.toUInt32 >>> ((zI s).toUInt32 &&& Int32.toUInt32 31)).toInt32).toInt8.toInt32.toInt8.toInt32 := rfl
  unfold cb
  rw [e, Int8.toInt8_toInt32]
  congr 1
  apply i8_of
  intro k hk
  rw [bt_us _ _ _ hs (by omega), bt_mb _ _ _ hs (by omega)]
  simp [hk]
theorem mb_256 (x : Int32) (s : Nat) (hs : s ≤ 24) : ∃ w, w < 256 ∧ mbw x s = zI w := by
  obtain ⟨k, hk, e⟩ := bt_nat (m := 8) (x := mbw x s) (by decide) (fun k hk => by
    by_cases h : k < 32
    · rw [bt_mb _ _ _ hs h]
      simp [show ¬ k < 8 by omega]
    · exact bt_big _ _ (by omega))
  exact ⟨k, hk, e⟩
def fdC (a b c d e : Int32) (ln : Nat) (k : Nat) (r : Nat → Int32) : Nat → Int32 := va_up r (ln + k) (cb (fdw a b c d e k) (fsh k))
def fdM (a b c d e : Int32) (ln : Nat) (k : Nat) (r : Nat → Int32) : Nat → Int32 := va_up r (ln + k) (mbw (fdw a b c d e k) (fsh k))
def pf4 (r : Nat → Int32) (ln : Nat) (x : Int32) : Nat → Int32 := va_up (va_up (va_up (va_up r ln (cb x 24)) (ln + 1) (cb x 16)) (ln + 2) (cb x 8)) (ln + 3) (cb x 0)
section O1
variable (X : (Nat → Int32) × Nat) (mo : Bool) (G : Nat × Nat) (I : Nat → Nat → Int32) (J : Nat → Nat → Int64) (Q : Option Value → sm_M → Prop)
theorem ct_four {ln : Nat} (hl : I 14 0 = zI ln) (h4 : ln + 4 ≤ 400) (x : Int32) : sm_wp X 154 0 [some (.ref 14), some (.int x), none] [] (sM mo G I J) Q = Q none (sM mo G (up2 (rw2 I 15 (pf4 (I 15) ln x)) 14 0 (zI (ln + 4))) J) := by
  have st : ∀ (K : Nat → Nat → Int32) (l s : Nat), K 14 0 = zI l → l < 400 → s ≤ 24 → ∀ Q : Option Value → sm_M → Prop, sm_wp X 154 3 [some (.ref 14), some (.int x), some (.int (zI s))] [] (sM mo G K J) Q = sm_wp X 154 3 [some (.ref 14), some (.int x), some (.int (zI s + (-8)))] [] (sM mo G (up2 (up2 K 15 l (cb x s)) 14 0 (zI (l + 1))) J) Q := by
    intro K l s h1 h2 h3 Q
    have c1 : ¬ 400 ≤ l := by omega
    rw [lp_154_3]
    simp (disch := first | omega | decide) only [h1, zI_lt, zI_le, zI_eq, zI_cn, zI_vp, zI_add, zI_mul, zI_sub, zIl_add, zIr_add, zIl_mul, zIr_mul, zIr_sub, zIl_lt, zIr_lt, zIl_le, zIr_le, zIl_eq, zIr_eq, zI_sIn, zI_m1, zI_m1', Int32.add_zero, Int32.or_zero, c1, h2, Nat.not_lt_zero, if_false, true_and]
    rfl
  rw [lp_154_0, show (24 : Int32) = zI 24 from rfl, st I ln 24 hl (by omega) (by decide), show zI 24 + (-8) = zI 16 by decide, st _ (ln + 1) 16 (by simp (decide := true) only [up2_ra, up2_rn, va_ap, ne_eq, if_false, if_true, not_false_eq_true]) (by omega) (by decide), show zI 16 + (-8) = zI 8 by decide, st _ (ln + 2) 8 (by simp (decide := true) only [up2_ra, up2_rn, va_ap, ne_eq, if_false, if_true, not_false_eq_true]) (by omega) (by decide), show zI 8 + (-8) = zI 0 by decide, st _ (ln + 3) 0 (by simp (decide := true) only [up2_ra, up2_rn, va_ap, ne_eq, if_false, if_true, not_false_eq_true]) (by omega) (by decide), show zI 0 + (-8) = -8 by decide, lp_154_3, if_pos (by decide)]
  have e : (up2 (up2 (up2 (up2 (up2 (up2 (up2 (up2 I 15 ln (cb x 24)) 14 0 (zI (ln + 1))) 15 (ln + 1) (cb x 16)) 14 0 (zI (ln + 1 + 1))) 15 (ln + 2) (cb x 8)) 14 0 (zI (ln + 2 + 1))) 15 (ln + 3) (cb x 0)) 14 0 (zI (ln + 3 + 1))) = up2 (rw2 I 15 (pf4 (I 15) ln x)) 14 0 (zI (ln + 4)) := by
    funext c j
    by_cases h1 : c = 14
    · subst h1
      by_cases h2 : j = 0
      · subst h2
        simp (decide := true) only [up2_ra, up2_rn, va_ap, ne_eq, if_false, if_true, not_false_eq_true]
      · simp (decide := true) only [up2_ra, up2_rn, va_ap, ne_eq, if_false, if_true, not_false_eq_true, h2, rw2_n]
    · by_cases h3 : c = 15
      · subst h3
        simp (decide := true) only [up2_ra, up2_rn, va_ap, ne_eq, if_false, if_true, not_false_eq_true, rw2_a, pf4]
      · simp (disch := assumption) only [up2_rn, rw2_n]
  rw [e]
theorem nH_feed {ln : Nat} (hl : I 14 0 = zI ln) (h4 : ln ≤ 400) (a b c d e : Int32) : sm_wp X 167 0 [some (.ref 0), some (.int a), some (.int b), some (.int c), some (.int d), some (.int e)] [] (sM mo G I J) Q = if ln + 20 ≤ 400 then Q (some (.int (zI (ln + 20)))) (sM mo G (up2 (rw2 I 15 (up (fdC a b c d e ln) 20 (I 15))) 14 0 (zI (ln + 20))) J) else Q (some (.int (-1))) (sM mo G I J) := by
  rw [lp_167_0]
  have cc : (I 14 0 + 20 ≤ 400) = (ln + 20 ≤ 400) := by
    rw [hl]
    exact (congrArg (fun z => z ≤ (400 : Int32)) (zIr_add 20 ln)).trans (zIr_le (c := 400) (by decide) (by show ln + 20 < _; omega))
  by_cases g : ln + 20 ≤ 400
  · simp only [cc, g, if_true]
    have f5 : ∀ (K : Nat → Nat → Int32) (l : Nat), K 14 0 = zI l → l + 4 ≤ 400 → ∀ (x : Int32) (Q : Option Value → sm_M → Prop), sm_wp X 154 0 [some (.ref 14), some (.int x), none] [] (sM mo G K J) Q = Q none (sM mo G (up2 (rw2 K 15 (pf4 (K 15) l x)) 14 0 (zI (l + 4))) J) := fun K l h1 h2 x Q => ct_four _ _ _ _ _ _ h1 h2 x
    rw [f5 I ln hl (by omega)]
    simp only [tl_none]
    rw [lp_167_26, f5 _ (ln + 4) (by simp (decide := true) only [up2_ra, up2_rn, va_ap, ne_eq, if_false, if_true, not_false_eq_true]) (by omega)]
    simp only [tl_none]
    rw [lp_167_34, f5 _ (ln + 8) (by simp (decide := true) only [up2_ra, up2_rn, va_ap, ne_eq, if_false, if_true, not_false_eq_true]) (by omega)]
    simp only [tl_none]
    rw [lp_167_42, f5 _ (ln + 12) (by simp (decide := true) only [up2_ra, up2_rn, va_ap, ne_eq, if_false, if_true, not_false_eq_true]) (by omega)]
    simp only [tl_none]
    rw [lp_167_51, f5 _ (ln + 16) (by simp (decide := true) only [up2_ra, up2_rn, va_ap, ne_eq, if_false, if_true, not_false_eq_true]) (by omega)]
    simp only [tl_none]
    rw [lp_167_60]
    simp (decide := true) only [up2_ra, up2_rn, va_ap, ne_eq, if_false, if_true, not_false_eq_true, rw2_a]
    have e1 : pf4 (pf4 (pf4 (pf4 (pf4 (I 15) ln a) (ln + 4) b) (ln + 8) c) (ln + 12) d) (ln + 16) e = up (fdC a b c d e ln) 20 (I 15) := rfl
    rw [e1]
    have e2 : ∀ (r1 r2 r3 r4 r5 : Nat → Int32) (v1 v2 v3 v4 v5 : Int32), up2 (rw2 (up2 (rw2 (up2 (rw2 (up2 (rw2 (up2 (rw2 I 15 r1) 14 0 v1) 15 r2) 14 0 v2) 15 r3) 14 0 v3) 15 r4) 14 0 v4) 15 r5) 14 0 v5 = up2 (rw2 I 15 r5) 14 0 v5 := by
      intro r1 r2 r3 r4 r5 v1 v2 v3 v4 v5
      funext c j
      by_cases h1 : c = 14
      · subst h1
        by_cases h2 : j = 0
        · subst h2
          simp (decide := true) only [up2_ra, up2_rn, va_ap, ne_eq, if_false, if_true, not_false_eq_true]
        · simp (decide := true) only [up2_ra, up2_rn, va_ap, ne_eq, if_false, if_true, not_false_eq_true, h2, rw2_n]
      · by_cases h3 : c = 15
        · subst h3
          simp (decide := true) only [up2_ra, up2_rn, va_ap, ne_eq, if_false, if_true, not_false_eq_true, rw2_a]
        · simp (disch := assumption) only [up2_rn, rw2_n]
    rw [e2]
  · simp only [cc, g, if_false]
theorem nM_feed {ln : Nat} (hl : I 81 1 = zI ln) (h4 : ln ≤ 400) (a b c d e : Int32) : sm_wp X 208 0 [some (.ref 81), some (.int a), some (.int b), some (.int c), some (.int d), some (.int e), none, none] [] (sM mo G I J) Q = if ln + 20 ≤ 400 then Q (some (.int (zI (ln + 20)))) (sM mo G (up2 (rw2 (up2 I 81 2 0) 82 (up (fdM a b c d e ln) 20 (I 82))) 81 1 (zI (ln + 20))) J) else Q (some (.int (-1))) (sM mo G (up2 I 81 2 0) J) := by
  rw [lp_208_0]
  have cc : (I 81 1 + 20 ≤ 400) = (ln + 20 ≤ 400) := by
    rw [hl]
    exact (congrArg (fun z => z ≤ (400 : Int32)) (zIr_add 20 ln)).trans (zIr_le (c := 400) (by decide) (by show ln + 20 < _; omega))
  by_cases g : ln + 20 ≤ 400
  · simp only [cc, g, if_true]
    generalize hK : up2 I 81 2 0 = K
    have k1 : K 81 1 = zI ln := by
      rw [← hK]
      simp (decide := true) only [up2_ra, up2_rn, va_ap, ne_eq, if_false, if_true, not_false_eq_true]
      exact hl
    have k2 : K 82 = I 82 := by
      rw [← hK]
      simp (decide := true) only [up2_ra, up2_rn, va_ap, ne_eq, if_false, if_true, not_false_eq_true]
    refine Eq.trans ?_ ((cnt (fun k r => sm_wp X 208 23 [some (.ref 81), some (.int a), some (.int b), some (.int c), some (.int d), some (.int e), some (.int (zI k)), none] [] (sM mo G (rw2 K 82 r) J) Q) (fdM a b c d e ln) (I 82) 20 ?_).trans ?_)
    · rw [← k2, rw2_self]; rfl
    · intro k hk
      have hsh : ∀ k : Fin 20, (((24 : Int32) - ((8 : Int32) * (zI k.val - zI k.val / 4 * 4))) &&& 31) = zI (fsh k.val) &&& 31 := by decide +kernel
      have hs := hsh ⟨k, hk⟩
      simp only at hs
      have c1 : ln + k < 400 := by omega
      have c2 : ¬ 20 ≤ k := by omega
      rw [lp_208_23]
      simp only [hs]
      simp (decide := true) only [rw2_n, rw2_a, ne_eq, not_false_eq_true, k1, up2_rw, rw2_rw]
      simp (disch := first | omega | decide) only [zI_lt, zI_le, zI_eq, zI_cn, zI_vp, zI_add, zI_mul, zI_sub, zIl_add, zIr_add, zIl_mul, zIr_mul, zIr_sub, zIl_lt, zIr_lt, zIl_le, zIr_le, zIl_eq, zIr_eq, zI_sIn, zI_m1, zI_m1', Int32.add_zero, Int32.or_zero, c1, c2, if_false, true_and]
      unfold fdM fdw mbw
      by_cases h4 : k < 4
      · have : ¬ 4 ≤ k := by omega
        simp only [this, h4, if_true, if_false]
      · by_cases h8 : k < 8
        · have : ¬ 8 ≤ k := by omega
          have : 4 ≤ k := by omega
          simp only [*, if_true, if_false]
        · by_cases h12 : k < 12
          · have : ¬ 12 ≤ k := by omega
            have : 4 ≤ k := by omega
            have : 8 ≤ k := by omega
            simp only [*, if_true, if_false]
          · by_cases h16 : k < 16
            · have : ¬ 16 ≤ k := by omega
              have : 4 ≤ k := by omega
              have : 8 ≤ k := by omega
              have : 12 ≤ k := by omega
              simp only [*, if_true, if_false]
            · have : 16 ≤ k := by omega
              have : 4 ≤ k := by omega
              have : 8 ≤ k := by omega
              have : 12 ≤ k := by omega
              simp only [*, if_true, if_false]
    · rw [lp_208_23]
      simp (decide := true) only [rw2_n, ne_eq, not_false_eq_true, k1]
      rw [if_pos (by decide), show zI ln + 20 = zI (ln + 20) from zIr_add 20 ln]
  · simp only [cc, g, if_false]
end O1
section O2
variable {X : (Nat → Int32) × Nat} {c : Nat} {mo : Bool} {G : Nat × Nat} {I : Nat → Nat → Int32} {J : Nat → Nat → Int64}
theorem op_feed (h : inv c mo G I J) (x1 x2 x3 x4 x5 : Int32) : Agr X 167 [some (.ref 0), some (.int x1), some (.int x2), some (.int x3), some (.int x4), some (.int x5)] 208 [some (.ref 81), some (.int x1), some (.int x2), some (.int x3), some (.int x4), some (.int x5), none, none] (sM mo G I J) (Inv (c + 1)) := by
  have hv := inv_t 0 h
  obtain ⟨n, m, t, p, q, r, ch, ln, hN, hE, hV, hY, hG, hK, hP, hS, hA, ⟨t1, t2, t3, t4⟩, hF, hB, hC, hD, hD2, hX, hZ⟩ := h
  unfold Agr
  rw [nH_feed _ _ _ _ _ _ t1 t3]
  by_cases g : ln + 20 ≤ 400
  · rw [if_pos g, nM_feed _ _ _ _ _ _ (ln := ln) (by simp (decide := true) only [up2_ra, up2_rn, va_ap, ne_eq, if_false, if_true, not_false_eq_true, rw2_n]; exact t2) t3, if_pos g]
    refine ⟨rfl, mo, G, _, _, rfl, n, m, t, p, q, r, ch, ln + 20, ?_⟩
    simp (decide := true) only [up2_ra, up2_rn, va_ap, ne_eq, if_false, if_true, not_false_eq_true, rw2_n, rw2_a]
    refine ⟨hN, hE, hV, hY, hG, ivK_s hK, hP, hS, hA, ⟨rfl, rfl, g, ?_⟩, hF, hB, hC, hD, hD2, hX, ivZ_s hZ⟩
    refine up_rel (fun _ (u v : Nat → Int32) => ∀ j, (∃ w, w < 256 ∧ v j = zI w) ∧ u j = (v j).toInt8.toInt32) t4 ?_ 20 (Nat.le_refl _)
    intro k hk u v ih j
    unfold fdC fdM
    rw [va_ap, va_ap]
    have h24 : fsh k ≤ 24 := by unfold fsh; omega
    split
    · exact ⟨mb_256 _ _ h24, cb_mb _ _ h24⟩
    · exact ih j
  · rw [if_neg g, nM_feed _ _ _ _ _ _ t2 t3, if_neg g]
    exact ⟨rfl, hv⟩
end O2
