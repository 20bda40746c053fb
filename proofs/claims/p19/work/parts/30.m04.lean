section
/-! feed. -/
/-- a byte as the class keeps it, and as the reference does -/
def cb (x : Int32) (s : Nat) : Int32 := vp_nar .byte (((x.toUInt32 >>> ((zI s).toUInt32 &&& Int32.toUInt32 31)).toInt32).toInt8.toInt32)
def mbw (x : Int32) (s : Nat) : Int32 := (x >>> (zI s &&& 31)) &&& 255
def fdw (a b c d e : Int32) (k : Nat) : Int32 := if k < 4 then a else if k < 8 then b else if k < 12 then c else if k < 16 then d else e
def fsh (k : Nat) : Nat := 24 - 8 * (k % 4)
theorem i8_of (u v : Int32) (h : ∀ k, k < 8 → bt u k = bt v k) : u.toInt8 = v.toInt8 := by
  apply Int8.toBitVec_inj.mp
  apply BitVec.eq_of_getLsbD_eq
  intro i hi
  have := h i hi
  unfold bt at this
  have h32 : i < 32 := by omega
  simp only [Int32.toBitVec_toInt8, BitVec.getLsbD_signExtend, hi, h32, decide_true, Bool.true_and, if_true]
  exact this
theorem bt_mb (x : Int32) (s k : Nat) (hs : s ≤ 24) (hk : k < 32) : bt (mbw x s) k = (decide (k < 8) && bt x (s + k)) := by
  unfold mbw
  rw [bt_and]
  have e1 : bt (x >>> (zI s &&& 31)) k = if s + k < 32 then bt x (s + k) else x.toBitVec.msb := by
    unfold bt
    rw [Int32.toBitVec_shiftRight, sh_k ⟨s, by omega⟩]
    simp only [BitVec.sshiftRight', BitVec.toNat_ofNat, BitVec.getLsbD_sshiftRight]
    have : s % 2 ^ 32 = s := Nat.mod_eq_of_lt (by omega)
    rw [this]
    simp [hk]
  have e2 : bt 255 k = decide (k < 8) := by
    have h := (by decide +kernel : ∀ i : Fin 32, bt 255 i.val = decide (i.val < 8))
    exact h ⟨k, hk⟩
  rw [e1, e2]
  by_cases h8 : k < 8
  · simp [h8, show s + k < 32 by omega]
  · simp [h8]
theorem us_k : ∀ k : Fin 32, ((zI k.val).toUInt32 &&& Int32.toUInt32 31) = UInt32.ofNat k.val := by decide +kernel
theorem bt_us (x : Int32) (s k : Nat) (hs : s ≤ 24) (hk : k < 32) : bt ((x.toUInt32 >>> ((zI s).toUInt32 &&& Int32.toUInt32 31)).toInt32) k = bt x (s + k) := by
  rw [us_k ⟨s, by omega⟩]
  unfold bt
  have e : ((x.toUInt32 >>> UInt32.ofNat s).toInt32).toBitVec = x.toBitVec >>> s := by
    show (x.toUInt32 >>> UInt32.ofNat s).toBitVec = _
    rw [UInt32.toBitVec_shiftRight]
    have : ((UInt32.ofNat s).toBitVec % 32).toNat = s := by
      have h := (by decide +kernel : ∀ s : Fin 32, ((UInt32.ofNat s.val).toBitVec % 32).toNat = s.val)
      exact h ⟨s, by omega⟩
    rw [BitVec.ushiftRight_eq']
    rw [this]
    rfl
  rw [e, BitVec.getLsbD_ushiftRight]
theorem cb_mb (x : Int32) (s : Nat) (hs : s ≤ 24) : cb x s = (mbw x s).toInt8.toInt32 := by
  have e : vp_nar .byte (((x.toUInt32 >>> ((zI s).toUInt32 &&& Int32.toUInt32 31)).toInt32).toInt8.toInt32) = ((x.toUInt32 >>> ((zI s).toUInt32 &&& Int32.toUInt32 31)).toInt32).toInt8.toInt32.toInt8.toInt32 := rfl
  unfold cb
  rw [e, Int8.toInt8_toInt32]
  congr 1
  apply i8_of
  intro k hk
  rw [bt_us _ _ _ hs (by omega), bt_mb _ _ _ hs (by omega)]
  simp [hk]
theorem mb_256 (x : Int32) (s : Nat) (hs : s ≤ 24) : ∃ w, w < 256 ∧ mbw x s = zI w := by
  obtain ⟨k, hk, e⟩ := bt_nat (m := 8) (x := mbw x s) (by decide) (fun k hk => by
    by_cases h : k < 32
    · rw [bt_mb _ _ _ hs h]
      simp [show ¬ k < 8 by omega]
    · exact bt_big _ _ (by omega))
  exact ⟨k, hk, e⟩
def fdC (a b c d e : Int32) (ln : Nat) (k : Nat) (r : Nat → Int32) : Nat → Int32 := va_up r (ln + k) (cb (fdw a b c d e k) (fsh k))
def fdM (a b c d e : Int32) (ln : Nat) (k : Nat) (r : Nat → Int32) : Nat → Int32 := va_up r (ln + k) (mbw (fdw a b c d e k) (fsh k))
def pf4 (r : Nat → Int32) (ln : Nat) (x : Int32) : Nat → Int32 := va_up (va_up (va_up (va_up r ln (cb x 24)) (ln + 1) (cb x 16)) (ln + 2) (cb x 8)) (ln + 3) (cb x 0)
section O1
variable (X : (Nat → Int32) × Nat) (mo : Bool) (G : Nat × Nat) (I : Nat → Nat → Int32) (J : Nat → Nat → Int64) (Q : Option Value → sm_M → Prop)
theorem ct_four {ln : Nat} (hl : I 14 0 = zI ln) (h4 : ln + 4 ≤ 400) (x : Int32) : sm_wp X 154 0 [some (.ref 14), some (.int x), none] [] (sM mo G I J) Q = Q none (sM mo G (up2 (rw2 I 15 (pf4 (I 15) ln x)) 14 0 (zI (ln + 4))) J) := by
  have st : ∀ (K : Nat → Nat → Int32) (l s : Nat), K 14 0 = zI l → l < 400 → s ≤ 24 → ∀ Q : Option Value → sm_M → Prop, sm_wp X 154 3 [some (.ref 14), some (.int x), some (.int (zI s))] [] (sM mo G K J) Q = sm_wp X 154 3 [some (.ref 14), some (.int x), some (.int (zI s + (-8)))] [] (sM mo G (up2 (up2 K 15 l (cb x s)) 14 0 (zI (l + 1))) J) Q := by
    intro K l s h1 h2 h3 Q
    have c1 : ¬ 400 ≤ l := by omega
    rw [lp_154_3]
    simp (disch := first | omega | decide) only [h1, zI_lt, zI_le, zI_eq, zI_cn, zI_vp, zI_add, zI_mul, zI_sub, zIl_add, zIr_add, zIl_mul, zIr_mul, zIr_sub, zIl_lt, zIr_lt, zIl_le, zIr_le, zIl_eq, zIr_eq, zI_sIn, zI_m1, zI_m1', Int32.add_zero, Int32.or_zero, c1, h2, Nat.not_lt_zero, if_false, true_and]
    rfl
  rw [lp_154_0, show (24 : Int32) = zI 24 from rfl, st I ln 24 hl (by omega) (by decide), show zI 24 + (-8) = zI 16 by decide, st _ (ln + 1) 16 (by simp (decide := true) only [up2_ra, up2_rn, va_ap, ne_eq, if_false, if_true, not_false_eq_true]) (by omega) (by decide), show zI 16 + (-8) = zI 8 by decide, st _ (ln + 2) 8 (by simp (decide := true) only [up2_ra, up2_rn, va_ap, ne_eq, if_false, if_true, not_false_eq_true]) (by omega) (by decide), show zI 8 + (-8) = zI 0 by decide, st _ (ln + 3) 0 (by simp (decide := true) only [up2_ra, up2_rn, va_ap, ne_eq, if_false, if_true, not_false_eq_true]) (by omega) (by decide), show zI 0 + (-8) = -8 by decide, lp_154_3, if_pos (by decide)]
  have e : (up2 (up2 (up2 (up2 (up2 (up2 (up2 (up2 I 15 ln (cb x 24)) 14 0 (zI (ln + 1))) 15 (ln + 1) (cb x 16)) 14 0 (zI (ln + 1 + 1))) 15 (ln + 2) (cb x 8)) 14 0 (zI (ln + 2 + 1))) 15 (ln + 3) (cb x 0)) 14 0 (zI (ln + 3 + 1))) = up2 (rw2 I 15 (pf4 (I 15) ln x)) 14 0 (zI (ln + 4)) := by
    funext c j
    by_cases h1 : c = 14
    · subst h1
      by_cases h2 : j = 0
      · subst h2
        simp (decide := true) only [up2_ra, up2_rn, va_ap, ne_eq, if_false, if_true, not_false_eq_true]
      · simp (decide := true) only [up2_ra, up2_rn, va_ap, ne_eq, if_false, if_true, not_false_eq_true, h2, rw2_n]
    · by_cases h3 : c = 15
      · subst h3
        simp (decide := true) only [up2_ra, up2_rn, va_ap, ne_eq, if_false, if_true, not_false_eq_true, rw2_a, pf4]
      · simp (disch := assumption) only [up2_rn, rw2_n]
  rw [e]
theorem nH_feed {ln : Nat} (hl : I 14 0 = zI ln) (h4 : ln ≤ 400) (a b c d e : Int32) : sm_wp X 167 0 [some (.ref 0), some (.int a), some (.int b), some (.int c), some (.int d), some (.int e)] [] (sM mo G I J) Q = if ln + 20 ≤ 400 then Q (some (.int (zI (ln + 20)))) (sM mo G (up2 (rw2 I 15 (up (fdC a b c d e ln) 20 (I 15))) 14 0 (zI (ln + 20))) J) else Q (some (.int (-1))) (sM mo G I J) := by
  rw [lp_167_0]
  have cc : (I 14 0 + 20 ≤ 400) = (ln + 20 ≤ 400) := by
    rw [hl]
    exact (congrArg (fun z => z ≤ (400 : Int32)) (zIr_add 20 ln)).trans (zIr_le (c := 400) (by decide) (by show ln + 20 < _; omega))
  by_cases g : ln + 20 ≤ 400
  · simp only [cc, g, if_true]
    have f5 : ∀ (K : Nat → Nat → Int32) (l : Nat), K 14 0 = zI l → l + 4 ≤ 400 → ∀ (x : Int32) (Q : Option Value → sm_M → Prop), sm_wp X 154 0 [some (.ref 14), some (.int x), none] [] (sM mo G K J) Q = Q none (sM mo G (up2 (rw2 K 15 (pf4 (K 15) l x)) 14 0 (zI (l + 4))) J) := fun K l h1 h2 x Q => ct_four _ _ _ _ _ _ h1 h2 x
    rw [f5 I ln hl (by omega)]
    simp only [tl_none]
    rw [lp_167_26, f5 _ (ln + 4) (by simp (decide := true) only [up2_ra, up2_rn, va_ap, ne_eq, if_false, if_true, not_false_eq_true]) (by omega)]
    simp only [tl_none]
    rw [lp_167_34, f5 _ (ln + 8) (by simp (decide := true) only [up2_ra, up2_rn, va_ap, ne_eq, if_false, if_true, not_false_eq_true]) (by omega)]
    simp only [tl_none]
    rw [lp_167_42, f5 _ (ln + 12) (by simp (decide := true) only [up2_ra, up2_rn, va_ap, ne_eq, if_false, if_true, not_false_eq_true]) (by omega)]
    simp only [tl_none]
    rw [lp_167_51, f5 _ (ln + 16) (by simp (decide := true) only [up2_ra, up2_rn, va_ap, ne_eq, if_false, if_true, not_false_eq_true]) (by omega)]
    simp only [tl_none]
    rw [lp_167_60]
    simp (decide := true) only [up2_ra, up2_rn, va_ap, ne_eq, if_false, if_true, not_false_eq_true, rw2_a]
    have e1 : pf4 (pf4 (pf4 (pf4 (pf4 (I 15) ln a) (ln + 4) b) (ln + 8) c) (ln + 12) d) (ln + 16) e = up (fdC a b c d e ln) 20 (I 15) := rfl
    rw [e1]
    have e2 : ∀ (r1 r2 r3 r4 r5 : Nat → Int32) (v1 v2 v3 v4 v5 : Int32), up2 (rw2 (up2 (rw2 (up2 (rw2 (up2 (rw2 (up2 (rw2 I 15 r1) 14 0 v1) 15 r2) 14 0 v2) 15 r3) 14 0 v3) 15 r4) 14 0 v4) 15 r5) 14 0 v5 = up2 (rw2 I 15 r5) 14 0 v5 := by
      intro r1 r2 r3 r4 r5 v1 v2 v3 v4 v5
      funext c j
      by_cases h1 : c = 14
      · subst h1
        by_cases h2 : j = 0
        · subst h2
          simp (decide := true) only [up2_ra, up2_rn, va_ap, ne_eq, if_false, if_true, not_false_eq_true]
        · simp (decide := true) only [up2_ra, up2_rn, va_ap, ne_eq, if_false, if_true, not_false_eq_true, h2, rw2_n]
      · by_cases h3 : c = 15
        · subst h3
          simp (decide := true) only [up2_ra, up2_rn, va_ap, ne_eq, if_false, if_true, not_false_eq_true, rw2_a]
        · simp (disch := assumption) only [up2_rn, rw2_n]
    rw [e2]
  · simp only [cc, g, if_false]
theorem nM_feed {ln : Nat} (hl : I 81 1 = zI ln) (h4 : ln ≤ 400) (a b c d e : Int32) : sm_wp X 208 0 [some (.ref 81), some (.int a), some (.int b), some (.int c), some (.int d), some (.int e), none, none] [] (sM mo G I J) Q = if ln + 20 ≤ 400 then Q (some (.int (zI (ln + 20)))) (sM mo G (up2 (rw2 (up2 I 81 2 0) 82 (up (fdM a b c d e ln) 20 (I 82))) 81 1 (zI (ln + 20))) J) else Q (some (.int (-1))) (sM mo G (up2 I 81 2 0) J) := by
  rw [lp_208_0]
  have cc : (I 81 1 + 20 ≤ 400) = (ln + 20 ≤ 400) := by
    rw [hl]
    exact (congrArg (fun z => z ≤ (400 : Int32)) (zIr_add 20 ln)).trans (zIr_le (c := 400) (by decide) (by show ln + 20 < _; omega))
  by_cases g : ln + 20 ≤ 400
  · simp only [cc, g, if_true]
    generalize hK : up2 I 81 2 0 = K
    have k1 : K 81 1 = zI ln := by
      rw [← hK]
      simp (decide := true) only [up2_ra, up2_rn, va_ap, ne_eq, if_false, if_true, not_false_eq_true]
      exact hl
    have k2 : K 82 = I 82 := by
      rw [← hK]
      simp (decide := true) only [up2_ra, up2_rn, va_ap, ne_eq, if_false, if_true, not_false_eq_true]
    refine Eq.trans ?_ ((cnt (fun k r => sm_wp X 208 23 [some (.ref 81), some (.int a), some (.int b), some (.int c), some (.int d), some (.int e), some (.int (zI k)), none] [] (sM mo G (rw2 K 82 r) J) Q) (fdM a b c d e ln) (I 82) 20 ?_).trans ?_)
    · rw [← k2, rw2_self]; rfl
    · intro k hk
      have hsh : ∀ k : Fin 20, (((24 : Int32) - ((8 : Int32) * (zI k.val - zI k.val / 4 * 4))) &&& 31) = zI (fsh k.val) &&& 31 := by decide +kernel
      have hs := hsh ⟨k, hk⟩
      simp only at hs
      have c1 : ln + k < 400 := by omega
      have c2 : ¬ 20 ≤ k := by omega
      rw [lp_208_23]
      simp only [hs]
      simp (decide := true) only [rw2_n, rw2_a, ne_eq, not_false_eq_true, k1, up2_rw, rw2_rw]
      simp (disch := first | omega | decide) only [zI_lt, zI_le, zI_eq, zI_cn, zI_vp, zI_add, zI_mul, zI_sub, zIl_add, zIr_add, zIl_mul, zIr_mul, zIr_sub, zIl_lt, zIr_lt, zIl_le, zIr_le, zIl_eq, zIr_eq, zI_sIn, zI_m1, zI_m1', Int32.add_zero, Int32.or_zero, c1, c2, if_false, true_and]
      unfold fdM fdw mbw
      by_cases h4 : k < 4
      · have : ¬ 4 ≤ k := by omega
        simp only [this, h4, if_true, if_false]
      · by_cases h8 : k < 8
        · have : ¬ 8 ≤ k := by omega
          have : 4 ≤ k := by omega
          simp only [*, if_true, if_false]
        · by_cases h12 : k < 12
          · have : ¬ 12 ≤ k := by omega
            have : 4 ≤ k := by omega
            have : 8 ≤ k := by omega
            simp only [*, if_true, if_false]
          · by_cases h16 : k < 16
            · have : ¬ 16 ≤ k := by omega
              have : 4 ≤ k := by omega
              have : 8 ≤ k := by omega
              have : 12 ≤ k := by omega
              simp only [*, if_true, if_false]
            · have : 16 ≤ k := by omega
              have : 4 ≤ k := by omega
              have : 8 ≤ k := by omega
              have : 12 ≤ k := by omega
              simp only [*, if_true, if_false]
    · rw [lp_208_23]
      simp (decide := true) only [rw2_n, ne_eq, not_false_eq_true, k1]
      rw [if_pos (by decide), show zI ln + 20 = zI (ln + 20) from zIr_add 20 ln]
  · simp only [cc, g, if_false]
end O1
section O2
variable {X : (Nat → Int32) × Nat} {c : Nat} {mo : Bool} {G : Nat × Nat} {I : Nat → Nat → Int32} {J : Nat → Nat → Int64}
theorem op_feed (h : inv c mo G I J) (x1 x2 x3 x4 x5 : Int32) : Agr X 167 [some (.ref 0), some (.int x1), some (.int x2), some (.int x3), some (.int x4), some (.int x5)] 208 [some (.ref 81), some (.int x1), some (.int x2), some (.int x3), some (.int x4), some (.int x5), none, none] (sM mo G I J) (Inv (c + 1)) := by
  have hv := inv_t 0 h
  obtain ⟨n, m, t, p, q, r, ch, ln, hN, hE, hV, hY, hG, hK, hP, hS, hA, ⟨t1, t2, t3, t4⟩, hF, hB, hC, hD, hD2, hX, hZ⟩ := h
  unfold Agr
  rw [nH_feed _ _ _ _ _ _ t1 t3]
  by_cases g : ln + 20 ≤ 400
  · rw [if_pos g, nM_feed _ _ _ _ _ _ (ln := ln) (by simp (decide := true) only [up2_ra, up2_rn, va_ap, ne_eq, if_false, if_true, not_false_eq_true, rw2_n]; exact t2) t3, if_pos g]
    refine ⟨rfl, mo, G, _, _, rfl, n, m, t, p, q, r, ch, ln + 20, ?_⟩
    simp (decide := true) only [up2_ra, up2_rn, va_ap, ne_eq, if_false, if_true, not_false_eq_true, rw2_n, rw2_a]
    refine ⟨hN, hE, hV, hY, hG, ivK_s hK, hP, hS, hA, ⟨rfl, rfl, g, ?_⟩, hF, hB, hC, hD, hD2, hX, ivZ_s hZ⟩
    refine up_rel (fun _ (u v : Nat → Int32) => ∀ j, (∃ w, w < 256 ∧ v j = zI w) ∧ u j = (v j).toInt8.toInt32) t4 ?_ 20 (Nat.le_refl _)
    intro k hk u v ih j
    unfold fdC fdM
    rw [va_ap, va_ap]
    have h24 : fsh k ≤ 24 := by unfold fsh; omega
    split
    · exact ⟨mb_256 _ _ h24, cb_mb _ _ h24⟩
    · exact ih j
  · rw [if_neg g, nM_feed _ _ _ _ _ _ t2 t3, if_neg g]
    exact ⟨rfl, hv⟩
end O2
end
section
/-! The distance of two drafts. -/
/-- what is left: x words of the one, y of the other -/
def ed (A B : Nat → Int32) (n m : Nat) : Nat → Nat → Nat
  | 0, y => y
  | x + 1, 0 => x + 1
  | x + 1, y + 1 => min (ed A B n m x y + (if A (n - (x + 1)) = B (m - (y + 1)) then 0 else 1)) (min (ed A B n m x (y + 1) + 1) (ed A B n m (x + 1) y + 1))
termination_by x y => x + y
theorem ed_0 (A B : Nat → Int32) (n m y : Nat) : ed A B n m 0 y = y := by rw [ed]
theorem ed_x (A B : Nat → Int32) (n m x : Nat) : ed A B n m x 0 = x := by
  cases x with
  | zero => rw [ed]
  | succ x => rw [ed]
theorem ed_s (A B : Nat → Int32) (n m x y : Nat) : ed A B n m (x + 1) (y + 1) = min (ed A B n m x y + (if A (n - (x + 1)) = B (m - (y + 1)) then 0 else 1)) (min (ed A B n m x (y + 1) + 1) (ed A B n m (x + 1) y + 1)) := by rw [ed]
theorem ed_le (A B : Nat → Int32) (n m : Nat) : ∀ x y, ed A B n m x y ≤ x + y := by
  intro x
  induction x with
  | zero => intro y; rw [ed_0]; omega
  | succ x ih =>
    intro y
    induction y with
    | zero => rw [ed_x]; omega
    | succ y ih2 =>
      rw [ed_s]
      have := ih (y + 1)
      omega
theorem ed_sym (A B : Nat → Int32) (n m : Nat) : ∀ x y, ed A B n m x y = ed B A m n y x := by
  intro x
  induction x with
  | zero => intro y; rw [ed_0, ed_x]
  | succ x ih =>
    intro y
    induction y with
    | zero => rw [ed_0, ed_x]
    | succ y ih2 =>
      rw [ed_s, ed_s, ih y, ih (y + 1), ih2]
      have e : (if A (n - (x + 1)) = B (m - (y + 1)) then 0 else 1) = (if B (m - (y + 1)) = A (n - (x + 1)) then 0 else 1) := by
        by_cases h : A (n - (x + 1)) = B (m - (y + 1))
        · rw [if_pos h, if_pos h.symm]
        · rw [if_neg h, if_neg (fun g => h g.symm)]
      rw [e]
      omega
theorem ed_self (A : Nat → Int32) (n : Nat) : ∀ x, ed A A n n x x = 0 := by
  intro x
  induction x with
  | zero => rw [ed_0]
  | succ x ih =>
    rw [ed_s, ih, if_pos rfl]
    omega
/-- the table, done from (i, j) on -/
def tb (A B : Nat → Int32) (n m : Nat) (o : Nat → Int32) (i j c : Nat) : Int32 := if c / 9 ≤ n ∧ c % 9 ≤ m ∧ i ≤ c / 9 ∧ (c / 9 = i → j ≤ c % 9) then zI (ed A B n m (n - c / 9) (m - c % 9)) else o c
theorem tb_top (A B : Nat → Int32) (n m : Nat) (o : Nat → Int32) : tb A B n m o (n + 1) 0 = o := by
  funext c
  unfold tb
  rw [if_neg (by omega)]
theorem tb_row (A B : Nat → Int32) (n m : Nat) (o : Nat → Int32) (i : Nat) : tb A B n m o i (m + 1) = tb A B n m o (i + 1) 0 := by
  funext c
  unfold tb
  have e : (c / 9 ≤ n ∧ c % 9 ≤ m ∧ i ≤ c / 9 ∧ (c / 9 = i → m + 1 ≤ c % 9)) = (c / 9 ≤ n ∧ c % 9 ≤ m ∧ i + 1 ≤ c / 9 ∧ (c / 9 = i + 1 → 0 ≤ c % 9)) := by apply propext; omega
  simp only [e]
theorem tb_at (A B : Nat → Int32) (n m : Nat) (o : Nat → Int32) (i j a b : Nat) (ha : a ≤ n) (hb : b ≤ m) (hm : m ≤ 8) (h1 : i ≤ a) (h2 : a = i → j ≤ b) : tb A B n m o i j (9 * a + b) = zI (ed A B n m (n - a) (m - b)) := by
  unfold tb
  have e1 : (9 * a + b) / 9 = a := by omega
  have e2 : (9 * a + b) % 9 = b := by omega
  rw [e1, e2, if_pos ⟨ha, hb, h1, h2⟩]
theorem tb_set (A B : Nat → Int32) (n m : Nat) (o : Nat → Int32) (i j : Nat) (hi : i ≤ n) (hj : j ≤ m) (hm : m ≤ 8) : va_up (tb A B n m o i (j + 1)) (9 * i + j) (zI (ed A B n m (n - i) (m - j))) = tb A B n m o i j := by
  funext c
  rw [va_ap]
  split
  · rename_i h
    subst h
    rw [tb_at A B n m o i j i j hi hj hm (Nat.le_refl _) (fun _ => Nat.le_refl _)]
  · rename_i h
    unfold tb
    have e : (c / 9 ≤ n ∧ c % 9 ≤ m ∧ i ≤ c / 9 ∧ (c / 9 = i → j + 1 ≤ c % 9)) = (c / 9 ≤ n ∧ c % 9 ≤ m ∧ i ≤ c / 9 ∧ (c / 9 = i → j ≤ c % 9)) := by apply propext; omega
    simp only [e]
theorem mn_c {p q d : Nat} (hp : p < 100) (hq : q < 100) (hd : d < 100) (e : Nat) (he : e ≤ 1) : (if ((1 : Int32) + (if (zI p : Int32) < zI q then zI p else zI q)) < zI e + zI d then (1 : Int32) + (if (zI p : Int32) < zI q then zI p else zI q) else zI e + zI d) = zI (min (d + e) (min (q + 1) (p + 1))) := by
  have e1 : (if (zI p : Int32) < zI q then zI p else zI q) = zI (min p q) := by
    simp only [zI_lt (show p < 2147483648 by omega) (show q < 2147483648 by omega)]
    split
    · rw [show min p q = p by omega]
    · rw [show min p q = q by omega]
  rw [e1, show (1 : Int32) + zI (min p q) = zI (1 + min p q) from zI_add 1 _, zI_add]
  simp only [zI_lt (show 1 + min p q < 2147483648 by omega) (show e + d < 2147483648 by omega)]
  split
  · congr 1; omega
  · congr 1; omega
section O1
variable (X : (Nat → Int32) × Nat) (mo : Bool) (G : Nat × Nat) (I : Nat → Nat → Int32) (J : Nat → Nat → Int64) (Q : Option Value → sm_M → Prop)
def cpr (o s : Nat → Int32) (n : Nat) (k : Nat) : Int32 := if k < n then s k else o k
theorem cpr_8 (o s : Nat → Int32) (n : Nat) : va_up (cpr o s n) n (s n) = cpr o s (n + 1) := by
  funext k
  rw [va_ap]
  unfold cpr
  grind
theorem m1_s (j : Nat) : zI (j + 1) + (-1) = zI j := by
  rw [← zI_add j 1, Int32.add_assoc, show zI 1 + (-1) = 0 by decide, Int32.add_zero]
theorem m1_0 : zI 0 + (-1) = -1 := by decide
/-- the two inner loops of the class -/
theorem lp_stp {n m : Nat} (hn : n ≤ 8) (hm : m ≤ 8) : ∀ i, i ≤ n + 1 → ∀ o : Nat → Int32, sm_wp X 8 76 [some (.ref 71), none, none, none, some (.int (zI n)), some (.int (zI m)), some (.int (zI i + (-1))), none, none, none, none] [] (sM mo G (rw2 I 78 (tb (I 76) (I 77) n m o i 0)) J) Q = Q (some (.int (zI (ed (I 76) (I 77) n m n m)))) (sM mo G (rw2 I 78 (tb (I 76) (I 77) n m o 0 0)) J) := by
  intro i
  induction i with
  | zero =>
    intro _ o
    rw [lp_8_76, m1_0, if_pos (by decide), rw2_a]
    have e := tb_at (I 76) (I 77) n m o 0 0 0 0 (by omega) (by omega) hm (Nat.le_refl _) (fun _ => Nat.le_refl _)
    have e2 : (0 : Int32).toNatClampNeg = 0 := by decide
    have e3 : vp_in 0 81 := by rw [show (0 : Int32) = zI 0 from rfl, zI_vp (by decide)]; decide
    rw [e2]
    simp only [Nat.mul_zero, Nat.add_zero, Nat.sub_zero] at e
    rw [e]
    simp only [e3, true_and]
  | succ i ih =>
    intro hi o
    rw [lp_8_76, m1_s, if_neg (by rw [zIr_lt (c := 0) (by decide) (by omega)]; exact Nat.not_lt_zero _)]
    have inner : ∀ j, j ≤ m + 1 → sm_wp X 8 85 [some (.ref 71), none, none, none, some (.int (zI n)), some (.int (zI m)), some (.int (zI i)), some (.int (zI j + (-1))), none, none, none] [] (sM mo G (rw2 I 78 (tb (I 76) (I 77) n m o i j)) J) Q = sm_wp X 8 76 [some (.ref 71), none, none, none, some (.int (zI n)), some (.int (zI m)), some (.int (zI i + (-1))), none, none, none, none] [] (sM mo G (rw2 I 78 (tb (I 76) (I 77) n m o i 0)) J) Q := by
      intro j
      induction j with
      | zero =>
        intro _
        rw [lp_8_85, m1_0, if_pos (by decide)]
      | succ j ihj =>
        intro hj
        rw [← ihj (by omega), lp_8_85, m1_s, if_neg (by rw [zIr_lt (c := 0) (by decide) (by omega)]; exact Nat.not_lt_zero _)]
        have v0 : i * 9 + j = 9 * i + j := by omega
        have v1 : 9 * i + j < 81 := by omega
        simp (decide := true) only [rw2_a, rw2_n, ne_eq, not_false_eq_true, up2_rw, rw2_rw]
        by_cases hin : n ≤ i
        · have en : i = n := by omega
          subst en
          have ev : zI i - zI i + zI m - zI j = zI (m - j) := by
            rw [zI_sub (Nat.le_refl _), zI_add, zI_sub (by omega)]
            congr 1
            omega
          rw [ev]
          simp (disch := first | omega | decide) only [zI_lt, zI_le, zI_eq, zI_cn, zI_vp, zI_add, zI_mul, zI_sub, zIl_add, zIr_add, zIl_mul, zIr_mul, zIr_sub, zIl_lt, zIr_lt, zIl_le, zIr_le, zIl_eq, zIr_eq, zI_sIn, zI_m1, zI_m1', Int32.add_zero, Int32.or_zero, Nat.le_refl, if_true, v0, v1, true_and]
          have es := tb_set (I 76) (I 77) i m o i j (Nat.le_refl _) (by omega) hm
          rw [Nat.sub_self, ed_0] at es
          rw [es]
        · by_cases hjm : m ≤ j
          · have em : j = m := by omega
            subst em
            have ev : zI n - zI i + zI j - zI j = zI (n - i) := by
              rw [zI_sub (by omega), zI_add, zI_sub (by omega)]
              congr 1
              omega
            rw [ev]
            simp (disch := first | omega | decide) only [zI_lt, zI_le, zI_eq, zI_cn, zI_vp, zI_add, zI_mul, zI_sub, zIl_add, zIr_add, zIl_mul, zIr_mul, zIr_sub, zIl_lt, zIr_lt, zIl_le, zIr_le, zIl_eq, zIr_eq, zI_sIn, zI_m1, zI_m1', Int32.add_zero, Int32.or_zero, hin, Nat.le_refl, if_true, if_false, v0, v1, true_and]
            have es := tb_set (I 76) (I 77) n j o i j (by omega) (Nat.le_refl _) hm
            rw [Nat.sub_self, ed_x] at es
            rw [es]
          · have t1 : tb (I 76) (I 77) n m o i (j + 1) (9 * (i + 1) + j + 1) = _ := tb_at (I 76) (I 77) n m o i (j + 1) (i + 1) (j + 1) (by omega) (by omega) hm (by omega) (by omega)
            have t2 := tb_at (I 76) (I 77) n m o i (j + 1) (i + 1) j (by omega) (by omega) hm (by omega) (by omega)
            have t3 : tb (I 76) (I 77) n m o i (j + 1) (9 * i + j + 1) = _ := tb_at (I 76) (I 77) n m o i (j + 1) i (j + 1) (by omega) (by omega) hm (by omega) (by omega)
            have w2 : (i + 1) * 9 + j = 9 * (i + 1) + j := by omega
            have y1 : 9 * (i + 1) + j + 1 < 81 := by omega
            have y2 : 9 * (i + 1) + j < 81 := by omega
            have y3 : 9 * i + j + 1 < 81 := by omega
            have i8 : i < 8 := by omega
            have j8 : j < 8 := by omega
            obtain ⟨x, hx⟩ : ∃ x, n - i = x + 1 := ⟨n - i - 1, by omega⟩
            obtain ⟨y, hy⟩ : ∃ y, m - j = y + 1 := ⟨m - j - 1, by omega⟩
            have hx2 : n - (i + 1) = x := by omega
            have hy2 : m - (j + 1) = y := by omega
            have l1 := ed_le (I 76) (I 77) n m x y
            have l2 := ed_le (I 76) (I 77) n m x (y + 1)
            have l3 := ed_le (I 76) (I 77) n m (x + 1) y
            have es := tb_set (I 76) (I 77) n m o i j (by omega) (by omega) hm
            rw [hx, hy, ed_s, show n - (x + 1) = i by omega, show m - (y + 1) = j by omega] at es
            rw [hx2, hy2] at t1
            rw [hx2, hy] at t2
            rw [hx, hy2] at t3
            have z0 : (0 : Int32) = zI 0 := rfl
            have z1 : (1 : Int32) = zI 1 := rfl
            simp (disch := first | omega | decide) only [zI_le, zI_mul, zIr_mul, zI_add, zIr_add, zI_cn, zI_vp, hin, hjm, if_false, v0, v1, w2, y1, y2, y3, i8, j8, true_and, t1, t2, t3]
            by_cases hc : I 76 i = I 77 j
            · rw [if_neg (fun g => g hc)]
              rw [if_pos hc] at es
              have q := mn_c (p := ed (I 76) (I 77) n m (x + 1) y) (q := ed (I 76) (I 77) n m x (y + 1)) (d := ed (I 76) (I 77) n m x y) (by omega) (by omega) (by omega) 0 (by decide)
              rw [← z0] at q
              rw [q, es]
            · rw [if_pos hc]
              rw [if_neg hc] at es
              have q := mn_c (p := ed (I 76) (I 77) n m (x + 1) y) (q := ed (I 76) (I 77) n m x (y + 1)) (d := ed (I 76) (I 77) n m x y) (by omega) (by omega) (by omega) 1 (by decide)
              rw [← z1] at q
              rw [q, es]
    have ii := inner (m + 1) (Nat.le_refl _)
    rw [m1_s, tb_row] at ii
    rw [ii]
    exact ih (by omega) o
end O1
end
section
/-! The distance: the reference's loops; both calls. -/
def dr (I : Nat → Nat → Int32) (c u : Nat) (k : Nat) : Int32 := I c (8 * u + k)
theorem ed_congr {A B A' B' : Nat → Int32} {n m : Nat} (ha : ∀ i, i < n → A i = A' i) (hb : ∀ j, j < m → B j = B' j) : ∀ x y, x ≤ n → y ≤ m → ed A B n m x y = ed A' B' n m x y := by
  intro x
  induction x with
  | zero => intro y _ _; rw [ed_0, ed_0]
  | succ x ih =>
    intro y hx
    induction y with
    | zero => intro _; rw [ed_x, ed_x]
    | succ y ih2 =>
      intro hy
      rw [ed_s, ed_s, ih y (by omega) (by omega), ih (y + 1) (by omega) hy, ih2 (by omega), ha _ (by omega), hb _ (by omega)]
theorem tb_congr {A B A' B' : Nat → Int32} {n m : Nat} (ha : ∀ i, i < n → A i = A' i) (hb : ∀ j, j < m → B j = B' j) (o : Nat → Int32) (i j : Nat) : tb A B n m o i j = tb A' B' n m o i j := by
  funext c
  unfold tb
  rw [ed_congr ha hb _ _ (by omega) (by omega)]
section O1
variable (X : (Nat → Int32) × Nat) (mo : Bool) (G : Nat × Nat) (I : Nat → Nat → Int32) (J : Nat → Nat → Int64) (Q : Option Value → sm_M → Prop)
theorem lp_far {u v n m : Nat} (hu : u < 48) (hv : v < 48) (h1 : I 135 u = zI n) (h2 : I 135 v = zI m) (hn : n ≤ 8) (hm : m ≤ 8) : ∀ i, i ≤ n + 1 → ∀ o : Nat → Int32, sm_wp X 297 7 [some (.ref 81), some (.int (zI u)), some (.int (zI v)), some (.int (zI i + (-1))), none, none] [] (sM mo G (rw2 I 139 (tb (dr I 136 u) (dr I 136 v) n m o i 0)) J) Q = Q (some (.int (zI (ed (dr I 136 u) (dr I 136 v) n m n m)))) (sM mo G (rw2 I 139 (tb (dr I 136 u) (dr I 136 v) n m o 0 0)) J) := by
  intro i
  induction i with
  | zero =>
    intro _ o
    rw [lp_297_7, m1_0, if_pos (by decide), rw2_a]
    have e := tb_at (dr I 136 u) (dr I 136 v) n m o 0 0 0 0 (by omega) (by omega) hm (Nat.le_refl _) (fun _ => Nat.le_refl _)
    have e2 : (0 : Int32).toNatClampNeg = 0 := by decide
    have e3 : vp_in 0 81 := by rw [show (0 : Int32) = zI 0 from rfl, zI_vp (by decide)]; decide
    rw [e2]
    simp only [Nat.mul_zero, Nat.add_zero, Nat.sub_zero] at e
    rw [e]
    simp only [e3, true_and]
  | succ i ih =>
    intro hi o
    rw [lp_297_7, m1_s, if_neg (by rw [zIr_lt (c := 0) (by decide) (by omega)]; exact Nat.not_lt_zero _), zI_vp (show v < 2147483648 by omega), rw2_n _ _ _ _ (show (135 : Nat) ≠ 139 by decide), zI_cn (show v < 2147483648 by omega), h2]
    simp only [hv, true_and]
    have inner : ∀ j, j ≤ m + 1 → sm_wp X 297 19 [some (.ref 81), some (.int (zI u)), some (.int (zI v)), some (.int (zI i)), some (.int (zI j + (-1))), none] [] (sM mo G (rw2 I 139 (tb (dr I 136 u) (dr I 136 v) n m o i j)) J) Q = sm_wp X 297 7 [some (.ref 81), some (.int (zI u)), some (.int (zI v)), some (.int (zI i + (-1))), none, none] [] (sM mo G (rw2 I 139 (tb (dr I 136 u) (dr I 136 v) n m o i 0)) J) Q := by
      intro j
      induction j with
      | zero =>
        intro _
        rw [lp_297_19, m1_0, if_pos (by decide)]
      | succ j ihj =>
        intro hj
        rw [← ihj (by omega), lp_297_19, m1_s, if_neg (by rw [zIr_lt (c := 0) (by decide) (by omega)]; exact Nat.not_lt_zero _)]
        have v1 : 9 * i + j < 81 := by omega
        simp (decide := true) only [rw2_a, rw2_n, ne_eq, not_false_eq_true, up2_rw, rw2_rw]
        simp only [zI_vp (show u < 2147483648 by omega), zI_vp (show v < 2147483648 by omega), zI_cn (show u < 2147483648 by omega), zI_cn (show v < 2147483648 by omega), h1, h2, hu, hv, true_and]
        by_cases hin : i = n
        · subst hin
          have ev : zI m - zI j = zI (m - j) := zI_sub (by omega)
          have ez : (0 : Int32) ≤ zI (m - j) := by rw [zIl_le (c := 0) (by decide) (by omega)]; exact Nat.zero_le _
          have es := tb_set (dr I 136 u) (dr I 136 v) i m o i j (Nat.le_refl _) (by omega) hm
          rw [Nat.sub_self, ed_0] at es
          simp only [not_true_eq_false, if_false, ev, ez, if_true]
          simp (disch := first | omega | decide) only [zIl_mul, zI_add, zI_cn, zI_vp, v1, true_and]
          rw [es]
        · have hin2 : ¬ zI i = zI n := by rw [zI_eq (by omega) (by omega)]; exact hin
          by_cases hjm : j = m
          · subst hjm
            have ev : zI n - zI i = zI (n - i) := zI_sub (by omega)
            have ez : (0 : Int32) ≤ zI (n - i) := by rw [zIl_le (c := 0) (by decide) (by omega)]; exact Nat.zero_le _
            have es := tb_set (dr I 136 u) (dr I 136 v) n j o i j (by omega) (Nat.le_refl _) hm
            rw [Nat.sub_self, ed_x] at es
            simp only [hin2, not_true_eq_false, not_false_eq_true, if_false, ev, ez, if_true]
            simp (disch := first | omega | decide) only [zIl_mul, zI_add, zI_cn, zI_vp, v1, true_and]
            rw [es]
          · have hjm2 : ¬ zI j = zI m := by rw [zI_eq (by omega) (by omega)]; exact hjm
            have t1 : tb (dr I 136 u) (dr I 136 v) n m o i (j + 1) (9 * i + j + 10) = _ := (congrArg _ (show 9 * i + j + 10 = 9 * (i + 1) + (j + 1) by omega)).trans (tb_at (dr I 136 u) (dr I 136 v) n m o i (j + 1) (i + 1) (j + 1) (by omega) (by omega) hm (by omega) (by omega))
            have t2 : tb (dr I 136 u) (dr I 136 v) n m o i (j + 1) (9 * i + j + 9) = _ := (congrArg _ (show 9 * i + j + 9 = 9 * (i + 1) + j by omega)).trans (tb_at (dr I 136 u) (dr I 136 v) n m o i (j + 1) (i + 1) j (by omega) (by omega) hm (by omega) (by omega))
            have t3 : tb (dr I 136 u) (dr I 136 v) n m o i (j + 1) (9 * i + j + 1) = _ := tb_at (dr I 136 u) (dr I 136 v) n m o i (j + 1) i (j + 1) (by omega) (by omega) hm (by omega) (by omega)
            have y1 : 9 * i + j + 10 < 81 := by omega
            have y2 : 9 * i + j + 9 < 81 := by omega
            have y3 : 9 * i + j + 1 < 81 := by omega
            have y4 : 8 * u + i < 384 := by omega
            have y5 : 8 * v + j < 384 := by omega
            obtain ⟨x, hx⟩ : ∃ x, n - i = x + 1 := ⟨n - i - 1, by omega⟩
            obtain ⟨y, hy⟩ : ∃ y, m - j = y + 1 := ⟨m - j - 1, by omega⟩
            have hx2 : n - (i + 1) = x := by omega
            have hy2 : m - (j + 1) = y := by omega
            have l1 := ed_le (dr I 136 u) (dr I 136 v) n m x y
            have l2 := ed_le (dr I 136 u) (dr I 136 v) n m x (y + 1)
            have l3 := ed_le (dr I 136 u) (dr I 136 v) n m (x + 1) y
            have es := tb_set (dr I 136 u) (dr I 136 v) n m o i j (by omega) (by omega) hm
            rw [hx, hy, ed_s, show n - (x + 1) = i by omega, show m - (y + 1) = j by omega] at es
            rw [hx2, hy2] at t1
            rw [hx2, hy] at t2
            rw [hx, hy2] at t3
            generalize ed (dr I 136 u) (dr I 136 v) n m x y = d at *
            generalize ed (dr I 136 u) (dr I 136 v) n m x (y + 1) = qq at *
            generalize ed (dr I 136 u) (dr I 136 v) n m (x + 1) y = pp at *
            simp only [hin2, hjm2, not_false_eq_true, if_true]
            simp (disch := first | omega | decide) only [zIl_mul, zI_add, zIr_add, zI_cn, zI_vp, v1, y1, y2, y3, y4, y5, true_and, t1, t2, t3]
            by_cases hc : I 136 (8 * u + i) = I 136 (8 * v + j)
            · rw [if_neg (fun g => g hc)]
              rw [if_pos (show dr I 136 u i = dr I 136 v j from hc)] at es
              by_cases c1 : d ≤ qq + 1
              · by_cases c2 : d ≤ pp + 1
                · rw [show min (d + 0) (min (qq + 1) (pp + 1)) = d by omega] at es
                  simp (disch := first | omega | decide) only [Nat.add_zero, zI_le, c1, c2, if_true, true_and, es]
                · rw [show min (d + 0) (min (qq + 1) (pp + 1)) = pp + 1 by omega] at es
                  simp (disch := first | omega | decide) only [Nat.add_zero, zI_le, c1, c2, if_true, if_false, true_and, es]
              · by_cases c2 : qq + 1 ≤ pp + 1
                · rw [show min (d + 0) (min (qq + 1) (pp + 1)) = qq + 1 by omega] at es
                  simp (disch := first | omega | decide) only [Nat.add_zero, zI_le, c1, c2, if_true, if_false, true_and, es]
                · rw [show min (d + 0) (min (qq + 1) (pp + 1)) = pp + 1 by omega] at es
                  simp (disch := first | omega | decide) only [Nat.add_zero, zI_le, c1, c2, if_true, if_false, true_and, es]
            · rw [if_pos hc]
              rw [if_neg (show ¬ dr I 136 u i = dr I 136 v j from hc)] at es
              by_cases c1 : d + 1 ≤ qq + 1
              · by_cases c2 : d + 1 ≤ pp + 1
                · rw [show min (d + 1) (min (qq + 1) (pp + 1)) = d + 1 by omega] at es
                  simp (disch := first | omega | decide) only [zI_le, c1, c2, if_true, true_and, es]
                · rw [show min (d + 1) (min (qq + 1) (pp + 1)) = pp + 1 by omega] at es
                  simp (disch := first | omega | decide) only [zI_le, c1, c2, if_true, if_false, true_and, es]
              · by_cases c2 : qq + 1 ≤ pp + 1
                · rw [show min (d + 1) (min (qq + 1) (pp + 1)) = qq + 1 by omega] at es
                  simp (disch := first | omega | decide) only [zI_le, c1, c2, if_true, if_false, true_and, es]
                · rw [show min (d + 1) (min (qq + 1) (pp + 1)) = pp + 1 by omega] at es
                  simp (disch := first | omega | decide) only [zI_le, c1, c2, if_true, if_false, true_and, es]
    have ii := inner (m + 1) (Nat.le_refl _)
    rw [m1_s, tb_row] at ii
    rw [ii]
    exact ih (by omega) o
theorem ct_far {u v n m : Nat} (hu : u < 48) (hv : v < 48) (h1 : I 135 u = zI n) (h2 : I 135 v = zI m) (hn : n ≤ 8) (hm : m ≤ 8) : sm_wp X 297 0 [some (.ref 81), some (.int (zI u)), some (.int (zI v)), none, none, none] [] (sM mo G I J) Q = Q (some (.int (zI (ed (dr I 136 u) (dr I 136 v) n m n m)))) (sM mo G (rw2 I 139 (tb (dr I 136 u) (dr I 136 v) n m (I 139) 0 0)) J) := by
  rw [lp_297_0, zI_vp (show u < 2147483648 by omega), zI_cn (show u < 2147483648 by omega), h1]
  simp only [hu, true_and]
  have e := lp_far X mo G I J Q hu hv h1 h2 hn hm (n + 1) (Nat.le_refl _) (I 139)
  rw [tb_top, rw2_self, m1_s] at e
  exact e
def stC (I : Nat → Nat → Int32) (u v n m : Nat) : Nat → Nat → Int32 := rw2 (rw2 (rw2 I 76 (cpr (I 76) (dr I 73 u) 8)) 77 (cpr (I 77) (dr I 73 v) 8)) 78 (tb (dr I 73 u) (dr I 73 v) n m (I 78) 0 0)
theorem dl_v {r m a s : Nat} (hr : I 71 0 = zI r) (h8 : r ≤ 8) (hm : I 1 1 = zI m) (h6 : m ≤ 6) (ha : a < r) (hs : s < m) : vf_Art_draftLength I (zI a) (zI s) = I 72 (6 * a + s) := by
  unfold vf_Art_draftLength
  simp only [hArt_vp hr h8, hState_vp hm h6]
  have e : a * 6 + s = 6 * a + s := by omega
  simp (disch := first | omega | decide) only [zI_lt, zI_le, zI_eq, zI_cn, zI_vp, zI_add, zI_mul, zI_sub, zIl_add, zIr_add, zIl_mul, zIr_mul, zIr_sub, zIl_lt, zIr_lt, zIl_le, zIr_le, zIl_eq, zIr_eq, zI_sIn, zI_m1, zI_m1', Int32.add_zero, Int32.or_zero, ha, hs, not_true_eq_false, if_true, if_false, e]
theorem wa_v {a s k : Nat} (ha : a < 8) (hs : s < 6) (hk : k < 8) : vf_Art_wordAt I (zI a) (zI s) (zI k) = dr I 73 (6 * a + s) k := by
  unfold vf_Art_wordAt dr
  have e : (a * 6 + s) * 8 + k = 8 * (6 * a + s) + k := by omega
  have c1 : ¬ 8 ≤ a := by omega
  simp (disch := first | omega | decide) only [zI_lt, zI_le, zI_eq, zI_cn, zI_vp, zI_add, zI_mul, zI_sub, zIl_add, zIr_add, zIl_mul, zIr_mul, zIr_sub, zIl_lt, zIr_lt, zIl_le, zIr_le, zIl_eq, zIr_eq, zI_sIn, zI_m1, zI_m1', Int32.add_zero, Int32.or_zero, Nat.not_lt_zero, if_false, hs, hk, if_true, e, c1]
theorem ct_steps {r ms a s o n m : Nat} (hr : I 71 0 = zI r) (h8 : r ≤ 8) (hm : I 1 1 = zI ms) (h6 : ms ≤ 6) (ha : a < r) (hs : s < ms) (ho : o < ms) (h1 : I 72 (6 * a + s) = zI n) (h2 : I 72 (6 * a + o) = zI m) (hn : n ≤ 8) (hm8 : m ≤ 8) : sm_wp X 8 0 [some (.ref 71), some (.int (zI a)), some (.int (zI s)), some (.int (zI o)), none, none, none, none, none, none, none] [] (sM mo G I J) Q = Q (some (.int (zI (ed (dr I 73 (6 * a + s)) (dr I 73 (6 * a + o)) n m n m)))) (sM mo G (stC I (6 * a + s) (6 * a + o) n m) J) := by
  rw [lp_8_0]
  refine Eq.trans ?_ ((cnt (fun k (_ : Unit) => sm_wp X 8 3 [some (.ref 71), some (.int (zI a)), some (.int (zI s)), some (.int (zI o)), some (.int (zI k)), none, none, none, none, none, none] [] (sM mo G (rw2 (rw2 I 76 (cpr (I 76) (dr I 73 (6 * a + s)) k)) 77 (cpr (I 77) (dr I 73 (6 * a + o)) k)) J) Q) (fun _ x => x) () 8 ?_).trans ?_)
  · have e : ∀ q w : Nat → Int32, cpr q w 0 = q := by
      intro q w
      funext k
      unfold cpr
      rw [if_neg (by omega)]
    rw [e, e, rw2_self, rw2_self]
    rfl
  · intro k hk
    have c8 : ¬ 8 ≤ k := by omega
    rw [lp_8_3]
    have w1 : ∀ K : Nat → Nat → Int32, K 73 = I 73 → ∀ s, s < 6 → vf_Art_wordAt K (zI a) (zI s) (zI k) = dr I 73 (6 * a + s) k := by
      intro K hK s hs
      rw [wa_v K (by omega) hs hk]
      unfold dr
      rw [hK]
    rw [w1 _ (by simp (decide := true) only [rw2_n, ne_eq, not_false_eq_true]) s (by omega), w1 _ (by simp (decide := true) only [up2_rn, rw2_n, ne_eq, not_false_eq_true]) o (by omega)]
    simp (disch := first | omega | decide) only [zI_lt, zI_le, zI_eq, zI_cn, zI_vp, zI_add, zI_mul, zI_sub, zIl_add, zIr_add, zIl_mul, zIr_mul, zIr_sub, zIl_lt, zIr_lt, zIl_le, zIr_le, zIl_eq, zIr_eq, zI_sIn, zI_m1, zI_m1', Int32.add_zero, Int32.or_zero, c8, hk, if_false, true_and]
    rw [← cpr_8 (I 76), ← cpr_8 (I 77)]
    have ee : ∀ p q : Nat → Int32, up2 (up2 (rw2 (rw2 I 76 p) 77 q) 76 k (dr I 73 (6 * a + s) k)) 77 k (dr I 73 (6 * a + o) k) = rw2 (rw2 I 76 (va_up p k (dr I 73 (6 * a + s) k))) 77 (va_up q k (dr I 73 (6 * a + o) k)) := by
      intro p q
      funext c
      by_cases h76 : c = 76
      · subst h76
        simp (decide := true) only [up2_ra, up2_rn, va_ap, ne_eq, if_false, if_true, not_false_eq_true, rw2_n, rw2_a]
      · by_cases h77 : c = 77
        · subst h77
          simp (decide := true) only [up2_ra, up2_rn, va_ap, ne_eq, if_false, if_true, not_false_eq_true, rw2_n, rw2_a]
        · simp (disch := assumption) only [up2_rn, rw2_n]
    rw [ee]
  · rw [lp_8_3, if_pos (by decide)]
    have d1 : ∀ K : Nat → Nat → Int32, K 71 = I 71 → K 1 = I 1 → K 72 = I 72 → vf_Art_draftLength K (zI a) (zI s) = zI n ∧ vf_Art_draftLength K (zI a) (zI o) = zI m := by
      intro K k1 k2 k3
      rw [dl_v K (by rw [k1]; exact hr) h8 (by rw [k2]; exact hm) h6 ha hs, dl_v K (by rw [k1]; exact hr) h8 (by rw [k2]; exact hm) h6 ha ho, k3]
      exact ⟨h1, h2⟩
    obtain ⟨q1, q2⟩ := d1 (rw2 (rw2 I 76 (cpr (I 76) (dr I 73 (6 * a + s)) 8)) 77 (cpr (I 77) (dr I 73 (6 * a + o)) 8)) (by simp (decide := true) only [rw2_n, ne_eq, not_false_eq_true]) (by simp (decide := true) only [rw2_n, ne_eq, not_false_eq_true]) (by simp (decide := true) only [rw2_n, ne_eq, not_false_eq_true])
    rw [q1, q2]
    have c1 : ¬ (8 : Int32) < zI n := by rw [zIl_lt (c := 8) (by decide) (by omega)]; show ¬ 8 < n; omega
    have c2 : ¬ (8 : Int32) < zI m := by rw [zIl_lt (c := 8) (by decide) (by omega)]; show ¬ 8 < m; omega
    simp only [c1, c2, if_false]
    have e := lp_stp X mo G (rw2 (rw2 I 76 (cpr (I 76) (dr I 73 (6 * a + s)) 8)) 77 (cpr (I 77) (dr I 73 (6 * a + o)) 8)) J Q hn hm8 (n + 1) (Nat.le_refl _) (I 78)
    rw [tb_top, m1_s] at e
    simp (decide := true) only [rw2_n, rw2_a, ne_eq, not_false_eq_true] at e
    have r1 : ∀ i, i < n → cpr (I 76) (dr I 73 (6 * a + s)) 8 i = dr I 73 (6 * a + s) i := fun i hi => if_pos (by omega)
    have r2 : ∀ i, i < m → cpr (I 77) (dr I 73 (6 * a + o)) 8 i = dr I 73 (6 * a + o) i := fun i hi => if_pos (by omega)
    rw [ed_congr r1 r2 _ _ (Nat.le_refl _) (Nat.le_refl _), tb_congr r1 r2] at e
    have e78 : rw2 (rw2 (rw2 I 76 (cpr (I 76) (dr I 73 (6 * a + s)) 8)) 77 (cpr (I 77) (dr I 73 (6 * a + o)) 8)) 78 (I 78) = rw2 (rw2 I 76 (cpr (I 76) (dr I 73 (6 * a + s)) 8)) 77 (cpr (I 77) (dr I 73 (6 * a + o)) 8) := by
      have := rw2_self (rw2 (rw2 I 76 (cpr (I 76) (dr I 73 (6 * a + s)) 8)) 77 (cpr (I 77) (dr I 73 (6 * a + o)) 8)) 78
      simp (decide := true) only [rw2_n, ne_eq, not_false_eq_true] at this
      exact this
    rw [e78] at e
    exact e
end O1
end
section
/-! What a call may use and leave as it likes; the base of an article. -/
def scr (c : Nat) : Bool := c == 0 || c == 14 || (16 ≤ c && c ≤ 20) || (45 ≤ c && c ≤ 47) || (76 ≤ c && c ≤ 81) || (103 ≤ c && c ≤ 106) || (121 ≤ c && c ≤ 134) || (139 ≤ c && c ≤ 142)
def fld (j : Nat) : Bool := [1, 3, 10, 15, 16, 18, 19, 46, 60, 81].contains j
def Fr (I K : Nat → Nat → Int32) : Prop := (∀ c, scr c = false → K c = I c) ∧ K 14 0 = I 14 0 ∧ K 16 0 = I 16 0 ∧ K 16 1 = I 16 1 ∧ ∀ j, fld j = true → K 81 j = I 81 j
theorem Fr_r (I : Nat → Nat → Int32) : Fr I I := ⟨fun _ _ => rfl, rfl, rfl, rfl, fun _ _ => rfl⟩
theorem Fr_t {I K L : Nat → Nat → Int32} (h : Fr I K) (g : Fr K L) : Fr I L := ⟨fun c hc => (g.1 c hc).trans (h.1 c hc), g.2.1.trans h.2.1, g.2.2.1.trans h.2.2.1, g.2.2.2.1.trans h.2.2.2.1, fun j hj => (g.2.2.2.2 j hj).trans (h.2.2.2.2 j hj)⟩
theorem Fr_w {I K : Nat → Nat → Int32} (h : Fr I K) {c : Nat} (hc : scr c = true) (h14 : c ≠ 14) (h16 : c ≠ 16) (h81 : c ≠ 81) (r : Nat → Int32) : Fr I (rw2 K c r) := by
  refine ⟨fun d hd => ?_, ?_, ?_, ?_, fun j hj => ?_⟩
  · have : d ≠ c := fun e => by rw [e, hc] at hd; cases hd
    rw [rw2_n _ _ _ _ this]
    exact h.1 d hd
  · rw [rw2_n _ _ _ _ h14.symm]; exact h.2.1
  · rw [rw2_n _ _ _ _ h16.symm]; exact h.2.2.1
  · rw [rw2_n _ _ _ _ h16.symm]; exact h.2.2.2.1
  · rw [rw2_n _ _ _ _ h81.symm]; exact h.2.2.2.2 j hj
theorem Fr_u {I K : Nat → Nat → Int32} (h : Fr I K) {c : Nat} (hc : scr c = true) (h14 : c ≠ 14) (h16 : c ≠ 16) (h81 : c ≠ 81) (k : Nat) (v : Int32) : Fr I (up2 K c k v) := by
  rw [up2_rw]
  exact Fr_w h hc h14 h16 h81 _
theorem Fr_m {I K : Nat → Nat → Int32} (h : Fr I K) {k : Nat} (hk : fld k = false) (v : Int32) : Fr I (up2 K 81 k v) := by
  refine ⟨fun d hd => ?_, ?_, ?_, ?_, fun j hj => ?_⟩
  · have : d ≠ 81 := fun e => by rw [e] at hd; cases hd
    rw [up2_rn _ _ _ _ _ this]
    exact h.1 d hd
  · rw [up2_rn _ _ _ _ _ (by decide)]; exact h.2.1
  · rw [up2_rn _ _ _ _ _ (by decide)]; exact h.2.2.1
  · rw [up2_rn _ _ _ _ _ (by decide)]; exact h.2.2.2.1
  · rw [up2_ra, va_ap, if_neg (fun e => by rw [← e, hj] at hk; cases hk)]
    exact h.2.2.2.2 j hj
theorem inv_fr {c : Nat} {mo : Bool} {G : Nat × Nat} {I K : Nat → Nat → Int32} {J L : Nat → Nat → Int64} (h : inv c mo G I J) (f : Fr I K) (h52 : L 52 = J 52) (h60 : L 60 = J 60) : Inv (c + 1) (sM mo G K L) := by
  obtain ⟨n, m, t, p, q, r, ch, ln, hN, hE, hV, hY, hG, hK, hP, hS, hA, hT, hF, hB, hC, hD, hD2, hX, hZ⟩ := h
  refine ⟨mo, G, K, L, rfl, n, m, t, p, q, r, ch, ln, ?_⟩
  obtain ⟨f1, f2, f3, f4, f5⟩ := f
  simp (decide := true) only [f1, f2, f3, f4, f5, h52, h60]
  exact ⟨hN, hE, hV, hY, hG, ivK_s hK, hP, hS, hA, hT, hF, hB, hC, hD, hD2, hX, ivZ_s hZ⟩
/-! pure: drafts of an article -/
def adr (pr : Int32) (L : Nat → Int32) (ms a s : Nat) : Bool := decide (s < ms) && bt pr s && decide (¬ L (6 * a + s) = 0)
def adl (L : Nat → Int32) (a s : Nat) : Nat := (L (6 * a + s)).toNatClampNeg
def adw (W : Nat → Int32) (a s k : Nat) : Int32 := W (8 * (6 * a + s) + k)
def adD (L W : Nat → Int32) (a s o : Nat) : Nat := ed (adw W a s) (adw W a o) (adl L a s) (adl L a o) (adl L a s) (adl L a o)
def sm6 (f : Nat → Nat) : Nat := f 0 + f 1 + f 2 + f 3 + f 4 + f 5
theorem sm6_c {f g : Nat → Nat} (h : ∀ o, o < 6 → f o = g o) : sm6 f = sm6 g := by
  unfold sm6
  rw [h 0 (by decide), h 1 (by decide), h 2 (by decide), h 3 (by decide), h 4 (by decide), h 5 (by decide)]
theorem sm6_k {f g : Nat → Nat} {k v : Nat} (hk : k < 6) (h : ∀ o, o < 6 → o ≠ k → f o = g o) (h2 : f k = g k + v) : sm6 f = sm6 g + v := by
  have h0 := h 0 (by decide)
  have h1 := h 1 (by decide)
  have h3 := h 2 (by decide)
  have h4 := h 3 (by decide)
  have h5 := h 4 (by decide)
  have h6 := h 5 (by decide)
  unfold sm6
  have : k = 0 ∨ k = 1 ∨ k = 2 ∨ k = 3 ∨ k = 4 ∨ k = 5 := by omega
  rcases this with rfl | rfl | rfl | rfl | rfl | rfl <;> simp at h0 h1 h3 h4 h5 h6 <;> omega
theorem sm6_le {f : Nat → Nat} {b : Nat} (h : ∀ o, o < 6 → f o ≤ b) : sm6 f ≤ 6 * b := by
  have h0 := h 0 (by decide)
  have h1 := h 1 (by decide)
  have h3 := h 2 (by decide)
  have h4 := h 3 (by decide)
  have h5 := h 4 (by decide)
  have h6 := h 5 (by decide)
  unfold sm6
  omega
def asm (pr : Int32) (L W : Nat → Int32) (ms a s : Nat) : Nat := sm6 (fun o => if adr pr L ms a o = true then adD L W a s o else 0)
def abF (pr : Int32) (L W R : Nat → Int32) (ms a : Nat) (s : Nat) (b : Option Nat) : Option Nat := if adr pr L ms a s = true then (match b with
  | none => some s
  | some t => if asm pr L W ms a s < asm pr L W ms a t ∨ (asm pr L W ms a s = asm pr L W ms a t ∧ R s < R t) then some s else some t) else b
def abs (pr : Int32) (L W R : Nat → Int32) (ms a : Nat) : Option Nat := up (abF pr L W R ms a) 6 none
def enc (b : Option Nat) : Int32 := match b with
  | none => -1
  | some t => zI t
theorem adD_s {L W : Nat → Int32} {a : Nat} (s o : Nat) : adD L W a s o = adD L W a o s := ed_sym _ _ _ _ _ _
theorem adD_0 {L W : Nat → Int32} {a : Nat} (s : Nat) : adD L W a s s = 0 := ed_self _ _ _
theorem adD_le {L W : Nat → Int32} {a : Nat} (hL : ∀ j, ∃ w, w ≤ 8 ∧ L j = zI w) (s o : Nat) : adD L W a s o ≤ 16 := by
  have h1 := ed_le (adw W a s) (adw W a o) (adl L a s) (adl L a o) (adl L a s) (adl L a o)
  obtain ⟨w, hw, e⟩ := hL (6 * a + s)
  obtain ⟨v, hv, e2⟩ := hL (6 * a + o)
  have e3 : adl L a s = w := by unfold adl; rw [e, zI_cn (by omega)]
  have e4 : adl L a o = v := by unfold adl; rw [e2, zI_cn (by omega)]
  unfold adD
  omega
theorem asm_le {pr : Int32} {L W : Nat → Int32} {ms a : Nat} (hL : ∀ j, ∃ w, w ≤ 8 ∧ L j = zI w) (s : Nat) : asm pr L W ms a s ≤ 96 := by
  unfold asm
  refine Nat.le_trans (sm6_le (b := 16) fun o ho => ?_) (by decide)
  split
  · exact adD_le hL s o
  · omega
theorem abF_t {pr : Int32} {L W R : Nat → Int32} {ms a : Nat} (k : Nat) : up (abF pr L W R ms a) (ms + k) none = up (abF pr L W R ms a) ms none := by
  induction k with
  | zero => rfl
  | succ k ih =>
    rw [← Nat.add_assoc, up_s, ih]
    unfold abF
    rw [if_neg]
    unfold adr
    rw [decide_eq_false (by omega)]
    simp
theorem abF_lt {pr : Int32} {L W R : Nat → Int32} {ms a : Nat} : ∀ k, k ≤ 6 → ∀ t, up (abF pr L W R ms a) k none = some t → t < k ∧ adr pr L ms a t = true := by
  refine up_ind (fun k (b : Option Nat) => ∀ t, b = some t → t < k ∧ adr pr L ms a t = true) (fun t h => by cases h) ?_
  intro k hk b ih t ht
  unfold abF at ht
  split at ht
  · rename_i hh
    cases b with
    | none =>
      simp only [Option.some.injEq] at ht
      subst ht
      exact ⟨by omega, hh⟩
    | some u =>
      simp only at ht
      split at ht
      · simp only [Option.some.injEq] at ht
        subst ht
        exact ⟨by omega, hh⟩
      · simp only [Option.some.injEq] at ht
        subst ht
        have := ih u rfl
        exact ⟨by omega, this.2⟩
  · have := ih t ht
    exact ⟨by omega, this.2⟩
/-- which pairs are done -/
abbrev prc (b a s o : Nat) : Prop := ¬ s = o ∧ ((s < b ∧ o < b) ∨ (s = b ∧ o < a) ∨ (o = b ∧ s < a))
def pss (pr : Int32) (L W : Nat → Int32) (ms x b a s : Nat) : Nat := sm6 (fun o => if adr pr L ms x s = true ∧ adr pr L ms x o = true ∧ prc b a s o then adD L W x s o else 0)
section O1
variable {pr : Int32} {L W : Nat → Int32} {ms x : Nat}
theorem pss_row {b s : Nat} (hs : s < 6) : pss pr L W ms x b b s = pss pr L W ms x (b + 1) 0 s := by
  apply sm6_c
  intro o ho
  have e : (adr pr L ms x s = true ∧ adr pr L ms x o = true ∧ prc b b s o) = (adr pr L ms x s = true ∧ adr pr L ms x o = true ∧ prc (b + 1) 0 s o) := by
    have : prc b b s o = prc (b + 1) 0 s o := by unfold prc; apply propext; omega
    rw [this]
  simp only [e]
theorem pss_0 {s : Nat} : pss pr L W ms x 1 0 s = 0 := by
  have : pss pr L W ms x 1 0 s = sm6 (fun _ => 0) := by
    apply sm6_c
    intro o ho
    rw [if_neg]
    rintro ⟨-, -, h⟩
    unfold prc at h
    omega
  rw [this]
  rfl
theorem pss_6 {s : Nat} (hs : s < 6) (h : adr pr L ms x s = true) : pss pr L W ms x 6 0 s = asm pr L W ms x s := by
  apply sm6_c
  intro o ho
  by_cases g : adr pr L ms x o = true
  · by_cases e : s = o
    · subst e
      rw [if_neg, if_pos g, adD_0]
      rintro ⟨-, -, h⟩
      exact h.1 rfl
    · rw [if_pos ⟨h, g, e, Or.inl ⟨hs, ho⟩⟩, if_pos g]
  · rw [if_neg (fun h => g h.2.1), if_neg g]
theorem pss_no {b a s : Nat} (hs : s < 6) (hab : a < b) (h : ¬ (adr pr L ms x a = true ∧ adr pr L ms x b = true)) : pss pr L W ms x b (a + 1) s = pss pr L W ms x b a s := by
  apply sm6_c
  intro o ho
  have e : (adr pr L ms x s = true ∧ adr pr L ms x o = true ∧ prc b (a + 1) s o) = (adr pr L ms x s = true ∧ adr pr L ms x o = true ∧ prc b a s o) := by
    apply propext
    constructor
    · rintro ⟨h1, h2, h3⟩
      refine ⟨h1, h2, h3.1, ?_⟩
      rcases h3.2 with q | ⟨q1, q2⟩ | ⟨q1, q2⟩
      · exact Or.inl q
      · by_cases q3 : o = a
        · subst q1 q3
          exact absurd ⟨h2, h1⟩ h
        · exact Or.inr (Or.inl ⟨q1, by omega⟩)
      · by_cases q3 : s = a
        · subst q1 q3
          exact absurd ⟨h1, h2⟩ h
        · exact Or.inr (Or.inr ⟨q1, by omega⟩)
    · rintro ⟨h1, h2, h3⟩
      refine ⟨h1, h2, h3.1, ?_⟩
      have := h3.2
      omega
  simp only [e]
theorem pss_yes {b a s : Nat} (hs : s < 6) (hb : b < 6) (hab : a < b) (h1 : adr pr L ms x a = true) (h2 : adr pr L ms x b = true) : pss pr L W ms x b (a + 1) s = pss pr L W ms x b a s + (if s = a then adD L W x a b else if s = b then adD L W x a b else 0) := by
  by_cases e1 : s = a
  · subst e1
    rw [if_pos rfl]
    apply sm6_k (k := b) hb
    · intro o ho hne
      have : prc b (s + 1) s o = prc b s s o := by unfold prc; apply propext; omega
      simp only [this]
    · rw [if_pos ⟨h1, h2, by unfold prc; omega⟩, if_neg (fun g => by have := g.2.2; unfold prc at this; omega)]
      omega
  · rw [if_neg e1]
    by_cases e2 : s = b
    · subst e2
      rw [if_pos rfl, adD_s]
      apply sm6_k (k := a) (by omega)
      · intro o ho hne
        have : prc s (a + 1) s o = prc s a s o := by unfold prc; apply propext; omega
        simp only [this]
      · rw [if_pos ⟨h2, h1, by unfold prc; omega⟩, if_neg (fun g => by have := g.2.2; unfold prc at this; omega)]
        omega
    · rw [if_neg e2]
      show pss pr L W ms x b (a + 1) s = pss pr L W ms x b a s
      apply sm6_c
      intro o ho
      have : prc b (a + 1) s o = prc b a s o := by unfold prc; apply propext; omega
      simp only [this]
theorem pss_le (hL : ∀ j, ∃ w, w ≤ 8 ∧ L j = zI w) (b a s : Nat) : pss pr L W ms x b a s ≤ 96 := by
  unfold pss
  refine Nat.le_trans (sm6_le (b := 16) fun o ho => ?_) (by decide)
  split
  · exact adD_le hL s o
  · omega
end O1
end
section
/-! The base of an article, on both sides. -/
/-- what the articles' code leans on -/
def aC (r ms : Nat) (K : Nat → Nat → Int32) : Prop := K 71 0 = zI r ∧ r ≤ 8 ∧ K 1 1 = zI ms ∧ ms ≤ 6 ∧ (∀ j, ∃ w, w ≤ 8 ∧ K 72 j = zI w)
def aM (r ms : Nat) (K : Nat → Nat → Int32) : Prop := K 81 81 = zI r ∧ r ≤ 8 ∧ K 81 10 = zI ms ∧ ms ≤ 6 ∧ (∀ j, ∃ w, w ≤ 8 ∧ K 135 j = zI w)
theorem aC_f {r ms : Nat} {I K : Nat → Nat → Int32} (f : Fr I K) (h : aC r ms I) : aC r ms K := by
  unfold aC
  rw [f.1 71 rfl, f.1 1 rfl, f.1 72 rfl]
  exact h
theorem aM_f {r ms : Nat} {I K : Nat → Nat → Int32} (f : Fr I K) (h : aM r ms I) : aM r ms K := by
  unfold aM
  rw [f.2.2.2.2 81 rfl, f.2.2.2.2 10 rfl, f.1 135 rfl]
  exact h
theorem hpd_v {r ms a s : Nat} {K : Nat → Nat → Int32} (h : aC r ms K) (ha : a < r) (hs : s < 6) : vf_Art_hasPresentDraft K (zI a) (zI s) = (adr (K 1 2) (K 72) ms a s = true) := by
  obtain ⟨h1, h2, h3, h4, h5⟩ := h
  unfold vf_Art_hasPresentDraft adr
  simp only [hPres_vp h3 h4]
  simp (disch := first | omega | decide) only [zI_lt, zI_le, zI_eq, zI_cn, zI_vp, zI_add, zI_mul, zI_sub, zIl_add, zIr_add, zIl_mul, zIr_mul, zIr_sub, zIl_lt, zIr_lt, zIl_le, zIr_le, zIl_eq, zIr_eq, zI_sIn, zI_m1, zI_m1', Int32.add_zero, Int32.or_zero]
  apply propext
  by_cases g : s < ms
  · rw [dl_v K h1 h2 h3 h4 ha g]
    obtain ⟨w, hw, e⟩ := h5 (6 * a + s)
    rw [e]
    simp (disch := first | omega | decide) only [zI_lt, zI_le, zI_eq, zI_cn, zI_vp, zI_add, zI_mul, zI_sub, zIl_add, zIr_add, zIl_mul, zIr_mul, zIr_sub, zIl_lt, zIr_lt, zIl_le, zIr_le, zIl_eq, zIr_eq, zI_sIn, zI_m1, zI_m1', Int32.add_zero, Int32.or_zero, g]
    simp
  · simp [g]
theorem hdr_v {r ms a s : Nat} {K : Nat → Nat → Int32} (h : aM r ms K) (ha : a < r) (hs : s < 6) : vf_Model_hasDraft K (zI a) (zI s) = (adr (K 81 15) (K 135) ms a s = true) ∧ vc_Model_hasDraft K (zI a) (zI s) := by
  obtain ⟨h1, h2, h3, h4, h5⟩ := h
  obtain ⟨w, hw, e⟩ := h5 (6 * a + s)
  have c48 : 6 * a + s < 48 := by omega
  unfold vf_Model_hasDraft vc_Model_hasDraft adr
  simp only [mPres_vp h3 h4]
  simp (disch := first | omega | decide) only [zI_lt, zI_le, zI_eq, zI_cn, zI_vp, zI_add, zI_mul, zI_sub, zIl_add, zIr_add, zIl_mul, zIr_mul, zIr_sub, zIl_lt, zIr_lt, zIl_le, zIr_le, zIl_eq, zIr_eq, zI_sIn, zI_m1, zI_m1', Int32.add_zero, Int32.or_zero, e, c48, implies_true, and_true]
  apply propext
  by_cases g : s < ms
  · simp [g]
  · simp [g]
section O1
variable {X : (Nat → Int32) × Nat} {mo : Bool} {G : Nat × Nat} {J : Nat → Nat → Int64} {Q : Option Value → sm_M → Prop}
theorem stC_f {I : Nat → Nat → Int32} (u v n m : Nat) : Fr I (stC I u v n m) := by
  unfold stC
  exact Fr_w (Fr_w (Fr_w (Fr_r I) rfl (by decide) (by decide) (by decide) _) rfl (by decide) (by decide) (by decide) _) rfl (by decide) (by decide) (by decide) _
/-- the distance, by the class -/
theorem hc_steps {r ms a s o : Nat} {K : Nat → Nat → Int32} (h : aC r ms K) (ha : a < r) (hs : s < ms) (ho : o < ms) : sm_wp X 8 0 [some (.ref 71), some (.int (zI a)), some (.int (zI s)), some (.int (zI o)), none, none, none, none, none, none, none] [] (sM mo G K J) Q = Q (some (.int (zI (adD (K 72) (K 73) a s o)))) (sM mo G (stC K (6 * a + s) (6 * a + o) (adl (K 72) a s) (adl (K 72) a o)) J) := by
  obtain ⟨h1, h2, h3, h4, h5⟩ := h
  obtain ⟨w, hw, e⟩ := h5 (6 * a + s)
  obtain ⟨v, hv, e2⟩ := h5 (6 * a + o)
  have e3 : adl (K 72) a s = w := by unfold adl; rw [e, zI_cn (by omega)]
  have e4 : adl (K 72) a o = v := by unfold adl; rw [e2, zI_cn (by omega)]
  rw [ct_steps _ _ _ _ _ _ h1 h2 h3 h4 ha hs ho e e2 hw hv, e3, e4]
  unfold adD
  rw [e3, e4]
  rfl
theorem hm_far {r ms a s o : Nat} {K : Nat → Nat → Int32} (h : aM r ms K) (ha : a < r) (hs : s < ms) (ho : o < ms) : sm_wp X 297 0 [some (.ref 81), some (.int (zI (6 * a + s))), some (.int (zI (6 * a + o))), none, none, none] [] (sM mo G K J) Q = Q (some (.int (zI (adD (K 135) (K 136) a s o)))) (sM mo G (rw2 K 139 (tb (adw (K 136) a s) (adw (K 136) a o) (adl (K 135) a s) (adl (K 135) a o) (K 139) 0 0)) J) := by
  obtain ⟨h1, h2, h3, h4, h5⟩ := h
  obtain ⟨w, hw, e⟩ := h5 (6 * a + s)
  obtain ⟨v, hv, e2⟩ := h5 (6 * a + o)
  have e3 : adl (K 135) a s = w := by unfold adl; rw [e, zI_cn (by omega)]
  have e4 : adl (K 135) a o = v := by unfold adl; rw [e2, zI_cn (by omega)]
  rw [ct_far _ _ _ _ _ _ (by omega) (by omega) e e2 hw hv, e3, e4]
  unfold adD
  rw [e3, e4]
  rfl
theorem hc_base {r ms a : Nat} {I : Nat → Nat → Int32} (h : aC r ms I) (hR : ∀ j, ∃ w, w ≤ 99 ∧ I 10 j = zI w) (ha : a < r) (hQ : ∀ K, Fr I K → Q (some (.int (enc (abs (I 1 2) (I 72) (I 73) (I 10) ms a)))) (sM mo G K J)) : sm_wp X 10 0 [some (.ref 71), some (.int (zI a)), none, none, none] [] (sM mo G I J) Q := by
  have hL := h.2.2.2.2
  -- the last loop
  have l3 : ∀ K, Fr I K → (∀ s, s < 6 → adr (I 1 2) (I 72) ms a s = true → K 79 s = zI (asm (I 1 2) (I 72) (I 73) ms a s)) → sm_wp X 10 101 [some (.ref 71), some (.int (zI a)), some (.int (-1)), some (.int 0), none] [] (sM mo G K J) Q := by
    intro K f hs
    have e := cnt (fun k (b : Option Nat) => sm_wp X 10 101 [some (.ref 71), some (.int (zI a)), some (.int (enc b)), some (.int (zI k)), none] [] (sM mo G K J) Q) (abF (I 1 2) (I 72) (I 73) (I 10) ms a) none 6 (fun k hk => by
      have hlt := abF_lt (pr := I 1 2) (L := I 72) (W := I 73) (R := I 10) (ms := ms) (a := a) k (by omega)
      generalize up (abF (I 1 2) (I 72) (I 73) (I 10) ms a) k none = b at hlt ⊢
      have c6 : ¬ (6 : Int32) ≤ zI k := by rw [zIl_le (c := 6) (by decide) (by omega)]; show ¬ 6 ≤ k; omega
      rw [lp_10_101, if_neg c6]
      simp only [hpd_v (aC_f f h) ha hk, f.1 1 rfl, f.1 72 rfl]
      rw [show zI k + 1 = zI (k + 1) from zIr_add 1 k]
      unfold abF
      by_cases g : adr (I 1 2) (I 72) ms a k = true
      · simp only [g, not_true_eq_false, if_false, if_true]
        cases b with
        | none =>
          have : vf_Art_isBetterBase K (zI k) (enc none) := by
            unfold vf_Art_isBetterBase enc
            refine Or.inr (Or.inr (Or.inl (by decide)))
          rw [if_neg (fun g => g this)]
          rfl
        | some t =>
          obtain ⟨t1, t2⟩ := hlt t rfl
          have s1 := hs k hk g
          have s2 := hs t (by omega) t2
          have b1 := asm_le (pr := I 1 2) (W := I 73) (ms := ms) (a := a) hL k
          have b2 := asm_le (pr := I 1 2) (W := I 73) (ms := ms) (a := a) hL t
          have km : k < ms := by
            unfold adr at g
            simp at g
            exact g.1.1
          have tm : t < ms := by
            unfold adr at t2
            simp at t2
            exact t2.1.1
          have ib : vf_Art_isBetterBase K (zI k) (zI t) = (asm (I 1 2) (I 72) (I 73) ms a k < asm (I 1 2) (I 72) (I 73) ms a t ∨ (asm (I 1 2) (I 72) (I 73) ms a k = asm (I 1 2) (I 72) (I 73) ms a t ∧ I 10 k < I 10 t)) := by
            obtain ⟨-, -, h3, h4, -⟩ := aC_f f h
            unfold vf_Art_isBetterBase
            simp only [aState, hState_vp h3 h4, f.1 10 rfl]
            obtain ⟨w1, -, hw1⟩ := hR k
            obtain ⟨w2, -, hw2⟩ := hR t
            have n6 : ¬ 6 ≤ k := by omega
            have t6 : t < 6 := by omega
            simp (disch := first | omega | decide) only [zI_lt, zI_le, zI_eq, zI_cn, zI_vp, zI_add, zI_mul, zI_sub, zIl_add, zIr_add, zIl_mul, zIr_mul, zIr_sub, zIl_lt, zIr_lt, zIl_le, zIr_le, zIl_eq, zIr_eq, zI_sIn, zI_m1, zI_m1', Int32.add_zero, Int32.or_zero, s1, s2, km, tm, if_true, Nat.not_lt_zero, n6, t6, not_true_eq_false, false_or]
            apply propext
            have nle : (¬ I 10 t ≤ I 10 k) = (I 10 k < I 10 t) := by grind
            rw [nle]
            grind
          simp only [enc, ib]
          by_cases c : asm (I 1 2) (I 72) (I 73) ms a k < asm (I 1 2) (I 72) (I 73) ms a t ∨ (asm (I 1 2) (I 72) (I 73) ms a k = asm (I 1 2) (I 72) (I 73) ms a t ∧ I 10 k < I 10 t)
          · rw [if_neg (fun g => g c), if_pos c]
          · rw [if_pos c, if_neg c]
      · simp only [g, not_false_eq_true, if_true, if_false]
        rfl)
    refine (show _ = _ from e).mpr ?_
    rw [lp_10_101, if_pos (by decide)]
    exact hQ K f
  -- the pairs
  have l2 : ∀ d b, b + d = 6 → 1 ≤ b → ∀ K, Fr I K → (∀ s, s < 6 → K 79 s = zI (pss (I 1 2) (I 72) (I 73) ms a b 0 s)) → sm_wp X 10 23 [some (.ref 71), some (.int (zI a)), some (.int (zI b)), none, none] [] (sM mo G K J) Q := by
    intro d
    induction d with
    | zero =>
      intro b hb _ K f hs
      have : b = 6 := by omega
      subst this
      rw [lp_10_23, if_pos (by decide)]
      exact l3 K f (fun s h6 hg => by rw [hs s h6, pss_6 h6 hg])
    | succ d ih =>
      intro b hb hb1 K f hs
      have c6 : ¬ (6 : Int32) ≤ zI b := by rw [zIl_le (c := 6) (by decide) (by omega)]; show ¬ 6 ≤ b; omega
      rw [lp_10_23, if_neg c6]
      have inn : ∀ e c, c + e = b → ∀ K, Fr I K → (∀ s, s < 6 → K 79 s = zI (pss (I 1 2) (I 72) (I 73) ms a b c s)) → sm_wp X 10 31 [some (.ref 71), some (.int (zI a)), some (.int (zI b)), some (.int (zI c)), none] [] (sM mo G K J) Q := by
        intro e
        induction e with
        | zero =>
          intro c hc K f hs
          have : c = b := by omega
          subst this
          rw [lp_10_31, if_pos (by rw [zI_le (by omega) (by omega)]; exact Nat.le_refl _), show zI c + 1 = zI (c + 1) from zIr_add 1 c]
          exact ih (c + 1) (by omega) (by omega) K f (fun s h6 => by rw [hs s h6, pss_row h6])
        | succ e ihe =>
          intro c hc K f hs
          rw [lp_10_31, if_neg (by rw [zI_le (by omega) (by omega)]; omega), show zI c + 1 = zI (c + 1) from zIr_add 1 c]
          simp only [hpd_v (aC_f f h) ha (show c < 6 by omega), hpd_v (aC_f f h) ha (show b < 6 by omega), f.1 1 rfl, f.1 72 rfl]
          by_cases g1 : adr (I 1 2) (I 72) ms a c = true
          · by_cases g2 : adr (I 1 2) (I 72) ms a b = true
            · rw [if_neg (fun g => g g1), if_neg (fun g => g g2)]
              have cm : c < ms := by
                unfold adr at g1
                simp at g1
                exact g1.1.1
              have bm : b < ms := by
                unfold adr at g2
                simp at g2
                exact g2.1.1
              rw [hc_steps (aC_f f h) ha cm bm]
              simp only [tl_some]
              rw [lp_10_61, zI_vp (by omega), zI_vp (by omega), zI_cn (by omega), zI_cn (by omega), show zI c + 1 = zI (c + 1) from zIr_add 1 c, f.1 72 rfl, f.1 73 rfl]
              refine ⟨by omega, by omega, ?_⟩
              refine ihe (c + 1) (by omega) _ (Fr_u (Fr_u (Fr_t f (stC_f _ _ _ _)) rfl (by decide) (by decide) (by decide) _ _) rfl (by decide) (by decide) (by decide) _ _) ?_
              intro s h6
              have s79 : ∀ u v n m, stC K u v n m 79 = K 79 := fun u v n m => by unfold stC; simp (decide := true) only [rw2_n, ne_eq, not_false_eq_true]
              simp only [up2_ra, va_ap, s79]
              rw [pss_yes h6 (by omega) (by omega) g1 g2]
              have x1 := hs s h6
              have x2 := hs b (by omega)
              have x3 := hs c (by omega)
              by_cases y1 : s = b
              · subst y1
                have y2 : ¬ s = c := by omega
                simp only [if_true, y2, if_false]
                rw [x2, zI_add]
              · by_cases y2 : s = c
                · subst y2
                  simp only [y1, if_true, if_false]
                  rw [x3, zI_add]
                · simp only [y1, y2, if_false]
                  exact x1
            · rw [if_neg (fun g => g g1), if_pos g2]
              exact ihe (c + 1) (by omega) K f (fun s h6 => by rw [hs s h6, pss_no h6 (by omega) (fun g => g2 g.2)])
          · rw [if_pos g1]
            exact ihe (c + 1) (by omega) K f (fun s h6 => by rw [hs s h6, pss_no h6 (by omega) (fun g => g1 g.1)])
      exact inn b 0 (by omega) K f hs
  -- the first loop
  have l1 : ∀ d k, k + d = 6 → ∀ K, Fr I K → (∀ s, s < k → K 79 s = 0) → sm_wp X 10 2 [some (.ref 71), some (.int (zI a)), some (.int (zI k)), none, none] [] (sM mo G K J) Q := by
    intro d
    induction d with
    | zero =>
      intro k hk K f hs
      have : k = 6 := by omega
      subst this
      rw [lp_10_2, if_pos (by decide)]
      exact l2 5 1 rfl (by decide) K f (fun s h6 => by rw [hs s h6, pss_0]; rfl)
    | succ d ih =>
      intro k hk K f hs
      have c6 : ¬ (6 : Int32) ≤ zI k := by rw [zIl_le (c := 6) (by decide) (by omega)]; show ¬ 6 ≤ k; omega
      rw [lp_10_2, if_neg c6, zI_vp (by omega), zI_cn (by omega), show zI k + 1 = zI (k + 1) from zIr_add 1 k]
      refine ⟨by omega, ih (k + 1) (by omega) _ (Fr_u f rfl (by decide) (by decide) (by decide) _ _) fun s h6 => ?_⟩
      rw [up2_ra, va_ap]
      split
      · rfl
      · exact hs s (by omega)
  rw [lp_10_0]
  exact l1 6 0 rfl I (Fr_r I) (fun s h => absurd h (Nat.not_lt_zero _))
end O1
end
section
/-! The base by the reference; what the base's words are held by. -/
theorem up_sm6 {f : Nat → Nat} {ms : Nat} (h : ms ≤ 6) (hf : ∀ j, ms ≤ j → f j = 0) : up (fun j acc => acc + f j) ms 0 = sm6 f := by
  have h0 := hf 0
  have h1 := hf 1
  have h2 := hf 2
  have h3 := hf 3
  have h4 := hf 4
  have h5 := hf 5
  have : ms = 0 ∨ ms = 1 ∨ ms = 2 ∨ ms = 3 ∨ ms = 4 ∨ ms = 5 ∨ ms = 6 := by omega
  rcases this with rfl | rfl | rfl | rfl | rfl | rfl | rfl <;> simp only [up, sm6] <;> omega
theorem up_sle {f : Nat → Nat} {b : Nat} (hf : ∀ j, f j ≤ b) (n : Nat) : up (fun j acc => acc + f j) n 0 ≤ n * b := by
  induction n with
  | zero => rw [up_0]; omega
  | succ n ih =>
    rw [up_s]
    have := hf n
    rw [Nat.succ_mul]
    omega
def lst (pr : Int32) (L W : Nat → Int32) (ms a : Nat) (b : Option Nat) : Nat := match b with
  | none => 0
  | some t => asm pr L W ms a t
theorem enc_s (t : Nat) : enc (some t) = zI t := by cases t <;> rfl
theorem lst_s (pr : Int32) (L W : Nat → Int32) (ms a t : Nat) : lst pr L W ms a (some t) = asm pr L W ms a t := by cases t <;> rfl
def trc (A B : Nat → Int32) (n m : Nat) : Nat → Nat → Nat → (Nat → Int32) → (Nat → Int32)
  | 0, _, _, r => r
  | f + 1, i, j, r => if i < n ∧ j < m then (if ed A B n m (n - i) (m - j) = ed A B n m (n - (i + 1)) (m - (j + 1)) + (if A i = B j then 0 else 1) then trc A B n m f (i + 1) (j + 1) (va_up r i (r i + (if A i = B j then 1 else 0))) else if ed A B n m (n - i) (m - j) = ed A B n m (n - (i + 1)) (m - j) + 1 then trc A B n m f (i + 1) j r else trc A B n m f i (j + 1) r) else r
theorem trc_s (A B : Nat → Int32) (n m f i j : Nat) (r : Nat → Int32) : trc A B n m (f + 1) i j r = if i < n ∧ j < m then (if ed A B n m (n - i) (m - j) = ed A B n m (n - (i + 1)) (m - (j + 1)) + (if A i = B j then 0 else 1) then trc A B n m f (i + 1) (j + 1) (va_up r i (r i + (if A i = B j then 1 else 0))) else if ed A B n m (n - i) (m - j) = ed A B n m (n - (i + 1)) (m - j) + 1 then trc A B n m f (i + 1) j r else trc A B n m f i (j + 1) r) else r := rfl
theorem trc_e (A B : Nat → Int32) (n m f i j : Nat) (r : Nat → Int32) (h : ¬ (i < n ∧ j < m)) : trc A B n m f i j r = r := by
  cases f with
  | zero => rfl
  | succ f => rw [trc_s, if_neg h]
theorem trc_ag (A B : Nat → Int32) (n m : Nat) : ∀ f i j (r q : Nat → Int32), (∀ k, k < 8 → r k = q k) → ∀ k, k < 8 → trc A B n m f i j r k = trc A B n m f i j q k := by
  intro f
  induction f with
  | zero => intro i j r q h k hk; exact h k hk
  | succ f ih =>
    intro i j r q h k hk
    rw [trc_s, trc_s]
    by_cases c1 : i < n ∧ j < m
    · rw [if_pos c1, if_pos c1]
      by_cases c2 : ed A B n m (n - i) (m - j) = ed A B n m (n - (i + 1)) (m - (j + 1)) + (if A i = B j then 0 else 1)
      · rw [if_pos c2, if_pos c2]
        apply ih _ _ _ _ _ k hk
        intro l hl
        rw [va_ap, va_ap]
        by_cases e : l = i
        · subst e
          rw [if_pos rfl, if_pos rfl, h l hl]
        · rw [if_neg e, if_neg e]
          exact h l hl
      · rw [if_neg c2, if_neg c2]
        by_cases c3 : ed A B n m (n - i) (m - j) = ed A B n m (n - (i + 1)) (m - j) + 1
        · rw [if_pos c3, if_pos c3]
          exact ih _ _ _ _ h k hk
        · rw [if_neg c3, if_neg c3]
          exact ih _ _ _ _ h k hk
    · rw [if_neg c1, if_neg c1]
      exact h k hk
section O1
variable {X : (Nat → Int32) × Nat} {mo : Bool} {G : Nat × Nat} {J : Nat → Nat → Int64} {Q : Option Value → sm_M → Prop}
theorem hm_base {r ms a : Nat} {I : Nat → Nat → Int32} (h : aM r ms I) (ha : a < r) (hQ : ∀ K, Fr I K → K 141 = I 141 → Q (some (.int (enc (abs (I 81 15) (I 135) (I 136) (I 89) ms a)))) (sM mo G K J)) : sm_wp X 299 0 [some (.ref 81), some (.int (zI a)), none, none, none, none, none] [] (sM mo G I J) Q := by
  have hL := h.2.2.2.2
  have h6 := h.2.2.2.1
  have out : ∀ d k, k + d = ms → ∀ K, Fr I K → K 141 = I 141 → sm_wp X 299 7 [some (.ref 81), some (.int (zI a)), some (.int (enc (up (abF (I 81 15) (I 135) (I 136) (I 89) ms a) k none))), some (.int (zI (lst (I 81 15) (I 135) (I 136) ms a (up (abF (I 81 15) (I 135) (I 136) (I 89) ms a) k none)))), some (.int (zI k)), none, none] [] (sM mo G K J) Q := by
    intro d
    induction d with
    | zero =>
      intro k hk K f g1
      have : k = ms := by omega
      subst this
      rw [lp_299_7, if_pos (by rw [f.2.2.2.2 10 rfl, h.2.2.1, zI_le (by omega) (by omega)]; exact Nat.le_refl _)]
      have e := hQ K f g1
      unfold abs at e
      have e2 := abF_t (pr := I 81 15) (L := I 135) (W := I 136) (R := I 89) (ms := k) (a := a) (6 - k)
      rw [show k + (6 - k) = 6 by omega] at e2
      rw [e2] at e
      exact e
    | succ d ih =>
      intro k hk K f g1
      have hlt := abF_lt (pr := I 81 15) (L := I 135) (W := I 136) (R := I 89) (ms := ms) (a := a) k (by omega)
      have nx := ih (k + 1) (by omega)
      rw [up_s] at nx
      generalize up (abF (I 81 15) (I 135) (I 136) (I 89) ms a) k none = b at hlt nx ⊢
      obtain ⟨v1, v2⟩ := hdr_v (aM_f f h) ha (show k < 6 by omega)
      rw [lp_299_7, if_neg (by rw [f.2.2.2.2 10 rfl, h.2.2.1, zI_le (by omega) (by omega)]; omega)]
      refine ⟨v2, ?_⟩
      simp only [v1, f.2.2.2.2 15 rfl, f.1 135 rfl, show zI k + 1 = zI (k + 1) from zIr_add 1 k]
      by_cases g : adr (I 81 15) (I 135) ms a k = true
      · rw [if_pos g]
        have inn : ∀ e o, o + e = ms → ∀ K, Fr I K → K 141 = I 141 → sm_wp X 299 35 [some (.ref 81), some (.int (zI a)), some (.int (enc b)), some (.int (zI (lst (I 81 15) (I 135) (I 136) ms a b))), some (.int (zI k)), some (.int (zI (up (fun j acc => acc + (if adr (I 81 15) (I 135) ms a j = true then adD (I 135) (I 136) a k j else 0)) o 0))), some (.int (zI o))] [] (sM mo G K J) Q := by
          intro e
          induction e with
          | zero =>
            intro o ho K f g1
            have : o = ms := by omega
            subst this
            have es : up (fun j acc => acc + (if adr (I 81 15) (I 135) o a j = true then adD (I 135) (I 136) a k j else 0)) o 0 = asm (I 81 15) (I 135) (I 136) o a k := by
              rw [up_sm6 h6]
              · rfl
              · intro j hj
                rw [if_neg]
                unfold adr
                rw [decide_eq_false (by omega)]
                simp
            rw [es, lp_299_35, if_pos (by rw [f.2.2.2.2 10 rfl, h.2.2.1, zI_le (by omega) (by omega)]; exact Nat.le_refl _), show zI k + 1 = zI (k + 1) from zIr_add 1 k]
            unfold abF at nx
            rw [if_pos g] at nx
            have b1 := asm_le (pr := I 81 15) (W := I 136) (ms := o) (a := a) hL k
            cases b with
            | none =>
              rw [if_pos (by decide)]
              exact nx K f g1
            | some t =>
              obtain ⟨t1, t2⟩ := hlt t rfl
              have b2 := asm_le (pr := I 81 15) (W := I 136) (ms := o) (a := a) hL t
              simp only [enc_s, lst_s] at nx ⊢
              have z0 : ¬ zI t < 0 := by rw [zIr_lt (c := 0) (by decide) (by omega)]; exact Nat.not_lt_zero _
              rw [if_neg z0]
              simp only [zI_lt (show asm (I 81 15) (I 135) (I 136) o a t < 2147483648 by omega) (show asm (I 81 15) (I 135) (I 136) o a k < 2147483648 by omega), zI_eq (show asm (I 81 15) (I 135) (I 136) o a k < 2147483648 by omega) (show asm (I 81 15) (I 135) (I 136) o a t < 2147483648 by omega), zI_vp (show k < 2147483648 by omega), zI_vp (show t < 2147483648 by omega), zI_cn (show k < 2147483648 by omega), zI_cn (show t < 2147483648 by omega), f.1 89 rfl]
              by_cases c1 : asm (I 81 15) (I 135) (I 136) o a t < asm (I 81 15) (I 135) (I 136) o a k
              · rw [if_pos c1]
                rw [if_neg (by omega)] at nx
                exact nx K f g1
              · rw [if_neg c1]
                by_cases c2 : asm (I 81 15) (I 135) (I 136) o a k = asm (I 81 15) (I 135) (I 136) o a t
                · rw [if_neg (fun g => g c2)]
                  refine ⟨by omega, by omega, ?_⟩
                  by_cases c3 : I 89 k < I 89 t
                  · rw [if_pos c3]
                    rw [if_pos (Or.inr ⟨c2, c3⟩)] at nx
                    exact nx K f g1
                  · rw [if_neg c3]
                    rw [if_neg (fun g => by rcases g with g | g; omega; exact c3 g.2)] at nx
                    exact nx K f g1
                · rw [if_pos c2]
                  rw [if_pos (Or.inl (by omega))] at nx
                  exact nx K f g1
          | succ e ihe =>
            intro o ho K f g1
            obtain ⟨w1, w2⟩ := hdr_v (aM_f f h) ha (show o < 6 by omega)
            rw [lp_299_35, if_neg (by rw [f.2.2.2.2 10 rfl, h.2.2.1, zI_le (by omega) (by omega)]; omega)]
            refine ⟨w2, ?_⟩
            simp only [w1, f.2.2.2.2 15 rfl, f.1 135 rfl, show zI o + 1 = zI (o + 1) from zIr_add 1 o, Int32.add_zero]
            have nx2 := ihe (o + 1) (by omega)
            rw [up_s] at nx2
            by_cases g2 : adr (I 81 15) (I 135) ms a o = true
            · rw [if_neg (fun g => g g2)]
              rw [if_pos g2] at nx2
              have km : k < ms := by omega
              rw [show (6 : Int32) * zI a + zI k = zI (6 * a + k) by rw [show (6 : Int32) * zI a = zI (6 * a) from zIl_mul 6 a, zI_add], show (6 : Int32) * zI a + zI o = zI (6 * a + o) by rw [show (6 : Int32) * zI a = zI (6 * a) from zIl_mul 6 a, zI_add], hm_far (aM_f f h) ha km (by omega)]
              simp only [tl_some]
              rw [lp_299_74, zI_add, show zI o + 1 = zI (o + 1) from zIr_add 1 o, f.1 135 rfl, f.1 136 rfl]
              exact nx2 _ (Fr_w f rfl (by decide) (by decide) (by decide) _) (by rw [rw2_n _ _ _ _ (by decide)]; exact g1)
            · rw [if_pos g2]
              rw [if_neg g2] at nx2
              exact nx2 K f g1
        have e0 := inn ms 0 (by omega) K f g1
        exact e0
      · rw [if_neg g]
        unfold abF at nx
        rw [if_neg g] at nx
        exact nx K f g1
  rw [lp_299_0]
  exact out ms 0 (by omega) I (Fr_r I) rfl
theorem hc_add {n m : Nat} (hn : n ≤ 8) (hm : m ≤ 8) (A B : Nat → Int32) (K : Nat → Nat → Int32) (hA : ∀ i, i < 8 → K 76 i = A i) (hB : ∀ j, j < 8 → K 77 j = B j) (hT : ∀ i j, i ≤ n → j ≤ m → K 78 (9 * i + j) = zI (ed A B n m (n - i) (m - j))) : ∀ f k, k + f = 16 → ∀ i j r, i ≤ n → j ≤ m → sm_wp X 16 8 [some (.ref 71), some (.int (zI n)), some (.int (zI m)), some (.int (zI i)), some (.int (zI j)), some (.int (zI k)), none, none] [] (sM mo G (rw2 K 80 r) J) Q = Q none (sM mo G (rw2 K 80 (trc A B n m f i j r)) J) := by
  intro f
  induction f with
  | zero =>
    intro k hk i j r hi hj
    have : k = 16 := by omega
    subst this
    rw [lp_16_8, if_pos (by decide)]
    rfl
  | succ f ih =>
    intro k hk i j r hi hj
    rw [lp_16_8, if_neg (by rw [zIl_le (c := 16) (by decide) (by omega)]; show ¬ 16 ≤ k; omega)]
    by_cases h1 : i < n
    · by_cases h2 : j < m
      · have hi8 : i < 8 := by omega
        have hj8 : j < 8 := by omega
        have c1 : ¬ n ≤ i := by omega
        have c2 : ¬ 8 ≤ i := by omega
        have c3 : ¬ m ≤ j := by omega
        have w1 : i * 9 + j = 9 * i + j := by omega
        have w2 : (i + 1) * 9 + j = 9 * (i + 1) + j := by omega
        have y1 : 9 * i + j < 81 := by omega
        have y2 : 9 * (i + 1) + j < 81 := by omega
        have y3 : 9 * (i + 1) + j + 1 < 81 := by omega
        have t1 := hT i j hi hj
        have t2 := hT (i + 1) j (by omega) hj
        have t3 : K 78 (9 * (i + 1) + j + 1) = _ := hT (i + 1) (j + 1) (by omega) (by omega)
        have l1 := ed_le A B n m (n - i) (m - j)
        have l2 := ed_le A B n m (n - (i + 1)) (m - j)
        have l3 := ed_le A B n m (n - (i + 1)) (m - (j + 1))
        have n1 := ih (k + 1) (by omega) (i + 1) (j + 1)
        have n2 := ih (k + 1) (by omega) (i + 1) j
        have n3 := ih (k + 1) (by omega) i (j + 1)
        have z0 : (0 : Int32) = zI 0 := rfl
        simp (decide := true) only [rw2_a, rw2_n, ne_eq, not_false_eq_true, up2_rw, rw2_rw]
        simp (disch := first | omega | decide) only [zI_le, zIl_le, zIr_lt, zIr_add, zIr_mul, zIl_add, zI_add, zI_vp, zI_cn, zI_eq, c1, c2, c3, hi8, hj8, w1, w2, y1, y2, y3, t1, t2, t3, hA i hi8, hB j hj8, if_false, if_true, true_and]
        have ts := trc_s A B n m f i j r
        rw [if_pos (⟨h1, h2⟩ : i < n ∧ j < m)] at ts
        rw [ts]
        generalize ed A B n m (n - i) (m - j) = e1 at *
        generalize ed A B n m (n - (i + 1)) (m - j) = e2 at *
        generalize ed A B n m (n - (i + 1)) (m - (j + 1)) = e3 at *
        by_cases hc : A i = B j
        · simp only [hc, not_true_eq_false, if_false, if_true]
          by_cases q1 : e1 = e3 + 0
          · have q2 : e1 = 0 + e3 := by omega
            rw [if_neg (fun g => g q2), if_pos q1, n1 _ (by omega) (by omega)]
            rfl
          · have q2 : ¬ e1 = 0 + e3 := by omega
            rw [if_pos q2, if_neg q1]
            by_cases q3 : e1 = e2 + 1
            · have q4 : e1 = 1 + e2 := by omega
              rw [if_neg (fun g => g q4), if_pos q3, n2 _ (by omega) (by omega)]
            · have q4 : ¬ e1 = 1 + e2 := by omega
              rw [if_pos q4, if_neg q3, n3 _ (by omega) (by omega)]
        · simp only [hc, not_false_eq_true, if_false, if_true]
          by_cases q1 : e1 = e3 + 1
          · have q2 : e1 = 1 + e3 := by omega
            rw [if_neg (fun g => g q2), if_pos q1, n1 _ (by omega) (by omega)]
            rfl
          · have q2 : ¬ e1 = 1 + e3 := by omega
            rw [if_pos q2, if_neg q1]
            by_cases q3 : e1 = e2 + 1
            · have q4 : e1 = 1 + e2 := by omega
              rw [if_neg (fun g => g q4), if_pos q3, n2 _ (by omega) (by omega)]
            · have q4 : ¬ e1 = 1 + e2 := by omega
              rw [if_pos q4, if_neg q3, n3 _ (by omega) (by omega)]
      · rw [trc_e _ _ _ _ _ _ _ _ (fun g => h2 g.2), if_neg (by rw [zI_le (by omega) (by omega)]; omega), if_neg (by rw [zIl_le (c := 8) (by decide) (by omega)]; show ¬ 8 ≤ i; omega), if_pos (by rw [zI_le (by omega) (by omega)]; omega)]
    · rw [trc_e _ _ _ _ _ _ _ _ (fun g => h1 g.1), if_pos (by rw [zI_le (by omega) (by omega)]; omega)]
end O1
end
section
/-! What the base's words are held by: the reference; both whole. -/
def hldF (pr : Int32) (L W : Nat → Int32) (ms a t : Nat) (s : Nat) (r : Nat → Int32) : Nat → Int32 := if adr pr L ms a s = true then trc (adw W a t) (adw W a s) (adl L a t) (adl L a s) 16 0 0 r else r
def hld (pr : Int32) (L W : Nat → Int32) (ms a t : Nat) : Nat → Int32 := up (hldF pr L W ms a t) 6 (fun _ => 0)
def ndr (pr : Int32) (L : Nat → Int32) (ms a : Nat) : Nat := up (fun s n => if adr pr L ms a s = true then n + 1 else n) 6 0
theorem adr_lt {pr : Int32} {L : Nat → Int32} {ms a s : Nat} (h : adr pr L ms a s = true) : s < ms := by
  unfold adr at h
  simp at h
  exact h.1.1
theorem adr_ge {pr : Int32} {L : Nat → Int32} {ms a s : Nat} (h : ms ≤ s) : ¬ adr pr L ms a s = true := fun g => by have := adr_lt g; omega
theorem hldF_p {pr : Int32} {L W : Nat → Int32} {ms a t s : Nat} (r : Nat → Int32) (h : adr pr L ms a s = true) : hldF pr L W ms a t s r = trc (adw W a t) (adw W a s) (adl L a t) (adl L a s) 16 0 0 r := if_pos h
theorem hldF_n {pr : Int32} {L W : Nat → Int32} {ms a t s : Nat} (r : Nat → Int32) (h : ¬ adr pr L ms a s = true) : hldF pr L W ms a t s r = r := if_neg h
theorem hld_ag (pr : Int32) (L W : Nat → Int32) (ms a t : Nat) {r q : Nat → Int32} (h : ∀ k, k < 8 → r k = q k) : ∀ n, n ≤ 6 → ∀ k, k < 8 → up (hldF pr L W ms a t) n r k = up (hldF pr L W ms a t) n q k := by
  refine up_rel (fun _ (u v : Nat → Int32) => ∀ k, k < 8 → u k = v k) h ?_
  intro k hk u v ih j hj
  unfold hldF
  by_cases g : adr pr L ms a k = true
  · rw [if_pos g, if_pos g]
    exact trc_ag _ _ _ _ _ _ _ _ _ ih j hj
  · rw [if_neg g, if_neg g]
    exact ih j hj
theorem hld_t {pr : Int32} {L W : Nat → Int32} {ms a t : Nat} (r : Nat → Int32) (k : Nat) : up (hldF pr L W ms a t) (ms + k) r = up (hldF pr L W ms a t) ms r := by
  induction k with
  | zero => rfl
  | succ k ih =>
    rw [← Nat.add_assoc, up_s, ih]
    unfold hldF
    rw [if_neg (adr_ge (by omega))]
theorem ndr_t {pr : Int32} {L : Nat → Int32} {ms a : Nat} (k : Nat) : up (fun s n => if adr pr L ms a s = true then n + 1 else n) (ms + k) 0 = up (fun s n => if adr pr L ms a s = true then n + 1 else n) ms 0 := by
  induction k with
  | zero => rfl
  | succ k ih =>
    rw [← Nat.add_assoc, up_s, ih, if_neg (adr_ge (by omega))]
section O1
variable {X : (Nat → Int32) × Nat} {mo : Bool} {G : Nat × Nat} {J : Nat → Nat → Int64} {Q : Option Value → sm_M → Prop}
theorem hm_tr {u v n m s : Nat} (A B : Nat → Int32) (K : Nat → Nat → Int32) (x : Int32) (hu : u < 48) (hv : v < 48) (hs : s < 48) (hn : K 135 u = zI n) (hm : K 135 v = zI m) (n8 : n ≤ 8) (m8 : m ≤ 8) (hA : ∀ i, i < 8 → K 136 (8 * u + i) = A i) (hB : ∀ i, i < 8 → K 136 (8 * v + i) = B i) (hT : ∀ i j, i ≤ n → j ≤ m → K 139 (9 * i + j) = zI (ed A B n m (n - i) (m - j))) : ∀ d i j f r, (n - i) + (m - j) ≤ d → d ≤ f → i ≤ n → j ≤ m → sm_wp X 303 92 [some (.ref 81), some (.int x), none, some (.int (zI u)), some (.int (zI s)), some (.int (zI v)), none, some (.int (zI i)), some (.int (zI j)), none] [] (sM mo G (rw2 K 140 r) J) Q = sm_wp X 303 36 [some (.ref 81), some (.int x), none, some (.int (zI u)), some (.int (zI (s + 1))), none, none, none, none, none] [] (sM mo G (rw2 K 140 (trc A B n m f i j r)) J) Q := by
  intro d
  induction d with
  | zero =>
    intro i j f r h1 h2 h3 h4
    have c1 : n ≤ i := by omega
    rw [trc_e _ _ _ _ _ _ _ _ (by omega), lp_303_92]
    simp (decide := true) only [rw2_n, ne_eq, not_false_eq_true]
    simp (disch := first | omega | decide) only [hn, zI_vp, zI_cn, zI_le, zIr_add, hu, c1, true_and, if_true]
  | succ d ih =>
    intro i j f r h1 h2 h3 h4
    rw [lp_303_92]
    simp (decide := true) only [rw2_a, rw2_n, ne_eq, not_false_eq_true, up2_rw, rw2_rw]
    by_cases c1 : n ≤ i
    · rw [trc_e _ _ _ _ _ _ _ _ (by omega)]
      simp (disch := first | omega | decide) only [hn, zI_vp, zI_cn, zI_le, zIr_add, hu, c1, true_and, if_true]
    · have y0 : 9 * i + j < 81 := by omega
      have y9 : 9 * i + j + 9 < 81 := by omega
      have t1 := hT i j h3 h4
      have t2 : K 139 (9 * i + j + 9) = _ := (congrArg _ (show 9 * i + j + 9 = 9 * (i + 1) + j by omega)).trans (hT (i + 1) j (by omega) h4)
      have l1 := ed_le A B n m (n - i) (m - j)
      have l2 := ed_le A B n m (n - (i + 1)) (m - j)
      by_cases c2 : m ≤ j
      · have ej : m - j = 0 := by omega
        rw [ej, ed_x] at t1 t2
        have q1 : n - i = n - (i + 1) + 1 := by omega
        have nx := ih (i + 1) j f r (by omega) (by omega) (by omega) h4
        rw [trc_e _ _ _ _ _ _ _ _ (by omega)] at nx
        rw [trc_e _ _ _ _ _ _ _ _ (by omega)]
        simp (disch := first | omega | decide) only [hn, hm, zI_vp, zI_cn, zI_le, zIr_add, zIl_mul, zI_add, zI_eq, hu, hv, c1, c2, y0, y9, t1, t2, true_and, if_true, if_false, ← q1, not_true_eq_false]
        exact nx
      · obtain ⟨f, rfl⟩ : ∃ g, f = g + 1 := ⟨f - 1, by omega⟩
        have t3 : K 139 (9 * i + j + 10) = _ := (congrArg _ (show 9 * i + j + 10 = 9 * (i + 1) + (j + 1) by omega)).trans (hT (i + 1) (j + 1) (by omega) (by omega))
        have l3 := ed_le A B n m (n - (i + 1)) (m - (j + 1))
        have n1 := ih (i + 1) (j + 1) f
        have n2 := ih (i + 1) j f
        have n3 := ih i (j + 1) f
        have y10 : 9 * i + j + 10 < 81 := by omega
        have z1 : 8 * u + i < 384 := by omega
        have z2 : 8 * v + j < 384 := by omega
        have i8 : i < 8 := by omega
        have j8 : j < 8 := by omega
        have ts := trc_s A B n m f i j r
        rw [if_pos (⟨by omega, by omega⟩ : i < n ∧ j < m)] at ts
        rw [ts]
        simp (disch := first | omega | decide) only [hn, hm, zI_vp, zI_cn, zI_le, zIr_add, zIl_mul, zI_add, zI_eq, hu, hv, c1, c2, y0, y9, y10, z1, z2, i8, t1, t2, t3, hA i i8, hB j j8, true_and, if_true, if_false]
        generalize ed A B n m (n - i) (m - j) = e1 at *
        generalize ed A B n m (n - (i + 1)) (m - j) = e2 at *
        generalize ed A B n m (n - (i + 1)) (m - (j + 1)) = e3 at *
        by_cases hc : A i = B j
        · simp only [hc, not_true_eq_false, if_false, if_true]
          by_cases q1 : e1 = e3 + 0
          · rw [if_neg (fun g => g q1), if_pos q1, n1 _ (by omega) (by omega) (by omega) (by omega)]
          · rw [if_pos q1, if_neg q1]
            by_cases q3 : e1 = e2 + 1
            · rw [if_neg (fun g => g q3), if_pos q3, n2 _ (by omega) (by omega) (by omega) (by omega)]
            · rw [if_pos q3, if_neg q3, n3 _ (by omega) (by omega) (by omega) (by omega)]
        · simp only [hc, not_false_eq_true, if_false, if_true]
          by_cases q1 : e1 = e3 + 1
          · rw [if_neg (fun g => g q1), if_pos q1, n1 _ (by omega) (by omega) (by omega) (by omega)]
          · rw [if_pos q1, if_neg q1]
            by_cases q3 : e1 = e2 + 1
            · rw [if_neg (fun g => g q3), if_pos q3, n2 _ (by omega) (by omega) (by omega) (by omega)]
            · rw [if_pos q3, if_neg q3, n3 _ (by omega) (by omega) (by omega) (by omega)]
theorem hc_pd {r ms a : Nat} {K : Nat → Nat → Int32} (h : aC r ms K) (ha : a < r) : sm_wp X 17 0 [some (.ref 71), some (.int (zI a)), none, none] [] (sM mo G K J) Q = Q (some (.int (zI (ndr (K 1 2) (K 72) ms a)))) (sM mo G K J) := by
  rw [lp_17_0]
  refine (cnt (fun k (n : Nat) => sm_wp X 17 4 [some (.ref 71), some (.int (zI a)), some (.int (zI n)), some (.int (zI k))] [] (sM mo G K J) Q) (fun s n => if adr (K 1 2) (K 72) ms a s = true then n + 1 else n) 0 6 ?_).trans ?_
  · intro k hk
    have c6 : ¬ (6 : Int32) ≤ zI k := by rw [zIl_le (c := 6) (by decide) (by omega)]; show ¬ 6 ≤ k; omega
    rw [lp_17_4, if_neg c6]
    simp only [hpd_v h ha hk, show zI k + 1 = zI (k + 1) from zIr_add 1 k, show ∀ n : Nat, zI n + 1 = zI (n + 1) from fun n => zIr_add 1 n]
    by_cases g : adr (K 1 2) (K 72) ms a k = true
    · rw [if_neg (fun e => e g), if_pos g]
    · rw [if_pos g, if_neg g]
  · rw [lp_17_4, if_pos (by decide)]
    rfl
theorem hc_held {r ms a : Nat} {I : Nat → Nat → Int32} {b : Int32} {t : Nat} (h : aC r ms I) (ha : a < r) (hb : (b = zI t ∧ t < ms) ∨ ∀ s, ¬ adr (I 1 2) (I 72) ms a s = true) (hQ : ∀ K, Fr I K → (∀ k, k < 8 → K 80 k = hld (I 1 2) (I 72) (I 73) ms a t k) → Q none (sM mo G K J)) : sm_wp X 15 0 [some (.ref 71), some (.int (zI a)), some (.int b), none] [] (sM mo G I J) Q := by
  have l2 : ∀ d k, k + d = 6 → ∀ K, Fr I K → (∀ j, j < 8 → K 80 j = up (hldF (I 1 2) (I 72) (I 73) ms a t) k (fun _ => 0) j) → sm_wp X 15 23 [some (.ref 71), some (.int (zI a)), some (.int b), some (.int (zI k))] [] (sM mo G K J) Q := by
    intro d
    induction d with
    | zero =>
      intro k hk K f hs
      have : k = 6 := by omega
      subst this
      rw [lp_15_23, if_pos (by decide)]
      exact hQ K f hs
    | succ d ih =>
      intro k hk K f hs
      have c6 : ¬ (6 : Int32) ≤ zI k := by rw [zIl_le (c := 6) (by decide) (by omega)]; show ¬ 6 ≤ k; omega
      rw [lp_15_23, if_neg c6]
      simp only [hpd_v (aC_f f h) ha (show k < 6 by omega), f.1 1 rfl, f.1 72 rfl]
      have nx := ih (k + 1) (by omega)
      rw [up_s] at nx
      by_cases g : adr (I 1 2) (I 72) ms a k = true
      · rw [if_neg (fun e => e g)]
        rcases hb with ⟨rfl, ht⟩ | hb
        · have km := adr_lt g
          rw [hc_steps (aC_f f h) ha ht km]
          simp only [tl_some]
          have f2 := Fr_t f (stC_f (I := K) (6 * a + t) (6 * a + k) (adl (K 72) a t) (adl (K 72) a k))
          have h2 := aC_f f2 h
          rw [lp_15_45, dl_v _ h2.1 h2.2.1 h2.2.2.1 h2.2.2.2.1 ha ht, dl_v _ h2.1 h2.2.1 h2.2.2.1 h2.2.2.2.1 ha km, f2.1 72 rfl]
          obtain ⟨w, hw, e⟩ := h.2.2.2.2 (6 * a + t)
          obtain ⟨v, hv, e2⟩ := h.2.2.2.2 (6 * a + k)
          have e3 : adl (I 72) a t = w := by unfold adl; rw [e, zI_cn (by omega)]
          have e4 : adl (I 72) a k = v := by unfold adl; rw [e2, zI_cn (by omega)]
          have e5 : adl (K 72) a t = w := by rw [f.1 72 rfl]; exact e3
          have e6 : adl (K 72) a k = v := by rw [f.1 72 rfl]; exact e4
          rw [e, e2, lp_16_0, e5, e6]
          have r80 : stC K (6 * a + t) (6 * a + k) w v 80 = K 80 := by unfold stC; simp (decide := true) only [rw2_n, ne_eq, not_false_eq_true]
          have ad := hc_add (X := X) (mo := mo) (G := G) (J := J) (Q := fun v M => sm_wp X 15 62 [some (.ref 71), some (.int (zI a)), some (.int (zI t)), some (.int (zI k))] (v.toList ++ []) M Q) hw hv (adw (I 73) a t) (adw (I 73) a k) (stC K (6 * a + t) (6 * a + k) w v) (fun i hi => by
            unfold stC
            simp (decide := true) only [rw2_n, rw2_a, ne_eq, not_false_eq_true]
            unfold cpr
            rw [if_pos hi]
            unfold dr adw
            rw [f.1 73 rfl]) (fun i hi => by
            unfold stC
            simp (decide := true) only [rw2_n, rw2_a, ne_eq, not_false_eq_true]
            unfold cpr
            rw [if_pos hi]
            unfold dr adw
            rw [f.1 73 rfl]) (fun i j hi hj => by
            unfold stC
            rw [rw2_a, tb_at _ _ _ _ _ _ _ _ _ hi hj hv (Nat.zero_le _) (fun _ => Nat.zero_le _)]
            unfold dr
            rw [f.1 73 rfl]
            rfl) 16 0 rfl 0 0 (K 80) (Nat.zero_le _) (Nat.zero_le _)
          rw [← r80, rw2_self] at ad
          refine (show _ = _ from ad).mpr ?_
          simp only [tl_none]
          rw [lp_15_62, show zI k + 1 = zI (k + 1) from zIr_add 1 k]
          rw [e5, e6] at f2
          refine nx _ (Fr_w f2 rfl (by decide) (by decide) (by decide) _) ?_
          intro j hj
          rw [rw2_a, r80]
          rw [hldF_p _ g, e3, e4]
          exact trc_ag (adw (I 73) a t) (adw (I 73) a k) w v 16 0 0 (K 80) (up (hldF (I 1 2) (I 72) (I 73) ms a t) k fun _ => 0) hs j hj
        · exact absurd g (hb k)
      · rw [if_pos g, show zI k + 1 = zI (k + 1) from zIr_add 1 k]
        refine nx K f ?_
        rw [hldF_n _ g]
        exact hs
  have l1 : ∀ d k, k + d = 8 → ∀ K, Fr I K → (∀ s, s < k → K 80 s = 0) → sm_wp X 15 2 [some (.ref 71), some (.int (zI a)), some (.int b), some (.int (zI k))] [] (sM mo G K J) Q := by
    intro d
    induction d with
    | zero =>
      intro k hk K f hs
      have : k = 8 := by omega
      subst this
      rw [lp_15_2, if_pos (by decide)]
      exact l2 6 0 rfl K f (fun s h6 => by rw [hs s h6]; rfl)
    | succ d ih =>
      intro k hk K f hs
      have c6 : ¬ (8 : Int32) ≤ zI k := by rw [zIl_le (c := 8) (by decide) (by omega)]; show ¬ 8 ≤ k; omega
      rw [lp_15_2, if_neg c6, zI_vp (by omega), zI_cn (by omega), show zI k + 1 = zI (k + 1) from zIr_add 1 k]
      refine ⟨by omega, ih (k + 1) (by omega) _ (Fr_u f rfl (by decide) (by decide) (by decide) _ _) fun s h6 => ?_⟩
      rw [up2_ra, va_ap]
      split
      · rfl
      · exact hs s (by omega)
  rw [lp_15_0]
  exact l1 8 0 rfl I (Fr_r I) (fun s h => absurd h (Nat.not_lt_zero _))
end O1
end
section
/-! Open articles. -/
def opA (pr : Int32) (L W R : Nat → Int32) (ms a : Nat) : Bool := match abs pr L W R ms a with
  | none => true
  | some t => up (fun k (acc : Bool) => acc || decide (vf_Art_agreement (hld pr L W ms a t k) (zI (ndr pr L ms a)) = 0)) (adl L a t) false
theorem abs_lt {pr : Int32} {L W R : Nat → Int32} {ms a t : Nat} (h : abs pr L W R ms a = some t) : t < 6 ∧ adr pr L ms a t = true := abF_lt 6 (Nat.le_refl _) t h
theorem abs_no {pr : Int32} {L W R : Nat → Int32} {ms a : Nat} (h6 : ms ≤ 6) (h : abs pr L W R ms a = none) : ∀ s, ¬ adr pr L ms a s = true := by
  have e : ∀ k, k ≤ 6 → up (abF pr L W R ms a) k none = none → ∀ s, s < k → ¬ adr pr L ms a s = true := by
    refine up_ind (fun k (b : Option Nat) => b = none → ∀ s, s < k → ¬ adr pr L ms a s = true) (fun _ s h => absurd h (Nat.not_lt_zero _)) ?_
    intro k hk b ih hb s hs
    unfold abF at hb
    split at hb
    · cases b with
      | none => cases hb
      | some t =>
        simp only at hb
        split at hb <;> cases hb
    · rename_i hg
      by_cases e : s = k
      · subst e
        exact hg
      · exact ih hb s (by omega)
  intro s g
  have := adr_lt g
  exact e 6 (Nat.le_refl _) h s (by omega) g
theorem ndr_0 {pr : Int32} {L : Nat → Int32} {ms a : Nat} (h : ∀ s, ¬ adr pr L ms a s = true) : ndr pr L ms a = 0 := by
  unfold ndr
  refine up_ind (fun _ (n : Nat) => n = 0) rfl ?_ 6 (Nat.le_refl _)
  intro k hk n hn
  rw [if_neg (h k)]
  exact hn
theorem ndr_p {pr : Int32} {L : Nat → Int32} {ms a t : Nat} (ht : t < 6) (h : adr pr L ms a t = true) : 0 < ndr pr L ms a ∧ ndr pr L ms a ≤ 6 := by
  unfold ndr
  have e := up_ind (f := fun s n => if adr pr L ms a s = true then n + 1 else n) (a := 0) (N := 6) (fun k (n : Nat) => n ≤ k ∧ (t < k → 0 < n)) ⟨Nat.le_refl _, fun h => absurd h (Nat.not_lt_zero _)⟩ (by
    intro k hk n hn
    by_cases g : adr pr L ms a k = true
    · rw [if_pos g]
      exact ⟨by omega, fun _ => by omega⟩
    · rw [if_neg g]
      refine ⟨by omega, fun h1 => hn.2 ?_⟩
      by_cases e : t = k
      · subst e
        exact absurd h g
      · omega) 6 (Nat.le_refl _)
  exact ⟨e.2 ht, e.1⟩
section O1
variable {X : (Nat → Int32) × Nat} {mo : Bool} {G : Nat × Nat} {J : Nat → Nat → Int64} {Q : Option Value → sm_M → Prop}
theorem hm_lays {r ms a t : Nat} {I : Nat → Nat → Int32} (h : aM r ms I) (ha : a < r) (ht : t < ms) (hQ : ∀ K, Fr I K → K 141 = I 141 → (∀ k, k < 8 → K 140 k = hld (I 81 15) (I 135) (I 136) ms a t k) → K 81 88 = zI (ndr (I 81 15) (I 135) ms a) → Q none (sM mo G K J)) : sm_wp X 303 0 [some (.ref 81), some (.int (zI a)), some (.int (zI t)), none, none, none, none, none, none, none] [] (sM mo G I J) Q := by
  have h6 := h.2.2.2.1
  have hr := h.2.1
  have l2 : ∀ d k, k + d = ms → ∀ K, Fr I K → K 141 = I 141 → (∀ j, j < 8 → K 140 j = up (hldF (I 81 15) (I 135) (I 136) ms a t) k (fun _ => 0) j) → K 81 88 = zI (up (fun s n => if adr (I 81 15) (I 135) ms a s = true then n + 1 else n) k 0) → sm_wp X 303 36 [some (.ref 81), some (.int (zI a)), none, some (.int (zI (6 * a + t))), some (.int (zI k)), none, none, none, none, none] [] (sM mo G K J) Q := by
    intro d
    induction d with
    | zero =>
      intro k hk K f g1 hs h88
      have : k = ms := by omega
      subst this
      rw [lp_303_36, if_pos (by rw [f.2.2.2.2 10 rfl, h.2.2.1, zI_le (by omega) (by omega)]; exact Nat.le_refl _)]
      refine hQ K f g1 ?_ ?_
      · unfold hld
        rw [show 6 = k + (6 - k) by omega, hld_t]
        exact hs
      · unfold ndr
        rw [show 6 = k + (6 - k) by omega, ndr_t]
        exact h88
    | succ d ih =>
      intro k hk K f g1 hs h88
      obtain ⟨v1, v2⟩ := hdr_v (aM_f f h) ha (show k < 6 by omega)
      rw [lp_303_36, if_neg (by rw [f.2.2.2.2 10 rfl, h.2.2.1, zI_le (by omega) (by omega)]; omega)]
      refine ⟨v2, ?_⟩
      simp only [v1, f.2.2.2.2 15 rfl, f.1 135 rfl]
      have nx := ih (k + 1) (by omega)
      rw [up_s, up_s] at nx
      by_cases g : adr (I 81 15) (I 135) ms a k = true
      · rw [if_pos g, show (6 : Int32) * zI a + zI k = zI (6 * a + k) by rw [show (6 : Int32) * zI a = zI (6 * a) from zIl_mul 6 a, zI_add]]
        have f1 : Fr I (up2 K 81 88 (K 81 88 + 1)) := Fr_m f rfl _
        rw [hm_far (aM_f f1 h) ha ht (by omega)]
        simp only [tl_some]
        rw [lp_303_84, f1.1 135 rfl, f1.1 136 rfl]
        generalize hK1 : rw2 (up2 K 81 88 (K 81 88 + 1)) 139 (tb (adw (I 136) a t) (adw (I 136) a k) (adl (I 135) a t) (adl (I 135) a k) (up2 K 81 88 (K 81 88 + 1) 139) 0 0) = K1
        have f2 : Fr I K1 := by rw [← hK1]; exact Fr_w f1 rfl (by decide) (by decide) (by decide) _
        have r140 : K1 140 = K 140 := by rw [← hK1]; simp (decide := true) only [rw2_n, up2_rn, ne_eq, not_false_eq_true]
        have r141 : K1 141 = K 141 := by rw [← hK1]; simp (decide := true) only [rw2_n, up2_rn, ne_eq, not_false_eq_true]
        have r88 : K1 81 88 = K 81 88 + 1 := by rw [← hK1]; simp (decide := true) only [rw2_n, up2_ra, va_ap, ne_eq, not_false_eq_true, if_true]
        have r139 : K1 139 = tb (adw (I 136) a t) (adw (I 136) a k) (adl (I 135) a t) (adl (I 135) a k) (up2 K 81 88 (K 81 88 + 1) 139) 0 0 := by rw [← hK1, rw2_a]
        obtain ⟨w, hw, e⟩ := h.2.2.2.2 (6 * a + t)
        obtain ⟨v, hv, e2⟩ := h.2.2.2.2 (6 * a + k)
        have e3 : adl (I 135) a t = w := by unfold adl; rw [e, zI_cn (by omega)]
        have e4 : adl (I 135) a k = v := by unfold adl; rw [e2, zI_cn (by omega)]
        have tr := hm_tr (X := X) (mo := mo) (G := G) (J := J) (Q := Q) (u := 6 * a + t) (v := 6 * a + k) (s := k) (n := w) (m := v) (adw (I 136) a t) (adw (I 136) a k) K1 (zI a) (by omega) (by omega) (by omega) (by rw [f2.1 135 rfl]; exact e) (by rw [f2.1 135 rfl]; exact e2) hw hv (fun i hi => by rw [f2.1 136 rfl]; rfl) (fun i hi => by rw [f2.1 136 rfl]; rfl) (fun i j hi hj => by rw [r139, e3, e4, tb_at _ _ _ _ _ _ _ _ _ hi hj hv (Nat.zero_le _) (fun _ => Nat.zero_le _)]) 16 0 0 16 (K1 140) (by omega) (Nat.le_refl _) (Nat.zero_le _) (Nat.zero_le _)
        rw [rw2_self] at tr
        refine (show _ = _ from tr).mpr ?_
        refine nx _ (Fr_w f2 rfl (by decide) (by decide) (by decide) _) (by rw [rw2_n _ _ _ _ (by decide), r141]; exact g1) ?_ ?_
        · intro j hj
          rw [rw2_a, r140, hldF_p _ g, e3, e4]
          exact trc_ag (adw (I 136) a t) (adw (I 136) a k) w v 16 0 0 (K 140) (up (hldF (I 81 15) (I 135) (I 136) ms a t) k fun _ => 0) hs j hj
        · rw [rw2_n _ _ _ _ (by decide), r88, h88, if_pos g]
          exact zIr_add 1 _
      · rw [if_neg g, show zI k + 1 = zI (k + 1) from zIr_add 1 k]
        rw [hldF_n _ g, if_neg g] at nx
        exact nx K f g1 hs h88
  have l1 : ∀ d k, k + d = 8 → ∀ K, Fr I K → K 141 = I 141 → (∀ s, s < k → K 140 s = 0) → K 81 88 = 0 → sm_wp X 303 7 [some (.ref 81), some (.int (zI a)), some (.int (zI t)), some (.int (zI k)), none, none, none, none, none, none] [] (sM mo G K J) Q := by
    intro d
    induction d with
    | zero =>
      intro k hk K f g1 hs h88
      have : k = 8 := by omega
      subst this
      rw [lp_303_7, if_pos (by decide), show (6 : Int32) * zI a + zI t = zI (6 * a + t) by rw [show (6 : Int32) * zI a = zI (6 * a) from zIl_mul 6 a, zI_add]]
      exact l2 ms 0 (by omega) K f g1 (fun s h6 => by rw [hs s h6]; rfl) (by rw [h88]; rfl)
    | succ d ih =>
      intro k hk K f g1 hs h88
      have c6 : ¬ (8 : Int32) ≤ zI k := by rw [zIl_le (c := 8) (by decide) (by omega)]; show ¬ 8 ≤ k; omega
      rw [lp_303_7, if_neg c6, zI_vp (by omega), zI_cn (by omega), show zI k + 1 = zI (k + 1) from zIr_add 1 k]
      refine ⟨by omega, ih (k + 1) (by omega) _ (Fr_u f rfl (by decide) (by decide) (by decide) _ _) (by rw [up2_rn _ _ _ _ _ (by decide)]; exact g1) (fun s h6 => ?_) (by rw [up2_rn _ _ _ _ _ (by decide)]; exact h88)⟩
      rw [up2_ra, va_ap]
      split
      · rfl
      · exact hs s (by omega)
  rw [lp_303_0]
  exact l1 8 0 rfl _ (Fr_m (Fr_r I) rfl _) (by rw [up2_rn _ _ _ _ _ (by decide)]) (fun s h => absurd h (Nat.not_lt_zero _)) (by rw [up2_ra, va_ap, if_pos rfl])
theorem or_up (g : Nat → Bool) (n : Nat) : ∀ k, k ≤ n → g k = true → k < n → up (fun k (acc : Bool) => acc || g k) n false = true := by
  intro k hk hg hn
  have e := up_ind (f := fun k (acc : Bool) => acc || g k) (a := false) (N := n) (fun m (b : Bool) => k < m → b = true) (fun h => absurd h (Nat.not_lt_zero _)) (fun m hm b ih h => by
    by_cases e : k = m
    · subst e
      rw [hg, Bool.or_true]
    · rw [ih (by omega), Bool.true_or]) n (Nat.le_refl _)
  exact e hn
theorem hc_open {r ms a : Nat} {I : Nat → Nat → Int32} (h : aC r ms I) (hR : ∀ j, ∃ w, w ≤ 99 ∧ I 10 j = zI w) (ha : a < r) (hQ : ∀ K, Fr I K → Q (some (.int (if opA (I 1 2) (I 72) (I 73) (I 10) ms a = true then 1 else 0))) (sM mo G K J)) : sm_wp X 14 0 [some (.ref 71), some (.int (zI a)), none, none, none, none] [] (sM mo G I J) Q := by
  rw [lp_14_0]
  refine hc_base h hR ha ?_
  intro K1 f1
  simp only [tl_some]
  rw [lp_14_5]
  have h1 := aC_f f1 h
  cases hb : abs (I 1 2) (I 72) (I 73) (I 10) ms a with
  | none =>
    have hno := abs_no h.2.2.2.1 hb
    refine hc_held (t := 0) h1 ha (Or.inr (by rw [f1.1 1 rfl, f1.1 72 rfl]; exact hno)) ?_
    intro K2 f2 _
    have f3 := Fr_t f1 f2
    simp only [tl_none]
    rw [lp_14_12, hc_pd (aC_f f3 h) ha]
    simp only [tl_some]
    have hd : vf_Art_draftLength K2 (zI a) (enc none) = 0 := by
      unfold vf_Art_draftLength
      have h3 := aC_f f3 h
      simp only [hArt_vp h3.1 h3.2.1, hState_vp h3.2.2.1 h3.2.2.2.1]
      have : ¬ sIn (enc none) ms := fun g => g.1 (by decide)
      simp only [eq_false this, if_false, ite_self]
    rw [lp_14_17, hd, f3.1 1 rfl, f3.1 72 rfl, ndr_0 hno, lp_14_29, if_pos (by decide), if_neg (by decide)]
    have e := hQ K2 f3
    have eo : opA (I 1 2) (I 72) (I 73) (I 10) ms a = true := by
      unfold opA
      rw [hb]
    rw [if_pos eo] at e
    exact e
  | some t =>
    obtain ⟨t6, tg⟩ := abs_lt hb
    have tm := adr_lt tg
    rw [enc_s]
    refine hc_held (t := t) h1 ha (Or.inl ⟨rfl, tm⟩) ?_
    intro K2 f2 hk
    have f3 := Fr_t f1 f2
    rw [f1.1 1 rfl, f1.1 72 rfl, f1.1 73 rfl] at hk
    simp only [tl_none]
    rw [lp_14_12, hc_pd (aC_f f3 h) ha]
    simp only [tl_some]
    have h3 := aC_f f3 h
    rw [lp_14_17, dl_v K2 h3.1 h3.2.1 h3.2.2.1 h3.2.2.2.1 ha tm, f3.1 1 rfl, f3.1 72 rfl]
    obtain ⟨w, hw, e⟩ := h.2.2.2.2 (6 * a + t)
    have e3 : adl (I 72) a t = w := by unfold adl; rw [e, zI_cn (by omega)]
    rw [e]
    obtain ⟨np, n6⟩ := ndr_p t6 tg
    have eo : opA (I 1 2) (I 72) (I 73) (I 10) ms a = up (fun k (acc : Bool) => acc || decide (vf_Art_agreement (hld (I 1 2) (I 72) (I 73) ms a t k) (zI (ndr (I 1 2) (I 72) ms a)) = 0)) w false := by
      unfold opA
      rw [hb]
      simp only [e3]
    have n0 : ¬ zI (ndr (I 1 2) (I 72) ms a) = 0 := by
      rw [show (0 : Int32) = zI 0 from rfl, zI_eq (by omega) (by omega)]
      omega
    have lp : ∀ d k, k + d = w → up (fun k (acc : Bool) => acc || decide (vf_Art_agreement (hld (I 1 2) (I 72) (I 73) ms a t k) (zI (ndr (I 1 2) (I 72) ms a)) = 0)) k false = false → sm_wp X 14 29 [some (.ref 71), none, none, some (.int (zI (ndr (I 1 2) (I 72) ms a))), some (.int (zI w)), some (.int (zI k))] [] (sM mo G K2 J) Q := by
      intro d
      induction d with
      | zero =>
        intro k hkd hf
        have : k = w := by omega
        subst this
        rw [lp_14_29, if_pos (by rw [zI_le (by omega) (by omega)]; exact Nat.le_refl _), if_pos n0]
        have e := hQ K2 f3
        rw [eo, hf] at e
        exact e
      | succ d ih =>
        intro k hkd hf
        rw [lp_14_29, if_neg (by rw [zI_le (by omega) (by omega)]; omega), if_neg (by rw [zIl_le (c := 8) (by decide) (by omega)]; show ¬ 8 ≤ k; omega), zI_vp (by omega), zI_cn (by omega), hk k (by omega), show zI k + 1 = zI (k + 1) from zIr_add 1 k]
        refine ⟨by omega, ?_⟩
        by_cases g : vf_Art_agreement (hld (I 1 2) (I 72) (I 73) ms a t k) (zI (ndr (I 1 2) (I 72) ms a)) = 0
        · rw [if_neg (fun e => e g)]
          have e := hQ K2 f3
          rw [eo, or_up (fun k => decide (vf_Art_agreement (hld (I 1 2) (I 72) (I 73) ms a t k) (zI (ndr (I 1 2) (I 72) ms a)) = 0)) w k (by omega) (decide_eq_true g) (by omega)] at e
          exact e
        · rw [if_pos g]
          refine ih (k + 1) (by omega) ?_
          rw [up_s, hf, Bool.false_or]
          exact decide_eq_false g
    exact lp w 0 (by omega) rfl
theorem hm_open {r ms a : Nat} {I : Nat → Nat → Int32} (h : aM r ms I) (ha : a < r) (hQ : ∀ K, Fr I K → K 141 = I 141 → Q (some (.int (if opA (I 81 15) (I 135) (I 136) (I 89) ms a = true then 1 else 0))) (sM mo G K J)) : sm_wp X 302 0 [some (.ref 81), some (.int (zI a)), none, none] [] (sM mo G I J) Q := by
  have hr := h.2.1
  rw [lp_302_0]
  refine hm_base h ha ?_
  intro K1 f1 g1
  simp only [tl_some]
  rw [lp_302_5]
  have h1 := aM_f f1 h
  cases hb : abs (I 81 15) (I 135) (I 136) (I 89) ms a with
  | none =>
    rw [if_neg (by decide)]
    have e := hQ K1 f1 g1
    have eo : opA (I 81 15) (I 135) (I 136) (I 89) ms a = true := by
      unfold opA
      rw [hb]
    rw [if_pos eo] at e
    exact e
  | some t =>
    obtain ⟨t6, tg⟩ := abs_lt hb
    have tm := adr_lt tg
    rw [enc_s, if_pos (by rw [zIl_le (c := 0) (by decide) (by omega)]; exact Nat.zero_le _)]
    refine hm_lays h1 ha tm ?_
    intro K2 f2 g2 hk h88
    have f3 := Fr_t f1 f2
    rw [f1.2.2.2.2 15 rfl, f1.1 135 rfl] at h88
    rw [f1.2.2.2.2 15 rfl, f1.1 135 rfl, f1.1 136 rfl] at hk
    simp only [tl_none]
    rw [lp_302_18]
    obtain ⟨w, hw, e⟩ := h.2.2.2.2 (6 * a + t)
    have e3 : adl (I 135) a t = w := by unfold adl; rw [e, zI_cn (by omega)]
    have eo : opA (I 81 15) (I 135) (I 136) (I 89) ms a = up (fun k (acc : Bool) => acc || decide (vf_Art_agreement (hld (I 81 15) (I 135) (I 136) ms a t k) (zI (ndr (I 81 15) (I 135) ms a)) = 0)) w false := by
      unfold opA
      rw [hb]
      simp only [e3]
    have lp : ∀ d k, k + d = w → up (fun k (acc : Bool) => acc || decide (vf_Art_agreement (hld (I 81 15) (I 135) (I 136) ms a t k) (zI (ndr (I 81 15) (I 135) ms a)) = 0)) k false = false → sm_wp X 302 20 [some (.ref 81), some (.int (zI a)), some (.int (zI t)), some (.int (zI k))] [] (sM mo G K2 J) Q := by
      intro d
      induction d with
      | zero =>
        intro k hkd hf
        have : k = w := by omega
        subst this
        rw [lp_302_20, show (6 : Int32) * zI a + zI t = zI (6 * a + t) by rw [show (6 : Int32) * zI a = zI (6 * a) from zIl_mul 6 a, zI_add], zI_vp (by omega), zI_cn (by omega), f3.1 135 rfl, e, if_pos (by rw [zI_le (by omega) (by omega)]; exact Nat.le_refl _)]
        have e := hQ K2 f3 (g2.trans g1)
        rw [eo, hf] at e
        exact ⟨by omega, e⟩
      | succ d ih =>
        intro k hkd hf
        have gr : vf_Model_gradeOf K2 (zI k) = vf_Art_agreement (hld (I 81 15) (I 135) (I 136) ms a t k) (zI (ndr (I 81 15) (I 135) ms a)) := by
          unfold vf_Model_gradeOf vf_Art_agreement
          rw [zI_cn (by omega), hk k (by omega), h88]
        have gv : vc_Model_gradeOf K2 (zI k) := by
          unfold vc_Model_gradeOf
          rw [zI_vp (by omega)]
          exact ⟨by omega, fun _ => by omega⟩
        rw [lp_302_20, show (6 : Int32) * zI a + zI t = zI (6 * a + t) by rw [show (6 : Int32) * zI a = zI (6 * a) from zIl_mul 6 a, zI_add], zI_vp (by omega), zI_cn (by omega), f3.1 135 rfl, e, if_neg (by rw [zI_le (by omega) (by omega)]; omega), gr, show zI k + 1 = zI (k + 1) from zIr_add 1 k]
        refine ⟨by omega, gv, ?_⟩
        by_cases g : vf_Art_agreement (hld (I 81 15) (I 135) (I 136) ms a t k) (zI (ndr (I 81 15) (I 135) ms a)) = 0
        · rw [if_neg (fun e => e g)]
          have e := hQ K2 f3 (g2.trans g1)
          rw [eo, or_up (fun k => decide (vf_Art_agreement (hld (I 81 15) (I 135) (I 136) ms a t k) (zI (ndr (I 81 15) (I 135) ms a)) = 0)) w k (by omega) (decide_eq_true g) (by omega)] at e
          exact e
        · rw [if_pos g]
          refine ih (k + 1) (by omega) ?_
          rw [up_s, hf, Bool.false_or]
          exact decide_eq_false g
    exact lp w 0 (by omega) rfl
end O1
end
section
/-! Open through others; the calls distance, laid, word. -/
def hgA (hg : Nat → Nat → Bool) (r k : Nat) (o : Nat → Bool) : Bool := up (fun on (acc : Bool) => acc || (hg k on && o on)) r false
def hgS (hg : Nat → Nat → Bool) (r k : Nat) (o : Nat → Bool) : Nat → Bool := fun j => if j = k then (o k || hgA hg r k o) else o j
def hgR (hg : Nat → Nat → Bool) (r : Nat) (_ : Nat) (o : Nat → Bool) : Nat → Bool := up (hgS hg r) r o
def hgO (hg : Nat → Nat → Bool) (r : Nat) (o : Nat → Bool) : Nat → Bool := up (hgR hg r) 8 o
theorem or_ex (g : Nat → Bool) (n : Nat) : up (fun k (acc : Bool) => acc || g k) n false = true ↔ ∃ k, k < n ∧ g k = true := by
  induction n with
  | zero => rw [up_0]; constructor
            · intro h; cases h
            · rintro ⟨k, hk, -⟩; omega
  | succ n ih =>
    rw [up_s, Bool.or_eq_true, ih]
    constructor
    · rintro (⟨k, hk, h⟩ | h)
      · exact ⟨k, by omega, h⟩
      · exact ⟨n, by omega, h⟩
    · rintro ⟨k, hk, h⟩
      by_cases e : k = n
      · subst e
        exact Or.inr h
      · exact Or.inl ⟨k, by omega, h⟩
section O1
variable {X : (Nat → Int32) × Nat} {mo : Bool} {G : Nat × Nat} {J : Nat → Nat → Int64} {Q : Option Value → sm_M → Prop}
theorem hc_isOpen {r ms a : Nat} {I : Nat → Nat → Int32} (h : aC r ms I) (hR : ∀ j, ∃ w, w ≤ 99 ∧ I 10 j = zI w) (hH : ∀ a b, r ≤ b → bt (I 74 a) b = false) (ha : a < r) (hQ : ∀ K, Fr I K → Q (some (.int (if hgO (fun k on => bt (I 74 k) on) r (fun k => opA (I 1 2) (I 72) (I 73) (I 10) ms k) a = true then 1 else 0))) (sM mo G K J)) : sm_wp X 13 0 [some (.ref 71), some (.int (zI a)), none, none, none] [] (sM mo G I J) Q := by
  have hr := h.2.1
  -- the rounds
  have l3 : ∀ d n, n + d = 8 → ∀ K, Fr I K → ∀ x : Int32, (∀ j, bt x j = (decide (j < r) && up (hgR (fun k on => bt (I 74 k) on) r) n (fun k => opA (I 1 2) (I 72) (I 73) (I 10) ms k) j)) → sm_wp X 13 34 [some (.ref 71), some (.int (zI a)), some (.int x), some (.int (zI n)), none] [] (sM mo G K J) Q := by
    intro d
    induction d with
    | zero =>
      intro n hn K f x hx
      have : n = 8 := by omega
      subst this
      rw [lp_13_34, if_pos (by decide)]
      have e := hQ K f
      have hv : bi (hBit x (zI a)) = if hgO (fun k on => bt (I 74 k) on) r (fun k => opA (I 1 2) (I 72) (I 73) (I 10) ms k) a = true then 1 else 0 := by
        unfold bi
        simp only [hb_bt x a (by omega), hx a, decide_eq_true ha, Bool.true_and]
        rfl
      rw [hv]
      exact e
    | succ d ih =>
      intro n hn K f x hx
      have c8 : ¬ (8 : Int32) ≤ zI n := by rw [zIl_le (c := 8) (by decide) (by omega)]; show ¬ 8 ≤ n; omega
      rw [lp_13_34, if_neg c8]
      have nx := ih (n + 1) (by omega) K f
      rw [up_s] at nx
      generalize up (hgR (fun k on => bt (I 74 k) on) r) n (fun k => opA (I 1 2) (I 72) (I 73) (I 10) ms k) = o at hx nx
      have inn : ∀ e k, k + e = r → ∀ y : Int32, (∀ j, bt y j = (decide (j < r) && up (hgS (fun k on => bt (I 74 k) on) r) k o j)) → sm_wp X 13 43 [some (.ref 71), some (.int (zI a)), some (.int y), some (.int (zI n)), some (.int (zI k))] [] (sM mo G K J) Q := by
        intro e
        induction e with
        | zero =>
          intro k hk y hy
          have : k = r := by omega
          subst this
          rw [lp_13_43, if_pos (by rw [f.1 71 rfl, h.1, zI_le (by omega) (by omega)]; exact Nat.le_refl _), show zI n + 1 = zI (n + 1) from zIr_add 1 n]
          exact nx y hy
        | succ e ihe =>
          intro k hk y hy
          rw [lp_13_43, if_neg (by rw [f.1 71 rfl, h.1, zI_le (by omega) (by omega)]; omega), if_neg (by rw [zIl_le (c := 8) (by decide) (by omega)]; show ¬ 8 ≤ k; omega), zI_vp (by omega), zI_cn (by omega), f.1 74 rfl, show zI k + 1 = zI (k + 1) from zIr_add 1 k]
          refine ⟨by omega, ?_⟩
          have nx2 := ihe (k + 1) (by omega)
          rw [up_s] at nx2
          generalize up (hgS (fun k on => bt (I 74 k) on) r) k o = p at hy nx2
          have hand : (I 74 k &&& y = 0) ↔ ¬ hgA (fun k on => bt (I 74 k) on) r k p = true := by
            unfold hgA
            rw [or_ex, bt_eq0]
            constructor
            · rintro h1 ⟨j, hj, h2⟩
              have := h1 j (by omega)
              rw [bt_and, hy j, decide_eq_true hj, Bool.true_and, h2] at this
              cases this
            · intro h1 j hj
              rw [bt_and, hy j]
              by_cases g : j < r
              · rw [decide_eq_true g, Bool.true_and]
                cases hh : (bt (I 74 k) j && p j) with
                | false => rfl
                | true => exact absurd ⟨j, g, hh⟩ h1
              · rw [decide_eq_false g]
                simp
          by_cases g : I 74 k &&& y = 0
          · rw [if_pos g]
            have g2 := hand.mp g
            refine nx2 y ?_
            intro j
            rw [hy j]
            unfold hgS
            by_cases e : j = k
            · subst e
              rw [if_pos rfl, Bool.eq_false_iff.mpr g2, Bool.or_false]
            · rw [if_neg e]
          · rw [if_neg g]
            have g2 : hgA (fun k on => bt (I 74 k) on) r k p = true := by
              cases hh : hgA (fun k on => bt (I 74 k) on) r k p with
              | true => rfl
              | false => exact absurd (hand.mpr (by rw [hh]; decide)) g
            refine nx2 _ ?_
            intro j
            have e1 := bt_b1' k j (by omega)
            unfold b1 at e1
            rw [bt_or, hy j, e1]
            unfold hgS
            by_cases e : j = k
            · subst e
              rw [if_pos rfl, g2, Bool.or_true]
              simp
              omega
            · rw [if_neg e, decide_eq_false e, Bool.or_false]
      exact inn r 0 (by omega) x hx
  -- each by itself
  have l1 : ∀ d k, k + d = r → ∀ K, Fr I K → ∀ x : Int32, (∀ j, bt x j = (decide (j < k) && opA (I 1 2) (I 72) (I 73) (I 10) ms j)) → sm_wp X 13 4 [some (.ref 71), some (.int (zI a)), some (.int x), some (.int (zI k)), none] [] (sM mo G K J) Q := by
    intro d
    induction d with
    | zero =>
      intro k hk K f x hx
      have : k = r := by omega
      subst this
      rw [lp_13_4, if_pos (by rw [f.1 71 rfl, h.1, zI_le (by omega) (by omega)]; exact Nat.le_refl _)]
      exact l3 8 0 rfl K f x hx
    | succ d ih =>
      intro k hk K f x hx
      rw [lp_13_4, if_neg (by rw [f.1 71 rfl, h.1, zI_le (by omega) (by omega)]; omega)]
      refine hc_open (aC_f f h) (by rw [f.1 10 rfl]; exact hR) (by omega) ?_
      intro K2 f2
      have f3 := Fr_t f f2
      simp only [tl_some]
      rw [f.1 1 rfl, f.1 72 rfl, f.1 73 rfl, f.1 10 rfl, lp_13_17, show zI k + 1 = zI (k + 1) from zIr_add 1 k]
      cases hh : opA (I 1 2) (I 72) (I 73) (I 10) ms k with
      | false =>
        rw [if_pos (by decide)]
        refine ih (k + 1) (by omega) K2 f3 x ?_
        intro j
        rw [hx j]
        by_cases e : j = k
        · subst e
          rw [hh, Bool.and_false, Bool.and_false]
        · have e2 : decide (j < k) = decide (j < k + 1) := decide_eq_decide.mpr (by omega)
          rw [e2]
      | true =>
        rw [if_neg (by decide)]
        refine ih (k + 1) (by omega) K2 f3 _ ?_
        intro j
        have e1 := bt_b1' k j (by omega)
        unfold b1 at e1
        rw [bt_or, hx j, e1]
        by_cases e : j = k
        · subst e
          rw [hh]
          simp
        · have e2 : decide (j < k) = decide (j < k + 1) := decide_eq_decide.mpr (by omega)
          rw [e2, decide_eq_false e, Bool.or_false]
  rw [lp_13_0]
  exact l1 r 0 (by omega) I (Fr_r I) 0 (fun j => by rw [bt_0, decide_eq_false (Nat.not_lt_zero _), Bool.false_and])
theorem b01 (b : Bool) : sm_zb (if b = true then 1 else 0) := by
  cases b with
  | true => exact Or.inr rfl
  | false => exact Or.inl rfl
theorem hm_isOpen {r ms a : Nat} {I : Nat → Nat → Int32} (h : aM r ms I) (ha : a < r) (hQ : ∀ K, Fr I K → Q (some (.int (if hgO (fun k on => decide (¬ I 137 (8 * k + on) = 0)) r (fun k => opA (I 81 15) (I 135) (I 136) (I 89) ms k) a = true then 1 else 0))) (sM mo G K J)) : sm_wp X 301 0 [some (.ref 81), some (.int (zI a)), none, none, none] [] (sM mo G I J) Q := by
  have hr := h.2.1
  have l3 : ∀ d n, n + d = 8 → ∀ K, Fr I K → (∀ j, j < r → K 141 j = if up (hgR (fun k on => decide (¬ I 137 (8 * k + on) = 0)) r) n (fun k => opA (I 81 15) (I 135) (I 136) (I 89) ms k) j = true then 1 else 0) → sm_wp X 301 29 [some (.ref 81), some (.int (zI a)), some (.int (zI n)), none, none] [] (sM mo G K J) Q := by
    intro d
    induction d with
    | zero =>
      intro n hn K f hx
      have : n = 8 := by omega
      subst this
      rw [lp_301_29, if_pos (by decide), zI_vp (by omega), zI_cn (by omega), hx a ha]
      exact ⟨by omega, b01 _, hQ K f⟩
    | succ d ih =>
      intro n hn K f hx
      have c8 : ¬ (8 : Int32) ≤ zI n := by rw [zIl_le (c := 8) (by decide) (by omega)]; show ¬ 8 ≤ n; omega
      rw [lp_301_29, if_neg c8]
      have nx := ih (n + 1) (by omega)
      rw [up_s] at nx
      generalize up (hgR (fun k on => decide (¬ I 137 (8 * k + on) = 0)) r) n (fun k => opA (I 81 15) (I 135) (I 136) (I 89) ms k) = o at hx nx
      have inn : ∀ e k, k + e = r → ∀ K, Fr I K → (∀ j, j < r → K 141 j = if up (hgS (fun k on => decide (¬ I 137 (8 * k + on) = 0)) r) k o j = true then 1 else 0) → sm_wp X 301 37 [some (.ref 81), some (.int (zI a)), some (.int (zI n)), some (.int (zI k)), none] [] (sM mo G K J) Q := by
        intro e
        induction e with
        | zero =>
          intro k hk K f hy
          have : k = r := by omega
          subst this
          rw [lp_301_37, if_pos (by rw [f.2.2.2.2 81 rfl, h.1, zI_le (by omega) (by omega)]; exact Nat.le_refl _), show zI n + 1 = zI (n + 1) from zIr_add 1 n]
          exact nx K f hy
        | succ e ihe =>
          intro k hk K f hy
          rw [lp_301_37, if_neg (by rw [f.2.2.2.2 81 rfl, h.1, zI_le (by omega) (by omega)]; omega)]
          have nx2 := ihe (k + 1) (by omega)
          rw [up_s] at nx2
          generalize up (hgS (fun k on => decide (¬ I 137 (8 * k + on) = 0)) r) k o = p at hy nx2
          have in2 : ∀ e2 q, q + e2 = r → ∀ K, Fr I K → (∀ j, j < r → K 141 j = if (if j = k then (p k || up (fun on (acc : Bool) => acc || (decide (¬ I 137 (8 * k + on) = 0) && p on)) q false) else p j) = true then 1 else 0) → sm_wp X 301 48 [some (.ref 81), some (.int (zI a)), some (.int (zI n)), some (.int (zI k)), some (.int (zI q))] [] (sM mo G K J) Q := by
            intro e2
            induction e2 with
            | zero =>
              intro q hq K f hz
              have : q = r := by omega
              subst this
              rw [lp_301_48, if_pos (by rw [f.2.2.2.2 81 rfl, h.1, zI_le (by omega) (by omega)]; exact Nat.le_refl _), show zI k + 1 = zI (k + 1) from zIr_add 1 k]
              exact nx2 K f hz
            | succ e2 ih2 =>
              intro q hq K f hz
              have y64 : 8 * k + q < 64 := by omega
              rw [lp_301_48, if_neg (by rw [f.2.2.2.2 81 rfl, h.1, zI_le (by omega) (by omega)]; omega), zI_vp (by omega), zI_cn (by omega), show zI q + 1 = zI (q + 1) from zIr_add 1 q, show (8 : Int32) * zI k + zI q = zI (8 * k + q) by rw [show (8 : Int32) * zI k = zI (8 * k) from zIl_mul 8 k, zI_add], zI_vp (by omega), zI_cn (by omega), zI_vp (by omega), zI_cn (by omega), nar_0, nar_1, f.1 137 rfl]
              refine ⟨by omega, ?_⟩
              have zk := hz k (by omega)
              rw [if_pos rfl] at zk
              have zq := hz q (by omega)
              have nx3 : ∀ (v : Int32), (v = if (p k || (up (fun on (acc : Bool) => acc || (decide (¬ I 137 (8 * k + on) = 0) && p on)) q false || (decide (¬ I 137 (8 * k + q) = 0) && p q))) = true then 1 else 0) → sm_wp X 301 48 [some (.ref 81), some (.int (zI a)), some (.int (zI n)), some (.int (zI k)), some (.int (zI (q + 1)))] [] (sM mo G (up2 K 141 k v) J) Q := by
                intro v hv
                refine ih2 (q + 1) (by omega) _ (Fr_u f rfl (by decide) (by decide) (by decide) _ _) ?_
                intro j hj
                rw [up2_ra, va_ap, up_s]
                by_cases e : j = k
                · rw [if_pos e, if_pos e]
                  exact hv
                · rw [if_neg e, if_neg e]
                  have := hz j hj
                  rw [if_neg e] at this
                  exact this
              generalize up (fun on (acc : Bool) => acc || (decide (¬ I 137 (8 * k + on) = 0) && p on)) q false = w at *
              cases hkk : (p k || w) with
              | true =>
                rw [hkk] at zk
                rw [zk, if_pos (by decide)]
                apply nx3
                rw [← Bool.or_assoc, hkk, Bool.true_or]
                rfl
              | false =>
                rw [hkk] at zk
                rw [zk, if_neg (by decide)]
                refine ⟨y64, ?_⟩
                by_cases g : I 137 (8 * k + q) = 0
                · rw [if_pos g]
                  apply nx3
                  rw [← Bool.or_assoc, hkk, g]
                  rfl
                · rw [if_neg g]
                  refine ⟨by omega, ?_⟩
                  have pq : K 141 q = if p q = true then 1 else 0 := by
                    by_cases e : q = k
                    · subst e
                      rw [zk]
                      rw [(Bool.or_eq_false_iff.mp hkk).1]
                    · rw [if_neg e] at zq
                      exact zq
                  rw [pq]
                  cases hp : p q with
                  | true =>
                    rw [if_neg (by decide)]
                    apply nx3
                    rw [hp, decide_eq_true g, Bool.and_true, Bool.or_true, Bool.or_true]
                    rfl
                  | false =>
                    rw [if_pos (by decide)]
                    apply nx3
                    rw [hp, Bool.and_false, Bool.or_false, hkk]
                    rfl
          refine in2 r 0 (by omega) K f ?_
          intro j hj
          rw [hy j hj, up_0, Bool.or_false]
          by_cases e : j = k
          · rw [if_pos e, e]
          · rw [if_neg e]
      exact inn r 0 (by omega) K f hx
  have l1 : ∀ d k, k + d = r → ∀ K, Fr I K → (∀ j, j < k → K 141 j = if opA (I 81 15) (I 135) (I 136) (I 89) ms j = true then 1 else 0) → sm_wp X 301 2 [some (.ref 81), some (.int (zI a)), some (.int (zI k)), none, none] [] (sM mo G K J) Q := by
    intro d
    induction d with
    | zero =>
      intro k hk K f hx
      have : k = r := by omega
      subst this
      rw [lp_301_2, if_pos (by rw [f.2.2.2.2 81 rfl, h.1, zI_le (by omega) (by omega)]; exact Nat.le_refl _)]
      exact l3 8 0 rfl K f hx
    | succ d ih =>
      intro k hk K f hx
      rw [lp_301_2, if_neg (by rw [f.2.2.2.2 81 rfl, h.1, zI_le (by omega) (by omega)]; omega)]
      refine hm_open (aM_f f h) (by omega) ?_
      intro K2 f2 g2
      have f3 := Fr_t f f2
      simp only [tl_some]
      rw [f.2.2.2.2 15 rfl, f.1 135 rfl, f.1 136 rfl, f.1 89 rfl, lp_301_20, zI_vp (by omega), zI_cn (by omega), show zI k + 1 = zI (k + 1) from zIr_add 1 k]
      refine ⟨by omega, ih (k + 1) (by omega) _ (Fr_u f3 rfl (by decide) (by decide) (by decide) _ _) ?_⟩
      intro j hj
      rw [up2_ra, va_ap, g2]
      by_cases e : j = k
      · rw [if_pos e, e]
        cases opA (I 81 15) (I 135) (I 136) (I 89) ms k with
        | true => exact nar_1
        | false => exact nar_0
      · rw [if_neg e]
        exact hx j (by omega)
  rw [lp_301_0]
  exact l1 r 0 (by omega) I (Fr_r I) (fun j hj => absurd hj (Nat.not_lt_zero _))
end O1
end
section
/-! The calls distance, laid, word. -/
theorem hgO_c {hg hh : Nat → Nat → Bool} {r : Nat} (h : ∀ k, k < r → ∀ on, on < r → hg k on = hh k on) (o : Nat → Bool) : hgO hg r o = hgO hh r o := by
  unfold hgO
  apply up_congr
  intro _ _ x
  unfold hgR
  apply up_congr
  intro k hk y
  unfold hgS hgA
  have : up (fun on (acc : Bool) => acc || (hg k on && y on)) r false = up (fun on (acc : Bool) => acc || (hh k on && y on)) r false := by
    apply up_congr
    intro on hon z
    rw [h k hk on hon]
  rw [this]
theorem inv_a {c : Nat} {mo : Bool} {G : Nat × Nat} {I : Nat → Nat → Int32} {J : Nat → Nat → Int64} (h : inv c mo G I J) : ∃ r ms, aC r ms I ∧ aM r ms I ∧ I 81 15 = I 1 2 ∧ I 135 = I 72 ∧ I 136 = I 73 ∧ I 89 = I 10 ∧ I 138 = I 75 ∧ (∀ j, ∃ w, w ≤ 99 ∧ I 10 j = zI w) ∧ (∀ a b, r ≤ b → bt (I 74 a) b = false) ∧ (∀ k, k < r → ∀ on, on < r → bt (I 74 k) on = decide (¬ I 137 (8 * k + on) = 0)) ∧ (∀ k, 6 ≤ k → bt (I 1 2) k = false) := by
  obtain ⟨n, m, t, p, q, r, ch, ln, ⟨hn, hn', h12, hm, hm', h6, hp, hpb, -⟩, ⟨e2, e4, e5, e6, e10, e11, e12, e13⟩, hV, hY, hG, hK, hP, hS, ⟨hr, hr', h8, a1, a2, a3, a4, a5, a6, a7⟩, -⟩ := h
  refine ⟨r, m, ⟨hr, h8, hm, h6, a4⟩, ⟨hr', h8, hm', h6, by rw [a1]; exact a4⟩, hp, a1, a2, e10, a3, hV.2.2.2.2.2.1, a7, fun k hk on hon => ?_, fun k hk => hpb k (by omega)⟩
  have h1 := a6 k (by omega) on (by omega)
  have h2 := a5 (8 * k + on)
  cases hb : bt (I 74 k) on with
  | true =>
    rw [h1.mp hb]
    decide
  | false =>
    rcases h2 with h2 | h2
    · rw [h2]; decide
    · rw [h1.mpr h2] at hb
      cases hb
section O2
variable {X : (Nat → Int32) × Nat} {c : Nat} {mo : Bool} {G : Nat × Nat} {I : Nat → Nat → Int32} {J : Nat → Nat → Int64}
theorem frm0 {K : Nat → Nat → Int32} (f : Fr I K) : Fr I (up2 K 81 2 0) := Fr_m f rfl 0
theorem op_distance (h : inv c mo G I J) (x y z : Int32) : Agr X 199 [some (.ref 0), some (.int x), some (.int y), some (.int z)] 296 [some (.ref 81), some (.int x), some (.int y), some (.int z)] (sM mo G I J) (Inv (c + 1)) := by
  have hv := inv_t 0 h
  obtain ⟨r, ms, hC, hM, e15, e135, e136, e89, e138, hR, hH, hHg, hpb⟩ := inv_a h
  unfold Agr
  have inval : ¬ (sIn x r ∧ sIn y ms ∧ sIn z ms) → Agr X 199 [some (.ref 0), some (.int x), some (.int y), some (.int z)] 296 [some (.ref 81), some (.int x), some (.int y), some (.int z)] (sM mo G I J) (Inv (c + 1)) := by
    intro g
    have m1 : ∀ Q : Option Value → sm_M → Prop, sm_wp X 296 0 [some (.ref 81), some (.int x), some (.int y), some (.int z)] [] (sM mo G I J) Q = Q (some (.int (-1))) (sM mo G (up2 I 81 2 0) J) := by
      intro Q
      rw [lp_296_0]
      simp only [mA0 hM.1 hM.2.1, mS0 hM.2.2.1 hM.2.2.2.1]
      by_cases a : sIn x r
      · by_cases b : sIn y ms
        · have d : ¬ sIn z ms := fun d => g ⟨a, b, d⟩
          simp only [eq_true a, eq_true b, eq_false d, not_true_eq_false, not_false_eq_true, if_true, if_false]
        · simp only [eq_true a, eq_false b, not_true_eq_false, not_false_eq_true, if_true, if_false]
      · simp only [eq_false a, not_false_eq_true, if_true]
    have dz : vf_Art_draftLength I x y = 0 ∨ vf_Art_draftLength I x z = 0 := by
      unfold vf_Art_draftLength
      simp only [hArt_vp hC.1 hC.2.1, hState_vp hC.2.2.1 hC.2.2.2.1]
      by_cases a : sIn x r
      · by_cases b : sIn y ms
        · have d : ¬ sIn z ms := fun d => g ⟨a, b, d⟩
          refine Or.inr ?_
          simp only [eq_true a, eq_false d, not_true_eq_false, if_false]
        · refine Or.inl ?_
          simp only [eq_true a, eq_false b, not_true_eq_false, if_false]
      · refine Or.inl ?_
        simp only [eq_false a, not_false_eq_true, if_true]
    unfold Agr
    rw [lp_199_0]
    by_cases d1 : vf_Art_draftLength I x y = 0
    · rw [if_pos d1, m1]
      exact ⟨rfl, hv⟩
    · rcases dz with d2 | d2
      · exact absurd d2 d1
      · rw [if_neg d1, if_neg (fun e => e d2), m1]
        exact ⟨rfl, hv⟩
  by_cases g : sIn x r ∧ sIn y ms ∧ sIn z ms
  · obtain ⟨a, ha, ha2, rfl⟩ := sIn_ex g.1
    obtain ⟨s, hs, hs2, rfl⟩ := sIn_ex g.2.1
    obtain ⟨o, ho, ho2, rfl⟩ := sIn_ex g.2.2
    have h6 := hM.2.2.2.1
    have hr8 := hM.2.1
    have c1 : 6 * a + s < 48 := by omega
    have c2 : 6 * a + o < 48 := by omega
    have mm : ∀ K, Fr I K → ∀ Q : Option Value → sm_M → Prop, (I 72 (6 * a + s) = 0 ∨ I 72 (6 * a + o) = 0 → Q (some (.int (-1))) (sM mo G (up2 K 81 2 0) J)) → (¬ I 72 (6 * a + s) = 0 → ¬ I 72 (6 * a + o) = 0 → ∀ L, Fr I L → Q (some (.int (zI (adD (I 72) (I 73) a s o)))) (sM mo G L J)) → sm_wp X 296 0 [some (.ref 81), some (.int (zI a)), some (.int (zI s)), some (.int (zI o))] [] (sM mo G K J) Q := by
      intro K f Q q1 q2
      have hMK := aM_f f hM
      have f0 := frm0 f
      rw [lp_296_0]
      simp only [mA0 hMK.1 hMK.2.1, mS0 hMK.2.2.1 hMK.2.2.2.1]
      simp (disch := first | omega | decide) only [zI_sIn, ha, hs, ho, not_true_eq_false, if_false, zIl_mul, zI_add, zI_vp, zI_cn, c1, c2, true_and, f.1 135 rfl, e135]
      by_cases z1 : I 72 (6 * a + s) = 0
      · rw [if_pos z1]
        exact q1 (Or.inl z1)
      · rw [if_neg z1]
        by_cases z2 : I 72 (6 * a + o) = 0
        · rw [if_neg (fun e => e z2)]
          exact q1 (Or.inr z2)
        · rw [if_pos z2, hm_far (aM_f f0 hM) ha hs ho]
          simp only [tl_some]
          rw [lp_296_75, f0.1 135 rfl, f0.1 136 rfl, e135, e136]
          exact q2 z1 z2 _ (Fr_w f0 rfl (by decide) (by decide) (by decide) _)
    rw [lp_199_0, dl_v I hC.1 hC.2.1 hC.2.2.1 hC.2.2.2.1 ha hs, dl_v I hC.1 hC.2.1 hC.2.2.1 hC.2.2.2.1 ha ho]
    by_cases z1 : I 72 (6 * a + s) = 0
    · rw [if_pos z1]
      exact mm I (Fr_r I) _ (fun _ => ⟨rfl, hv⟩) (fun n1 => absurd z1 n1)
    · rw [if_neg z1]
      by_cases z2 : I 72 (6 * a + o) = 0
      · rw [if_neg (fun e => e z2)]
        exact mm I (Fr_r I) _ (fun _ => ⟨rfl, hv⟩) (fun _ n2 => absurd z2 n2)
      · rw [if_pos z2, hc_steps hC ha hs ho]
        simp only [tl_some]
        rw [lp_199_36]
        refine mm _ (stC_f _ _ _ _) _ (fun e => ?_) (fun _ _ L f => ⟨rfl, inv_fr h f rfl rfl⟩)
        rcases e with e | e
        · exact absurd e z1
        · exact absurd e z2
  · exact inval g
theorem op_laid (h : inv c mo G I J) (x y : Int32) : Agr X 200 [some (.ref 0), some (.int x), some (.int y)] 298 [some (.ref 81), some (.int x), some (.int y), none, none, none] (sM mo G I J) (Inv (c + 1)) := by
  have hv := inv_t 0 h
  obtain ⟨r, ms, hC, hM, e15, e135, e136, e89, e138, hR, hH, hHg, hpb⟩ := inv_a h
  have h6 := hM.2.2.2.1
  have hr8 := hM.2.1
  unfold Agr
  by_cases g : sIn x r
  · obtain ⟨a, ha, ha2, rfl⟩ := sIn_ex g
    -- the reference, from any memory that the class leaves
    have mm : ∀ K, Fr I K → ∀ Q : Option Value → sm_M → Prop, vf_Model_isIn y 0 3 → (y = 0 → ∀ L, Fr I L → Q (some (.int (enc (abs (I 1 2) (I 72) (I 73) (I 10) ms a)))) (sM mo G L J)) → (y = 1 → ∀ L, Fr I L → Q (some (.int (match abs (I 1 2) (I 72) (I 73) (I 10) ms a with | none => 0 | some t => I 72 (6 * a + t)))) (sM mo G L J)) → (¬ y = 0 → ¬ y = 1 → ∀ L, Fr I L → sm_wp X 298 66 [some (.ref 81), some (.int (zI a)), some (.int y), some (.int (enc (abs (I 1 2) (I 72) (I 73) (I 10) ms a))), none, none] [.int (if hgO (fun k on => bt (I 74 k) on) r (fun k => opA (I 1 2) (I 72) (I 73) (I 10) ms k) a = true then 1 else 0)] (sM mo G L J) Q) → sm_wp X 298 0 [some (.ref 81), some (.int (zI a)), some (.int y), none, none, none] [] (sM mo G K J) Q := by
      intro K f Q hy q0 q1 q2
      have hMK := aM_f f hM
      have f0 := frm0 f
      rw [lp_298_0]
      simp only [mA0 hMK.1 hMK.2.1]
      rw [if_neg (fun e => e g), if_pos hy]
      refine hm_base (aM_f f0 hM) ha ?_
      intro K1 f1 _
      have f2 := Fr_t f0 f1
      rw [f0.2.2.2.2 15 rfl, f0.1 135 rfl, f0.1 136 rfl, f0.1 89 rfl, e15, e135, e136, e89]
      simp only [tl_some]
      rw [lp_298_29]
      by_cases y0 : y = 0
      · rw [if_neg (fun e => e y0)]
        exact q0 y0 K1 f2
      · rw [if_pos y0]
        by_cases y1 : y = 1
        · rw [if_neg (fun e => e y1)]
          have q := q1 y1 K1 f2
          cases hb : abs (I 1 2) (I 72) (I 73) (I 10) ms a with
          | none =>
            rw [if_neg (by decide)]
            rw [hb] at q
            exact q
          | some t =>
            have tm := adr_lt (abs_lt hb).2
            rw [enc_s, if_pos (by rw [zIl_le (c := 0) (by decide) (by omega)]; exact Nat.zero_le _), show (6 : Int32) * zI a + zI t = zI (6 * a + t) by rw [show (6 : Int32) * zI a = zI (6 * a) from zIl_mul 6 a, zI_add], zI_vp (by omega), zI_cn (by omega), f2.1 135 rfl, e135]
            rw [hb] at q
            exact ⟨by omega, q⟩
        · rw [if_pos y1]
          refine hm_isOpen (aM_f f2 hM) ha ?_
          intro K3 f3
          have f4 := Fr_t f2 f3
          simp only [tl_some]
          have eh : hgO (fun k on => decide (¬ K1 137 (8 * k + on) = 0)) r (fun k => opA (K1 81 15) (K1 135) (K1 136) (K1 89) ms k) = hgO (fun k on => bt (I 74 k) on) r (fun k => opA (I 1 2) (I 72) (I 73) (I 10) ms k) := by
            rw [f2.1 137 rfl, f2.2.2.2.2 15 rfl, f2.1 135 rfl, f2.1 136 rfl, f2.1 89 rfl, e15, e135, e136, e89]
            exact hgO_c (fun k hk on hon => (hHg k hk on hon).symm) _
          rw [eh]
          exact q2 y0 y1 K3 f4
    have pb : ∀ L, Fr I L → ∀ k, 6 ≤ k → bt (I 1 2 &&& (I 75 a ^^^ (-1))) k = false := by
      intro L _ k hk
      rw [bt_and, hpb k hk, Bool.false_and]
    rw [lp_200_0]
    simp only [hArt_vp hC.1 hC.2.1]
    rw [if_pos g]
    by_cases y0 : y = 0
    · subst y0
      rw [if_pos rfl]
      refine hc_base hC hR ha ?_
      intro K f
      simp only [tl_some]
      rw [lp_200_52]
      exact mm K f _ (by decide) (fun _ L fl => ⟨rfl, inv_fr h fl rfl rfl⟩) (fun e => absurd e (by decide)) (fun e => absurd rfl e)
    · rw [if_neg y0]
      by_cases y1 : y = 1
      · subst y1
        rw [if_pos rfl]
        refine hc_base hC hR ha ?_
        intro K f
        simp only [tl_some]
        have hCK := aC_f f hC
        have ed : vf_Art_draftLength K (zI a) (enc (abs (I 1 2) (I 72) (I 73) (I 10) ms a)) = (match abs (I 1 2) (I 72) (I 73) (I 10) ms a with | none => 0 | some t => I 72 (6 * a + t)) := by
          cases hb : abs (I 1 2) (I 72) (I 73) (I 10) ms a with
          | none =>
            unfold vf_Art_draftLength
            simp only [hArt_vp hCK.1 hCK.2.1, hState_vp hCK.2.2.1 hCK.2.2.2.1]
            have : ¬ sIn (enc none) ms := fun g => g.1 (by decide)
            simp only [eq_false this, if_false, ite_self]
          | some t =>
            rw [enc_s, dl_v K hCK.1 hCK.2.1 hCK.2.2.1 hCK.2.2.2.1 ha (adr_lt (abs_lt hb).2), f.1 72 rfl]
        rw [lp_200_66, ed]
        exact mm K f _ (by decide) (fun e => absurd e (by decide)) (fun _ L fl => ⟨rfl, inv_fr h fl rfl rfl⟩) (fun _ e => absurd rfl e)
      · rw [if_neg y1]
        by_cases y2 : y = 2
        · subst y2
          rw [if_pos rfl]
          refine hc_isOpen hC hR hH ha ?_
          intro K f
          simp only [tl_some]
          rw [lp_200_78]
          generalize hgO (fun k on => bt (I 74 k) on) r (fun k => opA (I 1 2) (I 72) (I 73) (I 10) ms k) a = b at mm ⊢
          cases b with
          | true =>
            rw [if_neg (by decide)]
            refine mm K f _ (by decide) (fun e => absurd e (by decide)) (fun e => absurd e (by decide)) (fun _ _ L fl => ?_)
            rw [lp_298_66, if_neg (fun e => e rfl), if_neg (by decide)]
            exact ⟨rfl, inv_fr h fl rfl rfl⟩
          | false =>
            rw [if_pos (by decide)]
            refine mm K f _ (by decide) (fun e => absurd e (by decide)) (fun e => absurd e (by decide)) (fun _ _ L fl => ?_)
            rw [lp_298_66, if_neg (fun e => e rfl), if_pos (by decide)]
            exact ⟨rfl, inv_fr h fl rfl rfl⟩
        · rw [if_neg y2]
          by_cases y3 : y = 3
          · subst y3
            rw [if_pos rfl]
            refine hc_isOpen hC hR hH ha ?_
            intro K f
            simp only [tl_some]
            have hCK := aC_f f hC
            rw [lp_200_95]
            simp only [hArt_vp hCK.1 hCK.2.1]
            obtain ⟨b1', b2, b3⟩ := bc_6 (pb K f)
            have a8 : a < 8 := by omega
            have fin : ∀ (b : Bool) L, Fr I L → ∀ Q : Option Value → sm_M → Prop, Q (some (.int (if b = true then 0 else if pc6 (I 1 2 &&& (I 75 a ^^^ (-1))) < 2 then 0 else zI (pc6 (I 1 2 &&& (I 75 a ^^^ (-1))))))) (sM mo G L J) → sm_wp X 298 66 [some (.ref 81), some (.int (zI a)), some (.int 3), some (.int (enc (abs (I 1 2) (I 72) (I 73) (I 10) ms a))), none, none] [.int (if b = true then 1 else 0)] (sM mo G L J) Q := by
              intro b L fl Q q
              rw [lp_298_66, if_pos (by decide), zI_vp ha2, zI_cn ha2, ct_Mbits, fl.2.2.2.2 15 rfl, fl.1 138 rfl, e15, e138, b2]
              simp only [tl_some]
              rw [lp_298_100]
              refine ⟨a8, ?_⟩
              cases b with
              | true =>
                rw [if_pos (by decide)]
                exact q
              | false =>
                rw [if_neg (by decide)]
                simp only [Bool.false_eq_true, if_false] at q
                by_cases c2 : pc6 (I 1 2 &&& (I 75 a ^^^ (-1))) < 2
                · rw [if_neg (by rw [zIl_le (c := 2) (by decide) (by omega)]; show ¬ 2 ≤ _; omega)]
                  rw [if_pos c2] at q
                  exact q
                · rw [if_pos (by rw [zIl_le (c := 2) (by decide) (by omega)]; show 2 ≤ _; omega)]
                  rw [if_neg c2] at q
                  exact q
            generalize hgO (fun k on => bt (I 74 k) on) r (fun k => opA (I 1 2) (I 72) (I 73) (I 10) ms k) a = b at mm ⊢
            cases b with
            | true =>
              rw [if_neg (by decide)]
              refine mm K f _ (by decide) (fun e => absurd e (by decide)) (fun e => absurd e (by decide)) (fun _ _ L fl => fin true L fl _ ⟨rfl, inv_fr h fl rfl rfl⟩)
            | false =>
              rw [if_pos (by decide), if_pos g, zI_vp ha2, zI_cn ha2, f.1 1 rfl, f.1 75 rfl, b1']
              refine ⟨a8, ?_⟩
              by_cases c2 : pc6 (I 1 2 &&& (I 75 a ^^^ (-1))) < 2
              · rw [if_pos (by rw [zIr_lt (c := 2) (by decide) (by omega)]; exact c2)]
                refine mm K f _ (by decide) (fun e => absurd e (by decide)) (fun e => absurd e (by decide)) (fun _ _ L fl => fin false L fl _ ⟨?_, inv_fr h fl rfl rfl⟩)
                simp only [Bool.false_eq_true, if_false, c2, if_true]
              · rw [if_neg (by rw [zIr_lt (c := 2) (by decide) (by omega)]; exact c2)]
                refine mm K f _ (by decide) (fun e => absurd e (by decide)) (fun e => absurd e (by decide)) (fun _ _ L fl => fin false L fl _ ⟨?_, inv_fr h fl rfl rfl⟩)
                simp only [Bool.false_eq_true, if_false, c2]
          · rw [if_neg y3, lp_298_0]
            simp only [mA0 hM.1 hM.2.1]
            have ny : ¬ vf_Model_isIn y 0 3 := by
              rintro ⟨n1, n2⟩
              obtain ⟨k, hk, rfl⟩ := zI_in (c := 3) (by decide) n1 n2
              match k, hk with
              | 0, _ => exact y0 rfl
              | 1, _ => exact y1 rfl
              | 2, _ => exact y2 rfl
              | 3, _ => exact y3 rfl
            rw [if_neg (fun e => e g), if_neg ny]
            exact ⟨trivial, hv⟩
  · rw [lp_200_0]
    simp only [hArt_vp hC.1 hC.2.1]
    rw [if_neg g, lp_298_0]
    simp only [mA0 hM.1 hM.2.1]
    rw [if_pos g]
    exact ⟨trivial, hv⟩
end O2
end
section
/-! The call word. -/
section O3
variable {X : (Nat → Int32) × Nat} {c : Nat} {mo : Bool} {G : Nat × Nat} {I : Nat → Nat → Int32} {J : Nat → Nat → Int64} {Q : Option Value → sm_M → Prop}
def wrdV (pr : Int32) (L W R : Nat → Int32) (ms a : Nat) (y z : Int32) : Int32 := match abs pr L W R ms a with
  | none => -1
  | some t => if sIn y (adl L a t) then (if z = 0 then W (8 * (6 * a + t) + y.toNatClampNeg) else if z = 1 then hld pr L W ms a t y.toNatClampNeg else if z = 2 then vf_Art_agreement (hld pr L W ms a t y.toNatClampNeg) (zI (ndr pr L ms a)) else -1) else -1
theorem hc_word {r ms a : Nat} (h : aC r ms I) (hR : ∀ j, ∃ w, w ≤ 99 ∧ I 10 j = zI w) (ha : a < r) (y z : Int32) (hQ : ∀ K, Fr I K → Q (some (.int (wrdV (I 1 2) (I 72) (I 73) (I 10) ms a y z))) (sM mo G K J)) : sm_wp X 20 0 [some (.ref 71), some (.int (zI a)), some (.int y), some (.int z), none] [] (sM mo G I J) Q := by
  have h8 := h.2.1
  have h6 := h.2.2.2.1
  rw [lp_20_0]
  refine hc_base h hR ha ?_
  intro K f
  simp only [tl_some]
  have hK := aC_f f h
  rw [lp_20_5]
  have q := hQ K f
  unfold wrdV at q
  cases hb : abs (I 1 2) (I 72) (I 73) (I 10) ms a with
  | none =>
    rw [hb] at q
    have e : vf_Art_draftLength K (zI a) (enc none) = 0 := by
      unfold vf_Art_draftLength
      simp only [hArt_vp hK.1 hK.2.1, hState_vp hK.2.2.1 hK.2.2.2.1]
      have : ¬ sIn (enc none) ms := fun g => g.1 (by decide)
      simp only [eq_false this, if_false, ite_self]
    by_cases y1 : y < 0
    · rw [if_pos y1]; exact q
    · by_cases y2 : 8 ≤ y
      · rw [if_neg y1, if_pos y2]; exact q
      · rw [if_neg y1, if_neg y2, e, if_neg y1]; exact q
  | some t =>
    rw [hb] at q
    simp only [] at q
    have tm := adr_lt (abs_lt hb).2
    obtain ⟨w, hw, e⟩ := h.2.2.2.2 (6 * a + t)
    have e3 : adl (I 72) a t = w := by unfold adl; rw [e, zI_cn (by omega)]
    rw [enc_s, dl_v K hK.1 hK.2.1 hK.2.2.1 hK.2.2.2.1 ha tm, f.1 72 rfl, e]
    rw [e3] at q
    by_cases g : sIn y w
    · obtain ⟨k, hk, hk2, rfl⟩ := sIn_ex g
      have k8 : k < 8 := by omega
      rw [if_neg g.1, if_neg (by rw [zIl_le (c := 8) (by decide) (by omega)]; show ¬ 8 ≤ k; omega), if_pos (by rw [zI_lt (by omega) (by omega)]; exact hk)]
      refine hc_held hK ha (Or.inl ⟨rfl, tm⟩) ?_
      intro L fl hl
      have f2 := Fr_t f fl
      have hL := aC_f f2 h
      rw [f.1 1 rfl, f.1 72 rfl, f.1 73 rfl] at hl
      simp only [tl_none]
      rw [lp_20_37, wa_v L (a := a) (s := t) (by omega) (by omega) k8, zI_vp hk2, zI_cn hk2, hl k k8]
      have q := hQ L f2
      unfold wrdV at q
      rw [hb] at q
      simp only [e3, eq_true g, if_true, zI_cn hk2] at q
      by_cases z0 : z = 0
      · rw [if_pos z0] at q ⊢
        unfold dr
        rw [f2.1 73 rfl]
        exact q
      · rw [if_neg z0] at q ⊢
        by_cases z1 : z = 1
        · rw [if_pos z1] at q ⊢
          exact ⟨k8, q⟩
        · rw [if_neg z1] at q ⊢
          by_cases z2 : z = 2
          · rw [if_pos z2] at q ⊢
            refine ⟨k8, ?_⟩
            rw [hc_pd hL ha]
            simp only [tl_some]
            rw [lp_20_91, f2.1 1 rfl, f2.1 72 rfl]
            exact q
          · rw [if_neg z2] at q ⊢
            exact q
    · rw [if_neg g] at q
      by_cases y1 : y < 0
      · rw [if_pos y1]; exact q
      · by_cases y2 : 8 ≤ y
        · rw [if_neg y1, if_pos y2]; exact q
        · rw [if_neg y1, if_neg y2, if_neg (fun y3 => g ⟨y1, Int32.not_le.mpr y3⟩)]; exact q
theorem hm_word {r ms a : Nat} (h : aM r ms I) (ha : a < r) (y z : Int32) (hQ : ∀ K, Fr I K → Q (some (.int (wrdV (I 81 15) (I 135) (I 136) (I 89) ms a y z))) (sM mo G K J)) : sm_wp X 305 0 [some (.ref 81), some (.int (zI a)), some (.int y), some (.int z), none] [] (sM mo G I J) Q := by
  have h8 := h.2.1
  have h6 := h.2.2.2.1
  have f0 : Fr I (up2 I 81 2 0) := frm0 (Fr_r I)
  rw [lp_305_0]
  simp only [mA0 h.1 h.2.1]
  rw [if_neg (fun e => e (by rw [zI_sIn (by omega) (by omega)]; exact ha))]
  by_cases iz : vf_Model_isIn z 0 2
  · rw [if_pos iz]
    have zz : z = 0 ∨ z = 1 ∨ z = 2 := by
      obtain ⟨k, hk, rfl⟩ := zI_in (c := 2) (by decide) iz.1 iz.2
      match k, hk with
      | 0, _ => exact Or.inl rfl
      | 1, _ => exact Or.inr (Or.inl rfl)
      | 2, _ => exact Or.inr (Or.inr rfl)
    refine hm_base (aM_f f0 h) ha ?_
    intro K1 f1 _
    have f2 := Fr_t f0 f1
    have h2 := aM_f f2 h
    rw [f0.2.2.2.2 15 rfl, f0.1 135 rfl, f0.1 136 rfl, f0.1 89 rfl]
    simp only [tl_some]
    rw [lp_305_29]
    have q := hQ K1 f2
    unfold wrdV at q
    cases hb : abs (I 81 15) (I 135) (I 136) (I 89) ms a with
    | none =>
      rw [hb] at q
      rw [if_pos (by decide)]
      exact q
    | some t =>
      rw [hb] at q
      simp only [] at q
      have tm := adr_lt (abs_lt hb).2
      obtain ⟨w, hw, e⟩ := h.2.2.2.2 (6 * a + t)
      have e3 : adl (I 135) a t = w := by unfold adl; rw [e, zI_cn (by omega)]
      rw [e3] at q
      rw [enc_s, if_neg (by rw [zIr_lt (c := 0) (by decide) (by omega)]; exact Nat.not_lt_zero _), show (6 : Int32) * zI a + zI t = zI (6 * a + t) by rw [show (6 : Int32) * zI a = zI (6 * a) from zIl_mul 6 a, zI_add], zI_vp (by omega), zI_cn (by omega), f2.1 135 rfl, e]
      by_cases g : sIn y w
      · obtain ⟨k, hk, hk2, rfl⟩ := sIn_ex g
        have k8 : k < 8 := by omega
        rw [if_neg g.1, if_pos (by rw [zI_lt (by omega) (by omega)]; exact hk)]
        refine ⟨by omega, ?_⟩
        refine hm_lays h2 ha tm ?_
        intro K2 f3 _ hl h88
        have f4 := Fr_t f2 f3
        rw [f2.2.2.2.2 15 rfl, f2.1 135 rfl] at h88
        rw [f2.2.2.2.2 15 rfl, f2.1 135 rfl, f2.1 136 rfl] at hl
        simp only [tl_none]
        have q := hQ K2 f4
        unfold wrdV at q
        rw [hb] at q
        simp only [e3, eq_true g, if_true, zI_cn hk2] at q
        have gr : vf_Model_gradeOf K2 (zI k) = vf_Art_agreement (hld (I 81 15) (I 135) (I 136) ms a t k) (zI (ndr (I 81 15) (I 135) ms a)) := by
          unfold vf_Model_gradeOf vf_Art_agreement
          rw [zI_cn (by omega), hl k (by omega), h88]
        have gv : vc_Model_gradeOf K2 (zI k) := by
          unfold vc_Model_gradeOf
          rw [zI_vp (by omega)]
          exact ⟨by omega, fun _ => by omega⟩
        rw [lp_305_65, gr, eq_true gv, zI_vp hk2, zI_cn hk2, hl k k8, show (8 : Int32) * ((6 : Int32) * zI a + zI t) + zI k = zI (8 * (6 * a + t) + k) by rw [show (6 : Int32) * zI a = zI (6 * a) from zIl_mul 6 a, zI_add, show (8 : Int32) * zI (6 * a + t) = zI (8 * (6 * a + t)) from zIl_mul 8 _, zI_add], zI_vp (by omega), zI_cn (by omega), f4.1 136 rfl]
        rcases zz with rfl | rfl | rfl
        · rw [if_neg (fun e => e rfl)]
          rw [if_pos rfl] at q
          exact ⟨by omega, q⟩
        · rw [if_pos (by decide), if_neg (fun e => e rfl)]
          rw [if_neg (by decide), if_pos rfl] at q
          exact ⟨k8, q⟩
        · rw [if_pos (by decide), if_pos (by decide)]
          rw [if_neg (by decide), if_neg (by decide), if_pos rfl] at q
          exact ⟨trivial, q⟩
      · rw [if_neg g] at q
        by_cases y1 : y < 0
        · rw [if_pos y1]; exact q
        · rw [if_neg y1, if_neg (fun y3 => g ⟨y1, Int32.not_le.mpr y3⟩)]; exact ⟨by omega, q⟩
  · rw [if_neg iz]
    have q := hQ _ f0
    have nz : ¬ z = 0 ∧ ¬ z = 1 ∧ ¬ z = 2 := by
      refine ⟨?_, ?_, ?_⟩ <;> (rintro rfl; exact iz (by decide))
    unfold wrdV at q
    cases hb : abs (I 81 15) (I 135) (I 136) (I 89) ms a with
    | none =>
      rw [hb] at q
      exact q
    | some t =>
      rw [hb] at q
      simp only [nz.1, nz.2.1, nz.2.2, if_false, ite_self] at q
      exact q
theorem op_word (h : inv c mo G I J) (x y z : Int32) : Agr X 201 [some (.ref 0), some (.int x), some (.int y), some (.int z)] 305 [some (.ref 81), some (.int x), some (.int y), some (.int z), none] (sM mo G I J) (Inv (c + 1)) := by
  have hv := inv_t 0 h
  obtain ⟨r, ms, hC, hM, e15, e135, e136, e89, e138, hR, hH, hHg, hpb⟩ := inv_a h
  unfold Agr
  rw [lp_201_0]
  simp only [hArt_vp hC.1 hC.2.1]
  by_cases g : sIn x r
  · obtain ⟨a, ha, ha2, rfl⟩ := sIn_ex g
    rw [if_pos g]
    refine hc_word hC hR ha y z ?_
    intro K f
    simp only [tl_some]
    rw [lp_201_23]
    refine hm_word (aM_f f hM) ha y z ?_
    intro L fl
    rw [f.2.2.2.2 15 rfl, f.1 135 rfl, f.1 136 rfl, f.1 89 rfl, e15, e135, e136, e89]
    exact ⟨rfl, inv_fr h (Fr_t f fl) rfl rfl⟩
  · rw [if_neg g, lp_305_0]
    simp only [mA0 hM.1 hM.2.1]
    rw [if_pos g]
    exact ⟨trivial, hv⟩
end O3
end
section
/-! Shares: the table is made at the first use. -/
section S0
variable {X : (Nat → Int32) × Nat} {mo : Bool} {G : Nat × Nat} {I : Nat → Nat → Int32} {J : Nat → Nat → Int64} {Q : Option Value → sm_M → Prop}
set_option maxRecDepth 100000 in
theorem bz_145_t : sm_wp X 145 19 [some (.ref 48), none, none, none] [] (sM true G I J) Q = sm_wp X 145 55 [some (.ref 48), none, none, none] [] (sM true G (up2 (up2 I 48 1 (I 1 4)) 48 2 0) J) Q :=
  (sm_blk X 145 19 (tt_lin 145 (by decide)) rfl rfl _ _ _ _).trans rfl
set_option maxRecDepth 100000 in
theorem bz_145_f : sm_wp X 145 19 [some (.ref 48), none, none, none] [] (sM false G I J) Q = sm_wp X 145 59 [some (.ref 48), some (.int 0), some (.int 1), none] [] (sM true G (up2 (up2 I 48 1 (I 1 4)) 48 2 0) J) Q :=
  (sm_blk X 145 19 (tt_lin 145 (by decide)) rfl rfl _ _ _ _).trans rfl
theorem sh_145_0 : sm_wp X 145 0 [some (.ref 48), none, none, none] [] (sM mo G I J) Q = if I 48 1 = I 1 4 then Q (some (.int (I 48 2))) (sM mo G I J) else sm_wp X 145 59 [some (.ref 48), some (.int 0), some (.int 1), none] [] (sM true G (up2 (up2 I 48 1 (I 1 4)) 48 2 0) J) Q := by
  by_cases h : I 48 1 = I 1 4
  · rw [if_pos h]
    cases mo
    · rw [bkf_145_0, if_neg (fun e => e h)]
      simp only [true_and]
    · rw [bk_145_0, if_neg (fun e => e h)]
      simp only [true_and]
  · rw [if_neg h]
    cases mo
    · rw [bkf_145_0, if_pos h, bz_145_f]
    · rw [bk_145_0, if_pos h, bz_145_t, bk_145_55]
end S0
end
section
/-! Shares: one land more in a row. -/
theorem zI_p1 (k : Nat) : zI (k + 1) + (-1) = zI k := by
  rw [← zI_add k 1, Int32.add_assoc, show zI 1 + (-1) = 0 by decide, Int32.add_zero]
theorem zI_sti {a b : Nat} (ha : a < 1073741824) (hb : b < 1073741824) : (zI a - zI b).toInt = (a : Int) - b := by
  rw [Int32.toInt_sub, zI_ti (by omega), zI_ti (by omega)]
  exact Int.bmod_eq_of_le (by omega) (by omega)
def nwF (M : Nat → Int32) (F wa wb at' : Nat) : Int32 :=
  if (if F + wa ≤ at' then M (at' - wa) else -1) ≤ (if M at' = -1 then -1 else M at' + zI wb) then (if M at' = -1 then -1 else M at' + zI wb) else (if F + wa ≤ at' then M (at' - wa) else -1)
def adR (M : Nat → Int32) (F E wa wb i : Nat) : Nat → Int32 := fun j => if F + i ≤ j ∧ j ≤ F + E then nwF M F wa wb j else M j
section S1
variable {X : (Nat → Int32) × Nat} {mo : Bool} {G : Nat × Nat} {I : Nat → Nat → Int32} {J : Nat → Nat → Int64} {Q : Option Value → sm_M → Prop}
theorem st_148 {F wa wb at' : Nat} (h1 : F ≤ at') (h2 : at' < 5955) (h3 : wa ≤ 99) : sm_wp X 148 21 [some (.ref 48), some (.int (zI F)), none, some (.int (zI wa)), some (.int (zI wb)), some (.int (zI at')), none, none] [] (sM true G I J) Q = sm_wp X 148 21 [some (.ref 48), some (.int (zI F)), none, some (.int (zI wa)), some (.int (zI wb)), some (.int (zI at' + (-1))), none, none] [] (sM true G (up2 I 143 at' (nwF (I 143) F wa wb at')) J) Q := by
  have a1 : zI at' - zI wa < zI F ↔ ¬ F + wa ≤ at' := by
    rw [Int32.lt_iff_toInt_lt, zI_sti (by omega) (by omega), zI_ti (by omega)]
    omega
  have s2 : ∀ s0 : Int32, sm_wp X 148 75 [some (.ref 48), some (.int (zI F)), none, some (.int (zI wa)), some (.int (zI wb)), some (.int (zI at')), some (.int (if I 143 at' = -1 then -1 else I 143 at' + zI wb)), none] [.int s0] (sM true G I J) Q = sm_wp X 148 21 [some (.ref 48), some (.int (zI F)), none, some (.int (zI wa)), some (.int (zI wb)), some (.int (zI at' + (-1))), none, none] [] (sM true G (up2 I 143 at' (if s0 ≤ (if I 143 at' = -1 then -1 else I 143 at' + zI wb) then (if I 143 at' = -1 then -1 else I 143 at' + zI wb) else s0)) J) Q := by
    intro s0
    rw [bk_148_75]
    by_cases g : s0 ≤ (if I 143 at' = -1 then -1 else I 143 at' + zI wb)
    · rw [if_pos g, if_pos g, bk_148_95, zI_vp (by omega), zI_cn (by omega), eq_true h2, true_and]
    · rw [if_neg g, if_neg g, bk_148_97, zI_vp (by omega), zI_cn (by omega), eq_true h2, true_and]
  have s1 : sm_wp X 148 74 [some (.ref 48), some (.int (zI F)), none, some (.int (zI wa)), some (.int (zI wb)), some (.int (zI at')), some (.int (if I 143 at' = -1 then -1 else I 143 at' + zI wb)), none] [] (sM true G I J) Q = sm_wp X 148 21 [some (.ref 48), some (.int (zI F)), none, some (.int (zI wa)), some (.int (zI wb)), some (.int (zI at' + (-1))), none, none] [] (sM true G (up2 I 143 at' (if (-1 : Int32) ≤ (if I 143 at' = -1 then -1 else I 143 at' + zI wb) then (if I 143 at' = -1 then -1 else I 143 at' + zI wb) else -1)) J) Q := by
    rw [bk_148_74]
    by_cases g : (-1 : Int32) ≤ (if I 143 at' = -1 then -1 else I 143 at' + zI wb)
    · rw [if_pos g, if_pos g, bk_148_95, zI_vp (by omega), zI_cn (by omega), eq_true h2, true_and]
    · rw [if_neg g, if_neg g, bk_148_97, zI_vp (by omega), zI_cn (by omega), eq_true h2, true_and]
  have nlt : ¬ zI at' < zI F := by rw [zI_lt (by omega) (by omega)]; omega
  unfold nwF
  by_cases g : F + wa ≤ at'
  · have g2 : ¬ zI at' - zI wa < zI F := fun e => a1.mp e g
    have e3 : zI at' - zI wa = zI (at' - wa) := zI_sub (by omega)
    rw [if_pos g, ← s2 (I 143 (at' - wa)), bk_148_21, if_neg nlt, zI_vp (by omega), zI_cn (by omega), eq_true h2, true_and]
    by_cases m : I 143 at' = -1
    · rw [if_neg (fun e => e m), if_pos m, bk_148_52, if_neg g2, e3, zI_vp (by omega), zI_cn (by omega), eq_true (by omega : at' - wa < 5955), true_and]
    · rw [if_pos m, if_neg m, bk_148_42, if_neg g2, e3, zI_vp (by omega), zI_cn (by omega), zI_vp (by omega), zI_cn (by omega), eq_true h2, true_and, eq_true (by omega : at' - wa < 5955), true_and]
  · have g2 : zI at' - zI wa < zI F := a1.mpr g
    rw [if_neg g, ← s1, bk_148_21, if_neg nlt, zI_vp (by omega), zI_cn (by omega), eq_true h2, true_and]
    by_cases m : I 143 at' = -1
    · rw [if_neg (fun e => e m), if_pos m, bk_148_52, if_pos g2]
    · rw [if_pos m, if_neg m, bk_148_42, if_pos g2, zI_vp (by omega), zI_cn (by omega), eq_true h2, true_and]
theorem lp_148 {F E wa wb : Nat} (h2 : F + E < 5955) (h3 : wa ≤ 99) : ∀ i, i ≤ E + 1 → sm_wp X 148 21 [some (.ref 48), some (.int (zI F)), none, some (.int (zI wa)), some (.int (zI wb)), some (.int (zI (F + i) + (-1))), none, none] [] (sM true G (rw2 I 143 (adR (I 143) F E wa wb i)) J) Q = Q none (sM true G (rw2 I 143 (adR (I 143) F E wa wb 0)) J) := by
  intro i
  induction i with
  | zero =>
    intro _
    have g : zI (F + 0) + (-1) < zI F := by
      cases F with
      | zero => decide
      | succ f =>
        rw [Nat.add_zero, zI_p1, zI_lt (by omega) (by omega)]
        omega
    rw [bk_148_21, if_pos g, bk_148_104, true_and]
  | succ i ih =>
    intro hi
    rw [← ih (by omega), show F + (i + 1) = (F + i) + 1 from rfl, zI_p1, st_148 (by omega) (by omega) h3]
    have e1 : nwF (rw2 I 143 (adR (I 143) F E wa wb (i + 1)) 143) F wa wb (F + i) = nwF (I 143) F wa wb (F + i) := by
      have e2 : ∀ j, j ≤ F + i → rw2 I 143 (adR (I 143) F E wa wb (i + 1)) 143 j = I 143 j := by
        intro j hj
        rw [rw2_a]
        unfold adR
        rw [if_neg (by omega)]
      unfold nwF
      rw [e2 (F + i) (Nat.le_refl _), e2 (F + i - wa) (by omega)]
    rw [e1, up2_rw, rw2_a, rw2_rw]
    have e3 : va_up (adR (I 143) F E wa wb (i + 1)) (F + i) (nwF (I 143) F wa wb (F + i)) = adR (I 143) F E wa wb i := by
      funext j
      rw [va_ap]
      unfold adR
      by_cases g : j = F + i
      · subst g
        rw [if_pos rfl, if_pos ⟨by omega, by omega⟩]
      · rw [if_neg g]
        by_cases g2 : F + i ≤ j ∧ j ≤ F + E
        · rw [if_pos g2, if_pos ⟨by omega, by omega⟩]
        · rw [if_neg g2, if_neg (by omega)]
    rw [e3]
theorem ct_148 {F E wa wb : Nat} (h2 : F + E < 5955) (h3 : wa ≤ 99) : sm_wp X 148 0 [some (.ref 48), some (.int (zI F)), some (.int (zI (F + E))), some (.int (zI wa)), some (.int (zI wb)), none, none, none] [] (sM true G I J) Q = Q none (sM true G (rw2 I 143 (adR (I 143) F E wa wb 0)) J) := by
  have e : adR (I 143) F E wa wb (E + 1) = I 143 := by
    funext j
    unfold adR
    rw [if_neg (by omega)]
  rw [← lp_148 (X := X) (G := G) (I := I) (J := J) (Q := Q) (wb := wb) h2 h3 (E + 1) (Nat.le_refl _), e, rw2_self, bk_148_0, if_neg (by rw [zIr_lt (c := 0) (by decide) (by omega)]; exact Nat.not_lt_zero _), if_neg (by rw [show Int32.ofNat 5955 = zI 5955 from rfl, zI_le (by omega) (by omega)]; omega), if_pos (by rw [zIl_le (c := 0) (by decide) (by omega)]; exact Nat.zero_le _), bk_148_18, show F + (E + 1) = (F + E) + 1 from rfl, zI_p1]
end S1
end
section
/-! Shares: what a row says. -/
theorem wA_s (W : Nat → Int32) (s : Nat) (A : Int32) (k : Nat) : wA W s A (k + 1) = if bt A k = true then wA W s A k + ww W s k else wA W s A k := rfl
theorem wA_p {W : Nat → Int32} {s : Nat} {A : Int32} {k : Nat} (h : bt A k = true) : wA W s A (k + 1) = wA W s A k + ww W s k := by rw [wA_s, if_pos h]
theorem wA_q {W : Nat → Int32} {s : Nat} {A : Int32} {k : Nat} (h : bt A k = false) : wA W s A (k + 1) = wA W s A k := by rw [wA_s, if_neg (by rw [h]; decide)]
theorem wA_c {W : Nat → Int32} {s : Nat} {A B : Int32} {k : Nat} (h : ∀ l, l < k → bt A l = bt B l) : wA W s A k = wA W s B k := by
  unfold wA
  apply up_congr
  intro l hl x
  rw [h l hl]
theorem wA_m {W : Nat → Int32} {s : Nat} {A B : Int32} {k : Nat} (h : ∀ l, l < k → bt A l = true → bt B l = true) : wA W s A k ≤ wA W s B k := by
  unfold wA
  refine up_rel (fun _ (x y : Nat) => x ≤ y) (Nat.le_refl _) ?_ k (Nat.le_refl _)
  intro l hl x y hxy
  by_cases g : bt A l = true
  · rw [if_pos g, if_pos (h l hl g)]
    exact Nat.add_le_add_right hxy _
  · rw [if_neg g]
    by_cases g2 : bt B l = true
    · rw [if_pos g2]; omega
    · rw [if_neg g2]; exact hxy
theorem wA_t {W : Nat → Int32} {s : Nat} {A : Int32} {n : Nat} (h : ∀ l, n ≤ l → bt A l = false) : ∀ k, wA W s A (n + k) = wA W s A n := by
  intro k
  induction k with
  | zero => rfl
  | succ k ih => rw [← Nat.add_assoc, wA_q (h _ (by omega)), ih]
theorem ww_le {W : Nat → Int32} (h : okW W) (s l : Nat) : ww W s l ≤ 99 := by
  obtain ⟨w, hw, e⟩ := h (12 * s + l)
  unfold ww
  rw [e, zI_cn (by omega)]
  exact hw
theorem wof_w {W : Nat → Int32} (h : okW W) {s l : Nat} (hs : s < 6) (hl : l < 12) : wof W (zI s) (zI l) = zI (ww W s l) := by
  obtain ⟨w, hw, e⟩ := h (12 * s + l)
  have e1 : (zI s * 12 + zI l : Int32) = zI (12 * s + l) := by
    rw [show zI s * 12 = zI (s * 12) from zIr_mul 12 s, zI_add, Nat.mul_comm]
  have g : ¬ (zI s < 0 ∨ 6 ≤ zI s ∨ zI l < 0 ∨ 12 ≤ zI l) := by
    rw [zIr_lt (c := 0) (by decide) (by omega), zIl_le (c := 6) (by decide) (by omega), zIr_lt (c := 0) (by decide) (by omega), zIl_le (c := 12) (by decide) (by omega)]
    show ¬ (s < 0 ∨ 6 ≤ s ∨ l < 0 ∨ 12 ≤ l)
    omega
  unfold wof ww
  rw [if_neg g, e1, zI_cn (by omega), e, zI_cn (by omega)]
theorem wA_b {W : Nat → Int32} (h : okW W) (s : Nat) (A : Int32) : ∀ k, wA W s A k ≤ 99 * k := by
  intro k
  induction k with
  | zero => exact Nat.le_refl _
  | succ k ih =>
    have := ww_le h s k
    rw [wA_s]
    split <;> omega
theorem wsum_w {W : Nat → Int32} (h : okW W) {s n : Nat} (hs : s < 6) (hn : n ≤ 12) (A : Int32) : wsum W (zI s) A n = zI (wA W s A n) := by
  unfold wsum wA
  refine up_rel (fun _ (x : Int32) (y : Nat) => x = zI y) rfl ?_ n (Nat.le_refl _)
  intro l hl x y hxy
  by_cases g : bt A l = true
  · rw [if_pos g, if_pos g, wof_w h hs (by omega), hxy, zI_add]
  · rw [if_neg g, if_neg g, hxy]
theorem bt_m1 {l : Nat} (h : l < 32) : bt (-1) l = true := by
  have e : ∀ l, l < 32 → bt (-1) l = true := by decide
  exact e l h
theorem bt_rst (S A : Int32) {l : Nat} (h : l < 32) : bt (rst S A) l = (bt S l && !bt A l) := by
  unfold rst
  rw [bt_and, bt_xor, bt_m1 h, Bool.xor_true]
theorem rv_g {B : Nat} {P R : Nat → Prop} {x : Int32} (h : rv B P x) (e : ∀ y, R y ↔ P y) : rv B R x := by
  rcases h with ⟨h1, h2⟩ | ⟨z, hz, h1, h2⟩
  · exact Or.inl ⟨h1, fun y hy => h2 y ((e y).mp hy)⟩
  · exact Or.inr ⟨z, hz, h1, fun y => (e y).trans (h2 y)⟩
theorem rv_b {B C : Nat} {P : Nat → Prop} {x : Int32} (h : rv B P x) (e : B ≤ C) : rv C P x := by
  rcases h with h | ⟨z, hz, h⟩
  · exact Or.inl h
  · exact Or.inr ⟨z, by omega, h⟩
theorem rv_or {B : Nat} (hB : B < 1000000) {P R : Nat → Prop} {x y : Int32} (h : rv B P x) (k : rv B R y) : rv B (fun v => P v ∨ R v) (if y ≤ x then x else y) := by
  rcases h with ⟨rfl, h2⟩ | ⟨z, hz, rfl, h2⟩
  · rcases k with ⟨rfl, k2⟩ | ⟨u, hu, rfl, k2⟩
    · exact Or.inl ⟨by rw [ite_self], fun v hv => hv.elim (h2 v) (k2 v)⟩
    · rw [if_neg (by rw [Int32.le_iff_toInt_le, zI_ti (by omega)]; show ¬ (u : Int) ≤ -1; omega)]
      exact Or.inr ⟨u, hu, rfl, fun v => ⟨fun hv => hv.elim (fun e => absurd e (h2 v)) (k2 v).mp, fun hv => Or.inr ((k2 v).mpr hv)⟩⟩
  · rcases k with ⟨rfl, k2⟩ | ⟨u, hu, rfl, k2⟩
    · rw [if_pos (by rw [Int32.le_iff_toInt_le, zI_ti (by omega)]; show (-1 : Int) ≤ z; omega)]
      exact Or.inr ⟨z, hz, rfl, fun v => ⟨fun hv => hv.elim (h2 v).mp (fun e => absurd e (k2 v)), fun hv => Or.inl ((h2 v).mpr hv)⟩⟩
    · by_cases g : u ≤ z
      · rw [if_pos (by rw [zI_le (by omega) (by omega)]; exact g)]
        refine Or.inr ⟨z, hz, rfl, fun v => ?_⟩
        show (P v ∨ R v) ↔ _
        rw [h2 v, k2 v]
        omega
      · rw [if_neg (by rw [zI_le (by omega) (by omega)]; exact g)]
        refine Or.inr ⟨u, hu, rfl, fun v => ?_⟩
        show (P v ∨ R v) ↔ _
        rw [h2 v, k2 v]
        omega
theorem rv_add {B : Nat} (hB : B < 1000000) {P : Nat → Prop} {x : Int32} {w : Nat} (hw : w ≤ 99) (h : rv B P x) : rv (B + 99) (fun y => ∃ v, P v ∧ y ≤ v + w) (if x = -1 then -1 else x + zI w) := by
  rcases h with ⟨rfl, h2⟩ | ⟨z, hz, rfl, h2⟩
  · rw [if_pos rfl]
    exact Or.inl ⟨rfl, fun y hy => h2 _ hy.choose_spec.1⟩
  · rw [if_neg (by rw [zI_m1 (by omega)]; exact id), zI_add]
    refine Or.inr ⟨z + w, by omega, rfl, fun y => ⟨fun hy => ?_, fun hy => ⟨z, (h2 z).mpr (Nat.le_refl _), hy⟩⟩⟩
    obtain ⟨v, hv, hy⟩ := hy
    have := (h2 v).mp hv
    omega
theorem rv_no {B : Nat} {P : Nat → Prop} (h : ∀ y, ¬ P y) : rv B P (-1) := Or.inl ⟨rfl, h⟩
theorem rv_lt {B : Nat} (hB : B < 1000000) {P : Nat → Prop} {x : Int32} (h : rv B P x) {y : Nat} (hy : y < 1000000) : ¬ x ≤ zI y ↔ P (y + 1) := by
  rcases h with ⟨rfl, h2⟩ | ⟨z, hz, rfl, h2⟩
  · refine ⟨fun e => absurd ?_ e, fun e => absurd e (h2 _)⟩
    rw [Int32.le_iff_toInt_le, zI_ti (by omega)]
    show (-1 : Int) ≤ y
    omega
  · rw [h2, zI_le (by omega) (by omega)]
    omega
theorem rch_no {W : Nat → Int32} {S : Int32} {a b k v : Nat} (h : wA W a S k < v) (y : Nat) : ¬ rch W S a b k v y := by
  rintro ⟨A, h1, h2, -⟩
  have := wA_m (W := W) (s := a) (k := k) (fun l _ => h1 l)
  omega
theorem rch_0 {W : Nat → Int32} {S : Int32} {a b : Nat} (y : Nat) : rch W S a b 0 0 y ↔ y ≤ 0 := ⟨fun ⟨_, _, _, h⟩ => h, fun h => ⟨0, ⟨fun l hl => absurd hl (by rw [bt_0]; decide), rfl, h⟩⟩⟩
theorem rch_q {W : Nat → Int32} {S : Int32} {a b k : Nat} (hk : k < 12) (h : bt S k = false) (v y : Nat) : rch W S a b (k + 1) v y ↔ rch W S a b k v y := by
  unfold rch
  refine ⟨fun ⟨A, h1, h2, h3⟩ => ⟨A, h1, ?_, ?_⟩, fun ⟨A, h1, h2, h3⟩ => ⟨A, h1, ?_, ?_⟩⟩
  all_goals
    have e1 : bt A k = false := by
      cases e : bt A k with
      | false => rfl
      | true => rw [h1 k e] at h; exact h
    have e2 : bt (rst S A) k = false := by rw [bt_rst S A (by omega), h]; rfl
  · rw [wA_q e1] at h2; exact h2
  · rw [wA_q e2] at h3; exact h3
  · rw [wA_q e1]; exact h2
  · rw [wA_q e2]; exact h3
theorem rch_p {W : Nat → Int32} {S : Int32} {a b k : Nat} (hk : k < 12) (h : bt S k = true) (v y : Nat) : rch W S a b (k + 1) v y ↔ ((∃ u, rch W S a b k v u ∧ y ≤ u + ww W b k) ∨ (ww W a k ≤ v ∧ rch W S a b k (v - ww W a k) y)) := by
  constructor
  · rintro ⟨A, h1, h2, h3⟩
    cases e : bt A k with
    | false =>
      have e2 : bt (rst S A) k = true := by rw [bt_rst S A (by omega), h, e]; rfl
      rw [wA_q e] at h2
      rw [wA_p e2] at h3
      exact Or.inl ⟨wA W b (rst S A) k, ⟨A, h1, h2, Nat.le_refl _⟩, h3⟩
    | true =>
      have e2 : bt (rst S A) k = false := by rw [bt_rst S A (by omega), h, e]; rfl
      rw [wA_p e] at h2
      rw [wA_q e2] at h3
      exact Or.inr ⟨by omega, A, h1, by omega, h3⟩
  · rintro (⟨u, ⟨A, h1, h2, h3⟩, h4⟩ | ⟨h4, A, h1, h2, h3⟩)
    · have eB : ∀ l, l < 32 → bt (rst A (b1 k)) l = (bt A l && !decide (l = k)) := by
        intro l hl
        rw [bt_rst _ _ hl, bt_b1 k l (by omega) hl]
      have n1 : bt (rst A (b1 k)) k = false := by rw [eB k (by omega)]; simp
      have ag : ∀ l, l < k → bt (rst A (b1 k)) l = bt A l := by
        intro l hl
        rw [eB l (by omega), decide_eq_false (by omega), Bool.not_false, Bool.and_true]
      refine ⟨rst A (b1 k), fun l hl => ?_, ?_, ?_⟩
      · by_cases l32 : l < 32
        · rw [eB l l32] at hl
          exact h1 l (by simp at hl; exact hl.1)
        · rw [bt_big _ _ (by omega)] at hl
          cases hl
      · rw [wA_q n1, wA_c ag]; exact h2
      · have n2 : bt (rst S (rst A (b1 k))) k = true := by rw [bt_rst _ _ (by omega), h, n1]; rfl
        rw [wA_p n2, wA_c (B := rst S A) (fun l hl => by rw [bt_rst S _ (by omega), bt_rst S A (by omega), ag l hl])]
        omega
    · have eB : ∀ l, l < 32 → bt (A ||| b1 k) l = (bt A l || decide (l = k)) := by
        intro l hl
        rw [bt_or, bt_b1 k l (by omega) hl]
      have n1 : bt (A ||| b1 k) k = true := by rw [eB k (by omega)]; simp
      have ag : ∀ l, l < k → bt (A ||| b1 k) l = bt A l := by
        intro l hl
        rw [eB l (by omega), decide_eq_false (by omega), Bool.or_false]
      refine ⟨A ||| b1 k, fun l hl => ?_, ?_, ?_⟩
      · by_cases l32 : l < 32
        · rw [eB l l32] at hl
          by_cases g : l = k
          · rw [g]; exact h
          · rw [decide_eq_false g, Bool.or_false] at hl
            exact h1 l hl
        · rw [bt_big _ _ (by omega)] at hl
          cases hl
      · rw [wA_p n1, wA_c ag, h2]; omega
      · have n2 : bt (rst S (A ||| b1 k)) k = false := by rw [bt_rst _ _ (by omega), h, n1]; rfl
        rw [wA_q n2, wA_c (B := rst S A) (fun l hl => by rw [bt_rst S _ (by omega), bt_rst S A (by omega), ag l hl])]
        exact h3
def rwk (W : Nat → Int32) (S : Int32) (a b k F R : Nat) (M : Nat → Int32) : Prop := ∀ v, v ≤ R → rv (99 * k) (rch W S a b k v) (M (F + v))
theorem rwk_0 {W : Nat → Int32} {S : Int32} {a b F R : Nat} {M : Nat → Int32} (h : ∀ v, v ≤ R → M (F + v) = if v = 0 then 0 else -1) : rwk W S a b 0 F R M := by
  intro v hv
  rw [h v hv]
  by_cases g : v = 0
  · subst g
    rw [if_pos rfl]
    exact Or.inr ⟨0, Nat.le_refl _, rfl, rch_0⟩
  · rw [if_neg g]
    exact rv_no (rch_no (by show 0 < v; omega))
theorem rwk_q {W : Nat → Int32} {S : Int32} {a b k F R : Nat} {M : Nat → Int32} (hk : k < 12) (h : bt S k = false) (hr : rwk W S a b k F R M) : rwk W S a b (k + 1) F R M := fun v hv => rv_b (rv_g (hr v hv) (rch_q hk h v)) (by omega)
theorem rwk_p {W : Nat → Int32} (hW : okW W) {S : Int32} {a b k F R : Nat} {M : Nat → Int32} (hk : k < 12) (h : bt S k = true) (hr : rwk W S a b k F R M) : rwk W S a b (k + 1) F R (adR M F (wA W a S (k + 1)) (ww W a k) (ww W b k) 0) := by
  intro v hv
  unfold adR
  by_cases g : v ≤ wA W a S (k + 1)
  · rw [if_pos ⟨by omega, by omega⟩]
    unfold nwF
    refine rv_g (P := fun y => (∃ u, rch W S a b k v u ∧ y ≤ u + ww W b k) ∨ (ww W a k ≤ v ∧ rch W S a b k (v - ww W a k) y)) ?_ (rch_p hk h v)
    rw [show 99 * (k + 1) = 99 * k + 99 from by omega]
    refine rv_or (by omega) (rv_add (by omega) (ww_le hW b k) (hr v hv)) ?_
    by_cases g2 : ww W a k ≤ v
    · rw [if_pos (by omega), show F + v - ww W a k = F + (v - ww W a k) from by omega]
      exact rv_b (rv_g (hr _ (by omega)) (fun y => ⟨fun e => e.2, fun e => ⟨g2, e⟩⟩)) (by omega)
    · rw [if_neg (by omega)]
      exact rv_no (fun y e => g2 e.1)
  · rw [if_neg (by omega)]
    refine rv_b (rv_g (hr v hv) (fun y => ⟨fun e => absurd e (rch_no (by omega) y), fun e => absurd e (rch_no ?_ y)⟩)) (by omega)
    rw [wA_p h] at g
    omega
end
section
/-! Shares: a row is filled. -/
theorem pr2_z {a b : Nat} (ha : a < 6) (hb : b < 6) : zI b * (zI b - 1) / 2 + zI a = zI (pr2 a b) := by
  have e : ∀ a, a < 6 → ∀ b, b < 6 → zI b * (zI b - 1) / 2 + zI a = zI (pr2 a b) := by decide
  exact e a ha b hb
theorem pr2_lt {a b : Nat} (ha : a < b) (hb : b < 6) : pr2 a b < 15 := by
  have e : ∀ b, b < 6 → ∀ a, a < b → pr2 a b < 15 := by decide
  exact e b hb a ha
theorem pr2_in {a b c d : Nat} (ha : a < b) (hb : b < 6) (hc : c < d) (hd : d < 6) (h : pr2 a b = pr2 c d) : a = c ∧ b = d := by
  have e : ∀ b a d c : Fin 6, a.1 < b.1 → c.1 < d.1 → pr2 a.1 b.1 = pr2 c.1 d.1 → a.1 = c.1 ∧ b.1 = d.1 := by decide +kernel
  exact e ⟨b, hb⟩ ⟨a, by omega⟩ ⟨d, hd⟩ ⟨c, by omega⟩ ha hc h
section S2
variable {X : (Nat → Int32) × Nat} {mo : Bool} {G : Nat × Nat} {I : Nat → Nat → Int32} {J : Nat → Nat → Int64} {Q : Option Value → sm_M → Prop}
theorem l3_146 {W : Nat → Int32} {S : Int32} {a b F R : Nat} (hF : F + R < 5955) (hR : wA W a S 12 = R) (hQ : ∀ M, (∀ v, v ≤ R → rv 1188 (sfp W S a b v) (M (F + v))) → (∀ j, j < F → M j = I 143 j) → Q (some (.int (zI (F + R + 1)))) (sM true G (rw2 I 143 M) J)) : ∀ i, i ≤ R → ∀ M, (∀ v, v ≤ R → i ≤ v → rv 1188 (sfp W S a b v) (M (F + v))) → (∀ v, v < i → rv 1188 (rch W S a b 12 v) (M (F + v))) → (∀ j, j < F → M j = I 143 j) → sm_wp X 146 198 [some (.ref 48), some (.int (zI F)), none, none, none, none, some (.int (zI (F + R))), none, some (.int (zI (F + i) + (-1)))] [] (sM true G (rw2 I 143 M) J) Q := by
  intro i
  induction i with
  | zero =>
    intro _ M h1 h2 h3
    have g : zI (F + 0) + (-1) < zI F := by
      cases F with
      | zero => decide
      | succ f =>
        rw [Nat.add_zero, zI_p1, zI_lt (by omega) (by omega)]
        omega
    rw [bk_146_198, if_pos g, bk_146_236, show zI (F + R) + 1 = zI (F + R + 1) from zIr_add 1 _]
    exact ⟨trivial, hQ M (fun v hv => h1 v hv (Nat.zero_le _)) h3⟩
  | succ i ih =>
    intro hi M h1 h2 h3
    rw [show F + (i + 1) = (F + i) + 1 from rfl, zI_p1, bk_146_198, if_neg (by rw [zI_lt (by omega) (by omega)]; omega), show zI (F + i) + 1 = zI (F + i + 1) from zIr_add 1 _, zI_vp (by omega), zI_vp (by omega), zI_cn (by omega), zI_cn (by omega), rw2_a, up2_rw, rw2_a, rw2_rw]
    have c1 : F + i < 5955 := by omega
    refine ⟨c1, by omega, trivial, c1, ?_⟩
    refine ih (by omega) _ (fun v hv hiv => ?_) (fun v hv => ?_) (fun j hj => ?_)
    · rw [va_ap]
      by_cases g : v = i
      · subst g
        rw [if_pos rfl]
        have q1 := h1 (v + 1) (by omega) (Nat.le_refl _)
        have q2 := h2 v (by omega)
        have q3 : (if M (F + v) < M (F + v + 1) then M (F + v + 1) else M (F + v)) = (if M (F + v + 1) ≤ M (F + v) then M (F + v) else M (F + v + 1)) := by
          by_cases g : M (F + v + 1) ≤ M (F + v)
          · rw [if_pos g, if_neg (Int32.not_lt.mpr g)]
          · rw [if_neg g, if_pos (Int32.not_le.mp g)]
        rw [q3]
        refine rv_g (rv_or (by omega) q2 q1) (fun y => ⟨?_, ?_⟩)
        · rintro ⟨u, hu, e⟩
          by_cases g : u = v
          · subst g; exact Or.inl e
          · exact Or.inr ⟨u, by omega, e⟩
        · rintro (e | ⟨u, hu, e⟩)
          · exact ⟨v, Nat.le_refl _, e⟩
          · exact ⟨u, by omega, e⟩
      · rw [if_neg (by omega)]
        exact h1 v hv (by omega)
    · rw [va_ap, if_neg (by omega)]
      exact h2 v (by omega)
    · rw [va_ap, if_neg (by omega)]
      exact h3 j hj
theorem l2_146 {S : Int32} {a b F R : Nat} (ha : a < 6) (hb : b < 6) (hW : okW (I 13)) (hF : F + R < 5955) (hR : wA (I 13) a S 12 = R) (hQ : ∀ M, (∀ v, v ≤ R → rv 1188 (sfp (I 13) S a b v) (M (F + v))) → (∀ j, j < F → M j = I 143 j) → Q (some (.int (zI (F + R + 1)))) (sM true G (rw2 I 143 M) J)) : ∀ d k, k + d = 12 → ∀ M, rwk (I 13) S a b k F R M → (∀ j, j < F → M j = I 143 j) → sm_wp X 146 127 [some (.ref 48), some (.int (zI F)), some (.int (zI a)), some (.int (zI b)), none, some (.int S), some (.int (zI (F + R))), some (.int (zI (F + wA (I 13) a S k))), some (.int (zI k))] [] (sM true G (rw2 I 143 M) J) Q := by
  intro d
  induction d with
  | zero =>
    intro k hk M h1 h2
    have : k = 12 := by omega
    subst this
    rw [bk_146_127, if_pos (by decide), bk_146_192]
    have e : zI (F + R) - 1 = zI (F + R) + (-1) := Int32.sub_eq_add_neg _ _
    rw [e]
    refine l3_146 hF hR hQ R (Nat.le_refl _) M (fun v hv hv2 => ?_) (fun v hv => h1 v (by omega)) h2
    have : v = R := by omega
    subst this
    refine rv_g (h1 v hv) (fun y => ⟨?_, fun e => ⟨v, Nat.le_refl _, e⟩⟩)
    rintro ⟨u, hu, e2⟩
    by_cases g : u = v
    · rw [g] at e2; exact e2
    · exact absurd e2 (rch_no (by omega) y)
  | succ d ih =>
    intro k hk M h1 h2
    have c12 : ¬ (12 : Int32) ≤ zI k := by rw [zIl_le (c := 12) (by decide) (by omega)]; show ¬ 12 ≤ k; omega
    have e13 : rw2 I 143 M 13 = I 13 := rw2_n _ _ _ _ (by decide)
    rw [bk_146_127, if_neg c12, ct_House_hasBit]
    simp only [tl_some]
    have eb : bi (hBit S (zI k)) = if bt S k = true then 1 else 0 := by
      unfold bi
      by_cases g : bt S k = true
      · rw [if_pos g, if_pos (by rw [hb_bt S k (by omega)]; exact g)]
      · rw [if_neg g, if_neg (by rw [hb_bt S k (by omega)]; exact g)]
    rw [bk_146_141, eb]
    cases g : bt S k with
    | false =>
      rw [if_pos (by decide), bk_146_186, show zI k + 1 = zI (k + 1) from zIr_add 1 k, ← wA_q (W := I 13) (s := a) g]
      exact ih (k + 1) (by omega) M (rwk_q (by omega) g h1) h2
    | true =>
      rw [if_neg (by decide), ct_Realm_worthOf, e13, wof_w hW ha (by omega)]
      simp only [tl_some]
      rw [bk_146_156, ct_Realm_worthOf, e13, wof_w hW ha (by omega), zI_add, Nat.add_assoc, ← wA_p (W := I 13) (s := a) g]
      simp only [tl_some]
      rw [bk_146_173, ct_Realm_worthOf, e13, wof_w hW hb (by omega)]
      simp only [tl_some]
      have le : wA (I 13) a S (k + 1) ≤ R := by
        rw [← hR, show 12 = (k + 1) + (12 - (k + 1)) from by omega]
        have mon : ∀ e, wA (I 13) a S (k + 1) ≤ wA (I 13) a S (k + 1 + e) := by
          intro e
          induction e with
          | zero => exact Nat.le_refl _
          | succ e ih2 =>
            rw [← Nat.add_assoc, wA_s _ _ _ (k + 1 + e)]
            split <;> omega
        exact mon _
      rw [bk_146_183, ct_148 (by omega) (ww_le hW a k), rw2_a, rw2_rw]
      simp only [tl_none]
      rw [bk_146_186, show zI k + 1 = zI (k + 1) from zIr_add 1 k]
      refine ih (k + 1) (by omega) _ (rwk_p hW (by omega) g h1) (fun j hj => ?_)
      unfold adR
      rw [if_neg (by omega)]
      exact h2 j hj
theorem ct_146 {n a b F R : Nat} (hn : I 1 0 = zI n) (h12 : n ≤ 12) (hab : a < b) (hb : b < 6) (hW : okW (I 13)) (hF : F + R < 5955) (hR : wA (I 13) a (hlds (I 4) (zI a) n ||| hlds (I 4) (zI b) n) n = R) (hS : ∀ l, n ≤ l → bt (hlds (I 4) (zI a) n ||| hlds (I 4) (zI b) n) l = false) (hQ : ∀ M, (∀ v, v ≤ R → rv 1188 (sfp (I 13) (hlds (I 4) (zI a) n ||| hlds (I 4) (zI b) n) a b v) (M (F + v))) → (∀ j, j < F → M j = I 143 j) → Q (some (.int (zI (F + R + 1)))) (sM true G (rw2 (up2 (up2 I 49 (pr2 a b) (zI F)) 50 (pr2 a b) (zI R)) 143 M) J)) : sm_wp X 146 0 [some (.ref 48), some (.int (zI F)), some (.int (zI a)), some (.int (zI b)), none, none, none, none, none] [] (sM true G I J) Q := by
  have p15 := pr2_lt hab hb
  rw [bk_146_0, bk_147_0, pr2_z (by omega) hb]
  refine ⟨by decide, ?_⟩
  refine ⟨trivial, ?_⟩
  simp only [tl_some]
  rw [bk_146_5, ct_landsHeld _ _ _ _ _ _ hn h12]
  simp only [tl_some]
  rw [bk_146_15, ct_landsHeld _ _ _ _ _ _ hn h12]
  simp only [tl_some]
  rw [bk_146_23, ct_worthOfLands _ _ _ _ _ _ hn h12, wsum_w hW (by omega) h12, hR]
  simp only [tl_some]
  generalize hlds (I 4) (zI a) n ||| hlds (I 4) (zI b) n = S at *
  have hR2 : wA (I 13) a S 12 = R := by
    rw [show 12 = n + (12 - n) from by omega, wA_t hS]
    exact hR
  rw [bk_146_37, if_neg (by rw [zIr_lt (c := 0) (by decide) (by omega)]; exact Nat.not_lt_zero _), if_neg (by rw [zIl_le (c := 15) (by decide) (by omega)]; show ¬ 15 ≤ pr2 a b; omega), if_neg (by rw [zIr_lt (c := 0) (by decide) (by omega)]; exact Nat.not_lt_zero _), zI_add, if_pos (by rw [show Int32.ofNat 5955 = zI 5955 from rfl, zI_lt (by omega) (by omega)]; exact hF), bk_146_68, zI_vp (by omega), zI_cn (by omega), zI_sub (by omega), show F + R - F = R from by omega]
  refine ⟨p15, p15, ?_⟩
  have e13 : up2 (up2 I 49 (pr2 a b) (zI F)) 50 (pr2 a b) (zI R) 13 = I 13 := by simp (decide := true) only [up2_ra, up2_rn, va_ap, ne_eq, if_false, if_true, not_false_eq_true]
  have e143 : up2 (up2 I 49 (pr2 a b) (zI F)) 50 (pr2 a b) (zI R) 143 = I 143 := by simp (decide := true) only [up2_ra, up2_rn, va_ap, ne_eq, if_false, if_true, not_false_eq_true]
  generalize up2 (up2 I 49 (pr2 a b) (zI F)) 50 (pr2 a b) (zI R) = K at *
  rw [← e13] at hR2 hW hQ
  rw [← e143] at hQ
  have l1 : ∀ d i, i + d = R + 1 → ∀ M, (∀ v, v < i → M (F + v) = if v = 0 then 0 else -1) → (∀ j, j < F → M j = K 143 j) → sm_wp X 146 90 [some (.ref 48), some (.int (zI F)), some (.int (zI a)), some (.int (zI b)), none, some (.int S), some (.int (zI (F + R))), some (.int (zI (F + i))), none] [] (sM true G (rw2 K 143 M) J) Q := by
    intro d
    induction d with
    | zero =>
      intro i hi M h1 h2
      have : i = R + 1 := by omega
      subst this
      rw [bk_146_90, if_pos (by rw [zI_lt (by omega) (by omega)]; omega), bk_146_121]
      have q := l2_146 (X := X) (G := G) (J := J) (Q := Q) (by omega : a < 6) hb hW hF hR2 hQ 12 0 (by omega) M (rwk_0 (fun v hv => h1 v (by omega))) h2
      exact q
    | succ d ih =>
      intro i hi M h1 h2
      have st : ∀ x : Int32, (x = if i = 0 then 0 else -1) → sm_wp X 146 90 [some (.ref 48), some (.int (zI F)), some (.int (zI a)), some (.int (zI b)), none, some (.int S), some (.int (zI (F + R))), some (.int (zI (F + i) + 1)), none] [] (sM true G (up2 (rw2 K 143 M) 143 (F + i) x) J) Q := by
        intro x hx
        rw [show zI (F + i) + 1 = zI (F + (i + 1)) from zIr_add 1 _, up2_rw, rw2_a, rw2_rw]
        refine ih (i + 1) (by omega) _ (fun v hv => ?_) (fun j hj => ?_)
        · rw [va_ap]
          by_cases g : v = i
          · subst g
            rw [if_pos rfl]
            exact hx
          · rw [if_neg (by omega)]
            exact h1 v (by omega)
        · rw [va_ap, if_neg (by omega)]
          exact h2 j hj
      rw [bk_146_90, if_neg (by rw [zI_lt (by omega) (by omega)]; omega)]
      by_cases g : i = 0
      · subst g
        rw [if_neg (fun e => e rfl), bk_146_114, zI_vp (by omega), zI_cn (by omega)]
        exact ⟨by omega, st 0 rfl⟩
      · rw [if_pos (by rw [zI_eq (by omega) (by omega)]; omega), bk_146_113, zI_vp (by omega), zI_cn (by omega)]
        exact ⟨by omega, st (-1) (by rw [if_neg g])⟩
  have q := l1 (R + 1) 0 (by omega) (K 143) (fun v hv => absurd hv (Nat.not_lt_zero _)) (fun j _ => rfl)
  rw [rw2_self] at q
  exact q
end S2
end
section
/-! Shares: who could both have more; the rivals. -/
theorem bt_hl (h : Nat → Int32) (s : Int32) : ∀ n, n ≤ 12 → ∀ l, bt (hlds h s n) l = decide (l < n ∧ h l = s) := by
  intro n
  induction n with
  | zero =>
    intro _ l
    rw [decide_eq_false (by omega)]
    exact bt_0 l
  | succ n ih =>
    intro hn l
    have e : hlds h s (n + 1) = if h n = s then hlds h s n ||| b1 n else hlds h s n := rfl
    rw [e]
    by_cases l32 : l < 32
    · by_cases g : h n = s
      · rw [if_pos g, bt_or, ih (by omega), bt_b1 n l (by omega) l32]
        by_cases g2 : l = n
        · subst g2
          simp [g]
        · have : (l < n + 1 ∧ h l = s) ↔ (l < n ∧ h l = s) := ⟨fun e => ⟨by omega, e.2⟩, fun e => ⟨by omega, e.2⟩⟩
          simp [this, g2]
      · rw [if_neg g, ih (by omega)]
        have : (l < n + 1 ∧ h l = s) ↔ (l < n ∧ h l = s) := ⟨fun e => ⟨by
          by_cases g2 : l = n
          · subst g2; exact absurd e.2 g
          · omega, e.2⟩, fun e => ⟨by omega, e.2⟩⟩
        simp [this]
    · rw [bt_big _ _ (by omega), decide_eq_false (by omega)]
theorem bt_bth {r4 : Nat → Int32} {n : Nat} (hn : n ≤ 12) (a b l : Nat) : bt (bth r4 n a b) l = (decide (l < n ∧ r4 l = zI a) || decide (l < n ∧ r4 l = zI b)) := by
  unfold bth
  rw [bt_or, bt_hl _ _ n hn, bt_hl _ _ n hn]
theorem bth_hi {r4 : Nat → Int32} {n : Nat} (hn : n ≤ 12) (a b : Nat) : ∀ l, n ≤ l → bt (bth r4 n a b) l = false := by
  intro l hl
  rw [bt_bth hn, decide_eq_false (by omega), decide_eq_false (by omega)]
  rfl
theorem cB_sfp {r4 W : Nat → Int32} {n a b x y : Nat} : cB r4 W n a b x y ↔ sfp W (bth r4 n a b) a b (x + 1) (y + 1) := by
  constructor
  · rintro ⟨A, h1, h2, h3⟩
    exact ⟨_, h2, A, h1, rfl, h3⟩
  · rintro ⟨u, hu, A, h1, h2, h3⟩
    exact ⟨A, h1, by omega, h3⟩
def hcN (r4 : Nat → Int32) (n s : Nat) : Nat := up (fun l a => if r4 l = zI s then a + 1 else a) n 0
theorem hcN_6 (r4 : Nat → Int32) (n : Nat) : hcN r4 n 0 + hcN r4 n 1 + hcN r4 n 2 + hcN r4 n 3 + hcN r4 n 4 + hcN r4 n 5 ≤ n := by
  induction n with
  | zero => exact Nat.le_refl _
  | succ n ih =>
    have e : ∀ s, hcN r4 (n + 1) s = if r4 n = zI s then hcN r4 n s + 1 else hcN r4 n s := fun s => rfl
    rw [e, e, e, e, e, e]
    by_cases g : ∃ s, s < 6 ∧ r4 n = zI s
    · obtain ⟨s, hs, g⟩ := g
      rw [g]
      have d : ∀ s k, s < 6 → k < 6 → (zI s = zI k) = (s = k) := fun s k h1 h2 => zI_eq (by omega) (by omega)
      simp only [d s 0 hs (by decide), d s 1 hs (by decide), d s 2 hs (by decide), d s 3 hs (by decide), d s 4 hs (by decide), d s 5 hs (by decide)]
      match s, hs with
      | 0, _ => simp; omega
      | 1, _ => simp; omega
      | 2, _ => simp; omega
      | 3, _ => simp; omega
      | 4, _ => simp; omega
      | 5, _ => simp; omega
    · have d : ∀ s, s < 6 → ¬ r4 n = zI s := fun s hs e => g ⟨s, hs, e⟩
      rw [if_neg (d 0 (by decide)), if_neg (d 1 (by decide)), if_neg (d 2 (by decide)), if_neg (d 3 (by decide)), if_neg (d 4 (by decide)), if_neg (d 5 (by decide))]
      omega
theorem wA_hc {r4 W : Nat → Int32} (hW : okW W) {n : Nat} (hn : n ≤ 12) (a b : Nat) : wA W a (bth r4 n a b) n ≤ 99 * (hcN r4 n a + hcN r4 n b) := by
  have e : ∀ k, k ≤ n → wA W a (bth r4 n a b) k ≤ 99 * (hcN r4 k a + hcN r4 k b) := by
    intro k
    induction k with
    | zero => intro _; exact Nat.zero_le _
    | succ k ih =>
      intro hk
      have i := ih (by omega)
      have e : ∀ s, hcN r4 (k + 1) s = if r4 k = zI s then hcN r4 k s + 1 else hcN r4 k s := fun s => rfl
      have w := ww_le hW a k
      rw [wA_s, bt_bth hn, e, e]
      by_cases g1 : r4 k = zI a
      · rw [if_pos g1]
        split <;> split <;> omega
      · rw [if_neg g1, decide_eq_false (fun e => g1 e.2), Bool.false_or]
        by_cases g2 : r4 k = zI b
        · rw [if_pos g2]
          split <;> omega
        · rw [if_neg g2, decide_eq_false (fun e => g2 e.2), if_neg (by decide)]
          exact i
  exact e n (Nat.le_refl _)
def tbF (h : Nat → Nat) (b : Nat) (a x : Nat) : Nat := x + (99 * (h a + h b) + 1)
def tb2 (h : Nat → Nat) (b a : Nat) : Nat := up (tbF h b) a (up (fun c x => up (tbF h c) c x) b 0)
theorem tb2_s (h : Nat → Nat) (b a : Nat) : tb2 h b (a + 1) = tb2 h b a + (99 * (h a + h b) + 1) := rfl
theorem tb2_n (h : Nat → Nat) (b : Nat) : tb2 h (b + 1) 0 = tb2 h b b := rfl
theorem tb2_lt {h : Nat → Nat} (hh : h 0 + h 1 + h 2 + h 3 + h 4 + h 5 ≤ 12) {b a : Nat} (hb : b < 6) (ha : a < b) : tb2 h b a + 99 * (h a + h b) < 5955 := by
  unfold tb2
  match b, hb with
  | 1, _ => match a, ha with
    | 0, _ => simp only [up, tbF]; omega
  | 2, _ => match a, ha with
    | 0, _ => simp only [up, tbF]; omega
    | 1, _ => simp only [up, tbF]; omega
  | 3, _ => match a, ha with
    | 0, _ => simp only [up, tbF]; omega
    | 1, _ => simp only [up, tbF]; omega
    | 2, _ => simp only [up, tbF]; omega
  | 4, _ => match a, ha with
    | 0, _ => simp only [up, tbF]; omega
    | 1, _ => simp only [up, tbF]; omega
    | 2, _ => simp only [up, tbF]; omega
    | 3, _ => simp only [up, tbF]; omega
  | 5, _ => match a, ha with
    | 0, _ => simp only [up, tbF]; omega
    | 1, _ => simp only [up, tbF]; omega
    | 2, _ => simp only [up, tbF]; omega
    | 3, _ => simp only [up, tbF]; omega
    | 4, _ => simp only [up, tbF]; omega
section S3
variable {X : (Nat → Int32) × Nat} {mo : Bool} {G : Nat × Nat} {I : Nat → Nat → Int32} {J : Nat → Nat → Int64} {Q : Option Value → sm_M → Prop}
theorem ct_149 {n a b x y T : Nat} (hn : n ≤ 12) (hT : T ≤ 5955) (hab : a < b) (hb : b < 6) (hW : okW (I 13)) (hx : x < 1000000) (hy : y < 1000000) (h : shP (I 4) (I 13) (I 49) (I 50) (I 143) n a b T) (hQ : ∀ z : Int32, (z = 1 ∧ cB (I 4) (I 13) n a b x y) ∨ (z = 0 ∧ ¬ cB (I 4) (I 13) n a b x y) → Q (some (.int z)) (sM true G I J)) : sm_wp X 149 0 [some (.ref 48), some (.int (zI a)), some (.int (zI b)), some (.int (zI x)), some (.int (zI y)), none, none] [] (sM true G I J) Q := by
  obtain ⟨F, e49, e50, hF, hv⟩ := h
  have p15 := pr2_lt hab hb
  have hR2 : wA (I 13) a (bth (I 4) n a b) 12 = wA (I 13) a (bth (I 4) n a b) n := by
    rw [show 12 = n + (12 - n) from by omega, wA_t (bth_hi hn a b)]
  generalize hR : wA (I 13) a (bth (I 4) n a b) n = R at *
  rw [bk_149_0, bk_147_0, pr2_z (by omega) hb]
  refine ⟨by decide, trivial, ?_⟩
  simp only [tl_some]
  rw [bk_149_5, if_neg (by rw [zIr_lt (c := 0) (by decide) (by omega)]; exact Nat.not_lt_zero _), if_neg (by rw [zI_le (by omega) (by omega)]; omega), if_neg (by rw [zIl_le (c := 15) (by decide) (by omega)]; show ¬ 15 ≤ pr2 a b; omega), if_neg (by rw [zIr_lt (c := 0) (by decide) (by omega)]; exact Nat.not_lt_zero _), zI_vp (by omega), zI_cn (by omega), e50]
  refine ⟨p15, ?_⟩
  by_cases g : x < R
  · rw [if_pos (by rw [zI_lt (by omega) (by omega)]; exact g), bk_149_40, zI_vp (by omega), zI_cn (by omega), e49, zI_add, show zI (F + x) + 1 = zI (F + (x + 1)) from zIr_add 1 _]
    refine ⟨p15, ?_⟩
    rw [if_neg (by rw [zIr_lt (c := 0) (by decide) (by omega)]; exact Nat.not_lt_zero _), if_neg (by rw [show Int32.ofNat 5955 = zI 5955 from rfl, zI_le (by omega) (by omega)]; omega), zI_vp (by omega), zI_cn (by omega)]
    refine ⟨by omega, ?_⟩
    have q := rv_lt (by omega) (hv (x + 1) g) hy
    by_cases g2 : I 143 (F + (x + 1)) ≤ zI y
    · rw [if_pos g2, bk_149_84]
      exact ⟨Or.inl rfl, hQ 0 (Or.inr ⟨rfl, fun c => q.mpr (cB_sfp.mp c) g2⟩)⟩
    · rw [if_neg g2, bk_149_85]
      exact ⟨Or.inr rfl, hQ 1 (Or.inl ⟨rfl, cB_sfp.mpr (q.mp g2)⟩)⟩
  · rw [if_neg (by rw [zI_lt (by omega) (by omega)]; exact g)]
    refine ⟨Or.inl rfl, hQ 0 (Or.inr ⟨rfl, ?_⟩)⟩
    rintro ⟨A, h1, h2, -⟩
    have := wA_m (W := I 13) (s := a) (k := 12) (fun l _ => h1 l)
    omega
end S3
end
section
/-! Shares: all pairs, and who are rivals. -/
def bf (b a c d : Nat) : Prop := c < d ∧ (d < b ∨ d = b ∧ c < a)
def shM (I : Nat → Nat → Int32) (v : Int32) (r49 r50 r143 : Nat → Int32) : Nat → Nat → Int32 := rw2 (rw2 (rw2 (up2 (up2 I 48 1 (I 1 4)) 48 2 v) 49 r49) 50 r50) 143 r143
theorem shM_o {I : Nat → Nat → Int32} {v : Int32} {r49 r50 r143 : Nat → Int32} {c : Nat} (h : c ≠ 48 ∧ c ≠ 49 ∧ c ≠ 50 ∧ c ≠ 143) : shM I v r49 r50 r143 c = I c := by
  unfold shM
  rw [rw2_n _ _ _ _ h.2.2.2, rw2_n _ _ _ _ h.2.2.1, rw2_n _ _ _ _ h.2.1, up2_rn _ _ _ _ _ h.1, up2_rn _ _ _ _ _ h.1]
theorem shM_49 {I : Nat → Nat → Int32} {v : Int32} {r49 r50 r143 : Nat → Int32} : shM I v r49 r50 r143 49 = r49 := by
  unfold shM
  rw [rw2_n _ _ _ _ (by decide), rw2_n _ _ _ _ (by decide), rw2_a]
theorem shM_50 {I : Nat → Nat → Int32} {v : Int32} {r49 r50 r143 : Nat → Int32} : shM I v r49 r50 r143 50 = r50 := by
  unfold shM
  rw [rw2_n _ _ _ _ (by decide), rw2_a]
theorem shM_143 {I : Nat → Nat → Int32} {v : Int32} {r49 r50 r143 : Nat → Int32} : shM I v r49 r50 r143 143 = r143 := by
  unfold shM
  rw [rw2_a]
theorem shM_48 {I : Nat → Nat → Int32} {v : Int32} {r49 r50 r143 : Nat → Int32} : shM I v r49 r50 r143 48 = va_up (va_up (I 48) 1 (I 1 4)) 2 v := by
  unfold shM
  rw [rw2_n _ _ _ _ (by decide), rw2_n _ _ _ _ (by decide), rw2_n _ _ _ _ (by decide), up2_ra, up2_ra]
theorem shM_w {I : Nat → Nat → Int32} {v x y : Int32} {r49 r50 r143 M : Nat → Int32} {k : Nat} : rw2 (up2 (up2 (shM I v r49 r50 r143) 49 k x) 50 k y) 143 M = shM I v (va_up r49 k x) (va_up r50 k y) M := by
  funext c
  by_cases h1 : c = 143
  · subst h1; rw [rw2_a, shM_143]
  · rw [rw2_n _ _ _ _ h1]
    by_cases h2 : c = 50
    · subst h2; rw [up2_ra, shM_50, up2_rn _ _ _ _ _ (by decide), shM_50]
    · rw [up2_rn _ _ _ _ _ h2]
      by_cases h3 : c = 49
      · subst h3; rw [up2_ra, shM_49, shM_49]
      · rw [up2_rn _ _ _ _ _ h3]
        by_cases h4 : c = 48
        · subst h4; rw [shM_48, shM_48]
        · rw [shM_o ⟨h4, h3, h2, h1⟩, shM_o ⟨h4, h3, h2, h1⟩]
theorem shM_v {I : Nat → Nat → Int32} {v x : Int32} {r49 r50 r143 : Nat → Int32} : up2 (shM I v r49 r50 r143) 48 2 x = shM I x r49 r50 r143 := by
  funext c
  by_cases h4 : c = 48
  · subst h4
    rw [up2_ra, shM_48, shM_48]
    funext j
    simp only [va_ap]
    by_cases g : j = 2
    · simp only [if_pos g]
    · simp only [if_neg g]
  · rw [up2_rn _ _ _ _ _ h4]
    unfold shM
    by_cases h1 : c = 143
    · subst h1; rw [rw2_a, rw2_a]
    · rw [rw2_n _ _ _ _ h1, rw2_n _ _ _ _ h1]
      by_cases h2 : c = 50
      · subst h2; rw [rw2_a, rw2_a]
      · rw [rw2_n _ _ _ _ h2, rw2_n _ _ _ _ h2]
        by_cases h3 : c = 49
        · subst h3; rw [rw2_a, rw2_a]
        · rw [rw2_n _ _ _ _ h3, rw2_n _ _ _ _ h3, up2_rn _ _ _ _ _ h4, up2_rn _ _ _ _ _ h4, up2_rn _ _ _ _ _ h4, up2_rn _ _ _ _ _ h4]
theorem shM_s {I : Nat → Nat → Int32} (h : I 48 1 = I 1 4) : shM I (I 48 2) (I 49) (I 50) (I 143) = I := by
  funext c
  by_cases h1 : c = 143
  · subst h1; rw [shM_143]
  · by_cases h2 : c = 50
    · subst h2; rw [shM_50]
    · by_cases h3 : c = 49
      · subst h3; rw [shM_49]
      · by_cases h4 : c = 48
        · subst h4
          rw [shM_48]
          funext j
          rw [va_ap, va_ap]
          by_cases g : j = 2
          · rw [if_pos g, g]
          · rw [if_neg g]
            by_cases g : j = 1
            · rw [if_pos g, g, h]
            · rw [if_neg g]
        · rw [shM_o ⟨h4, h3, h2, h1⟩]
def shI (r4 W : Nat → Int32) (v : Int32) (r49 r50 r143 : Nat → Int32) (n b a F : Nat) : Prop := F ≤ tb2 (hcN r4 n) b a ∧ (∀ c d, bf b a c d → shP r4 W r49 r50 r143 n c d F) ∧ ∀ c d, c < d → d < 6 → (bt v (pr2 c d) = true ↔ bf b a c d ∧ cB r4 W n c d (nowN r4 W n c) (nowN r4 W n d))
theorem nowN_b {r4 W : Nat → Int32} (h : okW W) {n : Nat} (hn : n ≤ 12) (s : Nat) : nowN r4 W n s ≤ 1188 := by
  have := wA_b h s (hlds r4 (zI s) n) n
  unfold nowN
  omega
section S4
variable {X : (Nat → Int32) × Nat} {mo : Bool} {G : Nat × Nat} {I : Nat → Nat → Int32} {J : Nat → Nat → Int64} {Q : Option Value → sm_M → Prop}
theorem tb2_le {h : Nat → Nat} (hh : h 0 + h 1 + h 2 + h 3 + h 4 + h 5 ≤ 12) {b a : Nat} (hb : b < 6) (ha : a < b) : tb2 h b a + 99 * (h a + h b) < 5955 := tb2_lt hh hb ha
theorem tb2_0 {h : Nat → Nat} (hh : h 0 + h 1 + h 2 + h 3 + h 4 + h 5 ≤ 12) {b : Nat} (hb : b ≤ 6) : tb2 h b 0 ≤ 5955 := by
  match b, hb with
  | 0, _ => exact Nat.zero_le _
  | 1, _ => exact Nat.zero_le _
  | b + 2, hb =>
    have := tb2_lt hh (b := b + 1) (a := b) (by omega) (by omega)
    rw [tb2_n, tb2_s]
    omega
theorem la_145 {n b a : Nat} (hn : I 1 0 = zI n) (h12 : n ≤ 12) (hab : a < b) (hb : b < 6) (hW : okW (I 13)) {v : Int32} {r49 r50 r143 : Nat → Int32} {F : Nat} (h : shI (I 4) (I 13) v r49 r50 r143 n b a F)
    (hQ : ∀ v r49 r50 r143 F, shI (I 4) (I 13) v r49 r50 r143 n b (a + 1) F → sm_wp X 145 72 [some (.ref 48), some (.int (zI F)), some (.int (zI b)), some (.int (zI (a + 1)))] [] (sM true G (shM I v r49 r50 r143) J) Q) :
    sm_wp X 145 72 [some (.ref 48), some (.int (zI F)), some (.int (zI b)), some (.int (zI a))] [] (sM true G (shM I v r49 r50 r143) J) Q := by
  obtain ⟨h1, h2, h3⟩ := h
  have o1 : shM I v r49 r50 r143 1 = I 1 := shM_o (by decide)
  have o4 : shM I v r49 r50 r143 4 = I 4 := shM_o (by decide)
  have o13 : shM I v r49 r50 r143 13 = I 13 := shM_o (by decide)
  have hc := hcN_6 (I 4) n
  have hR := wA_hc (r4 := I 4) hW h12 a b
  have hF := tb2_le (h := hcN (I 4) n) (by omega) hb hab
  rw [bk_145_72, if_neg (by rw [zI_le (by omega) (by omega)]; omega)]
  refine ct_146 (n := n) (R := wA (I 13) a (bth (I 4) n a b) n) (by rw [o1]; exact hn) h12 hab hb (by rw [o13]; exact hW) (by omega) (by rw [o13, o4]; rfl) (by rw [o4]; exact bth_hi h12 a b) ?_
  intro M m1 m2
  rw [o4, o13] at m1
  rw [shM_143] at m2
  rw [shM_w]
  simp only [tl_some]
  have p15 := pr2_lt hab hb
  -- the row stands
  have sp : ∀ c d, bf b (a + 1) c d → shP (I 4) (I 13) (va_up r49 (pr2 a b) (zI F)) (va_up r50 (pr2 a b) (zI (wA (I 13) a (bth (I 4) n a b) n))) M n c d (F + wA (I 13) a (bth (I 4) n a b) n + 1) := by
    intro c d hcd
    by_cases g : c = a ∧ d = b
    · obtain ⟨rfl, rfl⟩ := g
      exact ⟨F, by rw [va_ap, if_pos rfl], by rw [va_ap, if_pos rfl], by omega, m1⟩
    · have hbf : bf b a c d := by
        unfold bf at hcd ⊢
        omega
      obtain ⟨F2, e1, e2, e3, e4⟩ := h2 c d hbf
      have ne : pr2 c d ≠ pr2 a b := fun e => g (pr2_in hcd.1 (by unfold bf at hbf; omega) hab hb e)
      refine ⟨F2, by rw [va_ap, if_neg ne]; exact e1, by rw [va_ap, if_neg ne]; exact e2, by omega, fun u hu => ?_⟩
      rw [m2 _ (by omega)]
      exact e4 u hu
  have tb : F + wA (I 13) a (bth (I 4) n a b) n + 1 ≤ tb2 (hcN (I 4) n) b (a + 1) := by rw [tb2_s]; omega
  generalize va_up r49 (pr2 a b) (zI F) = q49 at *
  generalize va_up r50 (pr2 a b) (zI (wA (I 13) a (bth (I 4) n a b) n)) = q50 at *
  generalize hF2 : F + wA (I 13) a (bth (I 4) n a b) n + 1 = F2 at *
  have p1 : shM I v q49 q50 M 1 = I 1 := shM_o (by decide)
  have p4 : shM I v q49 q50 M 4 = I 4 := shM_o (by decide)
  have p13 : shM I v q49 q50 M 13 = I 13 := shM_o (by decide)
  rw [bk_145_84, ct_worthHeld _ _ _ _ _ _ (by rw [p1]; exact hn) h12, p4, p13, wsum_w hW (by omega) h12]
  simp only [tl_some]
  rw [bk_145_96, ct_worthHeld _ _ _ _ _ _ (by rw [p1]; exact hn) h12, p4, p13, wsum_w hW (by omega) h12]
  simp only [tl_some]
  rw [bk_145_104]
  have b1' := nowN_b (r4 := I 4) hW h12 a
  have b2' := nowN_b (r4 := I 4) hW h12 b
  refine ct_149 (n := n) (T := F2) h12 (by omega) hab hb (by rw [p13]; exact hW) (Nat.lt_of_le_of_lt b1' (by decide)) (Nat.lt_of_le_of_lt b2' (by decide)) (by rw [p4, p13, shM_49, shM_50, shM_143]; exact sp a b ⟨hab, Or.inr ⟨rfl, Nat.lt_succ_self _⟩⟩) ?_
  intro z hz
  rw [p4, p13] at hz
  simp only [tl_some]
  rcases hz with ⟨rfl, hz⟩ | ⟨rfl, hz⟩
  · rw [bk_145_107, if_neg (by decide), bk_147_0, pr2_z (by omega) hb]
    refine ⟨by decide, trivial, ?_⟩
    simp only [tl_some]
    rw [bk_145_121, shM_v, shM_48, va_ap, if_pos rfl, show zI a + 1 = zI (a + 1) from zIr_add 1 a]
    refine hQ _ _ _ _ _ ⟨tb, sp, fun c d hcd hd => ?_⟩
    rw [bt_or, show (1 : Int32) <<< (zI (pr2 a b) &&& 31) = b1 (pr2 a b) from rfl, bt_b1 _ _ (by omega) (by have := pr2_lt hcd hd; omega)]
    by_cases g : c = a ∧ d = b
    · obtain ⟨rfl, rfl⟩ := g
      simp only [decide_true, Bool.or_true]
      exact ⟨fun _ => ⟨⟨hcd, Or.inr ⟨rfl, Nat.lt_succ_self _⟩⟩, hz⟩, fun _ => trivial⟩
    · have ne : pr2 c d ≠ pr2 a b := fun e => g (pr2_in hcd hd hab hb e)
      rw [decide_eq_false ne, Bool.or_false, h3 c d hcd hd]
      have e : bf b a c d ↔ bf b (a + 1) c d := by unfold bf; omega
      rw [e]
  · rw [bk_145_107, if_pos rfl, bk_145_126, show zI a + 1 = zI (a + 1) from zIr_add 1 a]
    refine hQ _ _ _ _ _ ⟨tb, sp, fun c d hcd hd => ?_⟩
    rw [h3 c d hcd hd]
    by_cases g : c = a ∧ d = b
    · obtain ⟨rfl, rfl⟩ := g
      exact ⟨fun e => absurd e.2 hz, fun e => absurd e.2 hz⟩
    · have e : bf b a c d ↔ bf b (a + 1) c d := by unfold bf; omega
      rw [e]
theorem lb_145 {n b : Nat} (hn : I 1 0 = zI n) (h12 : n ≤ 12) (hb : b < 6) (hW : okW (I 13))
    (hQ : ∀ v r49 r50 r143 F, shI (I 4) (I 13) v r49 r50 r143 n (b + 1) 0 F → sm_wp X 145 59 [some (.ref 48), some (.int (zI F)), some (.int (zI (b + 1))), none] [] (sM true G (shM I v r49 r50 r143) J) Q) :
    ∀ k a, a + k = b → ∀ (v : Int32) (r49 r50 r143 : Nat → Int32) (F : Nat), shI (I 4) (I 13) v r49 r50 r143 n b a F → sm_wp X 145 72 [some (.ref 48), some (.int (zI F)), some (.int (zI b)), some (.int (zI a))] [] (sM true G (shM I v r49 r50 r143) J) Q := by
  intro k
  induction k with
  | zero =>
    intro a ha v r49 r50 r143 F h
    have : a = b := by omega
    subst this
    rw [bk_145_72, if_pos (by rw [zI_le (by omega) (by omega)]; omega), bk_145_132, show zI a + 1 = zI (a + 1) from zIr_add 1 a]
    refine hQ _ _ _ _ _ ⟨by rw [tb2_n]; exact h.1, fun c d hcd => h.2.1 c d ?_, fun c d hcd hd => ?_⟩
    · unfold bf at hcd ⊢; omega
    · rw [h.2.2 c d hcd hd]
      have e : bf a a c d ↔ bf (a + 1) 0 c d := by unfold bf; omega
      rw [e]
  | succ k ih =>
    intro a ha v r49 r50 r143 F h
    exact la_145 hn h12 (by omega) hb hW h (fun v r49 r50 r143 F h => ih (a + 1) (by omega) v r49 r50 r143 F h)
theorem lc_145 {n m : Nat} (hn : I 1 0 = zI n) (h12 : n ≤ 12) (hm : I 1 1 = zI m) (h6 : m ≤ 6) (hW : okW (I 13))
    (hQ : ∀ v r49 r50 r143, shT (I 4) (I 13) v r49 r50 r143 n m → Q (some (.int v)) (sM true G (shM I v r49 r50 r143) J)) :
    ∀ k b, (k = 0 ∧ m ≤ 1 ∧ b = 1 ∨ b + k = m) → b ≤ 6 → ∀ (v : Int32) (r49 r50 r143 : Nat → Int32) (F : Nat), shI (I 4) (I 13) v r49 r50 r143 n b 0 F → sm_wp X 145 59 [some (.ref 48), some (.int (zI F)), some (.int (zI b)), none] [] (sM true G (shM I v r49 r50 r143) J) Q := by
  intro k
  induction k with
  | zero =>
    intro b hb hb6 v r49 r50 r143 F h
    have o1 : shM I v r49 r50 r143 1 = I 1 := shM_o (by decide)
    rw [bk_145_59, o1, hm, if_pos (by rw [zI_le (by omega) (by omega)]; omega), bk_145_138]
    refine ⟨trivial, ?_⟩
    rw [shM_48, va_ap, if_pos rfl]
    have t := tb2_0 (h := hcN (I 4) n) (by have := hcN_6 (I 4) n; omega) hb6
    have e : ∀ c d, c < d → (bf b 0 c d ↔ d < m) := by
      intro c d hcd
      unfold bf
      omega
    refine hQ _ _ _ _ ⟨fun c d hcd hd => ?_, fun c d hcd hd => ?_⟩
    · obtain ⟨F2, e1, e2, e3, e4⟩ := h.2.1 c d ((e c d hcd).mpr hd)
      exact ⟨F2, e1, e2, by have := h.1; omega, e4⟩
    · rw [h.2.2 c d hcd hd, e c d hcd]
  | succ k ih =>
    intro b hb hb6 v r49 r50 r143 F h
    have o1 : shM I v r49 r50 r143 1 = I 1 := shM_o (by decide)
    rw [bk_145_59, o1, hm, if_neg (by rw [zI_le (by omega) (by omega)]; omega)]
    exact lb_145 hn h12 (by omega) hW (fun v r49 r50 r143 F h => ih (b + 1) (by omega) (by omega) v r49 r50 r143 F h) b 0 (by omega) v r49 r50 r143 F h
theorem ct_145 {n m : Nat} (hn : I 1 0 = zI n) (h12 : n ≤ 12) (hm : I 1 1 = zI m) (h6 : m ≤ 6) (hW : okW (I 13)) (hc : I 48 1 = I 1 4 → mo = true ∧ shT (I 4) (I 13) (I 48 2) (I 49) (I 50) (I 143) n m)
    (hQ : ∀ v r49 r50 r143, shT (I 4) (I 13) v r49 r50 r143 n m → Q (some (.int v)) (sM true G (shM I v r49 r50 r143) J)) :
    sm_wp X 145 0 [some (.ref 48), none, none, none] [] (sM mo G I J) Q := by
  rw [sh_145_0]
  by_cases h : I 48 1 = I 1 4
  · rw [if_pos h]
    obtain ⟨rfl, h2⟩ := hc h
    have q := hQ _ _ _ _ h2
    rw [shM_s h] at q
    exact q
  · rw [if_neg h]
    have e : up2 (up2 I 48 1 (I 1 4)) 48 2 0 = shM I 0 (I 49) (I 50) (I 143) := by
      funext c
      unfold shM
      by_cases h1 : c = 143
      · subst h1; rw [rw2_a, up2_rn _ _ _ _ _ (by decide), up2_rn _ _ _ _ _ (by decide)]
      · rw [rw2_n _ _ _ _ h1]
        by_cases h2 : c = 50
        · subst h2; rw [rw2_a, up2_rn _ _ _ _ _ (by decide), up2_rn _ _ _ _ _ (by decide)]
        · rw [rw2_n _ _ _ _ h2]
          by_cases h3 : c = 49
          · subst h3; rw [rw2_a, up2_rn _ _ _ _ _ (by decide), up2_rn _ _ _ _ _ (by decide)]
          · rw [rw2_n _ _ _ _ h3]
    rw [e]
    refine lc_145 hn h12 hm h6 hW hQ (m - 1) 1 (by omega) (by omega) 0 _ _ _ 0 ⟨Nat.zero_le _, fun c d hcd => ?_, fun c d hcd hd => ?_⟩
    · unfold bf at hcd; omega
    · rw [bt_0]
      refine ⟨fun e => (by cases e), fun e => ?_⟩
      have := e.1
      unfold bf at this
      omega
end S4
end
section
/-! The reference's table of what two could have. -/
theorem sub_dn : ∀ (k s S A : Nat), s < 2 ^ k → A &&& S = A → s &&& S = s → A < s → A ≤ (s - 1) &&& S := by
  intro k
  induction k with
  | zero => intro s S A h _ _ h2; simp at h; omega
  | succ k ih =>
    intro s S A hs hA hS h
    have a1 : (A / 2) &&& (S / 2) = A / 2 := by rw [← Nat.and_div_two, hA]
    have a2 : (s / 2) &&& (S / 2) = s / 2 := by rw [← Nat.and_div_two, hS]
    have m1 : ∀ x y : Nat, (x &&& y) % 2 = (x % 2) &&& (y % 2) := fun x y => by
      have := Nat.and_mod_two_pow (a := x) (b := y) (n := 1)
      simpa using this
    have c1 : A % 2 ≤ S % 2 := by
      have := m1 A S
      rw [hA] at this
      rcases Nat.mod_two_eq_zero_or_one A with e | e <;> rcases Nat.mod_two_eq_zero_or_one S with f | f <;> rw [e, f] at this <;> first | omega | (simp at this)
    have d : ((s - 1) &&& S) = 2 * (((s - 1) / 2) &&& (S / 2)) + ((s - 1) % 2 &&& S % 2) := by
      rw [← Nat.and_div_two, ← m1]
      omega
    rw [d]
    rcases Nat.mod_two_eq_zero_or_one s with e | e
    · have e1 : (s - 1) / 2 = s / 2 - 1 := by omega
      have e2 : (s - 1) % 2 = 1 := by omega
      have q := ih (s / 2) (S / 2) (A / 2) (by rw [Nat.pow_succ] at hs; omega) a1 a2 (by omega)
      rw [e1, e2]
      have e3 : 1 &&& S % 2 = S % 2 := by
        rcases Nat.mod_two_eq_zero_or_one S with f | f <;> rw [f] <;> rfl
      rw [e3]
      omega
    · have e1 : (s - 1) / 2 = s / 2 := by omega
      rw [e1, a2]
      have := Nat.zero_le ((s - 1) % 2 &&& S % 2)
      omega
theorem zI_and (a b : Nat) : zI a &&& zI b = zI (a &&& b) := by
  apply Int32.toBitVec_inj.mp
  show BitVec.ofNat 32 a &&& BitVec.ofNat 32 b = BitVec.ofNat 32 (a &&& b)
  exact (BitVec.ofNat_and).symm
theorem bt_zI {a l : Nat} (h : l < 32) : bt (zI a) l = a.testBit l := by
  show (BitVec.ofNat 32 a).getLsbD l = _
  rw [BitVec.getLsbD_ofNat]
  simp [h]
theorem zI_bits (A : Int32) (h : ∀ l, 12 ≤ l → bt A l = false) : ∃ a, a < 4096 ∧ A = zI a := by
  refine ⟨A.toBitVec.toNat, ?_, ?_⟩
  · have : A.toBitVec.toNat < 2 ^ 12 := by
      apply Nat.lt_pow_two_of_testBit
      intro i hi
      exact h i hi
    exact this
  · apply Int32.toBitVec_inj.mp
    show A.toBitVec = BitVec.ofNat 32 A.toBitVec.toNat
    rw [BitVec.ofNat_toNat, BitVec.setWidth_eq]
theorem zI_sub_bits {S A : Nat} (hA : A &&& S = A) (l : Nat) (h : bt (zI A) l = true) : bt (zI S) l = true := by
  by_cases h32 : l < 32
  · rw [bt_zI h32] at h ⊢
    rw [← hA, Nat.testBit_and, Bool.and_eq_true] at h
    exact h.2
  · rw [bt_big _ _ (by omega)] at h
    cases h
theorem sub_zI {S A : Nat} (hA : A < 4096) (h : ∀ l, bt (zI A) l = true → bt (zI S) l = true) : A &&& S = A := by
  apply Nat.eq_of_testBit_eq
  intro l
  rw [Nat.testBit_and]
  by_cases h32 : l < 32
  · have := h l
    rw [bt_zI h32, bt_zI h32] at this
    cases e : A.testBit l with
    | false => rfl
    | true => rw [this e]; rfl
  · rw [Nat.testBit_lt_two_pow (Nat.lt_of_lt_of_le hA (show 4096 ≤ 2 ^ l from Nat.le_trans (show 4096 ≤ 2 ^ 12 by decide) (Nat.pow_le_pow_right (by decide) (by omega))))]
    rfl
def vis (W : Nat → Int32) (S a b L x y : Nat) : Prop := ∃ A : Nat, A &&& S = A ∧ L ≤ A ∧ wA W a (zI A) 12 = x + 1 ∧ y ≤ wA W b (rst (zI S) (zI A)) 12
theorem vis_0 {W : Nat → Int32} {S a b x y : Nat} (hS : ∀ l, 12 ≤ l → bt (zI S) l = false) : vis W S a b 0 x y ↔ rch W (zI S) a b 12 (x + 1) y := by
  constructor
  · rintro ⟨A, h1, -, h2, h3⟩
    exact ⟨zI A, zI_sub_bits h1, h2, h3⟩
  · rintro ⟨A, h1, h2, h3⟩
    obtain ⟨A', h4, rfl⟩ := zI_bits A (fun l hl => by
      cases e : bt A l with
      | false => rfl
      | true => exact absurd (h1 l e) (by rw [hS l hl]; decide))
    exact ⟨A', sub_zI h4 h1, Nat.zero_le _, h2, h3⟩
def lvP (r4 W : Nat → Int32) (pr : Int32) (q : Nat → Int32) (n a b : Nat) : Prop := ∀ x, x < 1200 → rv 1188 (fun y => a ≠ b ∧ bt pr a = true ∧ bt pr b = true ∧ sfp W (bth r4 n a b) a b (x + 1) y) (q (1200 * (6 * a + b) + x))
def bfl (a b c d : Nat) : Prop := c < 6 ∧ d < 6 ∧ (c < a ∨ c = a ∧ d < b)
section S5
variable {X : (Nat → Int32) × Nat} {mo : Bool} {G : Nat × Nat} {I : Nat → Nat → Int32} {J : Nat → Nat → Int64} {Q : Option Value → sm_M → Prop}
theorem l3_277 {r4 W : Nat → Int32} {n a b T : Nat} (hT : T + 1200 ≤ 43200) {q0 : Nat → Int32} (P : Nat → Nat → Prop) (hP : ∀ x y, P x y ↔ rch W (bth r4 n a b) a b 12 (x + 1) y)
    (hQ : ∀ q, (∀ x, x < 1200 → rv 1188 (fun y => ∃ u, x ≤ u ∧ u < 1200 ∧ P u y) (q (T + x))) → (∀ j, j < T ∨ T + 1200 ≤ j → q j = q0 j) → sm_wp X 277 12 [some (.ref 81), some (.int (zI a)), some (.int (zI (b + 1))), none, none, none, none, none] [] (sM mo G (rw2 I 130 q) J) Q) :
    ∀ i, i ≤ 1199 → ∀ q, (∀ x, x < 1200 → i ≤ x → rv 1188 (fun y => ∃ u, x ≤ u ∧ u < 1200 ∧ P u y) (q (T + x))) → (∀ x, x < i → rv 1188 (P x) (q (T + x))) → (∀ j, j < T ∨ T + 1200 ≤ j → q j = q0 j) →
    sm_wp X 277 185 [some (.ref 81), some (.int (zI a)), some (.int (zI b)), some (.int (zI T)), none, some (.int (zI i + (-1))), none, none] [] (sM mo G (rw2 I 130 q) J) Q := by
  intro i
  induction i with
  | zero =>
    intro _ q h1 h2 h3
    rw [lp_277_185, if_pos (by decide), show zI b + 1 = zI (b + 1) from zIr_add 1 b]
    exact hQ q (fun x hx => h1 x hx (Nat.zero_le _)) h3
  | succ i ih =>
    intro hi q h1 h2 h3
    rw [zI_p1, lp_277_185, if_neg (by rw [zIr_lt (c := 0) (by decide) (by omega)]; exact Nat.not_lt_zero _), zI_add, show zI (T + i) + 1 = zI (T + (i + 1)) from zIr_add 1 _, zI_vp (by omega), zI_vp (by omega), zI_cn (by omega), zI_cn (by omega), rw2_a]
    refine ⟨by omega, by omega, ?_⟩
    have q1 := h1 (i + 1) (by omega) (Nat.le_refl _)
    have q2 := h2 i (by omega)
    have q3 : rv 1188 (fun y => ∃ u, i ≤ u ∧ u < 1200 ∧ P u y) (if q (T + (i + 1)) ≤ q (T + i) then q (T + i) else q (T + (i + 1))) := by
      refine rv_g (rv_or (by decide) q2 q1) (fun y => ⟨?_, ?_⟩)
      · rintro ⟨u, hu, hu2, e⟩
        by_cases g : u = i
        · subst g; exact Or.inl e
        · exact Or.inr ⟨u, by omega, hu2, e⟩
      · rintro (e | ⟨u, hu, hu2, e⟩)
        · exact ⟨i, Nat.le_refl _, by omega, e⟩
        · exact ⟨u, by omega, hu2, e⟩
    by_cases g : q (T + (i + 1)) ≤ q (T + i)
    · rw [if_pos g] at q3 ⊢
      refine ih (by omega) q (fun x hx hix => ?_) (fun x hx => h2 x (by omega)) h3
      by_cases g2 : x = i
      · subst g2; exact q3
      · exact h1 x hx (by omega)
    · rw [if_neg g] at q3 ⊢
      rw [up2_rw, rw2_a, rw2_rw]
      refine ih (by omega) _ (fun x hx hix => ?_) (fun x hx => ?_) (fun j hj => ?_)
      · rw [va_ap]
        by_cases g2 : x = i
        · subst g2; rw [if_pos rfl]; exact q3
        · rw [if_neg (by omega)]; exact h1 x hx (by omega)
      · rw [va_ap, if_neg (by omega)]; exact h2 x (by omega)
      · rw [va_ap, if_neg (by omega)]; exact h3 j hj
theorem l2_277 {n a b S T : Nat} (hn : I 81 3 = zI n) (h12 : n ≤ 12) (ha : a < 6) (hb : b < 6) (hW : okW (I 91)) (hT : T + 1200 ≤ 43200) (hSn : ∀ l, n ≤ l → bt (zI S) l = false) {q0 : Nat → Int32}
    (hQ : ∀ q, (∀ x, x < 1200 → rv 1188 (vis (I 91) S a b 0 x) (q (T + x))) → (∀ j, j < T ∨ T + 1200 ≤ j → q j = q0 j) → sm_wp X 277 185 [some (.ref 81), some (.int (zI a)), some (.int (zI b)), some (.int (zI T)), none, some (.int 1198), none, none] [] (sM mo G (rw2 I 130 q) J) Q) :
    ∀ s, s < 4096 → s &&& S = s → ∀ q, (∀ x, x < 1200 → rv 1188 (vis (I 91) S a b (s + 1) x) (q (T + x))) → (∀ j, j < T ∨ T + 1200 ≤ j → q j = q0 j) →
    sm_wp X 277 99 [some (.ref 81), some (.int (zI a)), some (.int (zI b)), some (.int (zI T)), some (.int (zI S)), some (.int (zI s)), none, none] [] (sM mo G (rw2 I 130 q) J) Q := by
  intro s
  induction s using Nat.strongRecOn with
  | _ s ih =>
  intro hs hsS q h1 h2
  have e12 : ∀ t A, (∀ l, n ≤ l → bt A l = false) → wA (I 91) t A n = wA (I 91) t A 12 := by
    intro t A hA
    have := wA_t (W := I 91) (s := t) hA (12 - n)
    rw [show n + (12 - n) = 12 from by omega] at this
    exact this.symm
  have bs : ∀ l, n ≤ l → bt (zI s) l = false := by
    intro l hl
    cases e : bt (zI s) l with
    | false => rfl
    | true => exact absurd (zI_sub_bits hsS l e) (by rw [hSn l hl]; decide)
  have br : ∀ l, n ≤ l → bt (rst (zI S) (zI s)) l = false := by
    intro l hl
    by_cases l32 : l < 32
    · rw [bt_rst _ _ l32, hSn l hl]; rfl
    · exact bt_big _ _ (by omega)
  have nxt : ∀ q', (∀ x, x < 1200 → rv 1188 (vis (I 91) S a b s x) (q' (T + x))) → (∀ j, j < T ∨ T + 1200 ≤ j → q' j = q0 j) → (if ¬ zI s = 0 then sm_wp X 277 99 [some (.ref 81), some (.int (zI a)), some (.int (zI b)), some (.int (zI T)), some (.int (zI S)), some (.int ((zI s - 1) &&& zI S)), none, none] [] (sM mo G (rw2 I 130 q') J) Q else sm_wp X 277 99 [some (.ref 81), some (.int (zI a)), some (.int (zI b)), some (.int (zI T)), some (.int (zI S)), some (.int (-1)), none, none] [] (sM mo G (rw2 I 130 q') J) Q) := by
    intro q' k1 k2
    have z0 : (zI s = 0) = (s = 0) := zIr_eq (c := 0) (by decide) (by omega)
    by_cases g : s = 0
    · subst g
      rw [if_neg (by rw [z0]; exact fun e => e rfl), lp_277_99, if_pos (by decide)]
      exact hQ q' k1 k2
    · rw [if_pos (by rw [z0]; exact g), show zI s - 1 = zI (s - 1) from zIr_sub (c := 1) (by show 1 ≤ s; omega), zI_and]
      have le : (s - 1) &&& S ≤ s - 1 := Nat.and_le_left
      refine ih _ (by omega) (by omega) (by rw [Nat.and_assoc, Nat.and_self]) q' (fun x hx => rv_g (k1 x hx) (fun y => ?_)) k2
      constructor
      · rintro ⟨A, e1, e2, e3⟩
        refine ⟨A, e1, ?_, e3⟩
        rcases Nat.lt_or_ge A s with g2 | g2
        · have := sub_dn 12 s S A hs e1 hsS g2
          omega
        · exact g2
      · rintro ⟨A, e1, e2, e3⟩
        exact ⟨A, e1, by omega, e3⟩
  have dec : ∀ x y, vis (I 91) S a b s x y ↔ (vis (I 91) S a b (s + 1) x y ∨ (wA (I 91) a (zI s) 12 = x + 1 ∧ y ≤ wA (I 91) b (rst (zI S) (zI s)) 12)) := by
    intro x y
    constructor
    · rintro ⟨A, e1, e2, e3⟩
      by_cases g : A = s
      · subst g; exact Or.inr e3
      · exact Or.inl ⟨A, e1, by omega, e3⟩
    · rintro (⟨A, e1, e2, e3⟩ | e3)
      · exact ⟨A, e1, by omega, e3⟩
      · exact ⟨s, hsS, Nat.le_refl _, e3⟩
  have n81 : (rw2 I 130 q) 81 3 = zI n := by rw [rw2_n _ _ _ _ (by decide)]; exact hn
  have n91 : (rw2 I 130 q) 91 = I 91 := rw2_n _ _ _ _ (by decide)
  rw [lp_277_99, if_neg (by rw [zIr_lt (c := 0) (by decide) (by omega)]; exact Nat.not_lt_zero _), ct_MworthOf _ _ _ _ _ _ n81 h12 ha, n91, wsum_w hW ha h12, e12 a _ bs]
  simp only [tl_some]
  rw [lp_277_111, ct_MworthOf _ _ _ _ _ _ n81 h12 hb, n91, wsum_w hW hb h12, show zI S &&& (zI s ^^^ (-1)) = rst (zI S) (zI s) from rfl, e12 b _ br]
  simp only [tl_some]
  have w1 := wA_b hW a (zI s) 12
  have w2 := wA_b hW b (rst (zI S) (zI s)) 12
  generalize wA (I 91) a (zI s) 12 = wa at *
  generalize wA (I 91) b (rst (zI S) (zI s)) 12 = wb at *
  rw [lp_277_127]
  by_cases g : wa = 0
  · subst g
    rw [if_pos (by decide)]
    exact nxt q (fun x hx => rv_g (h1 x hx) (fun y => (dec x y).trans ⟨fun e => e.elim id (fun e => absurd e.1 (by omega)), Or.inl⟩)) h2
  · rw [show zI wa - 1 = zI (wa - 1) from zIr_sub (c := 1) (by show 1 ≤ wa; omega), if_neg (by rw [zIr_lt (c := 0) (by decide) (by omega)]; exact Nat.not_lt_zero _), zI_add, zI_vp (by omega), zI_cn (by omega), rw2_a, up2_rw, rw2_a, rw2_rw]
    refine ⟨by omega, ?_⟩
    have q3 : rv 1188 (vis (I 91) S a b s (wa - 1)) (if zI wb ≤ q (T + (wa - 1)) then q (T + (wa - 1)) else zI wb) := by
      have r2 : rv 1188 (fun y => y ≤ wb) (zI wb) := Or.inr ⟨wb, by omega, rfl, fun y => Iff.rfl⟩
      refine rv_g (rv_or (by decide) (h1 (wa - 1) (by omega)) r2) (fun y => (dec _ y).trans ⟨fun e => e.elim Or.inl (fun e => Or.inr e.2), fun e => e.elim Or.inl (fun e => Or.inr ⟨by omega, e⟩)⟩)
    have oth : ∀ x, x < 1200 → x ≠ wa - 1 → rv 1188 (vis (I 91) S a b s x) (q (T + x)) := fun x hx hne => rv_g (h1 x hx) (fun y => (dec x y).trans ⟨fun e => e.elim id (fun e => absurd e.1 (by omega)), Or.inl⟩)
    by_cases g2 : zI wb ≤ q (T + (wa - 1))
    · rw [if_pos g2] at q3 ⊢
      refine nxt q (fun x hx => ?_) h2
      by_cases g3 : x = wa - 1
      · subst g3; exact q3
      · exact oth x hx g3
    · rw [if_neg g2] at q3 ⊢
      refine nxt _ (fun x hx => ?_) (fun j hj => ?_)
      · rw [va_ap]
        by_cases g3 : x = wa - 1
        · subst g3; rw [if_pos rfl]; exact q3
        · rw [if_neg (by omega)]; exact oth x hx g3
      · rw [va_ap, if_neg (by omega)]; exact h2 j hj
theorem l1_277 {n m a b : Nat} (hn : I 81 3 = zI n) (h12 : n ≤ 12) (hm : I 81 10 = zI m) (h6 : m ≤ 6) (ha : a < m) (hb : b < m) (hW : okW (I 91)) {q0 : Nat → Int32}
    (hQ : ∀ q, lvP (I 85) (I 91) (I 81 15) q n a b → (∀ j, j < 1200 * (6 * a + b) ∨ 1200 * (6 * a + b) + 1200 ≤ j → q j = q0 j) → sm_wp X 277 12 [some (.ref 81), some (.int (zI a)), some (.int (zI (b + 1))), none, none, none, none, none] [] (sM mo G (rw2 I 130 q) J) Q) :
    ∀ d i, i + d = 1200 → ∀ q, (∀ x, x < i → q (1200 * (6 * a + b) + x) = -1) → (∀ j, j < 1200 * (6 * a + b) ∨ 1200 * (6 * a + b) + 1200 ≤ j → q j = q0 j) →
    sm_wp X 277 34 [some (.ref 81), some (.int (zI a)), some (.int (zI b)), some (.int (zI (1200 * (6 * a + b)))), some (.int (zI i)), none, none, none] [] (sM mo G (rw2 I 130 q) J) Q := by
  intro d
  have hT : 1200 * (6 * a + b) + 1200 ≤ 43200 := by omega
  have hTe : 1200 * (6 * a + b) = 1200 * (6 * a + b) := rfl
  induction d with
  | zero =>
    intro i hi q h1 h2
    have : i = 1200 := by omega
    subst this
    have nil : (¬ (a ≠ b ∧ bt (I 81 15) a = true ∧ bt (I 81 15) b = true)) → sm_wp X 277 12 [some (.ref 81), some (.int (zI a)), some (.int (zI b + 1)), none, none, none, none, none] [] (sM mo G (rw2 I 130 q) J) Q := by
      intro h
      rw [show zI b + 1 = zI (b + 1) from zIr_add 1 b]
      refine hQ q (fun x hx => ?_) h2
      rw [h1 x hx]
      exact rv_no (fun y e => h ⟨e.1, e.2.1, e.2.2.1⟩)
    have n81 : (rw2 I 130 q) 81 = I 81 := rw2_n _ _ _ _ (by decide)
    have n85 : (rw2 I 130 q) 85 = I 85 := rw2_n _ _ _ _ (by decide)
    have pa : vf_Model_isPresent (rw2 I 130 q) (zI a) ↔ bt (I 81 15) a = true := by
      rw [mPres_vp (n := m) (by rw [n81]; exact hm) h6, n81, zI_sIn (by omega) (by omega), zI_cn (by omega)]
      exact ⟨fun e => e.2, fun e => ⟨ha, e⟩⟩
    have pb : vf_Model_isPresent (rw2 I 130 q) (zI b) ↔ bt (I 81 15) b = true := by
      rw [mPres_vp (n := m) (by rw [n81]; exact hm) h6, n81, zI_sIn (by omega) (by omega), zI_cn (by omega)]
      exact ⟨fun e => e.2, fun e => ⟨hb, e⟩⟩
    rw [lp_277_34, if_pos (by decide)]
    by_cases g1 : a = b
    · rw [if_pos (by rw [g1])]
      exact nil (fun e => e.1 g1)
    · rw [if_neg (by rw [zI_eq (by omega) (by omega)]; exact g1)]
      by_cases g2 : bt (I 81 15) a = true
      · rw [if_neg (fun e => e (pa.mpr g2))]
        by_cases g3 : bt (I 81 15) b = true
        · rw [if_pos (pb.mpr g3), ct_Mholdings _ _ _ _ _ _ (by rw [n81]; exact hn) h12, n85]
          simp only [tl_some]
          rw [lp_277_87, ct_Mholdings _ _ _ _ _ _ (by rw [n81]; exact hn) h12, n85]
          simp only [tl_some]
          rw [lp_277_92, show hlds (I 85) (zI a) n ||| hlds (I 85) (zI b) n = bth (I 85) n a b from rfl]
          obtain ⟨S, hS, eS⟩ := zI_bits (bth (I 85) n a b) (fun l hl => bth_hi h12 a b l (by omega))
          have hSn : ∀ l, n ≤ l → bt (zI S) l = false := by rw [← eS]; exact bth_hi h12 a b
          rw [eS]
          refine l2_277 hn h12 (by omega) (by omega) hW hT hSn (q0 := q0) ?_ S hS (Nat.and_self S) q (fun x hx => ?_) h2
          · intro q' k1 k2
            have c12 : ∀ l, 12 ≤ l → bt (zI S) l = false := fun l hl => hSn l (by omega)
            refine l3_277 (r4 := I 85) (W := I 91) (n := n) hT (q0 := q0) (fun x y => rch (I 91) (bth (I 85) n a b) a b 12 (x + 1) y) (fun x y => Iff.rfl) ?_ 1199 (Nat.le_refl _) q' (fun x hx hx2 => ?_) (fun x hx => ?_) k2
            · intro q2 j1 j2
              refine hQ q2 (fun x hx => rv_g (j1 x hx) (fun y => ?_)) j2
              constructor
              · rintro ⟨-, -, -, u, hu, e⟩
                have : u - 1 < 1200 := by
                  rcases Nat.lt_or_ge (wA (I 91) a (bth (I 85) n a b) 12) u with k | k
                  · exact absurd e (rch_no k y)
                  · have := wA_b hW a (bth (I 85) n a b) 12
                    omega
                refine ⟨u - 1, by omega, this, ?_⟩
                rw [show u - 1 + 1 = u from by omega]
                exact e
              · rintro ⟨u, hu, -, e⟩
                exact ⟨g1, g2, g3, u + 1, by omega, e⟩
            · have : x = 1199 := by omega
              subst this
              refine rv_g (k1 1199 (by decide)) (fun y => ?_)
              rw [vis_0 c12, ← eS]
              constructor
              · rintro ⟨u, hu, hu2, e⟩
                have : u = 1199 := by omega
                rw [this] at e
                exact e
              · intro e
                exact ⟨1199, Nat.le_refl _, by decide, e⟩
            · refine rv_g (k1 x (by omega)) (fun y => ?_)
              rw [vis_0 c12, ← eS]
          · rw [h1 x hx]
            refine rv_no ?_
            rintro y ⟨A, e1, e2, -⟩
            have : A ≤ S := by rw [← e1]; exact Nat.and_le_right
            omega
        · rw [if_neg (fun e => g3 (pb.mp e))]
          exact nil (fun e => g3 e.2.2)
      · rw [if_pos (fun e => g2 (pa.mp e))]
        exact nil (fun e => g2 e.2.1)
  | succ d ih =>
    intro i hi q h1 h2
    rw [lp_277_34, if_neg (by rw [zIl_le (c := 1200) (by decide) (by omega)]; show ¬ 1200 ≤ i; omega), zI_add, zI_vp (by omega), zI_cn (by omega), show zI i + 1 = zI (i + 1) from zIr_add 1 i, up2_rw, rw2_a, rw2_rw]
    refine ⟨by omega, ih (i + 1) (by omega) _ (fun x hx => ?_) (fun j hj => ?_)⟩
    · rw [va_ap]
      by_cases g : x = i
      · subst g; rw [if_pos rfl]
      · rw [if_neg (by omega)]; exact h1 x (by omega)
    · rw [va_ap, if_neg (by omega)]; exact h2 j hj
theorem lb_277 {n m a : Nat} (hn : I 81 3 = zI n) (h12 : n ≤ 12) (hm : I 81 10 = zI m) (h6 : m ≤ 6) (ha : a < m) (hW : okW (I 91))
    (hQ : ∀ q, (∀ c d, c < a + 1 → d < m → lvP (I 85) (I 91) (I 81 15) q n c d) → sm_wp X 277 2 [some (.ref 81), some (.int (zI (a + 1))), none, none, none, none, none, none] [] (sM mo G (rw2 I 130 q) J) Q) :
    ∀ d b, b + d = m → ∀ q, (∀ c d, c < a + 1 → d < m → (c < a ∨ d < b) → lvP (I 85) (I 91) (I 81 15) q n c d) → sm_wp X 277 12 [some (.ref 81), some (.int (zI a)), some (.int (zI b)), none, none, none, none, none] [] (sM mo G (rw2 I 130 q) J) Q := by
  intro d
  induction d with
  | zero =>
    intro b hb q h
    rw [lp_277_12, rw2_n _ _ _ _ (by decide), hm, if_pos (by rw [zI_le (by omega) (by omega)]; omega), show zI a + 1 = zI (a + 1) from zIr_add 1 a]
    exact hQ q (fun c d hc hd => h c d hc hd (by omega))
  | succ d ih =>
    intro b hb q h
    rw [lp_277_12, rw2_n _ _ _ _ (by decide), hm, if_neg (by rw [zI_le (by omega) (by omega)]; omega), show (1200 : Int32) * (6 * zI a + zI b) = zI (1200 * (6 * a + b)) from by rw [show (6 : Int32) * zI a = zI (6 * a) from zIl_mul 6 a, zI_add]; exact zIl_mul 1200 _]
    refine l1_277 hn h12 hm h6 ha (by omega) hW (q0 := q) ?_ 1200 0 (by omega) q (fun x hx => absurd hx (Nat.not_lt_zero _)) (fun j _ => rfl)
    intro q' k1 k2
    refine ih (b + 1) (by omega) q' (fun c e hc he hce => ?_)
    by_cases g : c = a ∧ e = b
    · obtain ⟨rfl, rfl⟩ := g
      exact k1
    · intro x hx
      rw [k2 _ (by omega)]
      exact h c e hc he (by omega) x hx
theorem ct_277 {n m : Nat} (hn : I 81 3 = zI n) (h12 : n ≤ 12) (hm : I 81 10 = zI m) (h6 : m ≤ 6) (hW : okW (I 91))
    (hQ : ∀ q, (∀ c d, c < m → d < m → lvP (I 85) (I 91) (I 81 15) q n c d) → Q none (sM mo G (rw2 I 130 q) J)) :
    sm_wp X 277 0 [some (.ref 81), none, none, none, none, none, none, none] [] (sM mo G I J) Q := by
  have key : ∀ d a, a + d = m → ∀ q, (∀ c d, c < a → d < m → lvP (I 85) (I 91) (I 81 15) q n c d) → sm_wp X 277 2 [some (.ref 81), some (.int (zI a)), none, none, none, none, none, none] [] (sM mo G (rw2 I 130 q) J) Q := by
    intro d
    induction d with
    | zero =>
      intro a ha q h
      rw [lp_277_2, rw2_n _ _ _ _ (by decide), hm, if_pos (by rw [zI_le (by omega) (by omega)]; omega)]
      exact hQ q (fun c d hc hd => h c d (by omega) hd)
    | succ d ih =>
      intro a ha q h
      rw [lp_277_2, rw2_n _ _ _ _ (by decide), hm, if_neg (by rw [zI_le (by omega) (by omega)]; omega)]
      exact lb_277 hn h12 hm h6 (by omega) hW (fun q' k => ih (a + 1) (by omega) q' k) m 0 (by omega) q (fun c d hc hd hcd => h c d (by omega) hd)
  rw [lp_277_0]
  have k := key m 0 (by omega) (I 130) (fun c d hc => absurd hc (Nat.not_lt_zero _))
  rw [rw2_self] at k
  exact k
end S5
end
section
/-! The j-th for which it holds; mixed digits. -/
theorem cN_s (P : Nat → Bool) (k : Nat) : cN P (k + 1) = if P k = true then cN P k + 1 else cN P k := rfl
theorem cN_p {P : Nat → Bool} {k : Nat} (h : P k = true) : cN P (k + 1) = cN P k + 1 := by rw [cN_s, if_pos h]
theorem cN_q {P : Nat → Bool} {k : Nat} (h : ¬ P k = true) : cN P (k + 1) = cN P k := by rw [cN_s, if_neg h]
theorem cN_m (P : Nat → Bool) (a : Nat) : ∀ d, cN P a ≤ cN P (a + d) := by
  intro d
  induction d with
  | zero => exact Nat.le_refl _
  | succ d ih => rw [← Nat.add_assoc, cN_s]; split <;> omega
theorem cN_mono (P : Nat → Bool) {a b : Nat} (h : a ≤ b) : cN P a ≤ cN P b := by
  have := cN_m P a (b - a)
  rw [show a + (b - a) = b from by omega] at this
  exact this
theorem cN_le (P : Nat → Bool) : ∀ k, cN P k ≤ k := by
  intro k
  induction k with
  | zero => exact Nat.le_refl _
  | succ k ih => rw [cN_s]; split <;> omega
theorem cN_inj {P : Nat → Bool} {a b : Nat} (ha : P a = true) (hb : P b = true) (h : cN P a = cN P b) : a = b := by
  rcases Nat.lt_trichotomy a b with g | g | g
  · have := cN_mono P (a := a + 1) (b := b) (by omega)
    rw [cN_p ha] at this
    omega
  · exact g
  · have := cN_mono P (a := b + 1) (b := a) (by omega)
    rw [cN_p hb] at this
    omega
theorem nt_s (P : Nat → Bool) (n j : Nat) : nt P (n + 1) j = if P n = true ∧ cN P n = j then n else nt P n j := rfl
theorem nt_p {P : Nat → Bool} : ∀ {n j : Nat}, j < cN P n → P (nt P n j) = true ∧ nt P n j < n ∧ cN P (nt P n j) = j := by
  intro n
  induction n with
  | zero => intro j h; exact absurd h (Nat.not_lt_zero _)
  | succ n ih =>
    intro j h
    rw [nt_s]
    by_cases g : P n = true ∧ cN P n = j
    · rw [if_pos g]
      exact ⟨g.1, Nat.lt_succ_self _, g.2⟩
    · rw [if_neg g]
      have h2 : j < cN P n := by
        rw [cN_s] at h
        by_cases g2 : P n = true
        · rw [if_pos g2] at h
          have : cN P n ≠ j := fun e => g ⟨g2, e⟩
          omega
        · rw [if_neg g2] at h
          exact h
      have q := ih h2
      exact ⟨q.1, by omega, q.2.2⟩
theorem nt_c {P : Nat → Bool} {n l : Nat} (hl : l < n) (h : P l = true) : nt P n (cN P l) = l := by
  have h2 : cN P l < cN P n := by
    have := cN_mono P (a := l + 1) (b := n) (by omega)
    rw [cN_p h] at this
    omega
  have q := nt_p h2
  exact cN_inj q.1 h q.2.2
theorem cN_lt {P : Nat → Bool} {n l : Nat} (hl : l < n) (h : P l = true) : cN P l < cN P n := by
  have := cN_mono P (a := l + 1) (b := n) (by omega)
  rw [cN_p h] at this
  omega
theorem cN_congr {P R : Nat → Bool} {n : Nat} (h : ∀ l, l < n → P l = R l) : cN P n = cN R n := by
  unfold cN
  apply up_congr
  intro k hk x
  rw [h k hk]
theorem rp_K (c : Nat → Nat) (K : Nat) : rp c K K = 1 := by
  unfold rp
  rw [Nat.sub_self]
  rfl
theorem rp_s (c : Nat → Nat) {K k : Nat} (h : k < K) : rp c K k = rp c K (k + 1) * c k := by
  unfold rp
  rw [show K - k = (K - (k + 1)) + 1 from by omega, up_s, show K - 1 - (K - (k + 1)) = k from by omega]
theorem rp_pos {c : Nat → Nat} {K : Nat} (hc : ∀ j, j < K → 0 < c j) : ∀ d k, k + d = K → 0 < rp c K k := by
  intro d
  induction d with
  | zero => intro k hk; rw [show k = K from by omega, rp_K]; decide
  | succ d ih =>
    intro k hk
    rw [rp_s c (by omega)]
    exact Nat.mul_pos (ih (k + 1) (by omega)) (hc k (by omega))
theorem rp_dvd (c : Nat → Nat) {K : Nat} : ∀ d j, j + d ≤ K → rp c K (j + d) ∣ rp c K j := by
  intro d
  induction d with
  | zero => intro j _; exact Nat.dvd_refl _
  | succ d ih =>
    intro j hj
    have e1 := ih (j + 1) (by omega)
    rw [show j + 1 + d = j + (d + 1) from by omega] at e1
    refine Nat.dvd_trans e1 ?_
    rw [rp_s c (k := j) (by omega)]
    exact Nat.dvd_mul_right _ _
theorem rp_le {c : Nat → Nat} {K : Nat} (hc : ∀ j, j < K → c j ≤ 3) : ∀ d k, k + d = K → rp c K k ≤ 3 ^ d := by
  intro d
  induction d with
  | zero => intro k hk; rw [show k = K from by omega, rp_K]; decide
  | succ d ih =>
    intro k hk
    rw [rp_s c (by omega), Nat.pow_succ]
    exact Nat.mul_le_mul (ih (k + 1) (by omega)) (hc k (by omega))
theorem dg_lt {c : Nat → Nat} {K : Nat} (v : Nat) {k : Nat} (h : 0 < c k) : dg c K v k < c k := Nat.mod_lt _ h
theorem dg_0 (c : Nat → Nat) (K k : Nat) : dg c K 0 k = 0 := by
  unfold dg
  rw [Nat.zero_div, Nat.zero_mod]
theorem sd_1 {v R : Nat} (hR : 0 < R) (h : (v + 1) % R = 0) : (v + 1) / R = v / R + 1 := by
  rw [Nat.succ_div, if_pos (Nat.dvd_of_mod_eq_zero h)]
theorem dg_hi {c : Nat → Nat} {K v k : Nat} (hc : ∀ j, j < K → 0 < c j) (h : (v + 1) % rp c K (k + 1) = 0) {j : Nat} (hj : k < j) (hK : j < K) : dg c K (v + 1) j = 0 := by
  have d1 := rp_dvd c (K := K) (j - (k + 1)) (k + 1) (by omega)
  rw [show k + 1 + (j - (k + 1)) = j from by omega] at d1
  obtain ⟨t, ht⟩ := Nat.dvd_trans d1 (Nat.dvd_of_mod_eq_zero h)
  unfold dg
  rw [ht, rp_s c hK, Nat.mul_assoc, Nat.mul_div_cancel_left _ (rp_pos hc (K - (j + 1)) (j + 1) (by omega)), Nat.mul_mod_right]
theorem dg_at {c : Nat → Nat} {K v k : Nat} (hc : ∀ j, j < K → 0 < c j) (hk : k < K) (h : (v + 1) % rp c K (k + 1) = 0) (g : dg c K v k + 1 < c k) : dg c K (v + 1) k = dg c K v k + 1 := by
  unfold dg at g ⊢
  rw [sd_1 (rp_pos hc (K - (k + 1)) (k + 1) (by omega)) h, Nat.add_mod, Nat.mod_eq_of_lt (show 1 < c k by omega), Nat.mod_eq_of_lt g]
theorem dg_lo {c : Nat → Nat} {K v k : Nat} (hc : ∀ j, j < K → 0 < c j) (hk : k < K) (h : (v + 1) % rp c K (k + 1) = 0) (g : dg c K v k + 1 < c k) {j : Nat} (hj : j < k) : dg c K (v + 1) j = dg c K v j := by
  have e : (v + 1) / rp c K k = v / rp c K k := by
    rw [rp_s c hk, ← Nat.div_div_eq_div_mul, ← Nat.div_div_eq_div_mul, sd_1 (rp_pos hc (K - (k + 1)) (k + 1) (by omega)) h, Nat.succ_div, if_neg ?_, Nat.add_zero]
    intro d
    have d2 := Nat.mod_eq_zero_of_dvd d
    unfold dg at g
    rw [Nat.add_mod, Nat.mod_eq_of_lt (show 1 < c k by omega), Nat.mod_eq_of_lt g] at d2
    omega
  have d1 := rp_dvd c (K := K) (k - (j + 1)) (j + 1) (by omega)
  rw [show j + 1 + (k - (j + 1)) = k from by omega] at d1
  obtain ⟨t, ht⟩ := d1
  unfold dg
  rw [ht, ← Nat.div_div_eq_div_mul, ← Nat.div_div_eq_div_mul, e]
theorem dg_ca {c : Nat → Nat} {K v k : Nat} (hc : ∀ j, j < K → 0 < c j) (hk : k < K) (h : (v + 1) % rp c K (k + 1) = 0) (g : ¬ dg c K v k + 1 < c k) : (v + 1) % rp c K k = 0 := by
  have l := dg_lt (K := K) v (hc k hk)
  have e : dg c K v k + 1 = c k := by omega
  have p := rp_pos hc (K - (k + 1)) (k + 1) (by omega)
  unfold dg at e
  have e2 : c k ∣ v / rp c K (k + 1) + 1 := by
    apply Nat.dvd_of_mod_eq_zero
    rw [Nat.add_mod]
    by_cases g1 : c k = 1
    · rw [g1]; exact Nat.mod_one _
    · rw [Nat.mod_eq_of_lt (show 1 < c k by omega), e, Nat.mod_self]
  rw [← sd_1 p h] at e2
  obtain ⟨t, ht⟩ := Nat.dvd_of_mod_eq_zero h
  rw [ht, Nat.mul_div_cancel_left _ p] at e2
  rw [ht, rp_s c hk]
  exact Nat.mod_eq_zero_of_dvd (Nat.mul_dvd_mul_left _ e2)
theorem dg_in {c : Nat → Nat} {K v k : Nat} (hc : ∀ j, j < K → 0 < c j) (hk : k < K) (h : (v + 1) % rp c K (k + 1) = 0) (g : dg c K v k + 1 < c k) (hv : v < rp c K 0) : v + 1 < rp c K 0 := by
  rcases Nat.lt_or_ge (v + 1) (rp c K 0) with e | e
  · exact e
  · have e2 : v + 1 = rp c K 0 := by omega
    have d1 := rp_dvd c (K := K) k 0 (by omega)
    rw [Nat.zero_add, ← e2, rp_s c hk] at d1
    obtain ⟨t, ht⟩ := d1
    have p := rp_pos hc (K - (k + 1)) (k + 1) (by omega)
    have a := dg_at hc hk h g
    unfold dg at a
    rw [ht, Nat.mul_assoc, Nat.mul_div_cancel_left _ p, Nat.mul_mod_right] at a
    omega
theorem dg_end {c : Nat → Nat} {K v : Nat} (h : (v + 1) % rp c K 0 = 0) (hv : v < rp c K 0) : v + 1 = rp c K 0 := by
  rcases Nat.lt_or_ge (v + 1) (rp c K 0) with e | e
  · rw [Nat.mod_eq_of_lt e] at h
    omega
  · omega
theorem pB_t {p : Prop} : pB p = true ↔ p := by
  unfold pB
  exact @decide_eq_true_iff p (Classical.propDecidable p)
theorem pB_f {p : Prop} : pB p = false ↔ ¬ p := by
  unfold pB
  exact @decide_eq_false_iff_not p (Classical.propDecidable p)
end
section
/-! Settlements: what they are; the class's small steps. -/
theorem gsm_s (n : Nat) (r5 W : Nat → Int32) (pr : Int32) (ch : Nat → Int32) (K s : Nat) : gsm n r5 W pr ch (K + 1) s = if ch K = zI s then gsm n r5 W pr ch K s + ww W s (dl n r5 pr K) else gsm n r5 W pr ch K s := rfl
theorem gsm_c {n : Nat} {r5 W : Nat → Int32} {pr : Int32} {ch ch' : Nat → Int32} {K s : Nat} (h : ∀ k, k < K → ch k = ch' k) : gsm n r5 W pr ch K s = gsm n r5 W pr ch' K s := by
  unfold gsm
  apply up_congr
  intro k hk x
  rw [h k hk]
theorem gsm_u {n : Nat} {r5 W : Nat → Int32} {pr : Int32} {ch : Nat → Int32} {k : Nat} (x : Int32) (s : Nat) : ∀ K, k < K → gsm n r5 W pr (va_up ch k x) K s + (if ch k = zI s then ww W s (dl n r5 pr k) else 0) = gsm n r5 W pr ch K s + (if x = zI s then ww W s (dl n r5 pr k) else 0) := by
  intro K
  induction K with
  | zero => intro h; exact absurd h (Nat.not_lt_zero _)
  | succ K ih =>
    intro h
    rw [gsm_s, gsm_s, va_ap]
    by_cases g : K = k
    · subst g
      rw [if_pos rfl, gsm_c (ch := va_up ch K x) (ch' := ch) (fun j hj => by rw [va_ap, if_neg (by omega)])]
      by_cases g1 : x = zI s
      · rw [if_pos g1, if_pos g1]
        by_cases g2 : ch K = zI s
        · rw [if_pos g2, if_pos g2]
        · rw [if_neg g2, if_neg g2]; omega
      · rw [if_neg g1, if_neg g1]
        by_cases g2 : ch K = zI s
        · rw [if_pos g2, if_pos g2]; omega
        · rw [if_neg g2, if_neg g2]
    · rw [if_neg g]
      have q := ih (by omega)
      by_cases g2 : ch K = zI s
      · rw [if_pos g2, if_pos g2]; omega
      · rw [if_neg g2, if_neg g2]; omega
theorem gsm_b {n : Nat} {r5 W : Nat → Int32} {pr : Int32} {ch : Nat → Int32} (hW : okW W) (s : Nat) : ∀ K, gsm n r5 W pr ch K s ≤ 99 * K := by
  intro K
  induction K with
  | zero => exact Nat.le_refl _
  | succ K ih =>
    have := ww_le hW s (dl n r5 pr K)
    rw [gsm_s]
    split <;> omega
theorem bt_fxd (r5 : Nat → Int32) (pr : Int32) : ∀ n, n ≤ 12 → ∀ l, bt (fxd r5 pr n) l = (decide (l < n) && !stD r5 pr l) := by
  intro n
  induction n with
  | zero =>
    intro _ l
    rw [decide_eq_false (by omega)]
    exact bt_0 l
  | succ n ih =>
    intro hn l
    have e : fxd r5 pr (n + 1) = if stD r5 pr n = true then fxd r5 pr n else fxd r5 pr n ||| b1 n := rfl
    rw [e]
    by_cases l32 : l < 32
    · by_cases g : stD r5 pr n = true
      · rw [if_pos g, ih (by omega)]
        by_cases g2 : l = n
        · subst g2; rw [g]; simp
        · have : (l < n + 1) = (l < n) := propext (by omega)
          rw [show decide (l < n + 1) = decide (l < n) from by simp [this]]
      · rw [if_neg g, bt_or, ih (by omega), bt_b1 n l (by omega) l32]
        by_cases g2 : l = n
        · subst g2; simp [g]
        · rw [decide_eq_false g2, Bool.or_false]
          have : (l < n + 1) = (l < n) := propext (by omega)
          rw [show decide (l < n + 1) = decide (l < n) from by simp [this]]
    · rw [decide_eq_false (by omega), Bool.false_and]
      exact bt_big _ _ (by omega)
theorem sur_b {n : Nat} {r4 r5 W : Nat → Int32} {pr : Int32} (hW : okW W) (h12 : n ≤ 12) (s : Nat) : sur n r4 r5 W pr s + 99 * dK n r5 pr ≤ 99 * n := by
  have e : ∀ k, k ≤ n → wA W s (hlds r4 (zI s) n &&& fxd r5 pr n) k + 99 * cN (stD r5 pr) k ≤ 99 * k := by
    intro k
    induction k with
    | zero => intro _; exact Nat.le_refl _
    | succ k ih =>
      intro hk
      have i := ih (by omega)
      have w := ww_le hW s k
      rw [wA_s, cN_s, bt_and, bt_fxd r5 pr n h12]
      cases g : stD r5 pr k with
      | true =>
        rw [Bool.not_true, Bool.and_false, Bool.and_false, if_neg (by decide), if_pos rfl]
        omega
      | false =>
        rw [if_neg (c := false = true) (by decide)]
        split <;> omega
  exact e n (Nat.le_refl _)
theorem gtC_b {n : Nat} {r4 r5 W : Nat → Int32} {pr : Int32} {ch : Nat → Int32} (hW : okW W) (h12 : n ≤ 12) (s : Nat) : gtC n r4 r5 W pr ch s ≤ 1188 := by
  have a := sur_b (r4 := r4) (r5 := r5) (pr := pr) hW h12 s
  have b := gsm_b (n := n) (r5 := r5) (pr := pr) (ch := ch) hW s (min 8 (dK n r5 pr))
  unfold gtC
  have : min 8 (dK n r5 pr) ≤ dK n r5 pr := Nat.min_le_right _ _
  omega
def kpS (pr : Int32) (bd g : Nat → Nat) (kp : Int32) : Prop := ∀ s, bt kp s = (decide (s < 6) && (bt pr s && decide (bd s ≤ g s)))
def SI (n m : Nat) (r4 r5 r12 W : Nat → Int32) (pr : Int32) (ch r52 r53 r54 r56 r57 r58 : Nat → Int32) : Prop :=
  r52 2 = pr ∧ r52 5 = zI (dK n r5 pr) ∧ (∀ j, j < 8 → j < dK n r5 pr → r53 j = zI (dl n r5 pr j) ∧ r54 j = clB n r5 pr j) ∧
  (∀ s, s < 6 → r56 s = zI (gtC n r4 r5 W pr ch s) ∧ r57 s = zI (nowN r4 W n s) ∧ r58 s = zI (bdN m r12 s)) ∧ kpS pr (bdN m r12) (gtC n r4 r5 W pr ch) (r52 12)
theorem si_up {n m : Nat} {r4 r5 r12 W : Nat → Int32} {pr : Int32} {ch ch' r52 r53 r54 r56 r57 r58 : Nat → Int32} (h : SI n m r4 r5 r12 W pr ch r52 r53 r54 r56 r57 r58) {o : Nat} (ho : o < 6) (hs : ∀ s, s < 6 → s ≠ o → gtC n r4 r5 W pr ch' s = gtC n r4 r5 W pr ch s) {kp' : Int32}
    (hk : ∀ j, bt kp' j = if j = o then (bt pr o && decide (bdN m r12 o ≤ gtC n r4 r5 W pr ch' o)) else bt (r52 12) j) : SI n m r4 r5 r12 W pr ch' (va_up r52 12 kp') r53 r54 (va_up r56 o (zI (gtC n r4 r5 W pr ch' o))) r57 r58 := by
  obtain ⟨h1, h2, h3, h4, h5⟩ := h
  refine ⟨h1, h2, h3, fun s hs6 => ⟨?_, (h4 s hs6).2⟩, fun s => ?_⟩
  · rw [va_ap]
    by_cases g : s = o
    · rw [if_pos g, g]
    · rw [if_neg g, hs s hs6 g]
      exact (h4 s hs6).1
  · rw [va_ap, if_pos rfl, hk]
    by_cases g : s = o
    · subst g
      rw [if_pos rfl, decide_eq_true ho, Bool.true_and]
    · rw [if_neg g, h5 s]
      by_cases g6 : s < 6
      · rw [hs s g6 g]
      · rw [decide_eq_false g6, Bool.false_and, Bool.false_and]
theorem si_ch {n m : Nat} {r4 r5 r12 W : Nat → Int32} {pr : Int32} {ch ch' r52 r53 r54 r56 r57 r58 : Nat → Int32} (h : SI n m r4 r5 r12 W pr ch r52 r53 r54 r56 r57 r58) (e : ∀ s, gtC n r4 r5 W pr ch' s = gtC n r4 r5 W pr ch s) : SI n m r4 r5 r12 W pr ch' r52 r53 r54 r56 r57 r58 := by
  have e2 : gtC n r4 r5 W pr ch' = gtC n r4 r5 W pr ch := funext e
  unfold SI
  rw [e2]
  exact h
theorem bdN_b {m : Nat} {r12 : Nat → Int32} (h : ∀ j, ∃ w, w ≤ 999 ∧ r12 j = zI w) (s : Nat) : bdN m r12 s ≤ 999 := by
  obtain ⟨w, hw, e⟩ := h s
  unfold bdN
  rw [e, zI_cn (by omega)]
  split <;> omega
def FrS (lo hi : Nat) (I K : Nat → Nat → Int32) : Prop := (∀ c, c < lo ∨ hi < c → K c = I c) ∧ ∀ j, j ≠ 2 → j ≠ 5 → j ≠ 12 → K lo j = I lo j
theorem FrS_r {lo hi : Nat} {I : Nat → Nat → Int32} : FrS lo hi I I := ⟨fun _ _ => rfl, fun _ _ _ _ => rfl⟩
theorem FrS_t {lo hi : Nat} {I K L : Nat → Nat → Int32} (h : FrS lo hi I K) (k : FrS lo hi K L) : FrS lo hi I L := ⟨fun c hc => (k.1 c hc).trans (h.1 c hc), fun j a b c => (k.2 j a b c).trans (h.2 j a b c)⟩
def nxC (c : Int32) (i : Nat) : Int32 := if i < cN (bt c) 6 then zI (nt (bt c) 6 i) else -1
section T1
variable {X : (Nat → Int32) × Nat} {mo : Bool} {G : Nat × Nat} {I : Nat → Nat → Int32} {J : Nat → Nat → Int64} {Q : Option Value → sm_M → Prop}
theorem cs_132l {k : Nat} (hk : k < 8) {c : Int32} (hc : I 54 k = c) : ∀ d s, s + d = 6 → sm_wp X 132 16 [some (.ref 52), some (.int (zI k)), none, some (.int (zI s))] [] (sM mo G I J) Q = Q (some (.int (nxC c (cN (bt c) s)))) (sM mo G I J) := by
  intro d
  induction d with
  | zero =>
    intro s hs
    have : s = 6 := by omega
    subst this
    rw [lp_132_16, if_pos (by decide)]
    unfold nxC
    rw [if_neg (Nat.lt_irrefl _)]
  | succ d ih =>
    intro s hs
    rw [lp_132_16, if_neg (by rw [zIl_le (c := 6) (by decide) (by omega)]; show ¬ 6 ≤ s; omega), zI_vp (by omega), eq_true hk, true_and, zI_cn (by omega), hc, show zI s + 1 = zI (s + 1) from zIr_add 1 s]
    cases g : bt c s with
    | false =>
      rw [if_pos (by rw [sb_0 c s (by omega)]; exact g), ih (s + 1) (by omega), cN_q (by rw [g]; decide)]
    | true =>
      rw [if_neg (by rw [sb_0 c s (by omega), g]; decide)]
      unfold nxC
      rw [if_pos (cN_lt (by omega) g), nt_c (by omega) g]
theorem cs_132 {k s : Nat} {x : Int32} (hk : k < 8) {c : Int32} (hc : I 54 k = c) (hs : s ≤ 6) (hx : x + 1 = zI s) : sm_wp X 132 0 [some (.ref 52), some (.int (zI k)), some (.int x), none] [] (sM mo G I J) Q = Q (some (.int (nxC c (cN (bt c) s)))) (sM mo G I J) := by
  rw [lp_132_0, if_neg (by rw [zIr_lt (c := 0) (by decide) (by omega)]; exact Nat.not_lt_zero _), if_pos (by rw [zIr_lt (c := 8) (by decide) (by omega)]; exact hk), hx]
  exact cs_132l hk hc (6 - s) s (by omega)
theorem cs_130 {s g bd : Nat} {x : Int32} (hs : s < 6) (e : I 56 s + x = zI g) (hg : g < 1000000) (hb : I 58 s = zI bd) (hbd : bd < 1000000) (hQ : ∀ kp', (∀ j, bt kp' j = if j = s then (bt (I 52 2) s && decide (bd ≤ g)) else bt (I 52 12) j) → (∀ j, 6 ≤ j → bt (I 52 12) j = false) → Q none (sM mo G (up2 (up2 I 56 s (zI g)) 52 12 kp') J)) (h6 : ∀ j, 6 ≤ j → bt (I 52 12) j = false) (hold : bt (I 52 12) s = true → bt (I 52 2) s = true) :
    sm_wp X 130 0 [some (.ref 52), some (.int (zI s)), some (.int x)] [] (sM mo G I J) Q := by
  rw [lp_130_0, if_neg (by rw [zIr_lt (c := 0) (by decide) (by omega)]; exact Nat.not_lt_zero _), if_pos (by rw [zIr_lt (c := 6) (by decide) (by omega)]; exact hs), zI_vp (by omega), zI_cn (by omega), e, up2_ss, hb]
  refine ⟨hs, ?_⟩
  have b1e : (1 : Int32) <<< (zI s &&& 31) = b1 s := rfl
  rw [b1e]
  by_cases g1 : g < bd
  · rw [if_pos (by rw [zI_lt (by omega) (by omega)]; exact g1)]
    refine hQ _ (fun j => ?_) h6
    by_cases j32 : j < 32
    · rw [bt_and, bt_xor, bt_m1 j32, Bool.xor_true, bt_b1 s j (by omega) j32]
      by_cases g2 : j = s
      · rw [if_pos g2, decide_eq_true g2, decide_eq_false (by omega), Bool.and_false, Bool.not_true, Bool.and_false]
      · rw [if_neg g2, decide_eq_false g2, Bool.not_false, Bool.and_true]
    · rw [bt_big _ _ (by omega), if_neg (by omega), bt_big _ _ (by omega)]
  · rw [if_neg (by rw [zI_lt (by omega) (by omega)]; exact g1)]
    refine hQ _ (fun j => ?_) h6
    by_cases j32 : j < 32
    · rw [bt_or, bt_and, bt_b1 s j (by omega) j32]
      by_cases g2 : j = s
      · rw [if_pos g2, g2, decide_eq_true rfl, decide_eq_true (by omega), Bool.and_true]
        cases k1 : bt (I 52 12) s with
        | false => exact Bool.false_or _
        | true => rw [hold k1]; rfl
      · rw [if_neg g2, decide_eq_false g2, Bool.and_false, Bool.or_false]
    · rw [bt_big _ _ (by omega), if_neg (by omega), bt_big _ _ (by omega)]
theorem cs_130n {x : Int32} : sm_wp X 130 0 [some (.ref 52), some (.int (-1)), some (.int x)] [] (sM mo G I J) Q = Q none (sM mo G I J) := by
  rw [lp_130_0, if_pos (by decide)]
theorem cs_130S {n m : Nat} {pr : Int32} {ch ch' : Nat → Int32} {o : Nat} {x : Int32} (ho : o < 6) (h12 : n ≤ 12) (hW : okW (I 13)) (hB : ∀ j, ∃ w, w ≤ 999 ∧ I 12 j = zI w) (h : SI n m (I 4) (I 5) (I 12) (I 13) pr ch (I 52) (I 53) (I 54) (I 56) (I 57) (I 58))
    (hs : ∀ s, s < 6 → s ≠ o → gtC n (I 4) (I 5) (I 13) pr ch' s = gtC n (I 4) (I 5) (I 13) pr ch s) (hx : zI (gtC n (I 4) (I 5) (I 13) pr ch o) + x = zI (gtC n (I 4) (I 5) (I 13) pr ch' o))
    (hQ : ∀ K, FrS 52 58 I K → K 53 = I 53 → K 54 = I 54 → K 55 = I 55 → SI n m (I 4) (I 5) (I 12) (I 13) pr ch' (K 52) (K 53) (K 54) (K 56) (K 57) (K 58) → Q none (sM mo G K J)) :
    sm_wp X 130 0 [some (.ref 52), some (.int (zI o)), some (.int x)] [] (sM mo G I J) Q := by
  have b1' := gtC_b (r4 := I 4) (r5 := I 5) (pr := pr) (ch := ch') hW h12 o
  have b2' := bdN_b (m := m) hB o
  have h4 := h.2.2.2.1 o ho
  have h5 := h.2.2.2.2
  refine cs_130 (bd := bdN m (I 12) o) ho (by rw [h4.1]; exact hx) (by omega) h4.2.2 (by omega) ?_ (fun j hj => by rw [h5 j, decide_eq_false (by omega), Bool.false_and]) (fun e => by
    rw [h5 o] at e
    simp only [Bool.and_eq_true] at e
    rw [h.1]
    exact e.2.1)
  intro kp' hk _
  rw [h.1] at hk
  have q := si_up h ho hs hk
  have n52 : up2 (up2 I 56 o (zI (gtC n (I 4) (I 5) (I 13) pr ch' o))) 52 12 kp' 52 = va_up (I 52) 12 kp' := by simp (decide := true) only [up2_ra, up2_rn, va_ap, ne_eq, if_false, if_true, not_false_eq_true]
  have n56 : up2 (up2 I 56 o (zI (gtC n (I 4) (I 5) (I 13) pr ch' o))) 52 12 kp' 56 = va_up (I 56) o (zI (gtC n (I 4) (I 5) (I 13) pr ch' o)) := by simp (decide := true) only [up2_ra, up2_rn, va_ap, ne_eq, if_false, if_true, not_false_eq_true]
  refine hQ _ ⟨fun c hc => ?_, fun j a b c => ?_⟩ (by simp (decide := true) only [up2_ra, up2_rn, va_ap, ne_eq, if_false, if_true, not_false_eq_true]) (by simp (decide := true) only [up2_ra, up2_rn, va_ap, ne_eq, if_false, if_true, not_false_eq_true]) (by simp (decide := true) only [up2_ra, up2_rn, va_ap, ne_eq, if_false, if_true, not_false_eq_true]) ?_
  · rw [up2_rn _ _ _ _ _ (by omega), up2_rn _ _ _ _ _ (by omega)]
  · rw [n52, va_ap, if_neg c]
  · rw [n52, n56]
    simp (decide := true) only [up2_ra, up2_rn, va_ap, ne_eq, if_false, if_true, not_false_eq_true]
    exact q
theorem cs_133 {n m k t : Nat} {pr : Int32} {ch : Nat → Int32} (hk : k < 8) (hkD : k < dK n (I 5) pr) (ht : t < 6) (h12 : n ≤ 12) (hW : okW (I 13)) (hB : ∀ j, ∃ w, w ≤ 999 ∧ I 12 j = zI w) (h : SI n m (I 4) (I 5) (I 12) (I 13) pr ch (I 52) (I 53) (I 54) (I 56) (I 57) (I 58)) (hc : ∀ j, j < 8 → j < dK n (I 5) pr → I 55 j = ch j) (ho : ch k = -1 ∨ ∃ o, o < 6 ∧ ch k = zI o)
    (hQ : ∀ K, FrS 52 58 I K → (∀ j, j < 8 → j < dK n (I 5) pr → K 55 j = va_up ch k (zI t) j) → SI n m (I 4) (I 5) (I 12) (I 13) pr (va_up ch k (zI t)) (K 52) (K 53) (K 54) (K 56) (K 57) (K 58) → Q none (sM mo G K J)) :
    sm_wp X 133 0 [some (.ref 52), some (.int (zI k)), some (.int (zI t))] [] (sM mo G I J) Q := by
  have dl12 : dl n (I 5) pr k < 12 := by
    have := (nt_p (P := stD (I 5) pr) (n := n) hkD).2.1
    show nt _ _ _ < 12
    omega
  have kK : k < min 8 (dK n (I 5) pr) := Nat.lt_min.mpr ⟨hk, hkD⟩
  have e53 : I 53 k = zI (dl n (I 5) pr k) := (h.2.2.1 k hk hkD).1
  -- the second half
  have half : ∀ K, FrS 52 58 I K → K 53 = I 53 → K 54 = I 54 → K 55 = I 55 → SI n m (I 4) (I 5) (I 12) (I 13) pr (va_up ch k (-1)) (K 52) (K 53) (K 54) (K 56) (K 57) (K 58) → sm_wp X 133 41 [some (.ref 52), some (.int (zI k)), some (.int (zI t))] [] (sM mo G K J) Q := by
    intro K fK k53 k54 k55 hK
    have k4 : K 4 = I 4 := fK.1 4 (by decide)
    have k5 : K 5 = I 5 := fK.1 5 (by decide)
    have k12 : K 12 = I 12 := fK.1 12 (by decide)
    have k13 : K 13 = I 13 := fK.1 13 (by decide)
    rw [lp_133_41, zI_vp (by omega), zI_cn (by omega), k13, k53, e53, wof_w hW ht dl12]
    refine ⟨hk, ?_⟩
    have nz : ∀ s, ¬ (-1 : Int32) = zI s ∨ 6 ≤ s := by
      intro s
      by_cases g : s < 6
      · left; rw [zI_m1' (by omega)]; exact id
      · right; omega
    have g1 : ∀ s, s < 6 → gsm n (I 5) (I 13) pr (va_up ch k (zI t)) (min 8 (dK n (I 5) pr)) s = gsm n (I 5) (I 13) pr (va_up ch k (-1)) (min 8 (dK n (I 5) pr)) s + (if t = s then ww (I 13) s (dl n (I 5) pr k) else 0) := by
      intro s hs
      have q1 := gsm_u (n := n) (r5 := I 5) (W := I 13) (pr := pr) (ch := ch) (zI t) s _ kK
      have q2 := gsm_u (n := n) (r5 := I 5) (W := I 13) (pr := pr) (ch := ch) (-1) s _ kK
      rw [if_neg (c := (-1 : Int32) = zI s) (by rw [zI_m1' (by omega)]; exact id)] at q2
      have e : (if zI t = zI s then ww (I 13) s (dl n (I 5) pr k) else 0) = (if t = s then ww (I 13) s (dl n (I 5) pr k) else 0) := by
        by_cases g : t = s
        · rw [if_pos (by rw [g]), if_pos g]
        · rw [if_neg (by rw [zI_eq (by omega) (by omega)]; exact g), if_neg g]
      rw [e] at q1
      omega
    refine cs_130S (I := K) (ch := va_up ch k (-1)) (ch' := va_up ch k (zI t)) (n := n) (m := m) (pr := pr) ht h12 (by rw [k13]; exact hW) (by rw [k12]; exact hB) (by rw [k4, k5, k12, k13]; exact hK) ?_ ?_ ?_
    · intro s hs hne
      rw [k4, k5, k13]
      unfold gtC
      rw [g1 s hs, if_neg (by omega), Nat.add_zero]
    · rw [k4, k5, k13, zI_add]
      unfold gtC
      rw [g1 t ht, if_pos rfl, Nat.add_assoc]
    · intro L fL l53 l54 l55 hL
      rw [k4, k5, k12, k13] at hL
      simp only [tl_none]
      rw [lp_133_60, zI_vp (by omega), zI_cn (by omega)]
      refine ⟨hk, hQ _ ⟨fun c hc => ?_, fun j a b c => ?_⟩ (fun j hj hjD => ?_) ?_⟩
      · rw [up2_rn _ _ _ _ _ (by omega), fL.1 c hc, fK.1 c hc]
      · rw [up2_rn _ _ _ _ _ (by decide), fL.2 j a b c, fK.2 j a b c]
      · rw [up2_ra, l55, k55, va_ap, va_ap, hc j hj hjD]
      · simp (decide := true) only [up2_ra, up2_rn, va_ap, ne_eq, if_false, if_true, not_false_eq_true]
        exact hL
  rw [lp_133_0, if_neg (by rw [zIr_lt (c := 0) (by decide) (by omega)]; exact Nat.not_lt_zero _), if_pos (by rw [zIr_lt (c := 8) (by decide) (by omega)]; exact hk), zI_vp (by omega), zI_cn (by omega), hc k hk hkD, e53]
  refine ⟨hk, ?_⟩
  rcases ho with ho | ⟨o, ho6, ho⟩
  · rw [ho, cs_130n]
    simp only [tl_none]
    refine half I FrS_r rfl rfl rfl (si_ch h (fun s => ?_))
    unfold gtC
    rw [gsm_c (ch := va_up ch k (-1)) (ch' := ch) (fun j _ => by
      rw [va_ap]
      by_cases g : j = k
      · rw [if_pos g, g, ho]
      · rw [if_neg g])]
  · rw [ho, wof_w hW ho6 dl12]
    have g1 : ∀ s, s < 6 → gsm n (I 5) (I 13) pr (va_up ch k (-1)) (min 8 (dK n (I 5) pr)) s + (if o = s then ww (I 13) s (dl n (I 5) pr k) else 0) = gsm n (I 5) (I 13) pr ch (min 8 (dK n (I 5) pr)) s := by
      intro s hs
      have q2 := gsm_u (n := n) (r5 := I 5) (W := I 13) (pr := pr) (ch := ch) (-1) s _ kK
      rw [if_neg (c := (-1 : Int32) = zI s) (by rw [zI_m1' (by omega)]; exact id), ho] at q2
      have e : (if zI o = zI s then ww (I 13) s (dl n (I 5) pr k) else 0) = (if o = s then ww (I 13) s (dl n (I 5) pr k) else 0) := by
        by_cases g : o = s
        · rw [if_pos (by rw [g]), if_pos g]
        · rw [if_neg (by rw [zI_eq (by omega) (by omega)]; exact g), if_neg g]
      rw [e] at q2
      omega
    refine cs_130S (ch := ch) (ch' := va_up ch k (-1)) (n := n) (m := m) (pr := pr) ho6 h12 hW hB h ?_ ?_ ?_
    · intro s hs hne
      unfold gtC
      have := g1 s hs
      rw [if_neg (by omega)] at this
      omega
    · unfold gtC
      have := g1 o ho6
      rw [if_pos rfl] at this
      rw [← this, ← Nat.add_assoc, ← zI_add, Int32.add_assoc, Int32.add_right_neg, Int32.add_zero]
    · intro K fK k53 k54 k55 hK
      simp only [tl_none]
      exact half K fK k53 k54 k55 hK
theorem cw_132l {k : Nat} (hk : k < 8) {c : Int32} (hc : I 62 k = c) : ∀ d s, s + d = 6 → sm_wp X 132 16 [some (.ref 60), some (.int (zI k)), none, some (.int (zI s))] [] (sM mo G I J) Q = Q (some (.int (nxC c (cN (bt c) s)))) (sM mo G I J) := by
  intro d
  induction d with
  | zero =>
    intro s hs
    have : s = 6 := by omega
    subst this
    rw [lpw_132_16, if_pos (by decide)]
    unfold nxC
    rw [if_neg (Nat.lt_irrefl _)]
  | succ d ih =>
    intro s hs
    rw [lpw_132_16, if_neg (by rw [zIl_le (c := 6) (by decide) (by omega)]; show ¬ 6 ≤ s; omega), zI_vp (by omega), eq_true hk, true_and, zI_cn (by omega), hc, show zI s + 1 = zI (s + 1) from zIr_add 1 s]
    cases g : bt c s with
    | false =>
      rw [if_pos (by rw [sb_0 c s (by omega)]; exact g), ih (s + 1) (by omega), cN_q (by rw [g]; decide)]
    | true =>
      rw [if_neg (by rw [sb_0 c s (by omega), g]; decide)]
      unfold nxC
      rw [if_pos (cN_lt (by omega) g), nt_c (by omega) g]
theorem cw_132 {k s : Nat} {x : Int32} (hk : k < 8) {c : Int32} (hc : I 62 k = c) (hs : s ≤ 6) (hx : x + 1 = zI s) : sm_wp X 132 0 [some (.ref 60), some (.int (zI k)), some (.int x), none] [] (sM mo G I J) Q = Q (some (.int (nxC c (cN (bt c) s)))) (sM mo G I J) := by
  rw [lpw_132_0, if_neg (by rw [zIr_lt (c := 0) (by decide) (by omega)]; exact Nat.not_lt_zero _), if_pos (by rw [zIr_lt (c := 8) (by decide) (by omega)]; exact hk), hx]
  exact cw_132l hk hc (6 - s) s (by omega)
theorem cw_130 {s g bd : Nat} {x : Int32} (hs : s < 6) (e : I 64 s + x = zI g) (hg : g < 1000000) (hb : I 66 s = zI bd) (hbd : bd < 1000000) (hQ : ∀ kp', (∀ j, bt kp' j = if j = s then (bt (I 60 2) s && decide (bd ≤ g)) else bt (I 60 12) j) → (∀ j, 6 ≤ j → bt (I 60 12) j = false) → Q none (sM mo G (up2 (up2 I 64 s (zI g)) 60 12 kp') J)) (h6 : ∀ j, 6 ≤ j → bt (I 60 12) j = false) (hold : bt (I 60 12) s = true → bt (I 60 2) s = true) :
    sm_wp X 130 0 [some (.ref 60), some (.int (zI s)), some (.int x)] [] (sM mo G I J) Q := by
  rw [lpw_130_0, if_neg (by rw [zIr_lt (c := 0) (by decide) (by omega)]; exact Nat.not_lt_zero _), if_pos (by rw [zIr_lt (c := 6) (by decide) (by omega)]; exact hs), zI_vp (by omega), zI_cn (by omega), e, up2_ss, hb]
  refine ⟨hs, ?_⟩
  have b1e : (1 : Int32) <<< (zI s &&& 31) = b1 s := rfl
  rw [b1e]
  by_cases g1 : g < bd
  · rw [if_pos (by rw [zI_lt (by omega) (by omega)]; exact g1)]
    refine hQ _ (fun j => ?_) h6
    by_cases j32 : j < 32
    · rw [bt_and, bt_xor, bt_m1 j32, Bool.xor_true, bt_b1 s j (by omega) j32]
      by_cases g2 : j = s
      · rw [if_pos g2, decide_eq_true g2, decide_eq_false (by omega), Bool.and_false, Bool.not_true, Bool.and_false]
      · rw [if_neg g2, decide_eq_false g2, Bool.not_false, Bool.and_true]
    · rw [bt_big _ _ (by omega), if_neg (by omega), bt_big _ _ (by omega)]
  · rw [if_neg (by rw [zI_lt (by omega) (by omega)]; exact g1)]
    refine hQ _ (fun j => ?_) h6
    by_cases j32 : j < 32
    · rw [bt_or, bt_and, bt_b1 s j (by omega) j32]
      by_cases g2 : j = s
      · rw [if_pos g2, g2, decide_eq_true rfl, decide_eq_true (by omega), Bool.and_true]
        cases k1 : bt (I 60 12) s with
        | false => exact Bool.false_or _
        | true => rw [hold k1]; rfl
      · rw [if_neg g2, decide_eq_false g2, Bool.and_false, Bool.or_false]
    · rw [bt_big _ _ (by omega), if_neg (by omega), bt_big _ _ (by omega)]
theorem cw_130n {x : Int32} : sm_wp X 130 0 [some (.ref 60), some (.int (-1)), some (.int x)] [] (sM mo G I J) Q = Q none (sM mo G I J) := by
  rw [lpw_130_0, if_pos (by decide)]
theorem cw_130S {n m : Nat} {pr : Int32} {ch ch' : Nat → Int32} {o : Nat} {x : Int32} (ho : o < 6) (h12 : n ≤ 12) (hW : okW (I 13)) (hB : ∀ j, ∃ w, w ≤ 999 ∧ I 12 j = zI w) (h : SI n m (I 4) (I 5) (I 12) (I 13) pr ch (I 60) (I 61) (I 62) (I 64) (I 65) (I 66))
    (hs : ∀ s, s < 6 → s ≠ o → gtC n (I 4) (I 5) (I 13) pr ch' s = gtC n (I 4) (I 5) (I 13) pr ch s) (hx : zI (gtC n (I 4) (I 5) (I 13) pr ch o) + x = zI (gtC n (I 4) (I 5) (I 13) pr ch' o))
    (hQ : ∀ K, FrS 60 66 I K → K 61 = I 61 → K 62 = I 62 → K 63 = I 63 → SI n m (I 4) (I 5) (I 12) (I 13) pr ch' (K 60) (K 61) (K 62) (K 64) (K 65) (K 66) → Q none (sM mo G K J)) :
    sm_wp X 130 0 [some (.ref 60), some (.int (zI o)), some (.int x)] [] (sM mo G I J) Q := by
  have b1' := gtC_b (r4 := I 4) (r5 := I 5) (pr := pr) (ch := ch') hW h12 o
  have b2' := bdN_b (m := m) hB o
  have h4 := h.2.2.2.1 o ho
  have h5 := h.2.2.2.2
  refine cw_130 (bd := bdN m (I 12) o) ho (by rw [h4.1]; exact hx) (by omega) h4.2.2 (by omega) ?_ (fun j hj => by rw [h5 j, decide_eq_false (by omega), Bool.false_and]) (fun e => by
    rw [h5 o] at e
    simp only [Bool.and_eq_true] at e
    rw [h.1]
    exact e.2.1)
  intro kp' hk _
  rw [h.1] at hk
  have q := si_up h ho hs hk
  have n52 : up2 (up2 I 64 o (zI (gtC n (I 4) (I 5) (I 13) pr ch' o))) 60 12 kp' 60 = va_up (I 60) 12 kp' := by simp (decide := true) only [up2_ra, up2_rn, va_ap, ne_eq, if_false, if_true, not_false_eq_true]
  have n56 : up2 (up2 I 64 o (zI (gtC n (I 4) (I 5) (I 13) pr ch' o))) 60 12 kp' 64 = va_up (I 64) o (zI (gtC n (I 4) (I 5) (I 13) pr ch' o)) := by simp (decide := true) only [up2_ra, up2_rn, va_ap, ne_eq, if_false, if_true, not_false_eq_true]
  refine hQ _ ⟨fun c hc => ?_, fun j a b c => ?_⟩ (by simp (decide := true) only [up2_ra, up2_rn, va_ap, ne_eq, if_false, if_true, not_false_eq_true]) (by simp (decide := true) only [up2_ra, up2_rn, va_ap, ne_eq, if_false, if_true, not_false_eq_true]) (by simp (decide := true) only [up2_ra, up2_rn, va_ap, ne_eq, if_false, if_true, not_false_eq_true]) ?_
  · rw [up2_rn _ _ _ _ _ (by omega), up2_rn _ _ _ _ _ (by omega)]
  · rw [n52, va_ap, if_neg c]
  · rw [n52, n56]
    simp (decide := true) only [up2_ra, up2_rn, va_ap, ne_eq, if_false, if_true, not_false_eq_true]
    exact q
theorem cw_133 {n m k t : Nat} {pr : Int32} {ch : Nat → Int32} (hk : k < 8) (hkD : k < dK n (I 5) pr) (ht : t < 6) (h12 : n ≤ 12) (hW : okW (I 13)) (hB : ∀ j, ∃ w, w ≤ 999 ∧ I 12 j = zI w) (h : SI n m (I 4) (I 5) (I 12) (I 13) pr ch (I 60) (I 61) (I 62) (I 64) (I 65) (I 66)) (hc : ∀ j, j < 8 → j < dK n (I 5) pr → I 63 j = ch j) (ho : ch k = -1 ∨ ∃ o, o < 6 ∧ ch k = zI o)
    (hQ : ∀ K, FrS 60 66 I K → (∀ j, j < 8 → j < dK n (I 5) pr → K 63 j = va_up ch k (zI t) j) → SI n m (I 4) (I 5) (I 12) (I 13) pr (va_up ch k (zI t)) (K 60) (K 61) (K 62) (K 64) (K 65) (K 66) → Q none (sM mo G K J)) :
    sm_wp X 133 0 [some (.ref 60), some (.int (zI k)), some (.int (zI t))] [] (sM mo G I J) Q := by
  have dl12 : dl n (I 5) pr k < 12 := by
    have := (nt_p (P := stD (I 5) pr) (n := n) hkD).2.1
    show nt _ _ _ < 12
    omega
  have kK : k < min 8 (dK n (I 5) pr) := Nat.lt_min.mpr ⟨hk, hkD⟩
  have e53 : I 61 k = zI (dl n (I 5) pr k) := (h.2.2.1 k hk hkD).1
  -- the second half
  have half : ∀ K, FrS 60 66 I K → K 61 = I 61 → K 62 = I 62 → K 63 = I 63 → SI n m (I 4) (I 5) (I 12) (I 13) pr (va_up ch k (-1)) (K 60) (K 61) (K 62) (K 64) (K 65) (K 66) → sm_wp X 133 41 [some (.ref 60), some (.int (zI k)), some (.int (zI t))] [] (sM mo G K J) Q := by
    intro K fK k53 k54 k55 hK
    have k4 : K 4 = I 4 := fK.1 4 (by decide)
    have k5 : K 5 = I 5 := fK.1 5 (by decide)
    have k12 : K 12 = I 12 := fK.1 12 (by decide)
    have k13 : K 13 = I 13 := fK.1 13 (by decide)
    rw [lpw_133_41, zI_vp (by omega), zI_cn (by omega), k13, k53, e53, wof_w hW ht dl12]
    refine ⟨hk, ?_⟩
    have nz : ∀ s, ¬ (-1 : Int32) = zI s ∨ 6 ≤ s := by
      intro s
      by_cases g : s < 6
      · left; rw [zI_m1' (by omega)]; exact id
      · right; omega
    have g1 : ∀ s, s < 6 → gsm n (I 5) (I 13) pr (va_up ch k (zI t)) (min 8 (dK n (I 5) pr)) s = gsm n (I 5) (I 13) pr (va_up ch k (-1)) (min 8 (dK n (I 5) pr)) s + (if t = s then ww (I 13) s (dl n (I 5) pr k) else 0) := by
      intro s hs
      have q1 := gsm_u (n := n) (r5 := I 5) (W := I 13) (pr := pr) (ch := ch) (zI t) s _ kK
      have q2 := gsm_u (n := n) (r5 := I 5) (W := I 13) (pr := pr) (ch := ch) (-1) s _ kK
      rw [if_neg (c := (-1 : Int32) = zI s) (by rw [zI_m1' (by omega)]; exact id)] at q2
      have e : (if zI t = zI s then ww (I 13) s (dl n (I 5) pr k) else 0) = (if t = s then ww (I 13) s (dl n (I 5) pr k) else 0) := by
        by_cases g : t = s
        · rw [if_pos (by rw [g]), if_pos g]
        · rw [if_neg (by rw [zI_eq (by omega) (by omega)]; exact g), if_neg g]
      rw [e] at q1
      omega
    refine cw_130S (I := K) (ch := va_up ch k (-1)) (ch' := va_up ch k (zI t)) (n := n) (m := m) (pr := pr) ht h12 (by rw [k13]; exact hW) (by rw [k12]; exact hB) (by rw [k4, k5, k12, k13]; exact hK) ?_ ?_ ?_
    · intro s hs hne
      rw [k4, k5, k13]
      unfold gtC
      rw [g1 s hs, if_neg (by omega), Nat.add_zero]
    · rw [k4, k5, k13, zI_add]
      unfold gtC
      rw [g1 t ht, if_pos rfl, Nat.add_assoc]
    · intro L fL l53 l54 l55 hL
      rw [k4, k5, k12, k13] at hL
      simp only [tl_none]
      rw [lpw_133_60, zI_vp (by omega), zI_cn (by omega)]
      refine ⟨hk, hQ _ ⟨fun c hc => ?_, fun j a b c => ?_⟩ (fun j hj hjD => ?_) ?_⟩
      · rw [up2_rn _ _ _ _ _ (by omega), fL.1 c hc, fK.1 c hc]
      · rw [up2_rn _ _ _ _ _ (by decide), fL.2 j a b c, fK.2 j a b c]
      · rw [up2_ra, l55, k55, va_ap, va_ap, hc j hj hjD]
      · simp (decide := true) only [up2_ra, up2_rn, va_ap, ne_eq, if_false, if_true, not_false_eq_true]
        exact hL
  rw [lpw_133_0, if_neg (by rw [zIr_lt (c := 0) (by decide) (by omega)]; exact Nat.not_lt_zero _), if_pos (by rw [zIr_lt (c := 8) (by decide) (by omega)]; exact hk), zI_vp (by omega), zI_cn (by omega), hc k hk hkD, e53]
  refine ⟨hk, ?_⟩
  rcases ho with ho | ⟨o, ho6, ho⟩
  · rw [ho, cw_130n]
    simp only [tl_none]
    refine half I FrS_r rfl rfl rfl (si_ch h (fun s => ?_))
    unfold gtC
    rw [gsm_c (ch := va_up ch k (-1)) (ch' := ch) (fun j _ => by
      rw [va_ap]
      by_cases g : j = k
      · rw [if_pos g, g, ho]
      · rw [if_neg g])]
  · rw [ho, wof_w hW ho6 dl12]
    have g1 : ∀ s, s < 6 → gsm n (I 5) (I 13) pr (va_up ch k (-1)) (min 8 (dK n (I 5) pr)) s + (if o = s then ww (I 13) s (dl n (I 5) pr k) else 0) = gsm n (I 5) (I 13) pr ch (min 8 (dK n (I 5) pr)) s := by
      intro s hs
      have q2 := gsm_u (n := n) (r5 := I 5) (W := I 13) (pr := pr) (ch := ch) (-1) s _ kK
      rw [if_neg (c := (-1 : Int32) = zI s) (by rw [zI_m1' (by omega)]; exact id), ho] at q2
      have e : (if zI o = zI s then ww (I 13) s (dl n (I 5) pr k) else 0) = (if o = s then ww (I 13) s (dl n (I 5) pr k) else 0) := by
        by_cases g : o = s
        · rw [if_pos (by rw [g]), if_pos g]
        · rw [if_neg (by rw [zI_eq (by omega) (by omega)]; exact g), if_neg g]
      rw [e] at q2
      omega
    refine cw_130S (ch := ch) (ch' := va_up ch k (-1)) (n := n) (m := m) (pr := pr) ho6 h12 hW hB h ?_ ?_ ?_
    · intro s hs hne
      unfold gtC
      have := g1 s hs
      rw [if_neg (by omega)] at this
      omega
    · unfold gtC
      have := g1 o ho6
      rw [if_pos rfl] at this
      rw [← this, ← Nat.add_assoc, ← zI_add, Int32.add_assoc, Int32.add_right_neg, Int32.add_zero]
    · intro K fK k53 k54 k55 hK
      simp only [tl_none]
      exact half K fK k53 k54 k55 hK
end T1
end
section
/-! Settlements: what is prepared. -/
theorem dsp_e {I : Nat → Nat → Int32} {n l : Nat} {pr : Int32} (hn : I 1 0 = zI n) (h12 : n ≤ 12) (hl : l < n) (h6 : ∀ l k, 6 ≤ k → bt (I 5 l) k = false) : (vf_Realm_isDisputed I (zI l) pr ↔ stD (I 5) pr l = true) ∧ aLand I 5 0 (zI l) = I 5 l := by
  have e : aLand I 5 0 (zI l) = I 5 l := by
    unfold aLand
    rw [if_pos (by rw [hLand_vp hn h12, zI_sIn (by omega) (by omega)]; exact hl), zI_cn (by omega)]
  refine ⟨?_, e⟩
  unfold vf_Realm_isDisputed
  have b := bc_6 (x := I 5 l &&& pr) (fun k hk => by rw [bt_and, h6 l k hk, Bool.false_and])
  rw [e, b.1, zIr_lt (c := 2) (by decide) (by omega)]
  unfold stD
  rw [decide_eq_true_iff]
  show ¬ pc6 (I 5 l &&& pr) < 2 ↔ _
  omega
theorem gtC_n (n : Nat) (r4 r5 W : Nat → Int32) (pr : Int32) (s : Nat) (hs : s < 6) : gtC n r4 r5 W pr (fun _ => -1) s = sur n r4 r5 W pr s := by
  have e : ∀ K, gsm n r5 W pr (fun _ => -1) K s = 0 := by
    intro K
    induction K with
    | zero => rfl
    | succ K ih => rw [gsm_s, if_neg (by rw [zI_m1' (by omega)]; exact id), ih]
  unfold gtC
  rw [e]
  rfl
section T2
variable {X : (Nat → Int32) × Nat} {mo : Bool} {G : Nat × Nat} {I : Nat → Nat → Int32} {J : Nat → Nat → Int64} {Q : Option Value → sm_M → Prop}
def cs_P1 (n : Nat) (r5 : Nat → Int32) (pr : Int32) (l : Nat) (K : Nat → Nat → Int32) : Prop := K 52 2 = pr ∧ K 52 12 = 0 ∧ K 52 5 = zI (cN (stD r5 pr) l) ∧ ∀ j, j < 8 → j < cN (stD r5 pr) l → K 53 j = zI (dl n r5 pr j) ∧ K 54 j = clB n r5 pr j ∧ K 55 j = -1
def cs_P2 (n m : Nat) (r4 r5 r12 W : Nat → Int32) (pr : Int32) (t : Nat) (K : Nat → Nat → Int32) : Prop := K 52 2 = pr ∧ K 52 5 = zI (dK n r5 pr) ∧ (∀ j, j < 8 → j < dK n r5 pr → K 53 j = zI (dl n r5 pr j) ∧ K 54 j = clB n r5 pr j ∧ K 55 j = -1) ∧
  (∀ s, s < t → K 56 s = zI (sur n r4 r5 W pr s) ∧ K 57 s = zI (nowN r4 W n s) ∧ K 58 s = zI (bdN m r12 s)) ∧ ∀ s, bt (K 52 12) s = (decide (s < t) && (bt pr s && decide (bdN m r12 s ≤ sur n r4 r5 W pr s)))
theorem cs_129b {n m : Nat} {pr : Int32} (hn : I 1 0 = zI n) (h12 : n ≤ 12) (hm : I 1 1 = zI m) (h6m : m ≤ 6) (hW : okW (I 13)) (hB : ∀ j, ∃ w, w ≤ 999 ∧ I 12 j = zI w)
    (hQ : ∀ K, FrS 52 58 I K → (∀ j, j < 8 → j < dK n (I 5) pr → K 55 j = -1) → SI n m (I 4) (I 5) (I 12) (I 13) pr (fun _ => -1) (K 52) (K 53) (K 54) (K 56) (K 57) (K 58) → Q none (sM mo G K J)) :
    ∀ d t, t + d = 6 → ∀ K, FrS 52 58 I K → cs_P2 n m (I 4) (I 5) (I 12) (I 13) pr t K → sm_wp X 129 117 [some (.ref 52), none, some (.int (fxd (I 5) pr n)), some (.int (zI t)), none] [] (sM mo G K J) Q := by
  intro d
  induction d with
  | zero =>
    intro t ht K f h
    have : t = 6 := by omega
    subst this
    rw [lp_129_117, if_pos (by decide)]
    obtain ⟨h1, h2, h3, h4, h5⟩ := h
    refine hQ K f (fun j a b => (h3 j a b).2.2) ⟨h1, h2, fun j a b => ⟨(h3 j a b).1, (h3 j a b).2.1⟩, fun s hs => ?_, fun s => ?_⟩
    · rw [gtC_n _ _ _ _ _ _ hs]; exact h4 s hs
    · rw [h5 s]
      by_cases g : s < 6
      · rw [gtC_n _ _ _ _ _ _ g]
      · rw [decide_eq_false g, Bool.false_and, Bool.false_and]
  | succ d ih =>
    intro t ht K f h
    have k1 : K 1 = I 1 := f.1 1 (by decide)
    have k4 : K 4 = I 4 := f.1 4 (by decide)
    have k12 : K 12 = I 12 := f.1 12 (by decide)
    have k13 : K 13 = I 13 := f.1 13 (by decide)
    have t6 : t < 6 := by omega
    obtain ⟨h1, h2, h3, h4, h5⟩ := h
    rw [lp_129_117, if_neg (by rw [zIl_le (c := 6) (by decide) (by omega)]; show ¬ 6 ≤ t; omega), ct_landsHeld _ _ _ _ _ _ (by rw [k1]; exact hn) h12, k4]
    simp only [tl_some]
    rw [lp_129_131, ct_worthOfLands _ _ _ _ _ _ (by rw [k1]; exact hn) h12, k13, wsum_w hW t6 h12]
    simp only [tl_some]
    rw [lp_129_148, zI_vp (by omega), zI_cn (by omega)]
    refine ⟨t6, t6, ?_⟩
    have e12 : aState (up2 K 57 t (zI (wA (I 13) t (hlds (I 4) (zI t) n) n))) 12 0 (zI t) = zI (bdN m (I 12) t) := by
      unfold aState bdN
      have hh : hState (up2 K 57 t (zI (wA (I 13) t (hlds (I 4) (zI t) n) n))) (zI t) = (t < m) := by
        rw [hState_vp (n := m) (by rw [up2_rn _ _ _ _ _ (by decide), k1]; exact hm) h6m, zI_sIn (by omega) (by omega)]
      by_cases g : t < m
      · rw [if_pos (by rw [hh]; exact g), if_pos g, up2_rn _ _ _ _ _ (by decide), k12, zI_cn (by omega)]
        obtain ⟨w, hw, e⟩ := hB t
        rw [e, zI_cn (by omega)]
      · rw [if_neg (by rw [hh]; exact g), if_neg g]
        rfl
    rw [e12]
    generalize hL : up2 (up2 (up2 K 57 t (zI (wA (I 13) t (hlds (I 4) (zI t) n) n))) 58 t (zI (bdN m (I 12) t))) 56 t 0 = L
    have l52 : L 52 = K 52 := by rw [← hL]; simp (decide := true) only [up2_ra, up2_rn, va_ap, ne_eq, if_false, if_true, not_false_eq_true]
    have l53 : L 53 = K 53 := by rw [← hL]; simp (decide := true) only [up2_ra, up2_rn, va_ap, ne_eq, if_false, if_true, not_false_eq_true]
    have l54 : L 54 = K 54 := by rw [← hL]; simp (decide := true) only [up2_ra, up2_rn, va_ap, ne_eq, if_false, if_true, not_false_eq_true]
    have l55 : L 55 = K 55 := by rw [← hL]; simp (decide := true) only [up2_ra, up2_rn, va_ap, ne_eq, if_false, if_true, not_false_eq_true]
    have l56 : L 56 = va_up (K 56) t 0 := by rw [← hL]; simp (decide := true) only [up2_ra, up2_rn, va_ap, ne_eq, if_false, if_true, not_false_eq_true]
    have l57 : L 57 = va_up (K 57) t (zI (nowN (I 4) (I 13) n t)) := by rw [← hL]; simp (decide := true) only [up2_ra, up2_rn, va_ap, ne_eq, if_false, if_true, not_false_eq_true]; rfl
    have l58 : L 58 = va_up (K 58) t (zI (bdN m (I 12) t)) := by rw [← hL]; simp (decide := true) only [up2_ra, up2_rn, va_ap, ne_eq, if_false, if_true, not_false_eq_true]
    have fL : FrS 52 58 I L := by
      refine ⟨fun c hc => ?_, fun j a b c => ?_⟩
      · rw [← hL, up2_rn _ _ _ _ _ (by omega), up2_rn _ _ _ _ _ (by omega), up2_rn _ _ _ _ _ (by omega), f.1 c hc]
      · rw [l52, f.2 j a b c]
    have L1 : L 1 = I 1 := fL.1 1 (by decide)
    have L13 : L 13 = I 13 := fL.1 13 (by decide)
    rw [ct_worthOfLands _ _ _ _ _ _ (by rw [L1]; exact hn) h12, L13, wsum_w hW t6 h12]
    simp only [tl_some]
    rw [lp_129_184]
    have sb := sur_b (r4 := I 4) (r5 := I 5) (pr := pr) hW h12 t
    have bb := bdN_b (m := m) hB t
    refine cs_130 (bd := bdN m (I 12) t) (g := sur n (I 4) (I 5) (I 13) pr t) t6 (by rw [l56, va_ap, if_pos rfl, Int32.zero_add]; rfl) (by omega) (by rw [l58, va_ap, if_pos rfl]) (by omega) ?_ (fun j hj => by rw [l52, h5 j, decide_eq_false (by omega), Bool.false_and]) (fun e => by
      rw [l52, h5 t, decide_eq_false (Nat.lt_irrefl _), Bool.false_and] at e
      cases e)
    intro kp' hk _
    rw [l52, h1] at hk
    simp only [tl_none]
    rw [lp_129_187, show zI t + 1 = zI (t + 1) from zIr_add 1 t]
    generalize hN : up2 (up2 L 56 t (zI (sur n (I 4) (I 5) (I 13) pr t))) 52 12 kp' = N
    have n52 : N 52 = va_up (K 52) 12 kp' := by rw [← hN, ← l52]; simp (decide := true) only [up2_ra, up2_rn, va_ap, ne_eq, if_false, if_true, not_false_eq_true]
    have n53 : N 53 = K 53 := by rw [← hN, ← l53]; simp (decide := true) only [up2_ra, up2_rn, va_ap, ne_eq, if_false, if_true, not_false_eq_true]
    have n54 : N 54 = K 54 := by rw [← hN, ← l54]; simp (decide := true) only [up2_ra, up2_rn, va_ap, ne_eq, if_false, if_true, not_false_eq_true]
    have n55 : N 55 = K 55 := by rw [← hN, ← l55]; simp (decide := true) only [up2_ra, up2_rn, va_ap, ne_eq, if_false, if_true, not_false_eq_true]
    have n56 : N 56 = va_up (L 56) t (zI (sur n (I 4) (I 5) (I 13) pr t)) := by rw [← hN]; simp (decide := true) only [up2_ra, up2_rn, va_ap, ne_eq, if_false, if_true, not_false_eq_true]
    have n57 : N 57 = L 57 := by rw [← hN]; simp (decide := true) only [up2_ra, up2_rn, va_ap, ne_eq, if_false, if_true, not_false_eq_true]
    have n58 : N 58 = L 58 := by rw [← hN]; simp (decide := true) only [up2_ra, up2_rn, va_ap, ne_eq, if_false, if_true, not_false_eq_true]
    refine ih (t + 1) (by omega) N ⟨fun c hc => ?_, fun j a b c => ?_⟩ ⟨?_, ?_, ?_, ?_, ?_⟩
    · rw [← hN, up2_rn _ _ _ _ _ (by omega), up2_rn _ _ _ _ _ (by omega), fL.1 c hc]
    · rw [n52, va_ap, if_neg c, f.2 j a b c]
    · rw [n52]; exact h1
    · rw [n52]; exact h2
    · rw [n53, n54, n55]; exact h3
    · intro s hs
      rw [n56, n57, n58, l56, l57, l58]
      simp only [va_ap]
      by_cases g : s = t
      · subst g; simp only [if_true]; exact ⟨trivial, trivial, trivial⟩
      · simp only [if_neg g]; exact h4 s (by omega)
    · intro s
      rw [n52, va_ap, if_pos rfl, hk s]
      by_cases g : s = t
      · subst g
        rw [if_pos rfl, decide_eq_true (Nat.lt_succ_self _), Bool.true_and]
      · rw [if_neg g, h5 s]
        have e : decide (s < t + 1) = decide (s < t) := by
          by_cases g2 : s < t
          · rw [decide_eq_true g2, decide_eq_true (by omega)]
          · rw [decide_eq_false g2, decide_eq_false (by omega)]
        rw [e]
theorem cs_129 {n m : Nat} {pr : Int32} (hn : I 1 0 = zI n) (h12 : n ≤ 12) (hm : I 1 1 = zI m) (h6m : m ≤ 6) (h6 : ∀ l k, 6 ≤ k → bt (I 5 l) k = false) (hW : okW (I 13)) (hB : ∀ j, ∃ w, w ≤ 999 ∧ I 12 j = zI w)
    (hQ : ∀ K, FrS 52 58 I K → (∀ j, j < 8 → j < dK n (I 5) pr → K 55 j = -1) → SI n m (I 4) (I 5) (I 12) (I 13) pr (fun _ => -1) (K 52) (K 53) (K 54) (K 56) (K 57) (K 58) → Q none (sM mo G K J)) :
    sm_wp X 129 0 [some (.ref 52), some (.int pr), none, none, none] [] (sM mo G I J) Q := by
  have key : ∀ d l, l + d = n → ∀ K, FrS 52 58 I K → cs_P1 n (I 5) pr l K → sm_wp X 129 19 [some (.ref 52), some (.int pr), some (.int (fxd (I 5) pr l)), some (.int (zI l)), none] [] (sM mo G K J) Q := by
    intro d
    induction d with
    | zero =>
      intro l hl K f h
      have : l = n := by omega
      subst this
      have k1 : K 1 = I 1 := f.1 1 (by decide)
      obtain ⟨h1, h2, h3, h4⟩ := h
      rw [lp_129_19, k1, hn, if_pos (by rw [zI_le (by omega) (by omega)]; omega)]
      refine cs_129b hn h12 hm h6m hW hB hQ 6 0 (by omega) K f ⟨h1, h3, h4, fun s hs => absurd hs (Nat.not_lt_zero _), fun s => ?_⟩
      rw [h2, bt_0, decide_eq_false (Nat.not_lt_zero _), Bool.false_and]
    | succ d ih =>
      intro l hl K f h
      have k1 : K 1 = I 1 := f.1 1 (by decide)
      have k5 : K 5 = I 5 := f.1 5 (by decide)
      have ln : l < n := by omega
      obtain ⟨h1, h2, h3, h4⟩ := h
      have de := dsp_e (I := K) (pr := pr) (by rw [k1]; exact hn) h12 ln (by rw [k5]; exact h6)
      rw [k5] at de
      have c12 := cN_le (stD (I 5) pr) l
      rw [lp_129_19, k1, hn, if_neg (by rw [zI_le (by omega) (by omega)]; omega), show zI l + 1 = zI (l + 1) from zIr_add 1 l]
      have fx : fxd (I 5) pr (l + 1) = if stD (I 5) pr l = true then fxd (I 5) pr l else fxd (I 5) pr l ||| b1 l := rfl
      by_cases g : stD (I 5) pr l = true
      · rw [if_pos g] at fx
        rw [if_pos (de.1.mpr g), h3, ← fx, show zI (cN (stD (I 5) pr) l) + 1 = zI (cN (stD (I 5) pr) l + 1) from zIr_add 1 _]
        by_cases g8 : 8 ≤ cN (stD (I 5) pr) l
        · rw [if_pos (by rw [zIl_le (c := 8) (by decide) (by omega)]; exact g8)]
          refine ih (l + 1) (by omega) _ ⟨fun c hc => ?_, fun j a b c => ?_⟩ ⟨?_, ?_, ?_, fun j hj hj2 => ?_⟩
          · rw [up2_rn _ _ _ _ _ (by omega), f.1 c hc]
          · rw [up2_ra, va_ap, if_neg b, f.2 j a b c]
          · rw [up2_ra, va_ap, if_neg (by decide)]; exact h1
          · rw [up2_ra, va_ap, if_neg (by decide)]; exact h2
          · rw [up2_ra, va_ap, if_pos rfl, cN_p g]
          · rw [up2_rn _ _ _ _ _ (by decide), up2_rn _ _ _ _ _ (by decide), up2_rn _ _ _ _ _ (by decide)]
            exact h4 j hj (by omega)
        · rw [if_neg (by rw [zIl_le (c := 8) (by decide) (by omega)]; exact g8), zI_vp (by omega), zI_cn (by omega)]
          refine ⟨by omega, ?_⟩
          have ea : aLand (up2 K 53 (cN (stD (I 5) pr) l) (zI l)) 5 0 (zI l) = I 5 l := by
            have := (dsp_e (I := up2 K 53 (cN (stD (I 5) pr) l) (zI l)) (pr := pr) (by rw [up2_rn _ _ _ _ _ (by decide), k1]; exact hn) h12 ln (by rw [up2_rn _ _ _ _ _ (by decide), k5]; exact h6)).2
            rw [this, up2_rn _ _ _ _ _ (by decide), k5]
          rw [ea]
          generalize hL : up2 (up2 (up2 (up2 K 53 (cN (stD (I 5) pr) l) (zI l)) 54 (cN (stD (I 5) pr) l) (I 5 l &&& pr)) 55 (cN (stD (I 5) pr) l) (-1)) 52 5 (zI (cN (stD (I 5) pr) l + 1)) = L
          have l52 : L 52 = va_up (K 52) 5 (zI (cN (stD (I 5) pr) l + 1)) := by rw [← hL]; simp (decide := true) only [up2_ra, up2_rn, va_ap, ne_eq, if_false, if_true, not_false_eq_true]
          have l53 : L 53 = va_up (K 53) (cN (stD (I 5) pr) l) (zI l) := by rw [← hL]; simp (decide := true) only [up2_ra, up2_rn, va_ap, ne_eq, if_false, if_true, not_false_eq_true]
          have l54 : L 54 = va_up (K 54) (cN (stD (I 5) pr) l) (I 5 l &&& pr) := by rw [← hL]; simp (decide := true) only [up2_ra, up2_rn, va_ap, ne_eq, if_false, if_true, not_false_eq_true]
          have l55 : L 55 = va_up (K 55) (cN (stD (I 5) pr) l) (-1) := by rw [← hL]; simp (decide := true) only [up2_ra, up2_rn, va_ap, ne_eq, if_false, if_true, not_false_eq_true]
          refine ih (l + 1) (by omega) L ⟨fun c hc => ?_, fun j a b c => ?_⟩ ⟨?_, ?_, ?_, fun j hj hj2 => ?_⟩
          · rw [← hL, up2_rn _ _ _ _ _ (by omega), up2_rn _ _ _ _ _ (by omega), up2_rn _ _ _ _ _ (by omega), up2_rn _ _ _ _ _ (by omega), f.1 c hc]
          · rw [l52, va_ap, if_neg b, f.2 j a b c]
          · rw [l52, va_ap, if_neg (by decide)]; exact h1
          · rw [l52, va_ap, if_neg (by decide)]; exact h2
          · rw [l52, va_ap, if_pos rfl, cN_p g]
          · rw [l53, l54, l55]
            simp only [va_ap]
            have dle : dl n (I 5) pr (cN (stD (I 5) pr) l) = l := nt_c ln g
            by_cases gj : j = cN (stD (I 5) pr) l
            · subst gj
              unfold clB
              rw [dle]
              simp only [if_true]
              exact ⟨trivial, trivial, trivial⟩
            · simp only [if_neg gj]
              rw [cN_p g] at hj2
              exact h4 j hj (by omega)
      · rw [if_neg g] at fx
        rw [if_neg (fun e => g (de.1.mp e)), show fxd (I 5) pr l ||| ((1 : Int32) <<< (zI l &&& 31)) = fxd (I 5) pr (l + 1) from fx.symm]
        refine ih (l + 1) (by omega) K f ⟨h1, h2, ?_, ?_⟩
        · rw [cN_q g]; exact h3
        · rw [cN_q g]; exact h4
  rw [lp_129_0]
  generalize hL : up2 (up2 (up2 I 52 2 pr) 52 12 0) 52 5 0 = L
  have l52 : L 52 = va_up (va_up (va_up (I 52) 2 pr) 12 0) 5 0 := by rw [← hL]; simp (decide := true) only [up2_ra, up2_rn, va_ap, ne_eq, if_false, if_true, not_false_eq_true]
  refine key n 0 (by omega) L ⟨fun c hc => ?_, fun j a b c => ?_⟩ ⟨?_, ?_, ?_, fun j _ hj2 => absurd hj2 (Nat.not_lt_zero _)⟩
  · rw [← hL, up2_rn _ _ _ _ _ (by omega), up2_rn _ _ _ _ _ (by omega), up2_rn _ _ _ _ _ (by omega)]
  · rw [l52, va_ap, if_neg b, va_ap, if_neg c, va_ap, if_neg a]
  · rw [l52]; simp (decide := true) only [va_ap, if_false, if_true]
  · rw [l52]; simp (decide := true) only [va_ap, if_false, if_true]
  · rw [l52]; rfl
def cw_P1 (n : Nat) (r5 : Nat → Int32) (pr : Int32) (l : Nat) (K : Nat → Nat → Int32) : Prop := K 60 2 = pr ∧ K 60 12 = 0 ∧ K 60 5 = zI (cN (stD r5 pr) l) ∧ ∀ j, j < 8 → j < cN (stD r5 pr) l → K 61 j = zI (dl n r5 pr j) ∧ K 62 j = clB n r5 pr j ∧ K 63 j = -1
def cw_P2 (n m : Nat) (r4 r5 r12 W : Nat → Int32) (pr : Int32) (t : Nat) (K : Nat → Nat → Int32) : Prop := K 60 2 = pr ∧ K 60 5 = zI (dK n r5 pr) ∧ (∀ j, j < 8 → j < dK n r5 pr → K 61 j = zI (dl n r5 pr j) ∧ K 62 j = clB n r5 pr j ∧ K 63 j = -1) ∧
  (∀ s, s < t → K 64 s = zI (sur n r4 r5 W pr s) ∧ K 65 s = zI (nowN r4 W n s) ∧ K 66 s = zI (bdN m r12 s)) ∧ ∀ s, bt (K 60 12) s = (decide (s < t) && (bt pr s && decide (bdN m r12 s ≤ sur n r4 r5 W pr s)))
theorem cw_129b {n m : Nat} {pr : Int32} (hn : I 1 0 = zI n) (h12 : n ≤ 12) (hm : I 1 1 = zI m) (h6m : m ≤ 6) (hW : okW (I 13)) (hB : ∀ j, ∃ w, w ≤ 999 ∧ I 12 j = zI w)
    (hQ : ∀ K, FrS 60 66 I K → (∀ j, j < 8 → j < dK n (I 5) pr → K 63 j = -1) → SI n m (I 4) (I 5) (I 12) (I 13) pr (fun _ => -1) (K 60) (K 61) (K 62) (K 64) (K 65) (K 66) → Q none (sM mo G K J)) :
    ∀ d t, t + d = 6 → ∀ K, FrS 60 66 I K → cw_P2 n m (I 4) (I 5) (I 12) (I 13) pr t K → sm_wp X 129 117 [some (.ref 60), none, some (.int (fxd (I 5) pr n)), some (.int (zI t)), none] [] (sM mo G K J) Q := by
  intro d
  induction d with
  | zero =>
    intro t ht K f h
    have : t = 6 := by omega
    subst this
    rw [lpw_129_117, if_pos (by decide)]
    obtain ⟨h1, h2, h3, h4, h5⟩ := h
    refine hQ K f (fun j a b => (h3 j a b).2.2) ⟨h1, h2, fun j a b => ⟨(h3 j a b).1, (h3 j a b).2.1⟩, fun s hs => ?_, fun s => ?_⟩
    · rw [gtC_n _ _ _ _ _ _ hs]; exact h4 s hs
    · rw [h5 s]
      by_cases g : s < 6
      · rw [gtC_n _ _ _ _ _ _ g]
      · rw [decide_eq_false g, Bool.false_and, Bool.false_and]
  | succ d ih =>
    intro t ht K f h
    have k1 : K 1 = I 1 := f.1 1 (by decide)
    have k4 : K 4 = I 4 := f.1 4 (by decide)
    have k12 : K 12 = I 12 := f.1 12 (by decide)
    have k13 : K 13 = I 13 := f.1 13 (by decide)
    have t6 : t < 6 := by omega
    obtain ⟨h1, h2, h3, h4, h5⟩ := h
    rw [lpw_129_117, if_neg (by rw [zIl_le (c := 6) (by decide) (by omega)]; show ¬ 6 ≤ t; omega), ct_landsHeld _ _ _ _ _ _ (by rw [k1]; exact hn) h12, k4]
    simp only [tl_some]
    rw [lpw_129_131, ct_worthOfLands _ _ _ _ _ _ (by rw [k1]; exact hn) h12, k13, wsum_w hW t6 h12]
    simp only [tl_some]
    rw [lpw_129_148, zI_vp (by omega), zI_cn (by omega)]
    refine ⟨t6, t6, ?_⟩
    have e12 : aState (up2 K 65 t (zI (wA (I 13) t (hlds (I 4) (zI t) n) n))) 12 0 (zI t) = zI (bdN m (I 12) t) := by
      unfold aState bdN
      have hh : hState (up2 K 65 t (zI (wA (I 13) t (hlds (I 4) (zI t) n) n))) (zI t) = (t < m) := by
        rw [hState_vp (n := m) (by rw [up2_rn _ _ _ _ _ (by decide), k1]; exact hm) h6m, zI_sIn (by omega) (by omega)]
      by_cases g : t < m
      · rw [if_pos (by rw [hh]; exact g), if_pos g, up2_rn _ _ _ _ _ (by decide), k12, zI_cn (by omega)]
        obtain ⟨w, hw, e⟩ := hB t
        rw [e, zI_cn (by omega)]
      · rw [if_neg (by rw [hh]; exact g), if_neg g]
        rfl
    rw [e12]
    generalize hL : up2 (up2 (up2 K 65 t (zI (wA (I 13) t (hlds (I 4) (zI t) n) n))) 66 t (zI (bdN m (I 12) t))) 64 t 0 = L
    have l52 : L 60 = K 60 := by rw [← hL]; simp (decide := true) only [up2_ra, up2_rn, va_ap, ne_eq, if_false, if_true, not_false_eq_true]
    have l53 : L 61 = K 61 := by rw [← hL]; simp (decide := true) only [up2_ra, up2_rn, va_ap, ne_eq, if_false, if_true, not_false_eq_true]
    have l54 : L 62 = K 62 := by rw [← hL]; simp (decide := true) only [up2_ra, up2_rn, va_ap, ne_eq, if_false, if_true, not_false_eq_true]
    have l55 : L 63 = K 63 := by rw [← hL]; simp (decide := true) only [up2_ra, up2_rn, va_ap, ne_eq, if_false, if_true, not_false_eq_true]
    have l56 : L 64 = va_up (K 64) t 0 := by rw [← hL]; simp (decide := true) only [up2_ra, up2_rn, va_ap, ne_eq, if_false, if_true, not_false_eq_true]
    have l57 : L 65 = va_up (K 65) t (zI (nowN (I 4) (I 13) n t)) := by rw [← hL]; simp (decide := true) only [up2_ra, up2_rn, va_ap, ne_eq, if_false, if_true, not_false_eq_true]; rfl
    have l58 : L 66 = va_up (K 66) t (zI (bdN m (I 12) t)) := by rw [← hL]; simp (decide := true) only [up2_ra, up2_rn, va_ap, ne_eq, if_false, if_true, not_false_eq_true]
    have fL : FrS 60 66 I L := by
      refine ⟨fun c hc => ?_, fun j a b c => ?_⟩
      · rw [← hL, up2_rn _ _ _ _ _ (by omega), up2_rn _ _ _ _ _ (by omega), up2_rn _ _ _ _ _ (by omega), f.1 c hc]
      · rw [l52, f.2 j a b c]
    have L1 : L 1 = I 1 := fL.1 1 (by decide)
    have L13 : L 13 = I 13 := fL.1 13 (by decide)
    rw [ct_worthOfLands _ _ _ _ _ _ (by rw [L1]; exact hn) h12, L13, wsum_w hW t6 h12]
    simp only [tl_some]
    rw [lpw_129_184]
    have sb := sur_b (r4 := I 4) (r5 := I 5) (pr := pr) hW h12 t
    have bb := bdN_b (m := m) hB t
    refine cw_130 (bd := bdN m (I 12) t) (g := sur n (I 4) (I 5) (I 13) pr t) t6 (by rw [l56, va_ap, if_pos rfl, Int32.zero_add]; rfl) (by omega) (by rw [l58, va_ap, if_pos rfl]) (by omega) ?_ (fun j hj => by rw [l52, h5 j, decide_eq_false (by omega), Bool.false_and]) (fun e => by
      rw [l52, h5 t, decide_eq_false (Nat.lt_irrefl _), Bool.false_and] at e
      cases e)
    intro kp' hk _
    rw [l52, h1] at hk
    simp only [tl_none]
    rw [lpw_129_187, show zI t + 1 = zI (t + 1) from zIr_add 1 t]
    generalize hN : up2 (up2 L 64 t (zI (sur n (I 4) (I 5) (I 13) pr t))) 60 12 kp' = N
    have n52 : N 60 = va_up (K 60) 12 kp' := by rw [← hN, ← l52]; simp (decide := true) only [up2_ra, up2_rn, va_ap, ne_eq, if_false, if_true, not_false_eq_true]
    have n53 : N 61 = K 61 := by rw [← hN, ← l53]; simp (decide := true) only [up2_ra, up2_rn, va_ap, ne_eq, if_false, if_true, not_false_eq_true]
    have n54 : N 62 = K 62 := by rw [← hN, ← l54]; simp (decide := true) only [up2_ra, up2_rn, va_ap, ne_eq, if_false, if_true, not_false_eq_true]
    have n55 : N 63 = K 63 := by rw [← hN, ← l55]; simp (decide := true) only [up2_ra, up2_rn, va_ap, ne_eq, if_false, if_true, not_false_eq_true]
    have n56 : N 64 = va_up (L 64) t (zI (sur n (I 4) (I 5) (I 13) pr t)) := by rw [← hN]; simp (decide := true) only [up2_ra, up2_rn, va_ap, ne_eq, if_false, if_true, not_false_eq_true]
    have n57 : N 65 = L 65 := by rw [← hN]; simp (decide := true) only [up2_ra, up2_rn, va_ap, ne_eq, if_false, if_true, not_false_eq_true]
    have n58 : N 66 = L 66 := by rw [← hN]; simp (decide := true) only [up2_ra, up2_rn, va_ap, ne_eq, if_false, if_true, not_false_eq_true]
    refine ih (t + 1) (by omega) N ⟨fun c hc => ?_, fun j a b c => ?_⟩ ⟨?_, ?_, ?_, ?_, ?_⟩
    · rw [← hN, up2_rn _ _ _ _ _ (by omega), up2_rn _ _ _ _ _ (by omega), fL.1 c hc]
    · rw [n52, va_ap, if_neg c, f.2 j a b c]
    · rw [n52]; exact h1
    · rw [n52]; exact h2
    · rw [n53, n54, n55]; exact h3
    · intro s hs
      rw [n56, n57, n58, l56, l57, l58]
      simp only [va_ap]
      by_cases g : s = t
      · subst g; simp only [if_true]; exact ⟨trivial, trivial, trivial⟩
      · simp only [if_neg g]; exact h4 s (by omega)
    · intro s
      rw [n52, va_ap, if_pos rfl, hk s]
      by_cases g : s = t
      · subst g
        rw [if_pos rfl, decide_eq_true (Nat.lt_succ_self _), Bool.true_and]
      · rw [if_neg g, h5 s]
        have e : decide (s < t + 1) = decide (s < t) := by
          by_cases g2 : s < t
          · rw [decide_eq_true g2, decide_eq_true (by omega)]
          · rw [decide_eq_false g2, decide_eq_false (by omega)]
        rw [e]
theorem cw_129 {n m : Nat} {pr : Int32} (hn : I 1 0 = zI n) (h12 : n ≤ 12) (hm : I 1 1 = zI m) (h6m : m ≤ 6) (h6 : ∀ l k, 6 ≤ k → bt (I 5 l) k = false) (hW : okW (I 13)) (hB : ∀ j, ∃ w, w ≤ 999 ∧ I 12 j = zI w)
    (hQ : ∀ K, FrS 60 66 I K → (∀ j, j < 8 → j < dK n (I 5) pr → K 63 j = -1) → SI n m (I 4) (I 5) (I 12) (I 13) pr (fun _ => -1) (K 60) (K 61) (K 62) (K 64) (K 65) (K 66) → Q none (sM mo G K J)) :
    sm_wp X 129 0 [some (.ref 60), some (.int pr), none, none, none] [] (sM mo G I J) Q := by
  have key : ∀ d l, l + d = n → ∀ K, FrS 60 66 I K → cw_P1 n (I 5) pr l K → sm_wp X 129 19 [some (.ref 60), some (.int pr), some (.int (fxd (I 5) pr l)), some (.int (zI l)), none] [] (sM mo G K J) Q := by
    intro d
    induction d with
    | zero =>
      intro l hl K f h
      have : l = n := by omega
      subst this
      have k1 : K 1 = I 1 := f.1 1 (by decide)
      obtain ⟨h1, h2, h3, h4⟩ := h
      rw [lpw_129_19, k1, hn, if_pos (by rw [zI_le (by omega) (by omega)]; omega)]
      refine cw_129b hn h12 hm h6m hW hB hQ 6 0 (by omega) K f ⟨h1, h3, h4, fun s hs => absurd hs (Nat.not_lt_zero _), fun s => ?_⟩
      rw [h2, bt_0, decide_eq_false (Nat.not_lt_zero _), Bool.false_and]
    | succ d ih =>
      intro l hl K f h
      have k1 : K 1 = I 1 := f.1 1 (by decide)
      have k5 : K 5 = I 5 := f.1 5 (by decide)
      have ln : l < n := by omega
      obtain ⟨h1, h2, h3, h4⟩ := h
      have de := dsp_e (I := K) (pr := pr) (by rw [k1]; exact hn) h12 ln (by rw [k5]; exact h6)
      rw [k5] at de
      have c12 := cN_le (stD (I 5) pr) l
      rw [lpw_129_19, k1, hn, if_neg (by rw [zI_le (by omega) (by omega)]; omega), show zI l + 1 = zI (l + 1) from zIr_add 1 l]
      have fx : fxd (I 5) pr (l + 1) = if stD (I 5) pr l = true then fxd (I 5) pr l else fxd (I 5) pr l ||| b1 l := rfl
      by_cases g : stD (I 5) pr l = true
      · rw [if_pos g] at fx
        rw [if_pos (de.1.mpr g), h3, ← fx, show zI (cN (stD (I 5) pr) l) + 1 = zI (cN (stD (I 5) pr) l + 1) from zIr_add 1 _]
        by_cases g8 : 8 ≤ cN (stD (I 5) pr) l
        · rw [if_pos (by rw [zIl_le (c := 8) (by decide) (by omega)]; exact g8)]
          refine ih (l + 1) (by omega) _ ⟨fun c hc => ?_, fun j a b c => ?_⟩ ⟨?_, ?_, ?_, fun j hj hj2 => ?_⟩
          · rw [up2_rn _ _ _ _ _ (by omega), f.1 c hc]
          · rw [up2_ra, va_ap, if_neg b, f.2 j a b c]
          · rw [up2_ra, va_ap, if_neg (by decide)]; exact h1
          · rw [up2_ra, va_ap, if_neg (by decide)]; exact h2
          · rw [up2_ra, va_ap, if_pos rfl, cN_p g]
          · rw [up2_rn _ _ _ _ _ (by decide), up2_rn _ _ _ _ _ (by decide), up2_rn _ _ _ _ _ (by decide)]
            exact h4 j hj (by omega)
        · rw [if_neg (by rw [zIl_le (c := 8) (by decide) (by omega)]; exact g8), zI_vp (by omega), zI_cn (by omega)]
          refine ⟨by omega, ?_⟩
          have ea : aLand (up2 K 61 (cN (stD (I 5) pr) l) (zI l)) 5 0 (zI l) = I 5 l := by
            have := (dsp_e (I := up2 K 61 (cN (stD (I 5) pr) l) (zI l)) (pr := pr) (by rw [up2_rn _ _ _ _ _ (by decide), k1]; exact hn) h12 ln (by rw [up2_rn _ _ _ _ _ (by decide), k5]; exact h6)).2
            rw [this, up2_rn _ _ _ _ _ (by decide), k5]
          rw [ea]
          generalize hL : up2 (up2 (up2 (up2 K 61 (cN (stD (I 5) pr) l) (zI l)) 62 (cN (stD (I 5) pr) l) (I 5 l &&& pr)) 63 (cN (stD (I 5) pr) l) (-1)) 60 5 (zI (cN (stD (I 5) pr) l + 1)) = L
          have l52 : L 60 = va_up (K 60) 5 (zI (cN (stD (I 5) pr) l + 1)) := by rw [← hL]; simp (decide := true) only [up2_ra, up2_rn, va_ap, ne_eq, if_false, if_true, not_false_eq_true]
          have l53 : L 61 = va_up (K 61) (cN (stD (I 5) pr) l) (zI l) := by rw [← hL]; simp (decide := true) only [up2_ra, up2_rn, va_ap, ne_eq, if_false, if_true, not_false_eq_true]
          have l54 : L 62 = va_up (K 62) (cN (stD (I 5) pr) l) (I 5 l &&& pr) := by rw [← hL]; simp (decide := true) only [up2_ra, up2_rn, va_ap, ne_eq, if_false, if_true, not_false_eq_true]
          have l55 : L 63 = va_up (K 63) (cN (stD (I 5) pr) l) (-1) := by rw [← hL]; simp (decide := true) only [up2_ra, up2_rn, va_ap, ne_eq, if_false, if_true, not_false_eq_true]
          refine ih (l + 1) (by omega) L ⟨fun c hc => ?_, fun j a b c => ?_⟩ ⟨?_, ?_, ?_, fun j hj hj2 => ?_⟩
          · rw [← hL, up2_rn _ _ _ _ _ (by omega), up2_rn _ _ _ _ _ (by omega), up2_rn _ _ _ _ _ (by omega), up2_rn _ _ _ _ _ (by omega), f.1 c hc]
          · rw [l52, va_ap, if_neg b, f.2 j a b c]
          · rw [l52, va_ap, if_neg (by decide)]; exact h1
          · rw [l52, va_ap, if_neg (by decide)]; exact h2
          · rw [l52, va_ap, if_pos rfl, cN_p g]
          · rw [l53, l54, l55]
            simp only [va_ap]
            have dle : dl n (I 5) pr (cN (stD (I 5) pr) l) = l := nt_c ln g
            by_cases gj : j = cN (stD (I 5) pr) l
            · subst gj
              unfold clB
              rw [dle]
              simp only [if_true]
              exact ⟨trivial, trivial, trivial⟩
            · simp only [if_neg gj]
              rw [cN_p g] at hj2
              exact h4 j hj (by omega)
      · rw [if_neg g] at fx
        rw [if_neg (fun e => g (de.1.mp e)), show fxd (I 5) pr l ||| ((1 : Int32) <<< (zI l &&& 31)) = fxd (I 5) pr (l + 1) from fx.symm]
        refine ih (l + 1) (by omega) K f ⟨h1, h2, ?_, ?_⟩
        · rw [cN_q g]; exact h3
        · rw [cN_q g]; exact h4
  rw [lpw_129_0]
  generalize hL : up2 (up2 (up2 I 60 2 pr) 60 12 0) 60 5 0 = L
  have l52 : L 60 = va_up (va_up (va_up (I 60) 2 pr) 12 0) 5 0 := by rw [← hL]; simp (decide := true) only [up2_ra, up2_rn, va_ap, ne_eq, if_false, if_true, not_false_eq_true]
  refine key n 0 (by omega) L ⟨fun c hc => ?_, fun j a b c => ?_⟩ ⟨?_, ?_, ?_, fun j _ hj2 => absurd hj2 (Nat.not_lt_zero _)⟩
  · rw [← hL, up2_rn _ _ _ _ _ (by omega), up2_rn _ _ _ _ _ (by omega), up2_rn _ _ _ _ _ (by omega)]
  · rw [l52, va_ap, if_neg b, va_ap, if_neg c, va_ap, if_neg a]
  · rw [l52]; simp (decide := true) only [va_ap, if_false, if_true]
  · rw [l52]; simp (decide := true) only [va_ap, if_false, if_true]
  · rw [l52]; rfl
end T2
end
section
/-! Settlements by their numbers; the next one; is it stable. -/
theorem cN_imp {P R : Nat → Bool} {n : Nat} (h : ∀ l, l < n → P l = true → R l = true) : cN P n ≤ cN R n := by
  induction n with
  | zero => exact Nat.le_refl _
  | succ n ih =>
    have i := ih (fun l hl => h l (by omega))
    rw [cN_s, cN_s]
    by_cases g : P n = true
    · rw [if_pos g, if_pos (h n (by omega) g)]; omega
    · rw [if_neg g]; split <;> omega
theorem rd_2 {n : Nat} {r5 : Nat → Int32} {pr : Int32} {j : Nat} (h : j < dK n r5 pr) : 2 ≤ rd n r5 pr j := by
  have := (nt_p (P := stD r5 pr) (n := n) h).1
  unfold stD at this
  rw [decide_eq_true_iff] at this
  exact this
theorem rd_3 {n : Nat} {r5 : Nat → Int32} {pr : Int32} (h : ∀ l, pc6 (r5 l) ≤ 3) (j : Nat) : rd n r5 pr j ≤ 3 := by
  refine Nat.le_trans ?_ (h (dl n r5 pr j))
  refine cN_imp (P := bt (clB n r5 pr j)) (R := bt (r5 (dl n r5 pr j))) (fun l _ e => ?_)
  unfold clB at e
  rw [bt_and, Bool.and_eq_true] at e
  exact e.1
theorem rws_b {n : Nat} {r5 : Nat → Int32} {pr : Int32} (h : ∀ l, pc6 (r5 l) ≤ 3) (h8 : dK n r5 pr ≤ 8) : rws n r5 pr ≤ 6561 := by
  have := rp_le (c := rd n r5 pr) (K := dK n r5 pr) (fun j _ => rd_3 h j) (dK n r5 pr) 0 (by omega)
  refine Nat.le_trans this ?_
  exact Nat.pow_le_pow_right (by decide) h8
theorem rd_pos {n : Nat} {r5 : Nat → Int32} {pr : Int32} : ∀ j, j < dK n r5 pr → 0 < rd n r5 pr j := fun j h => by
  have := rd_2 h
  omega
theorem rws_pos {n : Nat} {r5 : Nat → Int32} {pr : Int32} : 0 < rws n r5 pr := rp_pos rd_pos (dK n r5 pr) 0 (by omega)
theorem sv_p {n : Nat} {r5 : Nat → Int32} {pr : Int32} (v : Nat) {k : Nat} (hk : k < dK n r5 pr) : bt (clB n r5 pr k) (sv n r5 pr v k) = true ∧ sv n r5 pr v k < 6 ∧ cN (bt (clB n r5 pr k)) (sv n r5 pr v k) = dg (rd n r5 pr) (dK n r5 pr) v k := nt_p (dg_lt v (rd_pos k hk))
theorem cB_sym {r4 W : Nat → Int32} {n a b x y : Nat} (h : cB r4 W n a b x y) : cB r4 W n b a y x := by
  obtain ⟨A, h1, h2, h3⟩ := h
  have e : bth r4 n b a = bth r4 n a b := by
    unfold bth
    exact Int32.or_comm _ _
  refine ⟨rst (bth r4 n a b) A, fun l hl => ?_, h3, ?_⟩
  · rw [e]
    by_cases l32 : l < 32
    · rw [bt_rst _ _ l32, Bool.and_eq_true] at hl
      exact hl.1
    · rw [bt_big _ _ (by omega)] at hl
      cases hl
  · rw [e, wA_c (B := A) (fun l hl => ?_)]
    · exact h2
    · rw [bt_rst _ _ (by omega), bt_rst _ _ (by omega)]
      cases c1 : bt A l with
      | false => cases bt (bth r4 n a b) l <;> rfl
      | true => rw [h1 l c1]; rfl
theorem cB_m {r4 W : Nat → Int32} {n a b x y x' y' : Nat} (h : cB r4 W n a b x y) (hx : x' ≤ x) (hy : y' ≤ y) : cB r4 W n a b x' y' := by
  obtain ⟨A, h1, h2, h3⟩ := h
  exact ⟨A, h1, by omega, by omega⟩
theorem cB_b {r4 W : Nat → Int32} {n a b x y : Nat} (hW : okW W) (h : cB r4 W n a b x y) : x < 1188 := by
  obtain ⟨A, h1, h2, h3⟩ := h
  have := wA_b hW a A 12
  omega
def shOK (mo : Bool) (K : Nat → Nat → Int32) (n m : Nat) : Prop := K 48 1 = K 1 4 → mo = true ∧ shT (K 4) (K 13) (K 48 2) (K 49) (K 50) (K 143) n m
def FrH (I K : Nat → Nat → Int32) : Prop := (∀ c, c ≠ 48 → c ≠ 49 → c ≠ 50 → c ≠ 143 → K c = I c) ∧ (K 48 1 = I 48 1 ∨ K 48 1 = I 1 4)
section T3
variable {X : (Nat → Int32) × Nat} {mo : Bool} {G : Nat × Nat} {I : Nat → Nat → Int32} {J : Nat → Nat → Int64} {Q : Option Value → sm_M → Prop}
theorem cs_137 {n m v : Nat} {pr : Int32} (h12 : n ≤ 12) (hW : okW (I 13)) (hB : ∀ j, ∃ w, w ≤ 999 ∧ I 12 j = zI w) (h8 : dK n (I 5) pr ≤ 8) (hv : v < rws n (I 5) pr)
    (h : SI n m (I 4) (I 5) (I 12) (I 13) pr (svC n (I 5) pr v) (I 52) (I 53) (I 54) (I 56) (I 57) (I 58)) (hc : ∀ j, j < dK n (I 5) pr → I 55 j = svC n (I 5) pr v j)
    (hQ1 : v + 1 < rws n (I 5) pr → ∀ K, FrS 52 58 I K → (∀ j, j < dK n (I 5) pr → K 55 j = svC n (I 5) pr (v + 1) j) → SI n m (I 4) (I 5) (I 12) (I 13) pr (svC n (I 5) pr (v + 1)) (K 52) (K 53) (K 54) (K 56) (K 57) (K 58) → Q (some (.int 1)) (sM mo G K J))
    (hQ0 : v + 1 = rws n (I 5) pr → ∀ K ch, FrS 52 58 I K → SI n m (I 4) (I 5) (I 12) (I 13) pr ch (K 52) (K 53) (K 54) (K 56) (K 57) (K 58) → Q (some (.int 0)) (sM mo G K J)) :
    sm_wp X 137 0 [some (.ref 52), none, none] [] (sM mo G I J) Q := by
  have key : ∀ k, k ≤ dK n (I 5) pr → (v + 1) % rp (rd n (I 5) pr) (dK n (I 5) pr) k = 0 → ∀ K ch, FrS 52 58 I K → (∀ j, j < 8 → j < dK n (I 5) pr → K 55 j = ch j) → (∀ j, j < dK n (I 5) pr → ch j = if j < k then svC n (I 5) pr v j else zI (nt (bt (clB n (I 5) pr j)) 6 0)) →
      SI n m (I 4) (I 5) (I 12) (I 13) pr ch (K 52) (K 53) (K 54) (K 56) (K 57) (K 58) → sm_wp X 137 12 [some (.ref 52), some (.int (zI k + (-1))), none] [] (sM mo G K J) Q := by
    intro k
    induction k with
    | zero =>
      intro _ hr K ch f h55 hch hS
      rw [lp_137_12, if_pos (by decide)]
      exact hQ0 (dg_end hr hv) K ch f hS
    | succ k ih =>
      intro hk hr K ch f h55 hch hS
      have k4 : K 4 = I 4 := f.1 4 (by decide)
      have k5 : K 5 = I 5 := f.1 5 (by decide)
      have k12 : K 12 = I 12 := f.1 12 (by decide)
      have k13 : K 13 = I 13 := f.1 13 (by decide)
      have p := sv_p v (show k < dK n (I 5) pr by omega)
      have ck : ch k = zI (sv n (I 5) pr v k) := by rw [hch k (by omega), if_pos (by omega)]; rfl
      have e54 : K 54 k = clB n (I 5) pr k := (hS.2.2.1 k (by omega) (by omega)).2
      rw [zI_p1, lp_137_12, if_neg (by rw [zIr_lt (c := 0) (by decide) (by omega)]; exact Nat.not_lt_zero _), zI_vp (by omega), zI_cn (by omega), h55 k (by omega) (by omega), ck]
      refine ⟨by omega, ?_⟩
      rw [cs_132 (by omega) e54 (show sv n (I 5) pr v k + 1 ≤ 6 by omega) (zIr_add 1 _), cN_p p.1, p.2.2]
      simp only [tl_some]
      rw [lp_137_27]
      unfold nxC
      by_cases g : dg (rd n (I 5) pr) (dK n (I 5) pr) v k + 1 < cN (bt (clB n (I 5) pr k)) 6
      · have np := nt_p g
        rw [if_pos g, if_neg (by rw [zI_m1 (by omega)]; exact id)]
        refine cs_133 (I := K) (n := n) (m := m) (pr := pr) (ch := ch) (by omega) (by rw [k5]; omega) np.2.1 h12 (by rw [k13]; exact hW) (by rw [k12]; exact hB) (by rw [k4, k5, k12, k13]; exact hS) (by rw [k5]; exact h55) (Or.inr ⟨_, p.2.1, ck⟩) ?_
        intro L fL l55 hL
        rw [k5] at l55
        rw [k4, k5, k12, k13] at hL
        simp only [tl_none]
        rw [lp_137_39]
        have e : ∀ j, j < dK n (I 5) pr → va_up ch k (zI (nt (bt (clB n (I 5) pr k)) 6 (dg (rd n (I 5) pr) (dK n (I 5) pr) v k + 1))) j = svC n (I 5) pr (v + 1) j := by
          intro j hj
          rw [va_ap]
          unfold svC sv
          by_cases g1 : j = k
          · subst g1
            rw [if_pos rfl, dg_at rd_pos (by omega) hr g]
          · rw [if_neg g1, hch j hj]
            by_cases g2 : j < k + 1
            · rw [if_pos g2, dg_lo rd_pos (by omega) hr g (show j < k by omega)]
              rfl
            · rw [if_neg g2, dg_hi rd_pos hr (show k < j by omega) hj]
        refine hQ1 (dg_in rd_pos (by omega) hr g hv) L (FrS_t f fL) (fun j hj => by rw [l55 j (by omega) hj]; exact e j hj) (si_ch hL (fun s => ?_))
        unfold gtC
        rw [gsm_c (fun j hj => (e j (Nat.lt_of_lt_of_le hj (Nat.min_le_right _ _))).symm)]
      · rw [if_neg g, if_pos rfl, cs_132 (s := 0) (by omega) e54 (by decide) (by decide)]
        simp only [tl_some]
        have z6 : 0 < cN (bt (clB n (I 5) pr k)) 6 := rd_pos k (by omega)
        have np := nt_p z6
        have nx0 : nxC (clB n (I 5) pr k) (cN (bt (clB n (I 5) pr k)) 0) = zI (nt (bt (clB n (I 5) pr k)) 6 0) := by
          unfold nxC
          rw [show cN (bt (clB n (I 5) pr k)) 0 = 0 from rfl, if_pos z6]
        rw [nx0, lp_137_49]
        refine cs_133 (I := K) (n := n) (m := m) (pr := pr) (ch := ch) (by omega) (by rw [k5]; omega) np.2.1 h12 (by rw [k13]; exact hW) (by rw [k12]; exact hB) (by rw [k4, k5, k12, k13]; exact hS) (by rw [k5]; exact h55) (Or.inr ⟨_, p.2.1, ck⟩) ?_
        intro L fL l55 hL
        rw [k5] at l55
        rw [k4, k5, k12, k13] at hL
        simp only [tl_none]
        rw [lp_137_52]
        refine ih (by omega) (dg_ca rd_pos (by omega) hr g) L _ (FrS_t f fL) l55 (fun j hj => ?_) hL
        rw [va_ap]
        by_cases g1 : j = k
        · subst g1
          rw [if_pos rfl, if_neg (by omega)]
        · rw [if_neg g1, hch j hj]
          by_cases g2 : j < k + 1
          · rw [if_pos g2, if_pos (by omega)]
          · rw [if_neg g2, if_neg (by omega)]
  rw [lp_137_0, h.2.1, if_neg (by rw [zIl_lt (c := 8) (by decide) (by omega)]; show ¬ 8 < dK n (I 5) pr; omega), show zI (dK n (I 5) pr) - 1 = zI (dK n (I 5) pr) + (-1) from Int32.sub_eq_add_neg _ _]
  exact key (dK n (I 5) pr) (Nat.le_refl _) (by rw [rp_K]; exact Nat.mod_one _) I _ FrS_r (fun j _ hj => hc j hj) (fun j hj => by rw [if_pos hj]) h
theorem cs_135 {n m : Nat} {pr : Int32} {ch : Nat → Int32} (hn : I 1 0 = zI n) (h12 : n ≤ 12) (hm : I 1 1 = zI m) (h6 : m ≤ 6) (hp : ∀ k, m ≤ k → bt pr k = false) (hW : okW (I 13)) (hsh : shOK mo I n m)
    (h : SI n m (I 4) (I 5) (I 12) (I 13) pr ch (I 52) (I 53) (I 54) (I 56) (I 57) (I 58))
    (hQ : ∀ mo' K z, FrH I K → shOK mo' K n m → (z = 1 ∧ stbC n (I 4) (I 13) pr (gtC n (I 4) (I 5) (I 13) pr ch) ∨ z = 0 ∧ ¬ stbC n (I 4) (I 13) pr (gtC n (I 4) (I 5) (I 13) pr ch)) → Q (some (.int z)) (sM mo' G K J)) :
    sm_wp X 135 0 [some (.ref 52), none, none, none] [] (sM mo G I J) Q := by
  generalize hg : gtC n (I 4) (I 5) (I 13) pr ch = g at *
  have gb : ∀ s, g s ≤ 1188 := fun s => by rw [← hg]; exact gtC_b hW h12 s
  have g56 : ∀ s, s < 6 → I 56 s = zI (g s) := fun s hs => by rw [← hg]; exact (h.2.2.2.1 s hs).1
  have g57 : ∀ s, s < 6 → I 57 s = zI (nowN (I 4) (I 13) n s) := fun s hs => (h.2.2.2.1 s hs).2.1
  have hpr : I 52 2 = pr := h.1
  have nb := fun s => nowN_b (r4 := I 4) hW h12 s
  -- after the table is made
  have two : ∀ v r49 r50 r143, shT (I 4) (I 13) v r49 r50 r143 n m → (∀ s, s < 6 → bt pr s = true → nowN (I 4) (I 13) n s ≤ g s) → sm_wp X 135 52 [some (.ref 52), some (.int v), some (.int 1), none] [] (sM true G (shM I v r49 r50 r143) J) Q := by
    intro v r49 r50 r143 hT hnow
    have fr : FrH I (shM I v r49 r50 r143) := ⟨fun c a b d e => shM_o ⟨a, b, d, e⟩, Or.inr (by rw [shM_48]; simp (decide := true) only [va_ap, if_false, if_true])⟩
    have ok : shOK true (shM I v r49 r50 r143) n m := fun _ => ⟨rfl, by
      rw [shM_o (c := 4) (by decide), shM_o (c := 13) (by decide), shM_48, shM_49, shM_50, shM_143]
      exact hT⟩
    have o52 : shM I v r49 r50 r143 52 = I 52 := shM_o (by decide)
    have o56 : shM I v r49 r50 r143 56 = I 56 := shM_o (by decide)
    have o4 : shM I v r49 r50 r143 4 = I 4 := shM_o (by decide)
    have o13 : shM I v r49 r50 r143 13 = I 13 := shM_o (by decide)
    have yes : (∀ a b, a < b → b < 6 → bt pr a = true → bt pr b = true → ¬ cB (I 4) (I 13) n a b (g a) (g b)) → Q (some (.int 1)) (sM true G (shM I v r49 r50 r143) J) := fun hh => hQ true _ 1 fr ok (Or.inl ⟨rfl, hnow, hh⟩)
    have bl : ∀ d b, b + d = 6 → 1 ≤ b → (∀ c e, c < e → e < b → bt pr c = true → bt pr e = true → ¬ cB (I 4) (I 13) n c e (g c) (g e)) → sm_wp X 135 52 [some (.ref 52), some (.int v), some (.int (zI b)), none] [] (sM true G (shM I v r49 r50 r143) J) Q := by
      intro d
      induction d with
      | zero =>
        intro b hb _ hh
        have : b = 6 := by omega
        subst this
        rw [lp_135_52, if_pos (by decide)]
        exact yes hh
      | succ d ih =>
        intro b hb hb1 hh
        rw [lp_135_52, if_neg (by rw [zIl_le (c := 6) (by decide) (by omega)]; show ¬ 6 ≤ b; omega)]
        by_cases v0 : v = 0
        · rw [if_pos v0]
          refine yes (fun c e hce he hc2 he2 hcb => ?_)
          have em : e < m := by
            rcases Nat.lt_or_ge e m with k | k
            · exact k
            · rw [hp e k] at he2; cases he2
          have := (hT.2 c e hce he).mpr ⟨em, cB_m hcb (hnow c (by omega) hc2) (hnow e he he2)⟩
          rw [v0, bt_0] at this
          cases this
        · rw [if_neg v0]
          have al : ∀ d2 a, a + d2 = b → (∀ c, c < a → bt pr c = true → bt pr b = true → ¬ cB (I 4) (I 13) n c b (g c) (g b)) → sm_wp X 135 64 [some (.ref 52), some (.int v), some (.int (zI b)), some (.int (zI a))] [] (sM true G (shM I v r49 r50 r143) J) Q := by
            intro d2
            induction d2 with
            | zero =>
              intro a ha hc
              have : a = b := by omega
              subst this
              rw [lp_135_64, if_pos (by rw [zI_le (by omega) (by omega)]; omega), show zI a + 1 = zI (a + 1) from zIr_add 1 a]
              refine ih (a + 1) (by omega) (by omega) (fun c e hce he h1 h2 => ?_)
              by_cases ge : e = a
              · subst ge; exact hc c hce h1 h2
              · exact hh c e hce (by omega) h1 h2
            | succ d2 ih2 =>
              intro a ha hc
              have a6 : a < 6 := by omega
              have b6 : b < 6 := by omega
              have ab : a < b := by omega
              have skip : (bt pr a = true → bt pr b = true → ¬ cB (I 4) (I 13) n a b (g a) (g b)) → sm_wp X 135 64 [some (.ref 52), some (.int v), some (.int (zI b)), some (.int (zI a + 1))] [] (sM true G (shM I v r49 r50 r143) J) Q := by
                intro hs
                rw [show zI a + 1 = zI (a + 1) from zIr_add 1 a]
                refine ih2 (a + 1) (by omega) (fun c hc2 h1 h2 => ?_)
                by_cases ge : c = a
                · subst ge; exact hs h1 h2
                · exact hc c (by omega) h1 h2
              rw [lp_135_64, if_neg (by rw [zI_le (by omega) (by omega)]; omega), bk_147_0, pr2_z a6 b6]
              refine ⟨by decide, trivial, ?_⟩
              simp only [tl_some]
              have p15 := pr2_lt ab b6
              rw [lp_135_75, o52, hpr]
              by_cases g1 : bt v (pr2 a b) = true
              · rw [if_neg (by rw [hb_bt _ _ (by omega)]; exact fun e => e g1)]
                by_cases g2 : bt pr a = true
                · rw [if_neg (by rw [hb_bt _ _ (by omega)]; exact fun e => e g2)]
                  by_cases g3 : bt pr b = true
                  · rw [if_neg (by rw [hb_bt _ _ (by omega)]; exact fun e => e g3), zI_vp (by omega), zI_vp (by omega), zI_cn (by omega), zI_cn (by omega), o56, g56 a a6, g56 b b6]
                    refine ⟨a6, b6, ?_⟩
                    have bm : b < m := by
                      rcases Nat.lt_or_ge b m with k | k
                      · exact k
                      · rw [hp b k] at g3; cases g3
                    refine ct_149 (n := n) (T := 5955) h12 (Nat.le_refl _) ab b6 (by rw [o13]; exact hW) (by have := gb a; omega) (by have := gb b; omega) (by rw [o4, o13, shM_49, shM_50, shM_143]; exact hT.1 a b ab bm) ?_
                    intro z hz
                    rw [o4, o13] at hz
                    simp only [tl_some]
                    rcases hz with ⟨rfl, hz⟩ | ⟨rfl, hz⟩
                    · rw [lp_135_124, if_neg (by decide)]
                      exact hQ true _ 0 fr ok (Or.inr ⟨rfl, fun e => e.2 a b ab b6 g2 g3 hz⟩)
                    · rw [lp_135_124, if_pos rfl]
                      exact skip (fun _ _ => hz)
                  · rw [if_pos (by rw [hb_bt _ _ (by omega)]; exact g3)]
                    exact skip (fun _ e => absurd e g3)
                · rw [if_pos (by rw [hb_bt _ _ (by omega)]; exact g2)]
                  exact skip (fun e => absurd e g2)
              · rw [if_pos (by rw [hb_bt _ _ (by omega)]; exact g1)]
                refine skip (fun h1 h2 hcb => g1 ((hT.2 a b ab b6).mpr ⟨?_, cB_m hcb (hnow a a6 h1) (hnow b b6 h2)⟩))
                rcases Nat.lt_or_ge b m with k | k
                · exact k
                · rw [hp b k] at h2; cases h2
          exact al b 0 (by omega) (fun c hc => absurd hc (Nat.not_lt_zero _))
    exact bl 5 1 (by omega) (Nat.le_refl _) (fun c e hce he => by omega)
  have sl : ∀ d s, s + d = 6 → (∀ t, t < s → bt pr t = true → nowN (I 4) (I 13) n t ≤ g t) → sm_wp X 135 2 [some (.ref 52), some (.int (zI s)), none, none] [] (sM mo G I J) Q := by
    intro d
    induction d with
    | zero =>
      intro s hs hh
      have : s = 6 := by omega
      subst this
      rw [lp_135_2, if_pos (by decide)]
      refine ct_145 hn h12 hm h6 hW hsh (fun v r49 r50 r143 hT => ?_)
      simp only [tl_some]
      rw [lp_135_49]
      exact two v r49 r50 r143 hT hh
    | succ d ih =>
      intro s hs hh
      have s6 : s < 6 := by omega
      rw [lp_135_2, if_neg (by rw [zIl_le (c := 6) (by decide) (by omega)]; show ¬ 6 ≤ s; omega), hpr, show zI s + 1 = zI (s + 1) from zIr_add 1 s]
      by_cases g2 : bt pr s = true
      · rw [if_neg (by rw [hb_bt _ _ (by omega)]; exact fun e => e g2), zI_vp (by omega), zI_cn (by omega), g56 s s6, g57 s s6]
        refine ⟨s6, ?_⟩
        have := nb s
        have := gb s
        by_cases g3 : nowN (I 4) (I 13) n s ≤ g s
        · rw [if_pos (by rw [zI_le (by omega) (by omega)]; exact g3)]
          refine ih (s + 1) (by omega) (fun t ht h1 => ?_)
          by_cases ge : t = s
          · subst ge; exact g3
          · exact hh t (by omega) h1
        · rw [if_neg (by rw [zI_le (by omega) (by omega)]; exact g3)]
          exact hQ mo I 0 ⟨fun _ _ _ _ _ => rfl, Or.inl rfl⟩ hsh (Or.inr ⟨rfl, fun e => g3 (e.1 s s6 g2)⟩)
      · rw [if_pos (by rw [hb_bt _ _ (by omega)]; exact g2)]
        refine ih (s + 1) (by omega) (fun t ht h1 => ?_)
        by_cases ge : t = s
        · subst ge; exact absurd h1 g2
        · exact hh t (by omega) h1
  rw [lp_135_0]
  exact sl 6 0 (by omega) (fun t ht => absurd ht (Nat.not_lt_zero _))
theorem cw_137 {n m v : Nat} {pr : Int32} (h12 : n ≤ 12) (hW : okW (I 13)) (hB : ∀ j, ∃ w, w ≤ 999 ∧ I 12 j = zI w) (h8 : dK n (I 5) pr ≤ 8) (hv : v < rws n (I 5) pr)
    (h : SI n m (I 4) (I 5) (I 12) (I 13) pr (svC n (I 5) pr v) (I 60) (I 61) (I 62) (I 64) (I 65) (I 66)) (hc : ∀ j, j < dK n (I 5) pr → I 63 j = svC n (I 5) pr v j)
    (hQ1 : v + 1 < rws n (I 5) pr → ∀ K, FrS 60 66 I K → (∀ j, j < dK n (I 5) pr → K 63 j = svC n (I 5) pr (v + 1) j) → SI n m (I 4) (I 5) (I 12) (I 13) pr (svC n (I 5) pr (v + 1)) (K 60) (K 61) (K 62) (K 64) (K 65) (K 66) → Q (some (.int 1)) (sM mo G K J))
    (hQ0 : v + 1 = rws n (I 5) pr → ∀ K ch, FrS 60 66 I K → SI n m (I 4) (I 5) (I 12) (I 13) pr ch (K 60) (K 61) (K 62) (K 64) (K 65) (K 66) → Q (some (.int 0)) (sM mo G K J)) :
    sm_wp X 137 0 [some (.ref 60), none, none] [] (sM mo G I J) Q := by
  have key : ∀ k, k ≤ dK n (I 5) pr → (v + 1) % rp (rd n (I 5) pr) (dK n (I 5) pr) k = 0 → ∀ K ch, FrS 60 66 I K → (∀ j, j < 8 → j < dK n (I 5) pr → K 63 j = ch j) → (∀ j, j < dK n (I 5) pr → ch j = if j < k then svC n (I 5) pr v j else zI (nt (bt (clB n (I 5) pr j)) 6 0)) →
      SI n m (I 4) (I 5) (I 12) (I 13) pr ch (K 60) (K 61) (K 62) (K 64) (K 65) (K 66) → sm_wp X 137 12 [some (.ref 60), some (.int (zI k + (-1))), none] [] (sM mo G K J) Q := by
    intro k
    induction k with
    | zero =>
      intro _ hr K ch f h55 hch hS
      rw [lpw_137_12, if_pos (by decide)]
      exact hQ0 (dg_end hr hv) K ch f hS
    | succ k ih =>
      intro hk hr K ch f h55 hch hS
      have k4 : K 4 = I 4 := f.1 4 (by decide)
      have k5 : K 5 = I 5 := f.1 5 (by decide)
      have k12 : K 12 = I 12 := f.1 12 (by decide)
      have k13 : K 13 = I 13 := f.1 13 (by decide)
      have p := sv_p v (show k < dK n (I 5) pr by omega)
      have ck : ch k = zI (sv n (I 5) pr v k) := by rw [hch k (by omega), if_pos (by omega)]; rfl
      have e54 : K 62 k = clB n (I 5) pr k := (hS.2.2.1 k (by omega) (by omega)).2
      rw [zI_p1, lpw_137_12, if_neg (by rw [zIr_lt (c := 0) (by decide) (by omega)]; exact Nat.not_lt_zero _), zI_vp (by omega), zI_cn (by omega), h55 k (by omega) (by omega), ck]
      refine ⟨by omega, ?_⟩
      rw [cw_132 (by omega) e54 (show sv n (I 5) pr v k + 1 ≤ 6 by omega) (zIr_add 1 _), cN_p p.1, p.2.2]
      simp only [tl_some]
      rw [lpw_137_27]
      unfold nxC
      by_cases g : dg (rd n (I 5) pr) (dK n (I 5) pr) v k + 1 < cN (bt (clB n (I 5) pr k)) 6
      · have np := nt_p g
        rw [if_pos g, if_neg (by rw [zI_m1 (by omega)]; exact id)]
        refine cw_133 (I := K) (n := n) (m := m) (pr := pr) (ch := ch) (by omega) (by rw [k5]; omega) np.2.1 h12 (by rw [k13]; exact hW) (by rw [k12]; exact hB) (by rw [k4, k5, k12, k13]; exact hS) (by rw [k5]; exact h55) (Or.inr ⟨_, p.2.1, ck⟩) ?_
        intro L fL l55 hL
        rw [k5] at l55
        rw [k4, k5, k12, k13] at hL
        simp only [tl_none]
        rw [lpw_137_39]
        have e : ∀ j, j < dK n (I 5) pr → va_up ch k (zI (nt (bt (clB n (I 5) pr k)) 6 (dg (rd n (I 5) pr) (dK n (I 5) pr) v k + 1))) j = svC n (I 5) pr (v + 1) j := by
          intro j hj
          rw [va_ap]
          unfold svC sv
          by_cases g1 : j = k
          · subst g1
            rw [if_pos rfl, dg_at rd_pos (by omega) hr g]
          · rw [if_neg g1, hch j hj]
            by_cases g2 : j < k + 1
            · rw [if_pos g2, dg_lo rd_pos (by omega) hr g (show j < k by omega)]
              rfl
            · rw [if_neg g2, dg_hi rd_pos hr (show k < j by omega) hj]
        refine hQ1 (dg_in rd_pos (by omega) hr g hv) L (FrS_t f fL) (fun j hj => by rw [l55 j (by omega) hj]; exact e j hj) (si_ch hL (fun s => ?_))
        unfold gtC
        rw [gsm_c (fun j hj => (e j (Nat.lt_of_lt_of_le hj (Nat.min_le_right _ _))).symm)]
      · rw [if_neg g, if_pos rfl, cw_132 (s := 0) (by omega) e54 (by decide) (by decide)]
        simp only [tl_some]
        have z6 : 0 < cN (bt (clB n (I 5) pr k)) 6 := rd_pos k (by omega)
        have np := nt_p z6
        have nx0 : nxC (clB n (I 5) pr k) (cN (bt (clB n (I 5) pr k)) 0) = zI (nt (bt (clB n (I 5) pr k)) 6 0) := by
          unfold nxC
          rw [show cN (bt (clB n (I 5) pr k)) 0 = 0 from rfl, if_pos z6]
        rw [nx0, lpw_137_49]
        refine cw_133 (I := K) (n := n) (m := m) (pr := pr) (ch := ch) (by omega) (by rw [k5]; omega) np.2.1 h12 (by rw [k13]; exact hW) (by rw [k12]; exact hB) (by rw [k4, k5, k12, k13]; exact hS) (by rw [k5]; exact h55) (Or.inr ⟨_, p.2.1, ck⟩) ?_
        intro L fL l55 hL
        rw [k5] at l55
        rw [k4, k5, k12, k13] at hL
        simp only [tl_none]
        rw [lpw_137_52]
        refine ih (by omega) (dg_ca rd_pos (by omega) hr g) L _ (FrS_t f fL) l55 (fun j hj => ?_) hL
        rw [va_ap]
        by_cases g1 : j = k
        · subst g1
          rw [if_pos rfl, if_neg (by omega)]
        · rw [if_neg g1, hch j hj]
          by_cases g2 : j < k + 1
          · rw [if_pos g2, if_pos (by omega)]
          · rw [if_neg g2, if_neg (by omega)]
  rw [lpw_137_0, h.2.1, if_neg (by rw [zIl_lt (c := 8) (by decide) (by omega)]; show ¬ 8 < dK n (I 5) pr; omega), show zI (dK n (I 5) pr) - 1 = zI (dK n (I 5) pr) + (-1) from Int32.sub_eq_add_neg _ _]
  exact key (dK n (I 5) pr) (Nat.le_refl _) (by rw [rp_K]; exact Nat.mod_one _) I _ FrS_r (fun j _ hj => hc j hj) (fun j hj => by rw [if_pos hj]) h
theorem cw_135 {n m : Nat} {pr : Int32} {ch : Nat → Int32} (hn : I 1 0 = zI n) (h12 : n ≤ 12) (hm : I 1 1 = zI m) (h6 : m ≤ 6) (hp : ∀ k, m ≤ k → bt pr k = false) (hW : okW (I 13)) (hsh : shOK mo I n m)
    (h : SI n m (I 4) (I 5) (I 12) (I 13) pr ch (I 60) (I 61) (I 62) (I 64) (I 65) (I 66))
    (hQ : ∀ mo' K z, FrH I K → shOK mo' K n m → (z = 1 ∧ stbC n (I 4) (I 13) pr (gtC n (I 4) (I 5) (I 13) pr ch) ∨ z = 0 ∧ ¬ stbC n (I 4) (I 13) pr (gtC n (I 4) (I 5) (I 13) pr ch)) → Q (some (.int z)) (sM mo' G K J)) :
    sm_wp X 135 0 [some (.ref 60), none, none, none] [] (sM mo G I J) Q := by
  generalize hg : gtC n (I 4) (I 5) (I 13) pr ch = g at *
  have gb : ∀ s, g s ≤ 1188 := fun s => by rw [← hg]; exact gtC_b hW h12 s
  have g56 : ∀ s, s < 6 → I 64 s = zI (g s) := fun s hs => by rw [← hg]; exact (h.2.2.2.1 s hs).1
  have g57 : ∀ s, s < 6 → I 65 s = zI (nowN (I 4) (I 13) n s) := fun s hs => (h.2.2.2.1 s hs).2.1
  have hpr : I 60 2 = pr := h.1
  have nb := fun s => nowN_b (r4 := I 4) hW h12 s
  -- after the table is made
  have two : ∀ v r49 r50 r143, shT (I 4) (I 13) v r49 r50 r143 n m → (∀ s, s < 6 → bt pr s = true → nowN (I 4) (I 13) n s ≤ g s) → sm_wp X 135 52 [some (.ref 60), some (.int v), some (.int 1), none] [] (sM true G (shM I v r49 r50 r143) J) Q := by
    intro v r49 r50 r143 hT hnow
    have fr : FrH I (shM I v r49 r50 r143) := ⟨fun c a b d e => shM_o ⟨a, b, d, e⟩, Or.inr (by rw [shM_48]; simp (decide := true) only [va_ap, if_false, if_true])⟩
    have ok : shOK true (shM I v r49 r50 r143) n m := fun _ => ⟨rfl, by
      rw [shM_o (c := 4) (by decide), shM_o (c := 13) (by decide), shM_48, shM_49, shM_50, shM_143]
      exact hT⟩
    have o52 : shM I v r49 r50 r143 60 = I 60 := shM_o (by decide)
    have o56 : shM I v r49 r50 r143 64 = I 64 := shM_o (by decide)
    have o4 : shM I v r49 r50 r143 4 = I 4 := shM_o (by decide)
    have o13 : shM I v r49 r50 r143 13 = I 13 := shM_o (by decide)
    have yes : (∀ a b, a < b → b < 6 → bt pr a = true → bt pr b = true → ¬ cB (I 4) (I 13) n a b (g a) (g b)) → Q (some (.int 1)) (sM true G (shM I v r49 r50 r143) J) := fun hh => hQ true _ 1 fr ok (Or.inl ⟨rfl, hnow, hh⟩)
    have bl : ∀ d b, b + d = 6 → 1 ≤ b → (∀ c e, c < e → e < b → bt pr c = true → bt pr e = true → ¬ cB (I 4) (I 13) n c e (g c) (g e)) → sm_wp X 135 52 [some (.ref 60), some (.int v), some (.int (zI b)), none] [] (sM true G (shM I v r49 r50 r143) J) Q := by
      intro d
      induction d with
      | zero =>
        intro b hb _ hh
        have : b = 6 := by omega
        subst this
        rw [lpw_135_52, if_pos (by decide)]
        exact yes hh
      | succ d ih =>
        intro b hb hb1 hh
        rw [lpw_135_52, if_neg (by rw [zIl_le (c := 6) (by decide) (by omega)]; show ¬ 6 ≤ b; omega)]
        by_cases v0 : v = 0
        · rw [if_pos v0]
          refine yes (fun c e hce he hc2 he2 hcb => ?_)
          have em : e < m := by
            rcases Nat.lt_or_ge e m with k | k
            · exact k
            · rw [hp e k] at he2; cases he2
          have := (hT.2 c e hce he).mpr ⟨em, cB_m hcb (hnow c (by omega) hc2) (hnow e he he2)⟩
          rw [v0, bt_0] at this
          cases this
        · rw [if_neg v0]
          have al : ∀ d2 a, a + d2 = b → (∀ c, c < a → bt pr c = true → bt pr b = true → ¬ cB (I 4) (I 13) n c b (g c) (g b)) → sm_wp X 135 64 [some (.ref 60), some (.int v), some (.int (zI b)), some (.int (zI a))] [] (sM true G (shM I v r49 r50 r143) J) Q := by
            intro d2
            induction d2 with
            | zero =>
              intro a ha hc
              have : a = b := by omega
              subst this
              rw [lpw_135_64, if_pos (by rw [zI_le (by omega) (by omega)]; omega), show zI a + 1 = zI (a + 1) from zIr_add 1 a]
              refine ih (a + 1) (by omega) (by omega) (fun c e hce he h1 h2 => ?_)
              by_cases ge : e = a
              · subst ge; exact hc c hce h1 h2
              · exact hh c e hce (by omega) h1 h2
            | succ d2 ih2 =>
              intro a ha hc
              have a6 : a < 6 := by omega
              have b6 : b < 6 := by omega
              have ab : a < b := by omega
              have skip : (bt pr a = true → bt pr b = true → ¬ cB (I 4) (I 13) n a b (g a) (g b)) → sm_wp X 135 64 [some (.ref 60), some (.int v), some (.int (zI b)), some (.int (zI a + 1))] [] (sM true G (shM I v r49 r50 r143) J) Q := by
                intro hs
                rw [show zI a + 1 = zI (a + 1) from zIr_add 1 a]
                refine ih2 (a + 1) (by omega) (fun c hc2 h1 h2 => ?_)
                by_cases ge : c = a
                · subst ge; exact hs h1 h2
                · exact hc c (by omega) h1 h2
              rw [lpw_135_64, if_neg (by rw [zI_le (by omega) (by omega)]; omega), bk_147_0, pr2_z a6 b6]
              refine ⟨by decide, trivial, ?_⟩
              simp only [tl_some]
              have p15 := pr2_lt ab b6
              rw [lpw_135_75, o52, hpr]
              by_cases g1 : bt v (pr2 a b) = true
              · rw [if_neg (by rw [hb_bt _ _ (by omega)]; exact fun e => e g1)]
                by_cases g2 : bt pr a = true
                · rw [if_neg (by rw [hb_bt _ _ (by omega)]; exact fun e => e g2)]
                  by_cases g3 : bt pr b = true
                  · rw [if_neg (by rw [hb_bt _ _ (by omega)]; exact fun e => e g3), zI_vp (by omega), zI_vp (by omega), zI_cn (by omega), zI_cn (by omega), o56, g56 a a6, g56 b b6]
                    refine ⟨a6, b6, ?_⟩
                    have bm : b < m := by
                      rcases Nat.lt_or_ge b m with k | k
                      · exact k
                      · rw [hp b k] at g3; cases g3
                    refine ct_149 (n := n) (T := 5955) h12 (Nat.le_refl _) ab b6 (by rw [o13]; exact hW) (by have := gb a; omega) (by have := gb b; omega) (by rw [o4, o13, shM_49, shM_50, shM_143]; exact hT.1 a b ab bm) ?_
                    intro z hz
                    rw [o4, o13] at hz
                    simp only [tl_some]
                    rcases hz with ⟨rfl, hz⟩ | ⟨rfl, hz⟩
                    · rw [lpw_135_124, if_neg (by decide)]
                      exact hQ true _ 0 fr ok (Or.inr ⟨rfl, fun e => e.2 a b ab b6 g2 g3 hz⟩)
                    · rw [lpw_135_124, if_pos rfl]
                      exact skip (fun _ _ => hz)
                  · rw [if_pos (by rw [hb_bt _ _ (by omega)]; exact g3)]
                    exact skip (fun _ e => absurd e g3)
                · rw [if_pos (by rw [hb_bt _ _ (by omega)]; exact g2)]
                  exact skip (fun e => absurd e g2)
              · rw [if_pos (by rw [hb_bt _ _ (by omega)]; exact g1)]
                refine skip (fun h1 h2 hcb => g1 ((hT.2 a b ab b6).mpr ⟨?_, cB_m hcb (hnow a a6 h1) (hnow b b6 h2)⟩))
                rcases Nat.lt_or_ge b m with k | k
                · exact k
                · rw [hp b k] at h2; cases h2
          exact al b 0 (by omega) (fun c hc => absurd hc (Nat.not_lt_zero _))
    exact bl 5 1 (by omega) (Nat.le_refl _) (fun c e hce he => by omega)
  have sl : ∀ d s, s + d = 6 → (∀ t, t < s → bt pr t = true → nowN (I 4) (I 13) n t ≤ g t) → sm_wp X 135 2 [some (.ref 60), some (.int (zI s)), none, none] [] (sM mo G I J) Q := by
    intro d
    induction d with
    | zero =>
      intro s hs hh
      have : s = 6 := by omega
      subst this
      rw [lpw_135_2, if_pos (by decide)]
      refine ct_145 hn h12 hm h6 hW hsh (fun v r49 r50 r143 hT => ?_)
      simp only [tl_some]
      rw [lpw_135_49]
      exact two v r49 r50 r143 hT hh
    | succ d ih =>
      intro s hs hh
      have s6 : s < 6 := by omega
      rw [lpw_135_2, if_neg (by rw [zIl_le (c := 6) (by decide) (by omega)]; show ¬ 6 ≤ s; omega), hpr, show zI s + 1 = zI (s + 1) from zIr_add 1 s]
      by_cases g2 : bt pr s = true
      · rw [if_neg (by rw [hb_bt _ _ (by omega)]; exact fun e => e g2), zI_vp (by omega), zI_cn (by omega), g56 s s6, g57 s s6]
        refine ⟨s6, ?_⟩
        have := nb s
        have := gb s
        by_cases g3 : nowN (I 4) (I 13) n s ≤ g s
        · rw [if_pos (by rw [zI_le (by omega) (by omega)]; exact g3)]
          refine ih (s + 1) (by omega) (fun t ht h1 => ?_)
          by_cases ge : t = s
          · subst ge; exact g3
          · exact hh t (by omega) h1
        · rw [if_neg (by rw [zI_le (by omega) (by omega)]; exact g3)]
          exact hQ mo I 0 ⟨fun _ _ _ _ _ => rfl, Or.inl rfl⟩ hsh (Or.inr ⟨rfl, fun e => g3 (e.1 s s6 g2)⟩)
      · rw [if_pos (by rw [hb_bt _ _ (by omega)]; exact g2)]
        refine ih (s + 1) (by omega) (fun t ht h1 => ?_)
        by_cases ge : t = s
        · subst ge; exact absurd h1 g2
        · exact hh t (by omega) h1
  rw [lpw_135_0]
  exact sl 6 0 (by omega) (fun t ht => absurd ht (Nat.not_lt_zero _))
end T3
end
