/-! has, count, heard, leave. -/
def nKn (I : Nat → Nat → Int32) (s d w : Int32) (n : Nat) : Int32 := up (fun k a => if I 42 k = -1 ∧ I 35 k = w ∧ ¬ vf_Pap_knownDay I (zI k) s < 0 ∧ ¬ d < vf_Pap_knownDay I (zI k) s then a + 1 else a) n 0
section O1
variable (X : (Nat → Int32) × Nat) (mo : Bool) (G : Nat × Nat) (I : Nat → Nat → Int32) (J : Nat → Nat → Int64) (Q : Option Value → sm_M → Prop)
theorem ct_worthHeld {n : Nat} (hn : I 1 0 = zI n) (h12 : n ≤ 12) (s : Int32) : sm_wp X 111 0 [some (.ref 1), some (.int s)] [] (sM mo G I J) Q = Q (some (.int (wsum (I 13) s (hlds (I 4) s n) n))) (sM mo G I J) := by
  rw [lp_111_0, ct_landsHeld _ _ _ _ _ _ hn h12]
  simp only [tl_some]
  rw [lp_111_7, ct_worthOfLands _ _ _ _ _ _ hn h12]
  simp only [tl_some]
  rw [lp_111_10]
theorem nH_has {n m : Nat} (hn : I 1 0 = zI n) (h12 : n ≤ 12) (hm : I 1 1 = zI m) (h6 : m ≤ 6) (s : Int32) : sm_wp X 188 0 [some (.ref 0), some (.int s)] [] (sM mo G I J) Q = if sIn s m then Q (some (.int (wsum (I 13) s (hlds (I 4) s n) n))) (sM mo G I J) else Q (some (.int (-1))) (sM mo G I J) := by
  rw [lp_188_0, ct_worthHeld _ _ _ _ _ _ hn h12]
  simp only [tl_some, lp_188_19, hState_vp hm h6]
  by_cases g : sIn s m
  · simp only [eq_true g, not_true_eq_false, if_true, if_false]
  · simp only [eq_false g, not_false_eq_true, if_true, if_false]
theorem nM_has {n m : Nat} (hn : I 81 3 = zI n) (h12 : n ≤ 12) (hm : I 81 10 = zI m) (h6 : m ≤ 6) (s : Int32) : sm_wp X 222 0 [some (.ref 81), some (.int s)] [] (sM mo G I J) Q = if sIn s m then Q (some (.int (wsum (I 91) s (hlds (I 85) s n) n))) (sM mo G (up2 I 81 2 0) J) else Q (some (.int (-1))) (sM mo G (up2 I 81 2 0) J) := by
  rw [lp_222_0]
  simp only [mS0 hm h6]
  by_cases g : sIn s m
  · obtain ⟨k, hk, hk2, rfl⟩ := sIn_ex g
    simp only [eq_true g, not_true_eq_false, if_true, if_false]
    rw [ct_Mholdings _ _ _ _ _ _ (n := n) (by simp (decide := true) only [up2_ra, up2_rn, va_ap, ne_eq, if_false, if_true, not_false_eq_true]; exact hn) h12]
    simp only [tl_some]
    rw [lp_222_20, ct_MworthOf _ _ _ _ _ _ (n := n) (by simp (decide := true) only [up2_ra, up2_rn, va_ap, ne_eq, if_false, if_true, not_false_eq_true]; exact hn) h12 (by omega)]
    simp only [tl_some]
    rw [lp_222_23]
    simp (decide := true) only [up2_ra, up2_rn, va_ap, ne_eq, if_false, if_true, not_false_eq_true]
  · simp only [eq_false g, not_false_eq_true, if_true, if_false]
theorem ct_notes {p : Nat} (hp : I 31 0 = zI p) (h60 : p ≤ 60) (hk : ∀ k, k < p → ∃ j, I 34 k = zI j ∧ j ≤ 300) (s d w : Int32) : sm_wp X 85 0 [some (.ref 31), some (.int s), some (.int d), some (.int w), none, none, none] [] (sM mo G I J) Q = Q (some (.int (nKn I s d w p))) (sM mo G I J) := by
  rw [lp_85_0]
  have hd : ∀ k, k < p → (vf_Pap_knownDay I (zI k) s = -1) = (vf_Pap_knownDay I (zI k) s < 0) := by
    intro k hk1
    obtain ⟨j, hj, hj2⟩ := hk k hk1
    have z0 : ∀ e : Nat, e ≤ 301 → (zI e = -1) = (zI e < 0) := by
      intro e he
      simp (disch := first | omega | decide) only [zI_lt, zI_le, zI_eq, zI_cn, zI_vp, zI_add, zI_mul, zI_sub, zIl_add, zIr_add, zIl_mul, zIr_mul, zIr_sub, zIl_lt, zIr_lt, zIl_le, zIr_le, zIl_eq, zIr_eq, zI_sIn, zI_m1, zI_m1', Int32.add_zero, Int32.or_zero, Nat.not_lt_zero]
    have z1 : ((-1 : Int32) = -1) = ((-1 : Int32) < 0) := by decide
    have z2 := z0 j (by omega)
    have z3 := z0 (j + 1) (by omega)
    unfold vf_Pap_knownDay
    simp (disch := first | omega | decide) only [zI_lt, zI_le, zI_eq, zI_cn, zI_vp, zI_add, zI_mul, zI_sub, zIl_add, zIr_add, zIl_mul, zIr_mul, zIr_sub, zIl_lt, zIr_lt, zIl_le, zIr_le, zIl_eq, zIr_eq, zI_sIn, zI_m1, zI_m1', Int32.add_zero, Int32.or_zero, hj]
    grind
  refine (cnt (fun k b => sm_wp X 85 6 [some (.ref 31), some (.int s), some (.int d), some (.int w), some (.int b), some (.int (zI k)), none] [] (sM mo G I J) Q) (fun k a => if I 42 k = -1 ∧ I 35 k = w ∧ ¬ vf_Pap_knownDay I (zI k) s < 0 ∧ ¬ d < vf_Pap_knownDay I (zI k) s then a + 1 else a) 0 p ?_).trans ?_
  · intro k hk1
    have c60 : k < 60 := by omega
    have c61 : ¬ 60 ≤ k := by omega
    have c62 : ¬ p ≤ k := by omega
    rw [lp_85_6]
    simp only [hPap_vp hp h60, hd k hk1, hp]
    simp (disch := first | omega | decide) only [zI_lt, zI_le, zI_eq, zI_cn, zI_vp, zI_add, zI_mul, zI_sub, zIl_add, zIr_add, zIl_mul, zIr_mul, zIr_sub, zIl_lt, zIr_lt, zIl_le, zIr_le, zIl_eq, zIr_eq, zI_sIn, zI_m1, zI_m1', Int32.add_zero, Int32.or_zero, hk1, c60, c61, c62, if_true, if_false, true_and]
    grind
  · rw [lp_85_6]
    simp (disch := first | omega | decide) only [hp, zI_lt, zI_le, zI_eq, zI_cn, zI_vp, zI_add, zI_mul, zI_sub, zIl_add, zIr_add, zIl_mul, zIr_mul, zIr_sub, zIl_lt, zIr_lt, zIl_le, zIr_le, zIl_eq, zIr_eq, zI_sIn, zI_m1, zI_m1', Int32.add_zero, Int32.or_zero, Nat.le_refl, if_true]
    rfl
end O1
section O2
variable {X : (Nat → Int32) × Nat} {c : Nat} {mo : Bool} {G : Nat × Nat} {I : Nat → Nat → Int32} {J : Nat → Nat → Int64}
theorem op_has (h : inv c mo G I J) (x : Int32) : Agr X 188 [some (.ref 0), some (.int x)] 222 [some (.ref 81), some (.int x)] (sM mo G I J) (Inv (c + 1)) := by
  have hv := inv_t 0 h
  obtain ⟨n, m, t, p, q, r, ch, ln, hN, ⟨e2, e4, e5, e6, e10, e11, e12, e13⟩, hV, hY, hG, hK, hP, hS, hA, hT, hF, hB, hC, hD, hD2, hX, hZ⟩ := h
  obtain ⟨hn, hn', h12, hm, hm', h6, -⟩ := hN
  unfold Agr
  rw [nH_has _ _ _ _ _ _ hn h12 hm h6, nM_has _ _ _ _ _ _ hn' h12 hm' h6, nM_has _ _ _ _ _ _ hn' h12 hm' h6, e4, e13]
  by_cases g : sIn x m
  · simp only [eq_true g, if_true, hv, and_self]
  · simp only [eq_false g, if_false, hv, and_self]
theorem op_heard (h : inv c mo G I J) (x y z : Int32) : Agr X 187 [some (.ref 0), some (.int x), some (.int y), some (.int z)] 273 [some (.ref 81), some (.int x), some (.int y), some (.int z), none, none, none] (sM mo G I J) (Inv (c + 1)) := by
  have hv := inv_t 0 h
  obtain ⟨n, m, t, p, q, r, ch, ln, ⟨hn, hn', h12, hm, hm', h6, hp, hpb, ht, ht', h300⟩, hE, hV, hY, hG, hK, hP, hS, hA, hT, hF, hB, hC, hD, hD2, hX, hZ⟩ := h
  have hP0 := hP
  obtain ⟨p1, p2, p3, ⟨f1, f2, f3, f4, f5, f6, f7, f8, f9, f10, f11⟩, p5, p6, p7⟩ := hP0
  unfold Agr
  have hk : ∀ k, k < p → ∃ j, I 34 k = zI j ∧ j ≤ 300 := fun k hk => by
    obtain ⟨-, -, d, hd, e⟩ := p6 k hk
    exact ⟨d, e, by omega⟩
  have hM : sIn x m → ∀ Q : Option Value → sm_M → Prop, sm_wp X 273 43 [some (.ref 81), some (.int x), some (.int y), some (.int z), some (.int 0), some (.int 0), none] [] (sM mo G (up2 I 81 2 0) J) Q = Q (some (.int (nKn I x y z p))) (sM mo G (up2 I 81 2 0) J) := by
    intro gx Q
    obtain ⟨j, hj, hj2, rfl⟩ := sIn_ex gx
    refine (cnt (fun k b => sm_wp X 273 43 [some (.ref 81), some (.int (zI j)), some (.int y), some (.int z), some (.int b), some (.int (zI k)), none] [] (sM mo G (up2 I 81 2 0) J) Q) (fun k a => if I 42 k = -1 ∧ I 35 k = z ∧ ¬ vf_Pap_knownDay I (zI k) (zI j) < 0 ∧ ¬ y < vf_Pap_knownDay I (zI k) (zI j) then a + 1 else a) 0 p ?_).trans ?_
    · intro k hk1
      have c60 : k < 60 := by omega
      have c62 : ¬ p ≤ k := by omega
      have hw := ivP_q hP hk1
      have hq : I 107 k = 1 ∨ (I 107 k = 0 ∧ I 36 k = 0) := by
        rcases hw with w | w
        · exact Or.inl w.2
        · exact Or.inr ⟨w.2.1, w.2.2.1⟩
      obtain ⟨k1, k2⟩ := kn_eq (j := j) p1 p3 hk1 (by omega) f1 f2 f3 f8 hq
      rw [lp_273_43]
      simp only [k1, eq_true k2, true_and]
      simp (decide := true) only [up2_ra, up2_rn, va_ap, ne_eq, if_false, if_true, not_false_eq_true, p2, f7]
      simp (disch := first | omega | decide) only [zI_lt, zI_le, zI_eq, zI_cn, zI_vp, zI_add, zI_mul, zI_sub, zIl_add, zIr_add, zIl_mul, zIr_mul, zIr_sub, zIl_lt, zIr_lt, zIl_le, zIr_le, zIl_eq, zIr_eq, zI_sIn, zI_m1, zI_m1', Int32.add_zero, Int32.or_zero, c60, c62, if_false, true_and]
      rcases hw with ⟨w1, w2⟩ | ⟨w1, w2, -⟩
      · simp (decide := true) only [w1, w2, if_false, true_and]
        grind
      · simp (decide := true) only [w1, w2, if_true, if_false, false_and]
    · rw [lp_273_43]
      simp (decide := true) only [up2_ra, up2_rn, va_ap, ne_eq, if_false, if_true, not_false_eq_true, p2]
      simp (disch := first | omega | decide) only [zI_lt, zI_le, zI_eq, zI_cn, zI_vp, zI_add, zI_mul, zI_sub, zIl_add, zIr_add, zIl_mul, zIr_mul, zIr_sub, zIl_lt, zIr_lt, zIl_le, zIr_le, zIl_eq, zIr_eq, zI_sIn, zI_m1, zI_m1', Int32.add_zero, Int32.or_zero, Nat.le_refl, if_true]
      rfl
  rw [lp_187_0, ct_notes _ _ _ _ _ _ p1 p3 hk]
  simp only [tl_some, lp_187_45, lp_273_0, hState_vp hm h6, mS0 hm' h6, ht, ht', vf_Model_isIn]
  by_cases gx : sIn x m
  · simp only [eq_true gx, not_true_eq_false, if_false, hM gx]
    grind
  · simp only [eq_false gx, not_false_eq_true, if_true, hv, and_self]
theorem op_count (h : inv c mo G I J) (x : Int32) : Agr X 204 [some (.ref 0), some (.int x)] 310 [some (.ref 81), some (.int x), none, none] (sM mo G I J) (Inv (c + 1)) := by
  have hv := inv_t 0 h
  obtain ⟨n, m, t, p, q, r, ch, ln, ⟨hn, hn', h12, hm, hm', h6, hp, hpb, ht, ht', h300⟩, ⟨e2, e4, e5, e6, e10, e11, e12, e13⟩, hV, hY, hG, hK, hP, hS, hA, hT, hF, hB, hC, hD, hD2, hX, hZ⟩ := h
  unfold Agr
  have hb : ∀ l, bt (((1 : Int32) <<< (zI n &&& 31)) - 1) l = decide (l < n) := by
    have hh := (by decide +kernel : ∀ n : Fin 13, ∀ l : Fin 32, bt (((1 : Int32) <<< (zI n.val &&& 31)) - 1) l.val = decide (l.val < n.val))
    intro l
    by_cases hl : l < 32
    · exact hh ⟨n, by omega⟩ ⟨l, hl⟩
    · rw [bt_big _ _ (by omega)]
      exact (decide_eq_false (by omega)).symm
  have hH : ∀ k, k ≤ n → ∀ l, bt (up (fun l b => if I 4 l = -1 then b ||| b1 l else b) k 0) l = decide (l < k ∧ I 4 l = -1) := by
    apply up_ind (fun k b => ∀ l, bt b l = decide (l < k ∧ I 4 l = -1))
    · intro l
      rw [bt_0]
      exact (decide_eq_false (by omega)).symm
    · intro k hk b ih l
      have e := bt_b1' k l (by omega)
      have e2 := bt_or b (b1 k) l
      have e3 := ih l
      by_cases hl : l = k
      · subst hl
        grind
      · grind
  have hM : ∀ Q : Option Value → sm_M → Prop, sm_wp X 310 93 [some (.ref 81), none, some (.int 0), some (.int 0)] [] (sM mo G (up2 I 81 2 0) J) Q = Q (some (.int (ssum (I 2) ((((1 : Int32) <<< (zI n &&& 31)) - 1) &&& (hlds (I 4) (-1) n ^^^ (-1))) n))) (sM mo G (up2 I 81 2 0) J) := by
    intro Q
    have hs : ∀ l, l < n → (bt ((((1 : Int32) <<< (zI n &&& 31)) - 1) &&& (hlds (I 4) (-1) n ^^^ (-1))) l = true) = ¬ I 4 l = -1 := by
      intro l hl
      have m1 : bt (-1) l = true := by
        have hh := (by decide +kernel : ∀ l : Fin 32, bt (-1) l.val = true)
        exact hh ⟨l, by omega⟩
      rw [bt_and, bt_xor, hb, m1]
      unfold hlds
      rw [hH n (Nat.le_refl _) l]
      simp [hl]
    refine (cnt (fun k b => sm_wp X 310 93 [some (.ref 81), none, some (.int b), some (.int (zI k))] [] (sM mo G (up2 I 81 2 0) J) Q) (fun l a => if bt ((((1 : Int32) <<< (zI n &&& 31)) - 1) &&& (hlds (I 4) (-1) n ^^^ (-1))) l = true then a + I 2 l else a) 0 n ?_).trans ?_
    · intro k hk1
      have c12 : k < 12 := by omega
      have c62 : ¬ n ≤ k := by omega
      rw [lp_310_93]
      simp (decide := true) only [up2_ra, up2_rn, va_ap, ne_eq, if_false, if_true, not_false_eq_true, hn', e2, e4]
      simp (disch := first | omega | decide) only [zI_lt, zI_le, zI_eq, zI_cn, zI_vp, zI_add, zI_mul, zI_sub, zIl_add, zIr_add, zIl_mul, zIr_mul, zIr_sub, zIl_lt, zIr_lt, zIl_le, zIr_le, zIl_eq, zIr_eq, zI_sIn, zI_m1, zI_m1', Int32.add_zero, Int32.or_zero, c12, c62, if_false, true_and, hs k hk1]
      grind
    · rw [lp_310_93]
      simp (decide := true) only [up2_ra, up2_rn, va_ap, ne_eq, if_false, if_true, not_false_eq_true, hn']
      simp (disch := first | omega | decide) only [zI_lt, zI_le, zI_eq, zI_cn, zI_vp, zI_add, zI_mul, zI_sub, zIl_add, zIr_add, zIl_mul, zIr_mul, zIr_sub, zIl_lt, zIr_lt, zIl_le, zIr_le, zIl_eq, zIr_eq, zI_sIn, zI_m1, zI_m1', Int32.add_zero, Int32.or_zero, Nat.le_refl, if_true]
      rfl
  have hC' : ∀ Q : Option Value → sm_M → Prop, sm_wp X 116 0 [some (.ref 1)] [] (sM mo G I J) Q = Q (some (.int (ssum (I 2) ((((1 : Int32) <<< (zI n &&& 31)) - 1) &&& (hlds (I 4) (-1) n ^^^ (-1))) n))) (sM mo G I J) := by
    intro Q
    rw [lp_116_0, ct_landsHeld _ _ _ _ _ _ hn h12]
    simp only [tl_some]
    rw [lp_116_10, ct_soulsOfLands _ _ _ _ _ _ hn h12]
    simp only [tl_some]
    rw [lp_116_16, hn]
  rw [lp_204_0, hC']
  simp only [tl_some, lp_204_111, lp_310_0, hM, hn, hn', hm, hm', hp, ht, ht', hP.1, hP.2.1, hA.1, hA.2.1, hS.1, hS.2.1]
  grind
end O2
