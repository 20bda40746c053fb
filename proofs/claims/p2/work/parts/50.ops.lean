/-! leave, note. -/
def uE (v : Int32) : Prop := v = 0 ∨ v = 1 ∨ v = 2
theorem uE_6 : ∀ f : Fin 7, (zI f.val = 0 ∨ zI f.val = 1 ∨ zI f.val = 2) = ¬ 2 < zI f.val := by decide
theorem uE_z {f : Nat} (h : f ≤ 6) : (zI f = 0 ∨ zI f = 1 ∨ zI f = 2) = ¬ 2 < zI f := uE_6 ⟨f, by omega⟩
theorem nBound_c {p : Nat} {f g : Nat → Int32} (h : ∀ k, k < p → (f k = 5 ↔ g k = 5)) : nBound p f = nBound p g := by
  unfold nBound
  apply up_congr
  intro k hk x
  have := h k hk
  grind
theorem nBound_s {p : Nat} {f : Nat → Int32} {v : Int32} (h : ¬ v = 5) : nBound (p + 1) (va_up f p v) = nBound p f := by
  have e : nBound (p + 1) (va_up f p v) = nBound p (va_up f p v) := by
    unfold nBound
    rw [up_s, va_ap, if_pos rfl, if_neg h]
  rw [e]
  apply nBound_c
  intro k hk
  rw [va_ap, if_neg (by omega)]
theorem ivP_set {p n m t : Nat} {a0 b0 : Int32} {r32 r33 r34 r35 r36 r37 r38 r39 r40 r41 r42 r43 r44 q107 q108 q109 q110 q111 q112 q113 q114 q115 q116 q117 q118 q119 row r43' r44' q118' q119' : Nat → Int32} (h : ivP p n m t a0 b0 r32 r33 r34 r35 r36 r37 r38 r39 r40 r41 r42 r43 r44 q107 q108 q109 q110 q111 q112 q113 q114 q115 q116 q117 q118 q119) (hr : ∀ k, row k = r42 k ∨ (¬ r42 k = -1 ∧ ∃ f, f ≤ 6 ∧ row k = zI f)) (h43 : lnE q118' r43') (h44 : q119' = r44') : ivP p n m t a0 b0 r32 r33 r34 r35 r36 r37 r38 r39 r40 r41 row r43' r44' q107 q108 q109 q110 q111 q112 q113 q114 q115 q116 row q118' q119' := by
  obtain ⟨p1, p2, p3, ⟨f1, f2, f3, f4, f5, f6, f7, f8, f9, f10, f11⟩, p5, p6, p7⟩ := h
  have hne : ∀ k, ¬ r42 k = -1 → ¬ row k = -1 := by
    intro k hk
    rcases hr k with e | ⟨-, f, hf, e⟩
    · rw [e]; exact hk
    · rw [e, zI_m1 (by omega)]; exact fun h => h
  refine ⟨p1, p2, p3, ⟨f1, f2, f3, f4, f5, f6, f7, f8, rfl, h43, h44⟩, p5, p6, fun k hk => ?_⟩
  rcases p7 k hk with ⟨a1, a2⟩ | ⟨a1, ⟨f, hf, ef⟩, a3, a4, a5, a6, a7, a8, a9, a10, a11⟩
  · refine Or.inl ⟨?_, a2⟩
    rcases hr k with e | ⟨e, -⟩
    · rw [e]; exact a1
    · exact absurd a1 e
  · refine Or.inr ⟨a1, ?_, a3, a4, a5, a6, a7, a8, a9, ?_, a11⟩
    · rcases hr k with e | ⟨-, g, hg, e⟩
      · exact ⟨f, hf, by rw [e]; exact ef⟩
      · exact ⟨g, hg, e⟩
    · rcases a10 with b | ⟨j, j1, j2, j3, j4⟩
      · exact Or.inl b
      · exact Or.inr ⟨j, j1, j2, hne j j3, j4⟩
/-- the standings when a state goes -/
def lvF (f t : Nat → Int32) (s : Int32) (k : Nat) (a : Int32 × (Nat → Int32)) : Int32 × (Nat → Int32) := if (a.2 k = 0 ∨ a.2 k = 1 ∨ a.2 k = 2) ∧ (f k = s ∨ t k = s) then (a.1 + 1, va_up a.2 k 4) else a
section O1
variable (X : (Nat → Int32) × Nat) (mo : Bool) (G : Nat × Nat) (I : Nat → Nat → Int32) (J : Nat → Nat → Int64) (Q : Option Value → sm_M → Prop)
theorem ct_lapse {p : Nat} (hp : I 31 0 = zI p) (h60 : p ≤ 60) (s : Int32) : sm_wp X 86 0 [some (.ref 31), some (.int s), none, none] [] (sM mo G I J) Q = Q (some (.int (up (lvF (I 32) (I 33) s) p (0, I 42)).1)) (sM mo G (rw2 I 42 (up (lvF (I 32) (I 33) s) p (0, I 42)).2) J) := by
  rw [lp_86_0]
  refine Eq.trans ?_ ((cnt (fun k a => sm_wp X 86 4 [some (.ref 31), some (.int s), some (.int a.1), some (.int (zI k))] [] (sM mo G (rw2 I 42 a.2) J) Q) (lvF (I 32) (I 33) s) (0, I 42) p ?_).trans ?_)
  · rw [rw2_self]; rfl
  · intro k hk
    have c60 : k < 60 := by omega
    have c62 : ¬ p ≤ k := by omega
    rw [lp_86_4]
    have hp2 : rw2 I 42 (up (lvF (I 32) (I 33) s) k (0, I 42)).2 31 0 = zI p := by rw [rw2_n _ _ _ _ (by decide)]; exact hp
    simp only [vf_Pap_isUnended, aPap, hPap_vp hp2 h60, hp2]
    simp (decide := true) (disch := first | omega | decide) only [rw2_a, rw2_n, ne_eq, not_false_eq_true, up2_rw, rw2_rw]
    simp (disch := first | omega | decide) only [zI_lt, zI_le, zI_eq, zI_cn, zI_vp, zI_add, zI_mul, zI_sub, zIl_add, zIr_add, zIl_mul, zIr_mul, zIr_sub, zIl_lt, zIr_lt, zIl_le, zIr_le, zIl_eq, zIr_eq, zI_sIn, zI_m1, zI_m1', Int32.add_zero, Int32.or_zero, hk, c60, c62, if_true, if_false, true_and, not_true_eq_false]
    unfold lvF
    grind
  · rw [lp_86_4]
    have hp2 : rw2 I 42 (up (lvF (I 32) (I 33) s) p (0, I 42)).2 31 0 = zI p := by rw [rw2_n _ _ _ _ (by decide)]; exact hp
    simp (disch := first | omega | decide) only [hp2, zI_lt, zI_le, zI_eq, zI_cn, zI_vp, zI_add, zI_mul, zI_sub, zIl_add, zIr_add, zIl_mul, zIr_mul, zIr_sub, zIl_lt, zIr_lt, zIl_le, zIr_le, zIl_eq, zIr_eq, zI_sIn, zI_m1, zI_m1', Int32.add_zero, Int32.or_zero, Nat.le_refl, if_true]
theorem nH_leave {m p : Nat} (hm : I 1 1 = zI m) (h6 : m ≤ 6) (hp : I 31 0 = zI p) (h60 : p ≤ 60) (s : Int32) : sm_wp X 202 0 [some (.ref 0), some (.int s)] [] (sM mo G I J) Q = if sIn s m ∧ bt (I 1 2) s.toNatClampNeg = true then Q (some (.int (up (lvF (I 32) (I 33) s) p (0, I 42)).1)) (sM mo G (rw2 (up2 (up2 I 1 2 (I 1 2 &&& ((1 : Int32) <<< (s &&& 31) ^^^ (-1)))) 1 4 (I 1 4 + 1)) 42 (up (lvF (I 32) (I 33) s) p (0, I 42)).2) J) else Q (some (.int (-1))) (sM mo G I J) := by
  rw [lp_202_0]
  simp only [hPres_vp hm h6, hState_vp hm h6]
  by_cases g : sIn s m ∧ bt (I 1 2) s.toNatClampNeg = true
  · simp only [eq_true g, eq_true g.1, not_true_eq_false, if_true, if_false]
    rw [ct_lapse _ _ _ _ _ _ (p := p) (by simp (decide := true) only [up2_ra, up2_rn, va_ap, ne_eq, if_false, if_true, not_false_eq_true]; exact hp) h60]
    simp only [tl_some, lp_202_29]
    simp (decide := true) only [up2_ra, up2_rn, va_ap, ne_eq, if_false, if_true, not_false_eq_true]
  · simp only [eq_false g, if_false]
theorem nM_leave {m p : Nat} (hm : I 81 10 = zI m) (h6 : m ≤ 6) (hp : I 81 46 = zI p) (h60 : p ≤ 60) (hq : ∀ k, k < p → (I 117 k = -1 ∧ I 107 k = 1) ∨ (I 107 k = 0 ∧ ∃ f, f ≤ 6 ∧ I 117 k = zI f)) (s : Int32) : sm_wp X 306 0 [some (.ref 81), some (.int s), none, none] [] (sM mo G I J) Q = if sIn s m ∧ bt (I 81 15) s.toNatClampNeg = true then Q (some (.int (up (lvF (I 108) (I 109) s) p (0, I 117)).1)) (sM mo G (rw2 (up2 (up2 I 81 2 0) 81 15 (I 81 15 ^^^ (1 : Int32) <<< (s &&& 31))) 117 (up (lvF (I 108) (I 109) s) p (0, I 117)).2) J) else Q (some (.int (-1))) (sM mo G (up2 I 81 2 0) J) := by
  rw [lp_306_0]
  simp only [mP0 hm h6]
  by_cases g : sIn s m ∧ bt (I 81 15) s.toNatClampNeg = true
  · simp only [eq_true g, if_true]
    generalize hK : up2 (up2 I 81 2 0) 81 15 (I 81 15 ^^^ (1 : Int32) <<< (s &&& 31)) = K
    have k1 : ∀ c, c ≠ 81 → K c = I c := by
      intro c hc
      rw [← hK, up2_rn _ _ _ _ _ hc, up2_rn _ _ _ _ _ hc]
    have k2 : K 81 46 = zI p := by
      rw [← hK]
      simp (decide := true) only [up2_ra, up2_rn, va_ap, ne_eq, if_false, if_true, not_false_eq_true]
      exact hp
    have hu : ∀ k, k ≤ p → ∀ j, j < p → ((up (lvF (I 108) (I 109) s) k (0, I 117)).2 j = -1 ∧ I 107 j = 1) ∨ (I 107 j = 0 ∧ ∃ f, f ≤ 6 ∧ (up (lvF (I 108) (I 109) s) k (0, I 117)).2 j = zI f) := by
      refine up_ind (fun k (a : Int32 × (Nat → Int32)) => ∀ j, j < p → (a.2 j = -1 ∧ I 107 j = 1) ∨ (I 107 j = 0 ∧ ∃ f, f ≤ 6 ∧ a.2 j = zI f)) hq ?_
      intro k hk a ih j hj
      unfold lvF
      split
      · rename_i hh
        simp only [va_ap]
        split
        · rename_i e
          subst e
          rcases ih j hj with ⟨i1, i2⟩ | ⟨i1, -⟩
          · rw [i1] at hh
            exact absurd hh.1 (by decide)
          · exact Or.inr ⟨i1, 4, by decide, rfl⟩
        · exact ih j hj
      · exact ih j hj
    refine Eq.trans ?_ ((cnt (fun k a => sm_wp X 306 31 [some (.ref 81), some (.int s), some (.int a.1), some (.int (zI k))] [] (sM mo G (rw2 K 117 a.2) J) Q) (lvF (I 108) (I 109) s) (0, I 117) p ?_).trans ?_)
    · rw [← k1 117 (by decide), rw2_self]; rfl
    · intro k hk
      have c60 : k < 60 := by omega
      have c62 : ¬ p ≤ k := by omega
      have hh := hu k (by omega) k hk
      rw [lp_306_31]
      have hp2 : rw2 K 117 (up (lvF (I 108) (I 109) s) k (0, I 117)).2 81 46 = zI p := by rw [rw2_n _ _ _ _ (by decide)]; exact k2
      simp only [hp2]
      simp (decide := true) (disch := first | omega | decide) only [rw2_a, rw2_n, ne_eq, not_false_eq_true, up2_rw, rw2_rw, k1]
      simp (disch := first | omega | decide) only [zI_lt, zI_le, zI_eq, zI_cn, zI_vp, zI_add, zI_mul, zI_sub, zIl_add, zIr_add, zIl_mul, zIr_mul, zIr_sub, zIl_lt, zIr_lt, zIl_le, zIr_le, zIl_eq, zIr_eq, zI_sIn, zI_m1, zI_m1', Int32.add_zero, Int32.or_zero, hk, c60, c62, if_true, if_false, true_and, not_true_eq_false]
      generalize up (lvF (I 108) (I 109) s) k (0, I 117) = A at hh ⊢
      unfold lvF
      rcases hh with ⟨h1, h2⟩ | ⟨h1, f, hf, h2⟩
      · simp (decide := true) only [h1, h2, if_true, if_false, or_self, false_and]
      · have hz := uE_z hf
        simp only [h1, h2, hz, if_true, if_false, not_true_eq_false]
        grind
    · rw [lp_306_31]
      have hp2 : rw2 K 117 (up (lvF (I 108) (I 109) s) p (0, I 117)).2 81 46 = zI p := by rw [rw2_n _ _ _ _ (by decide)]; exact k2
      simp (disch := first | omega | decide) only [hp2, zI_lt, zI_le, zI_eq, zI_cn, zI_vp, zI_add, zI_mul, zI_sub, zIl_add, zIr_add, zIl_mul, zIr_mul, zIr_sub, zIl_lt, zIr_lt, zIl_le, zIr_le, zIl_eq, zIr_eq, zI_sIn, zI_m1, zI_m1', Int32.add_zero, Int32.or_zero, Nat.le_refl, if_true]
  · simp only [eq_false g, if_false]
end O1
section O2
variable {X : (Nat → Int32) × Nat} {c : Nat} {mo : Bool} {G : Nat × Nat} {I : Nat → Nat → Int32} {J : Nat → Nat → Int64}
theorem pr_off (b : Int32) (s : Nat) (hs : s < 32) (h : bt b s = true) : b ^^^ (1 : Int32) <<< (zI s &&& 31) = b &&& ((1 : Int32) <<< (zI s &&& 31) ^^^ (-1)) := by
  have m1 : ∀ l : Fin 32, bt (-1) l.val = true := by decide +kernel
  apply bt_ext
  intro k hk
  have e := bt_b1 s k hs hk
  unfold b1 at e
  rw [bt_xor, bt_and, bt_xor, e, m1 ⟨k, hk⟩]
  by_cases hks : k = s
  · subst hks
    rw [h]
    simp
  · simp [hks]
theorem op_leave (h : inv c mo G I J) (x : Int32) : Agr X 202 [some (.ref 0), some (.int x)] 306 [some (.ref 81), some (.int x), none, none] (sM mo G I J) (Inv (c + 1)) := by
  have hv := inv_t 0 h
  obtain ⟨n, m, t, p, q, r, ch, ln, ⟨hn, hn', h12, hm, hm', h6, hp, hpb, ht, ht', h300⟩, hE, hV, hY, hG, hK, hP, hS, hA, hT, hF, hB, hC, hD, hD2, hX, hZ⟩ := h
  have hP0 := hP
  obtain ⟨p1, p2, p3, ⟨f1, f2, f3, f4, f5, f6, f7, f8, f9, f10, f11⟩, p5, p6, p7⟩ := hP0
  have hq : ∀ k, k < p → (I 42 k = -1 ∧ I 107 k = 1) ∨ (I 107 k = 0 ∧ ∃ f, f ≤ 6 ∧ I 42 k = zI f) := by
    intro k hk
    rcases p7 k hk with a | ⟨a1, a2, -⟩
    · exact Or.inl ⟨a.1, a.2.1⟩
    · exact Or.inr ⟨a1, a2⟩
  unfold Agr
  rw [nH_leave _ _ _ _ _ _ hm h6 p1 p3]
  by_cases g : sIn x m ∧ bt (I 1 2) x.toNatClampNeg = true
  · obtain ⟨s, hs, hs2, rfl⟩ := sIn_ex g.1
    have hb := g.2
    rw [zI_cn hs2] at hb
    rw [if_pos g, nM_leave _ _ _ _ _ _ (m := m) (p := p) (by simp (decide := true) only [up2_ra, up2_rn, va_ap, ne_eq, if_false, if_true, not_false_eq_true, rw2_n]; exact hm') h6 (by simp (decide := true) only [up2_ra, up2_rn, va_ap, ne_eq, if_false, if_true, not_false_eq_true, rw2_n]; exact p2) p3 (by simp (decide := true) only [up2_ra, up2_rn, va_ap, ne_eq, if_false, if_true, not_false_eq_true, rw2_n]; rw [f9]; exact hq), if_pos (by simp (decide := true) only [up2_ra, up2_rn, va_ap, ne_eq, if_false, if_true, not_false_eq_true, rw2_n]; rw [hp]; exact g)]
    simp (decide := true) only [up2_ra, up2_rn, va_ap, ne_eq, if_false, if_true, not_false_eq_true, rw2_n, f1, f2, f9]
    refine ⟨trivial, mo, G, _, _, rfl, n, m, t, p, q, r, ch + 1, ln, ?_⟩
    simp (decide := true) only [up2_ra, up2_rn, va_ap, ne_eq, if_false, if_true, not_false_eq_true, rw2_n, rw2_a]
    have hrow : ∀ k, (up (lvF (I 32) (I 33) (zI s)) p (0, I 42)).2 k = I 42 k ∨ ((I 42 k = 0 ∨ I 42 k = 1 ∨ I 42 k = 2) ∧ (up (lvF (I 32) (I 33) (zI s)) p (0, I 42)).2 k = 4) := by
      refine up_ind (fun k (a : Int32 × (Nat → Int32)) => ∀ k, a.2 k = I 42 k ∨ ((I 42 k = 0 ∨ I 42 k = 1 ∨ I 42 k = 2) ∧ a.2 k = 4)) (fun k => Or.inl rfl) ?_ p (Nat.le_refl _)
      intro k hk a ih j
      unfold lvF
      split
      · rename_i hh
        simp only [va_ap]
        split
        · rename_i e
          subst e
          rcases ih j with i1 | ⟨i1, i2⟩
          · rw [i1] at hh
            exact Or.inr ⟨hh.1, rfl⟩
          · exact Or.inr ⟨i1, rfl⟩
        · exact ih j
      · exact ih j
    refine ⟨⟨hn, hn', h12, hm, hm', h6, by rw [hp]; exact pr_off _ _ (by omega) hb, fun k hk => by rw [bt_and, hpb k hk, Bool.false_and], ht, ht', h300⟩, hE, hV, ?_, hG, ivK_u hK, ?_, hS, hA, hT, hF, hB, ivC_u hC, ivD_u hD, ivD_u hD2, hX, ivZ_s hZ⟩
    · have e : nBound p (up (lvF (I 32) (I 33) (zI s)) p (0, I 42)).2 = nBound p (I 42) := by
        apply nBound_c
        intro k hk
        rcases hrow k with e | ⟨e1, e2⟩
        · rw [e]
        · rw [e2]
          rcases e1 with e1 | e1 | e1 <;> rw [e1] <;> decide
      obtain ⟨y1, y2, y3⟩ := hY
      exact ⟨y1, fun l => by rw [e]; exact y2 l, y3⟩
    · refine ivP_set hP ?_ f10 f11
      intro k
      rcases hrow k with e | ⟨e1, e2⟩
      · exact Or.inl e
      · refine Or.inr ⟨?_, 4, by decide, e2⟩
        rcases e1 with e1 | e1 | e1 <;> rw [e1] <;> decide
  · rw [if_neg g, nM_leave _ _ _ _ _ _ hm' h6 p2 p3 (by rw [f9]; exact hq), if_neg (by rw [hp]; exact g)]
    exact ⟨rfl, hv⟩
end O2
