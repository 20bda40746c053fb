/-! Orders: the reference's closing parenthesis, ends of lines, faults, starts of lines. -/
theorem v67 : vp_in 6 7 := Eq.mpr (zI_vp (a := 6) (n := 7) (by decide)) (by decide)
section R5
variable {X : (Nat → Int32) × Nat} {mo : Bool} {G : Nat × Nat} {J : Nat → Nat → Int64} {Q R : Option Value → sm_M → Prop}
theorem CT_B {m z z' w w' kn o : Nat} {cm : Int32} {c c' sg vb le gb gb' wo : Nat → Nat} {T L : Nat → Nat → Int32} (hC : CT m z w 3 kn o cm c sg vb le gb wo T) (b : frB T L) (l38 : L 81 38 = zI w') (l35 : L 81 35 = zI z') (lB : rB m z' w' kn (ls le m) c' gb' sg wo le (L 94) (L 95) (L 96) (L 97) (L 98) (L 103) (L 104)) (lH : rH (ls le m) z' c' gb' (L 105) (L 81 40)) : CT m z' w' 3 kn o cm c' sg vb le gb' wo L := by
  obtain ⟨⟨s1, s2, s3⟩, hB, hHC, hV⟩ := hC
  obtain ⟨hH, hc⟩ := hHC (by omega)
  obtain ⟨s4, s5, s6, s7, s8⟩ := s3 (by omega)
  obtain ⟨c1, c2, c3⟩ := b
  refine ⟨⟨by rw [c2 34 (by decide) (by decide) (by decide)]; exact s1, l35, fun _ => ⟨l38, by rw [c2 42 (by decide) (by decide) (by decide)]; exact s5, by rw [c2 43 (by decide) (by decide) (by decide)]; exact s6, by rw [c2 44 (by decide) (by decide) (by decide)]; exact s7, fun e => absurd rfl e⟩⟩, lB, fun _ => ⟨lH, by rw [c1 106 (by decide) (by decide) (by decide) (by decide) (by decide)]; exact hc⟩, ?_⟩
  rw [c1 99 (by decide) (by decide) (by decide) (by decide) (by decide), c1 100 (by decide) (by decide) (by decide) (by decide) (by decide), c1 101 (by decide) (by decide) (by decide) (by decide) (by decide), c1 102 (by decide) (by decide) (by decide) (by decide) (by decide)]
  exact hV
theorem r_b1 {m z w kn o : Nat} {cm : Int32} {c sg vb le gb wo : Nat → Nat} {T : Nat → Nat → Int32} (hC : CT m z w 3 kn o cm c sg vb le gb wo T) (hW : pW m z w 3 kn o c sg vb le)
    (hQ : ∀ L gb', CT m (z + pm 1 sg w) (w - pm 1 sg w) 3 kn o cm (pcG 1 sg sg w z c) sg vb le gb' wo L → pW m (z + pm 1 sg w) (w - pm 1 sg w) 3 kn o (pcG 1 sg sg w z c) sg vb le → frB T L → Q none (sM mo G L J)) :
    sm_wp X 244 0 [some (.ref 81), some (.int 1), none] [] (sM mo G T J) Q := by
  obtain ⟨s1, s2, s3⟩ := hC.1
  obtain ⟨s4, s5, s6, s7, s8⟩ := s3 (by omega)
  refine r_bind (least := 1) (kr := kn) (sg := sg) (vb := vb) (le := le) (wo := wo) (m := m) (kn := kn) (o := o) (by omega) (by omega) hW.1.2.2.1 w z c gb T hW s4 s2 hC.2.1 (hC.2.2.1 (by omega)).1 ?_
  intro L b l38 l35 lB lH lW
  exact hQ L _ (CT_B hC b l38 l35 lB lH) lW b
theorem r_clo {B : Nat → Nat} {n p m z w kn o : Nat} {cm : Int32} {c sg vb le gb wo : Nat → Nat} {T0 T : Nat → Nat → Int32} (hC : CT m z w 3 kn o cm c sg vb le gb wo T) (hW : pW m z w 3 kn o c sg vb le) (ho : 0 < o) (h22 : T 81 22 = 3) (h23 : T 81 23 = zI 41) (f : tpF B n p T0 T) (h1 : 1 ≤ w - pm 1 sg w) (h30 : sg (w - pm 1 sg w - 1) = 30)
    (hQ : ∀ L gb', CT m (z + pm 1 sg w) (w - pm 1 sg w - 1) 3 kn (o - 1) cm (pcG 1 sg sg w z c) sg vb le gb' wo L → pW m (z + pm 1 sg w) (w - pm 1 sg w - 1) 3 kn (o - 1) (pcG 1 sg sg w z c) sg vb le → frR T0 L → tkF B n (plc B n p) L → sm_wp X 234 30 [some (.ref 81), none] [] (sM mo G L J) R) : sm_wp X 234 30 [some (.ref 81), none] [] (sM mo G T J) R := by
  have hC' := hC
  obtain ⟨⟨s1, s2, s3⟩, -⟩ := hC'
  obtain ⟨s4, s5, s6, s7, s8⟩ := s3 (by omega)
  rw [if_pos rfl] at s7
  have o8 : o ≤ 8 := hW.1.2.2.2.2.1
  have sn : vf_Model_signNow T = -1 := by
    unfold vf_Model_signNow
    rw [if_pos (by rw [h22]; decide), if_neg (fun e => e h22), h23, if_pos (by decide)]
  rw [lp_234_30, if_pos s7, sn, if_pos (by decide), s5, if_neg (by rw [zIr_le (c := 0) (by decide) (by omega)]; show ¬ o ≤ 0; omega), if_neg (fun e => e ⟨h22, h23⟩)]
  refine r_b1 hC hW ?_
  intro L gb' lC lW b
  have fL := fr_B f.2.1 b
  have e21 : L 81 21 = T 81 21 := b.2.1 21 (by decide) (by decide) (by decide)
  obtain ⟨⟨t1, t2, t3⟩, lB, lHC, lV⟩ := lC
  obtain ⟨lH, lc⟩ := lHC (by omega)
  obtain ⟨t4, t5, t6, t7, -⟩ := t3 (by omega)
  obtain ⟨w', hw'⟩ : ∃ w', w - pm 1 sg w = w' + 1 := ⟨w - pm 1 sg w - 1, by omega⟩
  rw [hw'] at lW lB t4 h30
  rw [Nat.add_sub_cancel] at h30
  rw [hw', Nat.add_sub_cancel] at hQ
  have q := pW_q lW h30
  have wb : w ≤ 72 := by have := np_w sg w; have := hW.1; omega
  simp only [tl_none]
  rw [lp_234_87, t5, t4, show zI o - 1 = zI (o - 1) from zIr_sub (c := 1) ho, show zI (w' + 1) - 1 = zI w' from zIr_sub (c := 1) (a := w' + 1) (by show 1 ≤ w' + 1; omega), zI_vp (by omega), zI_cn (by omega), lc (o - 1) (by omega)]
  refine ⟨by omega, by split <;> first | exact Or.inr rfl | exact Or.inl rfl, ?_⟩
  have fV : frR T0 (up2 (up2 (up2 L 81 38 (zI w')) 81 42 (zI (o - 1))) 81 43 (if bt cm (o - 1) = true then 1 else 0)) := fr_u (by unfold okc; omega) (fr_u (by unfold okc; omega) (fr_u (by unfold okc; omega) fL))
  refine r_tf f fV (by simp (decide := true) only [up2_ra, up2_rn, va_ap, ne_eq, if_false, if_true, not_false_eq_true]; exact e21) ?_
  intro V hV'
  have tV := tkM_F hV'
  simp only [tl_none]
  rw [lp_234_124, if_pos (by decide)]
  refine hQ V gb' (CT_tk ⟨⟨?_, ?_, fun _ => ⟨?_, ?_, ?_, ?_, fun e => absurd rfl e⟩⟩, ?_, fun _ => ⟨?_, ?_⟩, ?_⟩ hV') q.1 (fr_tk fV hV') tV
  · simp (decide := true) only [up2_ra, up2_rn, va_ap, ne_eq, if_false, if_true, not_false_eq_true]; exact t1
  · simp (decide := true) only [up2_ra, up2_rn, va_ap, ne_eq, if_false, if_true, not_false_eq_true]; exact t2
  · simp (decide := true) only [up2_ra, up2_rn, va_ap, ne_eq, if_false, if_true, not_false_eq_true]
  · simp (decide := true) only [up2_ra, up2_rn, va_ap, ne_eq, if_false, if_true, not_false_eq_true]
  · simp (decide := true) only [up2_ra, up2_rn, va_ap, ne_eq, if_false, if_true, not_false_eq_true]
  · simp (decide := true) only [up2_ra, up2_rn, va_ap, ne_eq, if_false, if_true, not_false_eq_true]; exact t7
  · simp (decide := true) only [up2_ra, up2_rn, ne_eq, not_false_eq_true]
    exact rB_d lB
  · simp (decide := true) only [up2_ra, up2_rn, va_ap, ne_eq, if_false, if_true, not_false_eq_true]
    exact lH
  · simp (decide := true) only [up2_ra, up2_rn, va_ap, ne_eq, if_false, if_true, not_false_eq_true]
    exact fun j hj => lc j (by omega)
  · simp (decide := true) only [up2_ra, up2_rn, va_ap, ne_eq, if_false, if_true, not_false_eq_true]
    exact lV
/-- the rest behind an expression -/
def RC (X : (Nat → Int32) × Nat) (m : Nat) (x2 : Int32) (Q : Option Value → sm_M → Prop) : Option Value → sm_M → Prop := fun v M => sm_wp X 232 79 [some (.ref 81), some (.int (zI (96 + m)))] (v.toList ++ []) M (fun v M => sm_wp X 225 86 [some (.ref 81), none, some (.int x2), none, none] (v.toList ++ []) M Q)
theorem RC_0 {m : Nat} {x2 : Int32} {L : Nat → Nat → Int32} (h : Q (some (.int (-1))) (sM mo G L J)) : RC X m x2 Q (some (.int 0)) (sM mo G L J) := by
  unfold RC
  simp only [tl_some]
  rw [lp_232_79, if_neg (fun e => e rfl)]
  simp only [tl_some]
  rw [lp_225_86, if_neg (fun e => e rfl)]
  exact h
/-- a line's end -/
theorem r_eol {B : Nat → Nat} {n p m z w kn : Nat} {cm x2 : Int32} {c sg vb le gb wo : Nat → Nat} {T0 T : Nat → Nat → Int32} (hC : CT m z w 3 kn 0 cm c sg vb le gb wo T) (hW : pW m z w 3 kn 0 c sg vb le) (h22 : T 81 22 = 3) (h23 : T 81 23 = zI 59) (f : tpF B n p T0 T) (h0 : w - pm 1 sg w = 0)
    (hQ : ∀ L gb', CT (m + 1) (z + pm 1 sg w) 0 0 kn 0 cm (pcG 1 sg sg w z c) sg vb (va_up le m (z + pm 1 sg w)) gb' wo L → pW (m + 1) (z + pm 1 sg w) 0 0 kn 0 (pcG 1 sg sg w z c) sg vb (va_up le m (z + pm 1 sg w)) → frR T0 L → tkF B n (plc B n p) L → sm_wp X 225 75 [some (.ref 81), none, some (.int x2), none, none] [] (sM mo G L J) Q) : sm_wp X 234 30 [some (.ref 81), none] [] (sM mo G T J) (RC X m x2 Q) := by
  have hC' := hC
  obtain ⟨⟨s1, s2, s3⟩, -⟩ := hC'
  obtain ⟨s4, s5, s6, s7, s8⟩ := s3 (by omega)
  rw [if_pos rfl] at s7
  have sn : vf_Model_signNow T = -1 := by
    unfold vf_Model_signNow
    rw [if_pos (by rw [h22]; decide), if_neg (fun e => e h22), h23, if_pos (by decide)]
  rw [lp_234_30, if_pos s7, sn, if_pos (by decide), s5, if_pos (by decide)]
  refine r_b1 hC hW ?_
  intro L gb' lC lW b
  rw [h0] at lC lW
  have fL := fr_B f.2.1 b
  have e21 : L 81 21 = T 81 21 := b.2.1 21 (by decide) (by decide) (by decide)
  have e22 : L 81 22 = 3 := by rw [b.2.1 22 (by decide) (by decide) (by decide)]; exact h22
  have e23 : L 81 23 = zI 59 := by rw [b.2.1 23 (by decide) (by decide) (by decide)]; exact h23
  obtain ⟨⟨t1, t2, t3⟩, ⟨lG, lw, lI, lL, lf, ll⟩, lHC, lV⟩ := lC
  have m16 : m + 1 ≤ 16 := by have h := lW.1.1; rw [on_1 (by omega)] at h; exact h
  have od3 : on 3 = 1 := on_1 (by omega)
  have e100 : L 100 (96 + m) = zI (ls le m) := (lV.1 m (by rw [od3]; omega)).2
  have e102 : L 102 6 = zI m := lV.2.2
  have zb : z + pm 1 sg w ≤ 64 := by have := lW.1; omega
  simp only [tl_none]
  rw [lp_234_148]
  unfold RC
  simp only [tl_some]
  rw [lp_232_79, if_pos (by decide), if_pos ⟨e22, e23⟩, zI_vp (by omega), zI_cn (by omega), show (6 : Int32).toNatClampNeg = 6 from rfl, e100, e102, t2, show zI (z + pm 1 sg w) - zI (ls le m) = zI (z + pm 1 sg w - ls le m) from zI_sub lf, show zI m + 1 = zI (m + 1) from zIr_add 1 _]
  refine ⟨by omega, v67, ?_⟩
  have fV : frR T0 (up2 (up2 L 101 (96 + m) (zI (z + pm 1 sg w - ls le m))) 102 6 (zI (m + 1))) := fr_u (by unfold okc; omega) (fr_u (by unfold okc; omega) fL)
  refine r_tf f fV (by simp (decide := true) only [up2_ra, up2_rn, va_ap, ne_eq, if_false, if_true, not_false_eq_true]; exact e21) ?_
  intro V hV'
  have tV := tkM_F hV'
  simp only [tl_none]
  rw [lp_232_131]
  simp only [tl_some]
  rw [lp_225_86, if_pos (by decide)]
  have l1 : ls (va_up le m (z + pm 1 sg w)) (m + 1) = z + pm 1 sg w := by unfold ls; rw [if_neg (by omega), Nat.add_sub_cancel, va_s]
  have l2 : ∀ i, i ≤ m → ls (va_up le m (z + pm 1 sg w)) i = ls le i := by
    intro i hi
    unfold ls
    split
    · rfl
    · rw [va_n _ _ (by omega)]
  refine hQ V gb' (CT_tk ⟨⟨?_, ?_, fun e => absurd rfl e⟩, ?_, fun e => absurd rfl e, ?_⟩ hV') (pW_e lW) (fr_tk fV hV') tV
  · simp (decide := true) only [up2_ra, up2_rn, va_ap, ne_eq, if_false, if_true, not_false_eq_true]; exact t1
  · simp (decide := true) only [up2_ra, up2_rn, va_ap, ne_eq, if_false, if_true, not_false_eq_true]; exact t2
  · simp (decide := true) only [up2_ra, up2_rn, ne_eq, not_false_eq_true]
    rw [l1]
    refine ⟨lG, lw, lI, fun i hi => ?_, Nat.le_refl _, fun k hk => by omega⟩
    rw [l2 i (by omega)]
    by_cases e : i = m
    · rw [e, va_s]; exact ⟨Nat.le_refl _, ll⟩
    · rw [va_n _ _ e]; exact lL i (by omega)
  · simp (decide := true) only [up2_ra, up2_rn, ne_eq, not_false_eq_true, vs_a]
    refine ⟨fun i hi => ?_, fun i hi => ?_, rfl⟩
    · have hi' : i < m + 1 := hi
      rw [l2 i (by omega)]
      exact lV.1 i (by rw [od3]; exact hi')
    · rw [l2 i (by omega)]
      by_cases e : i = m
      · rw [e, vs_a, va_s]
      · rw [vs_n _ _ (by omega), va_n _ _ e]
        exact lV.2.1 i (by omega)
/-- faults where a sign is due -/
theorem r_sf {B : Nat → Nat} {m z w kn o t q e : Nat} {cm x2 : Int32} {c sg vb le gb wo : Nat → Nat} {T0 T : Nat → Nat → Int32} (hC : CT m z w 3 kn o cm c sg vb le gb wo T) (hW : pW m z w 3 kn o c sg vb le) (fr : frR T0 T) (hT : tkR B q t e (T 81 22) (T 81 23)) (f : Nat)
    (hF : (f = 1 ∧ ¬ (t = 5 ∨ t = 6) ∧ ¬ (19 ≤ t ∧ t ≤ 23) ∧ ¬ (24 ≤ t ∧ t ≤ 29 ∧ ¬ bt cm o = true) ∧ ¬ (t = 31 ∧ 0 < o) ∧ ¬ (t = 32 ∧ o = 0)) ∨ (f = 2 ∧ kn = 64 ∧ ((19 ≤ t ∧ t ≤ 23) ∨ (24 ≤ t ∧ t ≤ 29 ∧ ¬ bt cm o = true) ∨ (t = 5 ∨ t = 6))))
    (hQ : ∀ L, frR T0 L → Q (some (.int (-1))) (sM mo G (up2 (up2 L 81 18 (zI f)) 81 19 (T 81 24)) J)) : sm_wp X 234 30 [some (.ref 81), none] [] (sM mo G T J) (RC X m x2 Q) := by
  have hC' := hC
  obtain ⟨⟨s1, s2, s3⟩, -⟩ := hC'
  obtain ⟨s4, s5, s6, s7, s8⟩ := s3 (by omega)
  rw [if_pos rfl] at s7
  have o8 : o ≤ 8 := hW.1.2.2.2.2.1
  have fin : ∀ L, frR T0 L → L 81 24 = T 81 24 → ∀ g : Int32, g = zI f → Q (some (.int (-1))) (sM mo G (up2 (up2 L 81 18 g) 81 19 (L 81 24)) J) := fun L h e g hg => by rw [hg, e]; exact hQ L h
  have f62 : ∀ L, Q (some (.int (-1))) (sM mo G L J) → sm_wp X 234 62 [some (.ref 81), some (.int 1)] [.int 0] (sM mo G L J) (RC X m x2 Q) := fun L h => by
    rw [lp_234_62, if_neg (fun e => e rfl)]
    exact RC_0 h
  by_cases bs : bsg t
  · obtain ⟨v1, v2, v3, v4, v5, v6⟩ := bsg_v bs
    rw [lp_234_30, if_pos s7, sn_y hT bs, if_neg (by rw [zIr_lt (c := 0) (by decide) (by omega)]; exact Nat.not_lt_zero _), lp_242_0]
    simp only [tl_some]
    have k12 : 24 ≤ t → t ≤ 29 → kdc t < 7 := fun a b => by unfold kdc; rw [if_neg (by omega), if_neg (by omega), if_neg (by omega), if_neg (by omega), if_neg (by omega), if_neg (by omega), if_neg (by omega)]; omega
    have k12' : ¬ (24 ≤ t ∧ t ≤ 29) → 7 ≤ kdc t := fun a => by
      unfold bsg at bs
      rcases bs with b | rfl | rfl
      · unfold kdc; rw [if_neg (by omega), if_neg (by omega), if_neg (by omega), if_neg (by omega), if_neg (by omega), if_neg (by omega), if_pos (by omega)]; omega
      · decide
      · decide
    by_cases c1 : 24 ≤ t ∧ t ≤ 29
    · rw [if_neg (by rw [zIl_le (c := 7) (by decide) (by omega)]; show ¬ 7 ≤ kdc t; have := k12 c1.1 c1.2; omega), s6]
      by_cases g : bt cm o = true
      · have f1 : f = 1 := by
          rcases hF with h | h
          · exact h.1
          · exfalso
            rcases h.2.2 with x | x | x
            · omega
            · exact x.2.2 g
            · omega
        rw [if_pos g, if_neg (by decide)]
        exact f62 _ (fin T fr rfl 1 (by rw [f1]; rfl))
      · have f2 : f = 2 ∧ kn = 64 := by
          rcases hF with h | h
          · exact absurd ⟨c1.1, c1.2, g⟩ h.2.2.2.1
          · exact ⟨h.1, h.2.1⟩
        rw [if_neg g, if_pos rfl, if_neg (fun e => e (by rw [s1, f2.2]; rfl))]
        exact f62 _ (fin T fr rfl 2 (by rw [f2.1]; rfl))
    · have f2 : f = 2 ∧ kn = 64 := by
        rcases hF with h | h
        · exfalso
          obtain ⟨-, h1, h2, -⟩ := h
          unfold bsg at bs
          omega
        · exact ⟨h.1, h.2.1⟩
      rw [if_pos (by rw [zIl_le (c := 7) (by decide) (by omega)]; exact k12' c1), if_neg (fun e => e (by rw [s1, f2.2]; rfl))]
      exact f62 _ (fin T fr rfl 2 (by rw [f2.1]; rfl))
  · have f1 : f = 1 ∧ ¬ (t = 31 ∧ 0 < o) ∧ ¬ (t = 32 ∧ o = 0) := by
      rcases hF with h | h
      · exact ⟨h.1, h.2.2.2.2.1, h.2.2.2.2.2⟩
      · exfalso
        unfold bsg at bs
        rcases h.2.2 with x | x | x
        · omega
        · exact bs (Or.inl ⟨by omega, x.2.1⟩)
        · omega
    rw [lp_234_30, if_pos s7, sn_n hT bs, if_pos (by decide), s5]
    have ns : ∀ (L : Nat → Nat → Int32) (d k : Nat), L 81 22 = T 81 22 → L 81 23 = T 81 23 → ¬ t = d → (d = 31 ∧ k = 41 ∨ d = 32 ∧ k = 59) → ¬ vf_Model_isSign L (zI k) := by
      rintro L d k e1 e2 nd dk ⟨x, y⟩
      rw [e1] at x
      rw [e2] at y
      rcases hT with ⟨-, a⟩ | ⟨a0, a, b⟩ | ⟨a0, a1, a, b⟩ | ⟨-, a⟩ | ⟨-, a, b⟩
      · rw [a] at x; exact absurd x (by decide)
      · rw [a] at x; exact absurd x (by decide)
      · have s100 : sgW t < 100 := by unfold sgW; split <;> (try split) <;> (try split) <;> (try split) <;> omega
        rw [b, zI_eq (by omega) (by omega)] at y
        unfold sgW at y
        split at y <;> (try split at y) <;> (try split at y) <;> (try split at y) <;> omega
      · rw [a] at x; exact absurd x (by decide)
      · rw [a] at x; exact absurd x (by decide)
    by_cases ho : 0 < o
    · rw [if_neg (by rw [zIr_le (c := 0) (by decide) (by omega)]; show ¬ o ≤ 0; omega), if_pos (show ¬ vf_Model_isSign T 41 from ns T 31 41 rfl rfl (by omega) (Or.inl ⟨rfl, rfl⟩))]
      exact RC_0 (fin T fr rfl 1 (by rw [f1.1]; rfl))
    · rw [if_pos (by rw [zIr_le (c := 0) (by decide) (by omega)]; show o ≤ 0; omega)]
      refine r_b1 hC hW ?_
      intro L gb' lC lW b
      have fL := fr_B fr b
      simp only [tl_none]
      rw [lp_234_148]
      unfold RC
      simp only [tl_some]
      rw [lp_232_79, if_pos (by decide), if_neg (show ¬ vf_Model_isSign L 59 from ns L 32 59 (b.2.1 22 (by decide) (by decide) (by decide)) (b.2.1 23 (by decide) (by decide) (by decide)) (by omega) (Or.inr ⟨rfl, rfl⟩))]
      simp only [tl_some]
      rw [lp_225_86, if_neg (fun e => e rfl)]
      exact fin L fL (b.2.1 24 (by decide) (by decide) (by decide)) 1 (by rw [f1.1]; rfl)
/-- a line begins -/
theorem r_ver {B : Nat → Nat} {n p m z w kn o t q e : Nat} {cm x2 : Int32} {c sg vb le gb wo : Nat → Nat} {T0 T : Nat → Nat → Int32} (hC : CT m z w 0 kn o cm c sg vb le gb wo T) (hW : pW m z w 0 kn o c sg vb le) (hm : m < 16) (ht : t ≤ 3) (hT : tkR B q t e (T 81 22) (T 81 23)) (f : tpF B n p T0 T)
    (hQ : ∀ L, CT m z 0 1 kn 0 0 c sg (va_up vb m t) le gb wo L → frR T0 L → tkF B n (plc B n p) L → sm_wp X 234 30 [some (.ref 81), none] [] (sM mo G L J) (RC X m x2 Q)) : sm_wp X 225 75 [some (.ref 81), none, some (.int x2), none, none] [] (sM mo G T J) Q := by
  obtain ⟨⟨s1, s2, -⟩, hB, -, hV⟩ := hC
  obtain ⟨w0, z0⟩ := hW.2.2.2.2.1 rfl
  subst w0
  have hh : T 81 22 = 1 ∧ T 81 23 = zI t := by
    rcases hT with ⟨a0, -⟩ | ⟨a0, a, b⟩ | ⟨a0, -⟩ | ⟨a0, -⟩ | ⟨a0, -⟩
    · omega
    · exact ⟨a, by rw [b]; unfold prm; rw [if_neg (by omega), if_neg (by omega)]⟩
    · omega
    · omega
    · omega
  have e102 : T 102 6 = zI m := hV.2.2
  rw [lp_225_75, if_neg (by rw [hh.1]; decide), lp_232_0, if_neg (fun e => e hh.1), hh.2, if_pos (by rw [zIr_le (c := 3) (by decide) (by omega)]; exact ht), show (6 : Int32).toNatClampNeg = 6 from rfl, e102, if_pos (by rw [zIr_eq (c := 16) (by decide) (by omega)]; show ¬ m = 16; omega), show (96 : Int32) + zI m = zI (96 + m) from zIl_add 96 m, zI_vp (by omega), zI_cn (by omega), s2]
  refine ⟨v67, by omega, ?_⟩
  have fV : frR T0 (up2 (up2 T 99 (96 + m) (zI t)) 100 (96 + m) (zI z)) := fr_u (by unfold okc; omega) (fr_u (by unfold okc; omega) f.2.1)
  refine r_tf f fV (by simp (decide := true) only [up2_ra, up2_rn, va_ap, ne_eq, if_false, if_true, not_false_eq_true]) ?_
  intro L hL
  have tL := tkM_F hL
  have fL := fr_tk fV hL
  obtain ⟨l1, l2, -⟩ := hL
  simp only [tl_none]
  rw [lp_232_75, lp_234_0]
  have rn : ∀ d, ¬ d = 81 → ¬ d = 99 → ¬ d = 100 → L d = T d := fun d a b e => by rw [l1 d a]; simp only [up2_rn, ne_eq, b, e, not_false_eq_true]
  have jn : ∀ j, ¬ j = 21 → ¬ j = 22 → ¬ j = 23 → ¬ j = 24 → L 81 j = T 81 j := fun j a b c d => by rw [l2 j a b c d]; simp (decide := true) only [up2_ra, up2_rn, va_ap, ne_eq, if_false, if_true, not_false_eq_true]
  refine hQ _ ⟨⟨?_, ?_, fun _ => ⟨?_, ?_, ?_, ?_, fun _ => ?_⟩⟩, ?_, fun _ => ⟨?_, fun j hj => absurd hj (Nat.not_lt_zero _)⟩, ?_⟩ (fr_u (by unfold okc; omega) (fr_u (by unfold okc; omega) (fr_u (by unfold okc; omega) (fr_u (by unfold okc; omega) (fr_u (by unfold okc; omega) (fr_u (by unfold okc; omega) fL)))))) (tkF_u tL (fun j a b => by simp only [up2_ra, up2_rn, va_ap, ne_eq, if_false, if_true, not_false_eq_true, show ¬ j = 38 from by omega, show ¬ j = 40 from by omega, show ¬ j = 42 from by omega, show ¬ j = 43 from by omega, show ¬ j = 44 from by omega, show ¬ j = 45 from by omega]))
  · simp (decide := true) only [up2_ra, up2_rn, va_ap, ne_eq, if_false, if_true, not_false_eq_true]; rw [jn 34 (by decide) (by decide) (by decide) (by decide)]; exact s1
  · simp (decide := true) only [up2_ra, up2_rn, va_ap, ne_eq, if_false, if_true, not_false_eq_true]; rw [jn 35 (by decide) (by decide) (by decide) (by decide)]; exact s2
  · simp (decide := true) only [up2_ra, up2_rn, va_ap, ne_eq, if_false, if_true, not_false_eq_true]
  · simp (decide := true) only [up2_ra, up2_rn, va_ap, ne_eq, if_false, if_true, not_false_eq_true]
  · simp (decide := true) only [up2_ra, up2_rn, va_ap, ne_eq, if_false, if_true, not_false_eq_true]
  · simp (decide := true) only [up2_ra, up2_rn, va_ap, ne_eq, if_false, if_true, not_false_eq_true]
  · simp (decide := true) only [up2_ra, up2_rn, va_ap, ne_eq, if_false, if_true, not_false_eq_true]
  · simp (decide := true) only [up2_ra, up2_rn, ne_eq, not_false_eq_true]
    rw [rn 94 (by decide) (by decide) (by decide), rn 95 (by decide) (by decide) (by decide), rn 96 (by decide) (by decide) (by decide), rn 97 (by decide) (by decide) (by decide), rn 98 (by decide) (by decide) (by decide), rn 103 (by decide) (by decide) (by decide), rn 104 (by decide) (by decide) (by decide)]
    exact hB
  · simp (decide := true) only [up2_ra, up2_rn, va_ap, ne_eq, if_false, if_true, not_false_eq_true]
    rw [← z0]
    refine ⟨by rw [Nat.sub_self]; rfl, fun j hj => ?_⟩
    rw [Nat.sub_self] at hj
    exact absurd hj (Nat.not_lt_zero _)
  · simp (decide := true) only [up2_ra, up2_rn, ne_eq, not_false_eq_true]
    rw [l1 99 (by decide), l1 100 (by decide), rn 101 (by decide) (by decide) (by decide), rn 102 (by decide) (by decide) (by decide)]
    simp (decide := true) only [up2_ra, up2_rn, ne_eq, not_false_eq_true]
    refine ⟨fun i hi => ?_, hV.2⟩
    rw [on_1 (by omega)] at hi
    by_cases e : i = m
    · rw [e, vs_a, vs_a, va_s, z0]; exact ⟨rfl, rfl⟩
    · rw [vs_n _ _ (by omega), vs_n _ _ (by omega), va_n _ _ e]
      exact hV.1 i (by have e0 : on 0 = 0 := rfl; rw [e0]; omega)
/-- faults where a line is due -/
theorem r_vff {B : Nat → Nat} {m z w kn o t q e : Nat} {cm x2 : Int32} {c sg vb le gb wo : Nat → Nat} {T0 T : Nat → Nat → Int32} (hC : CT m z w 0 kn o cm c sg vb le gb wo T) (fr : frR T0 T) (hT : tkR B q t e (T 81 22) (T 81 23)) (f : Nat) (h34 : ¬ t = 34) (hF : (f = 1 ∧ 3 < t) ∨ (f = 2 ∧ t ≤ 3 ∧ m = 16))
    (hQ : ∀ L, frR T0 L → Q (some (.int (-1))) (sM mo G (up2 (up2 L 81 18 (zI f)) 81 19 (T 81 24)) J)) : sm_wp X 225 75 [some (.ref 81), none, some (.int x2), none, none] [] (sM mo G T J) Q := by
  obtain ⟨⟨s1, s2, -⟩, hB, -, hV⟩ := hC
  have e102 : T 102 6 = zI m := hV.2.2
  have fin : ∀ g : Int32, g = zI f → Q (some (.int (-1))) (sM mo G (up2 (up2 T 81 18 g) 81 19 (T 81 24)) J) := fun g hg => by rw [hg]; exact hQ T fr
  have f86 : ∀ L, Q (some (.int (-1))) (sM mo G L J) → sm_wp X 225 86 [some (.ref 81), none, some (.int x2), none, none] [.int 0] (sM mo G L J) Q := fun L h => by
    rw [lp_225_86, if_neg (fun e => e rfl)]
    exact h
  have k0 : ¬ T 81 22 = 0 := by
    rcases hT with ⟨a0, -⟩ | ⟨a0, a, b⟩ | ⟨a0, a1, a, -⟩ | ⟨a0, a⟩ | ⟨a0, a, -⟩
    · omega
    · rw [a]; decide
    · rw [a]; decide
    · rw [a]; decide
    · rw [a]; decide
  rw [lp_225_75, if_neg k0, lp_232_0]
  simp only [tl_some]
  rcases hT with ⟨a0, -⟩ | ⟨a0, a, b⟩ | ⟨a0, a1, a, -⟩ | ⟨a0, a⟩ | ⟨a0, a, -⟩
  · omega
  · have p19 : prm t < 19 := by unfold prm; split <;> (try split) <;> omega
    rw [if_neg (fun e => e a), b]
    by_cases g : t ≤ 3
    · have f2 : f = 2 ∧ m = 16 := by omega
      have pt : prm t = t := by unfold prm; rw [if_neg (by omega), if_neg (by omega)]
      rw [pt, if_pos (by rw [zIr_le (c := 3) (by decide) (by omega)]; exact g), show (6 : Int32).toNatClampNeg = 6 from rfl, if_neg (fun e => e (by rw [e102, f2.2]; rfl))]
      exact ⟨v67, f86 _ (fin 2 (by rw [f2.1]; rfl))⟩
    · have f1 : f = 1 := by omega
      have pt : 3 < prm t := by unfold prm; split <;> (try split) <;> omega
      rw [if_neg (by rw [zIr_le (c := 3) (by decide) (by omega)]; show ¬ prm t ≤ 3; omega)]
      exact f86 _ (fin 1 (by rw [f1]; rfl))
  · have f1 : f = 1 := by omega
    rw [if_pos (by rw [a]; decide)]
    exact f86 _ (fin 1 (by rw [f1]; rfl))
  · have f1 : f = 1 := by omega
    rw [if_pos (by rw [a]; decide)]
    exact f86 _ (fin 1 (by rw [f1]; rfl))
  · have f1 : f = 1 := by omega
    rw [if_pos (by rw [a]; decide)]
    exact f86 _ (fin 1 (by rw [f1]; rfl))
end R5
