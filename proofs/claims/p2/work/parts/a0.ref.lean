/-! Orders: the reference's steps where a sign is due. -/
theorem pc_b {least b : Nat} {sg wo : Nat → Nat} : ∀ w z f, (∀ i, i < z → f i < b) → (∀ j, j < w → least ≤ stg (sg j) → wo j < b) → ∀ i, i < z + pm least sg w → pcG least sg wo w z f i < b := by
  intro w
  induction w with
  | zero => intro z f h _ i hi; exact h i hi
  | succ w ih =>
    intro z f h k i hi
    have um : pm least sg (w + 1) = if least ≤ stg (sg w) then pm least sg w + 1 else 0 := rfl
    have uc : pcG least sg wo (w + 1) z f = if least ≤ stg (sg w) then pcG least sg wo w (z + 1) (va_up f z (wo w)) else f := rfl
    by_cases g : least ≤ stg (sg w)
    · rw [if_pos g] at um uc
      rw [um] at hi
      rw [uc]
      refine ih (z + 1) (va_up f z (wo w)) (fun i hi => ?_) (fun j hj => k j (by omega)) i (by omega)
      by_cases e : i = z
      · rw [e, va_s]; exact k w (by omega) g
      · rw [va_n _ _ e]; exact h i (by omega)
    · rw [if_neg g] at um uc
      rw [um] at hi
      rw [uc]
      exact h i (by omega)
/-- a sign between two -/
def bsg (t : Nat) : Prop := (19 ≤ t ∧ t ≤ 29) ∨ t = 5 ∨ t = 6
theorem bsg_v {t : Nat} (h : bsg t) : vsg t ∧ ¬ t = 30 ∧ ar t = 2 ∧ wtc t = kdc t ∧ amc t = 0 ∧ kdc t < 16 := by
  unfold bsg at h
  refine ⟨by unfold vsg; omega, by omega, ?_, by unfold wtc; rw [if_neg (by omega)], ?_, ?_⟩
  · unfold ar; rw [if_neg (by omega), if_neg (by omega)]
  · unfold amc; rw [if_neg (by omega), if_neg (by omega)]
  · unfold kdc
    rw [if_neg (by omega), if_neg (by omega)]
    split
    · omega
    · split
      · omega
      · split
        · omega
        · split
          · omega
          · split <;> omega
theorem sn_y {L : Nat → Nat → Int32} {B : Nat → Nat} {q t e : Nat} (hT : tkR B q t e (L 81 22) (L 81 23)) (h : bsg t) : vf_Model_signNow L = zI (kdc t) := by
  have al : ∀ t : Fin 30, ((19 ≤ t.val ∧ t.val ≤ 29) ∨ t.val = 5 ∨ t.val = 6) → (t.val < 19 → (if ¬ zI (prm t.val) = 5 then (if ¬ zI (prm t.val) = 4 then (-1) else 15) else 14) = zI (kdc t.val)) ∧ (19 ≤ t.val → ¬ 12 ≤ zI (sgW t.val) ∧ zI (sgW t.val) = zI (kdc t.val)) := by decide
  unfold bsg at h
  have al := al ⟨t, by omega⟩ h
  unfold vf_Model_signNow
  rcases hT with ⟨rfl, a⟩ | ⟨a0, a, b⟩ | ⟨a0, a1, a, b⟩ | ⟨rfl, a⟩ | ⟨rfl, a, b⟩
  · omega
  · rw [if_neg (fun e => e a), b]
    exact al.1 a0
  · rw [if_pos (by rw [a]; decide), if_neg (fun e => e a), b, if_neg (al.2 a0).1]
    exact (al.2 a0).2
  · omega
  · omega
theorem sn_n {L : Nat → Nat → Int32} {B : Nat → Nat} {q t e : Nat} (hT : tkR B q t e (L 81 22) (L 81 23)) (h : ¬ bsg t) : vf_Model_signNow L = -1 := by
  have al : ∀ t : Fin 33, (¬ ((19 ≤ t.val ∧ t.val ≤ 29) ∨ t.val = 5 ∨ t.val = 6)) → (t.val < 19 → ¬ zI (prm t.val) = 5 ∧ ¬ zI (prm t.val) = 4) ∧ (19 ≤ t.val → 12 ≤ zI (sgW t.val)) := by decide
  unfold bsg at h
  unfold vf_Model_signNow
  rcases hT with ⟨rfl, a⟩ | ⟨a0, a, b⟩ | ⟨a0, a1, a, b⟩ | ⟨rfl, a⟩ | ⟨rfl, a, b⟩
  · rw [if_pos (by rw [a]; decide), if_pos (by rw [a]; decide)]
  · have al := (al ⟨t, by omega⟩ h).1 a0
    rw [if_neg (fun e => e a), b, if_pos al.1, if_pos al.2]
  · have al := (al ⟨t, by omega⟩ h).2 a0
    rw [if_pos (by rw [a]; decide), if_neg (fun e => e a), b, if_pos al]
  · rw [if_pos (by rw [a]; decide), if_pos (by rw [a]; decide)]
  · rw [if_pos (by rw [a]; decide), if_pos (by rw [a]; decide)]
section R4
variable {X : (Nat → Int32) × Nat} {mo : Bool} {G : Nat × Nat} {J : Nat → Nat → Int64} {R : Option Value → sm_M → Prop}
/-- a sign between two: what it leads to -/
def bto (t o : Nat) (cm : Int32) (du : Nat) (cm' : Int32) : Prop := (19 ≤ t ∧ t ≤ 23 ∧ du = 2 ∧ cm' = cm) ∨ (24 ≤ t ∧ t ≤ 29 ∧ ¬ bt cm o = true ∧ du = 2 ∧ cm' = cm ||| b1 o) ∨ ((t = 5 ∨ t = 6) ∧ du = 1 ∧ cm' = cm &&& (b1 o ^^^ (-1)))
theorem r_joi {B : Nat → Nat} {n p m z w kn o t du q e : Nat} {cm cm' : Int32} {c sg vb le gb wo : Nat → Nat} {T0 T : Nat → Nat → Int32} (hC : CT m z w 3 kn o cm c sg vb le gb wo T) (hW : pW m z w 3 kn o c sg vb le) (hk : kn < 64) (hT : tkR B q t e (T 81 22) (T 81 23)) (ht : bto t o cm du cm') (f : tpF B n p T0 T)
    (hQ : ∀ L gb' wo', CT m (z + pm (stg t) sg w) (w - pm (stg t) sg w + 1) du (kn + 1) o cm' (pcG (stg t) sg sg w z c) (va_up sg (w - pm (stg t) sg w) t) vb le gb' wo' L → pW m (z + pm (stg t) sg w) (w - pm (stg t) sg w + 1) du (kn + 1) o (pcG (stg t) sg sg w z c) (va_up sg (w - pm (stg t) sg w) t) vb le → frR T0 L → tkF B n (plc B n p) L → sm_wp X 234 30 [some (.ref 81), none] [] (sM mo G L J) R) : sm_wp X 234 30 [some (.ref 81), none] [] (sM mo G T J) R := by
  obtain ⟨hS, hB, hHC, hV⟩ := hC
  obtain ⟨hH, hc⟩ := hHC (by omega)
  obtain ⟨s1, s2, s3⟩ := hS
  obtain ⟨s4, s5, s6, s7, -⟩ := s3 (by omega)
  rw [if_pos rfl] at s7
  have bs : bsg t := by unfold bto at ht; unfold bsg; omega
  obtain ⟨v1, v2, v3, v4, v5, v6⟩ := bsg_v bs
  have sb := stg_b t
  have s1' : 1 ≤ stg t := by rw [stg_30 v1]; exact v2
  have wb : w ≤ 72 := by have := np_w sg w; have := hW.1; omega
  have du1 : du = 1 ∨ du = 2 := by unfold bto at ht; omega
  have od : on du = on 3 := by rw [on_1 (by omega), on_1 (by omega)]
  have o8 : o ≤ 8 := hW.1.2.2.2.2.1
  have pb := pm_b (stg t) sg w
  -- behind the pops
  have tail : ∀ x2 : Int32, (x2 = if kdc t < 7 then 1 else 0) → sm_wp X 244 0 [some (.ref 81), some (.int (zI (stg t))), none] [] (sM mo G (up2 (up2 (up2 (up2 (up2 T 81 34 (zI (kn + 1))) 94 (384 + kn) (zI (kdc t))) 95 (384 + kn) (-1)) 96 (384 + kn) (-1)) 97 (384 + kn) 0) J) (fun v M => sm_wp X 242 50 [some (.ref 81), some (.int (zI (kdc t))), some (.int x2), some (.int (zI (384 + kn)))] (v.toList ++ []) M (fun v M => sm_wp X 234 62 [some (.ref 81), some (.int 1)] (v.toList ++ []) M R)) := by
    intro x2 hx2
    generalize hU : up2 (up2 (up2 (up2 (up2 T 81 34 (zI (kn + 1))) 94 (384 + kn) (zI (kdc t))) 95 (384 + kn) (-1)) 96 (384 + kn) (-1)) 97 (384 + kn) 0 = U
    have fU : frR T0 U := by rw [← hU]; exact fr_u (by unfold okc; omega) (fr_u (by unfold okc; omega) (fr_u (by unfold okc; omega) (fr_u (by unfold okc; omega) (fr_u (by unfold okc; omega) f.2.1))))
    have u94 : U 94 = va_up (T 94) (384 + kn) (zI (kdc t)) := by rw [← hU]; simp (decide := true) only [up2_ra, up2_rn, ne_eq, not_false_eq_true]
    have u95 : U 95 = va_up (T 95) (384 + kn) (-1) := by rw [← hU]; simp (decide := true) only [up2_ra, up2_rn, ne_eq, not_false_eq_true]
    have u96 : U 96 = va_up (T 96) (384 + kn) (-1) := by rw [← hU]; simp (decide := true) only [up2_ra, up2_rn, ne_eq, not_false_eq_true]
    have u97 : U 97 = va_up (T 97) (384 + kn) 0 := by rw [← hU]; simp (decide := true) only [up2_ra, up2_rn, ne_eq, not_false_eq_true]
    have un : ∀ d, ¬ d = 81 → ¬ d = 94 → ¬ d = 95 → ¬ d = 96 → ¬ d = 97 → U d = T d := fun d a b c e g => by rw [← hU]; simp only [up2_rn, ne_eq, a, b, c, e, g, not_false_eq_true]
    have uj : ∀ j, ¬ j = 34 → U 81 j = T 81 j := fun j a => by rw [← hU]; simp (decide := true) only [up2_ra, up2_rn, va_ap, ne_eq, if_false, if_true, not_false_eq_true, a]
    have u34 : U 81 34 = zI (kn + 1) := by rw [← hU]; simp (decide := true) only [up2_ra, up2_rn, va_ap, ne_eq, if_false, if_true, not_false_eq_true]
    refine r_bind (kr := kn + 1) (sg := sg) (vb := vb) (le := le) (wo := wo) (m := m) (kn := kn) (o := o) s1' (by omega) (by omega) w z c gb U hW (by rw [uj 38 (by decide)]; exact s4) (by rw [uj 35 (by decide)]; exact s2) ?_ ?_ ?_
    · rw [u94, u95, u96, u97, un 98 (by decide) (by decide) (by decide) (by decide) (by decide), un 103 (by decide) (by decide) (by decide) (by decide) (by decide), un 104 (by decide) (by decide) (by decide) (by decide) (by decide)]
      exact rB_g _ _ _ _ hB
    · rw [un 105 (by decide) (by decide) (by decide) (by decide) (by decide), uj 40 (by decide)]
      exact hH
    intro L b1' l38 l35 lB lH lW
    obtain ⟨c1, c2, c3⟩ := b1'
    have fL : frR T0 L := fr_B fU ⟨c1, c2, c3⟩
    have e94 : L 94 (384 + kn) = zI (kdc t) := by rw [c1 94 (by decide) (by decide) (by decide) (by decide) (by decide), u94, vs_a]
    have e97 : L 97 (384 + kn) = 0 := by rw [c1 97 (by decide) (by decide) (by decide) (by decide) (by decide), u97, vs_a]
    have e43 : L 81 43 = (if bt cm o = true then 1 else 0) := by rw [c2 43 (by decide) (by decide) (by decide), uj 43 (by decide)]; exact s6
    have e42 : L 81 42 = zI o := by rw [c2 42 (by decide) (by decide) (by decide), uj 42 (by decide)]; exact s5
    have e34 : L 81 34 = zI (kn + 1) := by rw [c2 34 (by decide) (by decide) (by decide)]; exact u34
    have e21 : L 81 21 = T 81 21 := by rw [c2 21 (by decide) (by decide) (by decide), uj 21 (by decide)]
    have rn : ∀ d, 98 < d → d < 107 → ¬ d = 105 → L d = T d := fun d a b e => by rw [c1 d (by omega) (by omega) (by omega) (by omega) (by omega), un d (by omega) (by omega) (by omega) (by omega) (by omega)]
    have gk : ∀ i, i < z + pm (stg t) sg w → pcG (stg t) sg wo w z gb i < kn := pc_b w z gb (fun i hi => (hB.1 i hi).2.1) (fun j hj hs => ((hB.2.1 j hj).2 (by rw [← stg_30 (hW.2.1.1 j hj)]; omega)).2.1)
    have pB' := rB_w (x := t) (g := kn) lB (zI (384 + kn)) (fun _ => ⟨rfl, by omega, e94, e97, fun i hi e => by have := gk i hi; omega, fun j hj hs e => by have := ((hB.2.1 j (by omega)).2 hs).2.1; omega⟩)
    rw [v4] at pB'
    simp only [tl_none]
    rw [lp_242_50, l38, zI_vp (by omega), zI_cn (by omega), show zI (w - pm (stg t) sg w) + 1 = zI (w - pm (stg t) sg w + 1) from zIr_add 1 _]
    refine ⟨by omega, ?_⟩
    have fin : ∀ (hcv mn : Int32) , hcv = (if bt cm' o = true then 1 else 0) → mn = (if du = 1 then 1 else 0) → sm_wp X 226 0 [some (.ref 81), none] [] (sM mo G (up2 (up2 (up2 (up2 (up2 (up2 L 103 (w - pm (stg t) sg w) (zI (kdc t))) 104 (w - pm (stg t) sg w) (zI (384 + kn))) 81 38 (zI (w - pm (stg t) sg w + 1))) 81 43 hcv) 81 45 mn) 81 44 1) J) (fun v M => sm_wp X 242 106 [some (.ref 81), some (.int (zI (kdc t))), some (.int x2), some (.int (zI (384 + kn)))] (v.toList ++ []) M (fun v M => sm_wp X 234 62 [some (.ref 81), some (.int 1)] (v.toList ++ []) M R)) := by
      intro hcv mn h1 h2
      have fV : frR T0 (up2 (up2 (up2 (up2 (up2 (up2 L 103 (w - pm (stg t) sg w) (zI (kdc t))) 104 (w - pm (stg t) sg w) (zI (384 + kn))) 81 38 (zI (w - pm (stg t) sg w + 1))) 81 43 hcv) 81 45 mn) 81 44 1) := fr_u (by unfold okc; omega) (fr_u (by unfold okc; omega) (fr_u (by unfold okc; omega) (fr_u (by unfold okc; omega) (fr_u (by unfold okc; omega) (fr_u (by unfold okc; omega) fL)))))
      refine r_tf f fV (by simp (decide := true) only [up2_ra, up2_rn, va_ap, ne_eq, if_false, if_true, not_false_eq_true]; exact e21) ?_
      intro V hV'
      have tV := tkM_F hV'
      simp only [tl_none]
      rw [lp_242_106]
      simp only [tl_some]
      rw [lp_234_62, if_pos (by decide)]
      refine hQ V (pcG (stg t) sg wo w z gb) (va_up wo (w - pm (stg t) sg w) kn) (CT_tk ⟨⟨?_, ?_, fun _ => ⟨?_, ?_, ?_, ?_, fun _ => ?_⟩⟩, ?_, fun _ => ⟨?_, ?_⟩, ?_⟩ hV') (pW_b lW du1 hk v1 v2 v3) (fr_tk fV hV') tV
      · simp (decide := true) only [up2_ra, up2_rn, va_ap, ne_eq, if_false, if_true, not_false_eq_true]; exact e34
      · simp (decide := true) only [up2_ra, up2_rn, va_ap, ne_eq, if_false, if_true, not_false_eq_true]; exact l35
      · simp (decide := true) only [up2_ra, up2_rn, va_ap, ne_eq, if_false, if_true, not_false_eq_true]
      · simp (decide := true) only [up2_ra, up2_rn, va_ap, ne_eq, if_false, if_true, not_false_eq_true]; exact e42
      · simp (decide := true) only [up2_ra, up2_rn, va_ap, ne_eq, if_false, if_true, not_false_eq_true]; exact h1
      · simp (decide := true) only [up2_ra, up2_rn, va_ap, ne_eq, if_false, if_true, not_false_eq_true]; rw [if_neg (by omega)]
      · simp (decide := true) only [up2_ra, up2_rn, va_ap, ne_eq, if_false, if_true, not_false_eq_true]; exact h2
      · simp (decide := true) only [up2_ra, up2_rn, ne_eq, not_false_eq_true]
        exact pB'
      · simp (decide := true) only [up2_ra, up2_rn, va_ap, ne_eq, if_false, if_true, not_false_eq_true]
        exact lH
      · simp (decide := true) only [up2_ra, up2_rn, va_ap, ne_eq, if_false, if_true, not_false_eq_true]
        rw [rn 106 (by decide) (by decide) (by decide)]
        intro j hj
        rw [hc j hj]
        have : bt cm' j = bt cm j := by
          rcases ht with ⟨-, -, -, e2⟩ | ⟨-, -, -, -, e2⟩ | ⟨-, -, e2⟩
          · rw [e2]
          · rw [e2, bt_or1 (by omega) (by omega), decide_eq_false (by omega), Bool.or_false]
          · rw [e2, bt_an (by omega) (by omega), decide_eq_false (by omega), Bool.not_false, Bool.and_true]
        rw [this]
      · simp (decide := true) only [up2_ra, up2_rn, va_ap, ne_eq, if_false, if_true, not_false_eq_true]
        rw [rn 99 (by decide) (by decide) (by decide), rn 100 (by decide) (by decide) (by decide), rn 101 (by decide) (by decide) (by decide), rn 102 (by decide) (by decide) (by decide)]
        exact ⟨fun i hi => hV.1 i (by omega), hV.2⟩
    rcases ht with ⟨t1, t2, e1, e2⟩ | ⟨t1, t2, t3, e1, e2⟩ | ⟨t1, e1, e2⟩
    · have k1 : kdc t = t - 12 := by unfold kdc; rw [if_neg (by omega), if_neg (by omega), if_neg (by omega), if_neg (by omega), if_neg (by omega), if_neg (by omega), if_pos (by omega)]
      rw [if_neg (by omega)] at hx2
      rw [if_neg (by rw [hx2]; exact fun e => e rfl), if_neg (by rw [zIl_le (c := 12) (by decide) (by omega)]; show ¬ 12 ≤ kdc t; omega), e43]
      by_cases g : bt cm o = true
      · rw [if_pos g, if_neg (by decide), if_pos (by rw [zIr_le (c := 13) (by decide) (by omega)]; show kdc t ≤ 13; omega)]
        exact fin 1 0 (by rw [e2, if_pos g]) (by rw [if_neg (by omega)])
      · rw [if_neg g, if_pos rfl, if_pos (by rw [zIr_le (c := 13) (by decide) (by omega)]; show kdc t ≤ 13; omega)]
        exact fin 0 0 (by rw [e2, if_neg g]) (by rw [if_neg (by omega)])
    · have k1 : kdc t = t - 23 := by unfold kdc; rw [if_neg (by omega), if_neg (by omega), if_neg (by omega), if_neg (by omega), if_neg (by omega), if_neg (by omega), if_neg (by omega)]
      rw [if_pos (by omega)] at hx2
      rw [if_pos (by rw [hx2]; decide), if_pos (by rw [zIr_le (c := 13) (by decide) (by omega)]; show kdc t ≤ 13; omega)]
      refine fin 1 0 ?_ (by rw [if_neg (by omega)])
      rw [e2, bt_or1 (by omega) (by omega), decide_eq_true rfl, Bool.or_true, if_pos rfl]
    · have k1 : 14 ≤ kdc t := by rcases t1 with rfl | rfl <;> decide
      rw [if_neg (by omega)] at hx2
      rw [if_neg (by rw [hx2]; exact fun e => e rfl), if_pos (by rw [zIl_le (c := 12) (by decide) (by omega)]; show 12 ≤ kdc t; omega), if_neg (by rw [zIr_le (c := 13) (by decide) (by omega)]; show ¬ kdc t ≤ 13; omega)]
      refine fin 0 1 ?_ (by rw [if_pos e1])
      rw [e2, bt_an (by omega) (by omega), decide_eq_true rfl, Bool.not_true, Bool.and_false, if_neg (by decide)]
  have ww := wgt_z v1
  rw [v4] at ww
  rw [lp_234_30, if_pos s7, sn_y hT bs, if_neg (by rw [zIr_lt (c := 0) (by decide) (by omega)]; exact Nat.not_lt_zero _), lp_242_0, s1, ww, s6, show (384 : Int32) + zI kn = zI (384 + kn) from zIl_add 384 kn, zI_vp (by omega), zI_cn (by omega), show zI kn + 1 = zI (kn + 1) from zIr_add 1 _]
  by_cases k7 : 7 ≤ kdc t
  · rw [if_pos (by rw [zIl_le (c := 7) (by decide) (by omega)]; exact k7), if_pos (by rw [zIr_eq (c := 64) (by decide) (by omega)]; show ¬ kn = 64; omega), if_pos (by rw [zIl_le (c := 0) (by decide) (by omega)]; exact Nat.zero_le _)]
    exact ⟨by omega, tail 0 (by rw [if_neg (by omega)])⟩
  · have nb : ¬ bt cm o = true := by
      rcases ht with ⟨t1, t2, e1, e2⟩ | ⟨t1, t2, t3, e1, e2⟩ | ⟨t1, e1, e2⟩
      · exfalso
        have k1 : kdc t = t - 12 := by unfold kdc; rw [if_neg (by omega), if_neg (by omega), if_neg (by omega), if_neg (by omega), if_neg (by omega), if_neg (by omega), if_pos (by omega)]
        omega
      · exact t3
      · exfalso
        have k1 : 14 ≤ kdc t := by rcases t1 with rfl | rfl <;> decide
        omega
    rw [if_neg (by rw [zIl_le (c := 7) (by decide) (by omega)]; exact k7), if_pos (by rw [if_neg nb]), if_pos (by rw [zIr_eq (c := 64) (by decide) (by omega)]; show ¬ kn = 64; omega), if_pos (by rw [zIl_le (c := 0) (by decide) (by omega)]; exact Nat.zero_le _)]
    exact ⟨by omega, tail 1 (by rw [if_pos (by omega)])⟩
end R4
