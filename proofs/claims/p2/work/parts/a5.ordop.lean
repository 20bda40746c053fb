/-! orders agrees. -/
section O4
variable {X : (Nat → Int32) × Nat} {c : Nat} {mo : Bool} {G : Nat × Nat} {I : Nat → Nat → Int32} {J : Nat → Nat → Int64}
/-- the reference's memory as it begins to read -/
def rM0 (L : Nat → Nat → Int32) (x : Int32) : Nat → Nat → Int32 := up2 (up2 (up2 (up2 (up2 (up2 (up2 (up2 (up2 L 81 2 0) 81 20 x) 81 1 0) 81 18 0) 81 19 (-1)) 81 21 0) 102 6 0) 81 34 0) 81 35 0
theorem frR_r (T : Nat → Nat → Int32) : frR T T := ⟨fun _ _ _ => rfl, fun _ _ => rfl, fun _ _ _ _ _ => rfl, fun _ _ _ _ _ => rfl, fun _ _ => rfl⟩
theorem pW_0 (c sg vb le : Nat → Nat) : pW 0 0 0 0 0 0 c sg vb le := by
  have e : ls le 0 = 0 := rfl
  have e0 : on 0 = 0 := rfl
  refine ⟨⟨by rw [e0]; omega, rfl, by omega, rfl, by omega, by omega⟩, ⟨fun _ h => absurd h (Nat.not_lt_zero _), fun _ h => absurd h (Nat.not_lt_zero _), fun _ h => absurd h (by rw [e0]; omega)⟩, fun _ h => absurd h (Nat.not_lt_zero _), by rw [e]; omega, fun _ => ⟨rfl, e.symm⟩, fun h => absurd rfl h⟩
theorem rS0 {B : Nat → Nat} {nn s m ln : Nat} {b : Bool} {S : (Nat → Nat → Int32) → (Nat → Nat → Int32) → Prop} {co sg vb le : Nat → Nat} (hn : nn ≤ 400) (hnl : nn ≤ ln) (hl : ln ≤ 400) (hm : m ≤ 6) (hs : s < m) (hr : rWP X mo G J (zI s) B nn (plc B nn 0) 0 0 (fun gb wo T => CT 0 0 0 0 0 0 0 co sg vb le gb wo T) b S)
    {L : Nat → Nat → Int32} (h82 : tpM B (L 82)) (h93 : ivX (L 93)) (h1 : L 81 1 = zI ln) (h10 : L 81 10 = zI m) (Q : Option Value → sm_M → Prop) (hQ : ∀ V, S (rM0 L (zI nn)) V → rFi X mo G J (zI s) b V Q) : sm_wp X 225 0 [some (.ref 81), some (.int (zI nn)), some (.int (zI s)), none, none] [] (sM mo G L J) Q := by
  rw [lp_225_0, if_neg (by rw [zIr_lt (c := 0) (by decide) (by omega)]; exact Nat.not_lt_zero _), if_neg (by rw [h1, zI_lt (by omega) (by omega)]; omega), if_pos (by rw [mS0 h10 hm, zI_sIn (by omega) (by omega)]; exact hs), show (6 : Int32).toNatClampNeg = 6 from rfl]
  refine ⟨v67, ?_⟩
  show sm_wp X 226 0 [some (.ref 81), none] [] (sM mo G (rM0 L (zI nn)) J) _
  have e82 : rM0 L (zI nn) 82 = L 82 := by unfold rM0; simp (decide := true) only [up2_rn, ne_eq, not_false_eq_true]
  have e93 : rM0 L (zI nn) 93 = L 93 := by unfold rM0; simp (decide := true) only [up2_rn, ne_eq, not_false_eq_true]
  have e20 : rM0 L (zI nn) 81 20 = zI nn := by unfold rM0; simp (decide := true) only [up2_ra, up2_rn, va_ap, ne_eq, if_false, if_true, not_false_eq_true]
  have e21 : rM0 L (zI nn) 81 21 = zI 0 := by unfold rM0; simp (decide := true) only [up2_ra, up2_rn, va_ap, ne_eq, if_false, if_true, not_false_eq_true]
  refine r_tk (B := B) (n := nn) (p := 0) (T0 := rM0 L (zI nn)) (by rw [e82]; exact h82) (by rw [e93]; exact h93) e20 hn (frR_r _) e21 (by omega) ?_
  intro T hT
  simp only [tl_none]
  have ct0 : CT 0 0 0 0 0 0 0 co sg vb le (fun _ => 0) (fun _ => 0) (rM0 L (zI nn)) := by
    refine ⟨⟨?_, ?_, fun e => absurd rfl e⟩, ⟨fun _ h => absurd h (Nat.not_lt_zero _), fun _ h => absurd h (Nat.not_lt_zero _), ⟨fun _ _ h => absurd h (Nat.not_lt_zero _), fun _ _ h => absurd h (Nat.not_lt_zero _), fun _ _ h => absurd h (Nat.not_lt_zero _)⟩, fun _ h => absurd h (Nat.not_lt_zero _), Nat.le_refl _, fun k h => ?_⟩, fun e => absurd rfl e, fun i h => ?_, fun _ h => absurd h (Nat.not_lt_zero _), ?_⟩
    · unfold rM0; simp (decide := true) only [up2_ra, up2_rn, va_ap, ne_eq, if_false, if_true, not_false_eq_true]
    · unfold rM0; simp (decide := true) only [up2_ra, up2_rn, va_ap, ne_eq, if_false, if_true, not_false_eq_true]
    · have e : ls le 0 = 0 := rfl
      rw [e] at h
      omega
    · have e0 : on 0 = 0 := rfl
      rw [e0] at h
      omega
    · unfold rM0; simp (decide := true) only [up2_ra, up2_rn, va_ap, ne_eq, if_false, if_true, not_false_eq_true]
  have := hr (rM0 L (zI nn)) T Q (fun _ => 0) (fun _ => 0) ⟨by rw [e82]; exact h82, by rw [e93]; exact h93, e20⟩ (CT_tk ct0 hT) (fr_tk (frR_r _) hT) (tkM_F hT) hQ
  unfold rGo at this
  rw [if_pos rfl] at this
  exact this
theorem op_orders (h : inv c mo G I J) (x y : Int32) : Agr X 168 [some (.ref 0), some (.int x), some (.int y)] 225 [some (.ref 81), some (.int x), some (.int y), none, none] (sM mo G I J) (Inv (c + 1)) := by
  have hv := inv_t 0 h
  have h0 := h
  obtain ⟨n, m, t, p, q, r, ch, ln, hN, hE, hV, hY, hG, hK, hP, hS, hA, ⟨t1, t2, t3, t4⟩, hF, hB, hC, hD, hD2, hX, hZ⟩ := h
  obtain ⟨-, -, -, n1, n2, n6, -⟩ := hN
  unfold Agr
  by_cases neg : x < 0
  · rw [lp_168_0, if_pos neg, lp_225_0, if_pos neg]
    exact ⟨rfl, hv⟩
  by_cases big : zI ln < x
  · rw [lp_168_0, if_neg neg, if_pos (by rw [t1]; exact big), lp_225_0, if_neg neg, if_pos (by rw [t2]; exact big)]
    exact ⟨rfl, hv⟩
  have st := Classical.em (sIn y m)
  rcases st with st | st
  case inr =>
    rw [lp_168_0, if_neg neg, if_neg (by rw [t1]; exact big), if_neg (by rw [hState_vp n1 n6]; exact st), lp_225_0, if_neg neg, if_neg (by rw [t2]; exact big), if_neg (by rw [mS0 n2 n6]; exact st)]
    exact ⟨rfl, hv⟩
  obtain ⟨nn, hn31, rfl⟩ := zI_of neg
  obtain ⟨s, hsm, hs31, rfl⟩ := sIn_ex st
  rw [zI_lt (by omega) (by omega)] at big
  have e4 : (if (0 : Int32) < (if zI ln < zI nn then zI ln else zI nn) then (if zI ln < zI nn then zI ln else zI nn) else 0) = zI nn := by
    have inn : (if zI ln < zI nn then zI ln else zI nn) = zI nn := if_neg (by rw [zI_lt (by omega) (by omega)]; exact big)
    rw [inn]
    by_cases z : nn = 0
    · rw [z]; rfl
    · rw [if_pos (by rw [zIl_lt (c := 0) (by decide) (by omega)]; show 0 < nn; omega)]
  rw [lp_168_0, if_neg neg, if_neg (by rw [t1, zI_lt (by omega) (by omega)]; exact big), if_pos (by rw [hState_vp n1 n6]; exact st), lp_47_0, t1, e4]
  generalize hK0 : up2 (up2 (up2 (up2 (up2 (up2 (up2 (up2 (up2 (up2 (up2 (up2 I 16 0 0) 16 1 (-1)) 16 2 0) 16 3 0) 16 9 0) 16 10 0) 16 11 0) 16 12 0) 16 13 0) 14 4 (zI nn)) 14 5 0) 14 0 0 = K0
  have k0 : ∀ d, ¬ d = 14 → ¬ d = 16 → K0 d = I d := fun d a b => by rw [← hK0]; simp only [up2_rn, ne_eq, a, b, not_false_eq_true]
  have k14 : K0 14 0 = 0 := by rw [← hK0]; simp (decide := true) only [up2_ra, up2_rn, va_ap, ne_eq, if_false, if_true, not_false_eq_true]
  have k144 : K0 14 4 = zI nn := by rw [← hK0]; simp (decide := true) only [up2_ra, up2_rn, va_ap, ne_eq, if_false, if_true, not_false_eq_true]
  have k145 : K0 14 5 = zI 0 := by rw [← hK0]; simp (decide := true) only [up2_ra, up2_rn, va_ap, ne_eq, if_false, if_true, not_false_eq_true]
  have k161 : K0 16 1 = -1 := by rw [← hK0]; simp (decide := true) only [up2_ra, up2_rn, va_ap, ne_eq, if_false, if_true, not_false_eq_true]
  have ksc : scE (K0 16) 0 0 0 0 0 0 0 := by rw [← hK0]; simp (decide := true) only [scE, up2_ra, up2_rn, va_ap, ne_eq, if_false, if_true, not_false_eq_true]
  have hB82 : tpM (fun j => (I 82 j).toNatClampNeg) (I 82) := fun j => by
    obtain ⟨⟨w, hw, e⟩, -⟩ := t4 j
    have e1 : (I 82 j).toNatClampNeg = w := by rw [e]; exact zI_cn (by omega)
    exact ⟨show (I 82 j).toNatClampNeg < 256 by rw [e1]; exact hw, show I 82 j = zI (I 82 j).toNatClampNeg by rw [e1]; exact e⟩
  have hB15 : tpC (fun j => (I 82 j).toNatClampNeg) (I 15) := fun j => ⟨(hB82 j).1, by rw [← (hB82 j).2]; exact (t4 j).2⟩
  generalize (fun j => (I 82 j).toNatClampNeg) = B at hB82 hB15
  obtain ⟨b, F, S, hok, hc, hr⟩ := ord_m (X := X) (mo := mo) (G := G) (J := J) (x2 := zI s) (B := B) (n := nn) (by omega) (I0 := K0) (by rw [k0 15 (by decide) (by decide)]; exact hB15) k144 nn 0 0 0 0 0 0 0 0 0 (fun _ => 0) (fun _ => 0) (fun _ => 0) (fun _ => 0) (by omega) (by omega) (by omega) (pW_0 _ _ _ _)
  refine hc K0 _ ⟨ksc, fun _ h => absurd h (Nat.not_lt_zero _), fun i h => ?_, fun _ h => absurd h (Nat.not_lt_zero _), fun _ h => absurd h (Nat.not_lt_zero _), k161, ⟨fun _ _ _ => rfl, fun _ _ _ _ => rfl⟩, k145⟩ ?_
  · have e0 : on 0 = 0 := rfl
    rw [e0] at h
    omega
  intro L hL
  simp only [tl_none]
  have hsi : s < 6 := by omega
  rcases hok with ⟨rfl, fa, pl, hfa, rfl, rfl⟩ | ⟨rfl, m', z', kn', cm', co, sg, vb, le, hW, rfl, rfl⟩
  · obtain ⟨⟨fr1, fr2⟩, l0, l1⟩ := hL
    have lI : ∀ d, ¬ d = 14 → d < 16 ∨ 20 < d → L d = I d := fun d a e => by rw [fr1 d a e]; exact k0 d a (by omega)
    rw [lp_168_37, if_neg (by rw [l0]; rcases hfa with rfl | rfl <;> decide)]
    refine rS0 (B := B) (ln := ln) (m := m) (b := false) (by omega) (by omega) t3 n6 hsm hr (by rw [lI 82 (by decide) (by decide)]; exact hB82) (by rw [lI 93 (by decide) (by decide)]; exact hX) (by rw [lI 81 (by decide) (by decide)]; exact t2) (by rw [lI 81 (by decide) (by decide)]; exact n2) _ ?_
    rintro V ⟨V0, fV, rfl⟩
    unfold rFi
    rw [if_neg (by decide)]
    refine ⟨rfl, mo, G, _, J, rfl, inv_o h0 ?_ ?_ ?_ ?_ ?_ ?_⟩
    · intro d a e
      rw [up2_rn _ _ _ _ _ (by omega), up2_rn _ _ _ _ _ (by omega), fV.1 d (by omega) (by omega)]
      unfold rM0
      simp only [up2_rn, ne_eq, show ¬ d = 81 from by omega, show ¬ d = 102 from by omega, not_false_eq_true]
      exact lI d a (by omega)
    · simp (decide := true) only [up2_ra, up2_rn, va_ap, ne_eq, if_false, if_true, not_false_eq_true]
      rw [fV.1 14 (by decide) (by decide)]
      unfold rM0
      simp (decide := true) only [up2_ra, up2_rn, va_ap, ne_eq, if_false, if_true, not_false_eq_true]
      rw [fr2 0 (by decide) (by decide) (by decide)]
      exact k14
    · simp (decide := true) only [up2_ra, up2_rn, va_ap, ne_eq, if_false, if_true, not_false_eq_true]
      rw [fV.2.1 1 (by decide)]
      unfold rM0
      simp (decide := true) only [up2_ra, up2_rn, va_ap, ne_eq, if_false, if_true, not_false_eq_true]
    · intro j hj
      simp (decide := true) only [up2_ra, up2_rn, va_ap, ne_eq, if_false, if_true, not_false_eq_true, show ¬ j = 18 from by omega, show ¬ j = 19 from by omega]
      rw [fV.2.1 j (by omega)]
      unfold rM0
      simp (decide := true) only [up2_ra, up2_rn, va_ap, ne_eq, if_false, if_true, not_false_eq_true, show ¬ j = 2 from by omega, show ¬ j = 20 from by omega, show ¬ j = 1 from by omega, show ¬ j = 18 from by omega, show ¬ j = 19 from by omega, show ¬ j = 21 from by omega, show ¬ j = 34 from by omega, show ¬ j = 35 from by omega]
      rw [lI 81 (by decide) (by decide)]
    · simp (decide := true) only [up2_ra, up2_rn, va_ap, ne_eq, if_false, if_true, not_false_eq_true]
      rw [fV.1 16 (by decide) (by decide)]
      unfold rM0
      simp (decide := true) only [up2_ra, up2_rn, va_ap, ne_eq, if_false, if_true, not_false_eq_true]
      exact ⟨l0.symm, l1.symm⟩
    · intro s' hs'
      have b0 := hB s' hs'
      have rr : ∀ d, d < 81 → ¬ d = 14 → d < 16 ∨ 20 < d → up2 (up2 V0 81 18 (zI fa)) 81 19 (zI pl) d = I d := fun d a e g => by
        rw [up2_rn _ _ _ _ _ (by omega), up2_rn _ _ _ _ _ (by omega), fV.1 d (by omega) (by omega)]
        unfold rM0
        simp only [up2_rn, ne_eq, show ¬ d = 81 from by omega, show ¬ d = 102 from by omega, not_false_eq_true]
        exact lI d e g
      have r9 : ∀ d j, 94 ≤ d → d ≤ 98 → j < 384 → up2 (up2 V0 81 18 (zI fa)) 81 19 (zI pl) d j = I d j := fun d j a e g => by
        rw [up2_rn _ _ _ _ _ (by omega), up2_rn _ _ _ _ _ (by omega), fV.2.2.1 d a e j g]
        unfold rM0
        simp only [up2_rn, ne_eq, show ¬ d = 81 from by omega, show ¬ d = 102 from by omega, not_false_eq_true]
        rw [lI d (by omega) (by omega)]
      have r10 : ∀ d j, 99 ≤ d → d ≤ 101 → j < 96 → up2 (up2 V0 81 18 (zI fa)) 81 19 (zI pl) d j = I d j := fun d j a e g => by
        rw [up2_rn _ _ _ _ _ (by omega), up2_rn _ _ _ _ _ (by omega), fV.2.2.2.1 d a e j g]
        unfold rM0
        simp only [up2_rn, ne_eq, show ¬ d = 81 from by omega, show ¬ d = 102 from by omega, not_false_eq_true]
        rw [lI d (by omega) (by omega)]
      refine bkS_c hs' b0 (by rw [rr 22 (by decide) (by decide) (by decide)]) ?_ (fun j _ => by rw [rr 23 (by decide) (by decide) (by decide)]) (fun j _ => by rw [rr 24 (by decide) (by decide) (by decide)]) (fun j _ => by rw [rr 25 (by decide) (by decide) (by decide)]) (fun j hj => r9 94 _ (by decide) (by decide) (by omega)) (fun j hj => r9 95 _ (by decide) (by decide) (by omega)) (fun j hj => r9 96 _ (by decide) (by decide) (by omega)) (fun j hj => r9 97 _ (by decide) (by decide) (by omega)) (fun j hj => r9 98 _ (by decide) (by decide) (by omega)) (fun j hj => r10 99 _ (by decide) (by decide) (by omega)) (fun j hj => r10 100 _ (by decide) (by decide) (by omega)) (fun j hj => r10 101 _ (by decide) (by decide) (by omega))
      rw [up2_rn _ _ _ _ _ (by decide), up2_rn _ _ _ _ _ (by decide), fV.2.2.2.2 s' (by omega)]
      unfold rM0
      simp (decide := true) only [up2_ra, up2_rn, va_ap, ne_eq, if_false, if_true, not_false_eq_true, show ¬ s' = 6 from by omega]
      rw [lI 102 (by decide) (by decide)]
  · obtain ⟨⟨fr1, fr2⟩, l0, l1, l2, l17, l18, l19⟩ := hL
    have lI : ∀ d, ¬ d = 14 → d < 16 ∨ 20 < d → L d = I d := fun d a e => by rw [fr1 d a e]; exact k0 d a (by omega)
    obtain ⟨⟨w1, w2, w3, w4, w5, w6⟩, ⟨v1, v2, v3⟩, wl, wz, w0, wn⟩ := hW
    have zz : z' = ls le m' := (w0 rfl).2
    have kz : z' = kn' := w2
    have m16 : m' ≤ 16 := w1
    rw [lp_168_37, if_pos l0, lp_40_0, if_neg (by rw [zIr_lt (c := 0) (by decide) (by omega)]; exact Nat.not_lt_zero _), if_pos (by rw [zIr_lt (c := 6) (by decide) (by omega)]; exact hsi), zI_vp (by omega), zI_cn (by omega), l2, if_neg (by rw [zIl_lt (c := 16) (by decide) (by omega)]; show ¬ 16 < m'; omega)]
    refine ⟨hsi, c_c1 hsi 64 0 (by omega) _ ?_⟩
    intro L1 p1 p2 p3
    refine c_c2 hsi 16 0 (by omega) L1 ?_
    intro L2 q1 q2 q3
    simp only [tl_none]
    have x1 : ∀ d, ¬ d = 22 → ¬ d = 23 → ¬ d = 24 → ¬ d = 25 → L2 d = L d := fun d a b c e => by rw [q1 d c e, p1 d b, up2_rn _ _ _ _ _ a]
    have x22 : L2 22 = va_up (L 22) s (zI m') := by rw [q1 22 (by decide) (by decide), p1 22 (by decide), up2_ra]
    have x23 : ∀ i, i < 64 → L2 23 (64 * s + i) = L 17 i := fun i hi => by rw [q1 23 (by decide) (by decide), p3 i (Nat.zero_le _) hi, up2_rn _ _ _ _ _ (by decide)]
    have x23' : ∀ i, i < 64 * s ∨ 64 * s + 64 ≤ i → L2 23 i = L 23 i := fun i hi => by rw [q1 23 (by decide) (by decide), p2 i (by omega), up2_rn _ _ _ _ _ (by decide)]
    have x24 : ∀ i, i < 16 → L2 24 (16 * s + i) = L 18 i ∧ L2 25 (16 * s + i) = L 19 i := fun i hi => by
      have := q3 i (Nat.zero_le _) hi
      rw [this.1, this.2, p1 18 (by decide), p1 19 (by decide), up2_rn _ _ _ _ _ (by decide), up2_rn _ _ _ _ _ (by decide)]
      exact ⟨rfl, rfl⟩
    have x24' : ∀ i, i < 16 * s ∨ 16 * s + 16 ≤ i → L2 24 i = L 24 i ∧ L2 25 i = L 25 i := fun i hi => by
      have := q2 i (by omega)
      rw [this.1, this.2, p1 24 (by decide), p1 25 (by decide), up2_rn _ _ _ _ _ (by decide), up2_rn _ _ _ _ _ (by decide)]
      exact ⟨rfl, rfl⟩
    have lI2 : ∀ d, ¬ d = 14 → d < 16 ∨ (20 < d ∧ d < 22) ∨ 25 < d → L2 d = I d := fun d a e => by rw [x1 d (by omega) (by omega) (by omega) (by omega)]; exact lI d a (by omega)
    rw [lp_168_61, x1 16 (by decide) (by decide) (by decide) (by decide), l2]
    refine rS0 (B := B) (ln := ln) (m := m) (b := true) (by omega) (by omega) t3 n6 hsm hr (by rw [lI2 82 (by decide) (by decide)]; exact hB82) (by rw [lI2 93 (by decide) (by decide)]; exact hX) (by rw [lI2 81 (by decide) (by decide)]; exact t2) (by rw [lI2 81 (by decide) (by decide)]; exact n2) _ ?_
    rintro T2 ⟨fV, gb, wo, ⟨s1, s2, -⟩, ⟨hG', -, ⟨i1, -, -⟩, hL', -, -⟩, -, ⟨hV1, hV2, hV3⟩⟩
    unfold rFi
    rw [if_pos rfl, show (64 : Int32) * zI s = zI (64 * s + 0) from zIl_mul 64 s, show (384 : Int32) - zI (64 * s + 0) = zI (384 - 64 * s) from zIl_sub (c := 384) (by show 64 * s + 0 ≤ 384; omega)]
    refine r_c1 (kn := kn') hsi w3 kn' 0 (by omega) T2 s1 ?_
    intro L3 a1 a2 a3
    have e102 : L3 102 6 = zI m' := by rw [a1 102 (by decide)]; exact hV3
    rw [e102]
    refine r_c2 hsi m16 m' 0 (by omega) _ (by rw [up2_ra, va_ap, if_pos rfl]) ?_
    intro V b1 b2 b3
    have y1 : ∀ d, d < 81 ∨ (81 < d ∧ d < 94) ∨ 106 < d → V d = L2 d := fun d e => by
      rw [b1 d (by omega), up2_rn _ _ _ _ _ (by omega), a1 d (by omega), fV.1 d (by omega) (by omega)]
      unfold rM0
      simp only [up2_rn, ne_eq, show ¬ d = 81 from by omega, show ¬ d = 102 from by omega, not_false_eq_true]
    have y81 : V 81 = T2 81 := by rw [b1 81 (by decide), up2_rn _ _ _ _ _ (by decide), a1 81 (by decide)]
    have y9 : ∀ d j, 94 ≤ d → d ≤ 98 → V d j = L3 d j := fun d j a e => by rw [b1 d (by omega), up2_rn _ _ _ _ _ (by omega)]
    have y9' : ∀ d j, 94 ≤ d → d ≤ 98 → j < 64 * s ∨ 64 * s + 64 ≤ j → j < 384 → V d j = I d j := fun d j a e g k => by
      rw [y9 d j a e, a2 d j a e (by omega), fV.2.2.1 d a e j k]
      unfold rM0
      simp only [up2_rn, ne_eq, show ¬ d = 81 from by omega, show ¬ d = 102 from by omega, not_false_eq_true]
      rw [lI2 d (by omega) (by omega)]
    have y10' : ∀ d j, 99 ≤ d → d ≤ 101 → j < 16 * s ∨ 16 * s + 16 ≤ j → j < 96 → V d j = I d j := fun d j a e g k => by
      rw [b2 d j a e (by omega), up2_rn _ _ _ _ _ (by omega), a1 d (by omega), fV.2.2.2.1 d a e j k]
      unfold rM0
      simp only [up2_rn, ne_eq, show ¬ d = 81 from by omega, show ¬ d = 102 from by omega, not_false_eq_true]
      rw [lI2 d (by omega) (by omega)]
    have y10 : ∀ d i, 99 ≤ d → d ≤ 101 → i < m' → V d (16 * s + i) = T2 d (96 + i) := fun d i a e g => by
      rw [b3 d i a e (Nat.zero_le _) g, up2_rn _ _ _ _ _ (by omega), a1 d (by omega)]
    have y102 : V 102 = va_up (T2 102) s (zI m') := by rw [b1 102 (by decide), up2_ra, a1 102 (by decide)]
    refine ⟨rfl, mo, G, V, J, rfl, inv_o h0 ?_ ?_ ?_ ?_ ?_ ?_⟩
    · intro d a e
      rw [y1 d (by omega)]
      exact lI2 d a (by omega)
    · rw [y1 14 (by decide), x1 14 (by decide) (by decide) (by decide) (by decide), fr2 0 (by decide) (by decide) (by decide)]
      exact k14
    · rw [y81, fV.2.1 1 (by decide)]
      unfold rM0
      simp (decide := true) only [up2_ra, up2_rn, va_ap, ne_eq, if_false, if_true, not_false_eq_true]
    · intro j hj
      rw [y81, fV.2.1 j (by omega)]
      unfold rM0
      simp (decide := true) only [up2_ra, up2_rn, va_ap, ne_eq, if_false, if_true, not_false_eq_true, show ¬ j = 2 from by omega, show ¬ j = 20 from by omega, show ¬ j = 1 from by omega, show ¬ j = 18 from by omega, show ¬ j = 19 from by omega, show ¬ j = 21 from by omega, show ¬ j = 34 from by omega, show ¬ j = 35 from by omega]
      rw [lI2 81 (by decide) (by decide)]
    · rw [y81, fV.2.1 18 (by decide), fV.2.1 19 (by decide), y1 16 (by decide), x1 16 (by decide) (by decide) (by decide) (by decide), l0, l1]
      unfold rM0
      simp (decide := true) only [up2_ra, up2_rn, va_ap, ne_eq, if_false, if_true, not_false_eq_true, and_self]
    · intro s' hs'
      have b0 := hB s' hs'
      by_cases es : s' = s
      · subst es
        have e9 : ∀ i, i < kn' → V 94 (64 * s' + i) = T2 94 (384 + i) ∧ V 97 (64 * s' + i) = T2 97 (384 + i) ∧ V 95 (64 * s' + i) = T2 95 (384 + i) - zI (384 - 64 * s') ∧ V 96 (64 * s' + i) = T2 96 (384 + i) - zI (384 - 64 * s') ∧ V 98 (64 * s' + i) = T2 98 (384 + i) - zI (384 - 64 * s') := fun i hi => by
          rw [y9 94 _ (by decide) (by decide), y9 95 _ (by decide) (by decide), y9 96 _ (by decide) (by decide), y9 97 _ (by decide) (by decide), y9 98 _ (by decide) (by decide)]
          exact a3 i (Nat.zero_le _) hi
        have sh : ∀ v, zI (384 + v) - zI (384 - 64 * s') = zI (64 * s' + v) := fun v => by
          rw [zI_sub (by omega)]
          congr 1
          omega
        refine ⟨m', co, gb, vb, le, by rw [y1 22 (by decide), x22, vs_a], by rw [y102, vs_a], m16, ⟨by omega, fun i hi => ?_, fun i k hi hk => i1 i k (by omega) (by omega)⟩, fun i hi => ?_⟩
        · obtain ⟨g1, g2, g3, g4⟩ := hG' i (by omega)
          refine ⟨by rw [y1 23 (by decide), x23 i (by omega)]; exact l17 i (by omega), v2 i (by omega), by rw [(e9 i (by omega)).2.2.2.2, g1]; exact sh _, by omega, by rw [(e9 _ g2).1]; exact g3, by rw [(e9 _ g2).2.1]; exact g4⟩
        · obtain ⟨u1, u2, u3, u4⟩ := wl i hi
          have on0 : on 0 = 0 := rfl
          refine ⟨by rw [y1 24 (by decide), (x24 i (by omega)).1]; exact l18 i hi, by rw [y10 99 i (by decide) (by decide) hi]; exact (hV1 i hi).1, v3 i hi, by rw [y1 25 (by decide), (x24 i (by omega)).2]; exact l19 i hi, by rw [y10 100 i (by decide) (by decide) hi]; exact (hV1 i hi).2, by rw [y10 101 i (by decide) (by decide) hi]; exact hV2 i hi, u1, by rw [← zz]; exact u2, u3, u4, rL_k (hL' i hi).2 (fun j v _ hj e => ?_) (fun j v _ hj e => ?_)⟩
          · rw [(e9 _ (hG' j (by omega)).2.1).2.2.1, e]; exact sh v
          · rw [(e9 _ (hG' j (by omega)).2.1).2.2.2.1, e]; exact sh v
      · refine bkS_c hs' b0 (by rw [y1 22 (by decide), x22, vs_n _ _ es, lI 22 (by decide) (by decide)]) ?_ (fun j _ => by rw [y1 23 (by decide), x23' _ (by omega), lI 23 (by decide) (by decide)]) (fun j _ => by rw [y1 24 (by decide), (x24' _ (by omega)).1, lI 24 (by decide) (by decide)]) (fun j _ => by rw [y1 25 (by decide), (x24' _ (by omega)).2, lI 25 (by decide) (by decide)]) (fun j hj => y9' 94 _ (by decide) (by decide) (by omega) (by omega)) (fun j hj => y9' 95 _ (by decide) (by decide) (by omega) (by omega)) (fun j hj => y9' 96 _ (by decide) (by decide) (by omega) (by omega)) (fun j hj => y9' 97 _ (by decide) (by decide) (by omega) (by omega)) (fun j hj => y9' 98 _ (by decide) (by decide) (by omega) (by omega)) (fun j hj => y10' 99 _ (by decide) (by decide) (by omega) (by omega)) (fun j hj => y10' 100 _ (by decide) (by decide) (by omega) (by omega)) (fun j hj => y10' 101 _ (by decide) (by decide) (by omega) (by omega))
        rw [y102, vs_n _ _ es, fV.2.2.2.2 s' (by omega)]
        unfold rM0
        simp (decide := true) only [up2_ra, up2_rn, va_ap, ne_eq, if_false, if_true, not_false_eq_true, show ¬ s' = 6 from by omega]
        rw [lI2 102 (by decide) (by decide)]
end O4
