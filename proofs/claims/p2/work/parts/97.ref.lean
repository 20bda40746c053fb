/-! Orders: the reference's steps. -/
def okc (d k : Nat) : Prop := (d = 81 ∧ ((21 ≤ k ∧ k ≤ 24) ∨ (34 ≤ k ∧ k ≤ 35) ∨ k = 38 ∨ k = 40 ∨ (42 ≤ k ∧ k ≤ 45))) ∨ (94 ≤ d ∧ d ≤ 98 ∧ 384 ≤ k) ∨ (99 ≤ d ∧ d ≤ 101 ∧ 96 ≤ k) ∨ (d = 102 ∧ k = 6) ∨ (103 ≤ d ∧ d ≤ 106)
theorem fr_u {T0 U : Nat → Nat → Int32} {d k : Nat} {v : Int32} (o : okc d k) (h : frR T0 U) : frR T0 (up2 U d k v) := by
  obtain ⟨f1, f2, f3, f4, f5⟩ := h
  unfold okc at o
  have ne : ∀ e j, ¬ (e = d ∧ j = k) → up2 U d k v e j = U e j := fun e j g => by
    rw [up2_ap]
    by_cases h1 : e = d
    · rw [if_pos h1]
      by_cases h2 : j = k
      · exact absurd ⟨h1, h2⟩ g
      · rw [if_neg h2]
    · rw [if_neg h1]
  refine ⟨fun e a b => by rw [up2_rn _ _ _ _ _ (by omega)]; exact f1 e a b, fun j hj => by rw [ne _ _ (by omega)]; exact f2 j hj, fun e a b j hj => by rw [ne _ _ (by omega)]; exact f3 e a b j hj, fun e a b j hj => by rw [ne _ _ (by omega)]; exact f4 e a b j hj, fun j hj => by rw [ne _ _ (by omega)]; exact f5 j hj⟩
theorem wgt_z {s : Nat} (h : vsg s) : vf_Model_weight (zI (wtc s)) = zI (stg s) := by
  have e : ∀ s : Fin 34, (s.val = 30 ∨ s.val = 33 ∨ s.val = 4 ∨ s.val = 5 ∨ s.val = 6 ∨ (19 ≤ s.val ∧ s.val ≤ 29)) → vf_Model_weight (zI (wtc s.val)) = zI (stg s.val) := by decide
  unfold vsg at h
  exact e ⟨s, by omega⟩ h
theorem wtc_12 {s : Nat} (h : vsg s) : (zI (wtc s) = 12) = (s = 33) := by
  have e : ∀ s : Fin 34, (s.val = 30 ∨ s.val = 33 ∨ s.val = 4 ∨ s.val = 5 ∨ s.val = 6 ∨ (19 ≤ s.val ∧ s.val ≤ 29)) → (zI (wtc s.val) = 12 ↔ s.val = 33) := by decide
  unfold vsg at h
  exact propext (e ⟨s, by omega⟩ h)
theorem wtc_13 {s : Nat} (h : vsg s) : (zI (wtc s) = 13) = (s = 4) := by
  have e : ∀ s : Fin 34, (s.val = 30 ∨ s.val = 33 ∨ s.val = 4 ∨ s.val = 5 ∨ s.val = 6 ∨ (19 ≤ s.val ∧ s.val ≤ 29)) → (zI (wtc s.val) = 13 ↔ s.val = 4) := by decide
  unfold vsg at h
  exact propext (e ⟨s, by omega⟩ h)
theorem amc_0 {s : Nat} (h : vsg s) : amc s = 0 := by
  unfold vsg at h
  unfold amc
  rw [if_neg (by omega), if_neg (by omega)]
/-- what the pops leave alone -/
def frB (K L : Nat → Nat → Int32) : Prop := (∀ d, ¬ d = 81 → ¬ d = 95 → ¬ d = 96 → ¬ d = 98 → ¬ d = 105 → L d = K d) ∧ (∀ j, ¬ j = 35 → ¬ j = 38 → ¬ j = 40 → L 81 j = K 81 j) ∧ (∀ d j, j < 384 → d = 95 ∨ d = 96 ∨ d = 98 → L d j = K d j)
theorem fr_B {T0 K L : Nat → Nat → Int32} (h : frR T0 K) (b : frB K L) : frR T0 L := by
  obtain ⟨f1, f2, f3, f4, f5⟩ := h
  obtain ⟨b1, b2, b3⟩ := b
  refine ⟨fun d x y => by rw [b1 d (by omega) (by omega) (by omega) (by omega) (by omega)]; exact f1 d x y, fun j hj => by rw [b2 j (by omega) (by omega) (by omega)]; exact f2 j hj, fun d x y j hj => ?_, fun d x y j hj => by rw [b1 d (by omega) (by omega) (by omega) (by omega) (by omega)]; exact f4 d x y j hj, fun j hj => by rw [b1 102 (by omega) (by omega) (by omega) (by omega) (by omega)]; exact f5 j hj⟩
  by_cases g : d = 95 ∨ d = 96 ∨ d = 98
  · rw [b3 d j hj g]; exact f3 d x y j hj
  · rw [b1 d (by omega) (by omega) (by omega) (by omega) (by omega)]; exact f3 d x y j hj
section R1
variable {X : (Nat → Int32) × Nat} {mo : Bool} {G : Nat × Nat} {J : Nat → Nat → Int64} {Q : Option Value → sm_M → Prop}
theorem r_tk {B : Nat → Nat} {n p : Nat} {T0 U : Nat → Nat → Int32} (f0 : tpM B (T0 82)) (fX : ivX (T0 93)) (f20 : T0 81 20 = zI n) (hn : n ≤ 400) (hU : frR T0 U) (h21 : U 81 21 = zI p) (hp : p ≤ n) (hQ : ∀ L, tkM B n (plc B n p) U L → Q none (sM mo G L J)) : sm_wp X 226 0 [some (.ref 81), none] [] (sM mo G U J) Q :=
  ct_226 (I := U) (B := B) (n := n) (by rw [hU.1 82 (by decide) (by decide)]; exact f0) (by rw [hU.1 93 (by decide) (by decide)]; exact fX) (by rw [hU.2.1 20 (by decide)]; exact f20) hn (n - p) p (by omega) U (fun _ _ => rfl) (fun _ _ => rfl) h21 hQ
theorem r_bind {least m kn kr o : Nat} {sg vb le wo : Nat → Nat} (hl1 : 1 ≤ least) (hl8 : least ≤ 8) (h64 : kr ≤ 64) : ∀ w z c gb K, pW m z w 3 kn o c sg vb le → K 81 38 = zI w → K 81 35 = zI z → rB m z w kr (ls le m) c gb sg wo le (K 94) (K 95) (K 96) (K 97) (K 98) (K 103) (K 104) → rH (ls le m) z c gb (K 105) (K 81 40) →
    (∀ L, frB K L → L 81 38 = zI (w - pm least sg w) → L 81 35 = zI (z + pm least sg w) → rB m (z + pm least sg w) (w - pm least sg w) kr (ls le m) (pcG least sg sg w z c) (pcG least sg wo w z gb) sg wo le (L 94) (L 95) (L 96) (L 97) (L 98) (L 103) (L 104) → rH (ls le m) (z + pm least sg w) (pcG least sg sg w z c) (pcG least sg wo w z gb) (L 105) (L 81 40) → pW m (z + pm least sg w) (w - pm least sg w) 3 kn o (pcG least sg sg w z c) sg vb le → Q none (sM mo G L J)) →
    sm_wp X 244 0 [some (.ref 81), some (.int (zI least)), none] [] (sM mo G K J) Q := by
  intro w
  induction w with
  | zero =>
    intro z c gb K hW k38 k35 hB hH hQ
    rw [lp_244_0, if_pos (by rw [k38]; decide)]
    exact hQ K ⟨fun _ _ _ _ _ _ => rfl, fun _ _ _ _ => rfl, fun _ _ _ _ => rfl⟩ k38 k35 hB hH hW
  | succ w ih =>
    intro z c gb K hW k38 k35 hB hH hQ
    have vw : vsg (sg w) := hW.2.1.1 w (by omega)
    have sb := stg_b (sg w)
    have w72 : w + 1 ≤ 72 := by
      have := np_w sg (w + 1)
      have h1 := hW.1
      omega
    have um : pm least sg (w + 1) = if least ≤ stg (sg w) then pm least sg w + 1 else 0 := rfl
    have uc : pcG least sg sg (w + 1) z c = if least ≤ stg (sg w) then pcG least sg sg w (z + 1) (va_up c z (sg w)) else c := rfl
    have ug : pcG least sg wo (w + 1) z gb = if least ≤ stg (sg w) then pcG least sg wo w (z + 1) (va_up gb z (wo w)) else gb := rfl
    obtain ⟨w1, w2⟩ := hB.2.1 w (by omega)
    rw [lp_244_0, if_neg (by rw [k38, zIr_le (c := 0) (by decide) (by omega)]; show ¬ w + 1 ≤ 0; omega), k38, show zI (w + 1) - 1 = zI w from zIr_sub (c := 1) (a := w + 1) (by show 1 ≤ w + 1; omega), zI_vp (by omega), zI_cn (by omega), w1, wgt_z vw]
    refine ⟨by omega, ?_⟩
    by_cases g : least ≤ stg (sg w)
    · rw [if_pos g] at um uc ug
      rw [um, uc, ug] at hQ
      have n30 : ¬ sg w = 30 := by rw [← stg_30 vw]; omega
      obtain ⟨w3, w4, w5, w6⟩ := w2 n30
      obtain ⟨hW', a12, ah, z64⟩ := pW_p hW n30
      obtain ⟨hH1, hH2⟩ := hH
      have hf : ls le m ≤ z := hB.2.2.2.2.1
      generalize hh : hg c (ls le m) (z - ls le m) = h at *
      have hz : h ≤ z := by rw [← hh]; have := hg_b c (ls le m) (z - ls le m); omega
      have fin : ∀ K', (∀ d, ¬ d = 81 → ¬ d = 95 → ¬ d = 96 → ¬ d = 98 → ¬ d = 105 → K' d = K d) → (∀ j, ¬ j = 35 → ¬ j = 38 → ¬ j = 40 → K' 81 j = K 81 j) → K' 81 38 = zI w → K' 81 35 = zI (z + 1) → K' 81 40 = zI (h - ar (sg w) + 1) → K' 98 = va_up (K 98) (384 + z) (zI (384 + wo w)) → K' 105 = va_up (K 105) (h - ar (sg w)) (zI (384 + wo w)) → (∀ j, ¬ j = 384 + wo w → K' 95 j = K 95 j) → (∀ j, ¬ j = 384 + wo w → K' 96 j = K 96 j) → (ar (sg w) = 1 → K' 95 (384 + wo w) = K 105 (h - 1)) → (ar (sg w) = 2 → K' 96 (384 + wo w) = K 105 (h - 1) ∧ K' 95 (384 + wo w) = K 105 (h - 2)) → sm_wp X 244 0 [some (.ref 81), some (.int (zI least)), none] [] (sM mo G K' J) Q := by
        intro K' k1 k2 k3 k4 k5 k6 k7 k8 k9 k10 k11
        refine ih (z + 1) (va_up c z (sg w)) (va_up gb z (wo w)) K' hW' k3 k4 ?_ ?_ ?_
        · rw [k1 94 (by decide) (by decide) (by decide) (by decide) (by decide), k1 97 (by decide) (by decide) (by decide) (by decide) (by decide), k1 103 (by decide) (by decide) (by decide) (by decide) (by decide), k1 104 (by decide) (by decide) (by decide) (by decide) (by decide), k6]
          refine rB_e (rB_d hB) w4 w5 (by rw [amc_0 vw]; exact w6) (fun i hi e => ?_) (fun j hj hs e => ?_) k8 k9 (fun e => ?_) (fun e => ?_)
          · exact hB.2.2.1.2.1 i w hi (by omega) n30 e
          · have := hB.2.2.1.2.2 j w (by omega) (by omega) hs n30 e
            omega
          · rw [hh, k10 e]; exact hH2 (h - 1) (by omega)
          · rw [hh, (k11 e).1, (k11 e).2]; exact ⟨hH2 (h - 1) (by omega), hH2 (h - 2) (by omega)⟩
        · rw [k5, k7, ← hh]
          exact rH_e (q40 := K 81 40) hf ⟨by rw [hh]; exact hH1, by rw [hh]; exact hH2⟩
        · intro L b1 b2 b3 b4 b5 b6
          refine hQ L ⟨fun d p q r s t => by rw [b1.1 d p q r s t]; exact k1 d p q r s t, fun j p q r => by rw [b1.2.1 j p q r]; exact k2 j p q r, fun d j hj hd => ?_⟩ (by rw [b2]; congr 1; omega) (by rw [b3]; congr 1; omega) ?_ ?_ ?_
          · rw [b1.2.2 d j hj hd]
            rcases hd with rfl | rfl | rfl
            · exact k8 j (by omega)
            · exact k9 j (by omega)
            · rw [k6]; exact vs_n _ _ (by omega)
          · rw [show z + (pm least sg w + 1) = z + 1 + pm least sg w from by omega, show w + 1 - (pm least sg w + 1) = w - pm least sg w from by omega]; exact b4
          · rw [show z + (pm least sg w + 1) = z + 1 + pm least sg w from by omega]; exact b5
          · rw [show z + (pm least sg w + 1) = z + 1 + pm least sg w from by omega, show w + 1 - (pm least sg w + 1) = w - pm least sg w from by omega]; exact b6
      have kk : kn ≤ 64 := hW.1.2.2.1
      have a1 : zI h - 1 = zI (h - 1) := zIr_sub (c := 1) (by show 1 ≤ h; omega)
      have a2 : zI (h - 1) + 1 = zI (h - 1 + 1) := zIr_add 1 _
      have a3 : (384 : Int32) + zI z = zI (384 + z) := zIl_add 384 z
      have a4 : zI z + 1 = zI (z + 1) := zIr_add 1 _
      rw [if_neg (by rw [zI_lt (by omega) (by omega)]; omega), hH1, k35, w3, a1, a3, a4]
      simp (disch := first | omega | decide) only [zI_cn, zI_vp]
      by_cases u : ar (sg w) = 1
      · have u2 : sg w = 33 ∨ sg w = 4 := by unfold vsg at vw; unfold ar at u; split at u <;> (try split at u) <;> omega
        have go : vp_in (zI (h - 1)) 120 ∧ (384 + wo w < 448 ∧ (384 + z < 448 ∧ (sm_wp X 244 0 [some (.ref 81), some (.int (zI least)), none] [] (sM mo G (up2 (up2 (up2 (up2 (up2 (up2 (up2 K 81 38 (zI w)) 81 40 (zI (h - 1))) 95 (384 + wo w) (K 105 (h - 1))) 98 (384 + z) (zI (384 + wo w))) 81 35 (zI (z + 1))) 105 (h - 1) (zI (384 + wo w))) 81 40 (zI (h - 1) + 1)) J) Q))) := by
          refine ⟨by rw [zI_vp (by omega)]; omega, by omega, by omega, fin _ (fun d p q r s t => by simp only [up2_rn, ne_eq, p, q, r, s, t, not_false_eq_true]) (fun j p q r => by simp (decide := true) only [up2_ra, up2_rn, va_ap, ne_eq, if_false, if_true, not_false_eq_true, p, q, r]) (by simp (decide := true) only [up2_ra, up2_rn, va_ap, ne_eq, if_false, if_true, not_false_eq_true]) (by simp (decide := true) only [up2_ra, up2_rn, va_ap, ne_eq, if_false, if_true, not_false_eq_true]) (by simp (decide := true) only [up2_ra, up2_rn, va_ap, ne_eq, if_false, if_true, not_false_eq_true]; rw [u, a2]) (by simp (decide := true) only [up2_ra, up2_rn, ne_eq, not_false_eq_true]) (by simp (decide := true) only [up2_ra, up2_rn, ne_eq, not_false_eq_true]; rw [u]) (fun j p => by simp (decide := true) only [up2_ra, up2_rn, va_ap, ne_eq, if_false, if_true, not_false_eq_true, p]) (fun j p => by simp (decide := true) only [up2_ra, up2_rn, va_ap, ne_eq, if_false, if_true, not_false_eq_true, p]) (fun _ => by simp (decide := true) only [up2_ra, up2_rn, va_ap, ne_eq, if_false, if_true, not_false_eq_true]) (fun e => by omega)⟩
        rw [zI_vp (show h - 1 < 2147483648 by omega)] at go
        rcases u2 with u2 | u2
        · rw [if_pos (by rw [wtc_12 vw]; exact u2)]; exact go
        · rw [if_neg (by rw [wtc_12 vw]; omega), if_pos (by rw [wtc_13 vw]; exact u2)]; exact go
      · have u2 : ar (sg w) = 2 := by omega
        have u3 : ¬ sg w = 33 ∧ ¬ sg w = 4 := by constructor <;> (intro e; rw [e] at u2; exact absurd u2 (by decide))
        have a5 : zI (h - 1) - 1 = zI (h - 2) := by rw [show zI (h - 1) - 1 = zI (h - 1 - 1) from zIr_sub (c := 1) (by show 1 ≤ h - 1; omega)]; congr 1
        have a6 : zI (h - 2) + 1 = zI (h - 2 + 1) := zIr_add 1 _
        rw [if_neg (by rw [wtc_12 vw]; exact u3.1), if_neg (by rw [wtc_13 vw]; exact u3.2), a5]
        simp (disch := first | omega | decide) only [zI_cn, zI_vp]
        refine ⟨by omega, by omega, by omega, by omega, fin _ (fun d p q r s t => by simp only [up2_rn, ne_eq, p, q, r, s, t, not_false_eq_true]) (fun j p q r => by simp (decide := true) only [up2_ra, up2_rn, va_ap, ne_eq, if_false, if_true, not_false_eq_true, p, q, r]) (by simp (decide := true) only [up2_ra, up2_rn, va_ap, ne_eq, if_false, if_true, not_false_eq_true]) (by simp (decide := true) only [up2_ra, up2_rn, va_ap, ne_eq, if_false, if_true, not_false_eq_true]) (by simp (decide := true) only [up2_ra, up2_rn, va_ap, ne_eq, if_false, if_true, not_false_eq_true]; rw [u2, a6]) (by simp (decide := true) only [up2_ra, up2_rn, ne_eq, not_false_eq_true]) (by simp (decide := true) only [up2_ra, up2_rn, ne_eq, not_false_eq_true]; rw [u2]) (fun j p => by simp (decide := true) only [up2_ra, up2_rn, va_ap, ne_eq, if_false, if_true, not_false_eq_true, p]) (fun j p => by simp (decide := true) only [up2_ra, up2_rn, va_ap, ne_eq, if_false, if_true, not_false_eq_true, p]) (fun e => by omega) (fun _ => by simp (decide := true) only [up2_ra, up2_rn, va_ap, ne_eq, if_false, if_true, not_false_eq_true, and_self])⟩
    · rw [if_neg g] at um uc ug
      rw [um, uc, ug] at hQ
      rw [if_pos (by rw [zI_lt (by omega) (by omega)]; omega)]
      exact hQ K ⟨fun _ _ _ _ _ _ => rfl, fun _ _ _ _ => rfl, fun _ _ _ _ => rfl⟩ k38 k35 hB hH hW
end R1
