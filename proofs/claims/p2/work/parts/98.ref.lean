/-! Orders: the reference's steps where a value is due. -/
section R2
variable {X : (Nat → Int32) × Nat} {mo : Bool} {G : Nat × Nat} {J : Nat → Nat → Int64} {R : Option Value → sm_M → Prop}
/-- the tape's facts, and where the next token is -/
def tpF (B : Nat → Nat) (n p : Nat) (T0 T : Nat → Nat → Int32) : Prop := (tpM B (T0 82) ∧ ivX (T0 93) ∧ T0 81 20 = zI n ∧ n ≤ 400) ∧ frR T0 T ∧ T 81 21 = zI p ∧ p ≤ n
theorem r_tf {B : Nat → Nat} {n p : Nat} {T0 T U : Nat → Nat → Int32} (f : tpF B n p T0 T) (hU : frR T0 U) (h21 : U 81 21 = T 81 21) (hQ : ∀ L, tkM B n (plc B n p) U L → R none (sM mo G L J)) : sm_wp X 226 0 [some (.ref 81), none] [] (sM mo G U J) R := by
  obtain ⟨⟨f0, fX, f20, hn⟩, -, f21, hp⟩ := f
  exact r_tk f0 fX f20 hn hU (h21.trans f21) hp hQ
theorem tkM_F {B : Nat → Nat} {n q : Nat} {U L : Nat → Nat → Int32} (t : tkM B n q U L) : tkF B n q L := ⟨t.2.2.1, t.2.2.2.1, t.2.2.2.2⟩
theorem tkF_u {B : Nat → Nat} {n q : Nat} {L V : Nat → Nat → Int32} (h : tkF B n q L) (e : ∀ j, 20 < j → j < 25 → V 81 j = L 81 j) : tkF B n q V := by
  unfold tkF
  rw [e 24 (by decide) (by decide), e 21 (by decide) (by decide), e 22 (by decide) (by decide), e 23 (by decide) (by decide)]
  exact h
theorem r_opt {B : Nat → Nat} {n p m z w d kn o x : Nat} {cm x1 : Int32} {c sg vb le gb wo : Nat → Nat} {T0 T : Nat → Nat → Int32} (hC : CT m z w d kn o cm c sg vb le gb wo T) (hW : pW m z w d kn o c sg vb le) (hd : d = 1 ∨ d = 2) (hk : kn < 64) (ha : ar x = 0) (f : tpF B n p T0 T)
    (hQ : ∀ L gb', CT m (z + 1) w 3 (kn + 1) o cm (va_up c z x) sg vb le gb' wo L → frR T0 L → tkF B n (plc B n p) L → sm_wp X 234 30 [some (.ref 81), none] [] (sM mo G L J) R) :
    sm_wp X 226 0 [some (.ref 81), none] [] (sM mo G (up2 (up2 (up2 (up2 (up2 (up2 T 81 34 (zI (kn + 1))) 94 (384 + kn) (zI (kdc x))) 95 (384 + kn) (-1)) 96 (384 + kn) (-1)) 97 (384 + kn) (zI (amc x))) 81 44 0) J) (fun v M => sm_wp X 235 226 [some (.ref 81), some (.int x1), some (.int (zI (384 + kn)))] (v.toList ++ []) M (fun v M => sm_wp X 234 43 [some (.ref 81), some (.int 1)] (v.toList ++ []) M R)) := by
  obtain ⟨hS, hB, hHC, hV⟩ := hC
  obtain ⟨⟨hH1, hH2⟩, hc⟩ := hHC (by omega)
  obtain ⟨s1, s2, s3⟩ := hS
  obtain ⟨s4, s5, s6, s7, s8⟩ := s3 (by omega)
  have hzk : z ≤ kn := by have := hW.1; omega
  have hf : ls le m ≤ z := hB.2.2.2.2.1
  have hb := hg_b c (ls le m) (z - ls le m)
  refine r_tf f (fr_u (by unfold okc; omega) (fr_u (by unfold okc; omega) (fr_u (by unfold okc; omega) (fr_u (by unfold okc; omega) (fr_u (by unfold okc; omega) (fr_u (by unfold okc; omega) f.2.1)))))) (by simp (decide := true) only [up2_ra, up2_rn, va_ap, ne_eq, if_false, if_true, not_false_eq_true]) ?_
  intro L hL
  have frL := fr_tk (T0 := T0) (fr_u (by unfold okc; omega) (fr_u (by unfold okc; omega) (fr_u (by unfold okc; omega) (fr_u (by unfold okc; omega) (fr_u (by unfold okc; omega) (fr_u (by unfold okc; omega) f.2.1)))))) hL
  have tL := tkM_F hL
  obtain ⟨l1, l2, -⟩ := hL
  simp only [tl_none]
  have e35 : L 81 35 = zI z := by rw [l2 35 (by decide) (by decide) (by decide) (by decide)]; simp (decide := true) only [up2_ra, up2_rn, va_ap, ne_eq, if_false, if_true, not_false_eq_true]; exact s2
  have e40 : L 81 40 = zI (hg c (ls le m) (z - ls le m)) := by rw [l2 40 (by decide) (by decide) (by decide) (by decide)]; simp (decide := true) only [up2_ra, up2_rn, va_ap, ne_eq, if_false, if_true, not_false_eq_true]; exact hH1
  have e34 : L 81 34 = zI (kn + 1) := by rw [l2 34 (by decide) (by decide) (by decide) (by decide)]; simp (decide := true) only [up2_ra, up2_rn, va_ap, ne_eq, if_false, if_true, not_false_eq_true]
  have e38 : L 81 38 = zI w := by rw [l2 38 (by decide) (by decide) (by decide) (by decide)]; simp (decide := true) only [up2_ra, up2_rn, va_ap, ne_eq, if_false, if_true, not_false_eq_true]; exact s4
  have e42 : L 81 42 = zI o := by rw [l2 42 (by decide) (by decide) (by decide) (by decide)]; simp (decide := true) only [up2_ra, up2_rn, va_ap, ne_eq, if_false, if_true, not_false_eq_true]; exact s5
  have e43 : L 81 43 = (if bt cm o = true then 1 else 0) := by rw [l2 43 (by decide) (by decide) (by decide) (by decide)]; simp (decide := true) only [up2_ra, up2_rn, va_ap, ne_eq, if_false, if_true, not_false_eq_true]; exact s6
  have e44 : L 81 44 = 0 := by rw [l2 44 (by decide) (by decide) (by decide) (by decide)]; simp (decide := true) only [up2_ra, up2_rn, va_ap, ne_eq, if_false, if_true, not_false_eq_true]
  have r94 : L 94 = va_up (T 94) (384 + kn) (zI (kdc x)) := by rw [l1 94 (by decide)]; simp (decide := true) only [up2_ra, up2_rn, ne_eq, not_false_eq_true]
  have r95 : L 95 = va_up (T 95) (384 + kn) (-1) := by rw [l1 95 (by decide)]; simp (decide := true) only [up2_ra, up2_rn, ne_eq, not_false_eq_true]
  have r96 : L 96 = va_up (T 96) (384 + kn) (-1) := by rw [l1 96 (by decide)]; simp (decide := true) only [up2_ra, up2_rn, ne_eq, not_false_eq_true]
  have r97 : L 97 = va_up (T 97) (384 + kn) (zI (amc x)) := by rw [l1 97 (by decide)]; simp (decide := true) only [up2_ra, up2_rn, ne_eq, not_false_eq_true]
  have rr : ∀ d, ¬ d = 81 → ¬ d = 94 → ¬ d = 95 → ¬ d = 96 → ¬ d = 97 → L d = T d := fun d a b c e f => by rw [l1 d a]; simp only [up2_rn, ne_eq, a, b, c, e, f, not_false_eq_true]
  rw [lp_235_226, e35, e40, show (384 : Int32) + zI z = zI (384 + z) from zIl_add 384 z, show zI z + 1 = zI (z + 1) from zIr_add 1 _, show zI (hg c (ls le m) (z - ls le m)) + 1 = zI (hg c (ls le m) (z - ls le m) + 1) from zIr_add 1 _]
  simp (disch := first | omega | decide) only [zI_cn, zI_vp]
  refine ⟨by omega, by omega, ?_⟩
  simp only [tl_some]
  rw [lp_234_43, if_pos (by decide)]
  refine hQ _ (va_up gb z kn) ⟨⟨?_, ?_, fun _ => ⟨?_, ?_, ?_, ?_, fun e => absurd rfl e⟩⟩, ?_, fun _ => ⟨?_, ?_⟩, ?_⟩ (fr_u (by unfold okc; omega) (fr_u (by unfold okc; omega) (fr_u (by unfold okc; omega) (fr_u (by unfold okc; omega) frL)))) (tkF_u tL (fun j a b => by simp only [up2_ra, up2_rn, va_ap, ne_eq, if_false, if_true, not_false_eq_true, show ¬ j = 40 from by omega, show ¬ (81 = 105) from by decide, show ¬ j = 35 from by omega, show ¬ (81 = 98) from by decide]))
  · simp (decide := true) only [up2_ra, up2_rn, va_ap, ne_eq, if_false, if_true, not_false_eq_true]; exact e34
  · simp (decide := true) only [up2_ra, up2_rn, va_ap, ne_eq, if_false, if_true, not_false_eq_true]
  · simp (decide := true) only [up2_ra, up2_rn, va_ap, ne_eq, if_false, if_true, not_false_eq_true]; exact e38
  · simp (decide := true) only [up2_ra, up2_rn, va_ap, ne_eq, if_false, if_true, not_false_eq_true]; exact e42
  · simp (decide := true) only [up2_ra, up2_rn, va_ap, ne_eq, if_false, if_true, not_false_eq_true]; exact e43
  · simp (decide := true) only [up2_ra, up2_rn, va_ap, ne_eq, if_false, if_true, not_false_eq_true]; exact e44
  · simp (decide := true) only [up2_ra, up2_rn, ne_eq, not_false_eq_true]
    rw [r94, r95, r96, r97, rr 98 (by decide) (by decide) (by decide) (by decide) (by decide), rr 103 (by decide) (by decide) (by decide) (by decide) (by decide), rr 104 (by decide) (by decide) (by decide) (by decide) (by decide)]
    exact rB_e (rB_g (zI (kdc x)) (-1) (-1) (zI (amc x)) hB) (by omega) (vs_a _ _ _) (vs_a _ _ _) (fun i hi e => by have := (hB.1 i hi).2.1; omega) (fun j hj hs e => by have := ((hB.2.1 j hj).2 hs).2.1; omega) (fun _ _ => rfl) (fun _ _ => rfl) (fun e => by omega) (fun e => by omega)
  · simp (decide := true) only [up2_ra, up2_rn, ne_eq, not_false_eq_true, vs_a]
    rw [rr 105 (by decide) (by decide) (by decide) (by decide) (by decide)]
    have q := rH_e (x := x) (g := kn) hf ⟨hH1, hH2⟩
    rw [ha, Nat.sub_zero] at q
    exact q
  · simp (decide := true) only [up2_ra, up2_rn, ne_eq, not_false_eq_true]
    rw [rr 106 (by decide) (by decide) (by decide) (by decide) (by decide)]
    exact hc
  · simp (decide := true) only [up2_ra, up2_rn, ne_eq, not_false_eq_true]
    rw [rr 99 (by decide) (by decide) (by decide) (by decide) (by decide), rr 100 (by decide) (by decide) (by decide) (by decide) (by decide), rr 101 (by decide) (by decide) (by decide) (by decide) (by decide), rr 102 (by decide) (by decide) (by decide) (by decide) (by decide)]
    have od : on d = on 3 := by rw [on_1 (by omega), on_1 (by omega)]
    exact ⟨fun i hi => hV.1 i (by omega), hV.2⟩
/-- a number; a name -/
theorem r_num {B : Nat → Nat} {n p m z w d kn o nu : Nat} {cm : Int32} {c sg vb le gb wo : Nat → Nat} {T0 T : Nat → Nat → Int32} (hC : CT m z w d kn o cm c sg vb le gb wo T) (hW : pW m z w d kn o c sg vb le) (hd : d = 1 ∨ d = 2) (hk : kn < 64) (h22 : T 81 22 = 2) (h23 : T 81 23 = zI nu) (hn : nu ≤ 99999) (f : tpF B n p T0 T)
    (hQ : ∀ L gb', CT m (z + 1) w 3 (kn + 1) o cm (va_up c z (100 + nu)) sg vb le gb' wo L → frR T0 L → tkF B n (plc B n p) L → sm_wp X 234 30 [some (.ref 81), none] [] (sM mo G L J) R) : sm_wp X 234 30 [some (.ref 81), none] [] (sM mo G T J) R := by
  obtain ⟨s1, s2, s3⟩ := hC.1
  obtain ⟨s4, s5, s6, s7, s8⟩ := s3 (by omega)
  rw [if_neg (show ¬ d = 3 by omega)] at s7
  have go := r_opt (X := X) (mo := mo) (G := G) (J := J) (R := R) (x := 100 + nu) (x1 := 0) hC hW hd hk (by unfold ar; rw [if_pos (by omega)]) f hQ
  rw [show kdc (100 + nu) = 0 from by unfold kdc; rw [if_pos (by omega)], show amc (100 + nu) = nu from by unfold amc; rw [if_pos (by omega)]; omega] at go
  rw [lp_234_30, if_neg (by rw [s7]; decide), lp_235_0, if_pos (by rintro ⟨a, -⟩; rw [h22] at a; exact absurd a (by decide)), if_pos (by rintro ⟨a, -⟩; rw [h22] at a; exact absurd a (by decide)), if_pos (by rw [h22]; decide), if_pos h22, h23, if_pos (by rw [zIr_le (c := 99999) (by decide) (by omega)]; exact hn), s1, if_pos (by rw [zIr_eq (c := 64) (by decide) (by omega)]; show ¬ kn = 64; omega), show (384 : Int32) + zI kn = zI (384 + kn) from zIl_add 384 kn, zI_vp (by omega), if_pos (by rw [zIl_le (c := 0) (by decide) (by omega)]; exact Nat.zero_le _), zI_cn (by omega), show zI kn + 1 = zI (kn + 1) from zIr_add 1 _]
  exact ⟨by omega, go⟩
theorem r_nam {B : Nat → Nat} {n p m z w d kn o t : Nat} {cm : Int32} {c sg vb le gb wo : Nat → Nat} {T0 T : Nat → Nat → Int32} (hC : CT m z w d kn o cm c sg vb le gb wo T) (hW : pW m z w d kn o c sg vb le) (hd : d = 1 ∨ d = 2) (hk : kn < 64) (h22 : T 81 22 = 1) (h23 : T 81 23 = zI t) (t1 : 7 ≤ t) (t2 : t < 19) (f : tpF B n p T0 T)
    (hQ : ∀ L gb', CT m (z + 1) w 3 (kn + 1) o cm (va_up c z t) sg vb le gb' wo L → frR T0 L → tkF B n (plc B n p) L → sm_wp X 234 30 [some (.ref 81), none] [] (sM mo G L J) R) : sm_wp X 234 30 [some (.ref 81), none] [] (sM mo G T J) R := by
  obtain ⟨s1, s2, s3⟩ := hC.1
  obtain ⟨s4, s5, s6, s7, s8⟩ := s3 (by omega)
  rw [if_neg (show ¬ d = 3 by omega)] at s7
  have go := r_opt (X := X) (mo := mo) (G := G) (J := J) (R := R) (x := t) (x1 := 1) hC hW hd hk (by unfold ar; rw [if_pos (by omega)]) f hQ
  rw [show kdc t = 16 from by unfold kdc; rw [if_neg (by omega), if_pos (by omega)], show amc t = t - 7 from by unfold amc; rw [if_neg (by omega), if_pos (by omega)]] at go
  rw [lp_234_30, if_neg (by rw [s7]; decide), lp_235_0, if_pos (by rintro ⟨a, -⟩; rw [h22] at a; exact absurd a (by decide)), if_pos (by rintro ⟨a, -⟩; rw [h22] at a; exact absurd a (by decide)), if_neg (fun e => e h22), h23, if_pos (by rw [zIr_eq (c := 6) (by decide) (by omega)]; show ¬ t = 6; omega), if_neg (by rw [zIr_lt (c := 7) (by decide) (by omega)]; show ¬ t < 7; omega), s1, if_pos (by rw [zIr_eq (c := 64) (by decide) (by omega)]; show ¬ kn = 64; omega), show (384 : Int32) + zI kn = zI (384 + kn) from zIl_add 384 kn, zI_vp (by omega), if_pos (by rw [zIl_le (c := 0) (by decide) (by omega)]; exact Nat.zero_le _), zI_cn (by omega), show zI kn + 1 = zI (kn + 1) from zIr_add 1 _, show zI t - 7 = zI (t - 7) from zIr_sub (c := 7) t1]
  exact ⟨by omega, go⟩
end R2
