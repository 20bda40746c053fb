/-! Orders: the reference's steps where a value is due: signs before it, faults. -/
theorem bt_an {cm : Int32} {o j : Nat} (ho : o < 31) (hj : j < 31) : bt (cm &&& (b1 o ^^^ (-1))) j = (bt cm j && !decide (j = o)) := by
  rw [bt_and, bt_xor, bt_b1 o j (by omega) (by omega), bt_m1 (by omega), Bool.xor_true]
theorem bt_or1 {cm : Int32} {o j : Nat} (ho : o < 31) (hj : j < 31) : bt (cm ||| b1 o) j = (bt cm j || decide (j = o)) := by
  rw [bt_or, bt_b1 o j (by omega) (by omega)]
section R3
variable {X : (Nat → Int32) × Nat} {mo : Bool} {G : Nat × Nat} {J : Nat → Nat → Int64} {R : Option Value → sm_M → Prop}
/-- a minus or a not before a value: x 33 or 4, its kind k -/
theorem r_pre {B : Nat → Nat} {n p m z w d kn o x d' : Nat} {cm : Int32} {c sg vb le gb wo : Nat → Nat} {T0 T : Nat → Nat → Int32} (hC : CT m z w d kn o cm c sg vb le gb wo T) (hW : pW m z w d kn o c sg vb le) (hd : d = 1 ∨ d = 2) (hk : kn < 64) (hx : (x = 33 ∧ d' = 2) ∨ (x = 4 ∧ d = 1 ∧ d' = 1)) (f : tpF B n p T0 T)
    (hQ : ∀ L wo', CT m z (w + 1) d' (kn + 1) o cm c (va_up sg w x) vb le gb wo' L → frR T0 L → tkF B n (plc B n p) L → R (some (.int 1)) (sM mo G L J)) :
    sm_wp X 238 0 [some (.ref 81), some (.int (zI (kdc x))), none] [] (sM mo G T J) R := by
  obtain ⟨hS, hB, hHC, hV⟩ := hC
  obtain ⟨hH, hc⟩ := hHC (by omega)
  obtain ⟨s1, s2, s3⟩ := hS
  obtain ⟨s4, s5, s6, s7, s8⟩ := s3 (by omega)
  have s8 := s8 (by omega)
  rw [if_neg (show ¬ d = 3 by omega)] at s7
  have wb : w ≤ 72 := by have := np_w sg w; have := hW.1; omega
  have x30 : ¬ x = 30 := by omega
  have od : on d = on d' := by rw [on_1 (by omega), on_1 (by omega)]
  have am0 : amc x = 0 := by unfold amc; rw [if_neg (by omega), if_neg (by omega)]
  have wx : wtc x = kdc x := by unfold wtc; rw [if_neg x30]
  have fU : frR T0 (up2 (up2 (up2 (up2 (up2 (up2 (up2 (up2 T 81 34 (zI (kn + 1))) 94 (384 + kn) (zI (kdc x))) 95 (384 + kn) (-1)) 96 (384 + kn) (-1)) 97 (384 + kn) 0) 103 w (zI (kdc x))) 104 w (zI (384 + kn))) 81 38 (zI (w + 1))) := fr_u (by unfold okc; omega) (fr_u (by unfold okc; omega) (fr_u (by unfold okc; omega) (fr_u (by unfold okc; omega) (fr_u (by unfold okc; omega) (fr_u (by unfold okc; omega) (fr_u (by unfold okc; omega) (fr_u (by unfold okc; omega) f.2.1)))))))
  have nB := rB_w (x := x) (g := kn) (rB_g (zI (kdc x)) (-1) (-1) 0 hB) (zI (384 + kn)) (fun _ => ⟨rfl, by omega, vs_a _ _ _, vs_a _ _ _, fun i hi e => by have := (hB.1 i hi).2.1; omega, fun j hj hs e => by have := ((hB.2.1 j hj).2 hs).2.1; omega⟩)
  rw [wx] at nB
  have fin : ∀ U, frR T0 U → U 81 21 = T 81 21 → U 81 34 = zI (kn + 1) → U 81 35 = zI z → U 81 38 = zI (w + 1) → U 81 42 = zI o → U 81 43 = (if bt cm o = true then 1 else 0) → U 81 44 = 1 → U 81 45 = (if d' = 1 then 1 else 0) → U 81 40 = T 81 40 → U 94 = va_up (T 94) (384 + kn) (zI (kdc x)) → U 95 = va_up (T 95) (384 + kn) (-1) → U 96 = va_up (T 96) (384 + kn) (-1) → U 97 = va_up (T 97) (384 + kn) 0 → U 103 = va_up (T 103) w (zI (kdc x)) → U 104 = va_up (T 104) w (zI (384 + kn)) → (∀ d, ¬ d = 81 → ¬ d = 94 → ¬ d = 95 → ¬ d = 96 → ¬ d = 97 → ¬ d = 103 → ¬ d = 104 → U d = T d) → sm_wp X 226 0 [some (.ref 81), none] [] (sM mo G U J) (fun v M => sm_wp X 238 34 [some (.ref 81), some (.int (zI (kdc x))), some (.int (zI (384 + kn)))] (v.toList ++ []) M R) := by
    intro U u0 u21 u34 u35 u38 u42 u43 u44 u45 u40 u94 u95 u96 u97 u103 u104 un
    refine r_tf f u0 u21 ?_
    intro L hL
    have tL := tkM_F hL
    simp only [tl_none]
    rw [lp_238_34]
    refine hQ L (va_up wo w kn) (CT_tk ⟨⟨u34, u35, fun _ => ⟨u38, u42, u43, by rw [if_neg (by omega)]; exact u44, fun _ => u45⟩⟩, ?_, fun _ => ⟨?_, ?_⟩, ?_⟩ hL) (fr_tk u0 hL) tL
    · rw [u94, u95, u96, u97, u103, u104, un 98 (by decide) (by decide) (by decide) (by decide) (by decide) (by decide) (by decide)]
      exact nB
    · rw [un 105 (by decide) (by decide) (by decide) (by decide) (by decide) (by decide) (by decide), u40]
      exact hH
    · rw [un 106 (by decide) (by decide) (by decide) (by decide) (by decide) (by decide) (by decide)]
      exact hc
    · rw [un 99 (by decide) (by decide) (by decide) (by decide) (by decide) (by decide) (by decide), un 100 (by decide) (by decide) (by decide) (by decide) (by decide) (by decide) (by decide), un 101 (by decide) (by decide) (by decide) (by decide) (by decide) (by decide) (by decide), un 102 (by decide) (by decide) (by decide) (by decide) (by decide) (by decide) (by decide)]
      exact ⟨fun i hi => hV.1 i (by omega), hV.2⟩
  have q13 : ∀ U, U = up2 (up2 (up2 (up2 (up2 (up2 (up2 (up2 T 81 34 (zI (kn + 1))) 94 (384 + kn) (zI (kdc x))) 95 (384 + kn) (-1)) 96 (384 + kn) (-1)) 97 (384 + kn) 0) 103 w (zI (kdc x))) 104 w (zI (384 + kn))) 81 38 (zI (w + 1)) → True := fun _ _ => trivial
  rw [lp_238_0, s1, if_pos (by rw [zIr_eq (c := 64) (by decide) (by omega)]; show ¬ kn = 64; omega), show (384 : Int32) + zI kn = zI (384 + kn) from zIl_add 384 kn, zI_vp (by omega), if_pos (by rw [zIl_le (c := 0) (by decide) (by omega)]; exact Nat.zero_le _), zI_cn (by omega), show zI kn + 1 = zI (kn + 1) from zIr_add 1 _, s4, zI_vp (by omega), zI_cn (by omega), show zI w + 1 = zI (w + 1) from zIr_add 1 _]
  refine ⟨by omega, by omega, ?_⟩
  rcases hx with ⟨rfl, rfl⟩ | ⟨rfl, rfl, rfl⟩
  · rw [if_neg (by decide)]
    refine fin _ (fr_u (by unfold okc; omega) fU) ?_ ?_ ?_ ?_ ?_ ?_ ?_ ?_ ?_ ?_ ?_ ?_ ?_ ?_ ?_ ?_
    · simp (decide := true) only [up2_ra, up2_rn, va_ap, ne_eq, if_false, if_true, not_false_eq_true]
    · simp (decide := true) only [up2_ra, up2_rn, va_ap, ne_eq, if_false, if_true, not_false_eq_true]
    · simp (decide := true) only [up2_ra, up2_rn, va_ap, ne_eq, if_false, if_true, not_false_eq_true]; exact s2
    · simp (decide := true) only [up2_ra, up2_rn, va_ap, ne_eq, if_false, if_true, not_false_eq_true]
    · simp (decide := true) only [up2_ra, up2_rn, va_ap, ne_eq, if_false, if_true, not_false_eq_true]; exact s5
    · simp (decide := true) only [up2_ra, up2_rn, va_ap, ne_eq, if_false, if_true, not_false_eq_true]; exact s6
    · simp (decide := true) only [up2_ra, up2_rn, va_ap, ne_eq, if_false, if_true, not_false_eq_true]; exact s7
    · simp (decide := true) only [up2_ra, up2_rn, va_ap, ne_eq, if_false, if_true, not_false_eq_true]
    · simp (decide := true) only [up2_ra, up2_rn, va_ap, ne_eq, if_false, if_true, not_false_eq_true]
    · simp (decide := true) only [up2_ra, up2_rn, ne_eq, not_false_eq_true]
    · simp (decide := true) only [up2_ra, up2_rn, ne_eq, not_false_eq_true]
    · simp (decide := true) only [up2_ra, up2_rn, ne_eq, not_false_eq_true]
    · simp (decide := true) only [up2_ra, up2_rn, ne_eq, not_false_eq_true]
    · simp (decide := true) only [up2_ra, up2_rn, ne_eq, not_false_eq_true]
    · simp (decide := true) only [up2_ra, up2_rn, ne_eq, not_false_eq_true]
    · exact fun d a b c e f g h => by simp only [up2_rn, ne_eq, a, b, c, e, f, g, h, not_false_eq_true]
  · rw [if_pos (by decide)]
    refine fin _ fU ?_ ?_ ?_ ?_ ?_ ?_ ?_ ?_ ?_ ?_ ?_ ?_ ?_ ?_ ?_ ?_
    · simp (decide := true) only [up2_ra, up2_rn, va_ap, ne_eq, if_false, if_true, not_false_eq_true]
    · simp (decide := true) only [up2_ra, up2_rn, va_ap, ne_eq, if_false, if_true, not_false_eq_true]
    · simp (decide := true) only [up2_ra, up2_rn, va_ap, ne_eq, if_false, if_true, not_false_eq_true]; exact s2
    · simp (decide := true) only [up2_ra, up2_rn, va_ap, ne_eq, if_false, if_true, not_false_eq_true]
    · simp (decide := true) only [up2_ra, up2_rn, va_ap, ne_eq, if_false, if_true, not_false_eq_true]; exact s5
    · simp (decide := true) only [up2_ra, up2_rn, va_ap, ne_eq, if_false, if_true, not_false_eq_true]; exact s6
    · simp (decide := true) only [up2_ra, up2_rn, va_ap, ne_eq, if_false, if_true, not_false_eq_true]; exact s7
    · simp (decide := true) only [up2_ra, up2_rn, va_ap, ne_eq, if_false, if_true, not_false_eq_true]; exact s8
    · simp (decide := true) only [up2_ra, up2_rn, va_ap, ne_eq, if_false, if_true, not_false_eq_true]
    · simp (decide := true) only [up2_ra, up2_rn, ne_eq, not_false_eq_true]
    · simp (decide := true) only [up2_ra, up2_rn, ne_eq, not_false_eq_true]
    · simp (decide := true) only [up2_ra, up2_rn, ne_eq, not_false_eq_true]
    · simp (decide := true) only [up2_ra, up2_rn, ne_eq, not_false_eq_true]
    · simp (decide := true) only [up2_ra, up2_rn, ne_eq, not_false_eq_true]
    · simp (decide := true) only [up2_ra, up2_rn, ne_eq, not_false_eq_true]
    · exact fun d a b c e f g h => by simp only [up2_rn, ne_eq, a, b, c, e, f, g, h, not_false_eq_true]
theorem r_neg {B : Nat → Nat} {n p m z w d kn o : Nat} {cm : Int32} {c sg vb le gb wo : Nat → Nat} {T0 T : Nat → Nat → Int32} (hC : CT m z w d kn o cm c sg vb le gb wo T) (hW : pW m z w d kn o c sg vb le) (hd : d = 1 ∨ d = 2) (hk : kn < 64) (h22 : T 81 22 = 3) (h23 : T 81 23 = zI 8) (f : tpF B n p T0 T)
    (hQ : ∀ L wo', CT m z (w + 1) 2 (kn + 1) o cm c (va_up sg w 33) vb le gb wo' L → frR T0 L → tkF B n (plc B n p) L → sm_wp X 234 30 [some (.ref 81), none] [] (sM mo G L J) R) : sm_wp X 234 30 [some (.ref 81), none] [] (sM mo G T J) R := by
  obtain ⟨s1, s2, s3⟩ := hC.1
  obtain ⟨s4, s5, s6, s7, s8⟩ := s3 (by omega)
  rw [if_neg (show ¬ d = 3 by omega)] at s7
  rw [lp_234_30, if_neg (by rw [s7]; decide), lp_235_0, if_pos (by rintro ⟨-, a⟩; rw [h23] at a; exact absurd a (by decide)), if_neg (fun e => e ⟨h22, h23⟩)]
  refine r_pre (x := 33) (d' := 2) hC hW hd hk (Or.inl ⟨rfl, rfl⟩) f (fun L wo' a b e => ?_)
  simp only [tl_some]
  rw [lp_235_85]
  refine ⟨Or.inr rfl, ?_⟩
  simp only [tl_some]
  rw [lp_234_43, if_pos (by decide)]
  exact hQ L wo' a b e
theorem r_not {B : Nat → Nat} {n p m z w kn o : Nat} {cm : Int32} {c sg vb le gb wo : Nat → Nat} {T0 T : Nat → Nat → Int32} (hC : CT m z w 1 kn o cm c sg vb le gb wo T) (hW : pW m z w 1 kn o c sg vb le) (hk : kn < 64) (h22 : T 81 22 = 1) (h23 : T 81 23 = zI 6) (f : tpF B n p T0 T)
    (hQ : ∀ L wo', CT m z (w + 1) 1 (kn + 1) o cm c (va_up sg w 4) vb le gb wo' L → frR T0 L → tkF B n (plc B n p) L → sm_wp X 234 30 [some (.ref 81), none] [] (sM mo G L J) R) : sm_wp X 234 30 [some (.ref 81), none] [] (sM mo G T J) R := by
  obtain ⟨s1, s2, s3⟩ := hC.1
  obtain ⟨s4, s5, s6, s7, s8⟩ := s3 (by omega)
  have s8 := s8 (by omega)
  rw [if_neg (by decide)] at s7
  rw [if_pos rfl] at s8
  rw [lp_234_30, if_neg (by rw [s7]; decide), lp_235_0, if_pos (by rintro ⟨a, -⟩; rw [h22] at a; exact absurd a (by decide)), if_pos (by rintro ⟨a, -⟩; rw [h22] at a; exact absurd a (by decide)), if_neg (fun e => e h22), if_neg (fun e => e h23), if_neg (by rw [s8]; decide)]
  refine r_pre (x := 4) (d' := 1) hC hW (Or.inl rfl) hk (Or.inr ⟨rfl, rfl, rfl⟩) f (fun L wo' a b e => ?_)
  simp only [tl_some]
  rw [lp_235_116]
  refine ⟨Or.inr rfl, ?_⟩
  simp only [tl_some]
  rw [lp_234_43, if_pos (by decide)]
  exact hQ L wo' a b e
/-- a parenthesis -/
theorem r_par {B : Nat → Nat} {n p m z w d kn o : Nat} {cm : Int32} {c sg vb le gb wo : Nat → Nat} {T0 T : Nat → Nat → Int32} (hC : CT m z w d kn o cm c sg vb le gb wo T) (hW : pW m z w d kn o c sg vb le) (hd : d = 1 ∨ d = 2) (ho : o < 8) (h22 : T 81 22 = 3) (h23 : T 81 23 = zI 40) (f : tpF B n p T0 T)
    (hQ : ∀ L wo', CT m z (w + 1) 1 kn (o + 1) (cm &&& (b1 (o + 1) ^^^ (-1))) c (va_up sg w 30) vb le gb wo' L → frR T0 L → tkF B n (plc B n p) L → sm_wp X 234 30 [some (.ref 81), none] [] (sM mo G L J) R) : sm_wp X 234 30 [some (.ref 81), none] [] (sM mo G T J) R := by
  obtain ⟨hS, hB, hHC, hV⟩ := hC
  obtain ⟨hH, hc⟩ := hHC (by omega)
  obtain ⟨s1, s2, s3⟩ := hS
  obtain ⟨s4, s5, s6, s7, s8⟩ := s3 (by omega)
  rw [if_neg (show ¬ d = 3 by omega)] at s7
  have wb : w ≤ 72 := by have := np_w sg w; have := hW.1; omega
  have od : on d = on 1 := by rw [on_1 (by omega), on_1 (by omega)]
  have nr : vp_nar .boolean (T 81 43) = (if bt cm o = true then 1 else 0) := by
    rw [s6]
    split <;> rfl
  rw [lp_234_30, if_neg (by rw [s7]; decide), lp_235_0, if_neg (fun e => e ⟨h22, h23⟩), s5, s4, if_pos (by rw [zIr_eq (c := 8) (by decide) (by omega)]; show ¬ o = 8; omega), zI_vp (by omega), zI_vp (by omega), zI_cn (by omega), zI_cn (by omega), nr, show zI o + 1 = zI (o + 1) from zIr_add 1 _, show zI w + 1 = zI (w + 1) from zIr_add 1 _]
  refine ⟨by omega, by omega, ?_⟩
  have fU : frR T0 (up2 (up2 (up2 (up2 (up2 (up2 (up2 T 106 o (if bt cm o = true then 1 else 0)) 81 42 (zI (o + 1))) 103 w 100) 104 w (-1)) 81 38 (zI (w + 1))) 81 43 0) 81 45 1) := fr_u (by unfold okc; omega) (fr_u (by unfold okc; omega) (fr_u (by unfold okc; omega) (fr_u (by unfold okc; omega) (fr_u (by unfold okc; omega) (fr_u (by unfold okc; omega) (fr_u (by unfold okc; omega) f.2.1))))))
  refine r_tf f fU (by simp (decide := true) only [up2_ra, up2_rn, va_ap, ne_eq, if_false, if_true, not_false_eq_true]) ?_
  intro L hL
  have tL := tkM_F hL
  simp only [tl_none]
  rw [lp_235_68]
  simp only [tl_some]
  rw [lp_234_43, if_pos (by decide)]
  refine hQ L (va_up wo w 0) (CT_tk ⟨⟨?_, ?_, fun _ => ⟨?_, ?_, ?_, ?_, fun _ => ?_⟩⟩, ?_, fun _ => ⟨?_, ?_⟩, ?_⟩ hL) (fr_tk fU hL) tL
  · simp (decide := true) only [up2_ra, up2_rn, va_ap, ne_eq, if_false, if_true, not_false_eq_true]; exact s1
  · simp (decide := true) only [up2_ra, up2_rn, va_ap, ne_eq, if_false, if_true, not_false_eq_true]; exact s2
  · simp (decide := true) only [up2_ra, up2_rn, va_ap, ne_eq, if_false, if_true, not_false_eq_true]
  · simp (decide := true) only [up2_ra, up2_rn, va_ap, ne_eq, if_false, if_true, not_false_eq_true]
  · simp (decide := true) only [up2_ra, up2_rn, va_ap, ne_eq, if_false, if_true, not_false_eq_true]
    rw [bt_an (by omega) (by omega), decide_eq_true rfl]
    cases bt cm (o + 1) <;> rfl
  · simp (decide := true) only [up2_ra, up2_rn, va_ap, ne_eq, if_false, if_true, not_false_eq_true]; exact s7
  · simp (decide := true) only [up2_ra, up2_rn, va_ap, ne_eq, if_false, if_true, not_false_eq_true]
  · simp (decide := true) only [up2_ra, up2_rn, ne_eq, not_false_eq_true]
    exact rB_w (x := 30) (g := 0) hB (-1) (fun e => absurd rfl e)
  · simp (decide := true) only [up2_ra, up2_rn, va_ap, ne_eq, if_false, if_true, not_false_eq_true]
    exact hH
  · simp (decide := true) only [up2_ra, up2_rn, ne_eq, not_false_eq_true]
    intro j hj
    rw [bt_an (by omega) (by omega)]
    have : (!decide (j = o + 1)) = true := by rw [decide_eq_false (by omega)]; rfl
    rw [this, Bool.and_true]
    by_cases e : j = o
    · rw [e, vs_a]
    · rw [vs_n _ _ e]; exact hc j (by omega)
  · simp (decide := true) only [up2_ra, up2_rn, va_ap, ne_eq, if_false, if_true, not_false_eq_true]
    exact ⟨fun i hi => hV.1 i (by omega), hV.2⟩
/-- faults -/
theorem r_vf {d z w kn o : Nat} {cm : Int32} {T : Nat → Nat → Int32} (hS : rS (T 81) z w d kn o cm) (hd : d = 1 ∨ d = 2) (ho : o ≤ 8) (hk : kn ≤ 64) {q t e : Nat} {B : Nat → Nat} (hT : tkR B q t e (T 81 22) (T 81 23)) (hR : ∀ f : Nat, ((f = 1 ∧ ¬ t = 36 ∧ ¬ (7 ≤ t ∧ t < 19) ∧ ¬ t = 30 ∧ ¬ t = 20 ∧ ¬ (t = 4 ∧ d = 1)) ∨ (f = 2 ∧ ((t = 36 ∧ 99999 < nuC B q (e - q)) ∨ (t = 30 ∧ o = 8) ∨ (kn = 64 ∧ ((t = 36 ∧ nuC B q (e - q) ≤ 99999) ∨ (7 ≤ t ∧ t < 19) ∨ t = 20 ∨ (t = 4 ∧ d = 1)))))) → R (some (.int 0)) (sM mo G (up2 (up2 T 81 18 (zI f)) 81 19 (T 81 24)) J))
    (hF : (¬ t = 36 ∧ ¬ (7 ≤ t ∧ t < 19) ∧ ¬ t = 30 ∧ ¬ t = 20 ∧ ¬ (t = 4 ∧ d = 1)) ∨ ((t = 36 ∧ 99999 < nuC B q (e - q)) ∨ (t = 30 ∧ o = 8) ∨ (kn = 64 ∧ ((t = 36 ∧ nuC B q (e - q) ≤ 99999) ∨ (7 ≤ t ∧ t < 19) ∨ t = 20 ∨ (t = 4 ∧ d = 1))))) : sm_wp X 234 30 [some (.ref 81), none] [] (sM mo G T J) R := by
  obtain ⟨s1, s2, s3⟩ := hS
  obtain ⟨s4, s5, s6, s7, s8⟩ := s3 (by omega)
  have s8 := s8 (by omega)
  rw [if_neg (show ¬ d = 3 by omega)] at s7
  have z43 : ∀ f : Nat, R (some (.int 0)) (sM mo G (up2 (up2 T 81 18 (zI f)) 81 19 (T 81 24)) J) → sm_wp X 234 43 [some (.ref 81), some (.int 1)] [.int 0] (sM mo G (up2 (up2 T 81 18 (zI f)) 81 19 (T 81 24)) J) R := fun f h => by
    rw [lp_234_43, if_neg (fun e => e rfl)]; exact h
  have k64 : kn = 64 → T 81 34 = 64 := fun e => by rw [s1, e]; rfl
  rw [lp_234_30, if_neg (by rw [s7]; decide), lp_235_0]
  simp only [tl_some]
  rcases hT with ⟨rfl, a⟩ | ⟨a0, a, b⟩ | ⟨a0, a1, a, b⟩ | ⟨rfl, a⟩ | ⟨rfl, a, b⟩
  · -- the end
    rw [if_pos (by rintro ⟨x, -⟩; rw [a] at x; exact absurd x (by decide)), if_pos (by rintro ⟨x, -⟩; rw [a] at x; exact absurd x (by decide)), if_pos (by rw [a]; decide), if_neg (by rw [a]; decide)]
    exact z43 1 (hR 1 (Or.inl ⟨rfl, by omega, by omega, by omega, by omega, by omega⟩))
  · -- a word
    have p19 : prm t < 19 := by unfold prm; split <;> (try split) <;> omega
    rw [if_pos (by rintro ⟨x, -⟩; rw [a] at x; exact absurd x (by decide)), if_pos (by rintro ⟨x, -⟩; rw [a] at x; exact absurd x (by decide)), if_neg (fun e => e a), b]
    by_cases n7 : 7 ≤ t
    · have k : kn = 64 := by omega
      have pt : prm t = t := by unfold prm; rw [if_neg (by omega), if_neg (by omega)]
      rw [pt, if_pos (by rw [zIr_eq (c := 6) (by decide) (by omega)]; show ¬ t = 6; omega), if_neg (by rw [zIr_lt (c := 7) (by decide) (by omega)]; show ¬ t < 7; omega), if_neg (fun e => e (k64 k))]
      exact z43 2 (hR 2 (Or.inr ⟨rfl, by omega⟩))
    · by_cases n4 : t = 4
      · have pt : prm t = 6 := by rw [n4]; rfl
        rw [pt, if_neg (fun e => e rfl)]
        by_cases d1 : d = 1
        · have k : kn = 64 := by omega
          rw [if_pos d1] at s8
          rw [if_neg (by rw [s8]; decide), lp_238_0, if_neg (fun e => e (k64 k))]
          simp only [tl_some]
          rw [lp_235_116]
          refine ⟨Or.inl rfl, ?_⟩
          exact z43 2 (hR 2 (Or.inr ⟨rfl, by omega⟩))
        · rw [if_neg d1] at s8
          rw [if_pos s8, if_pos (by decide), if_neg (by rw [a]; decide)]
          exact z43 1 (hR 1 (Or.inl ⟨rfl, by omega, by omega, by omega, by omega, by omega⟩))
      · have pt : ¬ prm t = 6 ∧ prm t < 7 := by unfold prm; rw [if_neg n4]; split <;> omega
        rw [if_pos (by rw [zIr_eq (c := 6) (by decide) (by omega)]; exact pt.1), if_pos (by rw [zIr_lt (c := 7) (by decide) (by omega)]; exact pt.2), if_neg (by rw [a]; decide)]
        exact z43 1 (hR 1 (Or.inl ⟨rfl, by omega, by omega, by omega, by omega, by omega⟩))
  · -- a sign
    have s100 : sgW t < 100 := by unfold sgW; split <;> (try split) <;> (try split) <;> (try split) <;> omega
    by_cases n30 : t = 30
    · have o8 : o = 8 := by omega
      rw [if_neg (fun e => e ⟨a, by rw [b, n30]; rfl⟩), if_neg (fun e => e (by rw [s5, o8]; rfl))]
      exact z43 2 (hR 2 (Or.inr ⟨rfl, by omega⟩))
    · have s40 : ¬ sgW t = 40 := by unfold sgW; split <;> (try split) <;> (try split) <;> (try split) <;> omega
      rw [if_pos (by rintro ⟨-, x⟩; rw [b, zIr_eq (c := 40) (by decide) (by omega)] at x; exact s40 x)]
      by_cases n20 : t = 20
      · have k : kn = 64 := by omega
        rw [if_neg (fun e => e ⟨a, by rw [b, n20]; rfl⟩), lp_238_0, if_neg (fun e => e (k64 k))]
        simp only [tl_some]
        rw [lp_235_85]
        refine ⟨Or.inl rfl, ?_⟩
        exact z43 2 (hR 2 (Or.inr ⟨rfl, by omega⟩))
      · have s8' : ¬ sgW t = 8 := by unfold sgW; split <;> (try split) <;> (try split) <;> (try split) <;> omega
        rw [if_pos (by rintro ⟨-, x⟩; rw [b, zIr_eq (c := 8) (by decide) (by omega)] at x; exact s8' x), if_pos (by rw [a]; decide), if_neg (by rw [a]; decide)]
        exact z43 1 (hR 1 (Or.inl ⟨rfl, by omega, by omega, by omega, by omega, by omega⟩))
  · rw [if_pos (by rintro ⟨x, -⟩; rw [a] at x; exact absurd x (by decide)), if_pos (by rintro ⟨x, -⟩; rw [a] at x; exact absurd x (by decide)), if_pos (by rw [a]; decide), if_neg (by rw [a]; decide)]
    exact z43 1 (hR 1 (Or.inl ⟨rfl, by omega, by omega, by omega, by omega, by omega⟩))
  · rw [if_pos (by rintro ⟨x, -⟩; rw [a] at x; exact absurd x (by decide)), if_pos (by rintro ⟨x, -⟩; rw [a] at x; exact absurd x (by decide)), if_pos (by rw [a]; decide), if_pos a]
    rcases b with ⟨b1, b2⟩ | ⟨b1, b2⟩
    · have k : kn = 64 := by omega
      rw [if_pos (by rw [b2, zIr_le (c := 99999) (by decide) (by omega)]; exact b1), if_neg (fun e => e (k64 k))]
      exact z43 2 (hR 2 (Or.inr ⟨rfl, by omega⟩))
    · rw [if_neg b2]
      exact z43 2 (hR 2 (Or.inr ⟨rfl, by omega⟩))
end R3
