section
/-! The class's next token. -/
theorem sgC_b (b c : Nat) : (sgC b c).1 ≤ 35 := by
  unfold sgC
  by_cases h37 : b = 37
  · rw [if_pos h37]; decide
  rw [if_neg h37]
  by_cases h40 : b = 40
  · rw [if_pos h40]; decide
  rw [if_neg h40]
  by_cases h41 : b = 41
  · rw [if_pos h41]; decide
  rw [if_neg h41]
  by_cases h42 : b = 42
  · rw [if_pos h42]; decide
  rw [if_neg h42]
  by_cases h43 : b = 43
  · rw [if_pos h43]; decide
  rw [if_neg h43]
  by_cases h45 : b = 45
  · rw [if_pos h45]; decide
  rw [if_neg h45]
  by_cases h47 : b = 47
  · rw [if_pos h47]; decide
  rw [if_neg h47]
  by_cases h59 : b = 59
  · rw [if_pos h59]; decide
  rw [if_neg h59]
  by_cases h60 : b = 60
  · rw [if_pos h60]
    by_cases k1 : c = 61
    · rw [if_pos k1]; decide
    rw [if_neg k1]
    by_cases k2 : c = 62
    · rw [if_pos k2]; decide
    rw [if_neg k2]; decide
  rw [if_neg h60]
  by_cases h61 : b = 61
  · rw [if_pos h61]; decide
  rw [if_neg h61]
  by_cases h62 : b = 62
  · rw [if_pos h62]
    by_cases k1 : c = 61
    · rw [if_pos k1]; decide
    rw [if_neg k1]; decide
  rw [if_neg h62]
  decide
section K2
variable {X : (Nat → Int32) × Nat} {mo : Bool} {G : Nat × Nat} {I : Nat → Nat → Int32} {J : Nat → Nat → Int64} {Q : Option Value → sm_M → Prop}
/-- what a token leaves of the tape -/
def tkL (B : Nat → Nat) (n q : Nat) (I L : Nat → Nat → Int32) : Prop := (∀ c, c ≠ 14 → L c = I c) ∧ (∀ j, j ≠ 1 → j ≠ 5 → j ≠ 2 → L 14 j = I 14 j) ∧ L 14 1 = zI q ∧ L 14 5 = zI (tkN B n q).2 ∧ ((tkN B n q).1 = 36 → L 14 2 = zI (nuC B q ((tkN B n q).2 - q)))
theorem tk_1 {B : Nat → Nat} {n q : Nat} (hT : tpC B (I 15)) (h4 : I 14 4 = zI n) (hn : n ≤ 400) (h5 : I 14 5 = zI q) (hq : q < n) (hnb : ¬ isBl B q = true) (hQ : ∀ L, tkL B n q I L → Q (some (.int (zI (tkN B n q).1))) (sM mo G L J)) :
    sm_wp X 156 0 [some (.ref 14), none] [] (sM mo G I J) Q := by
  rw [lp_156_0, if_neg (by rw [h4, h5, zI_le (by omega) (by omega)]; omega), if_pos (by rw [h5]; exact fun e => hnb ((byt_B hT h4 hn hq).mp e)), if_pos (by rw [h4, h5, zI_lt (by omega) (by omega)]; exact hq), h5]
  generalize hM : up2 I 14 1 (zI q) = M0
  have a1 : ∀ c, c ≠ 14 → M0 c = I c := fun c hc => by rw [← hM, up2_rn _ _ _ _ _ hc]
  have aj : ∀ j, j ≠ 1 → M0 14 j = I 14 j := fun j hj => by rw [← hM, up2_ra, va_ap, if_neg hj]
  have a11 : M0 14 1 = zI q := by rw [← hM]; exact up2_ss
  have T0 : tpC B (M0 15) := by rw [a1 15 (by decide)]; exact hT
  have e4 : M0 14 4 = zI n := by rw [aj 4 (by decide)]; exact h4
  have un : tkN B n q = if isLt B q = true then (wcd B q (sp (isLt B) (n - q) q), sp (isLt B) (n - q) q) else if isDt B q = true then (36, sp (isDt B) (n - q) q) else ((sgC (B q) (nxB B n q)).1, q + (sgC (B q) (nxB B n q)).2) := by
    unfold tkN
    rw [if_neg (by omega)]
  by_cases gl : isLt B q = true
  · rw [if_pos gl] at un
    rw [if_neg (fun c => c ((byt_L T0 e4 hn hq).mpr gl))]
    refine ct_160 (I := M0) (B := B) (n := n) (q := q) T0 e4 hn a11 (n - q) q (by omega) (Nat.le_refl _) M0 (fun _ _ => rfl) (fun _ _ => rfl) (by rw [aj 5 (by decide)]; exact h5) ?_
    intro L l1 lj l5
    simp only [tl_some]
    rw [lp_156_80]
    have q0 := hQ L ⟨fun c hc => (l1 c hc).trans (a1 c hc), fun j b1 b2 b3 => (lj j b2).trans (aj j b1), (lj 1 (by decide)).trans a11, by rw [un]; exact l5, fun e => ?_⟩
    · rw [un] at q0
      exact q0
    · exfalso
      rw [un] at e
      have w := wds (p := fun w => pB (mtc B q (sp (isLt B) (n - q) q) w)) mtc_u
      have e' : fi (fun w => pB (mtc B q (sp (isLt B) (n - q) q) w)) wC 0 35 = 36 := e
      rcases w with ⟨w1, -⟩ | ⟨i, hi, w1, -⟩
      · rw [w1] at e'; cases e'
      · rw [w1] at e'; omega
  · rw [if_neg gl] at un
    rw [if_pos (fun c => gl ((byt_L T0 e4 hn hq).mp c))]
    by_cases gd : isDt B q = true
    · rw [if_pos gd] at un
      rw [if_neg (fun c => c ((byt_D T0 e4 hn hq).mpr gd)), lp_162_0]
      refine ct_162 (I := M0) (B := B) (n := n) (q := q) T0 e4 hn (n - q) 0 (by omega) (up2 M0 14 2 0) (fun c hc => up2_rn _ _ _ _ _ hc) (fun j b1 b2 => by rw [up2_ra, va_ap, if_neg b2]) (by rw [up2_ra, va_ap, if_neg (by decide), aj 5 (by decide)]; exact h5) up2_ss ?_
      intro L l1 lj l5 l2
      simp only [tl_some]
      rw [lp_156_92]
      have q0 := hQ L ⟨fun c hc => (l1 c hc).trans (a1 c hc), fun j b1 b2 b3 => (lj j b2 b3).trans (aj j b1), (lj 1 (by decide) (by decide)).trans a11, by rw [un]; exact l5, fun _ => by rw [un]; exact l2⟩
      rw [un] at q0
      exact q0
    · rw [if_neg gd] at un
      rw [if_pos (fun c => gd ((byt_D T0 e4 hn hq).mp c)), show zI q + 1 = zI (q + 1) from zIr_add 1 q]
      have hb : ∀ c, c < 128 → (vf_Tape_byteAt M0 (zI q) = zI c ↔ B q = c) := fun c hc => byt_e T0 e4 hn hq hc
      generalize hM1 : up2 M0 14 5 (zI (q + 1)) = M1
      have m1 : ∀ c, c ≠ 14 → M1 c = M0 c := fun c hc => by rw [← hM1, up2_rn _ _ _ _ _ hc]
      have m1j : ∀ j, j ≠ 1 → j ≠ 5 → M1 14 j = M0 14 j := fun j _ b => by rw [← hM1, up2_ra, va_ap, if_neg b]
      have m15 : M1 14 5 = zI (q + 1) := by rw [← hM1]; exact up2_ss
      have m11 : M1 14 1 = zI q := by rw [← hM1, up2_ra, va_ap, if_neg (by decide)]; exact a11
      have T1 : tpC B (M1 15) := by rw [m1 15 (by decide)]; exact T0
      have e41 : M1 14 4 = zI n := by rw [m1j 4 (by decide) (by decide)]; exact e4
      have e2 : zI (q + 1) + 1 = zI (q + 2) := zIr_add 1 _
      have hb2 : q + 1 < n → ∀ c, c < 128 → (vf_Tape_byteAt M1 (zI (q + 1)) = zI c ↔ B (q + 1) = c) := fun g c hc => byt_e T1 e41 hn g hc
      have fin : ∀ c l, sgC (B q) (nxB B n q) = (c, l) → ∀ L : Nat → Nat → Int32, (∀ d, d ≠ 14 → L d = M0 d) → (∀ j, j ≠ 1 → j ≠ 5 → L 14 j = M0 14 j) → L 14 5 = zI (q + l) → L 14 1 = zI q → Q (some (.int (zI c))) (sM mo G L J) := by
        intro c l hs L b1 b2 b3 b4
        rw [hs] at un
        have q0 := hQ L ⟨fun c hc => (b1 c hc).trans (a1 c hc), fun j d1 d2 d3 => (b2 j d1 d2).trans (aj j d1), b4, by rw [un]; exact b3, fun e => ?_⟩
        · rw [un] at q0
          exact q0
        · exfalso
          have := sgC_b (B q) (nxB B n q)
          rw [hs] at this
          rw [un] at e
          have e' : c = 36 := e
          have this' : c ≤ 35 := this
          omega
      by_cases g37 : B q = 37
      · rw [if_pos (show vf_Tape_byteAt M0 (zI q) = 37 from (hb 37 (by decide)).mpr g37)]
        exact fin 23 1 (by unfold sgC; rw [if_pos g37]) _ m1 (fun j a b => m1j j a b) m15 m11
      rw [if_neg (show ¬ vf_Tape_byteAt M0 (zI q) = 37 from fun e => g37 ((hb 37 (by decide)).mp e))]
      by_cases g40 : B q = 40
      · rw [if_pos (show vf_Tape_byteAt M0 (zI q) = 40 from (hb 40 (by decide)).mpr g40)]
        exact fin 30 1 (by unfold sgC; rw [if_neg g37, if_pos g40]) _ m1 (fun j a b => m1j j a b) m15 m11
      rw [if_neg (show ¬ vf_Tape_byteAt M0 (zI q) = 40 from fun e => g40 ((hb 40 (by decide)).mp e))]
      by_cases g41 : B q = 41
      · rw [if_pos (show vf_Tape_byteAt M0 (zI q) = 41 from (hb 41 (by decide)).mpr g41)]
        exact fin 31 1 (by unfold sgC; rw [if_neg g37, if_neg g40, if_pos g41]) _ m1 (fun j a b => m1j j a b) m15 m11
      rw [if_neg (show ¬ vf_Tape_byteAt M0 (zI q) = 41 from fun e => g41 ((hb 41 (by decide)).mp e))]
      by_cases g42 : B q = 42
      · rw [if_pos (show vf_Tape_byteAt M0 (zI q) = 42 from (hb 42 (by decide)).mpr g42)]
        exact fin 21 1 (by unfold sgC; rw [if_neg g37, if_neg g40, if_neg g41, if_pos g42]) _ m1 (fun j a b => m1j j a b) m15 m11
      rw [if_neg (show ¬ vf_Tape_byteAt M0 (zI q) = 42 from fun e => g42 ((hb 42 (by decide)).mp e))]
      by_cases g43 : B q = 43
      · rw [if_pos (show vf_Tape_byteAt M0 (zI q) = 43 from (hb 43 (by decide)).mpr g43)]
        exact fin 19 1 (by unfold sgC; rw [if_neg g37, if_neg g40, if_neg g41, if_neg g42, if_pos g43]) _ m1 (fun j a b => m1j j a b) m15 m11
      rw [if_neg (show ¬ vf_Tape_byteAt M0 (zI q) = 43 from fun e => g43 ((hb 43 (by decide)).mp e))]
      by_cases g45 : B q = 45
      · rw [if_pos (show vf_Tape_byteAt M0 (zI q) = 45 from (hb 45 (by decide)).mpr g45)]
        exact fin 20 1 (by unfold sgC; rw [if_neg g37, if_neg g40, if_neg g41, if_neg g42, if_neg g43, if_pos g45]) _ m1 (fun j a b => m1j j a b) m15 m11
      rw [if_neg (show ¬ vf_Tape_byteAt M0 (zI q) = 45 from fun e => g45 ((hb 45 (by decide)).mp e))]
      by_cases g47 : B q = 47
      · rw [if_pos (show vf_Tape_byteAt M0 (zI q) = 47 from (hb 47 (by decide)).mpr g47)]
        exact fin 22 1 (by unfold sgC; rw [if_neg g37, if_neg g40, if_neg g41, if_neg g42, if_neg g43, if_neg g45, if_pos g47]) _ m1 (fun j a b => m1j j a b) m15 m11
      rw [if_neg (show ¬ vf_Tape_byteAt M0 (zI q) = 47 from fun e => g47 ((hb 47 (by decide)).mp e))]
      by_cases g59 : B q = 59
      · rw [if_pos (show vf_Tape_byteAt M0 (zI q) = 59 from (hb 59 (by decide)).mpr g59)]
        exact fin 32 1 (by unfold sgC; rw [if_neg g37, if_neg g40, if_neg g41, if_neg g42, if_neg g43, if_neg g45, if_neg g47, if_pos g59]) _ m1 (fun j a b => m1j j a b) m15 m11
      rw [if_neg (show ¬ vf_Tape_byteAt M0 (zI q) = 59 from fun e => g59 ((hb 59 (by decide)).mp e))]
      by_cases g60 : B q = 60
      · rw [if_pos (show vf_Tape_byteAt M0 (zI q) = 60 from (hb 60 (by decide)).mpr g60)]
        by_cases gn : q + 1 < n
        · rw [if_neg (by rw [h4, zI_le (by omega) (by omega)]; omega)]
          have nx : nxB B n q = B (q + 1) := by unfold nxB; rw [if_pos gn]
          by_cases k61 : B (q + 1) = 61
          · rw [if_pos (show vf_Tape_byteAt M1 (zI (q + 1)) = 61 from (hb2 gn 61 (by decide)).mpr k61)]
            exact fin 25 2 (by rw [nx]; unfold sgC; rw [if_neg g37, if_neg g40, if_neg g41, if_neg g42, if_neg g43, if_neg g45, if_neg g47, if_neg g59, if_pos g60]; rw [if_pos k61]) _ (fun c hc => by rw [up2_rn _ _ _ _ _ hc]; exact m1 c hc) (fun j a b => by rw [up2_ra, va_ap, if_neg b]; exact m1j j a b) (by rw [up2_ra, va_ap, if_pos rfl]; exact e2) (by rw [up2_ra, va_ap, if_neg (by decide)]; exact m11)
          rw [if_neg (show ¬ vf_Tape_byteAt M1 (zI (q + 1)) = 61 from fun e => k61 ((hb2 gn 61 (by decide)).mp e))]
          by_cases k62 : B (q + 1) = 62
          · rw [if_pos (show vf_Tape_byteAt M1 (zI (q + 1)) = 62 from (hb2 gn 62 (by decide)).mpr k62)]
            exact fin 27 2 (by rw [nx]; unfold sgC; rw [if_neg g37, if_neg g40, if_neg g41, if_neg g42, if_neg g43, if_neg g45, if_neg g47, if_neg g59, if_pos g60]; rw [if_neg k61, if_pos k62]) _ (fun c hc => by rw [up2_rn _ _ _ _ _ hc]; exact m1 c hc) (fun j a b => by rw [up2_ra, va_ap, if_neg b]; exact m1j j a b) (by rw [up2_ra, va_ap, if_pos rfl]; exact e2) (by rw [up2_ra, va_ap, if_neg (by decide)]; exact m11)
          rw [if_neg (show ¬ vf_Tape_byteAt M1 (zI (q + 1)) = 62 from fun e => k62 ((hb2 gn 62 (by decide)).mp e))]
          exact fin 24 1 (by rw [nx]; unfold sgC; rw [if_neg g37, if_neg g40, if_neg g41, if_neg g42, if_neg g43, if_neg g45, if_neg g47, if_neg g59, if_pos g60]; rw [if_neg k61, if_neg k62]) _ m1 (fun j a b => m1j j a b) m15 m11
        · rw [if_pos (by rw [h4, zI_le (by omega) (by omega)]; omega)]
          have nx : nxB B n q = 0 := by unfold nxB; rw [if_neg gn]
          exact fin 24 1 (by rw [nx]; unfold sgC; rw [if_neg g37, if_neg g40, if_neg g41, if_neg g42, if_neg g43, if_neg g45, if_neg g47, if_neg g59, if_pos g60]; rfl) _ m1 (fun j a b => m1j j a b) m15 m11
      rw [if_neg (show ¬ vf_Tape_byteAt M0 (zI q) = 60 from fun e => g60 ((hb 60 (by decide)).mp e))]
      by_cases g61 : B q = 61
      · rw [if_pos (show vf_Tape_byteAt M0 (zI q) = 61 from (hb 61 (by decide)).mpr g61)]
        exact fin 26 1 (by unfold sgC; rw [if_neg g37, if_neg g40, if_neg g41, if_neg g42, if_neg g43, if_neg g45, if_neg g47, if_neg g59, if_neg g60, if_pos g61]) _ m1 (fun j a b => m1j j a b) m15 m11
      rw [if_neg (show ¬ vf_Tape_byteAt M0 (zI q) = 61 from fun e => g61 ((hb 61 (by decide)).mp e))]
      by_cases g62 : B q = 62
      · rw [if_pos (show vf_Tape_byteAt M0 (zI q) = 62 from (hb 62 (by decide)).mpr g62)]
        by_cases gn : q + 1 < n
        · rw [if_neg (by rw [h4, zI_le (by omega) (by omega)]; omega)]
          have nx : nxB B n q = B (q + 1) := by unfold nxB; rw [if_pos gn]
          by_cases k61 : B (q + 1) = 61
          · rw [if_pos (show vf_Tape_byteAt M1 (zI (q + 1)) = 61 from (hb2 gn 61 (by decide)).mpr k61)]
            exact fin 28 2 (by rw [nx]; unfold sgC; rw [if_neg g37, if_neg g40, if_neg g41, if_neg g42, if_neg g43, if_neg g45, if_neg g47, if_neg g59, if_neg g60, if_neg g61, if_pos g62]; rw [if_pos k61]) _ (fun c hc => by rw [up2_rn _ _ _ _ _ hc]; exact m1 c hc) (fun j a b => by rw [up2_ra, va_ap, if_neg b]; exact m1j j a b) (by rw [up2_ra, va_ap, if_pos rfl]; exact e2) (by rw [up2_ra, va_ap, if_neg (by decide)]; exact m11)
          rw [if_neg (show ¬ vf_Tape_byteAt M1 (zI (q + 1)) = 61 from fun e => k61 ((hb2 gn 61 (by decide)).mp e))]
          exact fin 29 1 (by rw [nx]; unfold sgC; rw [if_neg g37, if_neg g40, if_neg g41, if_neg g42, if_neg g43, if_neg g45, if_neg g47, if_neg g59, if_neg g60, if_neg g61, if_pos g62]; rw [if_neg k61]) _ m1 (fun j a b => m1j j a b) m15 m11
        · rw [if_pos (by rw [h4, zI_le (by omega) (by omega)]; omega)]
          have nx : nxB B n q = 0 := by unfold nxB; rw [if_neg gn]
          exact fin 29 1 (by rw [nx]; unfold sgC; rw [if_neg g37, if_neg g40, if_neg g41, if_neg g42, if_neg g43, if_neg g45, if_neg g47, if_neg g59, if_neg g60, if_neg g61, if_pos g62]; rfl) _ m1 (fun j a b => m1j j a b) m15 m11
      rw [if_neg (show ¬ vf_Tape_byteAt M0 (zI q) = 62 from fun e => g62 ((hb 62 (by decide)).mp e))]
      exact fin 35 1 (by unfold sgC; rw [if_neg g37, if_neg g40, if_neg g41, if_neg g42, if_neg g43, if_neg g45, if_neg g47, if_neg g59, if_neg g60, if_neg g61, if_neg g62]) _ m1 (fun j a b => m1j j a b) m15 m11
theorem ct_156 {B : Nat → Nat} {n : Nat} (hT : tpC B (I 15)) (h4 : I 14 4 = zI n) (hn : n ≤ 400) : ∀ f p, p + f = n → ∀ K, (∀ c, c ≠ 14 → K c = I c) → (∀ j, j ≠ 5 → K 14 j = I 14 j) → K 14 5 = zI p → (∀ L, tkL B n (sp (isBl B) f p) I L → Q (some (.int (zI (tkN B n (sp (isBl B) f p)).1))) (sM mo G L J)) → sm_wp X 156 0 [some (.ref 14), none] [] (sM mo G K J) Q := by
  intro f
  induction f with
  | zero =>
    intro p hf K k1 kj k5 hQ
    have e4 : K 14 4 = zI n := by rw [kj 4 (by decide)]; exact h4
    have un : tkN B n p = (34, p) := by unfold tkN; rw [if_pos (by omega)]
    rw [lp_156_0, if_pos (by rw [e4, k5, zI_le (by omega) (by omega)]; omega), if_neg (by rw [e4, k5, zI_lt (by omega) (by omega)]; omega)]
    have q0 := hQ (up2 K 14 1 (K 14 5)) ⟨fun c hc => by rw [up2_rn _ _ _ _ _ hc]; exact k1 c hc, fun j b1 b2 b3 => by rw [up2_ra, va_ap, if_neg b1]; exact kj j b2, by rw [up2_ra, va_ap, if_pos rfl]; exact k5, by rw [up2_ra, va_ap, if_neg (by decide)]; show K 14 5 = zI (tkN B n p).2; rw [un]; exact k5, fun e => by
      have e' : (tkN B n p).1 = 36 := e
      rw [un] at e'; cases e'⟩
    have q1 : Q (some (.int (zI (tkN B n p).1))) (sM mo G (up2 K 14 1 (K 14 5)) J) := q0
    rw [un] at q1
    exact q1
  | succ f ih =>
    intro p hf K k1 kj k5 hQ
    have e4 : K 14 4 = zI n := by rw [kj 4 (by decide)]; exact h4
    have T : tpC B (K 15) := by rw [k1 15 (by decide)]; exact hT
    have un : sp (isBl B) (f + 1) p = if isBl B p = true then sp (isBl B) f (p + 1) else p := rfl
    by_cases g : isBl B p = true
    · rw [if_pos g] at un
      rw [un] at hQ
      rw [lp_156_0, if_neg (by rw [e4, k5, zI_le (by omega) (by omega)]; omega), if_neg (by rw [k5]; exact fun e => e ((byt_B T e4 hn (by omega)).mpr g)), k5, show zI p + 1 = zI (p + 1) from zIr_add 1 p]
      exact ih (p + 1) (by omega) _ (fun c hc => by rw [up2_rn _ _ _ _ _ hc]; exact k1 c hc) (fun j hj => by rw [up2_ra, va_ap, if_neg hj]; exact kj j hj) up2_ss hQ
    · rw [if_neg g] at un
      rw [un] at hQ
      refine tk_1 T e4 hn k5 (by omega) g (fun L hL => hQ L ?_)
      obtain ⟨l1, l2, l3, l4, l5⟩ := hL
      exact ⟨fun c hc => (l1 c hc).trans (k1 c hc), fun j b1 b2 b3 => (l2 j b1 b2 b3).trans (kj j b2), l3, l4, l5⟩
end K2
end
section
/-! The reference's tokens. -/
def sgW (t : Nat) : Nat := if t < 24 then t - 12 else if t < 30 then t - 23 else if t = 30 then 40 else if t = 31 then 41 else 59
/-- a sign by its code: the reference's number; two bytes long just where it is 2, 4 or 5 -/
theorem sg_rel {M : Nat → Nat → Int32} {b c : Nat} (hb : b < 256) (h61 : vf_Model_isAt M (M 81 21) 61 ↔ c = 61) (h62 : vf_Model_isAt M (M 81 21) 62 ↔ c = 62) : (vf_Model_signOf M (zI b) = -1 ∧ sgC b c = (35, 1)) ∨ ∃ t l, sgC b c = (t, l) ∧ 19 ≤ t ∧ t ≤ 32 ∧ vf_Model_signOf M (zI b) = zI (sgW t) ∧ ((l = 2 ∧ (sgW t = 2 ∨ sgW t = 4 ∨ sgW t = 5)) ∨ (l = 1 ∧ ¬ sgW t = 2 ∧ ¬ sgW t = 4 ∧ ¬ sgW t = 5)) := by
  by_cases g37 : b = 37
  · subst g37
    refine Or.inr ⟨23, 1, by unfold sgC; rw [if_pos rfl], by decide, by decide, by unfold vf_Model_signOf; rw [if_pos (show ¬ zI 37 = 60 from by decide), if_pos (show ¬ zI 37 = 62 from by decide), if_pos (show ¬ zI 37 = 61 from by decide), if_pos (show ¬ zI 37 = 43 from by decide), if_pos (show ¬ zI 37 = 45 from by decide), if_pos (show ¬ zI 37 = 42 from by decide), if_pos (show ¬ zI 37 = 47 from by decide), if_neg (fun e => e (show zI 37 = 37 from rfl))]; rfl, by decide⟩
  by_cases g40 : b = 40
  · subst g40
    refine Or.inr ⟨30, 1, by unfold sgC; rw [if_neg (show ¬ 40 = 37 from by decide), if_pos rfl], by decide, by decide, by unfold vf_Model_signOf; rw [if_pos (show ¬ zI 40 = 60 from by decide), if_pos (show ¬ zI 40 = 62 from by decide), if_pos (show ¬ zI 40 = 61 from by decide), if_pos (show ¬ zI 40 = 43 from by decide), if_pos (show ¬ zI 40 = 45 from by decide), if_pos (show ¬ zI 40 = 42 from by decide), if_pos (show ¬ zI 40 = 47 from by decide), if_pos (show ¬ zI 40 = 37 from by decide), if_neg (show ¬ zI 40 = 59 from by decide), if_pos (show zI 40 = 40 from rfl)]; rfl, by decide⟩
  by_cases g41 : b = 41
  · subst g41
    refine Or.inr ⟨31, 1, by unfold sgC; rw [if_neg (show ¬ 41 = 37 from by decide), if_neg (show ¬ 41 = 40 from by decide), if_pos rfl], by decide, by decide, by unfold vf_Model_signOf; rw [if_pos (show ¬ zI 41 = 60 from by decide), if_pos (show ¬ zI 41 = 62 from by decide), if_pos (show ¬ zI 41 = 61 from by decide), if_pos (show ¬ zI 41 = 43 from by decide), if_pos (show ¬ zI 41 = 45 from by decide), if_pos (show ¬ zI 41 = 42 from by decide), if_pos (show ¬ zI 41 = 47 from by decide), if_pos (show ¬ zI 41 = 37 from by decide), if_neg (show ¬ zI 41 = 59 from by decide), if_neg (show ¬ zI 41 = 40 from by decide), if_neg (fun e => e (show zI 41 = 41 from rfl))]; rfl, by decide⟩
  by_cases g42 : b = 42
  · subst g42
    refine Or.inr ⟨21, 1, by unfold sgC; rw [if_neg (show ¬ 42 = 37 from by decide), if_neg (show ¬ 42 = 40 from by decide), if_neg (show ¬ 42 = 41 from by decide), if_pos rfl], by decide, by decide, by unfold vf_Model_signOf; rw [if_pos (show ¬ zI 42 = 60 from by decide), if_pos (show ¬ zI 42 = 62 from by decide), if_pos (show ¬ zI 42 = 61 from by decide), if_pos (show ¬ zI 42 = 43 from by decide), if_pos (show ¬ zI 42 = 45 from by decide), if_neg (fun e => e (show zI 42 = 42 from rfl))]; rfl, by decide⟩
  by_cases g43 : b = 43
  · subst g43
    refine Or.inr ⟨19, 1, by unfold sgC; rw [if_neg (show ¬ 43 = 37 from by decide), if_neg (show ¬ 43 = 40 from by decide), if_neg (show ¬ 43 = 41 from by decide), if_neg (show ¬ 43 = 42 from by decide), if_pos rfl], by decide, by decide, by unfold vf_Model_signOf; rw [if_pos (show ¬ zI 43 = 60 from by decide), if_pos (show ¬ zI 43 = 62 from by decide), if_pos (show ¬ zI 43 = 61 from by decide), if_neg (fun e => e (show zI 43 = 43 from rfl))]; rfl, by decide⟩
  by_cases g45 : b = 45
  · subst g45
    refine Or.inr ⟨20, 1, by unfold sgC; rw [if_neg (show ¬ 45 = 37 from by decide), if_neg (show ¬ 45 = 40 from by decide), if_neg (show ¬ 45 = 41 from by decide), if_neg (show ¬ 45 = 42 from by decide), if_neg (show ¬ 45 = 43 from by decide), if_pos rfl], by decide, by decide, by unfold vf_Model_signOf; rw [if_pos (show ¬ zI 45 = 60 from by decide), if_pos (show ¬ zI 45 = 62 from by decide), if_pos (show ¬ zI 45 = 61 from by decide), if_pos (show ¬ zI 45 = 43 from by decide), if_neg (fun e => e (show zI 45 = 45 from rfl))]; rfl, by decide⟩
  by_cases g47 : b = 47
  · subst g47
    refine Or.inr ⟨22, 1, by unfold sgC; rw [if_neg (show ¬ 47 = 37 from by decide), if_neg (show ¬ 47 = 40 from by decide), if_neg (show ¬ 47 = 41 from by decide), if_neg (show ¬ 47 = 42 from by decide), if_neg (show ¬ 47 = 43 from by decide), if_neg (show ¬ 47 = 45 from by decide), if_pos rfl], by decide, by decide, by unfold vf_Model_signOf; rw [if_pos (show ¬ zI 47 = 60 from by decide), if_pos (show ¬ zI 47 = 62 from by decide), if_pos (show ¬ zI 47 = 61 from by decide), if_pos (show ¬ zI 47 = 43 from by decide), if_pos (show ¬ zI 47 = 45 from by decide), if_pos (show ¬ zI 47 = 42 from by decide), if_neg (fun e => e (show zI 47 = 47 from rfl))]; rfl, by decide⟩
  by_cases g59 : b = 59
  · subst g59
    refine Or.inr ⟨32, 1, by unfold sgC; rw [if_neg (show ¬ 59 = 37 from by decide), if_neg (show ¬ 59 = 40 from by decide), if_neg (show ¬ 59 = 41 from by decide), if_neg (show ¬ 59 = 42 from by decide), if_neg (show ¬ 59 = 43 from by decide), if_neg (show ¬ 59 = 45 from by decide), if_neg (show ¬ 59 = 47 from by decide), if_pos rfl], by decide, by decide, by unfold vf_Model_signOf; rw [if_pos (show ¬ zI 59 = 60 from by decide), if_pos (show ¬ zI 59 = 62 from by decide), if_pos (show ¬ zI 59 = 61 from by decide), if_pos (show ¬ zI 59 = 43 from by decide), if_pos (show ¬ zI 59 = 45 from by decide), if_pos (show ¬ zI 59 = 42 from by decide), if_pos (show ¬ zI 59 = 47 from by decide), if_pos (show ¬ zI 59 = 37 from by decide), if_pos (show zI 59 = 59 from rfl)]; rfl, by decide⟩
  by_cases g60 : b = 60
  · subst g60
    by_cases k61 : c = 61
    · refine Or.inr ⟨25, 2, by unfold sgC; rw [if_neg (show ¬ 60 = 37 from by decide), if_neg (show ¬ 60 = 40 from by decide), if_neg (show ¬ 60 = 41 from by decide), if_neg (show ¬ 60 = 42 from by decide), if_neg (show ¬ 60 = 43 from by decide), if_neg (show ¬ 60 = 45 from by decide), if_neg (show ¬ 60 = 47 from by decide), if_neg (show ¬ 60 = 59 from by decide), if_pos rfl, if_pos k61], by decide, by decide, by unfold vf_Model_signOf; rw [if_neg (fun e => e (show zI 60 = 60 from rfl)), if_neg (fun e => e (h61.mpr k61))]; rfl, by decide⟩
    by_cases k62 : c = 62
    · refine Or.inr ⟨27, 2, by unfold sgC; rw [if_neg (show ¬ 60 = 37 from by decide), if_neg (show ¬ 60 = 40 from by decide), if_neg (show ¬ 60 = 41 from by decide), if_neg (show ¬ 60 = 42 from by decide), if_neg (show ¬ 60 = 43 from by decide), if_neg (show ¬ 60 = 45 from by decide), if_neg (show ¬ 60 = 47 from by decide), if_neg (show ¬ 60 = 59 from by decide), if_pos rfl, if_neg k61, if_pos k62], by decide, by decide, by unfold vf_Model_signOf; rw [if_neg (fun e => e (show zI 60 = 60 from rfl)), if_pos (fun e => k61 (h61.mp e)), if_neg (fun e => e (h62.mpr k62))]; rfl, by decide⟩
    refine Or.inr ⟨24, 1, by unfold sgC; rw [if_neg (show ¬ 60 = 37 from by decide), if_neg (show ¬ 60 = 40 from by decide), if_neg (show ¬ 60 = 41 from by decide), if_neg (show ¬ 60 = 42 from by decide), if_neg (show ¬ 60 = 43 from by decide), if_neg (show ¬ 60 = 45 from by decide), if_neg (show ¬ 60 = 47 from by decide), if_neg (show ¬ 60 = 59 from by decide), if_pos rfl, if_neg k61, if_neg k62], by decide, by decide, by unfold vf_Model_signOf; rw [if_neg (fun e => e (show zI 60 = 60 from rfl)), if_pos (fun e => k61 (h61.mp e)), if_pos (fun e => k62 (h62.mp e))]; rfl, by decide⟩
  by_cases g61 : b = 61
  · subst g61
    refine Or.inr ⟨26, 1, by unfold sgC; rw [if_neg (show ¬ 61 = 37 from by decide), if_neg (show ¬ 61 = 40 from by decide), if_neg (show ¬ 61 = 41 from by decide), if_neg (show ¬ 61 = 42 from by decide), if_neg (show ¬ 61 = 43 from by decide), if_neg (show ¬ 61 = 45 from by decide), if_neg (show ¬ 61 = 47 from by decide), if_neg (show ¬ 61 = 59 from by decide), if_neg (show ¬ 61 = 60 from by decide), if_pos rfl], by decide, by decide, by unfold vf_Model_signOf; rw [if_pos (show ¬ zI 61 = 60 from by decide), if_pos (show ¬ zI 61 = 62 from by decide), if_neg (fun e => e (show zI 61 = 61 from rfl))]; rfl, by decide⟩
  by_cases g62 : b = 62
  · subst g62
    by_cases k61 : c = 61
    · refine Or.inr ⟨28, 2, by unfold sgC; rw [if_neg (show ¬ 62 = 37 from by decide), if_neg (show ¬ 62 = 40 from by decide), if_neg (show ¬ 62 = 41 from by decide), if_neg (show ¬ 62 = 42 from by decide), if_neg (show ¬ 62 = 43 from by decide), if_neg (show ¬ 62 = 45 from by decide), if_neg (show ¬ 62 = 47 from by decide), if_neg (show ¬ 62 = 59 from by decide), if_neg (show ¬ 62 = 60 from by decide), if_neg (show ¬ 62 = 61 from by decide), if_pos rfl, if_pos k61], by decide, by decide, by unfold vf_Model_signOf; rw [if_pos (show ¬ zI 62 = 60 from by decide), if_neg (fun e => e (show zI 62 = 62 from rfl)), if_neg (fun e => e (h61.mpr k61))]; rfl, by decide⟩
    refine Or.inr ⟨29, 1, by unfold sgC; rw [if_neg (show ¬ 62 = 37 from by decide), if_neg (show ¬ 62 = 40 from by decide), if_neg (show ¬ 62 = 41 from by decide), if_neg (show ¬ 62 = 42 from by decide), if_neg (show ¬ 62 = 43 from by decide), if_neg (show ¬ 62 = 45 from by decide), if_neg (show ¬ 62 = 47 from by decide), if_neg (show ¬ 62 = 59 from by decide), if_neg (show ¬ 62 = 60 from by decide), if_neg (show ¬ 62 = 61 from by decide), if_pos rfl, if_neg k61], by decide, by decide, by unfold vf_Model_signOf; rw [if_pos (show ¬ zI 62 = 60 from by decide), if_neg (fun e => e (show zI 62 = 62 from rfl)), if_pos (fun e => k61 (h61.mp e))]; rfl, by decide⟩
  left
  refine ⟨?_, by unfold sgC; rw [if_neg g37, if_neg g40, if_neg g41, if_neg g42, if_neg g43, if_neg g45, if_neg g47, if_neg g59, if_neg g60, if_neg g61, if_neg g62]⟩
  have ne : ∀ d, d < 256 → ¬ b = d → ¬ zI b = zI d := fun d hd g e => g (by rw [zI_eq (by omega) (by omega)] at e; exact e)
  unfold vf_Model_signOf
  rw [if_pos (show ¬ zI b = 60 from ne 60 (by decide) g60), if_pos (show ¬ zI b = 62 from ne 62 (by decide) g62), if_pos (show ¬ zI b = 61 from ne 61 (by decide) g61), if_pos (show ¬ zI b = 43 from ne 43 (by decide) g43), if_pos (show ¬ zI b = 45 from ne 45 (by decide) g45), if_pos (show ¬ zI b = 42 from ne 42 (by decide) g42), if_pos (show ¬ zI b = 47 from ne 47 (by decide) g47), if_pos (show ¬ zI b = 37 from ne 37 (by decide) g37), if_neg (show ¬ zI b = 59 from ne 59 (by decide) g59), if_neg (show ¬ zI b = 40 from ne 40 (by decide) g40), if_pos (show ¬ zI b = 41 from ne 41 (by decide) g41)]
/-- what the reference has of a token -/
def tkR (B : Nat → Nat) (q t e : Nat) (kd wh : Int32) : Prop := (t = 34 ∧ kd = 0) ∨ (t < 19 ∧ kd = 1 ∧ wh = zI (prm t)) ∨ (19 ≤ t ∧ t ≤ 32 ∧ kd = 3 ∧ wh = zI (sgW t)) ∨ (t = 35 ∧ kd = 4) ∨ (t = 36 ∧ kd = 2 ∧ ((nuC B q (e - q) ≤ 99999 ∧ wh = zI (nuC B q (e - q))) ∨ (99999 < nuC B q (e - q) ∧ ¬ wh ≤ 99999)))
def tkM (B : Nat → Nat) (n q : Nat) (I L : Nat → Nat → Int32) : Prop := (∀ c, c ≠ 81 → L c = I c) ∧ (∀ j, j ≠ 21 → j ≠ 22 → j ≠ 23 → j ≠ 24 → L 81 j = I 81 j) ∧ L 81 24 = zI q ∧ L 81 21 = zI (tkN B n q).2 ∧ tkR B q (tkN B n q).1 (tkN B n q).2 (L 81 22) (L 81 23)
def tpM (B : Nat → Nat) (r82 : Nat → Int32) : Prop := ∀ j, B j < 256 ∧ r82 j = zI (B j)
def ofR : List (List Nat) → Nat → Bool
  | [], o => decide (o = 95)
  | w :: r, o => decide (o + w.length < 95) && (List.range w.length).all (fun j => decide (rf_words.getD (o + j) 0 = zI (w.getD j 0)) && (decide (w.getD j 0 < 128) && decide (¬ w.getD j 0 = 32))) && decide (rf_words.getD (o + w.length) 0 = 32) && ofR r (o + w.length + 1)
theorem ofR_R : ofR wR 0 = true := by decide
section K3
variable {X : (Nat → Int32) × Nat} {mo : Bool} {G : Nat × Nat} {I : Nat → Nat → Int32} {J : Nat → Nat → Int64} {Q : Option Value → sm_M → Prop}
theorem mw_1 {B : Nat → Nat} {q e : Nat} (hT : tpM B (I 82)) (hX : ivX (I 93)) (hqe : q ≤ e) (he : e ≤ 400) {w : List Nat} {o k : Nat} (ho : o + w.length < 95) (hw : ∀ j, j < w.length → rf_words.getD (o + j) 0 = zI (w.getD j 0) ∧ w.getD j 0 < 128 ∧ ¬ w.getD j 0 = 32) (hb : rf_words.getD (o + w.length) 0 = 32) :
    sm_wp X 228 5 [some (.ref 81), some (.int (zI q)), some (.int (zI e)), some (.int (zI k)), some (.int (zI o)), none, none, none] [] (sM mo G I J) Q = if pB (mtc B q e w) = true then Q (some (.int (zI k))) (sM mo G I J) else sm_wp X 228 5 [some (.ref 81), some (.int (zI q)), some (.int (zI e)), some (.int (zI (k + 1))), some (.int (zI (o + (w.length + 1)))), none, none, none] [] (sM mo G I J) Q := by
  -- the letters compared
  have cmp : ∀ d j, j + d = w.length → ∀ x : Int32, (x = 1 ∧ q + w.length = e ∧ (∀ i, i < j → B (q + i) = w.getD i 0) ∨ x = 0 ∧ ¬ (q + w.length = e ∧ ∀ i, i < j → B (q + i) = w.getD i 0)) → sm_wp X 228 57 [some (.ref 81), some (.int (zI q)), some (.int (zI e)), some (.int (zI k)), some (.int (zI o)), some (.int (zI w.length)), some (.int x), some (.int (zI j))] [] (sM mo G I J) Q = if pB (mtc B q e w) = true then Q (some (.int (zI k))) (sM mo G I J) else sm_wp X 228 5 [some (.ref 81), some (.int (zI q)), some (.int (zI e)), some (.int (zI (k + 1))), some (.int (zI (o + (w.length + 1)))), none, none, none] [] (sM mo G I J) Q := by
    intro d
    induction d with
    | zero =>
      intro j hj x hx
      have : j = w.length := by omega
      subst this
      rw [lp_228_57, if_pos (by rw [zI_le (by omega) (by omega)]; exact Nat.le_refl _), show zI k + 1 = zI (k + 1) from zIr_add 1 k, show zI w.length + 1 = zI (w.length + 1) from zIr_add 1 _, zI_add]
      rcases hx with ⟨rfl, h1, h2⟩ | ⟨rfl, h1⟩
      · rw [if_neg (by decide), if_pos (pB_t.mpr ⟨h1, h2⟩)]
      · rw [if_pos rfl, if_neg (fun m : pB (mtc B q e w) = true => h1 (pB_t.mp m))]
    | succ d ih =>
      intro j hj x hx
      have jw : j < w.length := by omega
      have hwj := hw j jw
      rw [lp_228_57, if_neg (by rw [zI_le (by omega) (by omega)]; omega), show zI k + 1 = zI (k + 1) from zIr_add 1 k, show zI w.length + 1 = zI (w.length + 1) from zIr_add 1 _, zI_add]
      rcases hx with ⟨rfl, h1, h2⟩ | ⟨rfl, h1⟩
      · rw [if_neg (by decide), zI_add, zI_add, zI_vp (by omega), zI_vp (by omega), zI_cn (by omega), zI_cn (by omega), eq_true (by omega : o + j < 95), true_and, eq_true (by omega : q + j < 400), true_and, hX (o + j) (by omega), hwj.1, (hT (q + j)).2, show zI j + 1 = zI (j + 1) from zIr_add 1 j]
        have hB := (hT (q + j)).1
        by_cases g : B (q + j) = w.getD j 0
        · rw [if_neg (fun e => e (by rw [g]))]
          refine ih (j + 1) (by omega) 1 (Or.inl ⟨rfl, h1, fun i hi => ?_⟩)
          by_cases e3 : i = j
          · rw [e3]; exact g
          · exact h2 i (by omega)
        · rw [if_pos (by rw [zI_eq (by omega) (by omega)]; exact fun e => g e.symm)]
          exact ih (j + 1) (by omega) 0 (Or.inr ⟨rfl, fun a => g (a.2 j (by omega))⟩)
      · rw [if_pos rfl, if_neg (fun m => h1 ⟨(pB_t.mp m).1, fun i hi => (pB_t.mp m).2 i (by omega)⟩)]
  have scan : ∀ d j, j + d = w.length → sm_wp X 228 18 [some (.ref 81), some (.int (zI q)), some (.int (zI e)), some (.int (zI k)), some (.int (zI o)), some (.int (zI j)), none, none] [] (sM mo G I J) Q = if pB (mtc B q e w) = true then Q (some (.int (zI k))) (sM mo G I J) else sm_wp X 228 5 [some (.ref 81), some (.int (zI q)), some (.int (zI e)), some (.int (zI (k + 1))), some (.int (zI (o + (w.length + 1)))), none, none, none] [] (sM mo G I J) Q := by
    intro d
    induction d with
    | zero =>
      intro j hj
      have : j = w.length := by omega
      subst this
      rw [lp_228_18, zI_add, zI_vp (by omega), zI_cn (by omega), eq_true ho, true_and, hX _ ho, if_pos hb, zI_sub hqe]
      by_cases g : q + w.length = e
      · rw [if_neg (fun x => x (by rw [show w.length = e - q from by omega]))]
        exact cmp w.length 0 (by omega) 1 (Or.inl ⟨rfl, g, fun i hi => absurd hi (Nat.not_lt_zero _)⟩)
      · rw [if_pos (by rw [zI_eq (by omega) (by omega)]; omega)]
        exact cmp w.length 0 (by omega) 0 (Or.inr ⟨rfl, fun a => g a.1⟩)
    | succ d ih =>
      intro j hj
      have hwj := hw j (by omega)
      rw [lp_228_18, zI_add, zI_vp (by omega), zI_cn (by omega), eq_true (by omega : o + j < 95), true_and, hX _ (by omega), if_neg (by rw [hwj.1, zIr_eq (c := 32) (by decide) (by omega)]; exact hwj.2.2), show zI j + 1 = zI (j + 1) from zIr_add 1 j]
      exact ih (j + 1) (by omega)
  rw [lp_228_5, if_neg (by rw [show Int32.ofNat 95 = zI 95 from rfl, zI_le (by omega) (by omega)]; omega)]
  exact scan w.length 0 (by omega)
theorem mw_2 {B : Nat → Nat} {q e : Nat} (hT : tpM B (I 82)) (hX : ivX (I 93)) (hqe : q ≤ e) (he : e ≤ 400) : ∀ (ws : List (List Nat)) (o k : Nat), ofR ws o = true → k + ws.length < 99 → sm_wp X 228 5 [some (.ref 81), some (.int (zI q)), some (.int (zI e)), some (.int (zI k)), some (.int (zI o)), none, none, none] [] (sM mo G I J) Q = Q (some (.int (if fi (fun w => pB (mtc B q e w)) ws k 99 = 99 then -1 else zI (fi (fun w => pB (mtc B q e w)) ws k 99)))) (sM mo G I J)
  | [], o, k, h, _ => by
    have h' : o = 95 := decide_eq_true_iff.mp h
    rw [lp_228_5, if_pos (by rw [h']; decide)]
    unfold fi
    rw [if_pos rfl]
  | w :: r, o, k, h, hk => by
    unfold ofR at h
    simp only [Bool.and_eq_true, decide_eq_true_iff, List.all_eq_true, List.mem_range] at h
    obtain ⟨⟨⟨h1, h2⟩, h3⟩, h5⟩ := h
    rw [List.length_cons] at hk
    rw [mw_1 hT hX hqe he (w := w) (o := o) (k := k) h1 (fun j hj => h2 j hj) h3]
    unfold fi
    by_cases g : pB (mtc B q e w) = true
    · rw [if_pos g, if_pos g, if_neg (by omega)]
    · rw [if_neg g, if_neg g]
      exact mw_2 hT hX hqe he r (o + w.length + 1) (k + 1) h5 (by omega)
end K3
end
section
/-! The reference's next token. -/
/-- a number, as the reference has it -/
def nuR (B : Nat → Nat) (q k : Nat) : Nat := up (fun i a => if 99999 < a then a else 10 * a + B (q + i) - 48) k 0
theorem nuR_s (B : Nat → Nat) (q k : Nat) : nuR B q (k + 1) = if 99999 < nuR B q k then nuR B q k else 10 * nuR B q k + B (q + k) - 48 := by
  unfold nuR
  rw [up_s]
theorem nuR_e {B : Nat → Nat} {q : Nat} : ∀ k, (∀ i, i < k → 48 ≤ B (q + i) ∧ B (q + i) ≤ 57) → nuR B q k ≤ 1000000 ∧ ((nuC B q k ≤ 99999 ∧ nuR B q k = nuC B q k) ∨ (nuC B q k = 100000 ∧ 99999 < nuR B q k)) := by
  intro k
  induction k with
  | zero => intro _; exact ⟨Nat.zero_le _, Or.inl ⟨Nat.zero_le _, rfl⟩⟩
  | succ k ih =>
    intro h
    obtain ⟨i1, i2⟩ := ih (fun i hi => h i (by omega))
    have hk := h k (by omega)
    rw [nuR_s, nuC_s]
    rcases i2 with ⟨a, b⟩ | ⟨a, b⟩
    · rw [b]
      rw [if_neg (show ¬ 99999 < nuC B q k by omega)]
      by_cases g : 100000 < nuC B q k * 10 + B (q + k) - 48
      · rw [if_pos g]; exact ⟨by omega, Or.inr ⟨rfl, by omega⟩⟩
      · rw [if_neg g]
        by_cases g2 : nuC B q k * 10 + B (q + k) - 48 ≤ 99999
        · exact ⟨by omega, Or.inl ⟨g2, by omega⟩⟩
        · exact ⟨by omega, Or.inr ⟨by omega, by omega⟩⟩
    · rw [if_pos b, a]
      rw [if_pos (show 100000 < 100000 * 10 + B (q + k) - 48 by omega)]
      exact ⟨i1, Or.inr ⟨rfl, b⟩⟩
theorem sp_in (P : Nat → Bool) : ∀ f q j, q ≤ j → j < sp P f q → P j = true := by
  intro f
  induction f with
  | zero => intro q j h1 h2; unfold sp at h2; omega
  | succ f ih =>
    intro q j h1 h2
    unfold sp at h2
    by_cases g : P q = true
    · rw [if_pos g] at h2
      by_cases e : j = q
      · rw [e]; exact g
      · exact ih (q + 1) j (by omega) h2
    · rw [if_neg g] at h2
      omega
section K4
variable {X : (Nat → Int32) × Nat} {mo : Bool} {G : Nat × Nat} {I : Nat → Nat → Int32} {J : Nat → Nat → Int64} {Q : Option Value → sm_M → Prop}
theorem byS {B : Nat → Nat} {n j : Nat} (hT : tpM B (I 82)) (h4 : I 81 20 = zI n) (hn : n ≤ 400) (hj : j ≤ n) : vc_Model_isSmall I (zI j) ∧ (vf_Model_isSmall I (zI j) ↔ (j < n ∧ isLt B j = true)) := by
  have hB := (hT j).1
  have e1 : ¬ I 81 20 ≤ zI j ↔ j < n := by rw [h4, zI_le (by omega) (by omega)]; omega
  have v : j < n → vp_in (zI j) 400 := fun g => by rw [zI_vp (by omega)]; omega
  refine ⟨fun g => ⟨v (e1.mp g), fun _ => v (e1.mp g)⟩, ?_⟩
  unfold vf_Model_isSmall isLt
  rw [e1, zI_cn (by omega), (hT j).2, Bool.and_eq_true, decide_eq_true_iff, decide_eq_true_iff, zIr_lt (c := 97) (by decide) (by omega), zIl_lt (c := 122) (by decide) (by omega)]
  show (j < n ∧ ¬ B j < 97 ∧ ¬ 122 < B j) ↔ _
  omega
theorem byD {B : Nat → Nat} {n j : Nat} (hT : tpM B (I 82)) (h4 : I 81 20 = zI n) (hn : n ≤ 400) (hj : j ≤ n) : vc_Model_isDigit I (zI j) ∧ (vf_Model_isDigit I (zI j) ↔ (j < n ∧ isDt B j = true)) := by
  have hB := (hT j).1
  have e1 : ¬ I 81 20 ≤ zI j ↔ j < n := by rw [h4, zI_le (by omega) (by omega)]; omega
  have v : j < n → vp_in (zI j) 400 := fun g => by rw [zI_vp (by omega)]; omega
  refine ⟨fun g => ⟨v (e1.mp g), fun _ => v (e1.mp g)⟩, ?_⟩
  unfold vf_Model_isDigit isDt
  rw [e1, zI_cn (by omega), (hT j).2, Bool.and_eq_true, decide_eq_true_iff, decide_eq_true_iff, zIr_lt (c := 48) (by decide) (by omega), zIl_lt (c := 57) (by decide) (by omega)]
  show (j < n ∧ ¬ B j < 48 ∧ ¬ 57 < B j) ↔ _
  omega
theorem mw_l {B : Nat → Nat} {n q : Nat} (hT : tpM B (I 82)) (hX : ivX (I 93)) (h4 : I 81 20 = zI n) (hn : n ≤ 400) (hq : I 81 24 = zI q) : ∀ f e, e + f = n → q ≤ e → ∀ K, (∀ c, c ≠ 81 → K c = I c) → (∀ j, j ≠ 21 → K 81 j = I 81 j) → K 81 21 = zI e → (∀ L, (∀ c, c ≠ 81 → L c = I c) → (∀ j, j ≠ 21 → j ≠ 22 → j ≠ 23 → L 81 j = I 81 j) → L 81 21 = zI (sp (isLt B) f e) → tkR B q (wcd B q (sp (isLt B) f e)) (sp (isLt B) f e) (L 81 22) (L 81 23) → Q none (sM mo G L J)) → sm_wp X 226 90 [some (.ref 81), none] [] (sM mo G K J) Q := by
  have word : ∀ e, q ≤ e → e ≤ n → ∀ K, (∀ c, c ≠ 81 → K c = I c) → (∀ j, j ≠ 21 → K 81 j = I 81 j) → K 81 21 = zI e → (∀ L, (∀ c, c ≠ 81 → L c = I c) → (∀ j, j ≠ 21 → j ≠ 22 → j ≠ 23 → L 81 j = I 81 j) → L 81 21 = zI e → tkR B q (wcd B q e) e (L 81 22) (L 81 23) → Q none (sM mo G L J)) → sm_wp X 228 0 [some (.ref 81), some (.int (K 81 24)), some (.int (K 81 21)), none, none, none, none, none] [] (sM mo G K J) (fun v M => sm_wp X 226 127 [some (.ref 81), none] (v.toList ++ [.ref 81]) M Q) := by
    intro e hqe hen K k1 kj k5 hQ
    rw [lp_228_0, kj 24 (by decide), hq, k5]
    have s := mw_2 (X := X) (mo := mo) (G := G) (I := K) (J := J) (Q := fun v M => sm_wp X 226 127 [some (.ref 81), none] (v.toList ++ [.ref 81]) M Q) (B := B) (q := q) (e := e) (by rw [k1 82 (by decide)]; exact hT) (by rw [k1 93 (by decide)]; exact hX) hqe (by omega) wR 0 0 ofR_R (by decide)
    refine s.mpr ?_
    simp only [tl_some]
    have w := wds (p := fun w => pB (mtc B q e w)) mtc_u
    rcases w with ⟨w1, w2⟩ | ⟨i, hi, w1, w2⟩
    · rw [w2, if_pos rfl, lp_226_127, if_neg (by decide)]
      refine hQ _ (fun c hc => by rw [up2_rn _ _ _ _ _ hc, up2_rn _ _ _ _ _ hc]; exact k1 c hc) (fun j a b d => by rw [up2_ra, va_ap, if_neg b, up2_ra, va_ap, if_neg d]; exact kj j a) (by simp (decide := true) only [up2_ra, up2_rn, va_ap, ne_eq, if_false, if_true, not_false_eq_true]; exact k5) ?_
      have e35 : wcd B q e = 35 := w1
      rw [e35]
      exact Or.inr (Or.inr (Or.inr (Or.inl ⟨rfl, by simp (decide := true) only [up2_ra, up2_rn, va_ap, ne_eq, if_false, if_true, not_false_eq_true]⟩)))
    · have pb : prm i < 19 := by
        have : ∀ i : Fin 19, prm i.val < 19 := by decide
        exact this ⟨i, hi⟩
      rw [w2, if_neg (by omega), lp_226_127, if_pos (by rw [zIl_le (c := 0) (by decide) (by omega)]; exact Nat.zero_le _)]
      refine hQ _ (fun c hc => by rw [up2_rn _ _ _ _ _ hc, up2_rn _ _ _ _ _ hc]; exact k1 c hc) (fun j a b d => by rw [up2_ra, va_ap, if_neg b, up2_ra, va_ap, if_neg d]; exact kj j a) (by simp (decide := true) only [up2_ra, up2_rn, va_ap, ne_eq, if_false, if_true, not_false_eq_true]; exact k5) ?_
      have ei : wcd B q e = i := w1
      rw [ei]
      exact Or.inr (Or.inl ⟨hi, by simp (decide := true) only [up2_ra, up2_rn, va_ap, ne_eq, if_false, if_true, not_false_eq_true], by simp (decide := true) only [up2_ra, up2_rn, va_ap, ne_eq, if_false, if_true, not_false_eq_true]⟩)
  intro f
  induction f with
  | zero =>
    intro e hf hqe K k1 kj k5 hQ
    have e4 : K 81 20 = zI n := by rw [kj 20 (by decide)]; exact h4
    have s := byS (I := K) (B := B) (j := e) (by rw [k1 82 (by decide)]; exact hT) e4 hn (by omega)
    rw [lp_226_90]
    have s1 : vc_Model_isSmall K (K 81 21) := by rw [k5]; exact s.1
    refine ⟨s1, ?_⟩
    rw [if_pos (by rw [k5]; exact fun c => by have := (s.2.mp c).1; omega)]
    exact word e hqe (by omega) K k1 kj k5 hQ
  | succ f ih =>
    intro e hf hqe K k1 kj k5 hQ
    have e4 : K 81 20 = zI n := by rw [kj 20 (by decide)]; exact h4
    have s := byS (I := K) (B := B) (j := e) (by rw [k1 82 (by decide)]; exact hT) e4 hn (by omega)
    have un : sp (isLt B) (f + 1) e = if isLt B e = true then sp (isLt B) f (e + 1) else e := rfl
    rw [lp_226_90]
    have s1 : vc_Model_isSmall K (K 81 21) := by rw [k5]; exact s.1
    refine ⟨s1, ?_⟩
    by_cases g : isLt B e = true
    · rw [if_pos g] at un
      rw [un] at hQ
      rw [if_neg (by rw [k5]; exact fun c => c (s.2.mpr ⟨by omega, g⟩)), k5, show zI e + 1 = zI (e + 1) from zIr_add 1 e]
      exact ih (e + 1) (by omega) (by omega) _ (fun c hc => by rw [up2_rn _ _ _ _ _ hc]; exact k1 c hc) (fun j hj => by rw [up2_ra, va_ap, if_neg hj]; exact kj j hj) up2_ss hQ
    · rw [if_neg g] at un
      rw [un] at hQ
      rw [if_pos (by rw [k5]; exact fun c => g (s.2.mp c).2)]
      exact word e hqe (by omega) K k1 kj k5 hQ
theorem mn_l {B : Nat → Nat} {n q : Nat} (hT : tpM B (I 82)) (h4 : I 81 20 = zI n) (hn : n ≤ 400) : ∀ f k, q + k + f = n → (∀ i, i < k → isDt B (q + i) = true) → ∀ K, (∀ c, c ≠ 81 → K c = I c) → (∀ j, j ≠ 21 → j ≠ 23 → K 81 j = I 81 j) → K 81 21 = zI (q + k) → K 81 23 = zI (nuR B q k) → (∀ L, (∀ c, c ≠ 81 → L c = I c) → (∀ j, j ≠ 21 → j ≠ 23 → L 81 j = I 81 j) → L 81 21 = zI (sp (isDt B) f (q + k)) → L 81 23 = zI (nuR B q (sp (isDt B) f (q + k) - q)) → Q none (sM mo G L J)) → sm_wp X 226 170 [some (.ref 81), none] [] (sM mo G K J) Q := by
  intro f
  have dg' : ∀ j, isDt B j = true → 48 ≤ B j ∧ B j ≤ 57 := fun j g => by
    unfold isDt at g
    rw [Bool.and_eq_true, decide_eq_true_iff, decide_eq_true_iff] at g
    exact g
  induction f with
  | zero =>
    intro k hf hd K k1 kj k5 kn hQ
    have e4 : K 81 20 = zI n := by rw [kj 20 (by decide) (by decide)]; exact h4
    have s := byD (I := K) (B := B) (j := q + k) (by rw [k1 82 (by decide)]; exact hT) e4 hn (by omega)
    rw [lp_226_170]
    have s1 : vc_Model_isDigit K (K 81 21) := by rw [k5]; exact s.1
    refine ⟨s1, ?_⟩
    rw [if_pos (by rw [k5]; exact fun c => by have := (s.2.mp c).1; omega)]
    refine hQ K k1 kj k5 ?_
    show K 81 23 = zI (nuR B q (q + k - q))
    rw [Nat.add_sub_cancel_left]
    exact kn
  | succ f ih =>
    intro k hf hd K k1 kj k5 kn hQ
    have e4 : K 81 20 = zI n := by rw [kj 20 (by decide) (by decide)]; exact h4
    have s := byD (I := K) (B := B) (j := q + k) (by rw [k1 82 (by decide)]; exact hT) e4 hn (by omega)
    have un : sp (isDt B) (f + 1) (q + k) = if isDt B (q + k) = true then sp (isDt B) f (q + k + 1) else q + k := rfl
    rw [lp_226_170]
    have s1 : vc_Model_isDigit K (K 81 21) := by rw [k5]; exact s.1
    refine ⟨s1, ?_⟩
    by_cases g : isDt B (q + k) = true
    · have dd := dg' _ g
      have nb := (nuR_e (B := B) (q := q) k (fun i hi => dg' _ (hd i hi))).1
      rw [if_pos g] at un
      rw [un] at hQ
      have nx : ∀ v : Nat, zI v = zI (nuR B q (k + 1)) → sm_wp X 226 170 [some (.ref 81), none] [] (sM mo G (up2 (up2 K 81 23 (zI v)) 81 21 (zI (q + (k + 1)))) J) Q := by
        intro v hv
        refine ih (k + 1) (by omega) (fun i hi => ?_) _ (fun c hc => by rw [up2_rn _ _ _ _ _ hc, up2_rn _ _ _ _ _ hc]; exact k1 c hc) (fun j a b => by rw [up2_ra, va_ap, if_neg a, up2_ra, va_ap, if_neg b]; exact kj j a b) up2_ss (by rw [up2_ra, va_ap, if_neg (by decide), up2_ra, va_ap, if_pos rfl]; exact hv) hQ
        by_cases e : i = k
        · rw [e]; exact g
        · exact hd i (by omega)
      rw [if_neg (by rw [k5]; exact fun c => c (s.2.mpr ⟨by omega, g⟩)), kn, k5, zI_vp (by omega), zI_cn (by omega), k1 82 (by decide), (hT (q + k)).2, show zI (q + k) + 1 = zI (q + (k + 1)) from zIr_add 1 _]
      by_cases c1 : nuR B q k ≤ 99999
      · rw [if_pos (by rw [zIr_le (c := 99999) (by decide) (by omega)]; exact c1), show (10 : Int32) * zI (nuR B q k) = zI (10 * nuR B q k) from zIl_mul 10 _, zI_add, show zI (10 * nuR B q k + B (q + k)) - 48 = zI (10 * nuR B q k + B (q + k) - 48) from zIr_sub (c := 48) (by show 48 ≤ 10 * nuR B q k + B (q + k); omega)]
        exact ⟨by omega, nx _ (by rw [nuR_s, if_neg (by omega)])⟩
      · rw [if_neg (by rw [zIr_le (c := 99999) (by decide) (by omega)]; exact c1)]
        exact nx _ (by rw [nuR_s, if_pos (by omega)])
    · rw [if_neg g] at un
      rw [un, Nat.add_sub_cancel_left] at hQ
      rw [if_pos (by rw [k5]; exact fun c => g (s.2.mp c).2)]
      exact hQ K k1 kj k5 kn
theorem mk_1 {B : Nat → Nat} {n q : Nat} (hT : tpM B (I 82)) (hX : ivX (I 93)) (h4 : I 81 20 = zI n) (hn : n ≤ 400) (h5 : I 81 21 = zI q) (hq : q < n) (hnb : ¬ isBl B q = true) (hQ : ∀ L, tkM B n q I L → Q none (sM mo G L J)) :
    sm_wp X 226 0 [some (.ref 81), none] [] (sM mo G I J) Q := by
  have hB := (hT q).1
  have nbl : ¬ B q = 10 ∧ ¬ B q = 32 := by
    unfold isBl at hnb
    rw [Bool.or_eq_true, decide_eq_true_iff, decide_eq_true_iff] at hnb
    exact ⟨fun e => hnb (Or.inl e), fun e => hnb (Or.inr e)⟩
  rw [lp_226_0, if_neg (by rw [h4, h5, zI_le (by omega) (by omega)]; omega), h5, zI_vp (by omega)]
  refine ⟨by omega, ?_⟩
  rw [if_neg (by rw [zI_cn (by omega), (hT q).2, zIr_eq (c := 10) (by decide) (by omega)]; exact nbl.1), if_pos (by rw [zI_cn (by omega), (hT q).2, zIr_eq (c := 32) (by decide) (by omega)]; exact nbl.2), if_pos (by rw [h4, zI_eq (by omega) (by omega)]; omega)]
  generalize hM : up2 I 81 24 (zI q) = M0
  have a1 : ∀ c, c ≠ 81 → M0 c = I c := fun c hc => by rw [← hM, up2_rn _ _ _ _ _ hc]
  have aj : ∀ j, j ≠ 24 → M0 81 j = I 81 j := fun j hj => by rw [← hM, up2_ra, va_ap, if_neg hj]
  have a24 : M0 81 24 = zI q := by rw [← hM]; exact up2_ss
  have T0 : tpM B (M0 82) := by rw [a1 82 (by decide)]; exact hT
  have e4 : M0 81 20 = zI n := by rw [aj 20 (by decide)]; exact h4
  have un : tkN B n q = if isLt B q = true then (wcd B q (sp (isLt B) (n - q) q), sp (isLt B) (n - q) q) else if isDt B q = true then (36, sp (isDt B) (n - q) q) else ((sgC (B q) (nxB B n q)).1, q + (sgC (B q) (nxB B n q)).2) := by
    unfold tkN
    rw [if_neg (by omega)]
  have sS := byS (I := M0) T0 e4 hn (show q ≤ n by omega)
  have sD := byD (I := M0) T0 e4 hn (show q ≤ n by omega)
  refine ⟨sS.1, ?_⟩
  by_cases gl : isLt B q = true
  · rw [if_pos gl] at un
    rw [if_neg (fun c => c (sS.2.mpr ⟨hq, gl⟩))]
    refine mw_l (I := M0) (B := B) (n := n) (q := q) T0 (by rw [a1 93 (by decide)]; exact hX) e4 hn a24 (n - q) q (by omega) (Nat.le_refl _) M0 (fun _ _ => rfl) (fun _ _ => rfl) (by rw [aj 21 (by decide)]; exact h5) ?_
    intro L l1 lj l5 lR
    refine hQ L ⟨fun c hc => (l1 c hc).trans (a1 c hc), fun j b1 b2 b3 b4 => (lj j b1 b2 b3).trans (aj j b4), (lj 24 (by decide) (by decide) (by decide)).trans a24, by rw [un]; exact l5, by rw [un]; exact lR⟩
  · rw [if_neg gl] at un
    rw [if_pos (fun c => gl (sS.2.mp c).2)]
    refine ⟨sD.1, ?_⟩
    by_cases gd : isDt B q = true
    · rw [if_pos gd] at un
      rw [if_neg (fun c => c (sD.2.mpr ⟨hq, gd⟩))]
      refine mn_l (I := up2 M0 81 22 2) (B := B) (n := n) (q := q) (by rw [up2_rn _ _ _ _ _ (by decide)]; exact T0) (by rw [up2_ra, va_ap, if_neg (by decide)]; exact e4) hn (n - q) 0 (by omega) (fun i hi => absurd hi (Nat.not_lt_zero _)) _ (fun c hc => by rw [up2_rn _ _ _ _ _ hc]) (fun j a b => by rw [up2_ra, va_ap, if_neg b]) (by rw [up2_ra, va_ap, if_neg (by decide), up2_ra, va_ap, if_neg (by decide), aj 21 (by decide)]; exact h5) up2_ss ?_
      intro L l1 lj l5 l2
      have ls := sp_b (isDt B) (n - q) q
      have ne := nuR_e (B := B) (q := q) (sp (isDt B) (n - q) q - q) (fun i hi => by
        have g := sp_in (isDt B) (n - q) q (q + i) (by omega) (by omega)
        unfold isDt at g
        rw [Bool.and_eq_true, decide_eq_true_iff, decide_eq_true_iff] at g
        exact g)
      refine hQ L ⟨fun c hc => ((l1 c hc).trans (up2_rn _ _ _ _ _ hc)).trans (a1 c hc), fun j b1 b2 b3 b4 => by rw [lj j b1 b3, up2_ra, va_ap, if_neg b2]; exact aj j b4, by rw [lj 24 (by decide) (by decide), up2_ra, va_ap, if_neg (by decide)]; exact a24, by rw [un]; exact l5, ?_⟩
      rw [un]
      refine Or.inr (Or.inr (Or.inr (Or.inr ⟨rfl, by rw [lj 22 (by decide) (by decide)]; exact up2_ss, ?_⟩)))
      have l2' : L 81 23 = zI (nuR B q (sp (isDt B) (n - q) q - q)) := l2
      rw [l2']
      rcases ne.2 with ⟨c1, c2⟩ | ⟨c1, c2⟩
      · exact Or.inl ⟨c1, by rw [c2]⟩
      · refine Or.inr ⟨?_, by rw [zIr_le (c := 99999) (by decide) (by have := ne.1; omega)]; show ¬ nuR B q (sp (isDt B) (n - q) q - q) ≤ 99999; omega⟩
        show 99999 < nuC B q (sp (isDt B) (n - q) q - q)
        omega
    · rw [if_neg gd] at un
      rw [if_pos (fun c => gd (sD.2.mp c).2), zI_cn (by omega), (hT q).2, show zI q + 1 = zI (q + 1) from zIr_add 1 q, show zI (q + 1) + 1 = zI (q + 2) from zIr_add 1 _]
      generalize hM1 : up2 M0 81 21 (zI (q + 1)) = M1
      have m1 : ∀ c, c ≠ 81 → M1 c = M0 c := fun c hc => by rw [← hM1, up2_rn _ _ _ _ _ hc]
      have mj : ∀ j, j ≠ 21 → M1 81 j = M0 81 j := fun j b => by rw [← hM1, up2_ra, va_ap, if_neg b]
      have m21 : M1 81 21 = zI (q + 1) := by rw [← hM1]; exact up2_ss
      have at1 : ∀ d, d < 256 → 0 < d → (vf_Model_isAt M1 (M1 81 21) (zI d) ↔ nxB B n q = d) := by
        intro d hd d0
        unfold vf_Model_isAt nxB
        rw [m21, mj 20 (by decide), e4, zI_le (by omega) (by omega), zI_cn (by omega), m1 82 (by decide), (T0 (q + 1)).2, zI_eq (by have := (T0 (q + 1)).1; omega) (by omega)]
        by_cases g : q + 1 < n
        · rw [if_pos g]
          exact ⟨fun e => e.2, fun e => ⟨by omega, e⟩⟩
        · rw [if_neg g]
          exact ⟨fun e => absurd e.1 (by omega), fun e => absurd e (by omega)⟩
      have vc : vc_Model_signOf M1 (zI (B q)) := by
        have va : ∀ y, vc_Model_isAt M1 (M1 81 21) y := fun y h => by
          rw [m21, zI_vp (by omega)]
          rw [m21, mj 20 (by decide), e4, zI_le (by omega) (by omega)] at h
          omega
        exact ⟨fun _ _ => va _, fun _ => ⟨va _, fun _ => va _⟩⟩
      refine ⟨vc, ?_⟩
      have fin : ∀ kd : Int32, ∀ l, ∀ L : Nat → Nat → Int32, (∀ d, d ≠ 81 → L d = M0 d) → (∀ j, j ≠ 21 → j ≠ 22 → j ≠ 23 → L 81 j = M0 81 j) → L 81 21 = zI (q + l) → (sgC (B q) (nxB B n q)).2 = l → tkR B q (sgC (B q) (nxB B n q)).1 (q + l) (L 81 22) (L 81 23) → Q none (sM mo G L J) := by
        intro kd l L b1 b2 b3 b4 b5
        refine hQ L ⟨fun c hc => (b1 c hc).trans (a1 c hc), fun j d1 d2 d3 d4 => (b2 j d1 d2 d3).trans (aj j d4), (b2 24 (by decide) (by decide) (by decide)).trans a24, by rw [un, b4]; exact b3, by rw [un, b4]; exact b5⟩
      rcases sg_rel (M := M1) hB (at1 61 (by decide) (by decide)) (at1 62 (by decide) (by decide)) with ⟨v1, v2⟩ | ⟨t, l, v2, t1, t2, v1, v3⟩
      · rw [v1, if_neg (by decide), if_neg (by decide), if_neg (by decide), if_pos (by decide)]
        refine fin 4 1 _ (fun d hd => by rw [up2_rn _ _ _ _ _ hd, up2_rn _ _ _ _ _ hd]; exact m1 d hd) (fun j b c d => by rw [up2_ra, va_ap, if_neg c, up2_ra, va_ap, if_neg d]; exact mj j b) (by simp (decide := true) only [up2_ra, up2_rn, va_ap, ne_eq, if_false, if_true, not_false_eq_true]; exact m21) (by rw [v2]) ?_
        rw [v2]
        exact Or.inr (Or.inr (Or.inr (Or.inl ⟨rfl, by simp (decide := true) only [up2_ra, up2_rn, va_ap, ne_eq, if_false, if_true, not_false_eq_true]⟩)))
      · have sb : sgW t < 100 := by
          unfold sgW
          split
          · omega
          · split
            · omega
            · split
              · omega
              · split <;> omega
        rw [v1, if_pos (by rw [zIl_le (c := 0) (by decide) (by omega)]; exact Nat.zero_le _)]
        rcases v3 with ⟨rfl, v3⟩ | ⟨rfl, v4, v5, v6⟩
        · have two : Q none (sM mo G (up2 (up2 (up2 M1 81 23 (zI (sgW t))) 81 22 3) 81 21 (zI (q + 2))) J) := by
            refine fin 3 2 _ (fun d hd => by rw [up2_rn _ _ _ _ _ hd, up2_rn _ _ _ _ _ hd, up2_rn _ _ _ _ _ hd]; exact m1 d hd) (fun j b c d => by rw [up2_ra, va_ap, if_neg b, up2_ra, va_ap, if_neg c, up2_ra, va_ap, if_neg d]; exact mj j b) (by simp (decide := true) only [up2_ra, up2_rn, va_ap, ne_eq, if_false, if_true, not_false_eq_true]) (by rw [v2]) ?_
            rw [v2]
            exact Or.inr (Or.inr (Or.inl ⟨t1, t2, by simp (decide := true) only [up2_ra, up2_rn, va_ap, ne_eq, if_false, if_true, not_false_eq_true], by simp (decide := true) only [up2_ra, up2_rn, va_ap, ne_eq, if_false, if_true, not_false_eq_true]⟩))
          rcases v3 with e | e | e
          · rw [if_pos (by rw [e]; rfl)]; exact two
          · rw [if_neg (by rw [e]; decide), if_pos (by rw [e]; rfl)]; exact two
          · rw [if_neg (by rw [e]; decide), if_neg (by rw [e]; decide), if_neg (by rw [e]; exact fun x => x rfl)]; exact two
        · rw [if_neg (by rw [zIr_eq (c := 2) (by decide) (by omega)]; exact v4), if_neg (by rw [zIr_eq (c := 4) (by decide) (by omega)]; exact v5), if_pos (by rw [zIr_eq (c := 5) (by decide) (by omega)]; exact v6)]
          refine fin 3 1 _ (fun d hd => by rw [up2_rn _ _ _ _ _ hd, up2_rn _ _ _ _ _ hd]; exact m1 d hd) (fun j b c d => by rw [up2_ra, va_ap, if_neg c, up2_ra, va_ap, if_neg d]; exact mj j b) (by simp (decide := true) only [up2_ra, up2_rn, va_ap, ne_eq, if_false, if_true, not_false_eq_true]; exact m21) (by rw [v2]) ?_
          rw [v2]
          exact Or.inr (Or.inr (Or.inl ⟨t1, t2, by simp (decide := true) only [up2_ra, up2_rn, va_ap, ne_eq, if_false, if_true, not_false_eq_true], by simp (decide := true) only [up2_ra, up2_rn, va_ap, ne_eq, if_false, if_true, not_false_eq_true]⟩))
theorem ct_226 {B : Nat → Nat} {n : Nat} (hT : tpM B (I 82)) (hX : ivX (I 93)) (h4 : I 81 20 = zI n) (hn : n ≤ 400) : ∀ f p, p + f = n → ∀ K, (∀ c, c ≠ 81 → K c = I c) → (∀ j, j ≠ 21 → K 81 j = I 81 j) → K 81 21 = zI p → (∀ L, tkM B n (sp (isBl B) f p) I L → Q none (sM mo G L J)) → sm_wp X 226 0 [some (.ref 81), none] [] (sM mo G K J) Q := by
  intro f
  induction f with
  | zero =>
    intro p hf K k1 kj k5 hQ
    have e4 : K 81 20 = zI n := by rw [kj 20 (by decide)]; exact h4
    have un : tkN B n p = (34, p) := by unfold tkN; rw [if_pos (by omega)]
    rw [lp_226_0, if_pos (by rw [e4, k5, zI_le (by omega) (by omega)]; omega), if_neg (by rw [e4, k5, show p = n from by omega]; exact fun e => e rfl)]
    refine hQ _ ⟨fun c hc => by rw [up2_rn _ _ _ _ _ hc, up2_rn _ _ _ _ _ hc]; exact k1 c hc, fun j b1 b2 b3 b4 => by rw [up2_ra, va_ap, if_neg b2, up2_ra, va_ap, if_neg b4]; exact kj j b1, ?_, ?_, ?_⟩
    · simp (decide := true) only [up2_ra, up2_rn, va_ap, ne_eq, if_false, if_true, not_false_eq_true]; exact k5
    · show _ = zI (tkN B n p).2
      rw [un]; simp (decide := true) only [up2_ra, up2_rn, va_ap, ne_eq, if_false, if_true, not_false_eq_true]; exact k5
    · show tkR B p (tkN B n p).1 (tkN B n p).2 _ _
      rw [un]
      exact Or.inl ⟨rfl, by simp (decide := true) only [up2_ra, up2_rn, va_ap, ne_eq, if_false, if_true, not_false_eq_true]⟩
  | succ f ih =>
    intro p hf K k1 kj k5 hQ
    have e4 : K 81 20 = zI n := by rw [kj 20 (by decide)]; exact h4
    have T : tpM B (K 82) := by rw [k1 82 (by decide)]; exact hT
    have hB := (T p).1
    have un : sp (isBl B) (f + 1) p = if isBl B p = true then sp (isBl B) f (p + 1) else p := rfl
    by_cases g : isBl B p = true
    · rw [if_pos g] at un
      rw [un] at hQ
      have go : sm_wp X 226 0 [some (.ref 81), none] [] (sM mo G (up2 K 81 21 (zI p + 1)) J) Q := by
        rw [show zI p + 1 = zI (p + 1) from zIr_add 1 p]
        exact ih (p + 1) (by omega) _ (fun c hc => by rw [up2_rn _ _ _ _ _ hc]; exact k1 c hc) (fun j hj => by rw [up2_ra, va_ap, if_neg hj]; exact kj j hj) up2_ss hQ
      rw [lp_226_0, if_neg (by rw [e4, k5, zI_le (by omega) (by omega)]; omega), k5, zI_vp (by omega)]
      refine ⟨by omega, ?_⟩
      unfold isBl at g
      rw [Bool.or_eq_true, decide_eq_true_iff, decide_eq_true_iff] at g
      by_cases g1 : B p = 10
      · rw [if_pos (by rw [zI_cn (by omega), (T p).2, g1]; rfl)]; exact go
      · rw [if_neg (by rw [zI_cn (by omega), (T p).2, zIr_eq (c := 10) (by decide) (by omega)]; exact g1), if_neg (fun e => e (by rw [zI_cn (by omega), (T p).2, g.resolve_left g1]; rfl))]
        exact go
    · rw [if_neg g] at un
      rw [un] at hQ
      refine mk_1 T (by rw [k1 93 (by decide)]; exact hX) e4 hn k5 (by omega) g (fun L hL => hQ L ?_)
      obtain ⟨l1, l2, l3, l4, l5⟩ := hL
      exact ⟨fun c hc => (l1 c hc).trans (k1 c hc), fun j b1 b2 b3 b4 => (l2 j b1 b2 b3 b4).trans (kj j b1), l3, l4, l5⟩
end K4
end
section
/-! The class takes a token. -/
def sc16 (r : Nat → Int32) (a z w d kn o : Nat) (cm : Int32) : Prop := (r 0 = 0 ∧ r 2 = zI a ∧ r 3 = zI z ∧ r 9 = zI w ∧ r 10 = zI d ∧ r 11 = zI kn ∧ r 12 = zI o ∧ r 13 = cm) ∧ a ≤ 16 ∧ z ≤ 64 ∧ w ≤ 72 ∧ kn ≤ 64 ∧ o ≤ 8 ∧ d ≤ 4
def fl1 (I : Nat → Nat → Int32) : Nat → Nat → Int32 := up2 (up2 I 16 0 1) 16 1 (I 14 1)
def fl2 (I : Nat → Nat → Int32) : Nat → Nat → Int32 := up2 (up2 I 16 0 2) 16 1 (I 14 1)
section A1
variable {X : (Nat → Int32) × Nat} {mo : Bool} {G : Nat × Nat} {I : Nat → Nat → Int32} {J : Nat → Nat → Int64} {Q : Option Value → sm_M → Prop}
theorem a_ve {a z w kn o : Nat} {cm : Int32} (h : sc16 (I 16) a z w 0 kn o cm) (hQ : Q none (sM mo G (up2 I 16 10 4) J)) : sm_wp X 48 0 [some (.ref 16), some (.int (zI 34))] [] (sM mo G I J) Q := by
  obtain ⟨⟨h0, h2, h3, h9, h10, h11, h12, h13⟩, b1, b2, b3, b4, b5, b6⟩ := h
  rw [lp_48_0]
  simp (disch := first | omega | decide) only [h10, zI_lt, zI_le, zI_eq, zI_cn, zI_vp, zI_add, zI_mul, zI_sub, zIl_add, zIr_add, zIl_mul, zIr_mul, zIr_sub, zIl_lt, zIr_lt, zIl_le, zIr_le, zIl_eq, zIr_eq, zI_sIn, zI_m1, zI_m1', Int32.add_zero, Int32.or_zero, if_pos, if_neg, not_true_eq_false, not_false_eq_true]
  exact hQ
theorem a_vb {a z w kn o t : Nat} {cm : Int32} (h : sc16 (I 16) a z w 0 kn o cm) (h3' : 3 < t) (h34 : ¬ t = 34) (ht : t < 100) (hQ : Q none (sM mo G (fl1 I) J)) : sm_wp X 48 0 [some (.ref 16), some (.int (zI t))] [] (sM mo G I J) Q := by
  obtain ⟨⟨h0, h2, h3, h9, h10, h11, h12, h13⟩, b1, b2, b3, b4, b5, b6⟩ := h
  rw [lp_48_0, if_neg (fun e => e h10)]
  simp (disch := first | omega | decide) only [zI_lt, zI_le, zI_eq, zI_cn, zI_vp, zI_add, zI_mul, zI_sub, zIl_add, zIr_add, zIl_mul, zIr_mul, zIr_sub, zIl_lt, zIr_lt, zIl_le, zIr_le, zIl_eq, zIr_eq, zI_sIn, zI_m1, zI_m1', Int32.add_zero, Int32.or_zero, if_pos, if_neg, not_true_eq_false, not_false_eq_true]
  exact hQ
theorem a_vf {z w kn o t : Nat} {cm : Int32} (h : sc16 (I 16) 16 z w 0 kn o cm) (h3' : t ≤ 3) (hQ : Q none (sM mo G (fl2 I) J)) : sm_wp X 48 0 [some (.ref 16), some (.int (zI t))] [] (sM mo G I J) Q := by
  obtain ⟨⟨h0, h2, h3, h9, h10, h11, h12, h13⟩, b1, b2, b3, b4, b5, b6⟩ := h
  rw [lp_48_0]
  simp (disch := first | omega | decide) only [h10, h2, zI_lt, zI_le, zI_eq, zI_cn, zI_vp, zI_add, zI_mul, zI_sub, zIl_add, zIr_add, zIl_mul, zIr_mul, zIr_sub, zIl_lt, zIr_lt, zIl_le, zIr_le, zIl_eq, zIr_eq, zI_sIn, zI_m1, zI_m1', Int32.add_zero, Int32.or_zero, if_pos, if_neg, not_true_eq_false, not_false_eq_true]
  exact hQ
theorem a_vo {a z w kn o t : Nat} {cm : Int32} (h : sc16 (I 16) a z w 0 kn o cm) (h3' : t ≤ 3) (h16 : a < 16) (hQ : Q none (sM mo G (up2 (up2 (up2 (up2 I 18 a (zI t)) 16 2 (zI (a + 1))) 16 13 0) 16 10 1) J)) : sm_wp X 48 0 [some (.ref 16), some (.int (zI t))] [] (sM mo G I J) Q := by
  obtain ⟨⟨h0, h2, h3, h9, h10, h11, h12, h13⟩, b1, b2, b3, b4, b5, b6⟩ := h
  rw [lp_48_0]
  simp (disch := first | omega | decide) only [h10, h2, zI_lt, zI_le, zI_eq, zI_cn, zI_vp, zI_add, zI_mul, zI_sub, zIl_add, zIr_add, zIl_mul, zIr_mul, zIr_sub, zIl_lt, zIr_lt, zIl_le, zIr_le, zIl_eq, zIr_eq, zI_sIn, zI_m1, zI_m1', Int32.add_zero, Int32.or_zero, if_pos, if_neg, not_true_eq_false, not_false_eq_true]
  exact ⟨h16, hQ⟩
/-- a number -/
theorem a_on {a z w d kn o nu : Nat} {cm : Int32} (h : sc16 (I 16) a z w d kn o cm) (hd : d = 1 ∨ d = 2) (hz : z < 64) (hk : kn < 64) (h14 : I 14 2 = zI nu) (hn : nu ≤ 99999) (hQ : Q none (sM mo G (up2 (up2 (up2 (up2 I 16 11 (zI (kn + 1))) 17 z (zI (100 + nu))) 16 3 (zI (z + 1))) 16 10 3) J)) : sm_wp X 48 0 [some (.ref 16), some (.int (zI 36))] [] (sM mo G I J) Q := by
  obtain ⟨⟨h0, h2, h3, h9, h10, h11, h12, h13⟩, b1, b2, b3, b4, b5, b6⟩ := h
  rw [lp_48_0]
  simp (disch := first | omega | decide) only [h10, h11, h3, h14, zI_lt, zI_le, zI_eq, zI_cn, zI_vp, zI_add, zI_mul, zI_sub, zIl_add, zIr_add, zIl_mul, zIr_mul, zIr_sub, zIl_lt, zIr_lt, zIl_le, zIr_le, zIl_eq, zIr_eq, zI_sIn, zI_m1, zI_m1', Int32.add_zero, Int32.or_zero, if_pos, if_neg, not_true_eq_false, not_false_eq_true]
  exact ⟨hz, hQ⟩
theorem a_onb {a z w d kn o nu : Nat} {cm : Int32} (h : sc16 (I 16) a z w d kn o cm) (hd : d = 1 ∨ d = 2) (h14 : I 14 2 = zI nu) (hn : 99999 < nu) (hn2 : nu < 1000000) (hQ : Q none (sM mo G (fl2 I) J)) : sm_wp X 48 0 [some (.ref 16), some (.int (zI 36))] [] (sM mo G I J) Q := by
  obtain ⟨⟨h0, h2, h3, h9, h10, h11, h12, h13⟩, b1, b2, b3, b4, b5, b6⟩ := h
  rw [lp_48_0]
  simp (disch := first | omega | decide) only [h10, h14, zI_lt, zI_le, zI_eq, zI_cn, zI_vp, zI_add, zI_mul, zI_sub, zIl_add, zIr_add, zIl_mul, zIr_mul, zIr_sub, zIl_lt, zIr_lt, zIl_le, zIr_le, zIl_eq, zIr_eq, zI_sIn, zI_m1, zI_m1', Int32.add_zero, Int32.or_zero, if_pos, if_neg, not_true_eq_false, not_false_eq_true]
  exact hQ
theorem a_onk {a z w d o nu : Nat} {cm : Int32} (h : sc16 (I 16) a z w d 64 o cm) (hd : d = 1 ∨ d = 2) (h14 : I 14 2 = zI nu) (hn : nu ≤ 99999) (hQ : Q none (sM mo G (fl2 I) J)) : sm_wp X 48 0 [some (.ref 16), some (.int (zI 36))] [] (sM mo G I J) Q := by
  obtain ⟨⟨h0, h2, h3, h9, h10, h11, h12, h13⟩, b1, b2, b3, b4, b5, b6⟩ := h
  rw [lp_48_0]
  simp (disch := first | omega | decide) only [h10, h11, h14, zI_lt, zI_le, zI_eq, zI_cn, zI_vp, zI_add, zI_mul, zI_sub, zIl_add, zIr_add, zIl_mul, zIr_mul, zIr_sub, zIl_lt, zIr_lt, zIl_le, zIr_le, zIl_eq, zIr_eq, zI_sIn, zI_m1, zI_m1', Int32.add_zero, Int32.or_zero, if_pos, if_neg, not_true_eq_false, not_false_eq_true]
  exact hQ
/-- a name -/
theorem a_om {a z w d kn o t : Nat} {cm : Int32} (h : sc16 (I 16) a z w d kn o cm) (hd : d = 1 ∨ d = 2) (hz : z < 64) (hk : kn < 64) (t1 : 7 ≤ t) (t2 : t < 19) (hQ : Q none (sM mo G (up2 (up2 (up2 (up2 I 16 11 (zI (kn + 1))) 17 z (zI t)) 16 3 (zI (z + 1))) 16 10 3) J)) : sm_wp X 48 0 [some (.ref 16), some (.int (zI t))] [] (sM mo G I J) Q := by
  obtain ⟨⟨h0, h2, h3, h9, h10, h11, h12, h13⟩, b1, b2, b3, b4, b5, b6⟩ := h
  rw [lp_48_0]
  simp (disch := first | omega | decide) only [h10, h11, h3, zI_lt, zI_le, zI_eq, zI_cn, zI_vp, zI_add, zI_mul, zI_sub, zIl_add, zIr_add, zIl_mul, zIr_mul, zIr_sub, zIl_lt, zIr_lt, zIl_le, zIr_le, zIl_eq, zIr_eq, zI_sIn, zI_m1, zI_m1', Int32.add_zero, Int32.or_zero, if_pos, if_neg, not_true_eq_false, not_false_eq_true]
  exact ⟨hz, hQ⟩
theorem a_omk {a z w d o t : Nat} {cm : Int32} (h : sc16 (I 16) a z w d 64 o cm) (hd : d = 1 ∨ d = 2) (t1 : 7 ≤ t) (t2 : t < 19) (hQ : Q none (sM mo G (fl2 I) J)) : sm_wp X 48 0 [some (.ref 16), some (.int (zI t))] [] (sM mo G I J) Q := by
  obtain ⟨⟨h0, h2, h3, h9, h10, h11, h12, h13⟩, b1, b2, b3, b4, b5, b6⟩ := h
  rw [lp_48_0]
  simp (disch := first | omega | decide) only [h10, h11, zI_lt, zI_le, zI_eq, zI_cn, zI_vp, zI_add, zI_mul, zI_sub, zIl_add, zIr_add, zIl_mul, zIr_mul, zIr_sub, zIl_lt, zIr_lt, zIl_le, zIr_le, zIl_eq, zIr_eq, zI_sIn, zI_m1, zI_m1', Int32.add_zero, Int32.or_zero, if_pos, if_neg, not_true_eq_false, not_false_eq_true]
  exact hQ
/-- a parenthesis -/
theorem a_oo {a z w d kn o : Nat} {cm : Int32} (h : sc16 (I 16) a z w d kn o cm) (hd : d = 1 ∨ d = 2) (hw : w < 72) (ho : o < 8) (hQ : Q none (sM mo G (up2 (up2 (up2 (up2 (up2 I 16 12 (zI (o + 1))) 16 13 (cm &&& (b1 (o + 1) ^^^ (-1)))) 20 w 30) 16 9 (zI (w + 1))) 16 10 1) J)) : sm_wp X 48 0 [some (.ref 16), some (.int (zI 30))] [] (sM mo G I J) Q := by
  obtain ⟨⟨h0, h2, h3, h9, h10, h11, h12, h13⟩, b1', b2, b3, b4, b5, b6⟩ := h
  rw [lp_48_0]
  simp (disch := first | omega | decide) only [h10, h12, h9, h13, zI_lt, zI_le, zI_eq, zI_cn, zI_vp, zI_add, zI_mul, zI_sub, zIl_add, zIr_add, zIl_mul, zIr_mul, zIr_sub, zIl_lt, zIr_lt, zIl_le, zIr_le, zIl_eq, zIr_eq, zI_sIn, zI_m1, zI_m1', Int32.add_zero, Int32.or_zero, if_pos, if_neg, not_true_eq_false, not_false_eq_true]
  exact ⟨hw, hQ⟩
theorem a_oof {a z w d kn : Nat} {cm : Int32} (h : sc16 (I 16) a z w d kn 8 cm) (hd : d = 1 ∨ d = 2) (hQ : Q none (sM mo G (fl2 I) J)) : sm_wp X 48 0 [some (.ref 16), some (.int (zI 30))] [] (sM mo G I J) Q := by
  obtain ⟨⟨h0, h2, h3, h9, h10, h11, h12, h13⟩, b1', b2, b3, b4, b5, b6⟩ := h
  rw [lp_48_0]
  simp (disch := first | omega | decide) only [h10, h12, zI_lt, zI_le, zI_eq, zI_cn, zI_vp, zI_add, zI_mul, zI_sub, zIl_add, zIr_add, zIl_mul, zIr_mul, zIr_sub, zIl_lt, zIr_lt, zIl_le, zIr_le, zIl_eq, zIr_eq, zI_sIn, zI_m1, zI_m1', Int32.add_zero, Int32.or_zero, if_pos, if_neg, not_true_eq_false, not_false_eq_true]
  exact hQ
/-- a minus, a not -/
theorem a_og {a z w d kn o : Nat} {cm : Int32} (h : sc16 (I 16) a z w d kn o cm) (hd : d = 1 ∨ d = 2) (hw : w < 72) (hk : kn < 64) (hQ : Q none (sM mo G (up2 (up2 (up2 (up2 I 16 11 (zI (kn + 1))) 20 w 33) 16 9 (zI (w + 1))) 16 10 2) J)) : sm_wp X 48 0 [some (.ref 16), some (.int (zI 20))] [] (sM mo G I J) Q := by
  obtain ⟨⟨h0, h2, h3, h9, h10, h11, h12, h13⟩, b1, b2, b3, b4, b5, b6⟩ := h
  rw [lp_48_0]
  simp (disch := first | omega | decide) only [h10, h11, h9, zI_lt, zI_le, zI_eq, zI_cn, zI_vp, zI_add, zI_mul, zI_sub, zIl_add, zIr_add, zIl_mul, zIr_mul, zIr_sub, zIl_lt, zIr_lt, zIl_le, zIr_le, zIl_eq, zIr_eq, zI_sIn, zI_m1, zI_m1', Int32.add_zero, Int32.or_zero, if_pos, if_neg, not_true_eq_false, not_false_eq_true]
  exact ⟨hw, hQ⟩
theorem a_ogk {a z w d o : Nat} {cm : Int32} (h : sc16 (I 16) a z w d 64 o cm) (hd : d = 1 ∨ d = 2) (hQ : Q none (sM mo G (fl2 I) J)) : sm_wp X 48 0 [some (.ref 16), some (.int (zI 20))] [] (sM mo G I J) Q := by
  obtain ⟨⟨h0, h2, h3, h9, h10, h11, h12, h13⟩, b1, b2, b3, b4, b5, b6⟩ := h
  rw [lp_48_0]
  simp (disch := first | omega | decide) only [h10, h11, zI_lt, zI_le, zI_eq, zI_cn, zI_vp, zI_add, zI_mul, zI_sub, zIl_add, zIr_add, zIl_mul, zIr_mul, zIr_sub, zIl_lt, zIr_lt, zIl_le, zIr_le, zIl_eq, zIr_eq, zI_sIn, zI_m1, zI_m1', Int32.add_zero, Int32.or_zero, if_pos, if_neg, not_true_eq_false, not_false_eq_true]
  exact hQ
theorem a_ot {a z w kn o : Nat} {cm : Int32} (h : sc16 (I 16) a z w 1 kn o cm) (hw : w < 72) (hk : kn < 64) (hQ : Q none (sM mo G (up2 (up2 (up2 (up2 I 16 11 (zI (kn + 1))) 20 w 4) 16 9 (zI (w + 1))) 16 10 1) J)) : sm_wp X 48 0 [some (.ref 16), some (.int (zI 4))] [] (sM mo G I J) Q := by
  obtain ⟨⟨h0, h2, h3, h9, h10, h11, h12, h13⟩, b1, b2, b3, b4, b5, b6⟩ := h
  rw [lp_48_0]
  simp (disch := first | omega | decide) only [h10, h11, h9, zI_lt, zI_le, zI_eq, zI_cn, zI_vp, zI_add, zI_mul, zI_sub, zIl_add, zIr_add, zIl_mul, zIr_mul, zIr_sub, zIl_lt, zIr_lt, zIl_le, zIr_le, zIl_eq, zIr_eq, zI_sIn, zI_m1, zI_m1', Int32.add_zero, Int32.or_zero, if_pos, if_neg, not_true_eq_false, not_false_eq_true]
  exact ⟨hw, hQ⟩
theorem a_otk {a z w o : Nat} {cm : Int32} (h : sc16 (I 16) a z w 1 64 o cm) (hQ : Q none (sM mo G (fl2 I) J)) : sm_wp X 48 0 [some (.ref 16), some (.int (zI 4))] [] (sM mo G I J) Q := by
  obtain ⟨⟨h0, h2, h3, h9, h10, h11, h12, h13⟩, b1, b2, b3, b4, b5, b6⟩ := h
  rw [lp_48_0]
  simp (disch := first | omega | decide) only [h10, h11, zI_lt, zI_le, zI_eq, zI_cn, zI_vp, zI_add, zI_mul, zI_sub, zIl_add, zIr_add, zIl_mul, zIr_mul, zIr_sub, zIl_lt, zIr_lt, zIl_le, zIr_le, zIl_eq, zIr_eq, zI_sIn, zI_m1, zI_m1', Int32.add_zero, Int32.or_zero, if_pos, if_neg, not_true_eq_false, not_false_eq_true]
  exact hQ
theorem a_ob {a z w d kn o t : Nat} {cm : Int32} (h : sc16 (I 16) a z w d kn o cm) (hd : d = 1 ∨ d = 2) (ht : t < 100) (t1 : ¬ t = 36) (t2 : ¬ (7 ≤ t ∧ t < 19)) (t3 : ¬ t = 30) (t4 : ¬ t = 20) (t5 : ¬ (t = 4 ∧ d = 1)) (hQ : Q none (sM mo G (fl1 I) J)) : sm_wp X 48 0 [some (.ref 16), some (.int (zI t))] [] (sM mo G I J) Q := by
  obtain ⟨⟨h0, h2, h3, h9, h10, h11, h12, h13⟩, b1, b2, b3, b4, b5, b6⟩ := h
  rw [lp_48_0]
  by_cases g : t < 7
  · by_cases g4 : t = 4
    · simp (disch := first | omega | decide) only [h10, zI_lt, zI_le, zI_eq, zI_cn, zI_vp, zI_add, zI_mul, zI_sub, zIl_add, zIr_add, zIl_mul, zIr_mul, zIr_sub, zIl_lt, zIr_lt, zIl_le, zIr_le, zIl_eq, zIr_eq, zI_sIn, zI_m1, zI_m1', Int32.add_zero, Int32.or_zero, if_pos, if_neg, not_true_eq_false, not_false_eq_true]
      exact hQ
    · simp (disch := first | omega | decide) only [h10, zI_lt, zI_le, zI_eq, zI_cn, zI_vp, zI_add, zI_mul, zI_sub, zIl_add, zIr_add, zIl_mul, zIr_mul, zIr_sub, zIl_lt, zIr_lt, zIl_le, zIr_le, zIl_eq, zIr_eq, zI_sIn, zI_m1, zI_m1', Int32.add_zero, Int32.or_zero, if_pos, if_neg, not_true_eq_false, not_false_eq_true]
      exact hQ
  · simp (disch := first | omega | decide) only [h10, zI_lt, zI_le, zI_eq, zI_cn, zI_vp, zI_add, zI_mul, zI_sub, zIl_add, zIr_add, zIl_mul, zIr_mul, zIr_sub, zIl_lt, zIr_lt, zIl_le, zIr_le, zIl_eq, zIr_eq, zI_sIn, zI_m1, zI_m1', Int32.add_zero, Int32.or_zero, if_pos, if_neg, not_true_eq_false, not_false_eq_true]
    exact hQ
end A1
end
section
/-! The class takes a token: what waits is put behind; the signs. -/
def stg (c : Nat) : Nat := if c = 30 then 0 else if c = 6 then 1 else if c = 5 then 2 else if c = 4 then 3 else if c = 19 ∨ c = 20 then 5 else if c = 21 ∨ c = 22 ∨ c = 23 then 6 else if c = 33 then 7 else 4
theorem stg_z {c : Nat} (h : c < 40) : vf_Read_strength (zI c) = zI (stg c) := by
  have e : ∀ c : Fin 40, vf_Read_strength (zI c.val) = zI (stg c.val) := by decide
  exact e ⟨c, h⟩
theorem stg_b (c : Nat) : stg c ≤ 7 := by
  unfold stg
  repeat' split
  all_goals omega
/-- so many are put behind; and what they make of a row -/
def pm (least : Nat) (sg : Nat → Nat) : Nat → Nat
  | 0 => 0
  | w + 1 => if least ≤ stg (sg w) then pm least sg w + 1 else 0
def pcG (least : Nat) (sg wo : Nat → Nat) : Nat → Nat → (Nat → Nat) → (Nat → Nat)
  | 0, _, f => f
  | w + 1, z, f => if least ≤ stg (sg w) then pcG least sg wo w (z + 1) (va_up f z (wo w)) else f
theorem pm_b (least : Nat) (sg : Nat → Nat) : ∀ w, pm least sg w ≤ w := by
  intro w
  induction w with
  | zero => exact Nat.le_refl _
  | succ w ih => unfold pm; split <;> omega
section A2
variable {X : (Nat → Int32) × Nat} {mo : Bool} {G : Nat × Nat} {I : Nat → Nat → Int32} {J : Nat → Nat → Int64} {Q : Option Value → sm_M → Prop}
theorem c_pop {least : Nat} {sg : Nat → Nat} (hl : least ≤ 8) (hl1 : 1 ≤ least) : ∀ w z c, w ≤ 72 → z + pm least sg w ≤ 64 → (∀ j, j < w → sg j < 40) → ∀ K, K 16 9 = zI w → K 16 3 = zI z → (∀ j, j < w → K 20 j = zI (sg j)) → (∀ i, i < z → K 17 i = zI (c i)) → (∀ L, (∀ d, d ≠ 16 → d ≠ 17 → L d = K d) → (∀ j, j ≠ 9 → j ≠ 3 → L 16 j = K 16 j) → L 16 9 = zI (w - pm least sg w) → L 16 3 = zI (z + pm least sg w) → (∀ i, i < z + pm least sg w → L 17 i = zI (pcG least sg sg w z c i)) → Q none (sM mo G L J)) → sm_wp X 55 0 [some (.ref 16), some (.int (zI least))] [] (sM mo G K J) Q := by
  intro w
  induction w with
  | zero =>
    intro z c hw hz hs K k9 k3 k20 k17 hQ
    rw [lp_55_0, if_pos (by rw [k9]; decide)]
    exact hQ K (fun _ _ _ => rfl) (fun _ _ _ => rfl) k9 k3 k17
  | succ w ih =>
    intro z c hw hz hs K k9 k3 k20 k17 hQ
    have sw := hs w (by omega)
    have sb := stg_b (sg w)
    have um : pm least sg (w + 1) = if least ≤ stg (sg w) then pm least sg w + 1 else 0 := rfl
    have uc : pcG least sg sg (w + 1) z c = if least ≤ stg (sg w) then pcG least sg sg w (z + 1) (va_up c z (sg w)) else c := rfl
    rw [lp_55_0, if_neg (by rw [k9, zIr_le (c := 0) (by decide) (by omega)]; show ¬ w + 1 ≤ 0; omega), if_neg (by rw [k9, zIl_lt (c := 72) (by decide) (by omega)]; show ¬ 72 < w + 1; omega), k9, show zI (w + 1) - 1 = zI w from zIr_sub (c := 1) (a := w + 1) (by show 1 ≤ w + 1; omega), zI_vp (by omega), zI_cn (by omega), k20 w (by omega), stg_z sw, k3]
    refine ⟨by omega, ?_⟩
    by_cases g : least ≤ stg (sg w)
    · rw [if_pos g] at um uc
      rw [um] at hz hQ
      rw [uc] at hQ
      rw [if_neg (by rw [zI_lt (by omega) (by omega)]; omega), if_neg (by rw [zIr_lt (c := 0) (by decide) (by omega)]; exact Nat.not_lt_zero _), if_neg (by rw [zIl_le (c := 64) (by decide) (by omega)]; show ¬ 64 ≤ z; omega), zI_vp (by omega), zI_cn (by omega), show zI z + 1 = zI (z + 1) from zIr_add 1 z]
      refine ⟨by omega, ih (z + 1) (va_up c z (sg w)) (by omega) (by omega) (fun j hj => hs j (by omega)) _ (by simp (decide := true) only [up2_ra, up2_rn, va_ap, ne_eq, if_false, if_true, not_false_eq_true]) (by simp (decide := true) only [up2_ra, up2_rn, va_ap, ne_eq, if_false, if_true, not_false_eq_true]) (fun j hj => by simp (decide := true) only [up2_ra, up2_rn, va_ap, ne_eq, if_false, if_true, not_false_eq_true]; exact k20 j (by omega)) (fun i hi => ?_) (fun L l1 lj l9 l3 l17 => ?_)⟩
      · simp (decide := true) only [up2_ra, up2_rn, va_ap, ne_eq, if_false, if_true, not_false_eq_true]
        by_cases e : i = z
        · rw [if_pos e, if_pos e]
        · rw [if_neg e, if_neg e]; exact k17 i (by omega)
      · refine hQ L (fun d a b => by rw [l1 d a b, up2_rn _ _ _ _ _ a, up2_rn _ _ _ _ _ b, up2_rn _ _ _ _ _ a]) (fun j a b => by rw [lj j a b, up2_ra, va_ap, if_neg b, up2_rn _ _ _ _ _ (by decide), up2_ra, va_ap, if_neg a]) (by rw [l9]; congr 1; omega) (by rw [l3]; congr 1; omega) (fun i hi => l17 i (by omega))
    · rw [if_neg g] at um uc
      rw [um] at hQ
      rw [uc] at hQ
      rw [if_pos (by rw [zI_lt (by omega) (by omega)]; omega)]
      exact hQ K (fun _ _ _ => rfl) (fun _ _ _ => rfl) k9 k3 k17
/-- a sign between two -/
theorem c_bin {a z w kn o t du : Nat} {cm cm' : Int32} {c sg : Nat → Nat} (h : sc16 (I 16) a z w 3 kn o cm) (hk : kn < 64) (hz : z + pm (stg t) sg w ≤ 64) (hw : w - pm (stg t) sg w < 72) (hs : ∀ j, j < w → sg j < 40) (h20 : ∀ j, j < w → I 20 j = zI (sg j)) (h17 : ∀ i, i < z → I 17 i = zI (c i))
    (ht : (19 ≤ t ∧ t ≤ 23 ∧ du = 2 ∧ cm' = cm) ∨ (24 ≤ t ∧ t ≤ 29 ∧ ¬ bt cm o = true ∧ du = 2 ∧ cm' = cm ||| b1 o) ∨ ((t = 5 ∨ t = 6) ∧ du = 1 ∧ cm' = cm &&& (b1 o ^^^ (-1))))
    (hQ : ∀ L, (∀ d, d < 16 ∨ 20 < d → L d = I d) → L 18 = I 18 → L 19 = I 19 → (∀ j, j ≠ 9 → j ≠ 3 → j ≠ 10 → j ≠ 11 → j ≠ 13 → L 16 j = I 16 j) → L 16 9 = zI (w - pm (stg t) sg w + 1) → L 16 3 = zI (z + pm (stg t) sg w) → L 16 10 = zI du → L 16 11 = zI (kn + 1) → L 16 13 = cm' → (∀ i, i < z + pm (stg t) sg w → L 17 i = zI (pcG (stg t) sg sg w z c i)) → (∀ j, j < w - pm (stg t) sg w → L 20 j = zI (sg j)) → L 20 (w - pm (stg t) sg w) = zI t → Q none (sM mo G L J)) :
    sm_wp X 48 0 [some (.ref 16), some (.int (zI t))] [] (sM mo G I J) Q := by
  obtain ⟨⟨h0, h2, h3, h9, h10, h11, h12, h13⟩, b1', b2, b3, b4, b5, b6⟩ := h
  have t40 : t < 40 := by omega
  have st1 : 1 ≤ stg t := by
    have e : ∀ t : Fin 40, (19 ≤ t.val ∧ t.val ≤ 29 ∨ t.val = 5 ∨ t.val = 6) → 1 ≤ stg t.val := by decide
    exact e ⟨t, t40⟩ (by show 19 ≤ t ∧ t ≤ 29 ∨ t = 5 ∨ t = 6; omega)
  have stb := stg_b t
  have core : ∀ K, (∀ d, d ≠ 16 → K d = I d) → (∀ j, j ≠ 13 → K 16 j = I 16 j) → K 16 13 = cm' → ∀ R : Option Value → sm_M → Prop, (∀ L, R none (sM mo G L J) = Q none (sM mo G L J)) → sm_wp X 52 0 [some (.ref 16), some (.int (zI t)), some (.int (zI du))] [] (sM mo G K J) R := by
    intro K k1 kj k13 R hR
    rw [lp_52_0, if_pos (by rw [kj 11 (by decide), h11, zIr_lt (c := 64) (by decide) (by omega)]; exact hk), stg_z t40]
    refine c_pop (least := stg t) (sg := sg) (by omega) st1 w z c b3 hz hs _ (by rw [up2_ra, va_ap, if_neg (by decide), kj 9 (by decide)]; exact h9) (by rw [up2_ra, va_ap, if_neg (by decide), kj 3 (by decide)]; exact h3) (fun j hj => by rw [up2_rn _ _ _ _ _ (by decide), k1 20 (by decide)]; exact h20 j hj) (fun i hi => by rw [up2_rn _ _ _ _ _ (by decide), k1 17 (by decide)]; exact h17 i hi) ?_
    intro L l1 lj l9 l3 l17
    simp only [tl_none]
    rw [lp_52_15, l9, if_neg (by rw [zIr_lt (c := 0) (by decide) (by omega)]; exact Nat.not_lt_zero _), if_neg (by rw [zIl_le (c := 72) (by decide) (by omega)]; show ¬ 72 ≤ w - pm (stg t) sg w; omega), zI_vp (by omega), zI_cn (by omega), show zI (w - pm (stg t) sg w) + 1 = zI (w - pm (stg t) sg w + 1) from zIr_add 1 _, hR]
    have l20 : L 20 = I 20 := by rw [l1 20 (by decide) (by decide), up2_rn _ _ _ _ _ (by decide)]; exact k1 20 (by decide)
    refine ⟨hw, hQ _ (fun d hd => ?_) ?_ ?_ (fun j a b c d e => ?_) ?_ ?_ ?_ ?_ ?_ (fun i hi => ?_) (fun j hj => ?_) ?_⟩
    · rw [up2_rn _ _ _ _ _ (by omega), up2_rn _ _ _ _ _ (by omega), up2_rn _ _ _ _ _ (by omega), l1 d (by omega) (by omega), up2_rn _ _ _ _ _ (by omega)]
      exact k1 d (by omega)
    · simp (decide := true) only [up2_ra, up2_rn, va_ap, ne_eq, if_false, if_true, not_false_eq_true]; rw [l1 18 (by decide) (by decide), up2_rn _ _ _ _ _ (by decide)]; exact k1 18 (by decide)
    · simp (decide := true) only [up2_ra, up2_rn, va_ap, ne_eq, if_false, if_true, not_false_eq_true]; rw [l1 19 (by decide) (by decide), up2_rn _ _ _ _ _ (by decide)]; exact k1 19 (by decide)
    · rw [up2_ra, va_ap, if_neg c, up2_ra, va_ap, if_neg a, up2_rn _ _ _ _ _ (by decide), lj j a b, up2_ra, va_ap, if_neg d]
      exact kj j e
    · simp (decide := true) only [up2_ra, up2_rn, va_ap, ne_eq, if_false, if_true, not_false_eq_true]
    · simp (decide := true) only [up2_ra, up2_rn, va_ap, ne_eq, if_false, if_true, not_false_eq_true]; exact l3
    · simp (decide := true) only [up2_ra, up2_rn, va_ap, ne_eq, if_false, if_true, not_false_eq_true]
    · simp (decide := true) only [up2_ra, up2_rn, va_ap, ne_eq, if_false, if_true, not_false_eq_true]; rw [lj 11 (by decide) (by decide), up2_ra, va_ap, if_pos rfl, kj 11 (by decide), h11]; exact zIr_add 1 _
    · simp (decide := true) only [up2_ra, up2_rn, va_ap, ne_eq, if_false, if_true, not_false_eq_true]; rw [lj 13 (by decide) (by decide), up2_ra, va_ap, if_neg (by decide)]; exact k13
    · simp (decide := true) only [up2_ra, up2_rn, va_ap, ne_eq, if_false, if_true, not_false_eq_true]; exact l17 i hi
    · simp (decide := true) only [up2_ra, up2_rn, va_ap, ne_eq, if_false, if_true, not_false_eq_true]; rw [if_neg (by omega), l20]; exact h20 j (by omega)
    · simp (decide := true) only [up2_ra, up2_rn, va_ap, ne_eq, if_false, if_true, not_false_eq_true]
  rw [lp_48_0, if_pos (by rw [h10]; decide), if_neg (fun e => e h10), lp_51_0]
  have rw1 : ∀ L, (fun (v : Option Value) M => sm_wp X 48 28 [some (.ref 16), some (.int (zI t))] (v.toList ++ []) M Q) none (sM mo G L J) = Q none (sM mo G L J) := fun L => by
    show sm_wp X 48 28 [some (.ref 16), some (.int (zI t))] [] (sM mo G L J) Q = _
    rw [lp_48_28]
  rcases ht with ⟨t1, t2, e1, e2⟩ | ⟨t1, t2, t3, e1, e2⟩ | ⟨t1, e1, e2⟩
  · subst e1 e2
    rw [if_neg (by rw [zIr_lt (c := 19) (by decide) (by omega)]; show ¬ t < 19; omega), if_neg (by rw [zIl_lt (c := 23) (by decide) (by omega)]; show ¬ 23 < t; omega)]
    refine core I (fun _ _ => rfl) (fun _ _ => rfl) h13 _ (fun L => ?_)
    show sm_wp X 51 18 [some (.ref 16), some (.int (zI t))] [] (sM mo G L J) _ = _
    rw [lp_51_18]
    exact rw1 L
  · subst e1 e2
    rw [if_neg (by rw [zIr_lt (c := 19) (by decide) (by omega)]; show ¬ t < 19; omega), if_pos (by rw [zIl_lt (c := 23) (by decide) (by omega)]; show 23 < t; omega), if_neg (by rw [zIr_lt (c := 24) (by decide) (by omega)]; show ¬ t < 24; omega), if_neg (by rw [zIl_lt (c := 29) (by decide) (by omega)]; show ¬ 29 < t; omega), if_neg (by rw [h13, h12, hb_bt _ _ (by omega)]; exact t3)]
    refine core _ (fun d hd => up2_rn _ _ _ _ _ hd) (fun j hj => by rw [up2_ra, va_ap, if_neg hj]) (by rw [up2_ra, va_ap, if_pos rfl, h13, h12]; rfl) _ (fun L => ?_)
    show sm_wp X 51 68 [some (.ref 16), some (.int (zI t))] [] (sM mo G L J) _ = _
    rw [lp_51_68]
    exact rw1 L
  · subst e1 e2
    rw [if_pos (by rw [zIr_lt (c := 19) (by decide) (by omega)]; show t < 19; omega), if_pos (by rw [zIr_lt (c := 24) (by decide) (by omega)]; show t < 24; omega)]
    have go : ∀ R : Option Value → sm_M → Prop, (∀ L, R none (sM mo G L J) = Q none (sM mo G L J)) → sm_wp X 52 0 [some (.ref 16), some (.int (zI t)), some (.int 1)] [] (sM mo G (up2 I 16 13 ((I 16 13) &&& (((1 : Int32) <<< ((I 16 12) &&& 31)) ^^^ (-1)))) J) R := fun R hR => core _ (fun d hd => up2_rn _ _ _ _ _ hd) (fun j hj => by rw [up2_ra, va_ap, if_neg hj]) (by rw [up2_ra, va_ap, if_pos rfl, h13, h12]; rfl) R hR
    have r2 : ∀ L, (fun (v : Option Value) M => sm_wp X 51 105 [some (.ref 16), some (.int (zI t))] (v.toList ++ []) M (fun (v : Option Value) M => sm_wp X 48 28 [some (.ref 16), some (.int (zI t))] (v.toList ++ []) M Q)) none (sM mo G L J) = Q none (sM mo G L J) := fun L => by
      show sm_wp X 51 105 [some (.ref 16), some (.int (zI t))] [] (sM mo G L J) _ = _
      rw [lp_51_105]
      exact rw1 L
    rcases t1 with t1 | t1
    · rw [if_pos (by rw [t1]; rfl)]
      exact go _ r2
    · rw [if_neg (by rw [t1]; decide), if_neg (fun e => e (by rw [t1]; rfl))]
      exact go _ r2
end A2
end
section
/-! The class takes a token: the closing parenthesis, the end of a line, the faults. -/
/-- what a fault leaves -/
def flt (f : Nat) (I L : Nat → Nat → Int32) : Prop := (∀ d, d ≠ 16 → L d = I d) ∧ L 16 0 = zI f ∧ L 16 1 = I 14 1
theorem flt_1 (I : Nat → Nat → Int32) : flt 1 I (fl1 I) := ⟨fun d hd => by unfold fl1; rw [up2_rn _ _ _ _ _ hd, up2_rn _ _ _ _ _ hd], by unfold fl1; simp (decide := true) only [up2_ra, up2_rn, va_ap, ne_eq, if_false, if_true, not_false_eq_true], by unfold fl1; simp (decide := true) only [up2_ra, up2_rn, va_ap, ne_eq, if_false, if_true, not_false_eq_true]⟩
theorem flt_2 (I : Nat → Nat → Int32) : flt 2 I (fl2 I) := ⟨fun d hd => by unfold fl2; rw [up2_rn _ _ _ _ _ hd, up2_rn _ _ _ _ _ hd], by unfold fl2; simp (decide := true) only [up2_ra, up2_rn, va_ap, ne_eq, if_false, if_true, not_false_eq_true], by unfold fl2; simp (decide := true) only [up2_ra, up2_rn, va_ap, ne_eq, if_false, if_true, not_false_eq_true]⟩
theorem flt_3 {I K : Nat → Nat → Int32} (h : ∀ d, d ≠ 16 → K d = I d) : flt 2 I (up2 (up2 K 16 0 2) 16 1 (K 14 1)) := ⟨fun d hd => by rw [up2_rn _ _ _ _ _ hd, up2_rn _ _ _ _ _ hd]; exact h d hd, by simp (decide := true) only [up2_ra, up2_rn, va_ap, ne_eq, if_false, if_true, not_false_eq_true], by simp (decide := true) only [up2_ra, up2_rn, va_ap, ne_eq, if_false, if_true, not_false_eq_true]; rw [h 14 (by decide)]⟩
section A3
variable {X : (Nat → Int32) × Nat} {mo : Bool} {G : Nat × Nat} {I : Nat → Nat → Int32} {J : Nat → Nat → Int64} {Q : Option Value → sm_M → Prop}
theorem c_rt (t : Int32) (L : Nat → Nat → Int32) : sm_wp X 48 28 [some (.ref 16), some (.int t)] [] (sM mo G L J) Q = Q none (sM mo G L J) := by rw [lp_48_28]
theorem c_clo {a z w kn o : Nat} {cm : Int32} {c sg : Nat → Nat} (h : sc16 (I 16) a z w 3 kn o cm) (ho : 0 < o) (hz : z + pm 1 sg w ≤ 64) (hw : 1 ≤ w - pm 1 sg w) (hs : ∀ j, j < w → sg j < 40) (h20 : ∀ j, j < w → I 20 j = zI (sg j)) (h17 : ∀ i, i < z → I 17 i = zI (c i))
    (hQ : ∀ L, (∀ d, d ≠ 16 → d ≠ 17 → L d = I d) → (∀ j, j ≠ 9 → j ≠ 3 → j ≠ 12 → L 16 j = I 16 j) → L 16 9 = zI (w - pm 1 sg w - 1) → L 16 3 = zI (z + pm 1 sg w) → L 16 12 = zI (o - 1) → (∀ i, i < z + pm 1 sg w → L 17 i = zI (pcG 1 sg sg w z c i)) → Q none (sM mo G L J)) :
    sm_wp X 48 0 [some (.ref 16), some (.int (zI 31))] [] (sM mo G I J) Q := by
  obtain ⟨⟨h0, h2, h3, h9, h10, h11, h12, h13⟩, b1', b2, b3, b4, b5, b6⟩ := h
  rw [lp_48_0, if_pos (by rw [h10]; decide), if_neg (fun e => e h10), lp_51_0, if_neg (by decide), if_pos (by decide), if_neg (by decide), if_pos (by decide), if_neg (by decide), if_pos (by decide), if_neg (by decide), if_neg (by rw [h12, zIr_le (c := 0) (by decide) (by omega)]; show ¬ o ≤ 0; omega)]
  refine c_pop (least := 1) (sg := sg) (by omega) (by omega) w z c b3 hz hs I h9 h3 h20 h17 ?_
  intro L l1 lj l9 l3 l17
  simp only [tl_none]
  have e9 : L 16 9 - 1 = zI (w - pm 1 sg w - 1) := by rw [l9]; exact zIr_sub (c := 1) hw
  rw [lp_51_126, e9, lj 12 (by decide) (by decide), h12]
  simp only [tl_none]
  rw [lp_48_28]
  refine hQ _ (fun d e f => by rw [up2_rn _ _ _ _ _ e, up2_rn _ _ _ _ _ e]; exact l1 d e f) (fun j e f g => by rw [up2_ra, va_ap, if_neg g, up2_ra, va_ap, if_neg e]; exact lj j e f) ?_ (by simp (decide := true) only [up2_ra, up2_rn, va_ap, ne_eq, if_false, if_true, not_false_eq_true]; exact l3) (by simp (decide := true) only [up2_ra, up2_rn, va_ap, ne_eq, if_false, if_true, not_false_eq_true]; exact zIr_sub (c := 1) ho) (fun i hi => by simp (decide := true) only [up2_ra, up2_rn, va_ap, ne_eq, if_false, if_true, not_false_eq_true]; exact l17 i hi)
  simp (decide := true) only [up2_ra, up2_rn, va_ap, ne_eq, if_false, if_true, not_false_eq_true]
  by_cases g : w - pm 1 sg w - 1 = 0
  · rw [g]; rfl
  · rw [if_pos (by rw [zIl_lt (c := 0) (by decide) (by omega)]; show 0 < w - pm 1 sg w - 1; omega)]
theorem c_eol {a z w kn : Nat} {cm : Int32} {c sg : Nat → Nat} (h : sc16 (I 16) a z w 3 kn 0 cm) (ha : 1 ≤ a) (hz : z + pm 1 sg w ≤ 64) (hs : ∀ j, j < w → sg j < 40) (h20 : ∀ j, j < w → I 20 j = zI (sg j)) (h17 : ∀ i, i < z → I 17 i = zI (c i))
    (hQ : ∀ L, (∀ d, d ≠ 16 → d ≠ 17 → d ≠ 19 → L d = I d) → (∀ j, j ≠ 9 → j ≠ 3 → j ≠ 10 → L 16 j = I 16 j) → L 16 9 = zI (w - pm 1 sg w) → L 16 3 = zI (z + pm 1 sg w) → L 16 10 = 0 → L 19 = va_up (I 19) (a - 1) (zI (z + pm 1 sg w)) → (∀ i, i < z + pm 1 sg w → L 17 i = zI (pcG 1 sg sg w z c i)) → Q none (sM mo G L J)) :
    sm_wp X 48 0 [some (.ref 16), some (.int (zI 32))] [] (sM mo G I J) Q := by
  obtain ⟨⟨h0, h2, h3, h9, h10, h11, h12, h13⟩, b1', b2, b3, b4, b5, b6⟩ := h
  rw [lp_48_0, if_pos (by rw [h10]; decide), if_neg (fun e => e h10), lp_51_0, if_neg (by decide), if_pos (by decide), if_neg (by decide), if_pos (by decide), if_neg (by decide), if_pos (by decide), if_pos (by decide), if_neg (by decide), if_neg (fun e => e h12), lp_58_0]
  refine c_pop (least := 1) (sg := sg) (by omega) (by omega) w z c b3 hz hs I h9 h3 h20 h17 ?_
  intro L l1 lj l9 l3 l17
  simp only [tl_none]
  have e2 : L 16 2 = zI a := by rw [lj 2 (by decide) (by decide)]; exact h2
  have e19 : L 19 = I 19 := l1 19 (by decide) (by decide)
  rw [lp_58_5, e2, if_neg (by rw [zIr_lt (c := 1) (by decide) (by omega)]; show ¬ a < 1; omega), if_neg (by rw [zIl_lt (c := 16) (by decide) (by omega)]; show ¬ 16 < a; omega), show zI a - 1 = zI (a - 1) from zIr_sub (c := 1) ha, zI_vp (by omega), zI_cn (by omega), l3]
  refine ⟨by omega, ?_⟩
  simp only [tl_none]
  rw [lp_51_170]
  simp only [tl_none]
  rw [lp_48_28]
  refine hQ _ (fun d e f g => by rw [up2_rn _ _ _ _ _ e, up2_rn _ _ _ _ _ g]; exact l1 d e f) (fun j e f g => by rw [up2_ra, va_ap, if_neg g, up2_rn _ _ _ _ _ (by decide)]; exact lj j e f) (by simp (decide := true) only [up2_ra, up2_rn, va_ap, ne_eq, if_false, if_true, not_false_eq_true]; exact l9) (by simp (decide := true) only [up2_ra, up2_rn, va_ap, ne_eq, if_false, if_true, not_false_eq_true]; exact l3) (by simp (decide := true) only [up2_ra, up2_rn, va_ap, ne_eq, if_false, if_true, not_false_eq_true]) (by simp (decide := true) only [up2_ra, up2_rn, va_ap, ne_eq, if_false, if_true, not_false_eq_true]; rw [e19]) (fun i hi => by simp (decide := true) only [up2_ra, up2_rn, va_ap, ne_eq, if_false, if_true, not_false_eq_true]; exact l17 i hi)
theorem c_bad {a z w kn o t : Nat} {cm : Int32} (h : sc16 (I 16) a z w 3 kn o cm) (ht : t < 100) (n1 : ¬ (t = 5 ∨ t = 6)) (n2 : ¬ (19 ≤ t ∧ t ≤ 23)) (n3 : ¬ (24 ≤ t ∧ t ≤ 29 ∧ ¬ bt cm o = true)) (n4 : ¬ (t = 31 ∧ 0 < o)) (n5 : ¬ (t = 32 ∧ o = 0)) (hQ : Q none (sM mo G (fl1 I) J)) :
    sm_wp X 48 0 [some (.ref 16), some (.int (zI t))] [] (sM mo G I J) Q := by
  obtain ⟨⟨h0, h2, h3, h9, h10, h11, h12, h13⟩, b1', b2, b3, b4, b5, b6⟩ := h
  have tail : (if zI t = 5 then sm_wp X 52 0 [some (.ref 16), some (.int (zI t)), some (.int 1)] [] (sM mo G (up2 I 16 13 ((I 16 13) &&& (((1 : Int32) <<< ((I 16 12) &&& 31)) ^^^ (-1)))) J) (fun v M => sm_wp X 51 105 [some (.ref 16), some (.int (zI t))] (v.toList ++ []) M (fun v M => sm_wp X 48 28 [some (.ref 16), some (.int (zI t))] (v.toList ++ []) M Q)) else (if ¬ zI t = 6 then (if ¬ zI t = 31 then (if ¬ zI t = 32 then ((fun (v : Option Value) M => sm_wp X 48 28 [some (.ref 16), some (.int (zI t))] (v.toList ++ []) M Q) none (sM mo G (up2 (up2 I 16 0 1) 16 1 (I 14 1)) J)) else (if ¬ I 16 12 = 0 then ((fun (v : Option Value) M => sm_wp X 48 28 [some (.ref 16), some (.int (zI t))] (v.toList ++ []) M Q) none (sM mo G (up2 (up2 I 16 0 1) 16 1 (I 14 1)) J)) else (sm_wp X 58 0 [some (.ref 16)] [] (sM mo G I J) (fun v M => sm_wp X 51 170 [some (.ref 16), some (.int (zI t))] (v.toList ++ []) M (fun v M => sm_wp X 48 28 [some (.ref 16), some (.int (zI t))] (v.toList ++ []) M Q))))) else (if I 16 12 ≤ 0 then (if ¬ zI t = 32 then ((fun (v : Option Value) M => sm_wp X 48 28 [some (.ref 16), some (.int (zI t))] (v.toList ++ []) M Q) none (sM mo G (up2 (up2 I 16 0 1) 16 1 (I 14 1)) J)) else (if ¬ I 16 12 = 0 then ((fun (v : Option Value) M => sm_wp X 48 28 [some (.ref 16), some (.int (zI t))] (v.toList ++ []) M Q) none (sM mo G (up2 (up2 I 16 0 1) 16 1 (I 14 1)) J)) else (sm_wp X 58 0 [some (.ref 16)] [] (sM mo G I J) (fun v M => sm_wp X 51 170 [some (.ref 16), some (.int (zI t))] (v.toList ++ []) M (fun v M => sm_wp X 48 28 [some (.ref 16), some (.int (zI t))] (v.toList ++ []) M Q))))) else (sm_wp X 55 0 [some (.ref 16), some (.int 1)] [] (sM mo G I J) (fun v M => sm_wp X 51 126 [some (.ref 16), some (.int (zI t))] (v.toList ++ []) M (fun v M => sm_wp X 48 28 [some (.ref 16), some (.int (zI t))] (v.toList ++ []) M Q))))) else (sm_wp X 52 0 [some (.ref 16), some (.int (zI t)), some (.int 1)] [] (sM mo G (up2 I 16 13 ((I 16 13) &&& (((1 : Int32) <<< ((I 16 12) &&& 31)) ^^^ (-1)))) J) (fun v M => sm_wp X 51 105 [some (.ref 16), some (.int (zI t))] (v.toList ++ []) M (fun v M => sm_wp X 48 28 [some (.ref 16), some (.int (zI t))] (v.toList ++ []) M Q))))) := by
    have fin : sm_wp X 48 28 [some (.ref 16), some (.int (zI t))] [] (sM mo G (up2 (up2 I 16 0 1) 16 1 (I 14 1)) J) Q := by
      rw [lp_48_28]; exact hQ
    rw [if_neg (by rw [zIr_eq (c := 5) (by decide) (by omega)]; show ¬ t = 5; omega), if_pos (by rw [zIr_eq (c := 6) (by decide) (by omega)]; show ¬ t = 6; omega)]
    by_cases g31 : t = 31
    · subst g31
      rw [if_neg (fun e => e rfl), if_pos (by rw [h12, zIr_le (c := 0) (by decide) (by omega)]; show o ≤ 0; omega), if_pos (by decide)]
      exact fin
    · rw [if_pos (by rw [zIr_eq (c := 31) (by decide) (by omega)]; exact g31)]
      by_cases g32 : t = 32
      · subst g32
        rw [if_neg (fun e => e rfl), if_pos (by rw [h12, zIr_eq (c := 0) (by decide) (by omega)]; show ¬ o = 0; omega)]
        exact fin
      · rw [if_pos (by rw [zIr_eq (c := 32) (by decide) (by omega)]; exact g32)]
        exact fin
  rw [lp_48_0, if_pos (by rw [h10]; decide), if_neg (fun e => e h10), lp_51_0]
  by_cases l19 : t < 19
  · rw [if_pos (by rw [zIr_lt (c := 19) (by decide) (by omega)]; exact l19), if_pos (by rw [zIr_lt (c := 24) (by decide) (by omega)]; show t < 24; omega)]
    exact tail
  · rw [if_neg (by rw [zIr_lt (c := 19) (by decide) (by omega)]; exact l19), if_pos (by rw [zIl_lt (c := 23) (by decide) (by omega)]; show 23 < t; omega), if_neg (by rw [zIr_lt (c := 24) (by decide) (by omega)]; show ¬ t < 24; omega)]
    by_cases l29 : 29 < t
    · rw [if_pos (by rw [zIl_lt (c := 29) (by decide) (by omega)]; exact l29)]
      exact tail
    · rw [if_neg (by rw [zIl_lt (c := 29) (by decide) (by omega)]; exact l29), if_pos (by rw [h13, h12, hb_bt _ _ (by omega)]; exact Classical.not_not.mp (fun e => n3 ⟨by omega, by omega, e⟩))]
      exact tail
theorem c_ful {a z w o t : Nat} {cm : Int32} (h : sc16 (I 16) a z w 3 64 o cm) (ht : (19 ≤ t ∧ t ≤ 23) ∨ (24 ≤ t ∧ t ≤ 29 ∧ ¬ bt cm o = true) ∨ (t = 5 ∨ t = 6)) (hQ : ∀ L, flt 2 I L → Q none (sM mo G L J)) :
    sm_wp X 48 0 [some (.ref 16), some (.int (zI t))] [] (sM mo G I J) Q := by
  obtain ⟨⟨h0, h2, h3, h9, h10, h11, h12, h13⟩, b1', b2, b3, b4, b5, b6⟩ := h
  have core : ∀ (du : Int32) K, (∀ d, d ≠ 16 → K d = I d) → K 16 11 = zI 64 → ∀ R : Option Value → sm_M → Prop, (∀ L, R none (sM mo G L J) = Q none (sM mo G L J)) → sm_wp X 52 0 [some (.ref 16), some (.int (zI t)), some (.int du)] [] (sM mo G K J) R := by
    intro du K k1 k11 R hR
    rw [lp_52_0, if_neg (by rw [k11]; decide), hR]
    exact hQ _ (flt_3 k1)
  rw [lp_48_0, if_pos (by rw [h10]; decide), if_neg (fun e => e h10), lp_51_0]
  have rw1 : ∀ L, (fun (v : Option Value) M => sm_wp X 48 28 [some (.ref 16), some (.int (zI t))] (v.toList ++ []) M Q) none (sM mo G L J) = Q none (sM mo G L J) := fun L => by
    show sm_wp X 48 28 [some (.ref 16), some (.int (zI t))] [] (sM mo G L J) Q = _
    rw [lp_48_28]
  have k13 : ∀ v d, d ≠ 16 → up2 I 16 13 v d = I d := fun v d hd => up2_rn _ _ _ _ _ hd
  have k11 : ∀ v, up2 I 16 13 v 16 11 = zI 64 := fun v => by rw [up2_ra, va_ap, if_neg (by decide)]; exact h11
  rcases ht with ⟨t1, t2⟩ | ⟨t1, t2, t3⟩ | t1
  · rw [if_neg (by rw [zIr_lt (c := 19) (by decide) (by omega)]; show ¬ t < 19; omega), if_neg (by rw [zIl_lt (c := 23) (by decide) (by omega)]; show ¬ 23 < t; omega)]
    refine core 2 I (fun _ _ => rfl) h11 _ (fun L => ?_)
    show sm_wp X 51 18 [some (.ref 16), some (.int (zI t))] [] (sM mo G L J) _ = _
    rw [lp_51_18]
    exact rw1 L
  · rw [if_neg (by rw [zIr_lt (c := 19) (by decide) (by omega)]; show ¬ t < 19; omega), if_pos (by rw [zIl_lt (c := 23) (by decide) (by omega)]; show 23 < t; omega), if_neg (by rw [zIr_lt (c := 24) (by decide) (by omega)]; show ¬ t < 24; omega), if_neg (by rw [zIl_lt (c := 29) (by decide) (by omega)]; show ¬ 29 < t; omega), if_neg (by rw [h13, h12, hb_bt _ _ (by omega)]; exact t3)]
    refine core 2 _ (k13 _) (k11 _) _ (fun L => ?_)
    show sm_wp X 51 68 [some (.ref 16), some (.int (zI t))] [] (sM mo G L J) _ = _
    rw [lp_51_68]
    exact rw1 L
  · rw [if_pos (by rw [zIr_lt (c := 19) (by decide) (by omega)]; show t < 19; omega), if_pos (by rw [zIr_lt (c := 24) (by decide) (by omega)]; show t < 24; omega)]
    have r2 : ∀ L, (fun (v : Option Value) M => sm_wp X 51 105 [some (.ref 16), some (.int (zI t))] (v.toList ++ []) M (fun (v : Option Value) M => sm_wp X 48 28 [some (.ref 16), some (.int (zI t))] (v.toList ++ []) M Q)) none (sM mo G L J) = Q none (sM mo G L J) := fun L => by
      show sm_wp X 51 105 [some (.ref 16), some (.int (zI t))] [] (sM mo G L J) _ = _
      rw [lp_51_105]
      exact rw1 L
    rcases t1 with t1 | t1
    · rw [if_pos (by rw [t1]; rfl)]
      exact core 1 _ (k13 _) (k11 _) _ r2
    · rw [if_neg (by rw [t1]; decide), if_neg (fun e => e (by rw [t1]; rfl))]
      exact core 1 _ (k13 _) (k11 _) _ r2
end A3
end
section
/-! Orders: what holds while they are read, without any memory. -/
def npr (sg : Nat → Nat) (j : Nat) : Bool := decide (¬ sg j = 30)
def par (sg : Nat → Nat) (j : Nat) : Bool := decide (sg j = 30)
def bnr (sg : Nat → Nat) (j : Nat) : Bool := decide (¬ sg j = 30 ∧ ar (sg j) = 2)
def vsg (s : Nat) : Prop := s = 30 ∨ s = 33 ∨ s = 4 ∨ s = 5 ∨ s = 6 ∨ (19 ≤ s ∧ s ≤ 29)
def on (d : Nat) : Nat := if d = 0 then 0 else 1
theorem on_1 {d : Nat} (h : ¬ d = 0) : on d = 1 := if_neg h
def lnO (c le : Nat → Nat) (z i : Nat) : Prop := ls le i ≤ le i ∧ le i ≤ z ∧ pL c (ls le i) (le i) ∧ hg c (ls le i) (le i - ls le i) = 1
def pW (m z w d kn o : Nat) (c sg vb le : Nat → Nat) : Prop := (m + on d ≤ 16 ∧ z + cN (npr sg) w = kn ∧ kn ≤ 64 ∧ cN (par sg) w = o ∧ o ≤ 8 ∧ d ≤ 3) ∧ ((∀ j, j < w → vsg (sg j)) ∧ (∀ i, i < z → vcd (c i)) ∧ (∀ i, i < m + on d → vb i ≤ 3)) ∧ (∀ i, i < m → lnO c le z i) ∧ ls le m ≤ z ∧
  (d = 0 → w = 0 ∧ z = ls le m) ∧ (¬ d = 0 → pL c (ls le m) z ∧ hg c (ls le m) (z - ls le m) = cN (bnr sg) w + (if d = 3 then 1 else 0))
theorem hg_s (c : Nat → Nat) (f k : Nat) : hg c f (k + 1) = hg c f k - ar (c (f + k)) + 1 := rfl
theorem hs_s (c gb : Nat → Nat) (f k : Nat) : hs c gb f (k + 1) = va_up (hs c gb f k) (hg c f k - ar (c (f + k))) (gb (f + k)) := rfl
theorem hg_c {c c' : Nat → Nat} {f : Nat} : ∀ k, (∀ i, f ≤ i → i < f + k → c i = c' i) → hg c f k = hg c' f k := by
  intro k
  induction k with
  | zero => exact fun _ => rfl
  | succ k ih => intro h; rw [hg_s, hg_s, ih (fun i a b => h i a (by omega)), h (f + k) (by omega) (by omega)]
theorem hs_c {c c' g g' : Nat → Nat} {f : Nat} : ∀ k, (∀ i, f ≤ i → i < f + k → c i = c' i ∧ g i = g' i) → hs c g f k = hs c' g' f k := by
  intro k
  induction k with
  | zero => exact fun _ => rfl
  | succ k ih => intro h; rw [hs_s, hs_s, ih (fun i a b => h i a (by omega)), hg_c k (fun i a b => (h i a (by omega)).1), (h (f + k) (by omega) (by omega)).1, (h (f + k) (by omega) (by omega)).2]
theorem hg_b (c : Nat → Nat) (f : Nat) : ∀ k, hg c f k ≤ k := by
  intro k
  induction k with
  | zero => exact Nat.le_refl _
  | succ k ih => rw [hg_s]; omega
theorem hs_b {c gb : Nat → Nat} {f b : Nat} : ∀ k, (∀ i, i < k → gb (f + i) < b) → ∀ j, j < hg c f k → hs c gb f k j < b := by
  intro k
  induction k with
  | zero => intro _ j hj; exact absurd hj (Nat.not_lt_zero _)
  | succ k ih =>
    intro h j hj
    rw [hg_s] at hj
    rw [hs_s]
    unfold va_up
    by_cases e : j = hg c f k - ar (c (f + k))
    · rw [if_pos e]; exact h k (by omega)
    · rw [if_neg e]; exact ih (fun i hi => h i (by omega)) j (by omega)
theorem pL_c {c c' : Nat → Nat} {f e : Nat} (h : ∀ i, f ≤ i → i < e → c i = c' i) (p : pL c f e) : pL c' f e := by
  intro k hk
  rw [← h (f + k) (by omega) hk, ← hg_c (c := c) k (fun i a b => h i a (by omega))]
  exact p k hk
theorem pL_s {c : Nat → Nat} {f z x : Nat} (hf : f ≤ z) (p : pL c f z) (hx : ar x ≤ hg c f (z - f)) : pL (va_up c z x) f (z + 1) := by
  intro k hk
  have g : hg (va_up c z x) f k = hg c f k := hg_c k (fun i a b => by unfold va_up; rw [if_neg (by omega)])
  rw [g]
  by_cases e : f + k = z
  · have : k = z - f := by omega
    unfold va_up
    rw [if_pos e, this]
    exact hx
  · unfold va_up
    rw [if_neg e]
    exact p k (by omega)
theorem hg_x {c : Nat → Nat} {f z x : Nat} (hf : f ≤ z) : hg (va_up c z x) f (z + 1 - f) = hg c f (z - f) - ar x + 1 := by
  rw [show z + 1 - f = (z - f) + 1 from by omega, hg_s, show f + (z - f) = z from by omega, hg_c (c' := c) (z - f) (fun i a b => by unfold va_up; rw [if_neg (by omega)])]
  unfold va_up
  rw [if_pos rfl]
theorem hs_x {c gb : Nat → Nat} {f z x g : Nat} (hf : f ≤ z) : hs (va_up c z x) (va_up gb z g) f (z + 1 - f) = va_up (hs c gb f (z - f)) (hg c f (z - f) - ar x) g := by
  rw [show z + 1 - f = (z - f) + 1 from by omega, hs_s, show f + (z - f) = z from by omega, hg_c (c' := c) (z - f) (fun i a b => by unfold va_up; rw [if_neg (by omega)]), hs_c (c' := c) (g' := gb) (z - f) (fun i a b => by unfold va_up; rw [if_neg (by omega), if_neg (by omega)]; exact ⟨rfl, rfl⟩)]
  have e1 : va_up c z x z = x := by unfold va_up; rw [if_pos rfl]
  have e2 : va_up gb z g z = g := by unfold va_up; rw [if_pos rfl]
  rw [e1, e2]
theorem lnO_c {c c' le le' : Nat → Nat} {z z' i : Nat} (hc : ∀ j, j < z → c j = c' j) (hl : ∀ j, j ≤ i → le j = le' j) (hz : z ≤ z') (h : lnO c le z i) : lnO c' le' z' i := by
  obtain ⟨a, b, p, q⟩ := h
  have e : ls le' i = ls le i := by
    unfold ls
    split
    · rfl
    · exact (hl (i - 1) (by omega)).symm
  unfold lnO
  rw [e, ← hl i (Nat.le_refl _)]
  refine ⟨a, by omega, pL_c (fun j _ hj => hc j (by omega)) p, ?_⟩
  rw [← hg_c (c := c) _ (fun j _ hj => hc j (by omega))]
  exact q
theorem cN_va {P R : Nat → Bool} {w : Nat} (h : ∀ l, l < w → P l = R l) : cN P w = cN R w := cN_congr h
theorem npr_u (sg : Nat → Nat) (w x : Nat) : cN (npr (va_up sg w x)) w = cN (npr sg) w := cN_congr (fun l hl => by unfold npr va_up; rw [if_neg (by omega)])
theorem par_u (sg : Nat → Nat) (w x : Nat) : cN (par (va_up sg w x)) w = cN (par sg) w := cN_congr (fun l hl => by unfold par va_up; rw [if_neg (by omega)])
theorem bnr_u (sg : Nat → Nat) (w x : Nat) : cN (bnr (va_up sg w x)) w = cN (bnr sg) w := cN_congr (fun l hl => by unfold bnr va_up; rw [if_neg (by omega)])
theorem np_w (sg : Nat → Nat) : ∀ w, cN (npr sg) w + cN (par sg) w = w := by
  intro w
  induction w with
  | zero => rfl
  | succ w ih =>
    by_cases g : sg w = 30
    · rw [cN_q (P := npr sg) (by unfold npr; rw [decide_eq_true_iff]; exact fun e => e g), cN_p (P := par sg) (by unfold par; rw [decide_eq_true_iff]; exact g)]; omega
    · rw [cN_p (P := npr sg) (by unfold npr; rw [decide_eq_true_iff]; exact g), cN_q (P := par sg) (by unfold par; rw [decide_eq_true_iff]; exact g)]; omega
theorem npr_s {sg : Nat → Nat} {w : Nat} : cN (npr sg) (w + 1) = cN (npr sg) w + (if sg w = 30 then 0 else 1) := by
  by_cases g : sg w = 30
  · rw [if_pos g, cN_q (P := npr sg) (by unfold npr; rw [decide_eq_true_iff]; exact fun e => e g)]; rfl
  · rw [if_neg g, cN_p (P := npr sg) (by unfold npr; rw [decide_eq_true_iff]; exact g)]
theorem par_s {sg : Nat → Nat} {w : Nat} : cN (par sg) (w + 1) = cN (par sg) w + (if sg w = 30 then 1 else 0) := by
  by_cases g : sg w = 30
  · rw [if_pos g, cN_p (P := par sg) (by unfold par; rw [decide_eq_true_iff]; exact g)]
  · rw [if_neg g, cN_q (P := par sg) (by unfold par; rw [decide_eq_true_iff]; exact g)]; rfl
theorem bnr_s {sg : Nat → Nat} {w : Nat} : cN (bnr sg) (w + 1) = cN (bnr sg) w + (if ¬ sg w = 30 ∧ ar (sg w) = 2 then 1 else 0) := by
  by_cases g : ¬ sg w = 30 ∧ ar (sg w) = 2
  · rw [if_pos g, cN_p (P := bnr sg) (by unfold bnr; rw [decide_eq_true_iff]; exact g)]
  · rw [if_neg g, cN_q (P := bnr sg) (by unfold bnr; rw [decide_eq_true_iff]; exact g)]; rfl
theorem va_s (f : Nat → Nat) (k v : Nat) : va_up f k v k = v := if_pos rfl
theorem va_n (f : Nat → Nat) {k j : Nat} (v : Nat) (h : ¬ j = k) : va_up f k v j = f j := if_neg h
/-- an operand -/
theorem pW_o {m z w d kn o x : Nat} {c sg vb le : Nat → Nat} (h : pW m z w d kn o c sg vb le) (hd : d = 1 ∨ d = 2) (hk : kn < 64) (hx : vcd x) (ha : ar x = 0) : pW m (z + 1) w 3 (kn + 1) o (va_up c z x) sg vb le := by
  obtain ⟨⟨h1, h2, h3, h4, h5, h6⟩, ⟨s1, s2, s3⟩, hl, hz, h0, hn⟩ := h
  obtain ⟨n1, n2⟩ := hn (by omega)
  have od : on d = 1 := on_1 (by omega)
  rw [od] at h1 s3
  refine ⟨⟨by rw [on_1 (by omega)]; exact h1, by omega, by omega, h4, h5, by omega⟩, ⟨s1, fun i hi => ?_, by rw [on_1 (by omega)]; exact s3⟩, fun i hi => lnO_c (fun j hj => (va_n c x (by omega)).symm) (fun _ _ => rfl) (by omega) (hl i hi), by omega, fun e => by omega, fun _ => ⟨pL_s hz n1 (by omega), ?_⟩⟩
  · by_cases e : i = z
    · rw [e, va_s]; exact hx
    · rw [va_n _ _ e]; exact s2 i (by omega)
  · rw [hg_x hz, n2, ha, if_pos rfl, if_neg (by omega)]; omega
/-- a sign that waits: before an operand, or an open parenthesis -/
theorem pW_u {m z w d kn o x d' kn' o' : Nat} {c sg vb le : Nat → Nat} (h : pW m z w d kn o c sg vb le) (hd : d = 1 ∨ d = 2) (hd' : d' = 1 ∨ d' = 2) (hx : vsg x) (ha : (x = 30 ∧ kn' = kn ∧ o' = o + 1 ∧ o < 8) ∨ (¬ x = 30 ∧ ar x = 1 ∧ kn' = kn + 1 ∧ o' = o ∧ kn < 64)) : pW m z (w + 1) d' kn' o' c (va_up sg w x) vb le := by
  obtain ⟨⟨h1, h2, h3, h4, h5, h6⟩, ⟨s1, s2, s3⟩, hl, hz, h0, hn⟩ := h
  obtain ⟨n1, n2⟩ := hn (by omega)
  have od : on d = 1 := on_1 (by omega)
  have od' : on d' = 1 := on_1 (by omega)
  rw [od] at h1 s3
  have e1 := npr_s (sg := va_up sg w x) (w := w)
  have e2 := par_s (sg := va_up sg w x) (w := w)
  have e3 := bnr_s (sg := va_up sg w x) (w := w)
  rw [va_s, npr_u] at e1
  rw [va_s, par_u] at e2
  rw [va_s, bnr_u] at e3
  refine ⟨⟨by rw [od']; exact h1, ?_, ?_, ?_, ?_, by omega⟩, ⟨fun j hj => ?_, s2, by rw [od']; exact s3⟩, hl, hz, fun e => by omega, fun _ => ⟨n1, ?_⟩⟩
  · rcases ha with ⟨a1, a2, a3, a4⟩ | ⟨a1, a2, a3, a4, a5⟩
    · rw [e1, if_pos a1]; omega
    · rw [e1, if_neg a1]; omega
  · rcases ha with ⟨a1, a2, a3, a4⟩ | ⟨a1, a2, a3, a4, a5⟩ <;> omega
  · rcases ha with ⟨a1, a2, a3, a4⟩ | ⟨a1, a2, a3, a4, a5⟩
    · rw [e2, if_pos a1]; omega
    · rw [e2, if_neg a1]; omega
  · rcases ha with ⟨a1, a2, a3, a4⟩ | ⟨a1, a2, a3, a4, a5⟩ <;> omega
  · by_cases e : j = w
    · rw [e, va_s]; exact hx
    · rw [va_n _ _ e]; exact s1 j (by omega)
  · rw [n2, e3, if_neg (by omega), if_neg (by omega), if_neg (by rintro ⟨a, b⟩; rcases ha with ⟨a1, a2, a3, a4⟩ | ⟨a1, a2, a3, a4, a5⟩ <;> omega)]
/-- what waits on top has its right side -/
theorem pW_p {m z w kn o : Nat} {c sg vb le : Nat → Nat} (h : pW m z (w + 1) 3 kn o c sg vb le) (hx : ¬ sg w = 30) : pW m (z + 1) w 3 kn o (va_up c z (sg w)) sg vb le ∧ (ar (sg w) = 1 ∨ ar (sg w) = 2) ∧ ar (sg w) ≤ hg c (ls le m) (z - ls le m) ∧ z < 64 := by
  obtain ⟨⟨h1, h2, h3, h4, h5, h6⟩, ⟨s1, s2, s3⟩, hl, hz, h0, hn⟩ := h
  obtain ⟨n1, n2⟩ := hn (by omega)
  have vw := s1 w (by omega)
  have v1 : vcd (sg w) := by unfold vsg at vw; unfold vcd; omega
  have v2 : ar (sg w) = 1 ∨ ar (sg w) = 2 := by unfold vsg at vw; unfold ar; split <;> (try split) <;> omega
  rw [npr_s, if_neg hx] at h2
  rw [par_s, if_neg hx] at h4
  rw [bnr_s, if_pos rfl] at n2
  have v3 : ar (sg w) ≤ hg c (ls le m) (z - ls le m) := by
    rw [n2]
    rcases v2 with v2 | v2
    · omega
    · rw [if_pos ⟨hx, v2⟩]; omega
  refine ⟨⟨⟨h1, by omega, h3, by omega, h5, h6⟩, ⟨fun j hj => s1 j (by omega), fun i hi => ?_, s3⟩, fun i hi => lnO_c (fun j hj => (va_n c _ (by omega)).symm) (fun _ _ => rfl) (by omega) (hl i hi), by omega, fun e => by omega, fun _ => ⟨pL_s hz n1 v3, ?_⟩⟩, v2, v3, by omega⟩
  · by_cases e : i = z
    · rw [e, va_s]; exact v1
    · rw [va_n _ _ e]; exact s2 i (by omega)
  · rw [hg_x hz, n2, if_pos rfl]
    rcases v2 with v2 | v2
    · rw [v2, if_neg (by rintro ⟨-, b⟩; omega)]; omega
    · rw [v2, if_pos ⟨hx, rfl⟩]; omega
/-- a sign between two waits -/
theorem pW_b {m z w d' kn o x : Nat} {c sg vb le : Nat → Nat} (h : pW m z w 3 kn o c sg vb le) (hd' : d' = 1 ∨ d' = 2) (hk : kn < 64) (hx : vsg x) (h30 : ¬ x = 30) (ha : ar x = 2) : pW m z (w + 1) d' (kn + 1) o c (va_up sg w x) vb le := by
  obtain ⟨⟨h1, h2, h3, h4, h5, h6⟩, ⟨s1, s2, s3⟩, hl, hz, h0, hn⟩ := h
  obtain ⟨n1, n2⟩ := hn (by omega)
  have od' : on d' = on 3 := by rw [on_1 (by omega), on_1 (by omega)]
  have e1 := npr_s (sg := va_up sg w x) (w := w)
  have e2 := par_s (sg := va_up sg w x) (w := w)
  have e3 := bnr_s (sg := va_up sg w x) (w := w)
  rw [va_s, npr_u, if_neg h30] at e1
  rw [va_s, par_u, if_neg h30] at e2
  rw [va_s, bnr_u, if_pos ⟨h30, ha⟩] at e3
  refine ⟨⟨by rw [od']; exact h1, by omega, by omega, by omega, h5, by omega⟩, ⟨fun j hj => ?_, s2, by rw [od']; exact s3⟩, hl, hz, fun e => by omega, fun _ => ⟨n1, ?_⟩⟩
  · by_cases e : j = w
    · rw [e, va_s]; exact hx
    · rw [va_n _ _ e]; exact s1 j (by omega)
  · rw [n2, e3, if_pos rfl, if_neg (by omega)]
/-- a closing parenthesis meets its open one -/
theorem pW_q {m z w kn o : Nat} {c sg vb le : Nat → Nat} (h : pW m z (w + 1) 3 kn o c sg vb le) (hx : sg w = 30) : pW m z w 3 kn (o - 1) c sg vb le ∧ 0 < o := by
  obtain ⟨⟨h1, h2, h3, h4, h5, h6⟩, ⟨s1, s2, s3⟩, hl, hz, h0, hn⟩ := h
  obtain ⟨n1, n2⟩ := hn (by omega)
  rw [npr_s, if_pos hx] at h2
  rw [par_s, if_pos hx] at h4
  rw [bnr_s, if_neg (fun e => e.1 hx)] at n2
  exact ⟨⟨⟨h1, by omega, h3, by omega, by omega, h6⟩, ⟨fun j hj => s1 j (by omega), s2, s3⟩, hl, hz, fun e => by omega, fun _ => ⟨n1, n2⟩⟩, by omega⟩
/-- a line ends -/
theorem pW_e {m z kn : Nat} {c sg vb le : Nat → Nat} (h : pW m z 0 3 kn 0 c sg vb le) : pW (m + 1) z 0 0 kn 0 c sg vb (va_up le m z) := by
  obtain ⟨⟨h1, h2, h3, h4, h5, h6⟩, ⟨s1, s2, s3⟩, hl, hz, h0, hn⟩ := h
  obtain ⟨n1, n2⟩ := hn (by omega)
  rw [on_1 (by omega)] at h1 s3
  have l1 : ls (va_up le m z) (m + 1) = z := by unfold ls; rw [if_neg (by omega), Nat.add_sub_cancel, va_s]
  have l2 : ls (va_up le m z) m = ls le m := by
    unfold ls
    split
    · rfl
    · rw [va_n _ _ (by omega)]
  refine ⟨⟨h1, h2, h3, h4, h5, by omega⟩, ⟨s1, s2, s3⟩, fun i hi => ?_, by rw [l1]; exact Nat.le_refl _, fun _ => ⟨rfl, l1.symm⟩, fun e => absurd rfl e⟩
  by_cases e : i = m
  · subst e
    unfold lnO
    rw [l2, va_s]
    exact ⟨hz, Nat.le_refl _, n1, by rw [n2]; rfl⟩
  · exact lnO_c (fun _ _ => rfl) (fun j hj => (va_n le z (by omega)).symm) (Nat.le_refl _) (hl i (by omega))
/-- a line begins -/
theorem pW_v {m z kn t : Nat} {w o : Nat} {c sg vb le : Nat → Nat} (h : pW m z w 0 kn o c sg vb le) (hm : m < 16) (ht : t ≤ 3) : pW m z 0 1 kn 0 c sg (va_up vb m t) le := by
  obtain ⟨⟨h1, h2, h3, h4, h5, h6⟩, ⟨s1, s2, s3⟩, hl, hz, h0, hn⟩ := h
  obtain ⟨w0, z0⟩ := h0 rfl
  subst w0
  have e0 : on 0 = 0 := rfl
  refine ⟨⟨by rw [on_1 (by omega)]; omega, h2, h3, rfl, by omega, by omega⟩, ⟨s1, s2, fun i hi => ?_⟩, hl, hz, fun e => by omega, fun _ => ⟨fun k hk => by omega, ?_⟩⟩
  · rw [on_1 (by omega)] at hi
    rw [e0] at s3
    by_cases e : i = m
    · rw [e, va_s]; exact ht
    · rw [va_n _ _ e]; exact s3 i (by omega)
  · rw [← z0, Nat.sub_self]; rfl
/-- the pops -/
theorem pm_stop (least : Nat) (sg : Nat → Nat) : ∀ w, w - pm least sg w = 0 ∨ ¬ least ≤ stg (sg (w - pm least sg w - 1)) := by
  intro w
  induction w with
  | zero => exact Or.inl (Nat.zero_sub _)
  | succ w ih =>
    unfold pm
    by_cases g : least ≤ stg (sg w)
    · rw [if_pos g]
      have : w + 1 - (pm least sg w + 1) = w - pm least sg w := by omega
      rw [this]
      exact ih
    · rw [if_neg g]
      exact Or.inr (by rw [show w + 1 - 0 - 1 = w from by omega]; exact g)
theorem stg_30 {s : Nat} (h : vsg s) : (1 ≤ stg s) = ¬ s = 30 := by
  apply propext
  unfold vsg at h
  unfold stg
  constructor
  · intro g e
    rw [if_pos e] at g
    omega
  · intro g
    rw [if_neg g]
    split
    · omega
    · split
      · omega
      · split
        · omega
        · split
          · omega
          · split
            · omega
            · split <;> omega
end
section
/-! Orders: the reference's rows while they are read. -/
def wtc (s : Nat) : Nat := if s = 30 then 100 else kdc s
def rS (q : Nat → Int32) (z w d kn o : Nat) (cm : Int32) : Prop := q 34 = zI kn ∧ q 35 = zI z ∧ (¬ d = 0 → q 38 = zI w ∧ q 42 = zI o ∧ q 43 = (if bt cm o = true then 1 else 0) ∧ (q 44 = if d = 3 then 0 else 1) ∧ (¬ d = 3 → q 45 = if d = 1 then 1 else 0))
def rG (z kn : Nat) (c gb : Nat → Nat) (r94 r97 r98 : Nat → Int32) : Prop := ∀ i, i < z → r98 (384 + i) = zI (384 + gb i) ∧ gb i < kn ∧ r94 (384 + gb i) = zI (kdc (c i)) ∧ r97 (384 + gb i) = zI (amc (c i))
def rW (w kn : Nat) (sg wo : Nat → Nat) (r94 r97 r103 r104 : Nat → Int32) : Prop := ∀ j, j < w → r103 j = zI (wtc (sg j)) ∧ (¬ sg j = 30 → r104 j = zI (384 + wo j) ∧ wo j < kn ∧ r94 (384 + wo j) = zI (kdc (sg j)) ∧ r97 (384 + wo j) = 0)
def rI (z w : Nat) (sg gb wo : Nat → Nat) : Prop := (∀ i k, i < z → k < z → gb i = gb k → i = k) ∧ (∀ i j, i < z → j < w → ¬ sg j = 30 → ¬ gb i = wo j) ∧ (∀ j k, j < w → k < w → ¬ sg j = 30 → ¬ sg k = 30 → wo j = wo k → j = k)
def rB (m z w kn f : Nat) (c gb sg wo le : Nat → Nat) (r94 r95 r96 r97 r98 r103 r104 : Nat → Int32) : Prop :=
  rG z kn c gb r94 r97 r98 ∧ rW w kn sg wo r94 r97 r103 r104 ∧ rI z w sg gb wo ∧ (∀ i, i < m → le i ≤ z ∧ rL 384 (ls le i) (le i) c gb r95 r96) ∧ f ≤ z ∧ rL 384 f z c gb r95 r96
def rH (f z : Nat) (c gb : Nat → Nat) (r105 : Nat → Int32) (q40 : Int32) : Prop := q40 = zI (hg c f (z - f)) ∧ ∀ j, j < hg c f (z - f) → r105 j = zI (384 + hs c gb f (z - f) j)
def rV (m d : Nat) (vb le : Nat → Nat) (r99 r100 r101 : Nat → Int32) (x : Int32) : Prop := (∀ i, i < m + on d → r99 (96 + i) = zI (vb i) ∧ r100 (96 + i) = zI (ls le i)) ∧ (∀ i, i < m → r101 (96 + i) = zI (le i - ls le i)) ∧ x = zI m
def rC (o : Nat) (cm : Int32) (r106 : Nat → Int32) : Prop := ∀ j, j < o → r106 j = if bt cm j = true then 1 else 0
theorem vs_a (f : Nat → Int32) (k : Nat) (v : Int32) : va_up f k v k = v := if_pos rfl
theorem vs_n (f : Nat → Int32) {k j : Nat} (v : Int32) (h : ¬ j = k) : va_up f k v j = f j := if_neg h
theorem rL_c {b f e : Nat} {c c' g g' : Nat → Nat} {r95 r96 r95' r96' : Nat → Int32} (hc : ∀ i, f ≤ i → i < e → c i = c' i ∧ g i = g' i) (hr : ∀ i, f ≤ i → i < e → r95' (b + g i) = r95 (b + g i) ∧ r96' (b + g i) = r96 (b + g i)) (h : rL b f e c g r95 r96) : rL b f e c' g' r95' r96' := by
  intro k hk
  obtain ⟨h1, h2⟩ := h k hk
  obtain ⟨c1, g1⟩ := hc (f + k) (by omega) hk
  obtain ⟨s1, s2⟩ := hr (f + k) (by omega) hk
  rw [← c1, ← g1, s1, s2, ← hs_c (c := c) (g := g) k (fun i a b => hc i a (by omega)), ← hg_c (c := c) k (fun i a b => (hc i a (by omega)).1)]
  exact ⟨h1, h2⟩
/-- a new node -/
theorem rB_g {m z w kn f : Nat} {c gb sg wo le : Nat → Nat} {r94 r95 r96 r97 r98 r103 r104 : Nat → Int32} (a b e x : Int32) (h : rB m z w kn f c gb sg wo le r94 r95 r96 r97 r98 r103 r104) :
    rB m z w (kn + 1) f c gb sg wo le (va_up r94 (384 + kn) a) (va_up r95 (384 + kn) b) (va_up r96 (384 + kn) e) (va_up r97 (384 + kn) x) r98 r103 r104 := by
  obtain ⟨hG, hW, hI, hL, hf, hl⟩ := h
  refine ⟨fun i hi => ?_, fun j hj => ?_, hI, fun i hi => ⟨(hL i hi).1, rL_c (fun _ _ _ => ⟨rfl, rfl⟩) (fun k _ hk => ?_) (hL i hi).2⟩, hf, rL_c (fun _ _ _ => ⟨rfl, rfl⟩) (fun k _ hk => ?_) hl⟩
  · obtain ⟨g1, g2, g3, g4⟩ := hG i hi
    refine ⟨g1, by omega, ?_, ?_⟩
    · rw [vs_n _ _ (by omega)]; exact g3
    · rw [vs_n _ _ (by omega)]; exact g4
  · obtain ⟨w1, w2⟩ := hW j hj
    refine ⟨w1, fun hs => ?_⟩
    obtain ⟨g1, g2, g3, g4⟩ := w2 hs
    refine ⟨g1, by omega, ?_, ?_⟩
    · rw [vs_n _ _ (by omega)]; exact g3
    · rw [vs_n _ _ (by omega)]; exact g4
  · have := (hG k (by have := (hL i hi).1; omega)).2.1
    exact ⟨vs_n _ _ (by omega), vs_n _ _ (by omega)⟩
  · have := (hG k hk).2.1
    exact ⟨vs_n _ _ (by omega), vs_n _ _ (by omega)⟩
/-- a node is put behind, with its links -/
theorem rB_e {m z w kn f x g : Nat} {c gb sg wo le : Nat → Nat} {r94 r95 r96 r97 r98 r103 r104 r95' r96' : Nat → Int32} (h : rB m z w kn f c gb sg wo le r94 r95 r96 r97 r98 r103 r104) (hg0 : g < kn) (h94 : r94 (384 + g) = zI (kdc x)) (h97 : r97 (384 + g) = zI (amc x)) (n1 : ∀ i, i < z → ¬ gb i = g) (n2 : ∀ j, j < w → ¬ sg j = 30 → ¬ wo j = g)
    (k5 : ∀ j, ¬ j = 384 + g → r95' j = r95 j) (k6 : ∀ j, ¬ j = 384 + g → r96' j = r96 j) (l1 : ar x = 1 → r95' (384 + g) = zI (384 + hs c gb f (z - f) (hg c f (z - f) - 1))) (l2 : ar x = 2 → r96' (384 + g) = zI (384 + hs c gb f (z - f) (hg c f (z - f) - 1)) ∧ r95' (384 + g) = zI (384 + hs c gb f (z - f) (hg c f (z - f) - 2))) :
    rB m (z + 1) w kn f (va_up c z x) (va_up gb z g) sg wo le r94 r95' r96' r97 (va_up r98 (384 + z) (zI (384 + g))) r103 r104 := by
  obtain ⟨hG, hW, ⟨i1, i2, i3⟩, hL, hf, hl⟩ := h
  have cc : ∀ i, i < z → c i = va_up c z x i ∧ gb i = va_up gb z g i := fun i hi => ⟨(va_n _ _ (by omega)).symm, (va_n _ _ (by omega)).symm⟩
  have rr : ∀ i, i < z → r95' (384 + gb i) = r95 (384 + gb i) ∧ r96' (384 + gb i) = r96 (384 + gb i) := fun i hi => ⟨k5 _ (by have := n1 i hi; omega), k6 _ (by have := n1 i hi; omega)⟩
  refine ⟨fun i hi => ?_, hW, ⟨fun i k hi hk e => ?_, fun i j hi hj hs e => ?_, i3⟩, fun i hi => ⟨by have := (hL i hi).1; omega, rL_c (fun k _ hk => cc k (by have := (hL i hi).1; omega)) (fun k _ hk => rr k (by have := (hL i hi).1; omega)) (hL i hi).2⟩, by omega, fun k hk => ?_⟩
  · by_cases e : i = z
    · rw [e, va_s, va_s, vs_a]; exact ⟨rfl, hg0, h94, h97⟩
    · rw [va_n _ _ e, va_n _ _ e, vs_n _ _ (by omega)]; exact hG i (by omega)
  · by_cases e1 : i = z
    · by_cases e2 : k = z
      · rw [e1, e2]
      · rw [e1, va_s, va_n _ _ e2] at e
        exact absurd e.symm (n1 k (by omega))
    · by_cases e2 : k = z
      · rw [e2, va_s, va_n _ _ e1] at e
        exact absurd e (n1 i (by omega))
      · rw [va_n _ _ e1, va_n _ _ e2] at e
        exact i1 i k (by omega) (by omega) e
  · by_cases e1 : i = z
    · rw [e1, va_s] at e
      exact n2 j hj hs e.symm
    · rw [va_n _ _ e1] at e
      exact i2 i j (by omega) hj hs e
  · have ec : hg (va_up c z x) f k = hg c f k := hg_c k (fun i a b => va_n _ _ (by omega))
    have es : hs (va_up c z x) (va_up gb z g) f k = hs c gb f k := hs_c k (fun i a b => ⟨va_n _ _ (by omega), va_n _ _ (by omega)⟩)
    rw [ec, es]
    by_cases e : f + k = z
    · rw [e, va_s, va_s]
      have : k = z - f := by omega
      rw [this]
      exact ⟨l1, l2⟩
    · rw [va_n _ _ e, va_n _ _ e, (rr (f + k) (by omega)).1, (rr (f + k) (by omega)).2]
      exact hl k (by omega)
theorem rH_e {f z x g : Nat} {c gb : Nat → Nat} {r105 : Nat → Int32} {q40 : Int32} (hf : f ≤ z) (h : rH f z c gb r105 q40) : rH f (z + 1) (va_up c z x) (va_up gb z g) (va_up r105 (hg c f (z - f) - ar x) (zI (384 + g))) (zI (hg c f (z - f) - ar x + 1)) := by
  refine ⟨by rw [hg_x hf], fun j hj => ?_⟩
  rw [hg_x hf] at hj
  rw [hs_x hf]
  by_cases e : j = hg c f (z - f) - ar x
  · rw [e, vs_a, va_s]
  · rw [vs_n _ _ e, va_n _ _ e]
    exact h.2 j (by omega)
/-- something waits -/
theorem rB_w {m z w kn f x g : Nat} {c gb sg wo le : Nat → Nat} {r94 r95 r96 r97 r98 r103 r104 : Nat → Int32} (h : rB m z w kn f c gb sg wo le r94 r95 r96 r97 r98 r103 r104) (v : Int32) (hv : ¬ x = 30 → v = zI (384 + g) ∧ g < kn ∧ r94 (384 + g) = zI (kdc x) ∧ r97 (384 + g) = 0 ∧ (∀ i, i < z → ¬ gb i = g) ∧ ∀ j, j < w → ¬ sg j = 30 → ¬ wo j = g) :
    rB m z (w + 1) kn f c gb (va_up sg w x) (va_up wo w g) le r94 r95 r96 r97 r98 (va_up r103 w (zI (wtc x))) (va_up r104 w v) := by
  obtain ⟨hG, hW, ⟨i1, i2, i3⟩, hL, hf, hl⟩ := h
  refine ⟨hG, fun j hj => ?_, ⟨i1, fun i j hi hj hs => ?_, fun j k hj hk s1 s2 e => ?_⟩, hL, hf, hl⟩
  · by_cases e : j = w
    · rw [e, va_s, va_s, vs_a, vs_a]
      exact ⟨rfl, fun hs => ⟨(hv hs).1, (hv hs).2.1, (hv hs).2.2.1, (hv hs).2.2.2.1⟩⟩
    · rw [va_n _ _ e, va_n _ _ e, vs_n _ _ e, vs_n _ _ e]
      exact hW j (by omega)
  · by_cases e : j = w
    · rw [e, va_s] at hs
      rw [e, va_s]
      exact (hv hs).2.2.2.2.1 i hi
    · rw [va_n _ _ e] at hs
      rw [va_n _ _ e]
      exact i2 i j hi (by omega) hs
  · by_cases e1 : j = w
    · by_cases e2 : k = w
      · rw [e1, e2]
      · rw [e1, va_s] at s1
        rw [va_n _ _ e2] at s2
        rw [e1, va_s, va_n _ _ e2] at e
        exact absurd e.symm ((hv s1).2.2.2.2.2 k (by omega) s2)
    · rw [va_n _ _ e1] at s1
      by_cases e2 : k = w
      · rw [e2, va_s] at s2
        rw [e2, va_s, va_n _ _ e1] at e
        exact absurd e ((hv s2).2.2.2.2.2 j (by omega) s1)
      · rw [va_n _ _ e2] at s2
        rw [va_n _ _ e1, va_n _ _ e2] at e
        exact i3 j k (by omega) (by omega) s1 s2 e
/-- one waits no more -/
theorem rB_d {m z w kn f : Nat} {c gb sg wo le : Nat → Nat} {r94 r95 r96 r97 r98 r103 r104 : Nat → Int32} (h : rB m z (w + 1) kn f c gb sg wo le r94 r95 r96 r97 r98 r103 r104) : rB m z w kn f c gb sg wo le r94 r95 r96 r97 r98 r103 r104 := by
  obtain ⟨hG, hW, ⟨i1, i2, i3⟩, hL, hf, hl⟩ := h
  exact ⟨hG, fun j hj => hW j (by omega), ⟨i1, fun i j hi hj => i2 i j hi (by omega), fun j k hj hk => i3 j k (by omega) (by omega)⟩, hL, hf, hl⟩
/-- all that the reference has -/
def CT (m z w d kn o : Nat) (cm : Int32) (c sg vb le : Nat → Nat) (gb wo : Nat → Nat) (T : Nat → Nat → Int32) : Prop := rS (T 81) z w d kn o cm ∧ rB m z w kn (ls le m) c gb sg wo le (T 94) (T 95) (T 96) (T 97) (T 98) (T 103) (T 104) ∧ (¬ d = 0 → rH (ls le m) z c gb (T 105) (T 81 40) ∧ rC o cm (T 106)) ∧ rV m d vb le (T 99) (T 100) (T 101) (T 102 6)
/-- what is as it was -/
def frR (T0 L : Nat → Nat → Int32) : Prop := (∀ d, ¬ d = 81 → d < 94 ∨ 106 < d → L d = T0 d) ∧ (∀ j, j < 21 ∨ (24 < j ∧ j < 34) ∨ (35 < j ∧ j < 38) ∨ j = 39 ∨ j = 41 ∨ 45 < j → L 81 j = T0 81 j) ∧ (∀ d, 94 ≤ d → d ≤ 98 → ∀ j, j < 384 → L d j = T0 d j) ∧ (∀ d, 99 ≤ d → d ≤ 101 → ∀ j, j < 96 → L d j = T0 d j) ∧ ∀ j, ¬ j = 6 → L 102 j = T0 102 j
def tkF (B : Nat → Nat) (n q : Nat) (L : Nat → Nat → Int32) : Prop := L 81 24 = zI q ∧ L 81 21 = zI (tkN B n q).2 ∧ tkR B q (tkN B n q).1 (tkN B n q).2 (L 81 22) (L 81 23)
theorem rS_c {q q' : Nat → Int32} {z w d kn o : Nat} {cm : Int32} (h : rS q z w d kn o cm) (e : ∀ j, 33 < j → j < 46 → q' j = q j) : rS q' z w d kn o cm := by
  unfold rS
  rw [e 34 (by decide) (by decide), e 35 (by decide) (by decide), e 38 (by decide) (by decide), e 42 (by decide) (by decide), e 43 (by decide) (by decide), e 44 (by decide) (by decide), e 45 (by decide) (by decide)]
  exact h
theorem CT_tk {B : Nat → Nat} {n q m z w d kn o : Nat} {cm : Int32} {c sg vb le gb wo : Nat → Nat} {U L : Nat → Nat → Int32} (h : CT m z w d kn o cm c sg vb le gb wo U) (t : tkM B n q U L) : CT m z w d kn o cm c sg vb le gb wo L := by
  obtain ⟨t1, t2, -⟩ := t
  unfold CT
  rw [t1 94 (by decide), t1 95 (by decide), t1 96 (by decide), t1 97 (by decide), t1 98 (by decide), t1 99 (by decide), t1 100 (by decide), t1 101 (by decide), t1 102 (by decide), t1 103 (by decide), t1 104 (by decide), t1 105 (by decide), t1 106 (by decide), t2 40 (by decide) (by decide) (by decide) (by decide)]
  exact ⟨rS_c h.1 (fun j a b => t2 j (by omega) (by omega) (by omega) (by omega)), h.2⟩
theorem fr_tk {B : Nat → Nat} {n q : Nat} {T0 U L : Nat → Nat → Int32} (h : frR T0 U) (t : tkM B n q U L) : frR T0 L := by
  obtain ⟨t1, t2, -⟩ := t
  obtain ⟨f1, f2, f3, f4, f5⟩ := h
  refine ⟨fun d a b => by rw [t1 d a]; exact f1 d a b, fun j hj => by rw [t2 j (by omega) (by omega) (by omega) (by omega)]; exact f2 j hj, fun d a b j hj => by rw [t1 d (by omega)]; exact f3 d a b j hj, fun d a b j hj => by rw [t1 d (by omega)]; exact f4 d a b j hj, fun j hj => by rw [t1 102 (by decide)]; exact f5 j hj⟩
end
section
/-! Orders: the reference's steps. -/
def okc (d k : Nat) : Prop := (d = 81 ∧ ((21 ≤ k ∧ k ≤ 24) ∨ (34 ≤ k ∧ k ≤ 35) ∨ k = 38 ∨ k = 40 ∨ (42 ≤ k ∧ k ≤ 45))) ∨ (94 ≤ d ∧ d ≤ 98 ∧ 384 ≤ k) ∨ (99 ≤ d ∧ d ≤ 101 ∧ 96 ≤ k) ∨ (d = 102 ∧ k = 6) ∨ (103 ≤ d ∧ d ≤ 106)
theorem fr_u {T0 U : Nat → Nat → Int32} {d k : Nat} {v : Int32} (o : okc d k) (h : frR T0 U) : frR T0 (up2 U d k v) := by
  obtain ⟨f1, f2, f3, f4, f5⟩ := h
  unfold okc at o
  have ne : ∀ e j, ¬ (e = d ∧ j = k) → up2 U d k v e j = U e j := fun e j g => by
    rw [up2_ap]
    by_cases h1 : e = d
    · rw [if_pos h1]
      by_cases h2 : j = k
      · exact absurd ⟨h1, h2⟩ g
      · rw [if_neg h2]
    · rw [if_neg h1]
  refine ⟨fun e a b => by rw [up2_rn _ _ _ _ _ (by omega)]; exact f1 e a b, fun j hj => by rw [ne _ _ (by omega)]; exact f2 j hj, fun e a b j hj => by rw [ne _ _ (by omega)]; exact f3 e a b j hj, fun e a b j hj => by rw [ne _ _ (by omega)]; exact f4 e a b j hj, fun j hj => by rw [ne _ _ (by omega)]; exact f5 j hj⟩
theorem wgt_z {s : Nat} (h : vsg s) : vf_Model_weight (zI (wtc s)) = zI (stg s) := by
  have e : ∀ s : Fin 34, (s.val = 30 ∨ s.val = 33 ∨ s.val = 4 ∨ s.val = 5 ∨ s.val = 6 ∨ (19 ≤ s.val ∧ s.val ≤ 29)) → vf_Model_weight (zI (wtc s.val)) = zI (stg s.val) := by decide
  unfold vsg at h
  exact e ⟨s, by omega⟩ h
theorem wtc_12 {s : Nat} (h : vsg s) : (zI (wtc s) = 12) = (s = 33) := by
  have e : ∀ s : Fin 34, (s.val = 30 ∨ s.val = 33 ∨ s.val = 4 ∨ s.val = 5 ∨ s.val = 6 ∨ (19 ≤ s.val ∧ s.val ≤ 29)) → (zI (wtc s.val) = 12 ↔ s.val = 33) := by decide
  unfold vsg at h
  exact propext (e ⟨s, by omega⟩ h)
theorem wtc_13 {s : Nat} (h : vsg s) : (zI (wtc s) = 13) = (s = 4) := by
  have e : ∀ s : Fin 34, (s.val = 30 ∨ s.val = 33 ∨ s.val = 4 ∨ s.val = 5 ∨ s.val = 6 ∨ (19 ≤ s.val ∧ s.val ≤ 29)) → (zI (wtc s.val) = 13 ↔ s.val = 4) := by decide
  unfold vsg at h
  exact propext (e ⟨s, by omega⟩ h)
theorem amc_0 {s : Nat} (h : vsg s) : amc s = 0 := by
  unfold vsg at h
  unfold amc
  rw [if_neg (by omega), if_neg (by omega)]
/-- what the pops leave alone -/
def frB (K L : Nat → Nat → Int32) : Prop := (∀ d, ¬ d = 81 → ¬ d = 95 → ¬ d = 96 → ¬ d = 98 → ¬ d = 105 → L d = K d) ∧ (∀ j, ¬ j = 35 → ¬ j = 38 → ¬ j = 40 → L 81 j = K 81 j) ∧ (∀ d j, j < 384 → d = 95 ∨ d = 96 ∨ d = 98 → L d j = K d j)
theorem fr_B {T0 K L : Nat → Nat → Int32} (h : frR T0 K) (b : frB K L) : frR T0 L := by
  obtain ⟨f1, f2, f3, f4, f5⟩ := h
  obtain ⟨b1, b2, b3⟩ := b
  refine ⟨fun d x y => by rw [b1 d (by omega) (by omega) (by omega) (by omega) (by omega)]; exact f1 d x y, fun j hj => by rw [b2 j (by omega) (by omega) (by omega)]; exact f2 j hj, fun d x y j hj => ?_, fun d x y j hj => by rw [b1 d (by omega) (by omega) (by omega) (by omega) (by omega)]; exact f4 d x y j hj, fun j hj => by rw [b1 102 (by omega) (by omega) (by omega) (by omega) (by omega)]; exact f5 j hj⟩
  by_cases g : d = 95 ∨ d = 96 ∨ d = 98
  · rw [b3 d j hj g]; exact f3 d x y j hj
  · rw [b1 d (by omega) (by omega) (by omega) (by omega) (by omega)]; exact f3 d x y j hj
section R1
variable {X : (Nat → Int32) × Nat} {mo : Bool} {G : Nat × Nat} {J : Nat → Nat → Int64} {Q : Option Value → sm_M → Prop}
theorem r_tk {B : Nat → Nat} {n p : Nat} {T0 U : Nat → Nat → Int32} (f0 : tpM B (T0 82)) (fX : ivX (T0 93)) (f20 : T0 81 20 = zI n) (hn : n ≤ 400) (hU : frR T0 U) (h21 : U 81 21 = zI p) (hp : p ≤ n) (hQ : ∀ L, tkM B n (plc B n p) U L → Q none (sM mo G L J)) : sm_wp X 226 0 [some (.ref 81), none] [] (sM mo G U J) Q :=
  ct_226 (I := U) (B := B) (n := n) (by rw [hU.1 82 (by decide) (by decide)]; exact f0) (by rw [hU.1 93 (by decide) (by decide)]; exact fX) (by rw [hU.2.1 20 (by decide)]; exact f20) hn (n - p) p (by omega) U (fun _ _ => rfl) (fun _ _ => rfl) h21 hQ
theorem r_bind {least m kn kr o : Nat} {sg vb le wo : Nat → Nat} (hl1 : 1 ≤ least) (hl8 : least ≤ 8) (h64 : kr ≤ 64) : ∀ w z c gb K, pW m z w 3 kn o c sg vb le → K 81 38 = zI w → K 81 35 = zI z → rB m z w kr (ls le m) c gb sg wo le (K 94) (K 95) (K 96) (K 97) (K 98) (K 103) (K 104) → rH (ls le m) z c gb (K 105) (K 81 40) →
    (∀ L, frB K L → L 81 38 = zI (w - pm least sg w) → L 81 35 = zI (z + pm least sg w) → rB m (z + pm least sg w) (w - pm least sg w) kr (ls le m) (pcG least sg sg w z c) (pcG least sg wo w z gb) sg wo le (L 94) (L 95) (L 96) (L 97) (L 98) (L 103) (L 104) → rH (ls le m) (z + pm least sg w) (pcG least sg sg w z c) (pcG least sg wo w z gb) (L 105) (L 81 40) → pW m (z + pm least sg w) (w - pm least sg w) 3 kn o (pcG least sg sg w z c) sg vb le → Q none (sM mo G L J)) →
    sm_wp X 244 0 [some (.ref 81), some (.int (zI least)), none] [] (sM mo G K J) Q := by
  intro w
  induction w with
  | zero =>
    intro z c gb K hW k38 k35 hB hH hQ
    rw [lp_244_0, if_pos (by rw [k38]; decide)]
    exact hQ K ⟨fun _ _ _ _ _ _ => rfl, fun _ _ _ _ => rfl, fun _ _ _ _ => rfl⟩ k38 k35 hB hH hW
  | succ w ih =>
    intro z c gb K hW k38 k35 hB hH hQ
    have vw : vsg (sg w) := hW.2.1.1 w (by omega)
    have sb := stg_b (sg w)
    have w72 : w + 1 ≤ 72 := by
      have := np_w sg (w + 1)
      have h1 := hW.1
      omega
    have um : pm least sg (w + 1) = if least ≤ stg (sg w) then pm least sg w + 1 else 0 := rfl
    have uc : pcG least sg sg (w + 1) z c = if least ≤ stg (sg w) then pcG least sg sg w (z + 1) (va_up c z (sg w)) else c := rfl
    have ug : pcG least sg wo (w + 1) z gb = if least ≤ stg (sg w) then pcG least sg wo w (z + 1) (va_up gb z (wo w)) else gb := rfl
    obtain ⟨w1, w2⟩ := hB.2.1 w (by omega)
    rw [lp_244_0, if_neg (by rw [k38, zIr_le (c := 0) (by decide) (by omega)]; show ¬ w + 1 ≤ 0; omega), k38, show zI (w + 1) - 1 = zI w from zIr_sub (c := 1) (a := w + 1) (by show 1 ≤ w + 1; omega), zI_vp (by omega), zI_cn (by omega), w1, wgt_z vw]
    refine ⟨by omega, ?_⟩
    by_cases g : least ≤ stg (sg w)
    · rw [if_pos g] at um uc ug
      rw [um, uc, ug] at hQ
      have n30 : ¬ sg w = 30 := by rw [← stg_30 vw]; omega
      obtain ⟨w3, w4, w5, w6⟩ := w2 n30
      obtain ⟨hW', a12, ah, z64⟩ := pW_p hW n30
      obtain ⟨hH1, hH2⟩ := hH
      have hf : ls le m ≤ z := hB.2.2.2.2.1
      generalize hh : hg c (ls le m) (z - ls le m) = h at *
      have hz : h ≤ z := by rw [← hh]; have := hg_b c (ls le m) (z - ls le m); omega
      have fin : ∀ K', (∀ d, ¬ d = 81 → ¬ d = 95 → ¬ d = 96 → ¬ d = 98 → ¬ d = 105 → K' d = K d) → (∀ j, ¬ j = 35 → ¬ j = 38 → ¬ j = 40 → K' 81 j = K 81 j) → K' 81 38 = zI w → K' 81 35 = zI (z + 1) → K' 81 40 = zI (h - ar (sg w) + 1) → K' 98 = va_up (K 98) (384 + z) (zI (384 + wo w)) → K' 105 = va_up (K 105) (h - ar (sg w)) (zI (384 + wo w)) → (∀ j, ¬ j = 384 + wo w → K' 95 j = K 95 j) → (∀ j, ¬ j = 384 + wo w → K' 96 j = K 96 j) → (ar (sg w) = 1 → K' 95 (384 + wo w) = K 105 (h - 1)) → (ar (sg w) = 2 → K' 96 (384 + wo w) = K 105 (h - 1) ∧ K' 95 (384 + wo w) = K 105 (h - 2)) → sm_wp X 244 0 [some (.ref 81), some (.int (zI least)), none] [] (sM mo G K' J) Q := by
        intro K' k1 k2 k3 k4 k5 k6 k7 k8 k9 k10 k11
        refine ih (z + 1) (va_up c z (sg w)) (va_up gb z (wo w)) K' hW' k3 k4 ?_ ?_ ?_
        · rw [k1 94 (by decide) (by decide) (by decide) (by decide) (by decide), k1 97 (by decide) (by decide) (by decide) (by decide) (by decide), k1 103 (by decide) (by decide) (by decide) (by decide) (by decide), k1 104 (by decide) (by decide) (by decide) (by decide) (by decide), k6]
          refine rB_e (rB_d hB) w4 w5 (by rw [amc_0 vw]; exact w6) (fun i hi e => ?_) (fun j hj hs e => ?_) k8 k9 (fun e => ?_) (fun e => ?_)
          · exact hB.2.2.1.2.1 i w hi (by omega) n30 e
          · have := hB.2.2.1.2.2 j w (by omega) (by omega) hs n30 e
            omega
          · rw [hh, k10 e]; exact hH2 (h - 1) (by omega)
          · rw [hh, (k11 e).1, (k11 e).2]; exact ⟨hH2 (h - 1) (by omega), hH2 (h - 2) (by omega)⟩
        · rw [k5, k7, ← hh]
          exact rH_e (q40 := K 81 40) hf ⟨by rw [hh]; exact hH1, by rw [hh]; exact hH2⟩
        · intro L b1 b2 b3 b4 b5 b6
          refine hQ L ⟨fun d p q r s t => by rw [b1.1 d p q r s t]; exact k1 d p q r s t, fun j p q r => by rw [b1.2.1 j p q r]; exact k2 j p q r, fun d j hj hd => ?_⟩ (by rw [b2]; congr 1; omega) (by rw [b3]; congr 1; omega) ?_ ?_ ?_
          · rw [b1.2.2 d j hj hd]
            rcases hd with rfl | rfl | rfl
            · exact k8 j (by omega)
            · exact k9 j (by omega)
            · rw [k6]; exact vs_n _ _ (by omega)
          · rw [show z + (pm least sg w + 1) = z + 1 + pm least sg w from by omega, show w + 1 - (pm least sg w + 1) = w - pm least sg w from by omega]; exact b4
          · rw [show z + (pm least sg w + 1) = z + 1 + pm least sg w from by omega]; exact b5
          · rw [show z + (pm least sg w + 1) = z + 1 + pm least sg w from by omega, show w + 1 - (pm least sg w + 1) = w - pm least sg w from by omega]; exact b6
      have kk : kn ≤ 64 := hW.1.2.2.1
      have a1 : zI h - 1 = zI (h - 1) := zIr_sub (c := 1) (by show 1 ≤ h; omega)
      have a2 : zI (h - 1) + 1 = zI (h - 1 + 1) := zIr_add 1 _
      have a3 : (384 : Int32) + zI z = zI (384 + z) := zIl_add 384 z
      have a4 : zI z + 1 = zI (z + 1) := zIr_add 1 _
      rw [if_neg (by rw [zI_lt (by omega) (by omega)]; omega), hH1, k35, w3, a1, a3, a4]
      simp (disch := first | omega | decide) only [zI_cn, zI_vp]
      by_cases u : ar (sg w) = 1
      · have u2 : sg w = 33 ∨ sg w = 4 := by unfold vsg at vw; unfold ar at u; split at u <;> (try split at u) <;> omega
        have go : vp_in (zI (h - 1)) 120 ∧ (384 + wo w < 448 ∧ (384 + z < 448 ∧ (sm_wp X 244 0 [some (.ref 81), some (.int (zI least)), none] [] (sM mo G (up2 (up2 (up2 (up2 (up2 (up2 (up2 K 81 38 (zI w)) 81 40 (zI (h - 1))) 95 (384 + wo w) (K 105 (h - 1))) 98 (384 + z) (zI (384 + wo w))) 81 35 (zI (z + 1))) 105 (h - 1) (zI (384 + wo w))) 81 40 (zI (h - 1) + 1)) J) Q))) := by
          refine ⟨by rw [zI_vp (by omega)]; omega, by omega, by omega, fin _ (fun d p q r s t => by simp only [up2_rn, ne_eq, p, q, r, s, t, not_false_eq_true]) (fun j p q r => by simp (decide := true) only [up2_ra, up2_rn, va_ap, ne_eq, if_false, if_true, not_false_eq_true, p, q, r]) (by simp (decide := true) only [up2_ra, up2_rn, va_ap, ne_eq, if_false, if_true, not_false_eq_true]) (by simp (decide := true) only [up2_ra, up2_rn, va_ap, ne_eq, if_false, if_true, not_false_eq_true]) (by simp (decide := true) only [up2_ra, up2_rn, va_ap, ne_eq, if_false, if_true, not_false_eq_true]; rw [u, a2]) (by simp (decide := true) only [up2_ra, up2_rn, ne_eq, not_false_eq_true]) (by simp (decide := true) only [up2_ra, up2_rn, ne_eq, not_false_eq_true]; rw [u]) (fun j p => by simp (decide := true) only [up2_ra, up2_rn, va_ap, ne_eq, if_false, if_true, not_false_eq_true, p]) (fun j p => by simp (decide := true) only [up2_ra, up2_rn, va_ap, ne_eq, if_false, if_true, not_false_eq_true, p]) (fun _ => by simp (decide := true) only [up2_ra, up2_rn, va_ap, ne_eq, if_false, if_true, not_false_eq_true]) (fun e => by omega)⟩
        rw [zI_vp (show h - 1 < 2147483648 by omega)] at go
        rcases u2 with u2 | u2
        · rw [if_pos (by rw [wtc_12 vw]; exact u2)]; exact go
        · rw [if_neg (by rw [wtc_12 vw]; omega), if_pos (by rw [wtc_13 vw]; exact u2)]; exact go
      · have u2 : ar (sg w) = 2 := by omega
        have u3 : ¬ sg w = 33 ∧ ¬ sg w = 4 := by constructor <;> (intro e; rw [e] at u2; exact absurd u2 (by decide))
        have a5 : zI (h - 1) - 1 = zI (h - 2) := by rw [show zI (h - 1) - 1 = zI (h - 1 - 1) from zIr_sub (c := 1) (by show 1 ≤ h - 1; omega)]; congr 1
        have a6 : zI (h - 2) + 1 = zI (h - 2 + 1) := zIr_add 1 _
        rw [if_neg (by rw [wtc_12 vw]; exact u3.1), if_neg (by rw [wtc_13 vw]; exact u3.2), a5]
        simp (disch := first | omega | decide) only [zI_cn, zI_vp]
        refine ⟨by omega, by omega, by omega, by omega, fin _ (fun d p q r s t => by simp only [up2_rn, ne_eq, p, q, r, s, t, not_false_eq_true]) (fun j p q r => by simp (decide := true) only [up2_ra, up2_rn, va_ap, ne_eq, if_false, if_true, not_false_eq_true, p, q, r]) (by simp (decide := true) only [up2_ra, up2_rn, va_ap, ne_eq, if_false, if_true, not_false_eq_true]) (by simp (decide := true) only [up2_ra, up2_rn, va_ap, ne_eq, if_false, if_true, not_false_eq_true]) (by simp (decide := true) only [up2_ra, up2_rn, va_ap, ne_eq, if_false, if_true, not_false_eq_true]; rw [u2, a6]) (by simp (decide := true) only [up2_ra, up2_rn, ne_eq, not_false_eq_true]) (by simp (decide := true) only [up2_ra, up2_rn, ne_eq, not_false_eq_true]; rw [u2]) (fun j p => by simp (decide := true) only [up2_ra, up2_rn, va_ap, ne_eq, if_false, if_true, not_false_eq_true, p]) (fun j p => by simp (decide := true) only [up2_ra, up2_rn, va_ap, ne_eq, if_false, if_true, not_false_eq_true, p]) (fun e => by omega) (fun _ => by simp (decide := true) only [up2_ra, up2_rn, va_ap, ne_eq, if_false, if_true, not_false_eq_true, and_self])⟩
    · rw [if_neg g] at um uc ug
      rw [um, uc, ug] at hQ
      rw [if_pos (by rw [zI_lt (by omega) (by omega)]; omega)]
      exact hQ K ⟨fun _ _ _ _ _ _ => rfl, fun _ _ _ _ => rfl, fun _ _ _ _ => rfl⟩ k38 k35 hB hH hW
end R1
end
section
/-! Orders: the reference's steps where a value is due. -/
section R2
variable {X : (Nat → Int32) × Nat} {mo : Bool} {G : Nat × Nat} {J : Nat → Nat → Int64} {R : Option Value → sm_M → Prop}
/-- the tape's facts, and where the next token is -/
def tpF (B : Nat → Nat) (n p : Nat) (T0 T : Nat → Nat → Int32) : Prop := (tpM B (T0 82) ∧ ivX (T0 93) ∧ T0 81 20 = zI n ∧ n ≤ 400) ∧ frR T0 T ∧ T 81 21 = zI p ∧ p ≤ n
theorem r_tf {B : Nat → Nat} {n p : Nat} {T0 T U : Nat → Nat → Int32} (f : tpF B n p T0 T) (hU : frR T0 U) (h21 : U 81 21 = T 81 21) (hQ : ∀ L, tkM B n (plc B n p) U L → R none (sM mo G L J)) : sm_wp X 226 0 [some (.ref 81), none] [] (sM mo G U J) R := by
  obtain ⟨⟨f0, fX, f20, hn⟩, -, f21, hp⟩ := f
  exact r_tk f0 fX f20 hn hU (h21.trans f21) hp hQ
theorem tkM_F {B : Nat → Nat} {n q : Nat} {U L : Nat → Nat → Int32} (t : tkM B n q U L) : tkF B n q L := ⟨t.2.2.1, t.2.2.2.1, t.2.2.2.2⟩
theorem tkF_u {B : Nat → Nat} {n q : Nat} {L V : Nat → Nat → Int32} (h : tkF B n q L) (e : ∀ j, 20 < j → j < 25 → V 81 j = L 81 j) : tkF B n q V := by
  unfold tkF
  rw [e 24 (by decide) (by decide), e 21 (by decide) (by decide), e 22 (by decide) (by decide), e 23 (by decide) (by decide)]
  exact h
theorem r_opt {B : Nat → Nat} {n p m z w d kn o x : Nat} {cm x1 : Int32} {c sg vb le gb wo : Nat → Nat} {T0 T : Nat → Nat → Int32} (hC : CT m z w d kn o cm c sg vb le gb wo T) (hW : pW m z w d kn o c sg vb le) (hd : d = 1 ∨ d = 2) (hk : kn < 64) (ha : ar x = 0) (f : tpF B n p T0 T)
    (hQ : ∀ L gb', CT m (z + 1) w 3 (kn + 1) o cm (va_up c z x) sg vb le gb' wo L → frR T0 L → tkF B n (plc B n p) L → sm_wp X 234 30 [some (.ref 81), none] [] (sM mo G L J) R) :
    sm_wp X 226 0 [some (.ref 81), none] [] (sM mo G (up2 (up2 (up2 (up2 (up2 (up2 T 81 34 (zI (kn + 1))) 94 (384 + kn) (zI (kdc x))) 95 (384 + kn) (-1)) 96 (384 + kn) (-1)) 97 (384 + kn) (zI (amc x))) 81 44 0) J) (fun v M => sm_wp X 235 226 [some (.ref 81), some (.int x1), some (.int (zI (384 + kn)))] (v.toList ++ []) M (fun v M => sm_wp X 234 43 [some (.ref 81), some (.int 1)] (v.toList ++ []) M R)) := by
  obtain ⟨hS, hB, hHC, hV⟩ := hC
  obtain ⟨⟨hH1, hH2⟩, hc⟩ := hHC (by omega)
  obtain ⟨s1, s2, s3⟩ := hS
  obtain ⟨s4, s5, s6, s7, s8⟩ := s3 (by omega)
  have hzk : z ≤ kn := by have := hW.1; omega
  have hf : ls le m ≤ z := hB.2.2.2.2.1
  have hb := hg_b c (ls le m) (z - ls le m)
  refine r_tf f (fr_u (by unfold okc; omega) (fr_u (by unfold okc; omega) (fr_u (by unfold okc; omega) (fr_u (by unfold okc; omega) (fr_u (by unfold okc; omega) (fr_u (by unfold okc; omega) f.2.1)))))) (by simp (decide := true) only [up2_ra, up2_rn, va_ap, ne_eq, if_false, if_true, not_false_eq_true]) ?_
  intro L hL
  have frL := fr_tk (T0 := T0) (fr_u (by unfold okc; omega) (fr_u (by unfold okc; omega) (fr_u (by unfold okc; omega) (fr_u (by unfold okc; omega) (fr_u (by unfold okc; omega) (fr_u (by unfold okc; omega) f.2.1)))))) hL
  have tL := tkM_F hL
  obtain ⟨l1, l2, -⟩ := hL
  simp only [tl_none]
  have e35 : L 81 35 = zI z := by rw [l2 35 (by decide) (by decide) (by decide) (by decide)]; simp (decide := true) only [up2_ra, up2_rn, va_ap, ne_eq, if_false, if_true, not_false_eq_true]; exact s2
  have e40 : L 81 40 = zI (hg c (ls le m) (z - ls le m)) := by rw [l2 40 (by decide) (by decide) (by decide) (by decide)]; simp (decide := true) only [up2_ra, up2_rn, va_ap, ne_eq, if_false, if_true, not_false_eq_true]; exact hH1
  have e34 : L 81 34 = zI (kn + 1) := by rw [l2 34 (by decide) (by decide) (by decide) (by decide)]; simp (decide := true) only [up2_ra, up2_rn, va_ap, ne_eq, if_false, if_true, not_false_eq_true]
  have e38 : L 81 38 = zI w := by rw [l2 38 (by decide) (by decide) (by decide) (by decide)]; simp (decide := true) only [up2_ra, up2_rn, va_ap, ne_eq, if_false, if_true, not_false_eq_true]; exact s4
  have e42 : L 81 42 = zI o := by rw [l2 42 (by decide) (by decide) (by decide) (by decide)]; simp (decide := true) only [up2_ra, up2_rn, va_ap, ne_eq, if_false, if_true, not_false_eq_true]; exact s5
  have e43 : L 81 43 = (if bt cm o = true then 1 else 0) := by rw [l2 43 (by decide) (by decide) (by decide) (by decide)]; simp (decide := true) only [up2_ra, up2_rn, va_ap, ne_eq, if_false, if_true, not_false_eq_true]; exact s6
  have e44 : L 81 44 = 0 := by rw [l2 44 (by decide) (by decide) (by decide) (by decide)]; simp (decide := true) only [up2_ra, up2_rn, va_ap, ne_eq, if_false, if_true, not_false_eq_true]
  have r94 : L 94 = va_up (T 94) (384 + kn) (zI (kdc x)) := by rw [l1 94 (by decide)]; simp (decide := true) only [up2_ra, up2_rn, ne_eq, not_false_eq_true]
  have r95 : L 95 = va_up (T 95) (384 + kn) (-1) := by rw [l1 95 (by decide)]; simp (decide := true) only [up2_ra, up2_rn, ne_eq, not_false_eq_true]
  have r96 : L 96 = va_up (T 96) (384 + kn) (-1) := by rw [l1 96 (by decide)]; simp (decide := true) only [up2_ra, up2_rn, ne_eq, not_false_eq_true]
  have r97 : L 97 = va_up (T 97) (384 + kn) (zI (amc x)) := by rw [l1 97 (by decide)]; simp (decide := true) only [up2_ra, up2_rn, ne_eq, not_false_eq_true]
  have rr : ∀ d, ¬ d = 81 → ¬ d = 94 → ¬ d = 95 → ¬ d = 96 → ¬ d = 97 → L d = T d := fun d a b c e f => by rw [l1 d a]; simp only [up2_rn, ne_eq, a, b, c, e, f, not_false_eq_true]
  rw [lp_235_226, e35, e40, show (384 : Int32) + zI z = zI (384 + z) from zIl_add 384 z, show zI z + 1 = zI (z + 1) from zIr_add 1 _, show zI (hg c (ls le m) (z - ls le m)) + 1 = zI (hg c (ls le m) (z - ls le m) + 1) from zIr_add 1 _]
  simp (disch := first | omega | decide) only [zI_cn, zI_vp]
  refine ⟨by omega, by omega, ?_⟩
  simp only [tl_some]
  rw [lp_234_43, if_pos (by decide)]
  refine hQ _ (va_up gb z kn) ⟨⟨?_, ?_, fun _ => ⟨?_, ?_, ?_, ?_, fun e => absurd rfl e⟩⟩, ?_, fun _ => ⟨?_, ?_⟩, ?_⟩ (fr_u (by unfold okc; omega) (fr_u (by unfold okc; omega) (fr_u (by unfold okc; omega) (fr_u (by unfold okc; omega) frL)))) (tkF_u tL (fun j a b => by simp only [up2_ra, up2_rn, va_ap, ne_eq, if_false, if_true, not_false_eq_true, show ¬ j = 40 from by omega, show ¬ (81 = 105) from by decide, show ¬ j = 35 from by omega, show ¬ (81 = 98) from by decide]))
  · simp (decide := true) only [up2_ra, up2_rn, va_ap, ne_eq, if_false, if_true, not_false_eq_true]; exact e34
  · simp (decide := true) only [up2_ra, up2_rn, va_ap, ne_eq, if_false, if_true, not_false_eq_true]
  · simp (decide := true) only [up2_ra, up2_rn, va_ap, ne_eq, if_false, if_true, not_false_eq_true]; exact e38
  · simp (decide := true) only [up2_ra, up2_rn, va_ap, ne_eq, if_false, if_true, not_false_eq_true]; exact e42
  · simp (decide := true) only [up2_ra, up2_rn, va_ap, ne_eq, if_false, if_true, not_false_eq_true]; exact e43
  · simp (decide := true) only [up2_ra, up2_rn, va_ap, ne_eq, if_false, if_true, not_false_eq_true]; exact e44
  · simp (decide := true) only [up2_ra, up2_rn, ne_eq, not_false_eq_true]
    rw [r94, r95, r96, r97, rr 98 (by decide) (by decide) (by decide) (by decide) (by decide), rr 103 (by decide) (by decide) (by decide) (by decide) (by decide), rr 104 (by decide) (by decide) (by decide) (by decide) (by decide)]
    exact rB_e (rB_g (zI (kdc x)) (-1) (-1) (zI (amc x)) hB) (by omega) (vs_a _ _ _) (vs_a _ _ _) (fun i hi e => by have := (hB.1 i hi).2.1; omega) (fun j hj hs e => by have := ((hB.2.1 j hj).2 hs).2.1; omega) (fun _ _ => rfl) (fun _ _ => rfl) (fun e => by omega) (fun e => by omega)
  · simp (decide := true) only [up2_ra, up2_rn, ne_eq, not_false_eq_true, vs_a]
    rw [rr 105 (by decide) (by decide) (by decide) (by decide) (by decide)]
    have q := rH_e (x := x) (g := kn) hf ⟨hH1, hH2⟩
    rw [ha, Nat.sub_zero] at q
    exact q
  · simp (decide := true) only [up2_ra, up2_rn, ne_eq, not_false_eq_true]
    rw [rr 106 (by decide) (by decide) (by decide) (by decide) (by decide)]
    exact hc
  · simp (decide := true) only [up2_ra, up2_rn, ne_eq, not_false_eq_true]
    rw [rr 99 (by decide) (by decide) (by decide) (by decide) (by decide), rr 100 (by decide) (by decide) (by decide) (by decide) (by decide), rr 101 (by decide) (by decide) (by decide) (by decide) (by decide), rr 102 (by decide) (by decide) (by decide) (by decide) (by decide)]
    have od : on d = on 3 := by rw [on_1 (by omega), on_1 (by omega)]
    exact ⟨fun i hi => hV.1 i (by omega), hV.2⟩
/-- a number; a name -/
theorem r_num {B : Nat → Nat} {n p m z w d kn o nu : Nat} {cm : Int32} {c sg vb le gb wo : Nat → Nat} {T0 T : Nat → Nat → Int32} (hC : CT m z w d kn o cm c sg vb le gb wo T) (hW : pW m z w d kn o c sg vb le) (hd : d = 1 ∨ d = 2) (hk : kn < 64) (h22 : T 81 22 = 2) (h23 : T 81 23 = zI nu) (hn : nu ≤ 99999) (f : tpF B n p T0 T)
    (hQ : ∀ L gb', CT m (z + 1) w 3 (kn + 1) o cm (va_up c z (100 + nu)) sg vb le gb' wo L → frR T0 L → tkF B n (plc B n p) L → sm_wp X 234 30 [some (.ref 81), none] [] (sM mo G L J) R) : sm_wp X 234 30 [some (.ref 81), none] [] (sM mo G T J) R := by
  obtain ⟨s1, s2, s3⟩ := hC.1
  obtain ⟨s4, s5, s6, s7, s8⟩ := s3 (by omega)
  rw [if_neg (show ¬ d = 3 by omega)] at s7
  have go := r_opt (X := X) (mo := mo) (G := G) (J := J) (R := R) (x := 100 + nu) (x1 := 0) hC hW hd hk (by unfold ar; rw [if_pos (by omega)]) f hQ
  rw [show kdc (100 + nu) = 0 from by unfold kdc; rw [if_pos (by omega)], show amc (100 + nu) = nu from by unfold amc; rw [if_pos (by omega)]; omega] at go
  rw [lp_234_30, if_neg (by rw [s7]; decide), lp_235_0, if_pos (by rintro ⟨a, -⟩; rw [h22] at a; exact absurd a (by decide)), if_pos (by rintro ⟨a, -⟩; rw [h22] at a; exact absurd a (by decide)), if_pos (by rw [h22]; decide), if_pos h22, h23, if_pos (by rw [zIr_le (c := 99999) (by decide) (by omega)]; exact hn), s1, if_pos (by rw [zIr_eq (c := 64) (by decide) (by omega)]; show ¬ kn = 64; omega), show (384 : Int32) + zI kn = zI (384 + kn) from zIl_add 384 kn, zI_vp (by omega), if_pos (by rw [zIl_le (c := 0) (by decide) (by omega)]; exact Nat.zero_le _), zI_cn (by omega), show zI kn + 1 = zI (kn + 1) from zIr_add 1 _]
  exact ⟨by omega, go⟩
theorem r_nam {B : Nat → Nat} {n p m z w d kn o t : Nat} {cm : Int32} {c sg vb le gb wo : Nat → Nat} {T0 T : Nat → Nat → Int32} (hC : CT m z w d kn o cm c sg vb le gb wo T) (hW : pW m z w d kn o c sg vb le) (hd : d = 1 ∨ d = 2) (hk : kn < 64) (h22 : T 81 22 = 1) (h23 : T 81 23 = zI t) (t1 : 7 ≤ t) (t2 : t < 19) (f : tpF B n p T0 T)
    (hQ : ∀ L gb', CT m (z + 1) w 3 (kn + 1) o cm (va_up c z t) sg vb le gb' wo L → frR T0 L → tkF B n (plc B n p) L → sm_wp X 234 30 [some (.ref 81), none] [] (sM mo G L J) R) : sm_wp X 234 30 [some (.ref 81), none] [] (sM mo G T J) R := by
  obtain ⟨s1, s2, s3⟩ := hC.1
  obtain ⟨s4, s5, s6, s7, s8⟩ := s3 (by omega)
  rw [if_neg (show ¬ d = 3 by omega)] at s7
  have go := r_opt (X := X) (mo := mo) (G := G) (J := J) (R := R) (x := t) (x1 := 1) hC hW hd hk (by unfold ar; rw [if_pos (by omega)]) f hQ
  rw [show kdc t = 16 from by unfold kdc; rw [if_neg (by omega), if_pos (by omega)], show amc t = t - 7 from by unfold amc; rw [if_neg (by omega), if_pos (by omega)]] at go
  rw [lp_234_30, if_neg (by rw [s7]; decide), lp_235_0, if_pos (by rintro ⟨a, -⟩; rw [h22] at a; exact absurd a (by decide)), if_pos (by rintro ⟨a, -⟩; rw [h22] at a; exact absurd a (by decide)), if_neg (fun e => e h22), h23, if_pos (by rw [zIr_eq (c := 6) (by decide) (by omega)]; show ¬ t = 6; omega), if_neg (by rw [zIr_lt (c := 7) (by decide) (by omega)]; show ¬ t < 7; omega), s1, if_pos (by rw [zIr_eq (c := 64) (by decide) (by omega)]; show ¬ kn = 64; omega), show (384 : Int32) + zI kn = zI (384 + kn) from zIl_add 384 kn, zI_vp (by omega), if_pos (by rw [zIl_le (c := 0) (by decide) (by omega)]; exact Nat.zero_le _), zI_cn (by omega), show zI kn + 1 = zI (kn + 1) from zIr_add 1 _, show zI t - 7 = zI (t - 7) from zIr_sub (c := 7) t1]
  exact ⟨by omega, go⟩
end R2
end
section
/-! Orders: the reference's steps where a value is due: signs before it, faults. -/
theorem bt_an {cm : Int32} {o j : Nat} (ho : o < 31) (hj : j < 31) : bt (cm &&& (b1 o ^^^ (-1))) j = (bt cm j && !decide (j = o)) := by
  rw [bt_and, bt_xor, bt_b1 o j (by omega) (by omega), bt_m1 (by omega), Bool.xor_true]
theorem bt_or1 {cm : Int32} {o j : Nat} (ho : o < 31) (hj : j < 31) : bt (cm ||| b1 o) j = (bt cm j || decide (j = o)) := by
  rw [bt_or, bt_b1 o j (by omega) (by omega)]
section R3
variable {X : (Nat → Int32) × Nat} {mo : Bool} {G : Nat × Nat} {J : Nat → Nat → Int64} {R : Option Value → sm_M → Prop}
/-- a minus or a not before a value: x 33 or 4, its kind k -/
theorem r_pre {B : Nat → Nat} {n p m z w d kn o x d' : Nat} {cm : Int32} {c sg vb le gb wo : Nat → Nat} {T0 T : Nat → Nat → Int32} (hC : CT m z w d kn o cm c sg vb le gb wo T) (hW : pW m z w d kn o c sg vb le) (hd : d = 1 ∨ d = 2) (hk : kn < 64) (hx : (x = 33 ∧ d' = 2) ∨ (x = 4 ∧ d = 1 ∧ d' = 1)) (f : tpF B n p T0 T)
    (hQ : ∀ L wo', CT m z (w + 1) d' (kn + 1) o cm c (va_up sg w x) vb le gb wo' L → frR T0 L → tkF B n (plc B n p) L → R (some (.int 1)) (sM mo G L J)) :
    sm_wp X 238 0 [some (.ref 81), some (.int (zI (kdc x))), none] [] (sM mo G T J) R := by
  obtain ⟨hS, hB, hHC, hV⟩ := hC
  obtain ⟨hH, hc⟩ := hHC (by omega)
  obtain ⟨s1, s2, s3⟩ := hS
  obtain ⟨s4, s5, s6, s7, s8⟩ := s3 (by omega)
  have s8 := s8 (by omega)
  rw [if_neg (show ¬ d = 3 by omega)] at s7
  have wb : w ≤ 72 := by have := np_w sg w; have := hW.1; omega
  have x30 : ¬ x = 30 := by omega
  have od : on d = on d' := by rw [on_1 (by omega), on_1 (by omega)]
  have am0 : amc x = 0 := by unfold amc; rw [if_neg (by omega), if_neg (by omega)]
  have wx : wtc x = kdc x := by unfold wtc; rw [if_neg x30]
  have fU : frR T0 (up2 (up2 (up2 (up2 (up2 (up2 (up2 (up2 T 81 34 (zI (kn + 1))) 94 (384 + kn) (zI (kdc x))) 95 (384 + kn) (-1)) 96 (384 + kn) (-1)) 97 (384 + kn) 0) 103 w (zI (kdc x))) 104 w (zI (384 + kn))) 81 38 (zI (w + 1))) := fr_u (by unfold okc; omega) (fr_u (by unfold okc; omega) (fr_u (by unfold okc; omega) (fr_u (by unfold okc; omega) (fr_u (by unfold okc; omega) (fr_u (by unfold okc; omega) (fr_u (by unfold okc; omega) (fr_u (by unfold okc; omega) f.2.1)))))))
  have nB := rB_w (x := x) (g := kn) (rB_g (zI (kdc x)) (-1) (-1) 0 hB) (zI (384 + kn)) (fun _ => ⟨rfl, by omega, vs_a _ _ _, vs_a _ _ _, fun i hi e => by have := (hB.1 i hi).2.1; omega, fun j hj hs e => by have := ((hB.2.1 j hj).2 hs).2.1; omega⟩)
  rw [wx] at nB
  have fin : ∀ U, frR T0 U → U 81 21 = T 81 21 → U 81 34 = zI (kn + 1) → U 81 35 = zI z → U 81 38 = zI (w + 1) → U 81 42 = zI o → U 81 43 = (if bt cm o = true then 1 else 0) → U 81 44 = 1 → U 81 45 = (if d' = 1 then 1 else 0) → U 81 40 = T 81 40 → U 94 = va_up (T 94) (384 + kn) (zI (kdc x)) → U 95 = va_up (T 95) (384 + kn) (-1) → U 96 = va_up (T 96) (384 + kn) (-1) → U 97 = va_up (T 97) (384 + kn) 0 → U 103 = va_up (T 103) w (zI (kdc x)) → U 104 = va_up (T 104) w (zI (384 + kn)) → (∀ d, ¬ d = 81 → ¬ d = 94 → ¬ d = 95 → ¬ d = 96 → ¬ d = 97 → ¬ d = 103 → ¬ d = 104 → U d = T d) → sm_wp X 226 0 [some (.ref 81), none] [] (sM mo G U J) (fun v M => sm_wp X 238 34 [some (.ref 81), some (.int (zI (kdc x))), some (.int (zI (384 + kn)))] (v.toList ++ []) M R) := by
    intro U u0 u21 u34 u35 u38 u42 u43 u44 u45 u40 u94 u95 u96 u97 u103 u104 un
    refine r_tf f u0 u21 ?_
    intro L hL
    have tL := tkM_F hL
    simp only [tl_none]
    rw [lp_238_34]
    refine hQ L (va_up wo w kn) (CT_tk ⟨⟨u34, u35, fun _ => ⟨u38, u42, u43, by rw [if_neg (by omega)]; exact u44, fun _ => u45⟩⟩, ?_, fun _ => ⟨?_, ?_⟩, ?_⟩ hL) (fr_tk u0 hL) tL
    · rw [u94, u95, u96, u97, u103, u104, un 98 (by decide) (by decide) (by decide) (by decide) (by decide) (by decide) (by decide)]
      exact nB
    · rw [un 105 (by decide) (by decide) (by decide) (by decide) (by decide) (by decide) (by decide), u40]
      exact hH
    · rw [un 106 (by decide) (by decide) (by decide) (by decide) (by decide) (by decide) (by decide)]
      exact hc
    · rw [un 99 (by decide) (by decide) (by decide) (by decide) (by decide) (by decide) (by decide), un 100 (by decide) (by decide) (by decide) (by decide) (by decide) (by decide) (by decide), un 101 (by decide) (by decide) (by decide) (by decide) (by decide) (by decide) (by decide), un 102 (by decide) (by decide) (by decide) (by decide) (by decide) (by decide) (by decide)]
      exact ⟨fun i hi => hV.1 i (by omega), hV.2⟩
  have q13 : ∀ U, U = up2 (up2 (up2 (up2 (up2 (up2 (up2 (up2 T 81 34 (zI (kn + 1))) 94 (384 + kn) (zI (kdc x))) 95 (384 + kn) (-1)) 96 (384 + kn) (-1)) 97 (384 + kn) 0) 103 w (zI (kdc x))) 104 w (zI (384 + kn))) 81 38 (zI (w + 1)) → True := fun _ _ => trivial
  rw [lp_238_0, s1, if_pos (by rw [zIr_eq (c := 64) (by decide) (by omega)]; show ¬ kn = 64; omega), show (384 : Int32) + zI kn = zI (384 + kn) from zIl_add 384 kn, zI_vp (by omega), if_pos (by rw [zIl_le (c := 0) (by decide) (by omega)]; exact Nat.zero_le _), zI_cn (by omega), show zI kn + 1 = zI (kn + 1) from zIr_add 1 _, s4, zI_vp (by omega), zI_cn (by omega), show zI w + 1 = zI (w + 1) from zIr_add 1 _]
  refine ⟨by omega, by omega, ?_⟩
  rcases hx with ⟨rfl, rfl⟩ | ⟨rfl, rfl, rfl⟩
  · rw [if_neg (by decide)]
    refine fin _ (fr_u (by unfold okc; omega) fU) ?_ ?_ ?_ ?_ ?_ ?_ ?_ ?_ ?_ ?_ ?_ ?_ ?_ ?_ ?_ ?_
    · simp (decide := true) only [up2_ra, up2_rn, va_ap, ne_eq, if_false, if_true, not_false_eq_true]
    · simp (decide := true) only [up2_ra, up2_rn, va_ap, ne_eq, if_false, if_true, not_false_eq_true]
    · simp (decide := true) only [up2_ra, up2_rn, va_ap, ne_eq, if_false, if_true, not_false_eq_true]; exact s2
    · simp (decide := true) only [up2_ra, up2_rn, va_ap, ne_eq, if_false, if_true, not_false_eq_true]
    · simp (decide := true) only [up2_ra, up2_rn, va_ap, ne_eq, if_false, if_true, not_false_eq_true]; exact s5
    · simp (decide := true) only [up2_ra, up2_rn, va_ap, ne_eq, if_false, if_true, not_false_eq_true]; exact s6
    · simp (decide := true) only [up2_ra, up2_rn, va_ap, ne_eq, if_false, if_true, not_false_eq_true]; exact s7
    · simp (decide := true) only [up2_ra, up2_rn, va_ap, ne_eq, if_false, if_true, not_false_eq_true]
    · simp (decide := true) only [up2_ra, up2_rn, va_ap, ne_eq, if_false, if_true, not_false_eq_true]
    · simp (decide := true) only [up2_ra, up2_rn, ne_eq, not_false_eq_true]
    · simp (decide := true) only [up2_ra, up2_rn, ne_eq, not_false_eq_true]
    · simp (decide := true) only [up2_ra, up2_rn, ne_eq, not_false_eq_true]
    · simp (decide := true) only [up2_ra, up2_rn, ne_eq, not_false_eq_true]
    · simp (decide := true) only [up2_ra, up2_rn, ne_eq, not_false_eq_true]
    · simp (decide := true) only [up2_ra, up2_rn, ne_eq, not_false_eq_true]
    · exact fun d a b c e f g h => by simp only [up2_rn, ne_eq, a, b, c, e, f, g, h, not_false_eq_true]
  · rw [if_pos (by decide)]
    refine fin _ fU ?_ ?_ ?_ ?_ ?_ ?_ ?_ ?_ ?_ ?_ ?_ ?_ ?_ ?_ ?_ ?_
    · simp (decide := true) only [up2_ra, up2_rn, va_ap, ne_eq, if_false, if_true, not_false_eq_true]
    · simp (decide := true) only [up2_ra, up2_rn, va_ap, ne_eq, if_false, if_true, not_false_eq_true]
    · simp (decide := true) only [up2_ra, up2_rn, va_ap, ne_eq, if_false, if_true, not_false_eq_true]; exact s2
    · simp (decide := true) only [up2_ra, up2_rn, va_ap, ne_eq, if_false, if_true, not_false_eq_true]
    · simp (decide := true) only [up2_ra, up2_rn, va_ap, ne_eq, if_false, if_true, not_false_eq_true]; exact s5
    · simp (decide := true) only [up2_ra, up2_rn, va_ap, ne_eq, if_false, if_true, not_false_eq_true]; exact s6
    · simp (decide := true) only [up2_ra, up2_rn, va_ap, ne_eq, if_false, if_true, not_false_eq_true]; exact s7
    · simp (decide := true) only [up2_ra, up2_rn, va_ap, ne_eq, if_false, if_true, not_false_eq_true]; exact s8
    · simp (decide := true) only [up2_ra, up2_rn, va_ap, ne_eq, if_false, if_true, not_false_eq_true]
    · simp (decide := true) only [up2_ra, up2_rn, ne_eq, not_false_eq_true]
    · simp (decide := true) only [up2_ra, up2_rn, ne_eq, not_false_eq_true]
    · simp (decide := true) only [up2_ra, up2_rn, ne_eq, not_false_eq_true]
    · simp (decide := true) only [up2_ra, up2_rn, ne_eq, not_false_eq_true]
    · simp (decide := true) only [up2_ra, up2_rn, ne_eq, not_false_eq_true]
    · simp (decide := true) only [up2_ra, up2_rn, ne_eq, not_false_eq_true]
    · exact fun d a b c e f g h => by simp only [up2_rn, ne_eq, a, b, c, e, f, g, h, not_false_eq_true]
theorem r_neg {B : Nat → Nat} {n p m z w d kn o : Nat} {cm : Int32} {c sg vb le gb wo : Nat → Nat} {T0 T : Nat → Nat → Int32} (hC : CT m z w d kn o cm c sg vb le gb wo T) (hW : pW m z w d kn o c sg vb le) (hd : d = 1 ∨ d = 2) (hk : kn < 64) (h22 : T 81 22 = 3) (h23 : T 81 23 = zI 8) (f : tpF B n p T0 T)
    (hQ : ∀ L wo', CT m z (w + 1) 2 (kn + 1) o cm c (va_up sg w 33) vb le gb wo' L → frR T0 L → tkF B n (plc B n p) L → sm_wp X 234 30 [some (.ref 81), none] [] (sM mo G L J) R) : sm_wp X 234 30 [some (.ref 81), none] [] (sM mo G T J) R := by
  obtain ⟨s1, s2, s3⟩ := hC.1
  obtain ⟨s4, s5, s6, s7, s8⟩ := s3 (by omega)
  rw [if_neg (show ¬ d = 3 by omega)] at s7
  rw [lp_234_30, if_neg (by rw [s7]; decide), lp_235_0, if_pos (by rintro ⟨-, a⟩; rw [h23] at a; exact absurd a (by decide)), if_neg (fun e => e ⟨h22, h23⟩)]
  refine r_pre (x := 33) (d' := 2) hC hW hd hk (Or.inl ⟨rfl, rfl⟩) f (fun L wo' a b e => ?_)
  simp only [tl_some]
  rw [lp_235_85]
  refine ⟨Or.inr rfl, ?_⟩
  simp only [tl_some]
  rw [lp_234_43, if_pos (by decide)]
  exact hQ L wo' a b e
theorem r_not {B : Nat → Nat} {n p m z w kn o : Nat} {cm : Int32} {c sg vb le gb wo : Nat → Nat} {T0 T : Nat → Nat → Int32} (hC : CT m z w 1 kn o cm c sg vb le gb wo T) (hW : pW m z w 1 kn o c sg vb le) (hk : kn < 64) (h22 : T 81 22 = 1) (h23 : T 81 23 = zI 6) (f : tpF B n p T0 T)
    (hQ : ∀ L wo', CT m z (w + 1) 1 (kn + 1) o cm c (va_up sg w 4) vb le gb wo' L → frR T0 L → tkF B n (plc B n p) L → sm_wp X 234 30 [some (.ref 81), none] [] (sM mo G L J) R) : sm_wp X 234 30 [some (.ref 81), none] [] (sM mo G T J) R := by
  obtain ⟨s1, s2, s3⟩ := hC.1
  obtain ⟨s4, s5, s6, s7, s8⟩ := s3 (by omega)
  have s8 := s8 (by omega)
  rw [if_neg (by decide)] at s7
  rw [if_pos rfl] at s8
  rw [lp_234_30, if_neg (by rw [s7]; decide), lp_235_0, if_pos (by rintro ⟨a, -⟩; rw [h22] at a; exact absurd a (by decide)), if_pos (by rintro ⟨a, -⟩; rw [h22] at a; exact absurd a (by decide)), if_neg (fun e => e h22), if_neg (fun e => e h23), if_neg (by rw [s8]; decide)]
  refine r_pre (x := 4) (d' := 1) hC hW (Or.inl rfl) hk (Or.inr ⟨rfl, rfl, rfl⟩) f (fun L wo' a b e => ?_)
  simp only [tl_some]
  rw [lp_235_116]
  refine ⟨Or.inr rfl, ?_⟩
  simp only [tl_some]
  rw [lp_234_43, if_pos (by decide)]
  exact hQ L wo' a b e
/-- a parenthesis -/
theorem r_par {B : Nat → Nat} {n p m z w d kn o : Nat} {cm : Int32} {c sg vb le gb wo : Nat → Nat} {T0 T : Nat → Nat → Int32} (hC : CT m z w d kn o cm c sg vb le gb wo T) (hW : pW m z w d kn o c sg vb le) (hd : d = 1 ∨ d = 2) (ho : o < 8) (h22 : T 81 22 = 3) (h23 : T 81 23 = zI 40) (f : tpF B n p T0 T)
    (hQ : ∀ L wo', CT m z (w + 1) 1 kn (o + 1) (cm &&& (b1 (o + 1) ^^^ (-1))) c (va_up sg w 30) vb le gb wo' L → frR T0 L → tkF B n (plc B n p) L → sm_wp X 234 30 [some (.ref 81), none] [] (sM mo G L J) R) : sm_wp X 234 30 [some (.ref 81), none] [] (sM mo G T J) R := by
  obtain ⟨hS, hB, hHC, hV⟩ := hC
  obtain ⟨hH, hc⟩ := hHC (by omega)
  obtain ⟨s1, s2, s3⟩ := hS
  obtain ⟨s4, s5, s6, s7, s8⟩ := s3 (by omega)
  rw [if_neg (show ¬ d = 3 by omega)] at s7
  have wb : w ≤ 72 := by have := np_w sg w; have := hW.1; omega
  have od : on d = on 1 := by rw [on_1 (by omega), on_1 (by omega)]
  have nr : vp_nar .boolean (T 81 43) = (if bt cm o = true then 1 else 0) := by
    rw [s6]
    split <;> rfl
  rw [lp_234_30, if_neg (by rw [s7]; decide), lp_235_0, if_neg (fun e => e ⟨h22, h23⟩), s5, s4, if_pos (by rw [zIr_eq (c := 8) (by decide) (by omega)]; show ¬ o = 8; omega), zI_vp (by omega), zI_vp (by omega), zI_cn (by omega), zI_cn (by omega), nr, show zI o + 1 = zI (o + 1) from zIr_add 1 _, show zI w + 1 = zI (w + 1) from zIr_add 1 _]
  refine ⟨by omega, by omega, ?_⟩
  have fU : frR T0 (up2 (up2 (up2 (up2 (up2 (up2 (up2 T 106 o (if bt cm o = true then 1 else 0)) 81 42 (zI (o + 1))) 103 w 100) 104 w (-1)) 81 38 (zI (w + 1))) 81 43 0) 81 45 1) := fr_u (by unfold okc; omega) (fr_u (by unfold okc; omega) (fr_u (by unfold okc; omega) (fr_u (by unfold okc; omega) (fr_u (by unfold okc; omega) (fr_u (by unfold okc; omega) (fr_u (by unfold okc; omega) f.2.1))))))
  refine r_tf f fU (by simp (decide := true) only [up2_ra, up2_rn, va_ap, ne_eq, if_false, if_true, not_false_eq_true]) ?_
  intro L hL
  have tL := tkM_F hL
  simp only [tl_none]
  rw [lp_235_68]
  simp only [tl_some]
  rw [lp_234_43, if_pos (by decide)]
  refine hQ L (va_up wo w 0) (CT_tk ⟨⟨?_, ?_, fun _ => ⟨?_, ?_, ?_, ?_, fun _ => ?_⟩⟩, ?_, fun _ => ⟨?_, ?_⟩, ?_⟩ hL) (fr_tk fU hL) tL
  · simp (decide := true) only [up2_ra, up2_rn, va_ap, ne_eq, if_false, if_true, not_false_eq_true]; exact s1
  · simp (decide := true) only [up2_ra, up2_rn, va_ap, ne_eq, if_false, if_true, not_false_eq_true]; exact s2
  · simp (decide := true) only [up2_ra, up2_rn, va_ap, ne_eq, if_false, if_true, not_false_eq_true]
  · simp (decide := true) only [up2_ra, up2_rn, va_ap, ne_eq, if_false, if_true, not_false_eq_true]
  · simp (decide := true) only [up2_ra, up2_rn, va_ap, ne_eq, if_false, if_true, not_false_eq_true]
    rw [bt_an (by omega) (by omega), decide_eq_true rfl]
    cases bt cm (o + 1) <;> rfl
  · simp (decide := true) only [up2_ra, up2_rn, va_ap, ne_eq, if_false, if_true, not_false_eq_true]; exact s7
  · simp (decide := true) only [up2_ra, up2_rn, va_ap, ne_eq, if_false, if_true, not_false_eq_true]
  · simp (decide := true) only [up2_ra, up2_rn, ne_eq, not_false_eq_true]
    exact rB_w (x := 30) (g := 0) hB (-1) (fun e => absurd rfl e)
  · simp (decide := true) only [up2_ra, up2_rn, va_ap, ne_eq, if_false, if_true, not_false_eq_true]
    exact hH
  · simp (decide := true) only [up2_ra, up2_rn, ne_eq, not_false_eq_true]
    intro j hj
    rw [bt_an (by omega) (by omega)]
    have : (!decide (j = o + 1)) = true := by rw [decide_eq_false (by omega)]; rfl
    rw [this, Bool.and_true]
    by_cases e : j = o
    · rw [e, vs_a]
    · rw [vs_n _ _ e]; exact hc j (by omega)
  · simp (decide := true) only [up2_ra, up2_rn, va_ap, ne_eq, if_false, if_true, not_false_eq_true]
    exact ⟨fun i hi => hV.1 i (by omega), hV.2⟩
/-- faults -/
theorem r_vf {d z w kn o : Nat} {cm : Int32} {T : Nat → Nat → Int32} (hS : rS (T 81) z w d kn o cm) (hd : d = 1 ∨ d = 2) (ho : o ≤ 8) (hk : kn ≤ 64) {q t e : Nat} {B : Nat → Nat} (hT : tkR B q t e (T 81 22) (T 81 23)) (hR : ∀ f : Nat, ((f = 1 ∧ ¬ t = 36 ∧ ¬ (7 ≤ t ∧ t < 19) ∧ ¬ t = 30 ∧ ¬ t = 20 ∧ ¬ (t = 4 ∧ d = 1)) ∨ (f = 2 ∧ ((t = 36 ∧ 99999 < nuC B q (e - q)) ∨ (t = 30 ∧ o = 8) ∨ (kn = 64 ∧ ((t = 36 ∧ nuC B q (e - q) ≤ 99999) ∨ (7 ≤ t ∧ t < 19) ∨ t = 20 ∨ (t = 4 ∧ d = 1)))))) → R (some (.int 0)) (sM mo G (up2 (up2 T 81 18 (zI f)) 81 19 (T 81 24)) J))
    (hF : (¬ t = 36 ∧ ¬ (7 ≤ t ∧ t < 19) ∧ ¬ t = 30 ∧ ¬ t = 20 ∧ ¬ (t = 4 ∧ d = 1)) ∨ ((t = 36 ∧ 99999 < nuC B q (e - q)) ∨ (t = 30 ∧ o = 8) ∨ (kn = 64 ∧ ((t = 36 ∧ nuC B q (e - q) ≤ 99999) ∨ (7 ≤ t ∧ t < 19) ∨ t = 20 ∨ (t = 4 ∧ d = 1))))) : sm_wp X 234 30 [some (.ref 81), none] [] (sM mo G T J) R := by
  obtain ⟨s1, s2, s3⟩ := hS
  obtain ⟨s4, s5, s6, s7, s8⟩ := s3 (by omega)
  have s8 := s8 (by omega)
  rw [if_neg (show ¬ d = 3 by omega)] at s7
  have z43 : ∀ f : Nat, R (some (.int 0)) (sM mo G (up2 (up2 T 81 18 (zI f)) 81 19 (T 81 24)) J) → sm_wp X 234 43 [some (.ref 81), some (.int 1)] [.int 0] (sM mo G (up2 (up2 T 81 18 (zI f)) 81 19 (T 81 24)) J) R := fun f h => by
    rw [lp_234_43, if_neg (fun e => e rfl)]; exact h
  have k64 : kn = 64 → T 81 34 = 64 := fun e => by rw [s1, e]; rfl
  rw [lp_234_30, if_neg (by rw [s7]; decide), lp_235_0]
  simp only [tl_some]
  rcases hT with ⟨rfl, a⟩ | ⟨a0, a, b⟩ | ⟨a0, a1, a, b⟩ | ⟨rfl, a⟩ | ⟨rfl, a, b⟩
  · -- the end
    rw [if_pos (by rintro ⟨x, -⟩; rw [a] at x; exact absurd x (by decide)), if_pos (by rintro ⟨x, -⟩; rw [a] at x; exact absurd x (by decide)), if_pos (by rw [a]; decide), if_neg (by rw [a]; decide)]
    exact z43 1 (hR 1 (Or.inl ⟨rfl, by omega, by omega, by omega, by omega, by omega⟩))
  · -- a word
    have p19 : prm t < 19 := by unfold prm; split <;> (try split) <;> omega
    rw [if_pos (by rintro ⟨x, -⟩; rw [a] at x; exact absurd x (by decide)), if_pos (by rintro ⟨x, -⟩; rw [a] at x; exact absurd x (by decide)), if_neg (fun e => e a), b]
    by_cases n7 : 7 ≤ t
    · have k : kn = 64 := by omega
      have pt : prm t = t := by unfold prm; rw [if_neg (by omega), if_neg (by omega)]
      rw [pt, if_pos (by rw [zIr_eq (c := 6) (by decide) (by omega)]; show ¬ t = 6; omega), if_neg (by rw [zIr_lt (c := 7) (by decide) (by omega)]; show ¬ t < 7; omega), if_neg (fun e => e (k64 k))]
      exact z43 2 (hR 2 (Or.inr ⟨rfl, by omega⟩))
    · by_cases n4 : t = 4
      · have pt : prm t = 6 := by rw [n4]; rfl
        rw [pt, if_neg (fun e => e rfl)]
        by_cases d1 : d = 1
        · have k : kn = 64 := by omega
          rw [if_pos d1] at s8
          rw [if_neg (by rw [s8]; decide), lp_238_0, if_neg (fun e => e (k64 k))]
          simp only [tl_some]
          rw [lp_235_116]
          refine ⟨Or.inl rfl, ?_⟩
          exact z43 2 (hR 2 (Or.inr ⟨rfl, by omega⟩))
        · rw [if_neg d1] at s8
          rw [if_pos s8, if_pos (by decide), if_neg (by rw [a]; decide)]
          exact z43 1 (hR 1 (Or.inl ⟨rfl, by omega, by omega, by omega, by omega, by omega⟩))
      · have pt : ¬ prm t = 6 ∧ prm t < 7 := by unfold prm; rw [if_neg n4]; split <;> omega
        rw [if_pos (by rw [zIr_eq (c := 6) (by decide) (by omega)]; exact pt.1), if_pos (by rw [zIr_lt (c := 7) (by decide) (by omega)]; exact pt.2), if_neg (by rw [a]; decide)]
        exact z43 1 (hR 1 (Or.inl ⟨rfl, by omega, by omega, by omega, by omega, by omega⟩))
  · -- a sign
    have s100 : sgW t < 100 := by unfold sgW; split <;> (try split) <;> (try split) <;> (try split) <;> omega
    by_cases n30 : t = 30
    · have o8 : o = 8 := by omega
      rw [if_neg (fun e => e ⟨a, by rw [b, n30]; rfl⟩), if_neg (fun e => e (by rw [s5, o8]; rfl))]
      exact z43 2 (hR 2 (Or.inr ⟨rfl, by omega⟩))
    · have s40 : ¬ sgW t = 40 := by unfold sgW; split <;> (try split) <;> (try split) <;> (try split) <;> omega
      rw [if_pos (by rintro ⟨-, x⟩; rw [b, zIr_eq (c := 40) (by decide) (by omega)] at x; exact s40 x)]
      by_cases n20 : t = 20
      · have k : kn = 64 := by omega
        rw [if_neg (fun e => e ⟨a, by rw [b, n20]; rfl⟩), lp_238_0, if_neg (fun e => e (k64 k))]
        simp only [tl_some]
        rw [lp_235_85]
        refine ⟨Or.inl rfl, ?_⟩
        exact z43 2 (hR 2 (Or.inr ⟨rfl, by omega⟩))
      · have s8' : ¬ sgW t = 8 := by unfold sgW; split <;> (try split) <;> (try split) <;> (try split) <;> omega
        rw [if_pos (by rintro ⟨-, x⟩; rw [b, zIr_eq (c := 8) (by decide) (by omega)] at x; exact s8' x), if_pos (by rw [a]; decide), if_neg (by rw [a]; decide)]
        exact z43 1 (hR 1 (Or.inl ⟨rfl, by omega, by omega, by omega, by omega, by omega⟩))
  · rw [if_pos (by rintro ⟨x, -⟩; rw [a] at x; exact absurd x (by decide)), if_pos (by rintro ⟨x, -⟩; rw [a] at x; exact absurd x (by decide)), if_pos (by rw [a]; decide), if_neg (by rw [a]; decide)]
    exact z43 1 (hR 1 (Or.inl ⟨rfl, by omega, by omega, by omega, by omega, by omega⟩))
  · rw [if_pos (by rintro ⟨x, -⟩; rw [a] at x; exact absurd x (by decide)), if_pos (by rintro ⟨x, -⟩; rw [a] at x; exact absurd x (by decide)), if_pos (by rw [a]; decide), if_pos a]
    rcases b with ⟨b1, b2⟩ | ⟨b1, b2⟩
    · have k : kn = 64 := by omega
      rw [if_pos (by rw [b2, zIr_le (c := 99999) (by decide) (by omega)]; exact b1), if_neg (fun e => e (k64 k))]
      exact z43 2 (hR 2 (Or.inr ⟨rfl, by omega⟩))
    · rw [if_neg b2]
      exact z43 2 (hR 2 (Or.inr ⟨rfl, by omega⟩))
end R3
end
section
/-! Orders: the reference's steps where a sign is due. -/
theorem pc_b {least b : Nat} {sg wo : Nat → Nat} : ∀ w z f, (∀ i, i < z → f i < b) → (∀ j, j < w → least ≤ stg (sg j) → wo j < b) → ∀ i, i < z + pm least sg w → pcG least sg wo w z f i < b := by
  intro w
  induction w with
  | zero => intro z f h _ i hi; exact h i hi
  | succ w ih =>
    intro z f h k i hi
    have um : pm least sg (w + 1) = if least ≤ stg (sg w) then pm least sg w + 1 else 0 := rfl
    have uc : pcG least sg wo (w + 1) z f = if least ≤ stg (sg w) then pcG least sg wo w (z + 1) (va_up f z (wo w)) else f := rfl
    by_cases g : least ≤ stg (sg w)
    · rw [if_pos g] at um uc
      rw [um] at hi
      rw [uc]
      refine ih (z + 1) (va_up f z (wo w)) (fun i hi => ?_) (fun j hj => k j (by omega)) i (by omega)
      by_cases e : i = z
      · rw [e, va_s]; exact k w (by omega) g
      · rw [va_n _ _ e]; exact h i (by omega)
    · rw [if_neg g] at um uc
      rw [um] at hi
      rw [uc]
      exact h i (by omega)
/-- a sign between two -/
def bsg (t : Nat) : Prop := (19 ≤ t ∧ t ≤ 29) ∨ t = 5 ∨ t = 6
theorem bsg_v {t : Nat} (h : bsg t) : vsg t ∧ ¬ t = 30 ∧ ar t = 2 ∧ wtc t = kdc t ∧ amc t = 0 ∧ kdc t < 16 := by
  unfold bsg at h
  refine ⟨by unfold vsg; omega, by omega, ?_, by unfold wtc; rw [if_neg (by omega)], ?_, ?_⟩
  · unfold ar; rw [if_neg (by omega), if_neg (by omega)]
  · unfold amc; rw [if_neg (by omega), if_neg (by omega)]
  · unfold kdc
    rw [if_neg (by omega), if_neg (by omega)]
    split
    · omega
    · split
      · omega
      · split
        · omega
        · split
          · omega
          · split <;> omega
theorem sn_y {L : Nat → Nat → Int32} {B : Nat → Nat} {q t e : Nat} (hT : tkR B q t e (L 81 22) (L 81 23)) (h : bsg t) : vf_Model_signNow L = zI (kdc t) := by
  have al : ∀ t : Fin 30, ((19 ≤ t.val ∧ t.val ≤ 29) ∨ t.val = 5 ∨ t.val = 6) → (t.val < 19 → (if ¬ zI (prm t.val) = 5 then (if ¬ zI (prm t.val) = 4 then (-1) else 15) else 14) = zI (kdc t.val)) ∧ (19 ≤ t.val → ¬ 12 ≤ zI (sgW t.val) ∧ zI (sgW t.val) = zI (kdc t.val)) := by decide
  unfold bsg at h
  have al := al ⟨t, by omega⟩ h
  unfold vf_Model_signNow
  rcases hT with ⟨rfl, a⟩ | ⟨a0, a, b⟩ | ⟨a0, a1, a, b⟩ | ⟨rfl, a⟩ | ⟨rfl, a, b⟩
  · omega
  · rw [if_neg (fun e => e a), b]
    exact al.1 a0
  · rw [if_pos (by rw [a]; decide), if_neg (fun e => e a), b, if_neg (al.2 a0).1]
    exact (al.2 a0).2
  · omega
  · omega
theorem sn_n {L : Nat → Nat → Int32} {B : Nat → Nat} {q t e : Nat} (hT : tkR B q t e (L 81 22) (L 81 23)) (h : ¬ bsg t) : vf_Model_signNow L = -1 := by
  have al : ∀ t : Fin 33, (¬ ((19 ≤ t.val ∧ t.val ≤ 29) ∨ t.val = 5 ∨ t.val = 6)) → (t.val < 19 → ¬ zI (prm t.val) = 5 ∧ ¬ zI (prm t.val) = 4) ∧ (19 ≤ t.val → 12 ≤ zI (sgW t.val)) := by decide
  unfold bsg at h
  unfold vf_Model_signNow
  rcases hT with ⟨rfl, a⟩ | ⟨a0, a, b⟩ | ⟨a0, a1, a, b⟩ | ⟨rfl, a⟩ | ⟨rfl, a, b⟩
  · rw [if_pos (by rw [a]; decide), if_pos (by rw [a]; decide)]
  · have al := (al ⟨t, by omega⟩ h).1 a0
    rw [if_neg (fun e => e a), b, if_pos al.1, if_pos al.2]
  · have al := (al ⟨t, by omega⟩ h).2 a0
    rw [if_pos (by rw [a]; decide), if_neg (fun e => e a), b, if_pos al]
  · rw [if_pos (by rw [a]; decide), if_pos (by rw [a]; decide)]
  · rw [if_pos (by rw [a]; decide), if_pos (by rw [a]; decide)]
section R4
variable {X : (Nat → Int32) × Nat} {mo : Bool} {G : Nat × Nat} {J : Nat → Nat → Int64} {R : Option Value → sm_M → Prop}
/-- a sign between two: what it leads to -/
def bto (t o : Nat) (cm : Int32) (du : Nat) (cm' : Int32) : Prop := (19 ≤ t ∧ t ≤ 23 ∧ du = 2 ∧ cm' = cm) ∨ (24 ≤ t ∧ t ≤ 29 ∧ ¬ bt cm o = true ∧ du = 2 ∧ cm' = cm ||| b1 o) ∨ ((t = 5 ∨ t = 6) ∧ du = 1 ∧ cm' = cm &&& (b1 o ^^^ (-1)))
theorem r_joi {B : Nat → Nat} {n p m z w kn o t du q e : Nat} {cm cm' : Int32} {c sg vb le gb wo : Nat → Nat} {T0 T : Nat → Nat → Int32} (hC : CT m z w 3 kn o cm c sg vb le gb wo T) (hW : pW m z w 3 kn o c sg vb le) (hk : kn < 64) (hT : tkR B q t e (T 81 22) (T 81 23)) (ht : bto t o cm du cm') (f : tpF B n p T0 T)
    (hQ : ∀ L gb' wo', CT m (z + pm (stg t) sg w) (w - pm (stg t) sg w + 1) du (kn + 1) o cm' (pcG (stg t) sg sg w z c) (va_up sg (w - pm (stg t) sg w) t) vb le gb' wo' L → pW m (z + pm (stg t) sg w) (w - pm (stg t) sg w + 1) du (kn + 1) o (pcG (stg t) sg sg w z c) (va_up sg (w - pm (stg t) sg w) t) vb le → frR T0 L → tkF B n (plc B n p) L → sm_wp X 234 30 [some (.ref 81), none] [] (sM mo G L J) R) : sm_wp X 234 30 [some (.ref 81), none] [] (sM mo G T J) R := by
  obtain ⟨hS, hB, hHC, hV⟩ := hC
  obtain ⟨hH, hc⟩ := hHC (by omega)
  obtain ⟨s1, s2, s3⟩ := hS
  obtain ⟨s4, s5, s6, s7, -⟩ := s3 (by omega)
  rw [if_pos rfl] at s7
  have bs : bsg t := by unfold bto at ht; unfold bsg; omega
  obtain ⟨v1, v2, v3, v4, v5, v6⟩ := bsg_v bs
  have sb := stg_b t
  have s1' : 1 ≤ stg t := by rw [stg_30 v1]; exact v2
  have wb : w ≤ 72 := by have := np_w sg w; have := hW.1; omega
  have du1 : du = 1 ∨ du = 2 := by unfold bto at ht; omega
  have od : on du = on 3 := by rw [on_1 (by omega), on_1 (by omega)]
  have o8 : o ≤ 8 := hW.1.2.2.2.2.1
  have pb := pm_b (stg t) sg w
  -- behind the pops
  have tail : ∀ x2 : Int32, (x2 = if kdc t < 7 then 1 else 0) → sm_wp X 244 0 [some (.ref 81), some (.int (zI (stg t))), none] [] (sM mo G (up2 (up2 (up2 (up2 (up2 T 81 34 (zI (kn + 1))) 94 (384 + kn) (zI (kdc t))) 95 (384 + kn) (-1)) 96 (384 + kn) (-1)) 97 (384 + kn) 0) J) (fun v M => sm_wp X 242 50 [some (.ref 81), some (.int (zI (kdc t))), some (.int x2), some (.int (zI (384 + kn)))] (v.toList ++ []) M (fun v M => sm_wp X 234 62 [some (.ref 81), some (.int 1)] (v.toList ++ []) M R)) := by
    intro x2 hx2
    generalize hU : up2 (up2 (up2 (up2 (up2 T 81 34 (zI (kn + 1))) 94 (384 + kn) (zI (kdc t))) 95 (384 + kn) (-1)) 96 (384 + kn) (-1)) 97 (384 + kn) 0 = U
    have fU : frR T0 U := by rw [← hU]; exact fr_u (by unfold okc; omega) (fr_u (by unfold okc; omega) (fr_u (by unfold okc; omega) (fr_u (by unfold okc; omega) (fr_u (by unfold okc; omega) f.2.1))))
    have u94 : U 94 = va_up (T 94) (384 + kn) (zI (kdc t)) := by rw [← hU]; simp (decide := true) only [up2_ra, up2_rn, ne_eq, not_false_eq_true]
    have u95 : U 95 = va_up (T 95) (384 + kn) (-1) := by rw [← hU]; simp (decide := true) only [up2_ra, up2_rn, ne_eq, not_false_eq_true]
    have u96 : U 96 = va_up (T 96) (384 + kn) (-1) := by rw [← hU]; simp (decide := true) only [up2_ra, up2_rn, ne_eq, not_false_eq_true]
    have u97 : U 97 = va_up (T 97) (384 + kn) 0 := by rw [← hU]; simp (decide := true) only [up2_ra, up2_rn, ne_eq, not_false_eq_true]
    have un : ∀ d, ¬ d = 81 → ¬ d = 94 → ¬ d = 95 → ¬ d = 96 → ¬ d = 97 → U d = T d := fun d a b c e g => by rw [← hU]; simp only [up2_rn, ne_eq, a, b, c, e, g, not_false_eq_true]
    have uj : ∀ j, ¬ j = 34 → U 81 j = T 81 j := fun j a => by rw [← hU]; simp (decide := true) only [up2_ra, up2_rn, va_ap, ne_eq, if_false, if_true, not_false_eq_true, a]
    have u34 : U 81 34 = zI (kn + 1) := by rw [← hU]; simp (decide := true) only [up2_ra, up2_rn, va_ap, ne_eq, if_false, if_true, not_false_eq_true]
    refine r_bind (kr := kn + 1) (sg := sg) (vb := vb) (le := le) (wo := wo) (m := m) (kn := kn) (o := o) s1' (by omega) (by omega) w z c gb U hW (by rw [uj 38 (by decide)]; exact s4) (by rw [uj 35 (by decide)]; exact s2) ?_ ?_ ?_
    · rw [u94, u95, u96, u97, un 98 (by decide) (by decide) (by decide) (by decide) (by decide), un 103 (by decide) (by decide) (by decide) (by decide) (by decide), un 104 (by decide) (by decide) (by decide) (by decide) (by decide)]
      exact rB_g _ _ _ _ hB
    · rw [un 105 (by decide) (by decide) (by decide) (by decide) (by decide), uj 40 (by decide)]
      exact hH
    intro L b1' l38 l35 lB lH lW
    obtain ⟨c1, c2, c3⟩ := b1'
    have fL : frR T0 L := fr_B fU ⟨c1, c2, c3⟩
    have e94 : L 94 (384 + kn) = zI (kdc t) := by rw [c1 94 (by decide) (by decide) (by decide) (by decide) (by decide), u94, vs_a]
    have e97 : L 97 (384 + kn) = 0 := by rw [c1 97 (by decide) (by decide) (by decide) (by decide) (by decide), u97, vs_a]
    have e43 : L 81 43 = (if bt cm o = true then 1 else 0) := by rw [c2 43 (by decide) (by decide) (by decide), uj 43 (by decide)]; exact s6
    have e42 : L 81 42 = zI o := by rw [c2 42 (by decide) (by decide) (by decide), uj 42 (by decide)]; exact s5
    have e34 : L 81 34 = zI (kn + 1) := by rw [c2 34 (by decide) (by decide) (by decide)]; exact u34
    have e21 : L 81 21 = T 81 21 := by rw [c2 21 (by decide) (by decide) (by decide), uj 21 (by decide)]
    have rn : ∀ d, 98 < d → d < 107 → ¬ d = 105 → L d = T d := fun d a b e => by rw [c1 d (by omega) (by omega) (by omega) (by omega) (by omega), un d (by omega) (by omega) (by omega) (by omega) (by omega)]
    have gk : ∀ i, i < z + pm (stg t) sg w → pcG (stg t) sg wo w z gb i < kn := pc_b w z gb (fun i hi => (hB.1 i hi).2.1) (fun j hj hs => ((hB.2.1 j hj).2 (by rw [← stg_30 (hW.2.1.1 j hj)]; omega)).2.1)
    have pB' := rB_w (x := t) (g := kn) lB (zI (384 + kn)) (fun _ => ⟨rfl, by omega, e94, e97, fun i hi e => by have := gk i hi; omega, fun j hj hs e => by have := ((hB.2.1 j (by omega)).2 hs).2.1; omega⟩)
    rw [v4] at pB'
    simp only [tl_none]
    rw [lp_242_50, l38, zI_vp (by omega), zI_cn (by omega), show zI (w - pm (stg t) sg w) + 1 = zI (w - pm (stg t) sg w + 1) from zIr_add 1 _]
    refine ⟨by omega, ?_⟩
    have fin : ∀ (hcv mn : Int32) , hcv = (if bt cm' o = true then 1 else 0) → mn = (if du = 1 then 1 else 0) → sm_wp X 226 0 [some (.ref 81), none] [] (sM mo G (up2 (up2 (up2 (up2 (up2 (up2 L 103 (w - pm (stg t) sg w) (zI (kdc t))) 104 (w - pm (stg t) sg w) (zI (384 + kn))) 81 38 (zI (w - pm (stg t) sg w + 1))) 81 43 hcv) 81 45 mn) 81 44 1) J) (fun v M => sm_wp X 242 106 [some (.ref 81), some (.int (zI (kdc t))), some (.int x2), some (.int (zI (384 + kn)))] (v.toList ++ []) M (fun v M => sm_wp X 234 62 [some (.ref 81), some (.int 1)] (v.toList ++ []) M R)) := by
      intro hcv mn h1 h2
      have fV : frR T0 (up2 (up2 (up2 (up2 (up2 (up2 L 103 (w - pm (stg t) sg w) (zI (kdc t))) 104 (w - pm (stg t) sg w) (zI (384 + kn))) 81 38 (zI (w - pm (stg t) sg w + 1))) 81 43 hcv) 81 45 mn) 81 44 1) := fr_u (by unfold okc; omega) (fr_u (by unfold okc; omega) (fr_u (by unfold okc; omega) (fr_u (by unfold okc; omega) (fr_u (by unfold okc; omega) (fr_u (by unfold okc; omega) fL)))))
      refine r_tf f fV (by simp (decide := true) only [up2_ra, up2_rn, va_ap, ne_eq, if_false, if_true, not_false_eq_true]; exact e21) ?_
      intro V hV'
      have tV := tkM_F hV'
      simp only [tl_none]
      rw [lp_242_106]
      simp only [tl_some]
      rw [lp_234_62, if_pos (by decide)]
      refine hQ V (pcG (stg t) sg wo w z gb) (va_up wo (w - pm (stg t) sg w) kn) (CT_tk ⟨⟨?_, ?_, fun _ => ⟨?_, ?_, ?_, ?_, fun _ => ?_⟩⟩, ?_, fun _ => ⟨?_, ?_⟩, ?_⟩ hV') (pW_b lW du1 hk v1 v2 v3) (fr_tk fV hV') tV
      · simp (decide := true) only [up2_ra, up2_rn, va_ap, ne_eq, if_false, if_true, not_false_eq_true]; exact e34
      · simp (decide := true) only [up2_ra, up2_rn, va_ap, ne_eq, if_false, if_true, not_false_eq_true]; exact l35
      · simp (decide := true) only [up2_ra, up2_rn, va_ap, ne_eq, if_false, if_true, not_false_eq_true]
      · simp (decide := true) only [up2_ra, up2_rn, va_ap, ne_eq, if_false, if_true, not_false_eq_true]; exact e42
      · simp (decide := true) only [up2_ra, up2_rn, va_ap, ne_eq, if_false, if_true, not_false_eq_true]; exact h1
      · simp (decide := true) only [up2_ra, up2_rn, va_ap, ne_eq, if_false, if_true, not_false_eq_true]; rw [if_neg (by omega)]
      · simp (decide := true) only [up2_ra, up2_rn, va_ap, ne_eq, if_false, if_true, not_false_eq_true]; exact h2
      · simp (decide := true) only [up2_ra, up2_rn, ne_eq, not_false_eq_true]
        exact pB'
      · simp (decide := true) only [up2_ra, up2_rn, va_ap, ne_eq, if_false, if_true, not_false_eq_true]
        exact lH
      · simp (decide := true) only [up2_ra, up2_rn, va_ap, ne_eq, if_false, if_true, not_false_eq_true]
        rw [rn 106 (by decide) (by decide) (by decide)]
        intro j hj
        rw [hc j hj]
        have : bt cm' j = bt cm j := by
          rcases ht with ⟨-, -, -, e2⟩ | ⟨-, -, -, -, e2⟩ | ⟨-, -, e2⟩
          · rw [e2]
          · rw [e2, bt_or1 (by omega) (by omega), decide_eq_false (by omega), Bool.or_false]
          · rw [e2, bt_an (by omega) (by omega), decide_eq_false (by omega), Bool.not_false, Bool.and_true]
        rw [this]
      · simp (decide := true) only [up2_ra, up2_rn, va_ap, ne_eq, if_false, if_true, not_false_eq_true]
        rw [rn 99 (by decide) (by decide) (by decide), rn 100 (by decide) (by decide) (by decide), rn 101 (by decide) (by decide) (by decide), rn 102 (by decide) (by decide) (by decide)]
        exact ⟨fun i hi => hV.1 i (by omega), hV.2⟩
    rcases ht with ⟨t1, t2, e1, e2⟩ | ⟨t1, t2, t3, e1, e2⟩ | ⟨t1, e1, e2⟩
    · have k1 : kdc t = t - 12 := by unfold kdc; rw [if_neg (by omega), if_neg (by omega), if_neg (by omega), if_neg (by omega), if_neg (by omega), if_neg (by omega), if_pos (by omega)]
      rw [if_neg (by omega)] at hx2
      rw [if_neg (by rw [hx2]; exact fun e => e rfl), if_neg (by rw [zIl_le (c := 12) (by decide) (by omega)]; show ¬ 12 ≤ kdc t; omega), e43]
      by_cases g : bt cm o = true
      · rw [if_pos g, if_neg (by decide), if_pos (by rw [zIr_le (c := 13) (by decide) (by omega)]; show kdc t ≤ 13; omega)]
        exact fin 1 0 (by rw [e2, if_pos g]) (by rw [if_neg (by omega)])
      · rw [if_neg g, if_pos rfl, if_pos (by rw [zIr_le (c := 13) (by decide) (by omega)]; show kdc t ≤ 13; omega)]
        exact fin 0 0 (by rw [e2, if_neg g]) (by rw [if_neg (by omega)])
    · have k1 : kdc t = t - 23 := by unfold kdc; rw [if_neg (by omega), if_neg (by omega), if_neg (by omega), if_neg (by omega), if_neg (by omega), if_neg (by omega), if_neg (by omega)]
      rw [if_pos (by omega)] at hx2
      rw [if_pos (by rw [hx2]; decide), if_pos (by rw [zIr_le (c := 13) (by decide) (by omega)]; show kdc t ≤ 13; omega)]
      refine fin 1 0 ?_ (by rw [if_neg (by omega)])
      rw [e2, bt_or1 (by omega) (by omega), decide_eq_true rfl, Bool.or_true, if_pos rfl]
    · have k1 : 14 ≤ kdc t := by rcases t1 with rfl | rfl <;> decide
      rw [if_neg (by omega)] at hx2
      rw [if_neg (by rw [hx2]; exact fun e => e rfl), if_pos (by rw [zIl_le (c := 12) (by decide) (by omega)]; show 12 ≤ kdc t; omega), if_neg (by rw [zIr_le (c := 13) (by decide) (by omega)]; show ¬ kdc t ≤ 13; omega)]
      refine fin 0 1 ?_ (by rw [if_pos e1])
      rw [e2, bt_an (by omega) (by omega), decide_eq_true rfl, Bool.not_true, Bool.and_false, if_neg (by decide)]
  have ww := wgt_z v1
  rw [v4] at ww
  rw [lp_234_30, if_pos s7, sn_y hT bs, if_neg (by rw [zIr_lt (c := 0) (by decide) (by omega)]; exact Nat.not_lt_zero _), lp_242_0, s1, ww, s6, show (384 : Int32) + zI kn = zI (384 + kn) from zIl_add 384 kn, zI_vp (by omega), zI_cn (by omega), show zI kn + 1 = zI (kn + 1) from zIr_add 1 _]
  by_cases k7 : 7 ≤ kdc t
  · rw [if_pos (by rw [zIl_le (c := 7) (by decide) (by omega)]; exact k7), if_pos (by rw [zIr_eq (c := 64) (by decide) (by omega)]; show ¬ kn = 64; omega), if_pos (by rw [zIl_le (c := 0) (by decide) (by omega)]; exact Nat.zero_le _)]
    exact ⟨by omega, tail 0 (by rw [if_neg (by omega)])⟩
  · have nb : ¬ bt cm o = true := by
      rcases ht with ⟨t1, t2, e1, e2⟩ | ⟨t1, t2, t3, e1, e2⟩ | ⟨t1, e1, e2⟩
      · exfalso
        have k1 : kdc t = t - 12 := by unfold kdc; rw [if_neg (by omega), if_neg (by omega), if_neg (by omega), if_neg (by omega), if_neg (by omega), if_neg (by omega), if_pos (by omega)]
        omega
      · exact t3
      · exfalso
        have k1 : 14 ≤ kdc t := by rcases t1 with rfl | rfl <;> decide
        omega
    rw [if_neg (by rw [zIl_le (c := 7) (by decide) (by omega)]; exact k7), if_pos (by rw [if_neg nb]), if_pos (by rw [zIr_eq (c := 64) (by decide) (by omega)]; show ¬ kn = 64; omega), if_pos (by rw [zIl_le (c := 0) (by decide) (by omega)]; exact Nat.zero_le _)]
    exact ⟨by omega, tail 1 (by rw [if_pos (by omega)])⟩
end R4
end
section
/-! Orders: the reference's closing parenthesis, ends of lines, faults, starts of lines. -/
theorem v67 : vp_in 6 7 := Eq.mpr (zI_vp (a := 6) (n := 7) (by decide)) (by decide)
section R5
variable {X : (Nat → Int32) × Nat} {mo : Bool} {G : Nat × Nat} {J : Nat → Nat → Int64} {Q R : Option Value → sm_M → Prop}
theorem CT_B {m z z' w w' kn o : Nat} {cm : Int32} {c c' sg vb le gb gb' wo : Nat → Nat} {T L : Nat → Nat → Int32} (hC : CT m z w 3 kn o cm c sg vb le gb wo T) (b : frB T L) (l38 : L 81 38 = zI w') (l35 : L 81 35 = zI z') (lB : rB m z' w' kn (ls le m) c' gb' sg wo le (L 94) (L 95) (L 96) (L 97) (L 98) (L 103) (L 104)) (lH : rH (ls le m) z' c' gb' (L 105) (L 81 40)) : CT m z' w' 3 kn o cm c' sg vb le gb' wo L := by
  obtain ⟨⟨s1, s2, s3⟩, hB, hHC, hV⟩ := hC
  obtain ⟨hH, hc⟩ := hHC (by omega)
  obtain ⟨s4, s5, s6, s7, s8⟩ := s3 (by omega)
  obtain ⟨c1, c2, c3⟩ := b
  refine ⟨⟨by rw [c2 34 (by decide) (by decide) (by decide)]; exact s1, l35, fun _ => ⟨l38, by rw [c2 42 (by decide) (by decide) (by decide)]; exact s5, by rw [c2 43 (by decide) (by decide) (by decide)]; exact s6, by rw [c2 44 (by decide) (by decide) (by decide)]; exact s7, fun e => absurd rfl e⟩⟩, lB, fun _ => ⟨lH, by rw [c1 106 (by decide) (by decide) (by decide) (by decide) (by decide)]; exact hc⟩, ?_⟩
  rw [c1 99 (by decide) (by decide) (by decide) (by decide) (by decide), c1 100 (by decide) (by decide) (by decide) (by decide) (by decide), c1 101 (by decide) (by decide) (by decide) (by decide) (by decide), c1 102 (by decide) (by decide) (by decide) (by decide) (by decide)]
  exact hV
theorem r_b1 {m z w kn o : Nat} {cm : Int32} {c sg vb le gb wo : Nat → Nat} {T : Nat → Nat → Int32} (hC : CT m z w 3 kn o cm c sg vb le gb wo T) (hW : pW m z w 3 kn o c sg vb le)
    (hQ : ∀ L gb', CT m (z + pm 1 sg w) (w - pm 1 sg w) 3 kn o cm (pcG 1 sg sg w z c) sg vb le gb' wo L → pW m (z + pm 1 sg w) (w - pm 1 sg w) 3 kn o (pcG 1 sg sg w z c) sg vb le → frB T L → Q none (sM mo G L J)) :
    sm_wp X 244 0 [some (.ref 81), some (.int 1), none] [] (sM mo G T J) Q := by
  obtain ⟨s1, s2, s3⟩ := hC.1
  obtain ⟨s4, s5, s6, s7, s8⟩ := s3 (by omega)
  refine r_bind (least := 1) (kr := kn) (sg := sg) (vb := vb) (le := le) (wo := wo) (m := m) (kn := kn) (o := o) (by omega) (by omega) hW.1.2.2.1 w z c gb T hW s4 s2 hC.2.1 (hC.2.2.1 (by omega)).1 ?_
  intro L b l38 l35 lB lH lW
  exact hQ L _ (CT_B hC b l38 l35 lB lH) lW b
theorem r_clo {B : Nat → Nat} {n p m z w kn o : Nat} {cm : Int32} {c sg vb le gb wo : Nat → Nat} {T0 T : Nat → Nat → Int32} (hC : CT m z w 3 kn o cm c sg vb le gb wo T) (hW : pW m z w 3 kn o c sg vb le) (ho : 0 < o) (h22 : T 81 22 = 3) (h23 : T 81 23 = zI 41) (f : tpF B n p T0 T) (h1 : 1 ≤ w - pm 1 sg w) (h30 : sg (w - pm 1 sg w - 1) = 30)
    (hQ : ∀ L gb', CT m (z + pm 1 sg w) (w - pm 1 sg w - 1) 3 kn (o - 1) cm (pcG 1 sg sg w z c) sg vb le gb' wo L → pW m (z + pm 1 sg w) (w - pm 1 sg w - 1) 3 kn (o - 1) (pcG 1 sg sg w z c) sg vb le → frR T0 L → tkF B n (plc B n p) L → sm_wp X 234 30 [some (.ref 81), none] [] (sM mo G L J) R) : sm_wp X 234 30 [some (.ref 81), none] [] (sM mo G T J) R := by
  have hC' := hC
  obtain ⟨⟨s1, s2, s3⟩, -⟩ := hC'
  obtain ⟨s4, s5, s6, s7, s8⟩ := s3 (by omega)
  rw [if_pos rfl] at s7
  have o8 : o ≤ 8 := hW.1.2.2.2.2.1
  have sn : vf_Model_signNow T = -1 := by
    unfold vf_Model_signNow
    rw [if_pos (by rw [h22]; decide), if_neg (fun e => e h22), h23, if_pos (by decide)]
  rw [lp_234_30, if_pos s7, sn, if_pos (by decide), s5, if_neg (by rw [zIr_le (c := 0) (by decide) (by omega)]; show ¬ o ≤ 0; omega), if_neg (fun e => e ⟨h22, h23⟩)]
  refine r_b1 hC hW ?_
  intro L gb' lC lW b
  have fL := fr_B f.2.1 b
  have e21 : L 81 21 = T 81 21 := b.2.1 21 (by decide) (by decide) (by decide)
  obtain ⟨⟨t1, t2, t3⟩, lB, lHC, lV⟩ := lC
  obtain ⟨lH, lc⟩ := lHC (by omega)
  obtain ⟨t4, t5, t6, t7, -⟩ := t3 (by omega)
  obtain ⟨w', hw'⟩ : ∃ w', w - pm 1 sg w = w' + 1 := ⟨w - pm 1 sg w - 1, by omega⟩
  rw [hw'] at lW lB t4 h30
  rw [Nat.add_sub_cancel] at h30
  rw [hw', Nat.add_sub_cancel] at hQ
  have q := pW_q lW h30
  have wb : w ≤ 72 := by have := np_w sg w; have := hW.1; omega
  simp only [tl_none]
  rw [lp_234_87, t5, t4, show zI o - 1 = zI (o - 1) from zIr_sub (c := 1) ho, show zI (w' + 1) - 1 = zI w' from zIr_sub (c := 1) (a := w' + 1) (by show 1 ≤ w' + 1; omega), zI_vp (by omega), zI_cn (by omega), lc (o - 1) (by omega)]
  refine ⟨by omega, by split <;> first | exact Or.inr rfl | exact Or.inl rfl, ?_⟩
  have fV : frR T0 (up2 (up2 (up2 L 81 38 (zI w')) 81 42 (zI (o - 1))) 81 43 (if bt cm (o - 1) = true then 1 else 0)) := fr_u (by unfold okc; omega) (fr_u (by unfold okc; omega) (fr_u (by unfold okc; omega) fL))
  refine r_tf f fV (by simp (decide := true) only [up2_ra, up2_rn, va_ap, ne_eq, if_false, if_true, not_false_eq_true]; exact e21) ?_
  intro V hV'
  have tV := tkM_F hV'
  simp only [tl_none]
  rw [lp_234_124, if_pos (by decide)]
  refine hQ V gb' (CT_tk ⟨⟨?_, ?_, fun _ => ⟨?_, ?_, ?_, ?_, fun e => absurd rfl e⟩⟩, ?_, fun _ => ⟨?_, ?_⟩, ?_⟩ hV') q.1 (fr_tk fV hV') tV
  · simp (decide := true) only [up2_ra, up2_rn, va_ap, ne_eq, if_false, if_true, not_false_eq_true]; exact t1
  · simp (decide := true) only [up2_ra, up2_rn, va_ap, ne_eq, if_false, if_true, not_false_eq_true]; exact t2
  · simp (decide := true) only [up2_ra, up2_rn, va_ap, ne_eq, if_false, if_true, not_false_eq_true]
  · simp (decide := true) only [up2_ra, up2_rn, va_ap, ne_eq, if_false, if_true, not_false_eq_true]
  · simp (decide := true) only [up2_ra, up2_rn, va_ap, ne_eq, if_false, if_true, not_false_eq_true]
  · simp (decide := true) only [up2_ra, up2_rn, va_ap, ne_eq, if_false, if_true, not_false_eq_true]; exact t7
  · simp (decide := true) only [up2_ra, up2_rn, ne_eq, not_false_eq_true]
    exact rB_d lB
  · simp (decide := true) only [up2_ra, up2_rn, va_ap, ne_eq, if_false, if_true, not_false_eq_true]
    exact lH
  · simp (decide := true) only [up2_ra, up2_rn, va_ap, ne_eq, if_false, if_true, not_false_eq_true]
    exact fun j hj => lc j (by omega)
  · simp (decide := true) only [up2_ra, up2_rn, va_ap, ne_eq, if_false, if_true, not_false_eq_true]
    exact lV
/-- the rest behind an expression -/
def RC (X : (Nat → Int32) × Nat) (m : Nat) (x2 : Int32) (Q : Option Value → sm_M → Prop) : Option Value → sm_M → Prop := fun v M => sm_wp X 232 79 [some (.ref 81), some (.int (zI (96 + m)))] (v.toList ++ []) M (fun v M => sm_wp X 225 86 [some (.ref 81), none, some (.int x2), none, none] (v.toList ++ []) M Q)
theorem RC_0 {m : Nat} {x2 : Int32} {L : Nat → Nat → Int32} (h : Q (some (.int (-1))) (sM mo G L J)) : RC X m x2 Q (some (.int 0)) (sM mo G L J) := by
  unfold RC
  simp only [tl_some]
  rw [lp_232_79, if_neg (fun e => e rfl)]
  simp only [tl_some]
  rw [lp_225_86, if_neg (fun e => e rfl)]
  exact h
/-- a line's end -/
theorem r_eol {B : Nat → Nat} {n p m z w kn : Nat} {cm x2 : Int32} {c sg vb le gb wo : Nat → Nat} {T0 T : Nat → Nat → Int32} (hC : CT m z w 3 kn 0 cm c sg vb le gb wo T) (hW : pW m z w 3 kn 0 c sg vb le) (h22 : T 81 22 = 3) (h23 : T 81 23 = zI 59) (f : tpF B n p T0 T) (h0 : w - pm 1 sg w = 0)
    (hQ : ∀ L gb', CT (m + 1) (z + pm 1 sg w) 0 0 kn 0 cm (pcG 1 sg sg w z c) sg vb (va_up le m (z + pm 1 sg w)) gb' wo L → pW (m + 1) (z + pm 1 sg w) 0 0 kn 0 (pcG 1 sg sg w z c) sg vb (va_up le m (z + pm 1 sg w)) → frR T0 L → tkF B n (plc B n p) L → sm_wp X 225 75 [some (.ref 81), none, some (.int x2), none, none] [] (sM mo G L J) Q) : sm_wp X 234 30 [some (.ref 81), none] [] (sM mo G T J) (RC X m x2 Q) := by
  have hC' := hC
  obtain ⟨⟨s1, s2, s3⟩, -⟩ := hC'
  obtain ⟨s4, s5, s6, s7, s8⟩ := s3 (by omega)
  rw [if_pos rfl] at s7
  have sn : vf_Model_signNow T = -1 := by
    unfold vf_Model_signNow
    rw [if_pos (by rw [h22]; decide), if_neg (fun e => e h22), h23, if_pos (by decide)]
  rw [lp_234_30, if_pos s7, sn, if_pos (by decide), s5, if_pos (by decide)]
  refine r_b1 hC hW ?_
  intro L gb' lC lW b
  rw [h0] at lC lW
  have fL := fr_B f.2.1 b
  have e21 : L 81 21 = T 81 21 := b.2.1 21 (by decide) (by decide) (by decide)
  have e22 : L 81 22 = 3 := by rw [b.2.1 22 (by decide) (by decide) (by decide)]; exact h22
  have e23 : L 81 23 = zI 59 := by rw [b.2.1 23 (by decide) (by decide) (by decide)]; exact h23
  obtain ⟨⟨t1, t2, t3⟩, ⟨lG, lw, lI, lL, lf, ll⟩, lHC, lV⟩ := lC
  have m16 : m + 1 ≤ 16 := by have h := lW.1.1; rw [on_1 (by omega)] at h; exact h
  have od3 : on 3 = 1 := on_1 (by omega)
  have e100 : L 100 (96 + m) = zI (ls le m) := (lV.1 m (by rw [od3]; omega)).2
  have e102 : L 102 6 = zI m := lV.2.2
  have zb : z + pm 1 sg w ≤ 64 := by have := lW.1; omega
  simp only [tl_none]
  rw [lp_234_148]
  unfold RC
  simp only [tl_some]
  rw [lp_232_79, if_pos (by decide), if_pos ⟨e22, e23⟩, zI_vp (by omega), zI_cn (by omega), show (6 : Int32).toNatClampNeg = 6 from rfl, e100, e102, t2, show zI (z + pm 1 sg w) - zI (ls le m) = zI (z + pm 1 sg w - ls le m) from zI_sub lf, show zI m + 1 = zI (m + 1) from zIr_add 1 _]
  refine ⟨by omega, v67, ?_⟩
  have fV : frR T0 (up2 (up2 L 101 (96 + m) (zI (z + pm 1 sg w - ls le m))) 102 6 (zI (m + 1))) := fr_u (by unfold okc; omega) (fr_u (by unfold okc; omega) fL)
  refine r_tf f fV (by simp (decide := true) only [up2_ra, up2_rn, va_ap, ne_eq, if_false, if_true, not_false_eq_true]; exact e21) ?_
  intro V hV'
  have tV := tkM_F hV'
  simp only [tl_none]
  rw [lp_232_131]
  simp only [tl_some]
  rw [lp_225_86, if_pos (by decide)]
  have l1 : ls (va_up le m (z + pm 1 sg w)) (m + 1) = z + pm 1 sg w := by unfold ls; rw [if_neg (by omega), Nat.add_sub_cancel, va_s]
  have l2 : ∀ i, i ≤ m → ls (va_up le m (z + pm 1 sg w)) i = ls le i := by
    intro i hi
    unfold ls
    split
    · rfl
    · rw [va_n _ _ (by omega)]
  refine hQ V gb' (CT_tk ⟨⟨?_, ?_, fun e => absurd rfl e⟩, ?_, fun e => absurd rfl e, ?_⟩ hV') (pW_e lW) (fr_tk fV hV') tV
  · simp (decide := true) only [up2_ra, up2_rn, va_ap, ne_eq, if_false, if_true, not_false_eq_true]; exact t1
  · simp (decide := true) only [up2_ra, up2_rn, va_ap, ne_eq, if_false, if_true, not_false_eq_true]; exact t2
  · simp (decide := true) only [up2_ra, up2_rn, ne_eq, not_false_eq_true]
    rw [l1]
    refine ⟨lG, lw, lI, fun i hi => ?_, Nat.le_refl _, fun k hk => by omega⟩
    rw [l2 i (by omega)]
    by_cases e : i = m
    · rw [e, va_s]; exact ⟨Nat.le_refl _, ll⟩
    · rw [va_n _ _ e]; exact lL i (by omega)
  · simp (decide := true) only [up2_ra, up2_rn, ne_eq, not_false_eq_true, vs_a]
    refine ⟨fun i hi => ?_, fun i hi => ?_, rfl⟩
    · have hi' : i < m + 1 := hi
      rw [l2 i (by omega)]
      exact lV.1 i (by rw [od3]; exact hi')
    · rw [l2 i (by omega)]
      by_cases e : i = m
      · rw [e, vs_a, va_s]
      · rw [vs_n _ _ (by omega), va_n _ _ e]
        exact lV.2.1 i (by omega)
/-- faults where a sign is due -/
theorem r_sf {B : Nat → Nat} {m z w kn o t q e : Nat} {cm x2 : Int32} {c sg vb le gb wo : Nat → Nat} {T0 T : Nat → Nat → Int32} (hC : CT m z w 3 kn o cm c sg vb le gb wo T) (hW : pW m z w 3 kn o c sg vb le) (fr : frR T0 T) (hT : tkR B q t e (T 81 22) (T 81 23)) (f : Nat)
    (hF : (f = 1 ∧ ¬ (t = 5 ∨ t = 6) ∧ ¬ (19 ≤ t ∧ t ≤ 23) ∧ ¬ (24 ≤ t ∧ t ≤ 29 ∧ ¬ bt cm o = true) ∧ ¬ (t = 31 ∧ 0 < o) ∧ ¬ (t = 32 ∧ o = 0)) ∨ (f = 2 ∧ kn = 64 ∧ ((19 ≤ t ∧ t ≤ 23) ∨ (24 ≤ t ∧ t ≤ 29 ∧ ¬ bt cm o = true) ∨ (t = 5 ∨ t = 6))))
    (hQ : ∀ L, frR T0 L → Q (some (.int (-1))) (sM mo G (up2 (up2 L 81 18 (zI f)) 81 19 (T 81 24)) J)) : sm_wp X 234 30 [some (.ref 81), none] [] (sM mo G T J) (RC X m x2 Q) := by
  have hC' := hC
  obtain ⟨⟨s1, s2, s3⟩, -⟩ := hC'
  obtain ⟨s4, s5, s6, s7, s8⟩ := s3 (by omega)
  rw [if_pos rfl] at s7
  have o8 : o ≤ 8 := hW.1.2.2.2.2.1
  have fin : ∀ L, frR T0 L → L 81 24 = T 81 24 → ∀ g : Int32, g = zI f → Q (some (.int (-1))) (sM mo G (up2 (up2 L 81 18 g) 81 19 (L 81 24)) J) := fun L h e g hg => by rw [hg, e]; exact hQ L h
  have f62 : ∀ L, Q (some (.int (-1))) (sM mo G L J) → sm_wp X 234 62 [some (.ref 81), some (.int 1)] [.int 0] (sM mo G L J) (RC X m x2 Q) := fun L h => by
    rw [lp_234_62, if_neg (fun e => e rfl)]
    exact RC_0 h
  by_cases bs : bsg t
  · obtain ⟨v1, v2, v3, v4, v5, v6⟩ := bsg_v bs
    rw [lp_234_30, if_pos s7, sn_y hT bs, if_neg (by rw [zIr_lt (c := 0) (by decide) (by omega)]; exact Nat.not_lt_zero _), lp_242_0]
    simp only [tl_some]
    have k12 : 24 ≤ t → t ≤ 29 → kdc t < 7 := fun a b => by unfold kdc; rw [if_neg (by omega), if_neg (by omega), if_neg (by omega), if_neg (by omega), if_neg (by omega), if_neg (by omega), if_neg (by omega)]; omega
    have k12' : ¬ (24 ≤ t ∧ t ≤ 29) → 7 ≤ kdc t := fun a => by
      unfold bsg at bs
      rcases bs with b | rfl | rfl
      · unfold kdc; rw [if_neg (by omega), if_neg (by omega), if_neg (by omega), if_neg (by omega), if_neg (by omega), if_neg (by omega), if_pos (by omega)]; omega
      · decide
      · decide
    by_cases c1 : 24 ≤ t ∧ t ≤ 29
    · rw [if_neg (by rw [zIl_le (c := 7) (by decide) (by omega)]; show ¬ 7 ≤ kdc t; have := k12 c1.1 c1.2; omega), s6]
      by_cases g : bt cm o = true
      · have f1 : f = 1 := by
          rcases hF with h | h
          · exact h.1
          · exfalso
            rcases h.2.2 with x | x | x
            · omega
            · exact x.2.2 g
            · omega
        rw [if_pos g, if_neg (by decide)]
        exact f62 _ (fin T fr rfl 1 (by rw [f1]; rfl))
      · have f2 : f = 2 ∧ kn = 64 := by
          rcases hF with h | h
          · exact absurd ⟨c1.1, c1.2, g⟩ h.2.2.2.1
          · exact ⟨h.1, h.2.1⟩
        rw [if_neg g, if_pos rfl, if_neg (fun e => e (by rw [s1, f2.2]; rfl))]
        exact f62 _ (fin T fr rfl 2 (by rw [f2.1]; rfl))
    · have f2 : f = 2 ∧ kn = 64 := by
        rcases hF with h | h
        · exfalso
          obtain ⟨-, h1, h2, -⟩ := h
          unfold bsg at bs
          omega
        · exact ⟨h.1, h.2.1⟩
      rw [if_pos (by rw [zIl_le (c := 7) (by decide) (by omega)]; exact k12' c1), if_neg (fun e => e (by rw [s1, f2.2]; rfl))]
      exact f62 _ (fin T fr rfl 2 (by rw [f2.1]; rfl))
  · have f1 : f = 1 ∧ ¬ (t = 31 ∧ 0 < o) ∧ ¬ (t = 32 ∧ o = 0) := by
      rcases hF with h | h
      · exact ⟨h.1, h.2.2.2.2.1, h.2.2.2.2.2⟩
      · exfalso
        unfold bsg at bs
        rcases h.2.2 with x | x | x
        · omega
        · exact bs (Or.inl ⟨by omega, x.2.1⟩)
        · omega
    rw [lp_234_30, if_pos s7, sn_n hT bs, if_pos (by decide), s5]
    have ns : ∀ (L : Nat → Nat → Int32) (d k : Nat), L 81 22 = T 81 22 → L 81 23 = T 81 23 → ¬ t = d → (d = 31 ∧ k = 41 ∨ d = 32 ∧ k = 59) → ¬ vf_Model_isSign L (zI k) := by
      rintro L d k e1 e2 nd dk ⟨x, y⟩
      rw [e1] at x
      rw [e2] at y
      rcases hT with ⟨-, a⟩ | ⟨a0, a, b⟩ | ⟨a0, a1, a, b⟩ | ⟨-, a⟩ | ⟨-, a, b⟩
      · rw [a] at x; exact absurd x (by decide)
      · rw [a] at x; exact absurd x (by decide)
      · have s100 : sgW t < 100 := by unfold sgW; split <;> (try split) <;> (try split) <;> (try split) <;> omega
        rw [b, zI_eq (by omega) (by omega)] at y
        unfold sgW at y
        split at y <;> (try split at y) <;> (try split at y) <;> (try split at y) <;> omega
      · rw [a] at x; exact absurd x (by decide)
      · rw [a] at x; exact absurd x (by decide)
    by_cases ho : 0 < o
    · rw [if_neg (by rw [zIr_le (c := 0) (by decide) (by omega)]; show ¬ o ≤ 0; omega), if_pos (show ¬ vf_Model_isSign T 41 from ns T 31 41 rfl rfl (by omega) (Or.inl ⟨rfl, rfl⟩))]
      exact RC_0 (fin T fr rfl 1 (by rw [f1.1]; rfl))
    · rw [if_pos (by rw [zIr_le (c := 0) (by decide) (by omega)]; show o ≤ 0; omega)]
      refine r_b1 hC hW ?_
      intro L gb' lC lW b
      have fL := fr_B fr b
      simp only [tl_none]
      rw [lp_234_148]
      unfold RC
      simp only [tl_some]
      rw [lp_232_79, if_pos (by decide), if_neg (show ¬ vf_Model_isSign L 59 from ns L 32 59 (b.2.1 22 (by decide) (by decide) (by decide)) (b.2.1 23 (by decide) (by decide) (by decide)) (by omega) (Or.inr ⟨rfl, rfl⟩))]
      simp only [tl_some]
      rw [lp_225_86, if_neg (fun e => e rfl)]
      exact fin L fL (b.2.1 24 (by decide) (by decide) (by decide)) 1 (by rw [f1.1]; rfl)
/-- a line begins -/
theorem r_ver {B : Nat → Nat} {n p m z w kn o t q e : Nat} {cm x2 : Int32} {c sg vb le gb wo : Nat → Nat} {T0 T : Nat → Nat → Int32} (hC : CT m z w 0 kn o cm c sg vb le gb wo T) (hW : pW m z w 0 kn o c sg vb le) (hm : m < 16) (ht : t ≤ 3) (hT : tkR B q t e (T 81 22) (T 81 23)) (f : tpF B n p T0 T)
    (hQ : ∀ L, CT m z 0 1 kn 0 0 c sg (va_up vb m t) le gb wo L → frR T0 L → tkF B n (plc B n p) L → sm_wp X 234 30 [some (.ref 81), none] [] (sM mo G L J) (RC X m x2 Q)) : sm_wp X 225 75 [some (.ref 81), none, some (.int x2), none, none] [] (sM mo G T J) Q := by
  obtain ⟨⟨s1, s2, -⟩, hB, -, hV⟩ := hC
  obtain ⟨w0, z0⟩ := hW.2.2.2.2.1 rfl
  subst w0
  have hh : T 81 22 = 1 ∧ T 81 23 = zI t := by
    rcases hT with ⟨a0, -⟩ | ⟨a0, a, b⟩ | ⟨a0, -⟩ | ⟨a0, -⟩ | ⟨a0, -⟩
    · omega
    · exact ⟨a, by rw [b]; unfold prm; rw [if_neg (by omega), if_neg (by omega)]⟩
    · omega
    · omega
    · omega
  have e102 : T 102 6 = zI m := hV.2.2
  rw [lp_225_75, if_neg (by rw [hh.1]; decide), lp_232_0, if_neg (fun e => e hh.1), hh.2, if_pos (by rw [zIr_le (c := 3) (by decide) (by omega)]; exact ht), show (6 : Int32).toNatClampNeg = 6 from rfl, e102, if_pos (by rw [zIr_eq (c := 16) (by decide) (by omega)]; show ¬ m = 16; omega), show (96 : Int32) + zI m = zI (96 + m) from zIl_add 96 m, zI_vp (by omega), zI_cn (by omega), s2]
  refine ⟨v67, by omega, ?_⟩
  have fV : frR T0 (up2 (up2 T 99 (96 + m) (zI t)) 100 (96 + m) (zI z)) := fr_u (by unfold okc; omega) (fr_u (by unfold okc; omega) f.2.1)
  refine r_tf f fV (by simp (decide := true) only [up2_ra, up2_rn, va_ap, ne_eq, if_false, if_true, not_false_eq_true]) ?_
  intro L hL
  have tL := tkM_F hL
  have fL := fr_tk fV hL
  obtain ⟨l1, l2, -⟩ := hL
  simp only [tl_none]
  rw [lp_232_75, lp_234_0]
  have rn : ∀ d, ¬ d = 81 → ¬ d = 99 → ¬ d = 100 → L d = T d := fun d a b e => by rw [l1 d a]; simp only [up2_rn, ne_eq, b, e, not_false_eq_true]
  have jn : ∀ j, ¬ j = 21 → ¬ j = 22 → ¬ j = 23 → ¬ j = 24 → L 81 j = T 81 j := fun j a b c d => by rw [l2 j a b c d]; simp (decide := true) only [up2_ra, up2_rn, va_ap, ne_eq, if_false, if_true, not_false_eq_true]
  refine hQ _ ⟨⟨?_, ?_, fun _ => ⟨?_, ?_, ?_, ?_, fun _ => ?_⟩⟩, ?_, fun _ => ⟨?_, fun j hj => absurd hj (Nat.not_lt_zero _)⟩, ?_⟩ (fr_u (by unfold okc; omega) (fr_u (by unfold okc; omega) (fr_u (by unfold okc; omega) (fr_u (by unfold okc; omega) (fr_u (by unfold okc; omega) (fr_u (by unfold okc; omega) fL)))))) (tkF_u tL (fun j a b => by simp only [up2_ra, up2_rn, va_ap, ne_eq, if_false, if_true, not_false_eq_true, show ¬ j = 38 from by omega, show ¬ j = 40 from by omega, show ¬ j = 42 from by omega, show ¬ j = 43 from by omega, show ¬ j = 44 from by omega, show ¬ j = 45 from by omega]))
  · simp (decide := true) only [up2_ra, up2_rn, va_ap, ne_eq, if_false, if_true, not_false_eq_true]; rw [jn 34 (by decide) (by decide) (by decide) (by decide)]; exact s1
  · simp (decide := true) only [up2_ra, up2_rn, va_ap, ne_eq, if_false, if_true, not_false_eq_true]; rw [jn 35 (by decide) (by decide) (by decide) (by decide)]; exact s2
  · simp (decide := true) only [up2_ra, up2_rn, va_ap, ne_eq, if_false, if_true, not_false_eq_true]
  · simp (decide := true) only [up2_ra, up2_rn, va_ap, ne_eq, if_false, if_true, not_false_eq_true]
  · simp (decide := true) only [up2_ra, up2_rn, va_ap, ne_eq, if_false, if_true, not_false_eq_true]
  · simp (decide := true) only [up2_ra, up2_rn, va_ap, ne_eq, if_false, if_true, not_false_eq_true]
  · simp (decide := true) only [up2_ra, up2_rn, va_ap, ne_eq, if_false, if_true, not_false_eq_true]
  · simp (decide := true) only [up2_ra, up2_rn, ne_eq, not_false_eq_true]
    rw [rn 94 (by decide) (by decide) (by decide), rn 95 (by decide) (by decide) (by decide), rn 96 (by decide) (by decide) (by decide), rn 97 (by decide) (by decide) (by decide), rn 98 (by decide) (by decide) (by decide), rn 103 (by decide) (by decide) (by decide), rn 104 (by decide) (by decide) (by decide)]
    exact hB
  · simp (decide := true) only [up2_ra, up2_rn, va_ap, ne_eq, if_false, if_true, not_false_eq_true]
    rw [← z0]
    refine ⟨by rw [Nat.sub_self]; rfl, fun j hj => ?_⟩
    rw [Nat.sub_self] at hj
    exact absurd hj (Nat.not_lt_zero _)
  · simp (decide := true) only [up2_ra, up2_rn, ne_eq, not_false_eq_true]
    rw [l1 99 (by decide), l1 100 (by decide), rn 101 (by decide) (by decide) (by decide), rn 102 (by decide) (by decide) (by decide)]
    simp (decide := true) only [up2_ra, up2_rn, ne_eq, not_false_eq_true]
    refine ⟨fun i hi => ?_, hV.2⟩
    rw [on_1 (by omega)] at hi
    by_cases e : i = m
    · rw [e, vs_a, vs_a, va_s, z0]; exact ⟨rfl, rfl⟩
    · rw [vs_n _ _ (by omega), vs_n _ _ (by omega), va_n _ _ e]
      exact hV.1 i (by have e0 : on 0 = 0 := rfl; rw [e0]; omega)
/-- faults where a line is due -/
theorem r_vff {B : Nat → Nat} {m z w kn o t q e : Nat} {cm x2 : Int32} {c sg vb le gb wo : Nat → Nat} {T0 T : Nat → Nat → Int32} (hC : CT m z w 0 kn o cm c sg vb le gb wo T) (fr : frR T0 T) (hT : tkR B q t e (T 81 22) (T 81 23)) (f : Nat) (h34 : ¬ t = 34) (hF : (f = 1 ∧ 3 < t) ∨ (f = 2 ∧ t ≤ 3 ∧ m = 16))
    (hQ : ∀ L, frR T0 L → Q (some (.int (-1))) (sM mo G (up2 (up2 L 81 18 (zI f)) 81 19 (T 81 24)) J)) : sm_wp X 225 75 [some (.ref 81), none, some (.int x2), none, none] [] (sM mo G T J) Q := by
  obtain ⟨⟨s1, s2, -⟩, hB, -, hV⟩ := hC
  have e102 : T 102 6 = zI m := hV.2.2
  have fin : ∀ g : Int32, g = zI f → Q (some (.int (-1))) (sM mo G (up2 (up2 T 81 18 g) 81 19 (T 81 24)) J) := fun g hg => by rw [hg]; exact hQ T fr
  have f86 : ∀ L, Q (some (.int (-1))) (sM mo G L J) → sm_wp X 225 86 [some (.ref 81), none, some (.int x2), none, none] [.int 0] (sM mo G L J) Q := fun L h => by
    rw [lp_225_86, if_neg (fun e => e rfl)]
    exact h
  have k0 : ¬ T 81 22 = 0 := by
    rcases hT with ⟨a0, -⟩ | ⟨a0, a, b⟩ | ⟨a0, a1, a, -⟩ | ⟨a0, a⟩ | ⟨a0, a, -⟩
    · omega
    · rw [a]; decide
    · rw [a]; decide
    · rw [a]; decide
    · rw [a]; decide
  rw [lp_225_75, if_neg k0, lp_232_0]
  simp only [tl_some]
  rcases hT with ⟨a0, -⟩ | ⟨a0, a, b⟩ | ⟨a0, a1, a, -⟩ | ⟨a0, a⟩ | ⟨a0, a, -⟩
  · omega
  · have p19 : prm t < 19 := by unfold prm; split <;> (try split) <;> omega
    rw [if_neg (fun e => e a), b]
    by_cases g : t ≤ 3
    · have f2 : f = 2 ∧ m = 16 := by omega
      have pt : prm t = t := by unfold prm; rw [if_neg (by omega), if_neg (by omega)]
      rw [pt, if_pos (by rw [zIr_le (c := 3) (by decide) (by omega)]; exact g), show (6 : Int32).toNatClampNeg = 6 from rfl, if_neg (fun e => e (by rw [e102, f2.2]; rfl))]
      exact ⟨v67, f86 _ (fin 2 (by rw [f2.1]; rfl))⟩
    · have f1 : f = 1 := by omega
      have pt : 3 < prm t := by unfold prm; split <;> (try split) <;> omega
      rw [if_neg (by rw [zIr_le (c := 3) (by decide) (by omega)]; show ¬ prm t ≤ 3; omega)]
      exact f86 _ (fin 1 (by rw [f1]; rfl))
  · have f1 : f = 1 := by omega
    rw [if_pos (by rw [a]; decide)]
    exact f86 _ (fin 1 (by rw [f1]; rfl))
  · have f1 : f = 1 := by omega
    rw [if_pos (by rw [a]; decide)]
    exact f86 _ (fin 1 (by rw [f1]; rfl))
  · have f1 : f = 1 := by omega
    rw [if_pos (by rw [a]; decide)]
    exact f86 _ (fin 1 (by rw [f1]; rfl))
end R5
end
section
/-! Orders: the two read the same text. -/
theorem it_p {α : Type} {P : α → Prop} {p : Prop} [Decidable p] {x y : α} (hx : p → P x) (hy : P y) : P (if p then x else y) := by
  by_cases h : p
  · rw [if_pos h]; exact hx h
  · rw [if_neg h]; exact hy
def sgP (c : Nat) (x : Nat × Nat) : Prop := 1 ≤ x.2 ∧ x.2 ≤ 2 ∧ (x.2 = 2 → ¬ c = 0) ∧ ¬ x.1 = 34
theorem sgP_1 (c a : Nat) (h : ¬ a = 34) : sgP c (a, 1) := ⟨Nat.le_refl 1, (show 1 ≤ 2 by decide), fun e => absurd e (show ¬ 1 = 2 by decide), h⟩
theorem sgP_2 (c a : Nat) (h : ¬ a = 34) (k : ¬ c = 0) : sgP c (a, 2) := ⟨(show 1 ≤ 2 by decide), Nat.le_refl 2, fun _ => k, h⟩
theorem sgC_l (b c : Nat) : sgP c (sgC b c) := by
  unfold sgC
  refine it_p (fun _ => sgP_1 c _ (by decide)) ?_
  refine it_p (fun _ => sgP_1 c _ (by decide)) ?_
  refine it_p (fun _ => sgP_1 c _ (by decide)) ?_
  refine it_p (fun _ => sgP_1 c _ (by decide)) ?_
  refine it_p (fun _ => sgP_1 c _ (by decide)) ?_
  refine it_p (fun _ => sgP_1 c _ (by decide)) ?_
  refine it_p (fun _ => sgP_1 c _ (by decide)) ?_
  refine it_p (fun _ => sgP_1 c _ (by decide)) ?_
  refine it_p (fun _ => ?_) ?_
  · refine it_p (fun h => sgP_2 c _ (by decide) (by omega)) ?_
    exact it_p (fun h => sgP_2 c _ (by decide) (by omega)) (sgP_1 c _ (by decide))
  refine it_p (fun _ => sgP_1 c _ (by decide)) ?_
  refine it_p (fun _ => ?_) (sgP_1 c _ (by decide))
  exact it_p (fun h => sgP_2 c _ (by decide) (by omega)) (sgP_1 c _ (by decide))
theorem tk_adv {B : Nat → Nat} {n q : Nat} (hq : q < n) : q < (tkN B n q).2 ∧ (tkN B n q).2 ≤ n ∧ ¬ (tkN B n q).1 = 34 ∧ (tkN B n q).1 < 100 := by
  unfold tkN
  rw [if_neg (by omega)]
  have spu : ∀ P : Nat → Bool, P q = true → q < sp P (n - q) q ∧ sp P (n - q) q ≤ n := fun P h => by
    have e : n - q = (n - q - 1) + 1 := by omega
    rw [e]
    unfold sp
    rw [if_pos h]
    have := sp_b P (n - q - 1) (q + 1)
    omega
  by_cases g : isLt B q = true
  · rw [if_pos g]
    have w := wds (p := fun w => pB (mtc B q (sp (isLt B) (n - q) q) w)) mtc_u
    have e : wcd B q (sp (isLt B) (n - q) q) = fi (fun w => pB (mtc B q (sp (isLt B) (n - q) q) w)) wC 0 35 := rfl
    have w2 : wcd B q (sp (isLt B) (n - q) q) = 35 ∨ wcd B q (sp (isLt B) (n - q) q) < 19 := by
      rw [e]
      rcases w with ⟨w1, -⟩ | ⟨i, hi, w1, -⟩
      · exact Or.inl w1
      · right; rw [w1]; exact hi
    refine ⟨(spu _ g).1, (spu _ g).2, ?_, ?_⟩
    · show ¬ wcd B q (sp (isLt B) (n - q) q) = 34
      omega
    · show wcd B q (sp (isLt B) (n - q) q) < 100
      omega
  · rw [if_neg g]
    by_cases g2 : isDt B q = true
    · rw [if_pos g2]
      exact ⟨(spu _ g2).1, (spu _ g2).2, (show ¬ 36 = 34 by decide), (show 36 < 100 by decide)⟩
    · rw [if_neg g2]
      obtain ⟨la, lb, lc, ld⟩ := sgC_l (B q) (nxB B n q)
      have b := sgC_b (B q) (nxB B n q)
      have x : (sgC (B q) (nxB B n q)).2 = 2 → q + 1 < n := fun h => by
        have := lc h
        unfold nxB at this
        split at this
        · assumption
        · exact absurd rfl this
      refine ⟨?_, ?_, ld, ?_⟩
      · show q < q + (sgC (B q) (nxB B n q)).2
        omega
      · show q + (sgC (B q) (nxB B n q)).2 ≤ n
        omega
      · show (sgC (B q) (nxB B n q)).1 < 100
        omega
theorem plc_b (B : Nat → Nat) {n p : Nat} (h : p ≤ n) : p ≤ plc B n p ∧ plc B n p ≤ n := by
  unfold plc
  have := sp_b (isBl B) (n - p) p
  omega
theorem pW_pm {m kn o least : Nat} {sg vb le : Nat → Nat} (hl : 1 ≤ least) : ∀ w z c, pW m z w 3 kn o c sg vb le → pW m (z + pm least sg w) (w - pm least sg w) 3 kn o (pcG least sg sg w z c) sg vb le := by
  intro w
  induction w with
  | zero => intro z c h; exact h
  | succ w ih =>
    intro z c h
    have um : pm least sg (w + 1) = if least ≤ stg (sg w) then pm least sg w + 1 else 0 := rfl
    have uc : pcG least sg sg (w + 1) z c = if least ≤ stg (sg w) then pcG least sg sg w (z + 1) (va_up c z (sg w)) else c := rfl
    by_cases g : least ≤ stg (sg w)
    · rw [if_pos g] at um uc
      have n30 : ¬ sg w = 30 := by rw [← stg_30 (h.2.1.1 w (by omega))]; omega
      have := ih (z + 1) _ (pW_p h n30).1
      rw [um, uc, show z + (pm least sg w + 1) = z + 1 + pm least sg w from by omega, show w + 1 - (pm least sg w + 1) = w - pm least sg w from by omega]
      exact this
    · rw [if_neg g] at um uc
      rw [um, uc]
      exact h
theorem vsg_40 {s : Nat} (h : vsg s) : s < 40 := by unfold vsg at h; omega
def scE (r : Nat → Int32) (a z w d kn o : Nat) (cm : Int32) : Prop := r 0 = 0 ∧ r 2 = zI a ∧ r 3 = zI z ∧ r 9 = zI w ∧ r 10 = zI d ∧ r 11 = zI kn ∧ r 12 = zI o ∧ r 13 = cm
theorem pW_sc {r : Nat → Int32} {m z w d kn o : Nat} {cm : Int32} {c sg vb le : Nat → Nat} (h : pW m z w d kn o c sg vb le) (e : scE r (m + on d) z w d kn o cm) : sc16 r (m + on d) z w d kn o cm := by
  have n := np_w sg w
  have h1 := h.1
  exact ⟨e, by omega, by omega, by omega, by omega, by omega, by omega⟩
def frO (I0 K : Nat → Nat → Int32) : Prop := (∀ d, ¬ d = 14 → d < 16 ∨ 20 < d → K d = I0 d) ∧ ∀ j, ¬ j = 1 → ¬ j = 5 → ¬ j = 2 → K 14 j = I0 14 j
def CC (p m z w d kn o : Nat) (cm : Int32) (c sg vb le : Nat → Nat) (I0 K : Nat → Nat → Int32) : Prop := scE (K 16) (m + on d) z w d kn o cm ∧ (∀ i, i < z → K 17 i = zI (c i)) ∧ (∀ i, i < m + on d → K 18 i = zI (vb i)) ∧ (∀ i, i < m → K 19 i = zI (le i)) ∧ (∀ j, j < w → K 20 j = zI (sg j)) ∧ K 16 1 = -1 ∧ frO I0 K ∧ K 14 5 = zI p
/-- what may come of it -/
def okR (I0 : Nat → Nat → Int32) (b : Bool) (F : (Nat → Nat → Int32) → Prop) (S : (Nat → Nat → Int32) → (Nat → Nat → Int32) → Prop) : Prop :=
  (b = false ∧ ∃ fa pl : Nat, (fa = 1 ∨ fa = 2) ∧ F = (fun L => frO I0 L ∧ L 16 0 = zI fa ∧ L 16 1 = zI pl) ∧ S = (fun T0 L => ∃ L0, frR T0 L0 ∧ L = up2 (up2 L0 81 18 (zI fa)) 81 19 (zI pl))) ∨
  (b = true ∧ ∃ (m z kn : Nat) (cm : Int32) (c sg vb le : Nat → Nat), pW m z 0 0 kn 0 c sg vb le ∧ F = (fun L => frO I0 L ∧ L 16 0 = 0 ∧ L 16 1 = -1 ∧ L 16 2 = zI m ∧ (∀ i, i < z → L 17 i = zI (c i)) ∧ (∀ i, i < m → L 18 i = zI (vb i)) ∧ (∀ i, i < m → L 19 i = zI (le i))) ∧ S = (fun T0 L => frR T0 L ∧ ∃ gb wo, CT m z 0 0 kn 0 cm c sg vb le gb wo L))
def cWP (X : (Nat → Int32) × Nat) (mo : Bool) (G : Nat × Nat) (J : Nat → Nat → Int64) (n k : Nat) (P F : (Nat → Nat → Int32) → Prop) : Prop := ∀ K (Q : Option Value → sm_M → Prop), P K → (∀ L, F L → Q none (sM mo G L J)) → sm_wp X 47 55 [some (.ref 16), some (.int (zI n)), some (.int (zI k))] [] (sM mo G K J) Q
def rGo (X : (Nat → Int32) × Nat) (mo : Bool) (G : Nat × Nat) (J : Nat → Nat → Int64) (x2 : Int32) (m d : Nat) (T : Nat → Nat → Int32) (Q : Option Value → sm_M → Prop) : Prop := if d = 0 then sm_wp X 225 75 [some (.ref 81), none, some (.int x2), none, none] [] (sM mo G T J) Q else sm_wp X 234 30 [some (.ref 81), none] [] (sM mo G T J) (RC X m x2 Q)
def rFi (X : (Nat → Int32) × Nat) (mo : Bool) (G : Nat × Nat) (J : Nat → Nat → Int64) (x2 : Int32) (b : Bool) (L : Nat → Nat → Int32) (Q : Option Value → sm_M → Prop) : Prop := if b = true then sm_wp X 225 106 [some (.ref 81), none, some (.int x2), some (.int ((384 : Int32) - ((64 : Int32) * x2))), some (.int ((64 : Int32) * x2))] [] (sM mo G L J) Q else Q (some (.int (-1))) (sM mo G L J)
def t0F (B : Nat → Nat) (n : Nat) (T0 : Nat → Nat → Int32) : Prop := tpM B (T0 82) ∧ ivX (T0 93) ∧ T0 81 20 = zI n
def rWP (X : (Nat → Int32) × Nat) (mo : Bool) (G : Nat × Nat) (J : Nat → Nat → Int64) (x2 : Int32) (B : Nat → Nat) (n q m d : Nat) (P : (Nat → Nat) → (Nat → Nat) → (Nat → Nat → Int32) → Prop) (b : Bool) (S : (Nat → Nat → Int32) → (Nat → Nat → Int32) → Prop) : Prop := ∀ T0 T (Q : Option Value → sm_M → Prop) gb wo, t0F B n T0 → P gb wo T → frR T0 T → tkF B n q T → (∀ L, S T0 L → rFi X mo G J x2 b L Q) → rGo X mo G J x2 m d T Q
section O1
variable {X : (Nat → Int32) × Nat} {mo : Bool} {G : Nat × Nat} {J : Nat → Nat → Int64} {Q : Option Value → sm_M → Prop}
theorem c_it {B : Nat → Nat} {n p k : Nat} {I0 K : Nat → Nat → Int32} (hT : tpC B (I0 15)) (h4 : I0 14 4 = zI n) (hn : n ≤ 400) (hk : k ≤ n) (hp : p ≤ n) (fr : frO I0 K) (h5 : K 14 5 = zI p) (h10 : ¬ K 16 10 = 4) (h0 : K 16 0 = 0)
    (hQ : ∀ L, (∀ c, ¬ c = 14 → L c = K c) → frO I0 L → L 14 1 = zI (plc B n p) → L 14 5 = zI (tkN B n (plc B n p)).2 → ((tkN B n (plc B n p)).1 = 36 → L 14 2 = zI (nuC B (plc B n p) ((tkN B n (plc B n p)).2 - plc B n p))) → sm_wp X 48 0 [some (.ref 16), some (.int (zI (tkN B n (plc B n p)).1))] [] (sM mo G L J) (fun v M => sm_wp X 47 86 [some (.ref 16), some (.int (zI n)), some (.int (zI k))] (v.toList ++ []) M Q)) :
    sm_wp X 47 55 [some (.ref 16), some (.int (zI n)), some (.int (zI k))] [] (sM mo G K J) Q := by
  rw [lp_47_55, if_neg (by rw [zI_lt (by omega) (by omega)]; omega), if_neg h10, if_neg (fun e => e h0)]
  refine ct_156 (I := K) (B := B) (n := n) (by rw [fr.1 15 (by decide) (by decide)]; exact hT) (by rw [fr.2 4 (by decide) (by decide) (by decide)]; exact h4) hn (n - p) p (by omega) K (fun _ _ => rfl) (fun _ _ => rfl) h5 ?_
  intro L hL
  obtain ⟨l1, l2, l3, l4, l5⟩ := hL
  simp only [tl_some]
  rw [lp_47_83]
  exact hQ L l1 ⟨fun d a b => by rw [l1 d a]; exact fr.1 d a b, fun j a b c => by rw [l2 j a b c]; exact fr.2 j a b c⟩ l3 l4 l5
theorem c_go {n k : Nat} {L : Nat → Nat → Int32} (h : sm_wp X 47 55 [some (.ref 16), some (.int (zI n)), some (.int (zI (k + 1)))] [] (sM mo G L J) Q) : (fun (v : Option Value) M => sm_wp X 47 86 [some (.ref 16), some (.int (zI n)), some (.int (zI k))] (v.toList ++ []) M Q) none (sM mo G L J) := by
  show sm_wp X 47 86 [some (.ref 16), some (.int (zI n)), some (.int (zI k))] [] (sM mo G L J) Q
  rw [lp_47_86, show zI k + 1 = zI (k + 1) from zIr_add 1 k]
  exact h
theorem c_xf {n k : Nat} {L : Nat → Nat → Int32} (h : Q none (sM mo G L J)) (hx : L 16 10 = 4 ∨ ¬ L 16 0 = 0) : sm_wp X 47 55 [some (.ref 16), some (.int (zI n)), some (.int (zI k))] [] (sM mo G L J) Q := by
  rw [lp_47_55]
  by_cases a : zI n < zI k
  · rw [if_pos a]; exact h
  · rw [if_neg a]
    by_cases b : L 16 10 = 4
    · rw [if_pos b]; exact h
    · rw [if_neg b, if_pos (by rcases hx with hx | hx; exact absurd hx b; exact hx)]; exact h
end O1
end
section
/-! Orders: the two read the same text, token by token. -/
theorem frO_u {I0 L : Nat → Nat → Int32} {r k : Nat} {v : Int32} (h : frO I0 L) (a : 16 ≤ r) (b : r ≤ 20) : frO I0 (up2 L r k v) := ⟨fun d x y => by rw [up2_rn _ _ _ _ _ (by omega)]; exact h.1 d x y, fun j x y z => by rw [up2_rn _ _ _ _ _ (by omega)]; exact h.2 j x y z⟩
section O2
variable {X : (Nat → Int32) × Nat} {mo : Bool} {G : Nat × Nat} {J : Nat → Nat → Int64} {x2 : Int32}
theorem rGo_0 {m : Nat} {T : Nat → Nat → Int32} {Q : Option Value → sm_M → Prop} (h : sm_wp X 225 75 [some (.ref 81), none, some (.int x2), none, none] [] (sM mo G T J) Q) : rGo X mo G J x2 m 0 T Q := by
  unfold rGo
  rw [if_pos rfl]
  exact h
theorem rGo_1 {m d : Nat} {T : Nat → Nat → Int32} {Q : Option Value → sm_M → Prop} (hd : ¬ d = 0) (h : sm_wp X 234 30 [some (.ref 81), none] [] (sM mo G T J) (RC X m x2 Q)) : rGo X mo G J x2 m d T Q := by
  unfold rGo
  rw [if_neg hd]
  exact h
theorem rGo_2 {m d : Nat} {T : Nat → Nat → Int32} {Q : Option Value → sm_M → Prop} (hd : ¬ d = 0) (h : rGo X mo G J x2 m d T Q) : sm_wp X 234 30 [some (.ref 81), none] [] (sM mo G T J) (RC X m x2 Q) := by
  unfold rGo at h
  rw [if_neg hd] at h
  exact h
theorem ord_m {B : Nat → Nat} {n : Nat} (hn : n ≤ 400) {I0 : Nat → Nat → Int32} (hT : tpC B (I0 15)) (h4 : I0 14 4 = zI n) : ∀ f p k m z w d kn o cm c sg vb le, n ≤ p + f → p ≤ n → k ≤ p → pW m z w d kn o c sg vb le →
    ∃ b F S, okR I0 b F S ∧ cWP X mo G J n k (fun K => CC p m z w d kn o cm c sg vb le I0 K) F ∧ rWP X mo G J x2 B n (plc B n p) m d (fun gb wo T => CT m z w d kn o cm c sg vb le gb wo T) b S := by
  intro f
  induction f using Nat.strongRecOn with
  | _ f ih =>
  intro p k m z w d kn o cm c sg vb le hf hp hk hW
  obtain ⟨pq, qn⟩ := plc_b B hp
  generalize hq : plc B n p = q at *
  have tadv : ¬ (tkN B n q).1 = 34 → q < n := fun h => by
    by_cases g : q < n
    · exact g
    · exfalso
      unfold tkN at h
      rw [if_pos (by omega)] at h
      exact h rfl
  have t100 : (tkN B n q).1 < 100 := by
    by_cases g : q < n
    · exact (tk_adv g).2.2.2
    · unfold tkN
      rw [if_pos (by omega)]
      exact (show 34 < 100 by decide)
  have nub := nuC_b B q ((tkN B n q).2 - q)
  generalize ht : (tkN B n q).1 = t at *
  generalize hp' : (tkN B n q).2 = p' at *
  generalize hnu : nuC B q (p' - q) = nu at *
  have hW1 := hW.1
  have hnp := np_w sg w
  have d3 : d ≤ 3 := hW1.2.2.2.2.2
  -- the class up to the token
  have cls : ∀ K (Q : Option Value → sm_M → Prop), CC p m z w d kn o cm c sg vb le I0 K → (∀ L, scE (L 16) (m + on d) z w d kn o cm → (∀ i, i < z → L 17 i = zI (c i)) → (∀ i, i < m + on d → L 18 i = zI (vb i)) → (∀ i, i < m → L 19 i = zI (le i)) → (∀ j, j < w → L 20 j = zI (sg j)) → L 16 1 = -1 → frO I0 L → L 14 5 = zI p' → L 14 1 = zI q → (t = 36 → L 14 2 = zI nu) → sm_wp X 48 0 [some (.ref 16), some (.int (zI t))] [] (sM mo G L J) (fun v M => sm_wp X 47 86 [some (.ref 16), some (.int (zI n)), some (.int (zI k))] (v.toList ++ []) M Q)) → sm_wp X 47 55 [some (.ref 16), some (.int (zI n)), some (.int (zI k))] [] (sM mo G K J) Q := by
    intro K Q hK hQ
    obtain ⟨k1, k2, k3, k4, k5, k6, k7, k8⟩ := hK
    refine c_it (B := B) (I0 := I0) hT h4 hn (by omega) hp k7 k8 (by rw [k1.2.2.2.2.1, zIr_eq (c := 4) (by decide) (by omega)]; show ¬ d = 4; omega) k1.1 ?_
    rw [hq, ht, hp', hnu]
    intro L l1 l2 l3 l4 l5
    exact hQ L (by rw [l1 16 (by decide)]; exact k1) (by rw [l1 17 (by decide)]; exact k2) (by rw [l1 18 (by decide)]; exact k3) (by rw [l1 19 (by decide)]; exact k4) (by rw [l1 20 (by decide)]; exact k5) (by rw [l1 16 (by decide)]; exact k6) l2 l4 l3 l5
  have tpf : ∀ T0 T, t0F B n T0 → frR T0 T → tkF B n q T → ¬ t = 34 → tpF B n p' T0 T := fun T0 T h1 h2 h3 h5 => by
    obtain ⟨a, b, e⟩ := h1
    have ad := tk_adv (B := B) (tadv h5)
    rw [hp'] at ad
    refine ⟨⟨a, b, e, hn⟩, h2, ?_, by omega⟩
    rw [h3.2.1, hp']
  have tkr : ∀ T, tkF B n q T → tkR B q t p' (T 81 22) (T 81 23) ∧ T 81 24 = zI q := fun T h => by
    have := h.2.2
    rw [ht, hp'] at this
    exact ⟨this, h.1⟩
  -- a fault
  have FLT : ∀ fa : Nat, (fa = 1 ∨ fa = 2) →
      (∀ L, sc16 (L 16) (m + on d) z w d kn o cm → (t = 36 → L 14 2 = zI nu) → ∀ Q' : Option Value → sm_M → Prop, (∀ V, flt fa L V → Q' none (sM mo G V J)) → sm_wp X 48 0 [some (.ref 16), some (.int (zI t))] [] (sM mo G L J) Q') →
      (∀ T0 T (Q : Option Value → sm_M → Prop) gb wo, CT m z w d kn o cm c sg vb le gb wo T → frR T0 T → tkR B q t p' (T 81 22) (T 81 23) → (∀ L, frR T0 L → Q (some (.int (-1))) (sM mo G (up2 (up2 L 81 18 (zI fa)) 81 19 (T 81 24)) J)) → rGo X mo G J x2 m d T Q) →
      ∃ b F S, okR I0 b F S ∧ cWP X mo G J n k (fun K => CC p m z w d kn o cm c sg vb le I0 K) F ∧ rWP X mo G J x2 B n q m d (fun gb wo T => CT m z w d kn o cm c sg vb le gb wo T) b S := by
    intro fa hfa hc hr
    refine ⟨false, _, _, Or.inl ⟨rfl, fa, q, hfa, rfl, rfl⟩, ?_, ?_⟩
    · intro K Q hK hQ
      refine cls K Q hK ?_
      intro L e1 e2 e3 e4 e5 e6 e7 e8 e9 e10
      refine hc L (pW_sc hW e1) e10 _ (fun V hV => ?_)
      obtain ⟨v1, v2, v3⟩ := hV
      refine c_go (c_xf ?_ (Or.inr ?_))
      · exact hQ V ⟨⟨fun d a b => by rw [v1 d (by omega)]; exact e7.1 d a b, fun j a b c => by rw [v1 14 (by decide)]; exact e7.2 j a b c⟩, v2, by rw [v3]; exact e9⟩
      · rw [v2]
        rcases hfa with rfl | rfl <;> decide
    · intro T0 T Q gb wo h1 h2 h3 h5 h6
      obtain ⟨r1, r2⟩ := tkr T h5
      refine hr T0 T Q gb wo h2 h3 r1 (fun L hL => ?_)
      rw [r2]
      have := h6 _ ⟨L, hL, rfl⟩
      unfold rFi at this
      rw [if_neg (by decide)] at this
      exact this
  -- one more token
  have CON : ∀ (m' z' w' d' kn' o' : Nat) (cm' : Int32) (c' sg' vb' le' : Nat → Nat), ¬ t = 34 → pW m' z' w' d' kn' o' c' sg' vb' le' →
      (∀ L, sc16 (L 16) (m + on d) z w d kn o cm → (∀ i, i < z → L 17 i = zI (c i)) → (∀ i, i < m + on d → L 18 i = zI (vb i)) → (∀ i, i < m → L 19 i = zI (le i)) → (∀ j, j < w → L 20 j = zI (sg j)) → L 16 1 = -1 → frO I0 L → L 14 5 = zI p' → (t = 36 → L 14 2 = zI nu) → ∀ Q' : Option Value → sm_M → Prop, (∀ V, CC p' m' z' w' d' kn' o' cm' c' sg' vb' le' I0 V → Q' none (sM mo G V J)) → sm_wp X 48 0 [some (.ref 16), some (.int (zI t))] [] (sM mo G L J) Q') →
      (∀ T0 T (Q : Option Value → sm_M → Prop) gb wo, tpF B n p' T0 T → CT m z w d kn o cm c sg vb le gb wo T → tkR B q t p' (T 81 22) (T 81 23) → (∀ L gb' wo', CT m' z' w' d' kn' o' cm' c' sg' vb' le' gb' wo' L → frR T0 L → tkF B n (plc B n p') L → rGo X mo G J x2 m' d' L Q) → rGo X mo G J x2 m d T Q) →
      ∃ b F S, okR I0 b F S ∧ cWP X mo G J n k (fun K => CC p m z w d kn o cm c sg vb le I0 K) F ∧ rWP X mo G J x2 B n q m d (fun gb wo T => CT m z w d kn o cm c sg vb le gb wo T) b S := by
    intro m' z' w' d' kn' o' cm' c' sg' vb' le' h34 hW' hc hr
    have ad := tk_adv (B := B) (tadv h34)
    rw [hp'] at ad
    obtain ⟨b, F, S, h1, h2, h3⟩ := ih (f - 1) (by omega) p' (k + 1) m' z' w' d' kn' o' cm' c' sg' vb' le' (by omega) (by omega) (by omega) hW'
    refine ⟨b, F, S, h1, ?_, ?_⟩
    · intro K Q hK hQ
      refine cls K Q hK ?_
      intro L e1 e2 e3 e4 e5 e6 e7 e8 e9 e10
      exact hc L (pW_sc hW e1) e2 e3 e4 e5 e6 e7 e8 e10 _ (fun V hV => c_go (h2 V Q hV hQ))
    · intro T0 T Q gb wo g1 g2 g3 g5 g6
      obtain ⟨r1, r2⟩ := tkr T g5
      exact hr T0 T Q gb wo (tpf T0 T g1 g3 g5 h34) g2 r1 (fun L gb' wo' l1 l2 l3 => h3 T0 L Q gb' wo' g1 l1 l2 l3 g6)
  have hF : ∀ {L : Nat → Nat → Int32}, scE (L 16) (m + on d) z w d kn o cm → L 16 0 = 0 := fun h => h.1
  by_cases d0 : d = 0
  · subst d0
    obtain ⟨w0, z0⟩ := hW.2.2.2.2.1 rfl
    subst w0
    have o0 : o = 0 := hW1.2.2.2.1.symm
    subst o0
    by_cases t34 : t = 34
    · refine ⟨true, _, _, Or.inr ⟨rfl, m, z, kn, cm, c, sg, vb, le, hW, rfl, rfl⟩, ?_, ?_⟩
      · intro K Q hK hQ
        refine cls K Q hK ?_
        intro L e1 e2 e3 e4 e5 e6 e7 e8 e9 e10
        rw [t34]
        refine a_ve (pW_sc hW e1) (c_go (c_xf ?_ (Or.inl ?_)))
        · refine hQ _ ⟨frO_u e7 (by decide) (by decide), ?_, ?_, ?_, fun i hi => ?_, fun i hi => ?_, fun i hi => ?_⟩
          · simp (decide := true) only [up2_ra, up2_rn, va_ap, ne_eq, if_false, if_true, not_false_eq_true]; exact e1.1
          · simp (decide := true) only [up2_ra, up2_rn, va_ap, ne_eq, if_false, if_true, not_false_eq_true]; exact e6
          · simp (decide := true) only [up2_ra, up2_rn, va_ap, ne_eq, if_false, if_true, not_false_eq_true]; exact e1.2.1
          · simp (decide := true) only [up2_ra, up2_rn, va_ap, ne_eq, if_false, if_true, not_false_eq_true]; exact e2 i hi
          · simp (decide := true) only [up2_ra, up2_rn, va_ap, ne_eq, if_false, if_true, not_false_eq_true]; exact e3 i hi
          · simp (decide := true) only [up2_ra, up2_rn, va_ap, ne_eq, if_false, if_true, not_false_eq_true]; exact e4 i hi
        · simp (decide := true) only [up2_ra, up2_rn, va_ap, ne_eq, if_false, if_true, not_false_eq_true]
      · intro T0 T Q gb wo h1 h2 h3 h5 h6
        obtain ⟨r1, r2⟩ := tkr T h5
        have k0 : T 81 22 = 0 := by
          rcases r1 with ⟨-, a⟩ | ⟨a0, -⟩ | ⟨a0, a1, -⟩ | ⟨a0, -⟩ | ⟨a0, -⟩
          · exact a
          · omega
          · omega
          · omega
          · omega
        refine rGo_0 ?_
        rw [lp_225_75, if_pos k0]
        have := h6 T ⟨h3, gb, wo, h2⟩
        unfold rFi at this
        rw [if_pos rfl] at this
        exact this
    · by_cases t3 : t ≤ 3
      · by_cases m16 : m = 16
        · subst m16
          exact FLT 2 (Or.inr rfl) (fun L hs _ Q' hQ => a_vf hs t3 (hQ _ (flt_2 L))) (fun T0 T Q gb wo hC fr hR hQ => rGo_0 (r_vff hC fr hR 2 t34 (Or.inr ⟨rfl, t3, rfl⟩) hQ))
        · have e0 : on 0 = 0 := rfl
          have e1' : on 1 = 1 := rfl
          rw [e0] at hW1
          refine CON m z 0 1 kn 0 0 c sg (va_up vb m t) le t34 (pW_v hW (by omega) t3) ?_ ?_
          · intro L hs k17 k18 k19 k20 k1 fr k5 _ Q' hQ
            rw [e0, Nat.add_zero] at hs k18
            obtain ⟨⟨s0, s2, s3, s9, s10, s11, s12, s13⟩, -⟩ := id hs
            refine a_vo hs t3 (by omega) (hQ _ ⟨⟨?_, ?_, ?_, ?_, ?_, ?_, ?_, ?_⟩, fun i hi => ?_, fun i hi => ?_, fun i hi => ?_, fun i hi => absurd hi (Nat.not_lt_zero _), ?_, frO_u (frO_u (frO_u (frO_u fr (by decide) (by decide)) (by decide) (by decide)) (by decide) (by decide)) (by decide) (by decide), ?_⟩)
            · simp (decide := true) only [up2_ra, up2_rn, va_ap, ne_eq, if_false, if_true, not_false_eq_true]; exact s0
            · simp (decide := true) only [up2_ra, up2_rn, va_ap, ne_eq, if_false, if_true, not_false_eq_true] <;> rfl
            · simp (decide := true) only [up2_ra, up2_rn, va_ap, ne_eq, if_false, if_true, not_false_eq_true]; exact s3
            · simp (decide := true) only [up2_ra, up2_rn, va_ap, ne_eq, if_false, if_true, not_false_eq_true]; exact s9
            · simp (decide := true) only [up2_ra, up2_rn, va_ap, ne_eq, if_false, if_true, not_false_eq_true] <;> rfl
            · simp (decide := true) only [up2_ra, up2_rn, va_ap, ne_eq, if_false, if_true, not_false_eq_true]; exact s11
            · simp (decide := true) only [up2_ra, up2_rn, va_ap, ne_eq, if_false, if_true, not_false_eq_true]; exact s12
            · simp (decide := true) only [up2_ra, up2_rn, va_ap, ne_eq, if_false, if_true, not_false_eq_true]
            · simp (decide := true) only [up2_ra, up2_rn, va_ap, ne_eq, if_false, if_true, not_false_eq_true]; exact k17 i hi
            · simp (decide := true) only [up2_ra, up2_rn, va_ap, ne_eq, if_false, if_true, not_false_eq_true]
              rw [e1'] at hi
              by_cases e : i = m
              · rw [if_pos e, if_pos e] <;> rfl
              · rw [if_neg e, if_neg e]; exact k18 i (by omega)
            · simp (decide := true) only [up2_ra, up2_rn, va_ap, ne_eq, if_false, if_true, not_false_eq_true]; exact k19 i hi
            · simp (decide := true) only [up2_ra, up2_rn, va_ap, ne_eq, if_false, if_true, not_false_eq_true]; exact k1
            · simp (decide := true) only [up2_ra, up2_rn, va_ap, ne_eq, if_false, if_true, not_false_eq_true]; exact k5
          · intro T0 T Q gb wo f hC hR hQ
            exact rGo_0 (r_ver hC hW (by omega) t3 hR f (fun L a b e => rGo_2 (by decide) (hQ L gb wo a b e)))
      · exact FLT 1 (Or.inl rfl) (fun L hs _ Q' hQ => a_vb hs (by omega) t34 t100 (hQ _ (flt_1 L))) (fun T0 T Q gb wo hC fr hR hQ => rGo_0 (r_vff hC fr hR 1 t34 (Or.inl ⟨rfl, by omega⟩) hQ))
  · have on1 : on d = 1 := on_1 d0
    have kn64 : kn ≤ 64 := hW1.2.2.1
    have o8 : o ≤ 8 := hW1.2.2.2.2.1
    by_cases d12 : d = 1 ∨ d = 2
    · have rv : ∀ fa : Nat, ((fa = 1 ∧ ¬ t = 36 ∧ ¬ (7 ≤ t ∧ t < 19) ∧ ¬ t = 30 ∧ ¬ t = 20 ∧ ¬ (t = 4 ∧ d = 1)) ∨ (fa = 2 ∧ ((t = 36 ∧ 99999 < nu) ∨ (t = 30 ∧ o = 8) ∨ (kn = 64 ∧ ((t = 36 ∧ nu ≤ 99999) ∨ (7 ≤ t ∧ t < 19) ∨ t = 20 ∨ (t = 4 ∧ d = 1)))))) → ∀ T0 T (Q : Option Value → sm_M → Prop) gb wo, CT m z w d kn o cm c sg vb le gb wo T → frR T0 T → tkR B q t p' (T 81 22) (T 81 23) → (∀ L, frR T0 L → Q (some (.int (-1))) (sM mo G (up2 (up2 L 81 18 (zI fa)) 81 19 (T 81 24)) J)) → rGo X mo G J x2 m d T Q := by
        intro fa hfa T0 T Q gb wo hC fr hR hQ
        refine rGo_1 d0 (r_vf hC.1 d12 o8 kn64 hR (fun f hf => RC_0 ?_) (by rw [hnu]; omega))
        have e : f = fa := by rw [hnu] at hf; omega
        rw [e]
        exact hQ T fr
      by_cases n36 : t = 36
      · by_cases big : 99999 < nu
        · exact FLT 2 (Or.inr rfl) (fun L hs h14 Q' hQ => by rw [n36]; exact a_onb hs d12 (h14 n36) big (by omega) (hQ _ (flt_2 L))) (rv 2 (by omega))
        · by_cases k64 : kn = 64
          · exact FLT 2 (Or.inr rfl) (fun L hs h14 Q' hQ => by rw [n36]; rw [k64] at hs; exact a_onk hs d12 (h14 n36) (by omega) (hQ _ (flt_2 L))) (rv 2 (by omega))
          · refine CON m (z + 1) w 3 (kn + 1) o cm (va_up c z (100 + nu)) sg vb le (by omega) (pW_o hW d12 (by omega) (by unfold vcd; omega) (by unfold ar; rw [if_pos (by omega)])) ?_ ?_
            · intro L hs k17 k18 k19 k20 k1 fr k5 h14 Q' hQ
              obtain ⟨⟨s0, s2, s3, s9, s10, s11, s12, s13⟩, -⟩ := id hs
              rw [n36]
              refine a_on hs d12 (by omega) (by omega) (h14 n36) (by omega) (hQ _ ⟨⟨?_, ?_, ?_, ?_, ?_, ?_, ?_, ?_⟩, fun i hi => ?_, fun i hi => ?_, fun i hi => ?_, fun i hi => ?_, ?_, frO_u (frO_u (frO_u (frO_u fr (by decide) (by decide)) (by decide) (by decide)) (by decide) (by decide)) (by decide) (by decide), ?_⟩)
              · simp (decide := true) only [up2_ra, up2_rn, va_ap, ne_eq, if_false, if_true, not_false_eq_true]; exact s0
              · simp (decide := true) only [up2_ra, up2_rn, va_ap, ne_eq, if_false, if_true, not_false_eq_true]; rw [on1] at s2; exact s2
              · simp (decide := true) only [up2_ra, up2_rn, va_ap, ne_eq, if_false, if_true, not_false_eq_true]
              · simp (decide := true) only [up2_ra, up2_rn, va_ap, ne_eq, if_false, if_true, not_false_eq_true]; exact s9
              · simp (decide := true) only [up2_ra, up2_rn, va_ap, ne_eq, if_false, if_true, not_false_eq_true] <;> rfl
              · simp (decide := true) only [up2_ra, up2_rn, va_ap, ne_eq, if_false, if_true, not_false_eq_true]
              · simp (decide := true) only [up2_ra, up2_rn, va_ap, ne_eq, if_false, if_true, not_false_eq_true]; exact s12
              · simp (decide := true) only [up2_ra, up2_rn, va_ap, ne_eq, if_false, if_true, not_false_eq_true]; exact s13
              · simp (decide := true) only [up2_ra, up2_rn, va_ap, ne_eq, if_false, if_true, not_false_eq_true]
                by_cases e : i = z
                · rw [if_pos e, if_pos e] <;> rfl
                · rw [if_neg e, if_neg e]; exact k17 i (by omega)
              · simp (decide := true) only [up2_ra, up2_rn, va_ap, ne_eq, if_false, if_true, not_false_eq_true]; exact k18 i (by rw [on1]; exact hi)
              · simp (decide := true) only [up2_ra, up2_rn, va_ap, ne_eq, if_false, if_true, not_false_eq_true]; exact k19 i hi
              · simp (decide := true) only [up2_ra, up2_rn, va_ap, ne_eq, if_false, if_true, not_false_eq_true]; exact k20 i hi
              · simp (decide := true) only [up2_ra, up2_rn, va_ap, ne_eq, if_false, if_true, not_false_eq_true]; exact k1
              · simp (decide := true) only [up2_ra, up2_rn, va_ap, ne_eq, if_false, if_true, not_false_eq_true]; exact k5
            · intro T0 T Q gb wo f hC hR hQ
              have hh : T 81 22 = 2 ∧ T 81 23 = zI nu := by
                rcases hR with ⟨a0, -⟩ | ⟨a0, -⟩ | ⟨a0, a1, -⟩ | ⟨a0, -⟩ | ⟨a0, a, b⟩
                · omega
                · omega
                · omega
                · omega
                · rw [hnu] at b
                  rcases b with ⟨b1, b2⟩ | ⟨b1, b2⟩
                  · exact ⟨a, b2⟩
                  · omega
              exact rGo_1 d0 (r_num hC hW d12 (by omega) hh.1 hh.2 (by omega) f (fun L gb' a b e => rGo_2 (by decide) (hQ L gb' wo a b e)))
      by_cases nam : 7 ≤ t ∧ t < 19
      · by_cases k64 : kn = 64
        · exact FLT 2 (Or.inr rfl) (fun L hs h14 Q' hQ => by rw [k64] at hs; exact a_omk hs d12 nam.1 nam.2 (hQ _ (flt_2 L))) (rv 2 (by omega))
        · refine CON m (z + 1) w 3 (kn + 1) o cm (va_up c z t) sg vb le (by omega) (pW_o hW d12 (by omega) (by unfold vcd; omega) (by unfold ar; rw [if_pos (by omega)])) ?_ ?_
          · intro L hs k17 k18 k19 k20 k1 fr k5 h14 Q' hQ
            obtain ⟨⟨s0, s2, s3, s9, s10, s11, s12, s13⟩, -⟩ := id hs
            refine a_om hs d12 (by omega) (by omega) nam.1 nam.2 (hQ _ ⟨⟨?_, ?_, ?_, ?_, ?_, ?_, ?_, ?_⟩, fun i hi => ?_, fun i hi => ?_, fun i hi => ?_, fun i hi => ?_, ?_, frO_u (frO_u (frO_u (frO_u fr (by decide) (by decide)) (by decide) (by decide)) (by decide) (by decide)) (by decide) (by decide), ?_⟩)
            · simp (decide := true) only [up2_ra, up2_rn, va_ap, ne_eq, if_false, if_true, not_false_eq_true]; exact s0
            · simp (decide := true) only [up2_ra, up2_rn, va_ap, ne_eq, if_false, if_true, not_false_eq_true]; rw [on1] at s2; exact s2
            · simp (decide := true) only [up2_ra, up2_rn, va_ap, ne_eq, if_false, if_true, not_false_eq_true]
            · simp (decide := true) only [up2_ra, up2_rn, va_ap, ne_eq, if_false, if_true, not_false_eq_true]; exact s9
            · simp (decide := true) only [up2_ra, up2_rn, va_ap, ne_eq, if_false, if_true, not_false_eq_true] <;> rfl
            · simp (decide := true) only [up2_ra, up2_rn, va_ap, ne_eq, if_false, if_true, not_false_eq_true]
            · simp (decide := true) only [up2_ra, up2_rn, va_ap, ne_eq, if_false, if_true, not_false_eq_true]; exact s12
            · simp (decide := true) only [up2_ra, up2_rn, va_ap, ne_eq, if_false, if_true, not_false_eq_true]; exact s13
            · simp (decide := true) only [up2_ra, up2_rn, va_ap, ne_eq, if_false, if_true, not_false_eq_true]
              by_cases e : i = z
              · rw [if_pos e, if_pos e] <;> rfl
              · rw [if_neg e, if_neg e]; exact k17 i (by omega)
            · simp (decide := true) only [up2_ra, up2_rn, va_ap, ne_eq, if_false, if_true, not_false_eq_true]; exact k18 i (by rw [on1]; exact hi)
            · simp (decide := true) only [up2_ra, up2_rn, va_ap, ne_eq, if_false, if_true, not_false_eq_true]; exact k19 i hi
            · simp (decide := true) only [up2_ra, up2_rn, va_ap, ne_eq, if_false, if_true, not_false_eq_true]; exact k20 i hi
            · simp (decide := true) only [up2_ra, up2_rn, va_ap, ne_eq, if_false, if_true, not_false_eq_true]; exact k1
            · simp (decide := true) only [up2_ra, up2_rn, va_ap, ne_eq, if_false, if_true, not_false_eq_true]; exact k5
          · intro T0 T Q gb wo f hC hR hQ
            have hh : T 81 22 = 1 ∧ T 81 23 = zI t := by
              rcases hR with ⟨a0, -⟩ | ⟨a0, a, b⟩ | ⟨a0, a1, -⟩ | ⟨a0, -⟩ | ⟨a0, -⟩
              · omega
              · exact ⟨a, by rw [b]; unfold prm; rw [if_neg (by omega), if_neg (by omega)]⟩
              · omega
              · omega
              · omega
            exact rGo_1 d0 (r_nam hC hW d12 (by omega) hh.1 hh.2 nam.1 nam.2 f (fun L gb' a b e => rGo_2 (by decide) (hQ L gb' wo a b e)))
      by_cases n30 : t = 30
      · by_cases o8' : o = 8
        · exact FLT 2 (Or.inr rfl) (fun L hs h14 Q' hQ => by rw [n30]; rw [o8'] at hs; exact a_oof hs d12 (hQ _ (flt_2 L))) (rv 2 (by omega))
        · refine CON m z (w + 1) 1 kn (o + 1) (cm &&& (b1 (o + 1) ^^^ (-1))) c (va_up sg w 30) vb le (by omega) (pW_u hW d12 (Or.inl rfl) (Or.inl rfl) (Or.inl ⟨rfl, rfl, rfl, by omega⟩)) ?_ ?_
          · intro L hs k17 k18 k19 k20 k1 fr k5 h14 Q' hQ
            obtain ⟨⟨s0, s2, s3, s9, s10, s11, s12, s13⟩, -⟩ := id hs
            rw [n30]
            refine a_oo hs d12 (by omega) (by omega) (hQ _ ⟨⟨?_, ?_, ?_, ?_, ?_, ?_, ?_, ?_⟩, fun i hi => ?_, fun i hi => ?_, fun i hi => ?_, fun i hi => ?_, ?_, frO_u (frO_u (frO_u (frO_u (frO_u fr (by decide) (by decide)) (by decide) (by decide)) (by decide) (by decide)) (by decide) (by decide)) (by decide) (by decide), ?_⟩)
            · simp (decide := true) only [up2_ra, up2_rn, va_ap, ne_eq, if_false, if_true, not_false_eq_true]; exact s0
            · simp (decide := true) only [up2_ra, up2_rn, va_ap, ne_eq, if_false, if_true, not_false_eq_true]; rw [on1] at s2; exact s2
            · simp (decide := true) only [up2_ra, up2_rn, va_ap, ne_eq, if_false, if_true, not_false_eq_true]; exact s3
            · simp (decide := true) only [up2_ra, up2_rn, va_ap, ne_eq, if_false, if_true, not_false_eq_true]
            · simp (decide := true) only [up2_ra, up2_rn, va_ap, ne_eq, if_false, if_true, not_false_eq_true] <;> rfl
            · simp (decide := true) only [up2_ra, up2_rn, va_ap, ne_eq, if_false, if_true, not_false_eq_true]; exact s11
            · simp (decide := true) only [up2_ra, up2_rn, va_ap, ne_eq, if_false, if_true, not_false_eq_true]
            · simp (decide := true) only [up2_ra, up2_rn, va_ap, ne_eq, if_false, if_true, not_false_eq_true]
            · simp (decide := true) only [up2_ra, up2_rn, va_ap, ne_eq, if_false, if_true, not_false_eq_true]; exact k17 i hi
            · simp (decide := true) only [up2_ra, up2_rn, va_ap, ne_eq, if_false, if_true, not_false_eq_true]; exact k18 i (by rw [on1]; exact hi)
            · simp (decide := true) only [up2_ra, up2_rn, va_ap, ne_eq, if_false, if_true, not_false_eq_true]; exact k19 i hi
            · simp (decide := true) only [up2_ra, up2_rn, va_ap, ne_eq, if_false, if_true, not_false_eq_true]
              by_cases e : i = w
              · rw [if_pos e, if_pos e] <;> rfl
              · rw [if_neg e, if_neg e]; exact k20 i (by omega)
            · simp (decide := true) only [up2_ra, up2_rn, va_ap, ne_eq, if_false, if_true, not_false_eq_true]; exact k1
            · simp (decide := true) only [up2_ra, up2_rn, va_ap, ne_eq, if_false, if_true, not_false_eq_true]; exact k5
          · intro T0 T Q gb wo f hC hR hQ
            have hh : T 81 22 = 3 ∧ T 81 23 = zI 40 := by
              rcases hR with ⟨a0, -⟩ | ⟨a0, -⟩ | ⟨a0, a1, a, b⟩ | ⟨a0, -⟩ | ⟨a0, -⟩
              · omega
              · omega
              · exact ⟨a, by rw [b, n30]; rfl⟩
              · omega
              · omega
            exact rGo_1 d0 (r_par hC hW d12 (by omega) hh.1 hh.2 f (fun L wo' a b e => rGo_2 (by decide) (hQ L gb wo' a b e)))
      by_cases n20 : t = 20
      · by_cases k64 : kn = 64
        · exact FLT 2 (Or.inr rfl) (fun L hs h14 Q' hQ => by rw [n20]; rw [k64] at hs; exact a_ogk hs d12 (hQ _ (flt_2 L))) (rv 2 (by omega))
        · refine CON m z (w + 1) 2 (kn + 1) o cm c (va_up sg w 33) vb le (by omega) (pW_u hW d12 (Or.inr rfl) (Or.inr (Or.inl rfl)) (Or.inr ⟨by decide, rfl, rfl, rfl, by omega⟩)) ?_ ?_
          · intro L hs k17 k18 k19 k20 k1 fr k5 h14 Q' hQ
            obtain ⟨⟨s0, s2, s3, s9, s10, s11, s12, s13⟩, -⟩ := id hs
            rw [n20]
            refine a_og hs d12 (by omega) (by omega) (hQ _ ⟨⟨?_, ?_, ?_, ?_, ?_, ?_, ?_, ?_⟩, fun i hi => ?_, fun i hi => ?_, fun i hi => ?_, fun i hi => ?_, ?_, frO_u (frO_u (frO_u (frO_u fr (by decide) (by decide)) (by decide) (by decide)) (by decide) (by decide)) (by decide) (by decide), ?_⟩)
            · simp (decide := true) only [up2_ra, up2_rn, va_ap, ne_eq, if_false, if_true, not_false_eq_true]; exact s0
            · simp (decide := true) only [up2_ra, up2_rn, va_ap, ne_eq, if_false, if_true, not_false_eq_true]; rw [on1] at s2; exact s2
            · simp (decide := true) only [up2_ra, up2_rn, va_ap, ne_eq, if_false, if_true, not_false_eq_true]; exact s3
            · simp (decide := true) only [up2_ra, up2_rn, va_ap, ne_eq, if_false, if_true, not_false_eq_true]
            · simp (decide := true) only [up2_ra, up2_rn, va_ap, ne_eq, if_false, if_true, not_false_eq_true] <;> rfl
            · simp (decide := true) only [up2_ra, up2_rn, va_ap, ne_eq, if_false, if_true, not_false_eq_true]
            · simp (decide := true) only [up2_ra, up2_rn, va_ap, ne_eq, if_false, if_true, not_false_eq_true]; exact s12
            · simp (decide := true) only [up2_ra, up2_rn, va_ap, ne_eq, if_false, if_true, not_false_eq_true]; exact s13
            · simp (decide := true) only [up2_ra, up2_rn, va_ap, ne_eq, if_false, if_true, not_false_eq_true]; exact k17 i hi
            · simp (decide := true) only [up2_ra, up2_rn, va_ap, ne_eq, if_false, if_true, not_false_eq_true]; exact k18 i (by rw [on1]; exact hi)
            · simp (decide := true) only [up2_ra, up2_rn, va_ap, ne_eq, if_false, if_true, not_false_eq_true]; exact k19 i hi
            · simp (decide := true) only [up2_ra, up2_rn, va_ap, ne_eq, if_false, if_true, not_false_eq_true]
              by_cases e : i = w
              · rw [if_pos e, if_pos e] <;> rfl
              · rw [if_neg e, if_neg e]; exact k20 i (by omega)
            · simp (decide := true) only [up2_ra, up2_rn, va_ap, ne_eq, if_false, if_true, not_false_eq_true]; exact k1
            · simp (decide := true) only [up2_ra, up2_rn, va_ap, ne_eq, if_false, if_true, not_false_eq_true]; exact k5
          · intro T0 T Q gb wo f hC hR hQ
            have hh : T 81 22 = 3 ∧ T 81 23 = zI 8 := by
              rcases hR with ⟨a0, -⟩ | ⟨a0, -⟩ | ⟨a0, a1, a, b⟩ | ⟨a0, -⟩ | ⟨a0, -⟩
              · omega
              · omega
              · exact ⟨a, by rw [b, n20]; rfl⟩
              · omega
              · omega
            exact rGo_1 d0 (r_neg hC hW d12 (by omega) hh.1 hh.2 f (fun L wo' a b e => rGo_2 (by decide) (hQ L gb wo' a b e)))
      by_cases n4 : t = 4 ∧ d = 1
      · obtain ⟨n4, d1⟩ := n4
        subst d1
        by_cases k64 : kn = 64
        · exact FLT 2 (Or.inr rfl) (fun L hs h14 Q' hQ => by rw [n4]; rw [k64] at hs; exact a_otk hs (hQ _ (flt_2 L))) (rv 2 (by omega))
        · refine CON m z (w + 1) 1 (kn + 1) o cm c (va_up sg w 4) vb le (by omega) (pW_u hW d12 (Or.inl rfl) (Or.inr (Or.inr (Or.inl rfl))) (Or.inr ⟨by decide, rfl, rfl, rfl, by omega⟩)) ?_ ?_
          · intro L hs k17 k18 k19 k20 k1 fr k5 h14 Q' hQ
            obtain ⟨⟨s0, s2, s3, s9, s10, s11, s12, s13⟩, -⟩ := id hs
            rw [n4]
            refine a_ot hs (by omega) (by omega) (hQ _ ⟨⟨?_, ?_, ?_, ?_, ?_, ?_, ?_, ?_⟩, fun i hi => ?_, fun i hi => ?_, fun i hi => ?_, fun i hi => ?_, ?_, frO_u (frO_u (frO_u (frO_u fr (by decide) (by decide)) (by decide) (by decide)) (by decide) (by decide)) (by decide) (by decide), ?_⟩)
            · simp (decide := true) only [up2_ra, up2_rn, va_ap, ne_eq, if_false, if_true, not_false_eq_true]; exact s0
            · simp (decide := true) only [up2_ra, up2_rn, va_ap, ne_eq, if_false, if_true, not_false_eq_true]; exact s2
            · simp (decide := true) only [up2_ra, up2_rn, va_ap, ne_eq, if_false, if_true, not_false_eq_true]; exact s3
            · simp (decide := true) only [up2_ra, up2_rn, va_ap, ne_eq, if_false, if_true, not_false_eq_true]
            · simp (decide := true) only [up2_ra, up2_rn, va_ap, ne_eq, if_false, if_true, not_false_eq_true] <;> rfl
            · simp (decide := true) only [up2_ra, up2_rn, va_ap, ne_eq, if_false, if_true, not_false_eq_true]
            · simp (decide := true) only [up2_ra, up2_rn, va_ap, ne_eq, if_false, if_true, not_false_eq_true]; exact s12
            · simp (decide := true) only [up2_ra, up2_rn, va_ap, ne_eq, if_false, if_true, not_false_eq_true]; exact s13
            · simp (decide := true) only [up2_ra, up2_rn, va_ap, ne_eq, if_false, if_true, not_false_eq_true]; exact k17 i hi
            · simp (decide := true) only [up2_ra, up2_rn, va_ap, ne_eq, if_false, if_true, not_false_eq_true]; exact k18 i hi
            · simp (decide := true) only [up2_ra, up2_rn, va_ap, ne_eq, if_false, if_true, not_false_eq_true]; exact k19 i hi
            · simp (decide := true) only [up2_ra, up2_rn, va_ap, ne_eq, if_false, if_true, not_false_eq_true]
              by_cases e : i = w
              · rw [if_pos e, if_pos e] <;> rfl
              · rw [if_neg e, if_neg e]; exact k20 i (by omega)
            · simp (decide := true) only [up2_ra, up2_rn, va_ap, ne_eq, if_false, if_true, not_false_eq_true]; exact k1
            · simp (decide := true) only [up2_ra, up2_rn, va_ap, ne_eq, if_false, if_true, not_false_eq_true]; exact k5
          · intro T0 T Q gb wo f hC hR hQ
            have hh : T 81 22 = 1 ∧ T 81 23 = zI 6 := by
              rcases hR with ⟨a0, -⟩ | ⟨a0, a, b⟩ | ⟨a0, a1, a, b⟩ | ⟨a0, -⟩ | ⟨a0, -⟩
              · omega
              · exact ⟨a, by rw [b, n4]; rfl⟩
              · omega
              · omega
              · omega
            exact rGo_1 d0 (r_not hC hW (by omega) hh.1 hh.2 f (fun L wo' a b e => rGo_2 (by decide) (hQ L gb wo' a b e)))
      exact FLT 1 (Or.inl rfl) (fun L hs h14 Q' hQ => a_ob hs d12 t100 n36 nam n30 n20 n4 (hQ _ (flt_1 L))) (rv 1 (by omega))
    · have d3' : d = 3 := by omega
      subst d3'
      have on3 : on 3 = 1 := rfl
      have s40 : ∀ j, j < w → sg j < 40 := fun j hj => vsg_40 (hW.2.1.1 j hj)
      by_cases bin : (19 ≤ t ∧ t ≤ 23) ∨ (24 ≤ t ∧ t ≤ 29 ∧ ¬ bt cm o = true) ∨ (t = 5 ∨ t = 6)
      · by_cases k64 : kn = 64
        · exact FLT 2 (Or.inr rfl) (fun L hs h14 Q' hQ => by rw [k64] at hs; exact c_ful hs bin (fun V hV => hQ V hV)) (fun T0 T Q gb wo hC fr hR hQ => rGo_1 d0 (r_sf hC hW fr hR 2 (Or.inr ⟨rfl, k64, bin⟩) hQ))
        · obtain ⟨du, cm', hb⟩ : ∃ du cm', bto t o cm du cm' := by
            rcases bin with h | h | h
            · exact ⟨2, cm, Or.inl ⟨h.1, h.2, rfl, rfl⟩⟩
            · exact ⟨2, cm ||| b1 o, Or.inr (Or.inl ⟨h.1, h.2.1, h.2.2, rfl, rfl⟩)⟩
            · exact ⟨1, cm &&& (b1 o ^^^ (-1)), Or.inr (Or.inr ⟨h, rfl, rfl⟩)⟩
          have t34 : ¬ t = 34 := by omega
          have bs : bsg t := by unfold bsg; omega
          obtain ⟨v1, v2, v3, v4, v5, v6⟩ := bsg_v bs
          have st1 : 1 ≤ stg t := by rw [stg_30 v1]; exact v2
          have du12 : du = 1 ∨ du = 2 := by unfold bto at hb; omega
          have ondu : on du = 1 := on_1 (by omega)
          have hWp := pW_pm (least := stg t) st1 w z c hW
          have hWp1 := hWp.1
          have pmb := pm_b (stg t) sg w
          refine CON m (z + pm (stg t) sg w) (w - pm (stg t) sg w + 1) du (kn + 1) o cm' (pcG (stg t) sg sg w z c) (va_up sg (w - pm (stg t) sg w) t) vb le t34 (pW_b hWp du12 (by omega) v1 v2 v3) ?_ ?_
          · intro L hs k17 k18 k19 k20 k1 fr k5 h14 Q' hQ
            obtain ⟨⟨s0, s2, s3, s9, s10, s11, s12, s13⟩, -⟩ := id hs
            refine c_bin (du := du) (cm' := cm') (c := c) (sg := sg) hs (by omega) (by omega) (by omega) s40 k20 k17 hb ?_
            intro V b1' b2' b3' b4' b5' b6' b7' b8' b9' b10' b11' b12'
            refine hQ V ⟨⟨by rw [b4' 0 (by decide) (by decide) (by decide) (by decide) (by decide)]; exact s0, by rw [b4' 2 (by decide) (by decide) (by decide) (by decide) (by decide), ondu, ← on3]; exact s2, b6', b5', b7', b8', by rw [b4' 12 (by decide) (by decide) (by decide) (by decide) (by decide)]; exact s12, b9'⟩, b10', fun i hi => by rw [b2']; exact k18 i (by rw [on3, ← ondu]; exact hi), fun i hi => by rw [b3']; exact k19 i hi, fun j hj => ?_, by rw [b4' 1 (by decide) (by decide) (by decide) (by decide) (by decide)]; exact k1, ⟨fun e x y => by rw [b1' e y]; exact fr.1 e x y, fun j x y e => by rw [b1' 14 (by decide)]; exact fr.2 j x y e⟩, by rw [b1' 14 (by decide)]; exact k5⟩
            by_cases e : j = w - pm (stg t) sg w
            · rw [e, va_s]; exact b12'
            · rw [va_n _ _ e]; exact b11' j (by omega)
          · intro T0 T Q gb wo f hC hR hQ
            exact rGo_1 d0 (r_joi hC hW (by omega) hR hb f (fun L gb' wo' a _ b e => rGo_2 (by omega) (hQ L gb' wo' a b e)))
      have hWp := pW_pm (least := 1) (Nat.le_refl 1) w z c hW
      have hWp1 := hWp.1
      have pmb := pm_b 1 sg w
      have stop := pm_stop 1 sg w
      have hh : ∀ T : Nat → Nat → Int32, 19 ≤ t → t ≤ 32 → tkR B q t p' (T 81 22) (T 81 23) → T 81 22 = 3 ∧ T 81 23 = zI (sgW t) := fun T x y hR => by
        rcases hR with ⟨a0, -⟩ | ⟨a0, a, b⟩ | ⟨a0, a1, a, b⟩ | ⟨a0, -⟩ | ⟨a0, -⟩
        · omega
        · omega
        · exact ⟨a, b⟩
        · omega
        · omega
      by_cases clo : t = 31 ∧ 0 < o
      · obtain ⟨n31, ho⟩ := clo
        have w1 : 1 ≤ w - pm 1 sg w := by
          by_cases g : w - pm 1 sg w = 0
          · exfalso
            have := hWp1.2.2.2.1
            rw [g] at this
            have e0 : cN (par sg) 0 = 0 := rfl
            omega
          · omega
        have h30 : sg (w - pm 1 sg w - 1) = 30 := by
          have v := hW.2.1.1 (w - pm 1 sg w - 1) (by omega)
          rcases stop with h | h
          · omega
          · rw [stg_30 v] at h
            exact Classical.not_not.mp h
        have q2 : pW m (z + pm 1 sg w) (w - pm 1 sg w - 1) 3 kn (o - 1) (pcG 1 sg sg w z c) sg vb le := by
          have e : w - pm 1 sg w = (w - pm 1 sg w - 1) + 1 := by omega
          rw [e] at hWp
          exact (pW_q hWp h30).1
        refine CON m (z + pm 1 sg w) (w - pm 1 sg w - 1) 3 kn (o - 1) cm (pcG 1 sg sg w z c) sg vb le (by omega) q2 ?_ ?_
        · intro L hs k17 k18 k19 k20 k1 fr k5 h14 Q' hQ
          obtain ⟨⟨s0, s2, s3, s9, s10, s11, s12, s13⟩, -⟩ := id hs
          rw [n31]
          refine c_clo (c := c) (sg := sg) hs ho (by omega) w1 s40 k20 k17 ?_
          intro V b1' b2' b3' b4' b5' b6'
          exact hQ V ⟨⟨by rw [b2' 0 (by decide) (by decide) (by decide)]; exact s0, by rw [b2' 2 (by decide) (by decide) (by decide)]; exact s2, b4', b3', by rw [b2' 10 (by decide) (by decide) (by decide)]; exact s10, by rw [b2' 11 (by decide) (by decide) (by decide)]; exact s11, b5', by rw [b2' 13 (by decide) (by decide) (by decide)]; exact s13⟩, b6', fun i hi => by rw [b1' 18 (by decide) (by decide)]; exact k18 i hi, fun i hi => by rw [b1' 19 (by decide) (by decide)]; exact k19 i hi, fun j hj => by rw [b1' 20 (by decide) (by decide)]; exact k20 j (by omega), by rw [b2' 1 (by decide) (by decide) (by decide)]; exact k1, ⟨fun e x y => by rw [b1' e (by omega) (by omega)]; exact fr.1 e x y, fun j x y e => by rw [b1' 14 (by decide) (by decide)]; exact fr.2 j x y e⟩, by rw [b1' 14 (by decide) (by decide)]; exact k5⟩
        · intro T0 T Q gb wo f hC hR hQ
          have h2 := hh T (by omega) (by omega) hR
          exact rGo_1 d0 (r_clo hC hW ho h2.1 (by rw [h2.2, n31]; rfl) f w1 h30 (fun L gb' a _ b e => rGo_2 (by decide) (hQ L gb' wo a b e)))
      by_cases eol : t = 32 ∧ o = 0
      · obtain ⟨n32, o0⟩ := eol
        subst o0
        have w0 : w - pm 1 sg w = 0 := by
          rcases stop with h | h
          · exact h
          · by_cases g : w - pm 1 sg w = 0
            · exact g
            · exfalso
              have v := hW.2.1.1 (w - pm 1 sg w - 1) (by omega)
              rw [stg_30 v] at h
              have h30 := Classical.not_not.mp h
              have e : w - pm 1 sg w = (w - pm 1 sg w - 1) + 1 := by omega
              have := hWp1.2.2.2.1
              rw [e, par_s, if_pos h30] at this
              omega
        rw [w0] at hWp
        refine CON (m + 1) (z + pm 1 sg w) 0 0 kn 0 cm (pcG 1 sg sg w z c) sg vb (va_up le m (z + pm 1 sg w)) (by omega) (pW_e hWp) ?_ ?_
        · intro L hs k17 k18 k19 k20 k1 fr k5 h14 Q' hQ
          obtain ⟨⟨s0, s2, s3, s9, s10, s11, s12, s13⟩, -⟩ := id hs
          rw [n32]
          refine c_eol (c := c) (sg := sg) hs (by omega) (by omega) s40 k20 k17 ?_
          intro V b1' b2' b3' b4' b5' b6' b7'
          refine hQ V ⟨⟨by rw [b2' 0 (by decide) (by decide) (by decide)]; exact s0, by rw [b2' 2 (by decide) (by decide) (by decide)]; exact s2, b4', by rw [b3', w0], b5', by rw [b2' 11 (by decide) (by decide) (by decide)]; exact s11, by rw [b2' 12 (by decide) (by decide) (by decide)]; exact s12, by rw [b2' 13 (by decide) (by decide) (by decide)]; exact s13⟩, b7', fun i hi => by rw [b1' 18 (by decide) (by decide) (by decide)]; exact k18 i hi, fun i hi => ?_, fun j hj => absurd hj (Nat.not_lt_zero _), by rw [b2' 1 (by decide) (by decide) (by decide)]; exact k1, ⟨fun e x y => by rw [b1' e (by omega) (by omega) (by omega)]; exact fr.1 e x y, fun j x y e => by rw [b1' 14 (by decide) (by decide) (by decide)]; exact fr.2 j x y e⟩, by rw [b1' 14 (by decide) (by decide) (by decide)]; exact k5⟩
          rw [b6', on3, Nat.add_sub_cancel]
          by_cases e : i = m
          · rw [e, vs_a, va_s]
          · rw [vs_n _ _ e, va_n _ _ e]; exact k19 i (by omega)
        · intro T0 T Q gb wo f hC hR hQ
          have h2 := hh T (by omega) (by omega) hR
          exact rGo_1 d0 (r_eol hC hW h2.1 (by rw [h2.2, n32]; rfl) f w0 (fun L gb' a _ b e => by
            have := hQ L gb' wo a b e
            unfold rGo at this
            rw [if_pos rfl] at this
            exact this))
      have nb : ¬ (t = 5 ∨ t = 6) ∧ ¬ (19 ≤ t ∧ t ≤ 23) ∧ ¬ (24 ≤ t ∧ t ≤ 29 ∧ ¬ bt cm o = true) := ⟨fun h => bin (Or.inr (Or.inr h)), fun h => bin (Or.inl h), fun h => bin (Or.inr (Or.inl h))⟩
      exact FLT 1 (Or.inl rfl) (fun L hs h14 Q' hQ => c_bad hs t100 nb.1 nb.2.1 nb.2.2 clo eol (hQ _ (flt_1 L))) (fun T0 T Q gb wo hC fr hR hQ => rGo_1 d0 (r_sf hC hW fr hR 1 (Or.inl ⟨rfl, nb.1, nb.2.1, nb.2.2, clo, eol⟩) hQ))
end O2
end
section
/-! orders: the books are written; orders agrees. -/
theorem rL_k {f e b b' : Nat} {c gb : Nat → Nat} {r95 r96 r95' r96' : Nat → Int32} (h : rL b f e c gb r95 r96) (h5 : ∀ i v, f ≤ i → i < e → r95 (b + gb i) = zI (b + v) → r95' (b' + gb i) = zI (b' + v)) (h6 : ∀ i v, f ≤ i → i < e → r96 (b + gb i) = zI (b + v) → r96' (b' + gb i) = zI (b' + v)) : rL b' f e c gb r95' r96' := by
  intro k hk
  obtain ⟨h1, h2⟩ := h k hk
  exact ⟨fun a => h5 _ _ (by omega) hk (h1 a), fun a => ⟨h6 _ _ (by omega) hk (h2 a).1, h5 _ _ (by omega) hk (h2 a).2⟩⟩
/-- other states' books stay -/
theorem bkS_c {s : Nat} (hs : s < 6) {r22 r23 r24 r25 q94 q95 q96 q97 q98 q99 q100 q101 q102 r22' r23' r24' r25' q94' q95' q96' q97' q98' q99' q100' q101' q102' : Nat → Int32} (h : bkS s r22 r23 r24 r25 q94 q95 q96 q97 q98 q99 q100 q101 q102)
    (e22 : r22' s = r22 s) (e102 : q102' s = q102 s) (e23 : ∀ j, j < 64 → r23' (64 * s + j) = r23 (64 * s + j)) (e24 : ∀ j, j < 16 → r24' (16 * s + j) = r24 (16 * s + j)) (e25 : ∀ j, j < 16 → r25' (16 * s + j) = r25 (16 * s + j))
    (e94 : ∀ j, j < 64 → q94' (64 * s + j) = q94 (64 * s + j)) (e95 : ∀ j, j < 64 → q95' (64 * s + j) = q95 (64 * s + j)) (e96 : ∀ j, j < 64 → q96' (64 * s + j) = q96 (64 * s + j)) (e97 : ∀ j, j < 64 → q97' (64 * s + j) = q97 (64 * s + j)) (e98 : ∀ j, j < 64 → q98' (64 * s + j) = q98 (64 * s + j))
    (e99 : ∀ j, j < 16 → q99' (16 * s + j) = q99 (16 * s + j)) (e100 : ∀ j, j < 16 → q100' (16 * s + j) = q100 (16 * s + j)) (e101 : ∀ j, j < 16 → q101' (16 * s + j) = q101 (16 * s + j)) : bkS s r22' r23' r24' r25' q94' q95' q96' q97' q98' q99' q100' q101' q102' := by
  obtain ⟨m, c, gb, vb, le, h1, h2, h3, ⟨T, hc, hi⟩, hl⟩ := h
  refine ⟨m, c, gb, vb, le, by rw [e22]; exact h1, by rw [e102]; exact h2, h3, ⟨T, fun i hi => ?_, hi⟩, fun i hi => ?_⟩
  · obtain ⟨a1, a2, a3, a4, a5, a6⟩ := hc i hi
    exact ⟨by rw [e23 i (by omega)]; exact a1, a2, by rw [e98 i (by omega)]; exact a3, a4, by rw [e94 _ a4]; exact a5, by rw [e97 _ a4]; exact a6⟩
  · obtain ⟨a1, a2, a3, a4, a5, a6, a7, a8, a9, a10, a11⟩ := hl i hi
    refine ⟨by rw [e24 i (by omega)]; exact a1, by rw [e99 i (by omega)]; exact a2, a3, by rw [e25 i (by omega)]; exact a4, by rw [e100 i (by omega)]; exact a5, by rw [e101 i (by omega)]; exact a6, a7, a8, a9, a10, rL_k a11 (fun j v _ hj e => ?_) (fun j v _ hj e => ?_)⟩
    · rw [e95 _ (hc j (by omega)).2.2.2.1]; exact e
    · rw [e96 _ (hc j (by omega)).2.2.2.1]; exact e
theorem inv_o {c : Nat} {mo : Bool} {G : Nat × Nat} {I V : Nat → Nat → Int32} {J : Nat → Nat → Int64} (h : inv c mo G I J) (hd : ∀ d, ¬ d = 14 → d < 16 ∨ (20 < d ∧ d < 22) ∨ (25 < d ∧ d < 81) ∨ (81 < d ∧ d < 94) ∨ 106 < d → V d = I d) (h14 : V 14 0 = 0) (h81 : V 81 1 = 0) (hj : ∀ j, j = 3 ∨ j = 10 ∨ j = 15 ∨ j = 16 ∨ j = 46 ∨ j = 60 ∨ j = 81 → V 81 j = I 81 j) (hf : V 81 18 = V 16 0 ∧ V 81 19 = V 16 1)
    (hB' : ivB (V 22) (V 23) (V 24) (V 25) (V 94) (V 95) (V 96) (V 97) (V 98) (V 99) (V 100) (V 101) (V 102)) : inv (c + 1) mo G V J := by
  obtain ⟨n, m, t, p, q, r, ch, ln, hN, hE, hV, hY, hG, hK, hP, hS, hA, ⟨t1, t2, t3, t4⟩, hF, hB, hC, hD, hD2, hX, hZ⟩ := h
  refine ⟨n, m, t, p, q, r, ch, 0, ?_⟩
  simp (decide := true) only [hd, hj]
  exact ⟨hN, hE, hV, hY, hG, ivK_s hK, hP, hS, hA, ⟨h14, h81, by omega, t4⟩, hf, hB', hC, hD, hD2, hX, ivZ_s hZ⟩
section O3
variable {X : (Nat → Int32) × Nat} {mo : Bool} {G : Nat × Nat} {J : Nat → Nat → Int64} {Q : Option Value → sm_M → Prop}
/-- the class's copies -/
theorem c_c1 {s : Nat} (hs : s < 6) : ∀ f j, j + f = 64 → ∀ K, (∀ L, (∀ d, ¬ d = 23 → L d = K d) → (∀ i, i < 64 * s + j ∨ 64 * s + 64 ≤ i → L 23 i = K 23 i) → (∀ i, j ≤ i → i < 64 → L 23 (64 * s + i) = K 17 i) → sm_wp X 40 59 [some (.ref 21), some (.ref 16), some (.int (zI s)), some (.int 0)] [] (sM mo G L J) Q) → sm_wp X 40 28 [some (.ref 21), some (.ref 16), some (.int (zI s)), some (.int (zI j))] [] (sM mo G K J) Q := by
  intro f
  induction f with
  | zero =>
    intro j hj K hQ
    rw [lp_40_28, if_pos (by rw [zIl_le (c := 64) (by decide) (by omega)]; show 64 ≤ j; omega)]
    exact hQ K (fun _ _ => rfl) (fun _ _ => rfl) (fun i a b => by omega)
  | succ f ih =>
    intro j hj K hQ
    rw [lp_40_28, if_neg (by rw [zIl_le (c := 64) (by decide) (by omega)]; show ¬ 64 ≤ j; omega), show zI s * (64 : Int32) = zI (s * 64) from zIr_mul 64 s, zI_add, zI_vp (by omega), zI_vp (by omega), zI_cn (by omega), zI_cn (by omega), show zI j + 1 = zI (j + 1) from zIr_add 1 j]
    refine ⟨by omega, by omega, ih (j + 1) (by omega) _ (fun L l1 l2 l3 => ?_)⟩
    refine hQ L (fun d hd => by rw [l1 d hd, up2_rn _ _ _ _ _ hd]) (fun i hi => ?_) (fun i a b => ?_)
    · rw [l2 i (by omega), up2_ra, va_ap, if_neg (by omega)]
    · by_cases e : i = j
      · rw [e, l2 _ (by omega), up2_ra, va_ap, if_pos (by omega)]
      · rw [l3 i (by omega) b, up2_rn _ _ _ _ _ (by decide)]
theorem c_c2 {s : Nat} (hs : s < 6) : ∀ f j, j + f = 16 → ∀ K, (∀ L, (∀ d, ¬ d = 24 → ¬ d = 25 → L d = K d) → (∀ i, i < 16 * s + j ∨ 16 * s + 16 ≤ i → L 24 i = K 24 i ∧ L 25 i = K 25 i) → (∀ i, j ≤ i → i < 16 → L 24 (16 * s + i) = K 18 i ∧ L 25 (16 * s + i) = K 19 i) → Q none (sM mo G L J)) → sm_wp X 40 59 [some (.ref 21), some (.ref 16), some (.int (zI s)), some (.int (zI j))] [] (sM mo G K J) Q := by
  intro f
  induction f with
  | zero =>
    intro j hj K hQ
    rw [lp_40_59, if_pos (by rw [zIl_le (c := 16) (by decide) (by omega)]; show 16 ≤ j; omega)]
    exact hQ K (fun _ _ _ => rfl) (fun _ _ => ⟨rfl, rfl⟩) (fun i a b => by omega)
  | succ f ih =>
    intro j hj K hQ
    rw [lp_40_59, if_neg (by rw [zIl_le (c := 16) (by decide) (by omega)]; show ¬ 16 ≤ j; omega), show zI s * (16 : Int32) = zI (s * 16) from zIr_mul 16 s, zI_add, zI_vp (by omega), zI_vp (by omega), zI_cn (by omega), zI_cn (by omega), show zI j + 1 = zI (j + 1) from zIr_add 1 j]
    refine ⟨by omega, by omega, ih (j + 1) (by omega) _ (fun L l1 l2 l3 => ?_)⟩
    refine hQ L (fun d a b => by rw [l1 d a b, up2_rn _ _ _ _ _ b, up2_rn _ _ _ _ _ a]) (fun i hi => ?_) (fun i a b => ?_)
    · have := l2 i (by omega)
      have nn : ¬ i = s * 16 + j := by omega
      rw [this.1, this.2]
      simp (decide := true) only [up2_ra, up2_rn, va_ap, ne_eq, if_false, if_true, not_false_eq_true, nn, and_self]
    · by_cases e : i = j
      · have := l2 (16 * s + j) (by omega)
        rw [e, this.1, this.2, up2_ra, va_ap, if_pos (by omega), up2_rn _ _ _ _ _ (by decide), up2_ra, va_ap, if_pos (by omega)]
        exact ⟨rfl, rfl⟩
      · have := l3 i (by omega) b
        rw [this.1, this.2, up2_rn _ _ _ _ _ (by decide), up2_rn _ _ _ _ _ (by decide), up2_rn _ _ _ _ _ (by decide), up2_rn _ _ _ _ _ (by decide)]
        exact ⟨rfl, rfl⟩
/-- the reference's copies -/
theorem r_c1 {s kn : Nat} (hs : s < 6) (h64 : kn ≤ 64) : ∀ f j, j + f = kn → ∀ K, K 81 34 = zI kn → (∀ L, (∀ d, d < 94 ∨ 98 < d → L d = K d) → (∀ d i, 94 ≤ d → d ≤ 98 → i < 64 * s + j ∨ 64 * s + kn ≤ i → L d i = K d i) → (∀ i, j ≤ i → i < kn → L 94 (64 * s + i) = K 94 (384 + i) ∧ L 97 (64 * s + i) = K 97 (384 + i) ∧ L 95 (64 * s + i) = K 95 (384 + i) - zI (384 - 64 * s) ∧ L 96 (64 * s + i) = K 96 (384 + i) - zI (384 - 64 * s) ∧ L 98 (64 * s + i) = K 98 (384 + i) - zI (384 - 64 * s)) → sm_wp X 225 228 [some (.ref 81), none, some (.int (zI s)), none, some (.int 0)] [] (sM mo G (up2 L 102 s (L 102 6)) J) Q) → sm_wp X 225 106 [some (.ref 81), none, some (.int (zI s)), some (.int (zI (384 - 64 * s))), some (.int (zI (64 * s + j)))] [] (sM mo G K J) Q := by
  intro f
  induction f with
  | zero =>
    intro j hj K k34 hQ
    rw [lp_225_106, k34, show (64 : Int32) * zI s = zI (64 * s) from zIl_mul 64 s, zI_add, if_pos (by rw [zI_le (by omega) (by omega)]; omega), zI_vp (by omega), zI_cn (by omega), show (6 : Int32).toNatClampNeg = 6 from rfl]
    exact ⟨v67, by omega, hQ K (fun _ _ => rfl) (fun _ _ _ _ _ => rfl) (fun i a b => by omega)⟩
  | succ f ih =>
    intro j hj K k34 hQ
    rw [lp_225_106, k34, show (64 : Int32) * zI s = zI (64 * s) from zIl_mul 64 s, zI_add, if_neg (by rw [zI_le (by omega) (by omega)]; omega), zI_add, zI_vp (by omega), zI_vp (by omega), zI_cn (by omega), zI_cn (by omega), show zI (64 * s + j) + 1 = zI (64 * s + (j + 1)) from zIr_add 1 _, show 64 * s + j + (384 - 64 * s) = 384 + j from by omega]
    refine ⟨by omega, by omega, ih (j + 1) (by omega) _ (by simp (decide := true) only [up2_ra, up2_rn, va_ap, ne_eq, if_false, if_true, not_false_eq_true]; exact k34) (fun L l1 l2 l3 => ?_)⟩
    refine hQ L (fun d hd => by rw [l1 d hd]; simp only [up2_rn, ne_eq, show ¬ d = 94 from by omega, show ¬ d = 95 from by omega, show ¬ d = 96 from by omega, show ¬ d = 97 from by omega, show ¬ d = 98 from by omega, not_false_eq_true]) (fun d i a b hi => ?_) (fun i a b => ?_)
    · rw [l2 d i a b (by omega)]
      have ne : ∀ (U : Nat → Nat → Int32) (e : Nat) (v : Int32), up2 U e (64 * s + j) v d i = U d i := fun U e v => by
        rw [up2_ap]
        split
        · rw [if_neg (by omega)]
        · rfl
      rw [ne, ne, ne, ne, ne]
    · by_cases e : i = j
      · subst e
        rw [l2 94 _ (by decide) (by decide) (by omega), l2 95 _ (by decide) (by decide) (by omega), l2 96 _ (by decide) (by decide) (by omega), l2 97 _ (by decide) (by decide) (by omega), l2 98 _ (by decide) (by decide) (by omega)]
        simp (decide := true) only [up2_ra, up2_rn, va_ap, ne_eq, if_false, if_true, not_false_eq_true, and_self]
      · have := l3 i (by omega) b
        have n1 : ¬ 384 + i = 64 * s + j := by omega
        rw [this.1, this.2.1, this.2.2.1, this.2.2.2.1, this.2.2.2.2]
        simp (decide := true) only [up2_ra, up2_rn, va_ap, ne_eq, if_false, if_true, not_false_eq_true, n1, and_self]
theorem r_c2 {s m : Nat} (hs : s < 6) (h16 : m ≤ 16) : ∀ f j, j + f = m → ∀ K, K 102 s = zI m → (∀ L, (∀ d, d < 99 ∨ 101 < d → L d = K d) → (∀ d i, 99 ≤ d → d ≤ 101 → i < 16 * s + j ∨ 16 * s + m ≤ i → L d i = K d i) → (∀ d i, 99 ≤ d → d ≤ 101 → j ≤ i → i < m → L d (16 * s + i) = K d (96 + i)) → Q (some (.int (zI m))) (sM mo G L J)) → sm_wp X 225 228 [some (.ref 81), none, some (.int (zI s)), none, some (.int (zI j))] [] (sM mo G K J) Q := by
  intro f
  induction f with
  | zero =>
    intro j hj K k102 hQ
    rw [lp_225_228, zI_vp (by omega), zI_cn (by omega), k102, if_pos (by rw [zI_le (by omega) (by omega)]; omega)]
    exact ⟨by omega, hQ K (fun _ _ => rfl) (fun _ _ _ _ _ => rfl) (fun d i a b e f => by omega)⟩
  | succ f ih =>
    intro j hj K k102 hQ
    rw [lp_225_228, zI_vp (by omega), zI_cn (by omega), k102, if_neg (by rw [zI_le (by omega) (by omega)]; omega), show (16 : Int32) * zI s = zI (16 * s) from zIl_mul 16 s, zI_add, show (96 : Int32) + zI j = zI (96 + j) from zIl_add 96 j, zI_vp (by omega), zI_vp (by omega), zI_cn (by omega), zI_cn (by omega), show zI j + 1 = zI (j + 1) from zIr_add 1 j]
    refine ⟨by omega, by omega, by omega, ih (j + 1) (by omega) _ (by simp (decide := true) only [up2_ra, up2_rn, va_ap, ne_eq, if_false, if_true, not_false_eq_true]; exact k102) (fun L l1 l2 l3 => ?_)⟩
    have ne : ∀ (U : Nat → Nat → Int32) (d e i : Nat) (v : Int32), ¬ i = 16 * s + j → up2 U e (16 * s + j) v d i = U d i := fun U d e i v h => by
      rw [up2_ap]
      by_cases hh : d = e
      · rw [if_pos hh, if_neg h]
      · rw [if_neg hh]
    refine hQ L (fun d hd => by rw [l1 d hd]; simp only [up2_rn, ne_eq, show ¬ d = 99 from by omega, show ¬ d = 100 from by omega, show ¬ d = 101 from by omega, not_false_eq_true]) (fun d i a b hi => ?_) (fun d i a b p q => ?_)
    · rw [l2 d i a b (by omega), ne _ _ _ _ _ (by omega), ne _ _ _ _ _ (by omega), ne _ _ _ _ _ (by omega)]
    · by_cases e : i = j
      · subst e
        rw [l2 d _ a b (by omega)]
        have hd : d = 99 ∨ d = 100 ∨ d = 101 := by omega
        rcases hd with rfl | rfl | rfl
        · simp (decide := true) only [up2_ra, up2_rn, va_ap, ne_eq, if_false, if_true, not_false_eq_true]
        · simp (decide := true) only [up2_ra, up2_rn, va_ap, ne_eq, if_false, if_true, not_false_eq_true]
        · simp (decide := true) only [up2_ra, up2_rn, va_ap, ne_eq, if_false, if_true, not_false_eq_true]
      · rw [l3 d i a b (by omega) q, ne _ _ _ _ _ (by omega), ne _ _ _ _ _ (by omega), ne _ _ _ _ _ (by omega)]
end O3
end
section
/-! orders agrees. -/
section O4
variable {X : (Nat → Int32) × Nat} {c : Nat} {mo : Bool} {G : Nat × Nat} {I : Nat → Nat → Int32} {J : Nat → Nat → Int64}
/-- the reference's memory as it begins to read -/
def rM0 (L : Nat → Nat → Int32) (x : Int32) : Nat → Nat → Int32 := up2 (up2 (up2 (up2 (up2 (up2 (up2 (up2 (up2 L 81 2 0) 81 20 x) 81 1 0) 81 18 0) 81 19 (-1)) 81 21 0) 102 6 0) 81 34 0) 81 35 0
theorem frR_r (T : Nat → Nat → Int32) : frR T T := ⟨fun _ _ _ => rfl, fun _ _ => rfl, fun _ _ _ _ _ => rfl, fun _ _ _ _ _ => rfl, fun _ _ => rfl⟩
theorem pW_0 (c sg vb le : Nat → Nat) : pW 0 0 0 0 0 0 c sg vb le := by
  have e : ls le 0 = 0 := rfl
  have e0 : on 0 = 0 := rfl
  refine ⟨⟨by rw [e0]; omega, rfl, by omega, rfl, by omega, by omega⟩, ⟨fun _ h => absurd h (Nat.not_lt_zero _), fun _ h => absurd h (Nat.not_lt_zero _), fun _ h => absurd h (by rw [e0]; omega)⟩, fun _ h => absurd h (Nat.not_lt_zero _), by rw [e]; omega, fun _ => ⟨rfl, e.symm⟩, fun h => absurd rfl h⟩
theorem rS0 {B : Nat → Nat} {nn s m ln : Nat} {b : Bool} {S : (Nat → Nat → Int32) → (Nat → Nat → Int32) → Prop} {co sg vb le : Nat → Nat} (hn : nn ≤ 400) (hnl : nn ≤ ln) (hl : ln ≤ 400) (hm : m ≤ 6) (hs : s < m) (hr : rWP X mo G J (zI s) B nn (plc B nn 0) 0 0 (fun gb wo T => CT 0 0 0 0 0 0 0 co sg vb le gb wo T) b S)
    {L : Nat → Nat → Int32} (h82 : tpM B (L 82)) (h93 : ivX (L 93)) (h1 : L 81 1 = zI ln) (h10 : L 81 10 = zI m) (Q : Option Value → sm_M → Prop) (hQ : ∀ V, S (rM0 L (zI nn)) V → rFi X mo G J (zI s) b V Q) : sm_wp X 225 0 [some (.ref 81), some (.int (zI nn)), some (.int (zI s)), none, none] [] (sM mo G L J) Q := by
  rw [lp_225_0, if_neg (by rw [zIr_lt (c := 0) (by decide) (by omega)]; exact Nat.not_lt_zero _), if_neg (by rw [h1, zI_lt (by omega) (by omega)]; omega), if_pos (by rw [mS0 h10 hm, zI_sIn (by omega) (by omega)]; exact hs), show (6 : Int32).toNatClampNeg = 6 from rfl]
  refine ⟨v67, ?_⟩
  show sm_wp X 226 0 [some (.ref 81), none] [] (sM mo G (rM0 L (zI nn)) J) _
  have e82 : rM0 L (zI nn) 82 = L 82 := by unfold rM0; simp (decide := true) only [up2_rn, ne_eq, not_false_eq_true]
  have e93 : rM0 L (zI nn) 93 = L 93 := by unfold rM0; simp (decide := true) only [up2_rn, ne_eq, not_false_eq_true]
  have e20 : rM0 L (zI nn) 81 20 = zI nn := by unfold rM0; simp (decide := true) only [up2_ra, up2_rn, va_ap, ne_eq, if_false, if_true, not_false_eq_true]
  have e21 : rM0 L (zI nn) 81 21 = zI 0 := by unfold rM0; simp (decide := true) only [up2_ra, up2_rn, va_ap, ne_eq, if_false, if_true, not_false_eq_true]
  refine r_tk (B := B) (n := nn) (p := 0) (T0 := rM0 L (zI nn)) (by rw [e82]; exact h82) (by rw [e93]; exact h93) e20 hn (frR_r _) e21 (by omega) ?_
  intro T hT
  simp only [tl_none]
  have ct0 : CT 0 0 0 0 0 0 0 co sg vb le (fun _ => 0) (fun _ => 0) (rM0 L (zI nn)) := by
    refine ⟨⟨?_, ?_, fun e => absurd rfl e⟩, ⟨fun _ h => absurd h (Nat.not_lt_zero _), fun _ h => absurd h (Nat.not_lt_zero _), ⟨fun _ _ h => absurd h (Nat.not_lt_zero _), fun _ _ h => absurd h (Nat.not_lt_zero _), fun _ _ h => absurd h (Nat.not_lt_zero _)⟩, fun _ h => absurd h (Nat.not_lt_zero _), Nat.le_refl _, fun k h => ?_⟩, fun e => absurd rfl e, fun i h => ?_, fun _ h => absurd h (Nat.not_lt_zero _), ?_⟩
    · unfold rM0; simp (decide := true) only [up2_ra, up2_rn, va_ap, ne_eq, if_false, if_true, not_false_eq_true]
    · unfold rM0; simp (decide := true) only [up2_ra, up2_rn, va_ap, ne_eq, if_false, if_true, not_false_eq_true]
    · have e : ls le 0 = 0 := rfl
      rw [e] at h
      omega
    · have e0 : on 0 = 0 := rfl
      rw [e0] at h
      omega
    · unfold rM0; simp (decide := true) only [up2_ra, up2_rn, va_ap, ne_eq, if_false, if_true, not_false_eq_true]
  have := hr (rM0 L (zI nn)) T Q (fun _ => 0) (fun _ => 0) ⟨by rw [e82]; exact h82, by rw [e93]; exact h93, e20⟩ (CT_tk ct0 hT) (fr_tk (frR_r _) hT) (tkM_F hT) hQ
  unfold rGo at this
  rw [if_pos rfl] at this
  exact this
theorem op_orders (h : inv c mo G I J) (x y : Int32) : Agr X 168 [some (.ref 0), some (.int x), some (.int y)] 225 [some (.ref 81), some (.int x), some (.int y), none, none] (sM mo G I J) (Inv (c + 1)) := by
  have hv := inv_t 0 h
  have h0 := h
  obtain ⟨n, m, t, p, q, r, ch, ln, hN, hE, hV, hY, hG, hK, hP, hS, hA, ⟨t1, t2, t3, t4⟩, hF, hB, hC, hD, hD2, hX, hZ⟩ := h
  obtain ⟨-, -, -, n1, n2, n6, -⟩ := hN
  unfold Agr
  by_cases neg : x < 0
  · rw [lp_168_0, if_pos neg, lp_225_0, if_pos neg]
    exact ⟨rfl, hv⟩
  by_cases big : zI ln < x
  · rw [lp_168_0, if_neg neg, if_pos (by rw [t1]; exact big), lp_225_0, if_neg neg, if_pos (by rw [t2]; exact big)]
    exact ⟨rfl, hv⟩
  have st := Classical.em (sIn y m)
  rcases st with st | st
  case inr =>
    rw [lp_168_0, if_neg neg, if_neg (by rw [t1]; exact big), if_neg (by rw [hState_vp n1 n6]; exact st), lp_225_0, if_neg neg, if_neg (by rw [t2]; exact big), if_neg (by rw [mS0 n2 n6]; exact st)]
    exact ⟨rfl, hv⟩
  obtain ⟨nn, hn31, rfl⟩ := zI_of neg
  obtain ⟨s, hsm, hs31, rfl⟩ := sIn_ex st
  rw [zI_lt (by omega) (by omega)] at big
  have e4 : (if (0 : Int32) < (if zI ln < zI nn then zI ln else zI nn) then (if zI ln < zI nn then zI ln else zI nn) else 0) = zI nn := by
    have inn : (if zI ln < zI nn then zI ln else zI nn) = zI nn := if_neg (by rw [zI_lt (by omega) (by omega)]; exact big)
    rw [inn]
    by_cases z : nn = 0
    · rw [z]; rfl
    · rw [if_pos (by rw [zIl_lt (c := 0) (by decide) (by omega)]; show 0 < nn; omega)]
  rw [lp_168_0, if_neg neg, if_neg (by rw [t1, zI_lt (by omega) (by omega)]; exact big), if_pos (by rw [hState_vp n1 n6]; exact st), lp_47_0, t1, e4]
  generalize hK0 : up2 (up2 (up2 (up2 (up2 (up2 (up2 (up2 (up2 (up2 (up2 (up2 I 16 0 0) 16 1 (-1)) 16 2 0) 16 3 0) 16 9 0) 16 10 0) 16 11 0) 16 12 0) 16 13 0) 14 4 (zI nn)) 14 5 0) 14 0 0 = K0
  have k0 : ∀ d, ¬ d = 14 → ¬ d = 16 → K0 d = I d := fun d a b => by rw [← hK0]; simp only [up2_rn, ne_eq, a, b, not_false_eq_true]
  have k14 : K0 14 0 = 0 := by rw [← hK0]; simp (decide := true) only [up2_ra, up2_rn, va_ap, ne_eq, if_false, if_true, not_false_eq_true]
  have k144 : K0 14 4 = zI nn := by rw [← hK0]; simp (decide := true) only [up2_ra, up2_rn, va_ap, ne_eq, if_false, if_true, not_false_eq_true]
  have k145 : K0 14 5 = zI 0 := by rw [← hK0]; simp (decide := true) only [up2_ra, up2_rn, va_ap, ne_eq, if_false, if_true, not_false_eq_true]
  have k161 : K0 16 1 = -1 := by rw [← hK0]; simp (decide := true) only [up2_ra, up2_rn, va_ap, ne_eq, if_false, if_true, not_false_eq_true]
  have ksc : scE (K0 16) 0 0 0 0 0 0 0 := by rw [← hK0]; simp (decide := true) only [scE, up2_ra, up2_rn, va_ap, ne_eq, if_false, if_true, not_false_eq_true]
  have hB82 : tpM (fun j => (I 82 j).toNatClampNeg) (I 82) := fun j => by
    obtain ⟨⟨w, hw, e⟩, -⟩ := t4 j
    have e1 : (I 82 j).toNatClampNeg = w := by rw [e]; exact zI_cn (by omega)
    exact ⟨show (I 82 j).toNatClampNeg < 256 by rw [e1]; exact hw, show I 82 j = zI (I 82 j).toNatClampNeg by rw [e1]; exact e⟩
  have hB15 : tpC (fun j => (I 82 j).toNatClampNeg) (I 15) := fun j => ⟨(hB82 j).1, by rw [← (hB82 j).2]; exact (t4 j).2⟩
  generalize (fun j => (I 82 j).toNatClampNeg) = B at hB82 hB15
  obtain ⟨b, F, S, hok, hc, hr⟩ := ord_m (X := X) (mo := mo) (G := G) (J := J) (x2 := zI s) (B := B) (n := nn) (by omega) (I0 := K0) (by rw [k0 15 (by decide) (by decide)]; exact hB15) k144 nn 0 0 0 0 0 0 0 0 0 (fun _ => 0) (fun _ => 0) (fun _ => 0) (fun _ => 0) (by omega) (by omega) (by omega) (pW_0 _ _ _ _)
  refine hc K0 _ ⟨ksc, fun _ h => absurd h (Nat.not_lt_zero _), fun i h => ?_, fun _ h => absurd h (Nat.not_lt_zero _), fun _ h => absurd h (Nat.not_lt_zero _), k161, ⟨fun _ _ _ => rfl, fun _ _ _ _ => rfl⟩, k145⟩ ?_
  · have e0 : on 0 = 0 := rfl
    rw [e0] at h
    omega
  intro L hL
  simp only [tl_none]
  have hsi : s < 6 := by omega
  rcases hok with ⟨rfl, fa, pl, hfa, rfl, rfl⟩ | ⟨rfl, m', z', kn', cm', co, sg, vb, le, hW, rfl, rfl⟩
  · obtain ⟨⟨fr1, fr2⟩, l0, l1⟩ := hL
    have lI : ∀ d, ¬ d = 14 → d < 16 ∨ 20 < d → L d = I d := fun d a e => by rw [fr1 d a e]; exact k0 d a (by omega)
    rw [lp_168_37, if_neg (by rw [l0]; rcases hfa with rfl | rfl <;> decide)]
    refine rS0 (B := B) (ln := ln) (m := m) (b := false) (by omega) (by omega) t3 n6 hsm hr (by rw [lI 82 (by decide) (by decide)]; exact hB82) (by rw [lI 93 (by decide) (by decide)]; exact hX) (by rw [lI 81 (by decide) (by decide)]; exact t2) (by rw [lI 81 (by decide) (by decide)]; exact n2) _ ?_
    rintro V ⟨V0, fV, rfl⟩
    unfold rFi
    rw [if_neg (by decide)]
    refine ⟨rfl, mo, G, _, J, rfl, inv_o h0 ?_ ?_ ?_ ?_ ?_ ?_⟩
    · intro d a e
      rw [up2_rn _ _ _ _ _ (by omega), up2_rn _ _ _ _ _ (by omega), fV.1 d (by omega) (by omega)]
      unfold rM0
      simp only [up2_rn, ne_eq, show ¬ d = 81 from by omega, show ¬ d = 102 from by omega, not_false_eq_true]
      exact lI d a (by omega)
    · simp (decide := true) only [up2_ra, up2_rn, va_ap, ne_eq, if_false, if_true, not_false_eq_true]
      rw [fV.1 14 (by decide) (by decide)]
      unfold rM0
      simp (decide := true) only [up2_ra, up2_rn, va_ap, ne_eq, if_false, if_true, not_false_eq_true]
      rw [fr2 0 (by decide) (by decide) (by decide)]
      exact k14
    · simp (decide := true) only [up2_ra, up2_rn, va_ap, ne_eq, if_false, if_true, not_false_eq_true]
      rw [fV.2.1 1 (by decide)]
      unfold rM0
      simp (decide := true) only [up2_ra, up2_rn, va_ap, ne_eq, if_false, if_true, not_false_eq_true]
    · intro j hj
      simp (decide := true) only [up2_ra, up2_rn, va_ap, ne_eq, if_false, if_true, not_false_eq_true, show ¬ j = 18 from by omega, show ¬ j = 19 from by omega]
      rw [fV.2.1 j (by omega)]
      unfold rM0
      simp (decide := true) only [up2_ra, up2_rn, va_ap, ne_eq, if_false, if_true, not_false_eq_true, show ¬ j = 2 from by omega, show ¬ j = 20 from by omega, show ¬ j = 1 from by omega, show ¬ j = 18 from by omega, show ¬ j = 19 from by omega, show ¬ j = 21 from by omega, show ¬ j = 34 from by omega, show ¬ j = 35 from by omega]
      rw [lI 81 (by decide) (by decide)]
    · simp (decide := true) only [up2_ra, up2_rn, va_ap, ne_eq, if_false, if_true, not_false_eq_true]
      rw [fV.1 16 (by decide) (by decide)]
      unfold rM0
      simp (decide := true) only [up2_ra, up2_rn, va_ap, ne_eq, if_false, if_true, not_false_eq_true]
      exact ⟨l0.symm, l1.symm⟩
    · intro s' hs'
      have b0 := hB s' hs'
      have rr : ∀ d, d < 81 → ¬ d = 14 → d < 16 ∨ 20 < d → up2 (up2 V0 81 18 (zI fa)) 81 19 (zI pl) d = I d := fun d a e g => by
        rw [up2_rn _ _ _ _ _ (by omega), up2_rn _ _ _ _ _ (by omega), fV.1 d (by omega) (by omega)]
        unfold rM0
        simp only [up2_rn, ne_eq, show ¬ d = 81 from by omega, show ¬ d = 102 from by omega, not_false_eq_true]
        exact lI d e g
      have r9 : ∀ d j, 94 ≤ d → d ≤ 98 → j < 384 → up2 (up2 V0 81 18 (zI fa)) 81 19 (zI pl) d j = I d j := fun d j a e g => by
        rw [up2_rn _ _ _ _ _ (by omega), up2_rn _ _ _ _ _ (by omega), fV.2.2.1 d a e j g]
        unfold rM0
        simp only [up2_rn, ne_eq, show ¬ d = 81 from by omega, show ¬ d = 102 from by omega, not_false_eq_true]
        rw [lI d (by omega) (by omega)]
      have r10 : ∀ d j, 99 ≤ d → d ≤ 101 → j < 96 → up2 (up2 V0 81 18 (zI fa)) 81 19 (zI pl) d j = I d j := fun d j a e g => by
        rw [up2_rn _ _ _ _ _ (by omega), up2_rn _ _ _ _ _ (by omega), fV.2.2.2.1 d a e j g]
        unfold rM0
        simp only [up2_rn, ne_eq, show ¬ d = 81 from by omega, show ¬ d = 102 from by omega, not_false_eq_true]
        rw [lI d (by omega) (by omega)]
      refine bkS_c hs' b0 (by rw [rr 22 (by decide) (by decide) (by decide)]) ?_ (fun j _ => by rw [rr 23 (by decide) (by decide) (by decide)]) (fun j _ => by rw [rr 24 (by decide) (by decide) (by decide)]) (fun j _ => by rw [rr 25 (by decide) (by decide) (by decide)]) (fun j hj => r9 94 _ (by decide) (by decide) (by omega)) (fun j hj => r9 95 _ (by decide) (by decide) (by omega)) (fun j hj => r9 96 _ (by decide) (by decide) (by omega)) (fun j hj => r9 97 _ (by decide) (by decide) (by omega)) (fun j hj => r9 98 _ (by decide) (by decide) (by omega)) (fun j hj => r10 99 _ (by decide) (by decide) (by omega)) (fun j hj => r10 100 _ (by decide) (by decide) (by omega)) (fun j hj => r10 101 _ (by decide) (by decide) (by omega))
      rw [up2_rn _ _ _ _ _ (by decide), up2_rn _ _ _ _ _ (by decide), fV.2.2.2.2 s' (by omega)]
      unfold rM0
      simp (decide := true) only [up2_ra, up2_rn, va_ap, ne_eq, if_false, if_true, not_false_eq_true, show ¬ s' = 6 from by omega]
      rw [lI 102 (by decide) (by decide)]
  · obtain ⟨⟨fr1, fr2⟩, l0, l1, l2, l17, l18, l19⟩ := hL
    have lI : ∀ d, ¬ d = 14 → d < 16 ∨ 20 < d → L d = I d := fun d a e => by rw [fr1 d a e]; exact k0 d a (by omega)
    obtain ⟨⟨w1, w2, w3, w4, w5, w6⟩, ⟨v1, v2, v3⟩, wl, wz, w0, wn⟩ := hW
    have zz : z' = ls le m' := (w0 rfl).2
    have kz : z' = kn' := w2
    have m16 : m' ≤ 16 := w1
    rw [lp_168_37, if_pos l0, lp_40_0, if_neg (by rw [zIr_lt (c := 0) (by decide) (by omega)]; exact Nat.not_lt_zero _), if_pos (by rw [zIr_lt (c := 6) (by decide) (by omega)]; exact hsi), zI_vp (by omega), zI_cn (by omega), l2, if_neg (by rw [zIl_lt (c := 16) (by decide) (by omega)]; show ¬ 16 < m'; omega)]
    refine ⟨hsi, c_c1 hsi 64 0 (by omega) _ ?_⟩
    intro L1 p1 p2 p3
    refine c_c2 hsi 16 0 (by omega) L1 ?_
    intro L2 q1 q2 q3
    simp only [tl_none]
    have x1 : ∀ d, ¬ d = 22 → ¬ d = 23 → ¬ d = 24 → ¬ d = 25 → L2 d = L d := fun d a b c e => by rw [q1 d c e, p1 d b, up2_rn _ _ _ _ _ a]
    have x22 : L2 22 = va_up (L 22) s (zI m') := by rw [q1 22 (by decide) (by decide), p1 22 (by decide), up2_ra]
    have x23 : ∀ i, i < 64 → L2 23 (64 * s + i) = L 17 i := fun i hi => by rw [q1 23 (by decide) (by decide), p3 i (Nat.zero_le _) hi, up2_rn _ _ _ _ _ (by decide)]
    have x23' : ∀ i, i < 64 * s ∨ 64 * s + 64 ≤ i → L2 23 i = L 23 i := fun i hi => by rw [q1 23 (by decide) (by decide), p2 i (by omega), up2_rn _ _ _ _ _ (by decide)]
    have x24 : ∀ i, i < 16 → L2 24 (16 * s + i) = L 18 i ∧ L2 25 (16 * s + i) = L 19 i := fun i hi => by
      have := q3 i (Nat.zero_le _) hi
      rw [this.1, this.2, p1 18 (by decide), p1 19 (by decide), up2_rn _ _ _ _ _ (by decide), up2_rn _ _ _ _ _ (by decide)]
      exact ⟨rfl, rfl⟩
    have x24' : ∀ i, i < 16 * s ∨ 16 * s + 16 ≤ i → L2 24 i = L 24 i ∧ L2 25 i = L 25 i := fun i hi => by
      have := q2 i (by omega)
      rw [this.1, this.2, p1 24 (by decide), p1 25 (by decide), up2_rn _ _ _ _ _ (by decide), up2_rn _ _ _ _ _ (by decide)]
      exact ⟨rfl, rfl⟩
    have lI2 : ∀ d, ¬ d = 14 → d < 16 ∨ (20 < d ∧ d < 22) ∨ 25 < d → L2 d = I d := fun d a e => by rw [x1 d (by omega) (by omega) (by omega) (by omega)]; exact lI d a (by omega)
    rw [lp_168_61, x1 16 (by decide) (by decide) (by decide) (by decide), l2]
    refine rS0 (B := B) (ln := ln) (m := m) (b := true) (by omega) (by omega) t3 n6 hsm hr (by rw [lI2 82 (by decide) (by decide)]; exact hB82) (by rw [lI2 93 (by decide) (by decide)]; exact hX) (by rw [lI2 81 (by decide) (by decide)]; exact t2) (by rw [lI2 81 (by decide) (by decide)]; exact n2) _ ?_
    rintro T2 ⟨fV, gb, wo, ⟨s1, s2, -⟩, ⟨hG', -, ⟨i1, -, -⟩, hL', -, -⟩, -, ⟨hV1, hV2, hV3⟩⟩
    unfold rFi
    rw [if_pos rfl, show (64 : Int32) * zI s = zI (64 * s + 0) from zIl_mul 64 s, show (384 : Int32) - zI (64 * s + 0) = zI (384 - 64 * s) from zIl_sub (c := 384) (by show 64 * s + 0 ≤ 384; omega)]
    refine r_c1 (kn := kn') hsi w3 kn' 0 (by omega) T2 s1 ?_
    intro L3 a1 a2 a3
    have e102 : L3 102 6 = zI m' := by rw [a1 102 (by decide)]; exact hV3
    rw [e102]
    refine r_c2 hsi m16 m' 0 (by omega) _ (by rw [up2_ra, va_ap, if_pos rfl]) ?_
    intro V b1 b2 b3
    have y1 : ∀ d, d < 81 ∨ (81 < d ∧ d < 94) ∨ 106 < d → V d = L2 d := fun d e => by
      rw [b1 d (by omega), up2_rn _ _ _ _ _ (by omega), a1 d (by omega), fV.1 d (by omega) (by omega)]
      unfold rM0
      simp only [up2_rn, ne_eq, show ¬ d = 81 from by omega, show ¬ d = 102 from by omega, not_false_eq_true]
    have y81 : V 81 = T2 81 := by rw [b1 81 (by decide), up2_rn _ _ _ _ _ (by decide), a1 81 (by decide)]
    have y9 : ∀ d j, 94 ≤ d → d ≤ 98 → V d j = L3 d j := fun d j a e => by rw [b1 d (by omega), up2_rn _ _ _ _ _ (by omega)]
    have y9' : ∀ d j, 94 ≤ d → d ≤ 98 → j < 64 * s ∨ 64 * s + 64 ≤ j → j < 384 → V d j = I d j := fun d j a e g k => by
      rw [y9 d j a e, a2 d j a e (by omega), fV.2.2.1 d a e j k]
      unfold rM0
      simp only [up2_rn, ne_eq, show ¬ d = 81 from by omega, show ¬ d = 102 from by omega, not_false_eq_true]
      rw [lI2 d (by omega) (by omega)]
    have y10' : ∀ d j, 99 ≤ d → d ≤ 101 → j < 16 * s ∨ 16 * s + 16 ≤ j → j < 96 → V d j = I d j := fun d j a e g k => by
      rw [b2 d j a e (by omega), up2_rn _ _ _ _ _ (by omega), a1 d (by omega), fV.2.2.2.1 d a e j k]
      unfold rM0
      simp only [up2_rn, ne_eq, show ¬ d = 81 from by omega, show ¬ d = 102 from by omega, not_false_eq_true]
      rw [lI2 d (by omega) (by omega)]
    have y10 : ∀ d i, 99 ≤ d → d ≤ 101 → i < m' → V d (16 * s + i) = T2 d (96 + i) := fun d i a e g => by
      rw [b3 d i a e (Nat.zero_le _) g, up2_rn _ _ _ _ _ (by omega), a1 d (by omega)]
    have y102 : V 102 = va_up (T2 102) s (zI m') := by rw [b1 102 (by decide), up2_ra, a1 102 (by decide)]
    refine ⟨rfl, mo, G, V, J, rfl, inv_o h0 ?_ ?_ ?_ ?_ ?_ ?_⟩
    · intro d a e
      rw [y1 d (by omega)]
      exact lI2 d a (by omega)
    · rw [y1 14 (by decide), x1 14 (by decide) (by decide) (by decide) (by decide), fr2 0 (by decide) (by decide) (by decide)]
      exact k14
    · rw [y81, fV.2.1 1 (by decide)]
      unfold rM0
      simp (decide := true) only [up2_ra, up2_rn, va_ap, ne_eq, if_false, if_true, not_false_eq_true]
    · intro j hj
      rw [y81, fV.2.1 j (by omega)]
      unfold rM0
      simp (decide := true) only [up2_ra, up2_rn, va_ap, ne_eq, if_false, if_true, not_false_eq_true, show ¬ j = 2 from by omega, show ¬ j = 20 from by omega, show ¬ j = 1 from by omega, show ¬ j = 18 from by omega, show ¬ j = 19 from by omega, show ¬ j = 21 from by omega, show ¬ j = 34 from by omega, show ¬ j = 35 from by omega]
      rw [lI2 81 (by decide) (by decide)]
    · rw [y81, fV.2.1 18 (by decide), fV.2.1 19 (by decide), y1 16 (by decide), x1 16 (by decide) (by decide) (by decide) (by decide), l0, l1]
      unfold rM0
      simp (decide := true) only [up2_ra, up2_rn, va_ap, ne_eq, if_false, if_true, not_false_eq_true, and_self]
    · intro s' hs'
      have b0 := hB s' hs'
      by_cases es : s' = s
      · subst es
        have e9 : ∀ i, i < kn' → V 94 (64 * s' + i) = T2 94 (384 + i) ∧ V 97 (64 * s' + i) = T2 97 (384 + i) ∧ V 95 (64 * s' + i) = T2 95 (384 + i) - zI (384 - 64 * s') ∧ V 96 (64 * s' + i) = T2 96 (384 + i) - zI (384 - 64 * s') ∧ V 98 (64 * s' + i) = T2 98 (384 + i) - zI (384 - 64 * s') := fun i hi => by
          rw [y9 94 _ (by decide) (by decide), y9 95 _ (by decide) (by decide), y9 96 _ (by decide) (by decide), y9 97 _ (by decide) (by decide), y9 98 _ (by decide) (by decide)]
          exact a3 i (Nat.zero_le _) hi
        have sh : ∀ v, zI (384 + v) - zI (384 - 64 * s') = zI (64 * s' + v) := fun v => by
          rw [zI_sub (by omega)]
          congr 1
          omega
        refine ⟨m', co, gb, vb, le, by rw [y1 22 (by decide), x22, vs_a], by rw [y102, vs_a], m16, ⟨by omega, fun i hi => ?_, fun i k hi hk => i1 i k (by omega) (by omega)⟩, fun i hi => ?_⟩
        · obtain ⟨g1, g2, g3, g4⟩ := hG' i (by omega)
          refine ⟨by rw [y1 23 (by decide), x23 i (by omega)]; exact l17 i (by omega), v2 i (by omega), by rw [(e9 i (by omega)).2.2.2.2, g1]; exact sh _, by omega, by rw [(e9 _ g2).1]; exact g3, by rw [(e9 _ g2).2.1]; exact g4⟩
        · obtain ⟨u1, u2, u3, u4⟩ := wl i hi
          have on0 : on 0 = 0 := rfl
          refine ⟨by rw [y1 24 (by decide), (x24 i (by omega)).1]; exact l18 i hi, by rw [y10 99 i (by decide) (by decide) hi]; exact (hV1 i hi).1, v3 i hi, by rw [y1 25 (by decide), (x24 i (by omega)).2]; exact l19 i hi, by rw [y10 100 i (by decide) (by decide) hi]; exact (hV1 i hi).2, by rw [y10 101 i (by decide) (by decide) hi]; exact hV2 i hi, u1, by rw [← zz]; exact u2, u3, u4, rL_k (hL' i hi).2 (fun j v _ hj e => ?_) (fun j v _ hj e => ?_)⟩
          · rw [(e9 _ (hG' j (by omega)).2.1).2.2.1, e]; exact sh v
          · rw [(e9 _ (hG' j (by omega)).2.1).2.2.2.1, e]; exact sh v
      · refine bkS_c hs' b0 (by rw [y1 22 (by decide), x22, vs_n _ _ es, lI 22 (by decide) (by decide)]) ?_ (fun j _ => by rw [y1 23 (by decide), x23' _ (by omega), lI 23 (by decide) (by decide)]) (fun j _ => by rw [y1 24 (by decide), (x24' _ (by omega)).1, lI 24 (by decide) (by decide)]) (fun j _ => by rw [y1 25 (by decide), (x24' _ (by omega)).2, lI 25 (by decide) (by decide)]) (fun j hj => y9' 94 _ (by decide) (by decide) (by omega) (by omega)) (fun j hj => y9' 95 _ (by decide) (by decide) (by omega) (by omega)) (fun j hj => y9' 96 _ (by decide) (by decide) (by omega) (by omega)) (fun j hj => y9' 97 _ (by decide) (by decide) (by omega) (by omega)) (fun j hj => y9' 98 _ (by decide) (by decide) (by omega) (by omega)) (fun j hj => y10' 99 _ (by decide) (by decide) (by omega) (by omega)) (fun j hj => y10' 100 _ (by decide) (by decide) (by omega) (by omega)) (fun j hj => y10' 101 _ (by decide) (by decide) (by omega) (by omega))
        rw [y102, vs_n _ _ es, fV.2.2.2.2 s' (by omega)]
        unfold rM0
        simp (decide := true) only [up2_ra, up2_rn, va_ap, ne_eq, if_false, if_true, not_false_eq_true, show ¬ s' = 6 from by omega]
        rw [lI2 102 (by decide) (by decide)]
end O4
end
section
/-! Values: what two values make, on both sides. -/
abbrev bnd (x : Int64) : Prop := -1000000000000 ≤ x.toInt ∧ x.toInt ≤ 1000000000000
def bnO (v : Int64) : Option Int64 := if bnd v then some v else none
def abv (x : Int64) : Int64 := if 0 < x then x else -x
def mul_n (l r : Int64) : Bool := decide (¬ l = 0) && decide (¬ abv r ≤ 1000000000000 / abv l)
/-- what a sign between two makes; none: no value -/
def bopv (c : Nat) (l r : Int64) : Option Int64 := if c = 19 then bnO (l + r) else if c = 20 then bnO (l - r) else if c = 21 then (if mul_n l r = true then none else some (l * r)) else if c = 22 then (if r = 0 then none else some (l / r)) else if c = 23 then (if r = 0 then none else some (l - l / r * r)) else some (if vf_Del_compares (zI c) l r then 1 else 0)
theorem t12 : (1000000000000 : Int64).toInt = 1000000000000 := by decide
theorem tm12 : (-1000000000000 : Int64).toInt = -1000000000000 := by decide
theorem tmin : (-9223372036854775808 : Int64).toInt = -9223372036854775808 := by decide
theorem t64_0 : (0 : Int64).toInt = 0 := by decide
theorem abv_b (x : Int64) : vf_Model_big x = abv x := by
  unfold vf_Model_big abv
  by_cases h : 0 ≤ lg_cmp x 0
  · rw [if_pos h]
    rw [lg_cmp_ge] at h
    by_cases g : 0 < x
    · rw [if_pos g]
    · rw [if_neg g]
      rw [Int64.le_iff_toInt_le] at h
      rw [Int64.lt_iff_toInt_lt] at g
      have e : x = 0 := Int64.toInt_inj.mp (by rw [t64_0] at *; omega)
      rw [e]; decide
  · rw [if_neg h]
    rw [lg_cmp_ge] at h
    by_cases g : 0 < x
    · rw [Int64.le_iff_toInt_le] at h
      rw [Int64.lt_iff_toInt_lt] at g
      omega
    · rw [if_neg g]
theorem neg_t {x : Int64} (h : bnd x) : (-x).toInt = -x.toInt := Jvm.Kit.i64_neg (by have := h.1; omega)
theorem abv_t {x : Int64} (h : bnd x) : (abv x).toInt = (x.toInt.natAbs : Int) := by
  unfold abv
  by_cases g : 0 < x
  · rw [if_pos g]
    rw [Int64.lt_iff_toInt_lt, t64_0] at g
    omega
  · rw [if_neg g, neg_t h]
    rw [Int64.lt_iff_toInt_lt, t64_0] at g
    omega
theorem i64_z {x : Int64} : x = 0 ↔ x.toInt = 0 := ⟨fun h => by rw [h]; exact t64_0, fun h => Int64.toInt_inj.mp (by rw [h, t64_0])⟩
theorem abv_0 {x : Int64} (h : bnd x) (hx : ¬ x = 0) : ¬ abv x = 0 := by
  rw [i64_z, abv_t h]
  rw [i64_z] at hx
  omega
theorem mul_l {l r : Int64} (hl : bnd l) (hr : bnd r) (h : ¬ mul_n l r = true) : bnd (l * r) := by
  by_cases z : l = 0
  · subst z
    rw [Int64.zero_mul]
    exact ⟨by rw [t64_0]; decide, by rw [t64_0]; decide⟩
  · have g : abv r ≤ 1000000000000 / abv l := by
      by_cases e : abv r ≤ 1000000000000 / abv l
      · exact e
      · exfalso
        apply h
        unfold mul_n
        rw [decide_eq_true z, decide_eq_true e]
        rfl
    have la := abv_t hl
    have ra := abv_t hr
    have l0 : 0 < l.toInt.natAbs := by
      rw [i64_z] at z
      omega
    rw [Int64.le_iff_toInt_le, lg_ldiv_nonneg (by rw [t12]; decide) (by rw [la]; omega), t12, la, ra] at g
    have g2 : r.toInt.natAbs ≤ 1000000000000 / l.toInt.natAbs := by
      have e : ((1000000000000 / l.toInt.natAbs : Nat) : Int) = 1000000000000 / (l.toInt.natAbs : Int) := by rw [Int.natCast_ediv]; rfl
      rw [← e] at g
      omega
    have g3 : r.toInt.natAbs * l.toInt.natAbs ≤ 1000000000000 := (Nat.le_div_iff_mul_le l0).mp g2
    have g4 : (l.toInt * r.toInt).natAbs ≤ 1000000000000 := by rw [Int.natAbs_mul, Nat.mul_comm]; exact g3
    have e : (l * r).toInt = l.toInt * r.toInt := Jvm.Kit.i64_mul (by omega) (by omega)
    unfold bnd
    rw [e]
    omega
theorem div_l {l r : Int64} (hl : bnd l) : bnd (l / r) := by
  have e : (l / r).toInt = l.toInt.tdiv r.toInt := Jvm.Kit.i64_div (by have := hl.1; omega)
  have g : (l.toInt.tdiv r.toInt).natAbs ≤ l.toInt.natAbs := by rw [Int.natAbs_tdiv]; exact Nat.div_le_self _ _
  unfold bnd
  rw [e]
  have := hl.1
  have := hl.2
  omega
theorem rem_l {l r : Int64} (hl : bnd l) : bnd (l - l / r * r) := by
  have e := Jvm.Kit.i64_rem l r
  have g : (l.toInt.tmod r.toInt).natAbs ≤ l.toInt.natAbs := by rw [Int.natAbs_tmod]; exact Nat.mod_le _ _
  unfold bnd
  rw [e]
  have := hl.1
  have := hl.2
  omega
theorem bnd_1 (p : Prop) [Decidable p] : bnd (if p then 1 else 0) := by
  have a : bnd 1 := by decide
  have b : bnd 0 := by decide
  split
  · exact a
  · exact b
theorem bop_b {c : Nat} {l r v : Int64} (hl : bnd l) (hr : bnd r) (h : bopv c l r = some v) : bnd v := by
  unfold bopv bnO at h
  have s : ∀ {a b : Int64}, some a = some b → a = b := fun e => Option.some.inj e
  by_cases c1 : c = 19
  · rw [if_pos c1] at h
    by_cases g : bnd (l + r)
    · rw [if_pos g] at h; rw [← s h]; exact g
    · rw [if_neg g] at h; cases h
  rw [if_neg c1] at h
  by_cases c2 : c = 20
  · rw [if_pos c2] at h
    by_cases g : bnd (l - r)
    · rw [if_pos g] at h; rw [← s h]; exact g
    · rw [if_neg g] at h; cases h
  rw [if_neg c2] at h
  by_cases c3 : c = 21
  · rw [if_pos c3] at h
    by_cases g : mul_n l r = true
    · rw [if_pos g] at h; cases h
    · rw [if_neg g] at h; rw [← s h]; exact mul_l hl hr g
  rw [if_neg c3] at h
  by_cases c4 : c = 22
  · rw [if_pos c4] at h
    by_cases g : r = 0
    · rw [if_pos g] at h; cases h
    · rw [if_neg g] at h; rw [← s h]; exact div_l hl
  rw [if_neg c4] at h
  by_cases c5 : c = 23
  · rw [if_pos c5] at h
    by_cases g : r = 0
    · rw [if_pos g] at h; cases h
    · rw [if_neg g] at h; rw [← s h]; exact rem_l hl
  rw [if_neg c5] at h
  rw [← s h]
  exact bnd_1 _
/-- the size is tested -/
theorem rng {α : Type} (v : Int64) (A B : α) : (if 0 < lg_cmp v 1000000000000 then A else if 0 ≤ lg_cmp v (-1000000000000) then B else A) = if bnd v then B else A := by
  by_cases g : bnd v
  · rw [if_pos g, if_neg (by rw [lg_cmp_gt, Int64.lt_iff_toInt_lt, t12]; have := g.2; omega), if_pos (by rw [lg_cmp_ge, Int64.le_iff_toInt_le, tm12]; exact g.1)]
  · rw [if_neg g]
    by_cases a : 0 < lg_cmp v 1000000000000
    · rw [if_pos a]
    · rw [if_neg a, if_neg]
      intro b
      rw [lg_cmp_gt, Int64.lt_iff_toInt_lt, t12] at a
      rw [lg_cmp_ge, Int64.le_iff_toInt_le, tm12] at b
      exact g ⟨b, by omega⟩
/-- the value or the mark of none -/
def orM (o : Option Int64) : Int64 := match o with
  | some v => v
  | none => -9223372036854775808
theorem nbM : ¬ bnd (-9223372036854775808) := by decide
theorem cpt {c : Nat} {l r : Int64} (hl : bnd l) (hr : bnd r) (h1 : 19 ≤ c) (h2 : c ≤ 23) : vc_Del_compute (zI c) l r ∧ (if bnd (vf_Del_compute (zI c) l r) then vf_Del_compute (zI c) l r else -9223372036854775808) = orM (bopv c l r) := by
  refine ⟨fun _ _ => ⟨fun _ a => ?_, fun _ => ⟨fun _ a b => a (by rw [lg_cmp_eq]; exact b), fun _ a b => a (by rw [lg_cmp_eq]; exact b)⟩⟩, ?_⟩
  · rw [lg_cmp_eq] at a
    exact abv_0 hl a
  · unfold vf_Del_compute bopv bnO
    have hc : c = 19 ∨ c = 20 ∨ c = 21 ∨ c = 22 ∨ c = 23 := by omega
    rcases hc with rfl | rfl | rfl | rfl | rfl
    · rw [if_pos (show zI 19 = 19 from rfl), if_pos rfl]
      split <;> rfl
    · rw [if_neg (show ¬ zI 20 = 19 by decide), if_pos (show zI 20 = 20 from rfl), if_neg (show ¬ 20 = 19 by decide), if_pos rfl]
      split <;> rfl
    · rw [if_neg (show ¬ zI 21 = 19 by decide), if_neg (show ¬ zI 21 = 20 by decide), if_pos (show zI 21 = 21 from rfl), if_neg (show ¬ 21 = 19 by decide), if_neg (show ¬ 21 = 20 by decide), if_pos rfl]
      by_cases z : lg_cmp l 0 = 0
      · rw [if_pos z]
        rw [lg_cmp_eq] at z
        have n : ¬ mul_n l r = true := by unfold mul_n; rw [decide_eq_false (fun e => e z), Bool.false_and]; exact Bool.false_ne_true
        rw [if_neg n, if_pos (mul_l hl hr n)]
        rfl
      · rw [if_neg z]
        rw [lg_cmp_eq] at z
        by_cases g : lg_cmp (if 0 < (r : Int64) then r else -r) (1000000000000 / (if 0 < (l : Int64) then l else -l)) ≤ 0
        · rw [if_pos g]
          rw [lg_cmp_le] at g
          have n : ¬ mul_n l r = true := by
            unfold mul_n
            have : decide (¬ abv r ≤ 1000000000000 / abv l) = false := decide_eq_false (fun e => e g)
            rw [this, Bool.and_false]
            decide
          rw [if_neg n, if_pos (mul_l hl hr n)]
          rfl
        · rw [if_neg g, if_neg nbM]
          rw [lg_cmp_le] at g
          have n : mul_n l r = true := by
            unfold mul_n
            have : decide (¬ abv r ≤ 1000000000000 / abv l) = true := decide_eq_true g
            rw [this, decide_eq_true z]
            rfl
          rw [if_pos n]
          rfl
    · rw [if_neg (show ¬ zI 22 = 19 by decide), if_neg (show ¬ zI 22 = 20 by decide), if_neg (show ¬ zI 22 = 21 by decide), if_pos (show zI 22 = 22 from rfl), if_neg (show ¬ 22 = 19 by decide), if_neg (show ¬ 22 = 20 by decide), if_neg (show ¬ 22 = 21 by decide), if_pos rfl]
      by_cases z : r = 0
      · have e : (if ¬ lg_cmp r 0 = 0 then (l / r : Int64) else -9223372036854775808) = -9223372036854775808 := if_neg (fun g => g ((lg_cmp_eq r 0).mpr z))
        rw [e, if_neg nbM, if_pos z]
        rfl
      · have e : (if ¬ lg_cmp r 0 = 0 then (l / r : Int64) else -9223372036854775808) = l / r := if_pos (fun g => z ((lg_cmp_eq r 0).mp g))
        rw [e, if_pos (div_l hl), if_neg z]
        rfl
    · rw [if_neg (show ¬ zI 23 = 19 by decide), if_neg (show ¬ zI 23 = 20 by decide), if_neg (show ¬ zI 23 = 21 by decide), if_neg (show ¬ zI 23 = 22 by decide), if_neg (show ¬ 23 = 19 by decide), if_neg (show ¬ 23 = 20 by decide), if_neg (show ¬ 23 = 21 by decide), if_neg (show ¬ 23 = 22 by decide), if_pos rfl]
      by_cases z : r = 0
      · have e : (if ¬ lg_cmp r 0 = 0 then (l - l / r * r : Int64) else -9223372036854775808) = -9223372036854775808 := if_neg (fun g => g ((lg_cmp_eq r 0).mpr z))
        rw [e, if_neg nbM, if_pos z]
        rfl
      · have e : (if ¬ lg_cmp r 0 = 0 then (l - l / r * r : Int64) else -9223372036854775808) = l - l / r * r := if_pos (fun g => z ((lg_cmp_eq r 0).mp g))
        rw [e, if_pos (rem_l hl), if_neg z]
        rfl
section V1
variable {X : (Nat → Int32) × Nat} {mo : Bool} {G : Nat × Nat} {I : Nat → Nat → Int32} {J : Nat → Nat → Int64} {Q : Option Value → sm_M → Prop}
/-- the class, two values at hand -/
theorem c_69 {c : Nat} {l r : Int64} (hc : c = 5 ∨ c = 6 ∨ (19 ≤ c ∧ c ≤ 29)) (hl : bnd l) (hr : bnd r) (hQ : Q (some (.long (orM (bopv c l r)))) (sM mo G I J)) : sm_wp X 27 69 [some (.ref 45), some (.int (zI c)), some (.long r), none, none, none, none, none] [.long l] (sM mo G I J) Q := by
  rw [lp_27_69]
  have cmpT : (¬ (19 ≤ c ∧ c ≤ 23)) → (if ¬ (vf_Del_compares (zI c) l r) then (if 0 < lg_cmp 0 1000000000000 then (Q (some (.long (-9223372036854775808))) (sM mo G I J)) else (if 0 ≤ lg_cmp 0 (-1000000000000) then (Q (some (.long 0)) (sM mo G I J)) else (Q (some (.long (-9223372036854775808))) (sM mo G I J)))) else (if 0 < lg_cmp 1 1000000000000 then (Q (some (.long (-9223372036854775808))) (sM mo G I J)) else (if 0 ≤ lg_cmp 1 (-1000000000000) then (Q (some (.long 1)) (sM mo G I J)) else (Q (some (.long (-9223372036854775808))) (sM mo G I J))))) := by
    intro hn
    rw [rng, rng, if_pos (show bnd 0 by decide), if_pos (show bnd 1 by decide)]
    unfold bopv at hQ
    rw [if_neg (by omega), if_neg (by omega), if_neg (by omega), if_neg (by omega), if_neg (by omega)] at hQ
    by_cases g : vf_Del_compares (zI c) l r
    · rw [if_pos g] at hQ
      rw [if_neg (fun e => e g)]
      exact hQ
    · rw [if_neg g] at hQ
      rw [if_pos g]
      exact hQ
  by_cases a : c < 19
  · rw [if_pos (by rw [zIr_lt (c := 19) (by decide) (by omega)]; exact a)]
    exact cmpT (by omega)
  · rw [if_neg (by rw [zIr_lt (c := 19) (by decide) (by omega)]; exact a)]
    by_cases b : 23 < c
    · rw [if_pos (by rw [zIl_lt (c := 23) (by decide) (by omega)]; exact b)]
      exact cmpT (by omega)
    · rw [if_neg (by rw [zIl_lt (c := 23) (by decide) (by omega)]; exact b), rng]
      obtain ⟨h1, h2⟩ := cpt hl hr (show 19 ≤ c by omega) (show c ≤ 23 by omega)
      refine ⟨h1, ?_⟩
      rw [← h2] at hQ
      split
      · rename_i g; rw [if_pos g] at hQ; exact hQ
      · rename_i g; rw [if_neg g] at hQ; exact hQ
/-- the reference, two values at hand -/
theorem r_261 {c : Nat} {l r : Int64} (hc : c = 5 ∨ c = 6 ∨ (19 ≤ c ∧ c ≤ 29)) (hl : bnd l) (hr : bnd r) (h63 : I 81 63 = 0)
    (hQ : ∀ L, (∀ d, ¬ d = 81 → L d = I d) → (∀ j, ¬ j = 63 → L 81 j = I 81 j) → (∀ v, bopv c l r = some v → L 81 63 = 0 → Q (some (.long v)) (sM mo G L J)) ∧ (bopv c l r = none → L 81 63 = 1 → Q (some (.long 0)) (sM mo G L J))) : sm_wp X 261 0 [some (.ref 81), some (.int (zI (kdc c))), some (.long l), none, some (.long r), none] [] (sM mo G I J) Q := by
  have q0 := hQ I (fun _ _ => rfl) (fun _ _ => rfl)
  have qb : ∀ z : Int32, (∀ v, bopv c l r = some v → z = 0 → Q (some (.long v)) (sM mo G (up2 I 81 63 z) J)) ∧ (bopv c l r = none → z = 1 → Q (some (.long 0)) (sM mo G (up2 I 81 63 z) J)) := fun z => by
    have := hQ (up2 I 81 63 z) (fun d hd => up2_rn _ _ _ _ _ hd) (fun j hj => by rw [up2_ra, va_ap, if_neg hj])
    rw [up2_ss] at this
    exact this
  have tr : vf_Model_truth 0 = 0 ∧ vf_Model_truth 1 = 1 := by decide
  rw [ct_Model_made, h63, tr.1, tr.2]
  have cmp : (¬ (19 ≤ c ∧ c ≤ 23)) → ∀ v : Int64, v = (if vf_Del_compares (zI c) l r then 1 else 0) → Q (some (.long v)) (sM mo G I J) := fun hn v hv => by
    refine q0.1 v ?_ h63
    unfold bopv
    rw [if_neg (by omega), if_neg (by omega), if_neg (by omega), if_neg (by omega), if_neg (by omega), hv]
  have bn : ∀ v : Int64, (lg_cmp (vf_Model_big v) 1000000000000 ≤ 0 ↔ bnd v) ∨ v.toInt = -9223372036854775808 := fun v => by
    by_cases e : v.toInt = -9223372036854775808
    · exact Or.inr e
    · left
      rw [lg_cmp_le, abv_b, Int64.le_iff_toInt_le, t12]
      unfold abv
      by_cases g : 0 < v
      · rw [if_pos g]
        rw [Int64.lt_iff_toInt_lt, t64_0] at g
        exact ⟨fun h => ⟨by omega, h⟩, fun h => h.2⟩
      · rw [if_neg g, Jvm.Kit.i64_neg e]
        rw [Int64.lt_iff_toInt_lt, t64_0] at g
        exact ⟨fun h => ⟨by omega, by omega⟩, fun h => by have := h.1; omega⟩
  have nn : ¬ ¬ (0 : Int32) = 0 := fun e => e rfl
  rcases hc with rfl | rfl | hc
  · -- and
    have e : zI (kdc 5) = 14 := rfl
    rw [e, if_neg (by decide), if_neg (by decide), if_neg (by decide), if_neg (by decide), if_neg (by decide), if_neg (by decide), if_neg (by decide), if_neg (by decide), if_neg (by decide), if_neg (by decide), if_neg (by decide), if_pos rfl]
    have cp : vf_Del_compares (zI 5) l r ↔ (¬ lg_cmp l 0 = 0 ∧ ¬ lg_cmp r 0 = 0) := ⟨fun h => by rcases h with h | h; exact h.2; exact absurd rfl h.1, fun h => Or.inl ⟨rfl, h⟩⟩
    by_cases a : lg_cmp l 0 = 0
    · rw [if_pos a]; exact cmp (by omega) 0 (by rw [if_neg (fun h => (cp.mp h).1 a)])
    · rw [if_neg a]
      by_cases b : lg_cmp r 0 = 0
      · rw [if_pos b]; exact cmp (by omega) 0 (by rw [if_neg (fun h => (cp.mp h).2 b)])
      · rw [if_neg b]; exact cmp (by omega) 1 (by rw [if_pos (cp.mpr ⟨a, b⟩)])
  · have e : zI (kdc 6) = 15 := rfl
    rw [e, if_neg (by decide), if_neg (by decide), if_neg (by decide), if_neg (by decide), if_neg (by decide), if_neg (by decide), if_neg (by decide), if_neg (by decide), if_neg (by decide), if_neg (by decide), if_neg (by decide), if_neg (by decide)]
    have cp : vf_Del_compares (zI 6) l r ↔ (¬ lg_cmp l 0 = 0 ∨ ¬ lg_cmp r 0 = 0) := ⟨fun h => by
      rcases h with h | ⟨-, h⟩
      · exact absurd h.1 (by decide)
      · rcases h with h | h
        · exact h.2
        · exact absurd rfl h.1, fun h => Or.inr ⟨by decide, Or.inl ⟨rfl, h⟩⟩⟩
    by_cases a : lg_cmp l 0 = 0
    · rw [if_neg (fun e => e a)]
      by_cases b : lg_cmp r 0 = 0
      · rw [if_pos b]; exact cmp (by omega) 0 (by rw [if_neg (fun h => by rcases cp.mp h with h | h; exact h a; exact h b)])
      · rw [if_neg b]; exact cmp (by omega) 1 (by rw [if_pos (cp.mpr (Or.inr b))])
    · rw [if_pos a]; exact cmp (by omega) 1 (by rw [if_pos (cp.mpr (Or.inl a))])
  · have hc' : c = 19 ∨ c = 20 ∨ c = 21 ∨ c = 22 ∨ c = 23 ∨ c = 24 ∨ c = 25 ∨ c = 26 ∨ c = 27 ∨ c = 28 ∨ c = 29 := by omega
    have ad : ∀ v : Int64, ¬ v.toInt = -9223372036854775808 → bopv c l r = bnO v → (if ¬ (0 : Int32) = 0 then (Q (some (.long 0)) (sM mo G (up2 I 81 63 1) J)) else (if lg_cmp (vf_Model_big v) 1000000000000 ≤ 0 then (Q (some (.long v)) (sM mo G (up2 I 81 63 0) J)) else (Q (some (.long 0)) (sM mo G (up2 I 81 63 1) J)))) := fun v hv hb => by
      rw [if_neg nn]
      have bv := (bn v).resolve_right hv
      by_cases g : bnd v
      · rw [if_pos (bv.mpr g)]
        exact (qb 0).1 v (by rw [hb]; unfold bnO; rw [if_pos g]) rfl
      · rw [if_neg (fun e => g (bv.mp e))]
        exact (qb 1).2 (by rw [hb]; unfold bnO; rw [if_neg g]) rfl
    have sums := And.intro hl.1 (And.intro hl.2 (And.intro hr.1 hr.2))
    rcases hc' with rfl | rfl | rfl | rfl | rfl | rfl | rfl | rfl | rfl | rfl | rfl
    · have e : zI (kdc 19) = 7 := rfl
      rw [e, if_neg (by decide), if_neg (by decide), if_neg (by decide), if_neg (by decide), if_neg (by decide), if_neg (by decide), if_pos rfl]
      exact ad (l + r) (by rw [Jvm.Kit.i64_add (by omega) (by omega)]; omega) rfl
    · have e : zI (kdc 20) = 8 := rfl
      rw [e, if_neg (by decide), if_neg (by decide), if_neg (by decide), if_neg (by decide), if_neg (by decide), if_neg (by decide), if_neg (by decide), if_pos rfl]
      exact ad (l - r) (by rw [Jvm.Kit.i64_sub (by omega) (by omega)]; omega) rfl
    · have e : zI (kdc 21) = 9 := rfl
      rw [e, if_neg (by decide), if_neg (by decide), if_neg (by decide), if_neg (by decide), if_neg (by decide), if_neg (by decide), if_neg (by decide), if_neg (by decide), if_pos rfl, if_neg nn]
      have bo : bopv 21 l r = if mul_n l r = true then none else some (l * r) := rfl
      by_cases z : lg_cmp l 0 = 0
      · rw [if_pos z]
        rw [lg_cmp_eq] at z
        have n : ¬ mul_n l r = true := by unfold mul_n; rw [decide_eq_false (fun e => e z), Bool.false_and]; exact Bool.false_ne_true
        exact (qb 0).1 _ (by rw [bo, if_neg n]) rfl
      · rw [if_neg z]
        rw [lg_cmp_eq] at z
        rw [abv_b, abv_b]
        refine ⟨abv_0 hl z, ?_⟩
        by_cases g : lg_cmp (abv r) (1000000000000 / abv l) ≤ 0
        · rw [if_pos g]
          rw [lg_cmp_le] at g
          have n : ¬ mul_n l r = true := by
            unfold mul_n
            rw [decide_eq_false (p := ¬ abv r ≤ 1000000000000 / abv l) (fun e => e g), Bool.and_false]
            decide
          exact (qb 0).1 _ (by rw [bo, if_neg n]) rfl
        · rw [if_neg g]
          rw [lg_cmp_le] at g
          have n : mul_n l r = true := by
            unfold mul_n
            rw [decide_eq_true (p := ¬ abv r ≤ 1000000000000 / abv l) g, decide_eq_true z]
            rfl
          exact (qb 1).2 (by rw [bo, if_pos n]) rfl
    · have e : zI (kdc 22) = 10 := rfl
      rw [e, if_neg (by decide), if_neg (by decide), if_neg (by decide), if_neg (by decide), if_neg (by decide), if_neg (by decide), if_neg (by decide), if_neg (by decide), if_neg (by decide), if_pos rfl, if_neg nn]
      have bo : bopv 22 l r = if r = 0 then none else some (l / r) := rfl
      by_cases z : r = 0
      · rw [if_neg (fun e => e (by rw [lg_cmp_eq]; exact z))]
        exact (qb 1).2 (by rw [bo, if_pos z]) rfl
      · rw [if_pos (by rw [lg_cmp_eq]; exact z)]
        exact ⟨z, (qb 0).1 _ (by rw [bo, if_neg z]) rfl⟩
    · have e : zI (kdc 23) = 11 := rfl
      rw [e, if_neg (by decide), if_neg (by decide), if_neg (by decide), if_neg (by decide), if_neg (by decide), if_neg (by decide), if_neg (by decide), if_neg (by decide), if_neg (by decide), if_neg (by decide), if_pos rfl, if_neg nn]
      have bo : bopv 23 l r = if r = 0 then none else some (l - l / r * r) := rfl
      by_cases z : r = 0
      · rw [if_neg (fun e => e (by rw [lg_cmp_eq]; exact z))]
        exact (qb 1).2 (by rw [bo, if_pos z]) rfl
      · rw [if_pos (by rw [lg_cmp_eq]; exact z)]
        exact ⟨z, (qb 0).1 _ (by rw [bo, if_neg z]) rfl⟩
    · have e : zI (kdc 24) = 1 := rfl
      have cp : vf_Del_compares (zI 24) l r ↔ ¬ 0 ≤ lg_cmp l r := by simp (decide := true) only [vf_Del_compares, false_and, true_and, false_or, or_false, not_false_eq_true, not_true_eq_false]
      rw [e, if_pos rfl]
      by_cases a : 0 ≤ lg_cmp l r
      · rw [if_pos a]; exact cmp (by omega) 0 (by rw [if_neg (fun h => cp.mp h a)])
      · rw [if_neg a]; exact cmp (by omega) 1 (by rw [if_pos (cp.mpr a)])
    · have e : zI (kdc 25) = 2 := rfl
      have cp : vf_Del_compares (zI 25) l r ↔ ¬ 0 < lg_cmp l r := by simp (decide := true) only [vf_Del_compares, false_and, true_and, false_or, or_false, not_false_eq_true, not_true_eq_false]
      rw [e, if_neg (by decide), if_pos rfl]
      by_cases a : 0 < lg_cmp l r
      · rw [if_pos a]; exact cmp (by omega) 0 (by rw [if_neg (fun h => cp.mp h a)])
      · rw [if_neg a]; exact cmp (by omega) 1 (by rw [if_pos (cp.mpr a)])
    · have e : zI (kdc 26) = 3 := rfl
      have cp : vf_Del_compares (zI 26) l r ↔ lg_cmp l r = 0 := by simp (decide := true) only [vf_Del_compares, false_and, true_and, false_or, or_false, not_false_eq_true, not_true_eq_false]
      rw [e, if_neg (by decide), if_neg (by decide), if_pos rfl]
      by_cases a : lg_cmp l r = 0
      · rw [if_neg (fun h => h a)]; exact cmp (by omega) 1 (by rw [if_pos (cp.mpr a)])
      · rw [if_pos a]; exact cmp (by omega) 0 (by rw [if_neg (fun h => a (cp.mp h))])
    · have e : zI (kdc 27) = 4 := rfl
      have cp : vf_Del_compares (zI 27) l r ↔ ¬ lg_cmp l r = 0 := by simp (decide := true) only [vf_Del_compares, false_and, true_and, false_or, or_false, not_false_eq_true, not_true_eq_false]
      rw [e, if_neg (by decide), if_neg (by decide), if_neg (by decide), if_pos rfl]
      by_cases a : lg_cmp l r = 0
      · rw [if_pos a]; exact cmp (by omega) 0 (by rw [if_neg (fun h => cp.mp h a)])
      · rw [if_neg a]; exact cmp (by omega) 1 (by rw [if_pos (cp.mpr a)])
    · have e : zI (kdc 28) = 5 := rfl
      have cp : vf_Del_compares (zI 28) l r ↔ ¬ lg_cmp l r < 0 := by simp (decide := true) only [vf_Del_compares, false_and, true_and, false_or, or_false, not_false_eq_true, not_true_eq_false]
      rw [e, if_neg (by decide), if_neg (by decide), if_neg (by decide), if_neg (by decide), if_pos rfl]
      by_cases a : lg_cmp l r < 0
      · rw [if_pos a]; exact cmp (by omega) 0 (by rw [if_neg (fun h => cp.mp h a)])
      · rw [if_neg a]; exact cmp (by omega) 1 (by rw [if_pos (cp.mpr a)])
    · have e : zI (kdc 29) = 6 := rfl
      have cp : vf_Del_compares (zI 29) l r ↔ ¬ lg_cmp l r ≤ 0 := by simp (decide := true) only [vf_Del_compares, false_and, true_and, false_or, or_false, not_false_eq_true, not_true_eq_false]
      rw [e, if_neg (by decide), if_neg (by decide), if_neg (by decide), if_neg (by decide), if_neg (by decide), if_pos rfl]
      by_cases a : lg_cmp l r ≤ 0
      · rw [if_pos a]; exact cmp (by omega) 0 (by rw [if_neg (fun h => cp.mp h a)])
      · rw [if_neg a]; exact cmp (by omega) 1 (by rw [if_pos (cp.mpr a)])
end V1
end
