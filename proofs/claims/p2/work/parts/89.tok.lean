/-! The class's next token. -/
theorem sgC_b (b c : Nat) : (sgC b c).1 ≤ 35 := by
  unfold sgC
  by_cases h37 : b = 37
  · rw [if_pos h37]; decide
  rw [if_neg h37]
  by_cases h40 : b = 40
  · rw [if_pos h40]; decide
  rw [if_neg h40]
  by_cases h41 : b = 41
  · rw [if_pos h41]; decide
  rw [if_neg h41]
  by_cases h42 : b = 42
  · rw [if_pos h42]; decide
  rw [if_neg h42]
  by_cases h43 : b = 43
  · rw [if_pos h43]; decide
  rw [if_neg h43]
  by_cases h45 : b = 45
  · rw [if_pos h45]; decide
  rw [if_neg h45]
  by_cases h47 : b = 47
  · rw [if_pos h47]; decide
  rw [if_neg h47]
  by_cases h59 : b = 59
  · rw [if_pos h59]; decide
  rw [if_neg h59]
  by_cases h60 : b = 60
  · rw [if_pos h60]
    by_cases k1 : c = 61
    · rw [if_pos k1]; decide
    rw [if_neg k1]
    by_cases k2 : c = 62
    · rw [if_pos k2]; decide
    rw [if_neg k2]; decide
  rw [if_neg h60]
  by_cases h61 : b = 61
  · rw [if_pos h61]; decide
  rw [if_neg h61]
  by_cases h62 : b = 62
  · rw [if_pos h62]
    by_cases k1 : c = 61
    · rw [if_pos k1]; decide
    rw [if_neg k1]; decide
  rw [if_neg h62]
  decide
section K2
variable {X : (Nat → Int32) × Nat} {mo : Bool} {G : Nat × Nat} {I : Nat → Nat → Int32} {J : Nat → Nat → Int64} {Q : Option Value → sm_M → Prop}
/-- what a token leaves of the tape -/
def tkL (B : Nat → Nat) (n q : Nat) (I L : Nat → Nat → Int32) : Prop := (∀ c, c ≠ 14 → L c = I c) ∧ (∀ j, j ≠ 1 → j ≠ 5 → j ≠ 2 → L 14 j = I 14 j) ∧ L 14 1 = zI q ∧ L 14 5 = zI (tkN B n q).2 ∧ ((tkN B n q).1 = 36 → L 14 2 = zI (nuC B q ((tkN B n q).2 - q)))
theorem tk_1 {B : Nat → Nat} {n q : Nat} (hT : tpC B (I 15)) (h4 : I 14 4 = zI n) (hn : n ≤ 400) (h5 : I 14 5 = zI q) (hq : q < n) (hnb : ¬ isBl B q = true) (hQ : ∀ L, tkL B n q I L → Q (some (.int (zI (tkN B n q).1))) (sM mo G L J)) :
    sm_wp X 156 0 [some (.ref 14), none] [] (sM mo G I J) Q := by
  rw [lp_156_0, if_neg (by rw [h4, h5, zI_le (by omega) (by omega)]; omega), if_pos (by rw [h5]; exact fun e => hnb ((byt_B hT h4 hn hq).mp e)), if_pos (by rw [h4, h5, zI_lt (by omega) (by omega)]; exact hq), h5]
  generalize hM : up2 I 14 1 (zI q) = M0
  have a1 : ∀ c, c ≠ 14 → M0 c = I c := fun c hc => by rw [← hM, up2_rn _ _ _ _ _ hc]
  have aj : ∀ j, j ≠ 1 → M0 14 j = I 14 j := fun j hj => by rw [← hM, up2_ra, va_ap, if_neg hj]
  have a11 : M0 14 1 = zI q := by rw [← hM]; exact up2_ss
  have T0 : tpC B (M0 15) := by rw [a1 15 (by decide)]; exact hT
  have e4 : M0 14 4 = zI n := by rw [aj 4 (by decide)]; exact h4
  have un : tkN B n q = if isLt B q = true then (wcd B q (sp (isLt B) (n - q) q), sp (isLt B) (n - q) q) else if isDt B q = true then (36, sp (isDt B) (n - q) q) else ((sgC (B q) (nxB B n q)).1, q + (sgC (B q) (nxB B n q)).2) := by
    unfold tkN
    rw [if_neg (by omega)]
  by_cases gl : isLt B q = true
  · rw [if_pos gl] at un
    rw [if_neg (fun c => c ((byt_L T0 e4 hn hq).mpr gl))]
    refine ct_160 (I := M0) (B := B) (n := n) (q := q) T0 e4 hn a11 (n - q) q (by omega) (Nat.le_refl _) M0 (fun _ _ => rfl) (fun _ _ => rfl) (by rw [aj 5 (by decide)]; exact h5) ?_
    intro L l1 lj l5
    simp only [tl_some]
    rw [lp_156_80]
    have q0 := hQ L ⟨fun c hc => (l1 c hc).trans (a1 c hc), fun j b1 b2 b3 => (lj j b2).trans (aj j b1), (lj 1 (by decide)).trans a11, by rw [un]; exact l5, fun e => ?_⟩
    · rw [un] at q0
      exact q0
    · exfalso
      rw [un] at e
      have w := wds (p := fun w => pB (mtc B q (sp (isLt B) (n - q) q) w)) mtc_u
      have e' : fi (fun w => pB (mtc B q (sp (isLt B) (n - q) q) w)) wC 0 35 = 36 := e
      rcases w with ⟨w1, -⟩ | ⟨i, hi, w1, -⟩
      · rw [w1] at e'; cases e'
      · rw [w1] at e'; omega
  · rw [if_neg gl] at un
    rw [if_pos (fun c => gl ((byt_L T0 e4 hn hq).mp c))]
    by_cases gd : isDt B q = true
    · rw [if_pos gd] at un
      rw [if_neg (fun c => c ((byt_D T0 e4 hn hq).mpr gd)), lp_162_0]
      refine ct_162 (I := M0) (B := B) (n := n) (q := q) T0 e4 hn (n - q) 0 (by omega) (up2 M0 14 2 0) (fun c hc => up2_rn _ _ _ _ _ hc) (fun j b1 b2 => by rw [up2_ra, va_ap, if_neg b2]) (by rw [up2_ra, va_ap, if_neg (by decide), aj 5 (by decide)]; exact h5) up2_ss ?_
      intro L l1 lj l5 l2
      simp only [tl_some]
      rw [lp_156_92]
      have q0 := hQ L ⟨fun c hc => (l1 c hc).trans (a1 c hc), fun j b1 b2 b3 => (lj j b2 b3).trans (aj j b1), (lj 1 (by decide) (by decide)).trans a11, by rw [un]; exact l5, fun _ => by rw [un]; exact l2⟩
      rw [un] at q0
      exact q0
    · rw [if_neg gd] at un
      rw [if_pos (fun c => gd ((byt_D T0 e4 hn hq).mp c)), show zI q + 1 = zI (q + 1) from zIr_add 1 q]
      have hb : ∀ c, c < 128 → (vf_Tape_byteAt M0 (zI q) = zI c ↔ B q = c) := fun c hc => byt_e T0 e4 hn hq hc
      generalize hM1 : up2 M0 14 5 (zI (q + 1)) = M1
      have m1 : ∀ c, c ≠ 14 → M1 c = M0 c := fun c hc => by rw [← hM1, up2_rn _ _ _ _ _ hc]
      have m1j : ∀ j, j ≠ 1 → j ≠ 5 → M1 14 j = M0 14 j := fun j _ b => by rw [← hM1, up2_ra, va_ap, if_neg b]
      have m15 : M1 14 5 = zI (q + 1) := by rw [← hM1]; exact up2_ss
      have m11 : M1 14 1 = zI q := by rw [← hM1, up2_ra, va_ap, if_neg (by decide)]; exact a11
      have T1 : tpC B (M1 15) := by rw [m1 15 (by decide)]; exact T0
      have e41 : M1 14 4 = zI n := by rw [m1j 4 (by decide) (by decide)]; exact e4
      have e2 : zI (q + 1) + 1 = zI (q + 2) := zIr_add 1 _
      have hb2 : q + 1 < n → ∀ c, c < 128 → (vf_Tape_byteAt M1 (zI (q + 1)) = zI c ↔ B (q + 1) = c) := fun g c hc => byt_e T1 e41 hn g hc
      have fin : ∀ c l, sgC (B q) (nxB B n q) = (c, l) → ∀ L : Nat → Nat → Int32, (∀ d, d ≠ 14 → L d = M0 d) → (∀ j, j ≠ 1 → j ≠ 5 → L 14 j = M0 14 j) → L 14 5 = zI (q + l) → L 14 1 = zI q → Q (some (.int (zI c))) (sM mo G L J) := by
        intro c l hs L b1 b2 b3 b4
        rw [hs] at un
        have q0 := hQ L ⟨fun c hc => (b1 c hc).trans (a1 c hc), fun j d1 d2 d3 => (b2 j d1 d2).trans (aj j d1), b4, by rw [un]; exact b3, fun e => ?_⟩
        · rw [un] at q0
          exact q0
        · exfalso
          have := sgC_b (B q) (nxB B n q)
          rw [hs] at this
          rw [un] at e
          have e' : c = 36 := e
          have this' : c ≤ 35 := this
          omega
      by_cases g37 : B q = 37
      · rw [if_pos (show vf_Tape_byteAt M0 (zI q) = 37 from (hb 37 (by decide)).mpr g37)]
        exact fin 23 1 (by unfold sgC; rw [if_pos g37]) _ m1 (fun j a b => m1j j a b) m15 m11
      rw [if_neg (show ¬ vf_Tape_byteAt M0 (zI q) = 37 from fun e => g37 ((hb 37 (by decide)).mp e))]
      by_cases g40 : B q = 40
      · rw [if_pos (show vf_Tape_byteAt M0 (zI q) = 40 from (hb 40 (by decide)).mpr g40)]
        exact fin 30 1 (by unfold sgC; rw [if_neg g37, if_pos g40]) _ m1 (fun j a b => m1j j a b) m15 m11
      rw [if_neg (show ¬ vf_Tape_byteAt M0 (zI q) = 40 from fun e => g40 ((hb 40 (by decide)).mp e))]
      by_cases g41 : B q = 41
      · rw [if_pos (show vf_Tape_byteAt M0 (zI q) = 41 from (hb 41 (by decide)).mpr g41)]
        exact fin 31 1 (by unfold sgC; rw [if_neg g37, if_neg g40, if_pos g41]) _ m1 (fun j a b => m1j j a b) m15 m11
      rw [if_neg (show ¬ vf_Tape_byteAt M0 (zI q) = 41 from fun e => g41 ((hb 41 (by decide)).mp e))]
      by_cases g42 : B q = 42
      · rw [if_pos (show vf_Tape_byteAt M0 (zI q) = 42 from (hb 42 (by decide)).mpr g42)]
        exact fin 21 1 (by unfold sgC; rw [if_neg g37, if_neg g40, if_neg g41, if_pos g42]) _ m1 (fun j a b => m1j j a b) m15 m11
      rw [if_neg (show ¬ vf_Tape_byteAt M0 (zI q) = 42 from fun e => g42 ((hb 42 (by decide)).mp e))]
      by_cases g43 : B q = 43
      · rw [if_pos (show vf_Tape_byteAt M0 (zI q) = 43 from (hb 43 (by decide)).mpr g43)]
        exact fin 19 1 (by unfold sgC; rw [if_neg g37, if_neg g40, if_neg g41, if_neg g42, if_pos g43]) _ m1 (fun j a b => m1j j a b) m15 m11
      rw [if_neg (show ¬ vf_Tape_byteAt M0 (zI q) = 43 from fun e => g43 ((hb 43 (by decide)).mp e))]
      by_cases g45 : B q = 45
      · rw [if_pos (show vf_Tape_byteAt M0 (zI q) = 45 from (hb 45 (by decide)).mpr g45)]
        exact fin 20 1 (by unfold sgC; rw [if_neg g37, if_neg g40, if_neg g41, if_neg g42, if_neg g43, if_pos g45]) _ m1 (fun j a b => m1j j a b) m15 m11
      rw [if_neg (show ¬ vf_Tape_byteAt M0 (zI q) = 45 from fun e => g45 ((hb 45 (by decide)).mp e))]
      by_cases g47 : B q = 47
      · rw [if_pos (show vf_Tape_byteAt M0 (zI q) = 47 from (hb 47 (by decide)).mpr g47)]
        exact fin 22 1 (by unfold sgC; rw [if_neg g37, if_neg g40, if_neg g41, if_neg g42, if_neg g43, if_neg g45, if_pos g47]) _ m1 (fun j a b => m1j j a b) m15 m11
      rw [if_neg (show ¬ vf_Tape_byteAt M0 (zI q) = 47 from fun e => g47 ((hb 47 (by decide)).mp e))]
      by_cases g59 : B q = 59
      · rw [if_pos (show vf_Tape_byteAt M0 (zI q) = 59 from (hb 59 (by decide)).mpr g59)]
        exact fin 32 1 (by unfold sgC; rw [if_neg g37, if_neg g40, if_neg g41, if_neg g42, if_neg g43, if_neg g45, if_neg g47, if_pos g59]) _ m1 (fun j a b => m1j j a b) m15 m11
      rw [if_neg (show ¬ vf_Tape_byteAt M0 (zI q) = 59 from fun e => g59 ((hb 59 (by decide)).mp e))]
      by_cases g60 : B q = 60
      · rw [if_pos (show vf_Tape_byteAt M0 (zI q) = 60 from (hb 60 (by decide)).mpr g60)]
        by_cases gn : q + 1 < n
        · rw [if_neg (by rw [h4, zI_le (by omega) (by omega)]; omega)]
          have nx : nxB B n q = B (q + 1) := by unfold nxB; rw [if_pos gn]
          by_cases k61 : B (q + 1) = 61
          · rw [if_pos (show vf_Tape_byteAt M1 (zI (q + 1)) = 61 from (hb2 gn 61 (by decide)).mpr k61)]
            exact fin 25 2 (by rw [nx]; unfold sgC; rw [if_neg g37, if_neg g40, if_neg g41, if_neg g42, if_neg g43, if_neg g45, if_neg g47, if_neg g59, if_pos g60]; rw [if_pos k61]) _ (fun c hc => by rw [up2_rn _ _ _ _ _ hc]; exact m1 c hc) (fun j a b => by rw [up2_ra, va_ap, if_neg b]; exact m1j j a b) (by rw [up2_ra, va_ap, if_pos rfl]; exact e2) (by rw [up2_ra, va_ap, if_neg (by decide)]; exact m11)
          rw [if_neg (show ¬ vf_Tape_byteAt M1 (zI (q + 1)) = 61 from fun e => k61 ((hb2 gn 61 (by decide)).mp e))]
          by_cases k62 : B (q + 1) = 62
          · rw [if_pos (show vf_Tape_byteAt M1 (zI (q + 1)) = 62 from (hb2 gn 62 (by decide)).mpr k62)]
            exact fin 27 2 (by rw [nx]; unfold sgC; rw [if_neg g37, if_neg g40, if_neg g41, if_neg g42, if_neg g43, if_neg g45, if_neg g47, if_neg g59, if_pos g60]; rw [if_neg k61, if_pos k62]) _ (fun c hc => by rw [up2_rn _ _ _ _ _ hc]; exact m1 c hc) (fun j a b => by rw [up2_ra, va_ap, if_neg b]; exact m1j j a b) (by rw [up2_ra, va_ap, if_pos rfl]; exact e2) (by rw [up2_ra, va_ap, if_neg (by decide)]; exact m11)
          rw [if_neg (show ¬ vf_Tape_byteAt M1 (zI (q + 1)) = 62 from fun e => k62 ((hb2 gn 62 (by decide)).mp e))]
          exact fin 24 1 (by rw [nx]; unfold sgC; rw [if_neg g37, if_neg g40, if_neg g41, if_neg g42, if_neg g43, if_neg g45, if_neg g47, if_neg g59, if_pos g60]; rw [if_neg k61, if_neg k62]) _ m1 (fun j a b => m1j j a b) m15 m11
        · rw [if_pos (by rw [h4, zI_le (by omega) (by omega)]; omega)]
          have nx : nxB B n q = 0 := by unfold nxB; rw [if_neg gn]
          exact fin 24 1 (by rw [nx]; unfold sgC; rw [if_neg g37, if_neg g40, if_neg g41, if_neg g42, if_neg g43, if_neg g45, if_neg g47, if_neg g59, if_pos g60]; rfl) _ m1 (fun j a b => m1j j a b) m15 m11
      rw [if_neg (show ¬ vf_Tape_byteAt M0 (zI q) = 60 from fun e => g60 ((hb 60 (by decide)).mp e))]
      by_cases g61 : B q = 61
      · rw [if_pos (show vf_Tape_byteAt M0 (zI q) = 61 from (hb 61 (by decide)).mpr g61)]
        exact fin 26 1 (by unfold sgC; rw [if_neg g37, if_neg g40, if_neg g41, if_neg g42, if_neg g43, if_neg g45, if_neg g47, if_neg g59, if_neg g60, if_pos g61]) _ m1 (fun j a b => m1j j a b) m15 m11
      rw [if_neg (show ¬ vf_Tape_byteAt M0 (zI q) = 61 from fun e => g61 ((hb 61 (by decide)).mp e))]
      by_cases g62 : B q = 62
      · rw [if_pos (show vf_Tape_byteAt M0 (zI q) = 62 from (hb 62 (by decide)).mpr g62)]
        by_cases gn : q + 1 < n
        · rw [if_neg (by rw [h4, zI_le (by omega) (by omega)]; omega)]
          have nx : nxB B n q = B (q + 1) := by unfold nxB; rw [if_pos gn]
          by_cases k61 : B (q + 1) = 61
          · rw [if_pos (show vf_Tape_byteAt M1 (zI (q + 1)) = 61 from (hb2 gn 61 (by decide)).mpr k61)]
            exact fin 28 2 (by rw [nx]; unfold sgC; rw [if_neg g37, if_neg g40, if_neg g41, if_neg g42, if_neg g43, if_neg g45, if_neg g47, if_neg g59, if_neg g60, if_neg g61, if_pos g62]; rw [if_pos k61]) _ (fun c hc => by rw [up2_rn _ _ _ _ _ hc]; exact m1 c hc) (fun j a b => by rw [up2_ra, va_ap, if_neg b]; exact m1j j a b) (by rw [up2_ra, va_ap, if_pos rfl]; exact e2) (by rw [up2_ra, va_ap, if_neg (by decide)]; exact m11)
          rw [if_neg (show ¬ vf_Tape_byteAt M1 (zI (q + 1)) = 61 from fun e => k61 ((hb2 gn 61 (by decide)).mp e))]
          exact fin 29 1 (by rw [nx]; unfold sgC; rw [if_neg g37, if_neg g40, if_neg g41, if_neg g42, if_neg g43, if_neg g45, if_neg g47, if_neg g59, if_neg g60, if_neg g61, if_pos g62]; rw [if_neg k61]) _ m1 (fun j a b => m1j j a b) m15 m11
        · rw [if_pos (by rw [h4, zI_le (by omega) (by omega)]; omega)]
          have nx : nxB B n q = 0 := by unfold nxB; rw [if_neg gn]
          exact fin 29 1 (by rw [nx]; unfold sgC; rw [if_neg g37, if_neg g40, if_neg g41, if_neg g42, if_neg g43, if_neg g45, if_neg g47, if_neg g59, if_neg g60, if_neg g61, if_pos g62]; rfl) _ m1 (fun j a b => m1j j a b) m15 m11
      rw [if_neg (show ¬ vf_Tape_byteAt M0 (zI q) = 62 from fun e => g62 ((hb 62 (by decide)).mp e))]
      exact fin 35 1 (by unfold sgC; rw [if_neg g37, if_neg g40, if_neg g41, if_neg g42, if_neg g43, if_neg g45, if_neg g47, if_neg g59, if_neg g60, if_neg g61, if_neg g62]) _ m1 (fun j a b => m1j j a b) m15 m11
theorem ct_156 {B : Nat → Nat} {n : Nat} (hT : tpC B (I 15)) (h4 : I 14 4 = zI n) (hn : n ≤ 400) : ∀ f p, p + f = n → ∀ K, (∀ c, c ≠ 14 → K c = I c) → (∀ j, j ≠ 5 → K 14 j = I 14 j) → K 14 5 = zI p → (∀ L, tkL B n (sp (isBl B) f p) I L → Q (some (.int (zI (tkN B n (sp (isBl B) f p)).1))) (sM mo G L J)) → sm_wp X 156 0 [some (.ref 14), none] [] (sM mo G K J) Q := by
  intro f
  induction f with
  | zero =>
    intro p hf K k1 kj k5 hQ
    have e4 : K 14 4 = zI n := by rw [kj 4 (by decide)]; exact h4
    have un : tkN B n p = (34, p) := by unfold tkN; rw [if_pos (by omega)]
    rw [lp_156_0, if_pos (by rw [e4, k5, zI_le (by omega) (by omega)]; omega), if_neg (by rw [e4, k5, zI_lt (by omega) (by omega)]; omega)]
    have q0 := hQ (up2 K 14 1 (K 14 5)) ⟨fun c hc => by rw [up2_rn _ _ _ _ _ hc]; exact k1 c hc, fun j b1 b2 b3 => by rw [up2_ra, va_ap, if_neg b1]; exact kj j b2, by rw [up2_ra, va_ap, if_pos rfl]; exact k5, by rw [up2_ra, va_ap, if_neg (by decide)]; show K 14 5 = zI (tkN B n p).2; rw [un]; exact k5, fun e => by
      have e' : (tkN B n p).1 = 36 := e
      rw [un] at e'; cases e'⟩
    have q1 : Q (some (.int (zI (tkN B n p).1))) (sM mo G (up2 K 14 1 (K 14 5)) J) := q0
    rw [un] at q1
    exact q1
  | succ f ih =>
    intro p hf K k1 kj k5 hQ
    have e4 : K 14 4 = zI n := by rw [kj 4 (by decide)]; exact h4
    have T : tpC B (K 15) := by rw [k1 15 (by decide)]; exact hT
    have un : sp (isBl B) (f + 1) p = if isBl B p = true then sp (isBl B) f (p + 1) else p := rfl
    by_cases g : isBl B p = true
    · rw [if_pos g] at un
      rw [un] at hQ
      rw [lp_156_0, if_neg (by rw [e4, k5, zI_le (by omega) (by omega)]; omega), if_neg (by rw [k5]; exact fun e => e ((byt_B T e4 hn (by omega)).mpr g)), k5, show zI p + 1 = zI (p + 1) from zIr_add 1 p]
      exact ih (p + 1) (by omega) _ (fun c hc => by rw [up2_rn _ _ _ _ _ hc]; exact k1 c hc) (fun j hj => by rw [up2_ra, va_ap, if_neg hj]; exact kj j hj) up2_ss hQ
    · rw [if_neg g] at un
      rw [un] at hQ
      refine tk_1 T e4 hn k5 (by omega) g (fun L hL => hQ L ?_)
      obtain ⟨l1, l2, l3, l4, l5⟩ := hL
      exact ⟨fun c hc => (l1 c hc).trans (k1 c hc), fun j b1 b2 b3 => (l2 j b1 b2 b3).trans (kj j b2), l3, l4, l5⟩
end K2
