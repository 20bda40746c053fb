/-! An offer is answered, on both sides. -/
theorem frs_p (P : Nat → Bool) : ∀ d i, frs P d i = -1 ∨ ∃ j, i ≤ j ∧ j < i + d ∧ frs P d i = zI j ∧ P j = true := by
  intro d
  induction d with
  | zero => intro i; exact Or.inl rfl
  | succ d ih =>
    intro i
    have e : frs P (d + 1) i = if P i = true then zI i else frs P d (i + 1) := rfl
    by_cases g : P i = true
    · rw [if_pos g] at e
      exact Or.inr ⟨i, Nat.le_refl _, by omega, e, g⟩
    · rw [if_neg g] at e
      rw [e]
      rcases ih (i + 1) with h | ⟨j, h1, h2, h3, h4⟩
      · exact Or.inl h
      · exact Or.inr ⟨j, by omega, by omega, h3, h4⟩
theorem nBd_s (p : Nat) (r : Nat → Int32) : nBound (p + 1) r = if r p = 5 then nBound p r + 1 else nBound p r := rfl
theorem nBd_c {r r' : Nat → Int32} : ∀ p, (∀ k, k < p → (r' k = 5 ↔ r k = 5)) → nBound p r' = nBound p r := by
  intro p
  induction p with
  | zero => intro _; rfl
  | succ p ih =>
    intro h
    rw [nBd_s, nBd_s, ih (fun k hk => h k (by omega))]
    by_cases g : r p = 5
    · rw [if_pos g, if_pos ((h p (by omega)).mpr g)]
    · rw [if_neg g, if_neg (fun e => g ((h p (by omega)).mp e))]
theorem eqC_u {K L : Nat → Nat → Int32} (h : eqC K L) (d k : Nat) (v : Int32) : eqC (up2 K d k v) (up2 L d k v) := fun e he => by
  by_cases g : e = d
  · subst g
    rw [up2_ra, up2_ra, h e he]
  · rw [up2_rn _ _ _ _ _ g, up2_rn _ _ _ _ _ g]; exact h e he
theorem fixC_u {I K : Nat → Nat → Int32} {d k : Nat} {v : Int32} (h : fixC I K) (hd : d = 42 ∨ d = 43 ∨ d = 44) : fixC I (up2 K d k v) := ⟨fun e a1 a2 a3 a4 a5 a6 a7 a8 a9 => by rw [up2_rn _ _ _ _ _ (by omega)]; exact h.1 e a1 a2 a3 a4 a5 a6 a7 a8 a9, fun j a b => by rw [up2_rn _ _ _ _ _ (by omega)]; exact h.2 j a b⟩
theorem cpl_42 {I A K T : Nat → Nat → Int32} (h : cplR I A K T) (k : Nat) (v : Int32) : cplR I A (up2 K 42 k v) (up2 T 117 k v) := by
  obtain ⟨h1, h2, h3, h4, h5, h6, h7, h8, h9⟩ := h
  refine ⟨fun d a => by rw [up2_rn _ _ _ _ _ (by omega)]; exact h1 d a, fun d x y a b c d' e f g => by rw [up2_rn _ _ _ _ _ d']; exact h2 d x y a b c d' e f g, fun j a b c => by rw [up2_rn _ _ _ _ _ (by decide)]; exact h3 j a b c, ?_, ?_, ?_, ?_, ?_, ?_⟩
  · rw [up2_rn _ _ _ _ _ (by decide), up2_rn _ _ _ _ _ (by decide)]; exact h4
  · rw [up2_rn _ _ _ _ _ (by decide), up2_rn _ _ _ _ _ (by decide)]; exact h5
  · rw [up2_rn _ _ _ _ _ (by decide), up2_rn _ _ _ _ _ (by decide)]; exact h6
  · rw [up2_ra, up2_ra, h7]
  · rw [up2_rn _ _ _ _ _ (by decide), up2_rn _ _ _ _ _ (by decide)]; exact h8
  · rw [up2_rn _ _ _ _ _ (by decide), up2_rn _ _ _ _ _ (by decide), up2_rn _ _ _ _ _ (by decide), up2_rn _ _ _ _ _ (by decide)]; exact h9
theorem cpl_44 {I A K T : Nat → Nat → Int32} (h : cplR I A K T) (k : Nat) (v : Int32) : cplR I A (up2 K 44 k v) (up2 T 119 k v) := by
  obtain ⟨h1, h2, h3, h4, h5, h6, h7, h8, h9⟩ := h
  refine ⟨fun d a => by rw [up2_rn _ _ _ _ _ (by omega)]; exact h1 d a, fun d x y a b c d' e f g => by rw [up2_rn _ _ _ _ _ f]; exact h2 d x y a b c d' e f g, fun j a b c => by rw [up2_rn _ _ _ _ _ (by decide)]; exact h3 j a b c, ?_, ?_, ?_, ?_, ?_, ?_⟩
  · rw [up2_rn _ _ _ _ _ (by decide), up2_rn _ _ _ _ _ (by decide)]; exact h4
  · rw [up2_rn _ _ _ _ _ (by decide), up2_rn _ _ _ _ _ (by decide)]; exact h5
  · rw [up2_rn _ _ _ _ _ (by decide), up2_rn _ _ _ _ _ (by decide)]; exact h6
  · rw [up2_rn _ _ _ _ _ (by decide), up2_rn _ _ _ _ _ (by decide)]; exact h7
  · rw [up2_ra, up2_ra, h8]
  · rw [up2_rn _ _ _ _ _ (by decide), up2_rn _ _ _ _ _ (by decide), up2_rn _ _ _ _ _ (by decide), up2_rn _ _ _ _ _ (by decide)]; exact h9
theorem cpl_43 {I A K T : Nat → Nat → Int32} (h : cplR I A K T) (k k' : Nat) (v v' : Int32) : cplR I A (up2 K 43 k v) (up2 T 118 k' v') := by
  obtain ⟨h1, h2, h3, h4, h5, h6, h7, h8, h9⟩ := h
  refine ⟨fun d a => by rw [up2_rn _ _ _ _ _ (by omega)]; exact h1 d a, fun d x y a b c d' e f g => by rw [up2_rn _ _ _ _ _ e]; exact h2 d x y a b c d' e f g, fun j a b c => by rw [up2_rn _ _ _ _ _ (by decide)]; exact h3 j a b c, ?_, ?_, ?_, ?_, ?_, ?_⟩
  · rw [up2_rn _ _ _ _ _ (by decide), up2_rn _ _ _ _ _ (by decide)]; exact h4
  · rw [up2_rn _ _ _ _ _ (by decide), up2_rn _ _ _ _ _ (by decide)]; exact h5
  · rw [up2_rn _ _ _ _ _ (by decide), up2_rn _ _ _ _ _ (by decide)]; exact h6
  · rw [up2_rn _ _ _ _ _ (by decide), up2_rn _ _ _ _ _ (by decide)]; exact h7
  · rw [up2_rn _ _ _ _ _ (by decide), up2_rn _ _ _ _ _ (by decide)]; exact h8
  · rw [up2_rn _ _ _ _ _ (by decide), up2_rn _ _ _ _ _ (by decide), up2_rn _ _ _ _ _ (by decide), up2_rn _ _ _ _ _ (by decide)]; exact h9
theorem cpl_118 {I A K T : Nat → Nat → Int32} (h : cplR I A K T) (k : Nat) (v : Int32) : cplR I A K (up2 T 118 k v) := by
  obtain ⟨h1, h2, h3, h4, h5, h6, h7, h8, h9⟩ := h
  refine ⟨fun d a => by rw [up2_rn _ _ _ _ _ (by omega)]; exact h1 d a, fun d x y a b c d' e f g => by rw [up2_rn _ _ _ _ _ e]; exact h2 d x y a b c d' e f g, fun j a b c => by rw [up2_rn _ _ _ _ _ (by decide)]; exact h3 j a b c, ?_, ?_, ?_, ?_, ?_, ?_⟩
  · rw [up2_rn _ _ _ _ _ (by decide)]; exact h4
  · rw [up2_rn _ _ _ _ _ (by decide)]; exact h5
  · rw [up2_rn _ _ _ _ _ (by decide)]; exact h6
  · rw [up2_rn _ _ _ _ _ (by decide)]; exact h7
  · rw [up2_rn _ _ _ _ _ (by decide)]; exact h8
  · rw [up2_rn _ _ _ _ _ (by decide)]; exact h9
theorem cpl_L {I A K T T' : Nat → Nat → Int32} {J J' : Nat → Nat → Int64} (h : cplR I A K T) (f : frL T T' J J') : cplR I A K T' := by
  obtain ⟨h1, h2, h3, h4, h5, h6, h7, h8, h9⟩ := h
  obtain ⟨f1, f2, -⟩ := f
  refine ⟨fun d a => by rw [f1 d (by omega)]; exact h1 d a, fun d x y a b c d' e f' g => by rw [f1 d (by omega)]; exact h2 d x y a b c d' e f' g, fun j a b c => by rw [f2 j c]; exact h3 j a b c, by rw [f2 16 (by decide)]; exact h4, by rw [f1 85 (by decide)]; exact h5, by rw [f1 87 (by decide)]; exact h6, by rw [f1 117 (by decide)]; exact h7, by rw [f1 119 (by decide)]; exact h8, by rw [f1 88 (by decide)]; exact h9⟩
theorem wd_42 {n m np t0 ch0 bd k f : Nat} {I K : Nat → Nat → Int32} (h : wdC n m np t0 ch0 bd I K) (ho : ¬ I 42 k = -1) (hf : f ≤ 6) (h5 : ¬ f = 5) (k5 : ¬ K 42 k = 5) : wdC n m np t0 ch0 bd I (up2 K 42 k (zI f)) := by
  obtain ⟨h1, h2, h3, h4, h5', h6, h7⟩ := h
  refine ⟨fixC_u h1 (by decide), fun j hj => ?_, ?_, ?_, ?_, ?_, ?_⟩
  · rw [up2_ra, va_ap]
    by_cases e : j = k
    · rw [if_pos e, e]; exact Or.inr ⟨ho, f, hf, rfl⟩
    · rw [if_neg e]; exact h2 j hj
  · rw [up2_rn _ _ _ _ _ (by decide)]; exact h3
  · rw [up2_rn _ _ _ _ _ (by decide), up2_rn _ _ _ _ _ (by decide)]; exact h4
  · rw [up2_rn _ _ _ _ _ (by decide)]; exact h5'
  · rw [up2_rn _ _ _ _ _ (by decide)]; exact h6
  · rw [up2_rn _ _ _ _ _ (by decide), up2_ra, nBd_c np (r := K 42) (fun j _ => ?_)]
    · exact h7
    · rw [va_ap]
      by_cases e : j = k
      · rw [if_pos e, e]
        exact ⟨fun g => absurd g (by rw [zIr_eq (c := 5) (by decide) (by omega)]; exact h5), fun g => absurd g k5⟩
      · rw [if_neg e]
theorem wd_34 {n m np t0 ch0 bd k d : Nat} {v : Int32} {I K : Nat → Nat → Int32} (h : wdC n m np t0 ch0 bd I K) (hd : d = 43 ∨ d = 44) : wdC n m np t0 ch0 bd I (up2 K d k v) := by
  obtain ⟨h1, h2, h3, h4, h5', h6, h7⟩ := h
  refine ⟨fixC_u h1 (by omega), fun j hj => ?_, ?_, ?_, ?_, ?_, ?_⟩
  · rw [up2_rn _ _ _ _ _ (by omega)]; exact h2 j hj
  · rw [up2_rn _ _ _ _ _ (by omega)]; exact h3
  · rw [up2_rn _ _ _ _ _ (by omega), up2_rn _ _ _ _ _ (by omega)]; exact h4
  · rw [up2_rn _ _ _ _ _ (by omega)]; exact h5'
  · rw [up2_rn _ _ _ _ _ (by omega)]; exact h6
  · rw [up2_rn _ _ _ _ _ (by omega), up2_rn _ _ _ _ _ (by omega)]; exact h7
/-- the two run alongside -/
def cRun (mo : Bool) (G : Nat × Nat) (pg : sm_M → (Option Value → sm_M → Prop) → Prop) (K K' : Nat → Nat → Int32) : Prop := ∀ L J (Q : Option Value → sm_M → Prop), eqC K L → (∀ L' J', eqC K' L' → jD J J' → Q none (sM mo G L' J')) → pg (sM mo G L J) Q
def rRun (mo : Bool) (G : Nat × Nat) (I : Nat → Nat → Int32) (pg : sm_M → (Option Value → sm_M → Prop) → Prop) (K K' : Nat → Nat → Int32) : Prop := ∀ A T J (Q : Option Value → sm_M → Prop), cplR I A K T → (∀ T' J', cplR I A K' T' → jR J J' → Q none (sM mo G T' J')) → pg (sM mo G T J) Q
section D2
variable {X : (Nat → Int32) × Nat} {mo : Bool} {G : Nat × Nat} {I K : Nat → Nat → Int32}
theorem bkx_253_180 (I : Nat → Nat → Int32) (J : Nat → Nat → Int64) (Q : Option Value → sm_M → Prop) (x1 x2 x3 s1 s2 : Int32) :
    sm_wp X 253 180 [some (.ref 81), some (.int x1), some (.int x2), some (.int x3)] [.int s2, .int s1, .ref 118] (sM mo G I J) Q =
    (vp_in s1 60 ∧ (vp_in x1 60 ∧ (if ((up2 I 118 s1.toNatClampNeg s2) 118 (x1.toNatClampNeg) : Int32) < 0 then sm_wp X 253 199 [some (.ref 81), some (.int x1), some (.int x2), some (.int x3)] [.int x1, .ref 117] (sM mo G (up2 I 118 s1.toNatClampNeg s2) J) Q else (sm_wp X 253 200 [some (.ref 81), some (.int x1), some (.int x2), some (.int x3)] [.int 2, .int x1, .ref 117] (sM mo G (up2 I 118 s1.toNatClampNeg s2) J) Q)))) :=
  (sm_blk X 253 180 (tt_lin 253 (by decide)) rfl rfl _ _ _ _).trans rfl
theorem bkx_253_199 (I : Nat → Nat → Int32) (J : Nat → Nat → Int64) (Q : Option Value → sm_M → Prop) (x1 x2 x3 s1 : Int32) :
    sm_wp X 253 199 [some (.ref 81), some (.int x1), some (.int x2), some (.int x3)] [.int s1, .ref 117] (sM mo G I J) Q =
    (vp_in s1 60 ∧ (True ∧ Q none (sM mo G (up2 I 117 s1.toNatClampNeg 3) J))) :=
  (sm_blk X 253 199 (tt_lin 253 (by decide)) rfl rfl _ _ _ _).trans rfl
theorem bkx_253_200 (I : Nat → Nat → Int32) (J : Nat → Nat → Int64) (Q : Option Value → sm_M → Prop) (x1 x2 x3 s1 s2 : Int32) :
    sm_wp X 253 200 [some (.ref 81), some (.int x1), some (.int x2), some (.int x3)] [.int s2, .int s1, .ref 117] (sM mo G I J) Q =
    (vp_in s1 60 ∧ (True ∧ Q none (sM mo G (up2 I 117 s1.toNatClampNeg s2) J))) :=
  (sm_blk X 253 200 (tt_lin 253 (by decide)) rfl rfl _ _ _ _).trans rfl
/-- the first line, by both -/
theorem fln {n m np t0 ch0 bd k : Nat} (ho : Bool) (hp : ppS n m np I) (wd : wdC n m np t0 ch0 bd I K) (hk : k < np) (ofr : ¬ I 42 k = -1) : ∃ (to fr ml : Nat) (cc gb vb le : Nat → Nat) (r : Int32), I 33 k = zI to ∧ to < m ∧ I 32 k = zI fr ∧ fr < m ∧ bkP to ml cc gb vb le (I 22) (I 23) (I 24) (I 25) (I 94) (I 95) (I 96) (I 97) (I 98) (I 99) (I 100) (I 101) (I 102) ∧
    (r = -1 ∨ ∃ i, i < ml ∧ r = zI i ∧ decide (vb i = 3) = ho) ∧
    (∀ L J (Q : Option Value → sm_M → Prop), eqC K L → (∀ L' J', eqC K L' → jD J J' → Q (some (.int r)) (sM mo G L' J')) → sm_wp X 24 0 [some (.ref 45), some (.int (zI k)), some (.int (hoI ho)), none, none, none, none, none] [] (sM mo G L J) Q) ∧
    (∀ A T J (Q : Option Value → sm_M → Prop), cplR I A K T → (∀ T' J', frL T T' J J' → Q (some (.int r)) (sM mo G T' J')) → sm_wp X 254 0 [some (.ref 81), some (.int (zI k)), some (.int (hoI ho)), none, none] [] (sM mo G T J) Q) := by
  obtain ⟨⟨fr, hfr, f1⟩, to, hto, f2⟩ := hp.2.2.2.2.2.2.2.2.2.1 k hk
  have m6 : m ≤ 6 := hp.2.1.2.2
  obtain ⟨ml, cc, gb, vb, le, b⟩ := hp.2.2.2.2.2.2.2.1 to (by omega)
  refine ⟨to, fr, ml, cc, gb, vb, le, frs (okl (fun a => (nmv K n to fr k a).toInt64) cc vb le ho) ml 0, f2, hto, f1, hfr, b, ?_, ?_, ?_⟩
  · rcases frs_p (okl (fun a => (nmv K n to fr k a).toInt64) cc vb le ho) ml 0 with h | ⟨j, -, h2, h3, h4⟩
    · exact Or.inl h
    · refine Or.inr ⟨j, by omega, h3, ?_⟩
      unfold okl at h4
      exact eq_of_beq ((Bool.and_eq_true _ _).mp h4).1
  · intro L J Q hL hQ
    have fx := wd.1
    have lI : ∀ d, (21 < d ∧ d < 26) ∨ (93 < d ∧ d < 103) → L d = I d := fun d hd => by rw [hL d (by omega)]; exact fx.1 d (by omega) (by omega) (by omega) (by omega) (by omega) (by omega) (by omega) (by omega) (by omega)
    refine c_24 (cl_pp hp fx hL hk f2 hto f1 hfr) (fx_bk b lI) ?_
    intro L' J' hf
    have e : (fun a => (nmv L n to fr k a).toInt64) = fun a => (nmv K n to fr k a).toInt64 := funext fun a => by rw [nmv_c (fun d x y => hL d x)]
    rw [e]
    exact hQ L' J' (fun d hd => by rw [hf.1 d hd]; exact hL d hd) hf.2.2
  · intro A T J Q hT hQ
    have fx := wd.1
    have e : (fun a => (nmv (jn K T) n to fr k a).toInt64) = fun a => (nmv K n to fr k a).toInt64 := funext fun a => by
      unfold nmv
      rw [jn_c (by decide), jn_c (by decide), jn_c (by decide), jn_c (by decide), jn_c (by decide), jn_c (by decide), jn_c (by decide), jn_c (by decide), jn_c (by decide), jn_c (by decide), jn_c (by decide)]
    refine r_254 (I := jn K T) (fun d hd => (jn_r (by omega)).symm) (fun j _ => by rw [jn_r (by decide)]) (jn_pp hp fx hT hk f2 hto f1 hfr ofr) (fx_bk b (fun d hd => ?_)) ?_
    · by_cases g : d < 81
      · rw [jn_c g]; exact fx.1 d (by omega) (by omega) (by omega) (by omega) (by omega) (by omega) (by omega) (by omega) (by omega)
      · rw [jn_r (by omega)]; exact hT.2.1 d (by omega) (by omega) (by omega) (by omega) (by omega) (by omega) (by omega) (by omega) (by omega)
    · intro T' J' hf
      rw [e]
      exact hQ T' J' hf
end D2
