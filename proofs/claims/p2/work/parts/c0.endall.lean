/-! Chains: standings set together; what holds of a chain. -/
noncomputable def setR (np : Nat) (P : Nat → Prop) (v : Int32) (r : Nat → Int32) : Nat → Int32 := fun k => if pB (k < np ∧ P k) = true then v else r k
theorem setR_y {np k : Nat} {P : Nat → Prop} {v : Int32} {r : Nat → Int32} (h : k < np) (hp : P k) : setR np P v r k = v := by unfold setR; rw [if_pos (pB_t.mpr ⟨h, hp⟩)]
theorem setR_n {np k : Nat} {P : Nat → Prop} {v : Int32} {r : Nat → Int32} (h : ¬ (k < np ∧ P k)) : setR np P v r k = r k := by unfold setR; rw [if_neg (fun e => h (pB_t.mp e))]
theorem setR_0 {P : Nat → Prop} {v : Int32} {r : Nat → Int32} : setR 0 P v r = r := by
  funext k
  exact setR_n (fun e => absurd e.1 (Nat.not_lt_zero _))
theorem setR_s1 {np : Nat} {P : Nat → Prop} {v : Int32} {r : Nat → Int32} (h : P np) : va_up (setR np P v r) np v = setR (np + 1) P v r := by
  funext k
  rw [va_ap]
  by_cases e : k = np
  · rw [if_pos e, e, setR_y (by omega) h]
  · rw [if_neg e]
    by_cases g : k < np ∧ P k
    · rw [setR_y g.1 g.2, setR_y (by omega) g.2]
    · rw [setR_n g, setR_n (fun e2 => g ⟨by omega, e2.2⟩)]
theorem setR_s0 {np : Nat} {P : Nat → Prop} {v : Int32} {r : Nat → Int32} (h : ¬ P np) : setR np P v r = setR (np + 1) P v r := by
  funext k
  by_cases g : k < np ∧ P k
  · rw [setR_y g.1 g.2, setR_y (by omega) g.2]
  · rw [setR_n g, setR_n (fun e2 => by
      by_cases e : k = np
      · rw [e] at e2; exact h e2.2
      · exact g ⟨by omega, e2.2⟩)]
theorem setR_c {np : Nat} {P R : Nat → Prop} {v : Int32} {r : Nat → Int32} (h : ∀ k, k < np → (P k ↔ R k)) : setR np P v r = setR np R v r := by
  funext k
  by_cases g : k < np ∧ P k
  · rw [setR_y g.1 g.2, setR_y g.1 ((h k g.1).mp g.2)]
  · rw [setR_n g, setR_n (fun e => g ⟨e.1, (h k e.1).mpr e.2⟩)]
def una (K : Nat → Nat → Int32) (k : Nat) : Prop := K 42 k = 0 ∨ K 42 k = 1 ∨ K 42 k = 2
/-- a flag -/
def flg (P : Nat → Prop) (j : Nat) (x : Int32) : Prop := (x = 1 ∧ ∃ i, i < j ∧ P i) ∨ (x = 0 ∧ ∀ i, i < j → ¬ P i)
theorem flg_0 (P : Nat → Prop) : flg P 0 0 := Or.inr ⟨rfl, fun i h => absurd h (Nat.not_lt_zero _)⟩
theorem flg_k {P : Nat → Prop} {j : Nat} {x : Int32} (h : flg P j x) (n : ¬ P j) : flg P (j + 1) x := by
  rcases h with ⟨h1, i, h2, h3⟩ | ⟨h1, h2⟩
  · exact Or.inl ⟨h1, i, by omega, h3⟩
  · refine Or.inr ⟨h1, fun i hi e => ?_⟩
    by_cases g : i = j
    · rw [g] at e; exact n e
    · exact h2 i (by omega) e
theorem flg_s {P : Nat → Prop} {j : Nat} (h : P j) : flg P (j + 1) 1 := Or.inl ⟨rfl, j, by omega, h⟩
theorem flg_e {P : Nat → Prop} {j : Nat} (h : flg P j 1) : flg P (j + 1) 1 := by
  rcases h with ⟨-, i, h2, h3⟩ | ⟨h1, -⟩
  · exact Or.inl ⟨rfl, i, by omega, h3⟩
  · exact absurd h1 (by decide)
section C2
variable {X : (Nat → Int32) × Nat} {mo : Bool} {G : Nat × Nat} {I A K : Nat → Nat → Int32}
theorem rw2_u {K : Nat → Nat → Int32} {c k : Nat} {r : Nat → Int32} {v : Int32} : up2 (rw2 K c r) c k v = rw2 K c (va_up r k v) := by
  rw [up2_rw, rw2_a, rw2_rw]
theorem ioc {n m np p k : Nat} (hp : ppS n m np I) (hf : fixC I K) {L : Nat → Nat → Int32} (hL : eqC K L) (hpn : p < np) (hpo : ¬ I 42 p = -1) (hk : k < np) : vf_Pap_inOneChain L (zI p) (zI k) ↔ chn I p k := by
  have np60 := hp.2.2.1.2.2
  have e31 : L 31 0 = zI np := by rw [hL 31 (by decide), hf.1 31 (by decide) (by decide) (by decide) (by decide) (by decide) (by decide) (by decide) (by decide) (by decide)]; exact hp.2.2.1.1
  have e41 : L 41 = I 41 := by rw [hL 41 (by decide), hf.1 41 (by decide) (by decide) (by decide) (by decide) (by decide) (by decide) (by decide) (by decide) (by decide)]
  have pr : ¬ I 41 p = -1 := by
    rcases hp.2.2.2.2.2.2.2.2.2.2 p hpn with ⟨a1, -⟩ | ⟨-, -, -, -, -, -, -, j, hj, e⟩
    · exact absurd a1 hpo
    · rw [e, zI_m1 (by omega)]; exact fun e => e
  unfold vf_Pap_inOneChain
  rw [hPap_vp e31 np60, hPap_vp e31 np60, zI_sIn (by omega) (by omega), zI_sIn (by omega) (by omega), zI_cn (by omega), zI_cn (by omega), e41]
  constructor
  · rintro ⟨-, -, h1, h2⟩
    refine ⟨fun e => ?_, h1.symm⟩
    rcases hp.2.2.2.2.2.2.2.2.2.2 k hk with ⟨-, -, -, a4⟩ | ⟨a1, -⟩
    · rw [a4] at h1; exact pr h1
    · exact a1 e
  · rintro ⟨h1, h2⟩
    exact ⟨hpn, hk, h2.symm, pr⟩
/-- a chain's unended end, by the class -/
theorem c_35 {n m np p w : Nat} (hp : ppS n m np I) (hf : fixC I K) (hpn : p < np) (hpo : ¬ I 42 p = -1) : cRun mo G (fun M Q => sm_wp X 35 0 [some (.ref 45), some (.int (zI p)), some (.int (zI w)), none] [] M Q) K (rw2 K 42 (setR np (fun k => chn I p k ∧ una K k) (zI w) (K 42))) := by
  have np60 := hp.2.2.1.2.2
  intro L J Q hL hQ
  have loop : ∀ d j U, j + d = np → eqC (rw2 K 42 (setR j (fun k => chn I p k ∧ una K k) (zI w) (K 42))) U → sm_wp X 35 2 [some (.ref 45), some (.int (zI p)), some (.int (zI w)), some (.int (zI j))] [] (sM mo G U J) Q := by
    intro d
    induction d with
    | zero =>
      intro j U hj hU
      have e31 : U 31 0 = zI np := by rw [hU 31 (by decide), rw2_n _ _ _ _ (by decide), hf.1 31 (by decide) (by decide) (by decide) (by decide) (by decide) (by decide) (by decide) (by decide) (by decide)]; exact hp.2.2.1.1
      rw [lp_35_2, if_pos (by rw [e31, zI_le (by omega) (by omega)]; omega)]
      have : j = np := by omega
      rw [this] at hU
      exact hQ U J hU (fun _ _ _ => rfl)
    | succ d ih =>
      intro j U hj hU
      have e31 : U 31 0 = zI np := by rw [hU 31 (by decide), rw2_n _ _ _ _ (by decide), hf.1 31 (by decide) (by decide) (by decide) (by decide) (by decide) (by decide) (by decide) (by decide) (by decide)]; exact hp.2.2.1.1
      have hfr : fixC I (rw2 K 42 (setR j (fun k => chn I p k ∧ una K k) (zI w) (K 42))) := ⟨fun e a1 a2 a3 a4 a5 a6 a7 a8 a9 => by rw [rw2_n _ _ _ _ a7]; exact hf.1 e a1 a2 a3 a4 a5 a6 a7 a8 a9, fun i a b => by rw [rw2_n _ _ _ _ (by decide)]; exact hf.2 i a b⟩
      have ic := ioc hp hfr hU hpn hpo (show j < np by omega)
      have hpj : hPap U (zI j) := by rw [hPap_vp e31 np60, zI_sIn (by omega) (by omega)]; omega
      have e42 : aPap U 42 (-1) (zI j) = K 42 j := by
        unfold aPap
        rw [if_pos hpj, zI_cn (by omega), hU 42 (by decide), rw2_a, setR_n (fun e => absurd e.1 (by omega))]
      rw [lp_35_2, if_neg (by rw [e31, zI_le (by omega) (by omega)]; omega), show zI j + 1 = zI (j + 1) from zIr_add 1 j]
      by_cases g : chn I p j
      · rw [if_neg (fun e => e (ic.mpr g))]
        by_cases g2 : una K j
        · rw [if_neg (fun e => e (show vf_Pap_isUnended U (zI j) from by unfold vf_Pap_isUnended; rw [e42]; exact g2)), if_neg (fun e => e hpj), zI_vp (by omega), zI_cn (by omega)]
          refine ⟨by omega, ih (j + 1) _ (by omega) ?_⟩
          rw [← setR_s1 (P := fun k => chn I p k ∧ una K k) ⟨g, g2⟩, ← rw2_u]
          exact eqC_u hU 42 j (zI w)
        · rw [if_pos (show ¬ vf_Pap_isUnended U (zI j) from by unfold vf_Pap_isUnended; rw [e42]; exact g2)]
          refine ih (j + 1) U (by omega) ?_
          rw [← setR_s0 (P := fun k => chn I p k ∧ una K k) (fun e => g2 e.2)]
          exact hU
      · rw [if_pos (fun e => g (ic.mp e))]
        refine ih (j + 1) U (by omega) ?_
        rw [← setR_s0 (P := fun k => chn I p k ∧ una K k) (fun e => g e.1)]
        exact hU
  show sm_wp X 35 0 [some (.ref 45), some (.int (zI p)), some (.int (zI w)), none] [] (sM mo G L J) Q
  rw [lp_35_0]
  refine loop np 0 L (by omega) ?_
  rw [setR_0, rw2_self]
  exact hL
/-- the reference's row of the chain -/
def cRw (np p : Nat) (I T : Nat → Nat → Int32) : Prop := (∀ k, k < 60 → T 122 k = 0 ∨ T 122 k = 1) ∧ ∀ k, k < np → (T 122 k = 1 ↔ chn I p k)
theorem cRw_c {np p : Nat} {T T' : Nat → Nat → Int32} (h : cRw np p I T) (e : T' 122 = T 122) : cRw np p I T' := by unfold cRw; rw [e]; exact h
theorem r_266 {n m np p w lo hi : Nat} (hp : ppS n m np I) (hlo : lo ≤ 6) (hhi : hi ≤ 6) {T : Nat → Nat → Int32} {J : Nat → Nat → Int64} {Q : Option Value → sm_M → Prop} (hT : cplR I A K T) (hc : cRw np p I T) (hst : sta I K np)
    (hQ : ∀ T', cplR I A (rw2 K 42 (setR np (fun k => chn I p k ∧ ∃ f, K 42 k = zI f ∧ f ≤ 6 ∧ lo ≤ f ∧ f ≤ hi) (zI w) (K 42))) T' → Q none (sM mo G T' J)) : sm_wp X 266 0 [some (.ref 81), some (.int (zI lo)), some (.int (zI hi)), some (.int (zI w)), none] [] (sM mo G T J) Q := by
  have np60 := hp.2.2.1.2.2
  have loop : ∀ d j U, j + d = np → cplR I A (rw2 K 42 (setR j (fun k => chn I p k ∧ ∃ f, K 42 k = zI f ∧ f ≤ 6 ∧ lo ≤ f ∧ f ≤ hi) (zI w) (K 42))) U → U 122 = T 122 → sm_wp X 266 3 [some (.ref 81), some (.int (zI lo)), some (.int (zI hi)), some (.int (zI w)), some (.int (zI j))] [] (sM mo G U J) Q := by
    intro d
    induction d with
    | zero =>
      intro j U hj hU h122
      have e46 : U 81 46 = zI np := by rw [hU.2.2.1 46 (by decide) (by decide) (by decide)]; exact hp.2.2.1.2.1
      rw [lp_266_3, e46, if_pos (by rw [zI_le (by omega) (by omega)]; omega)]
      have : j = np := by omega
      rw [this] at hU
      exact hQ U hU
    | succ d ih =>
      intro j U hj hU h122
      have e46 : U 81 46 = zI np := by rw [hU.2.2.1 46 (by decide) (by decide) (by decide)]; exact hp.2.2.1.2.1
      have e117 : U 117 j = K 42 j := by rw [hU.2.2.2.2.2.2.1, rw2_a, setR_n (fun e => absurd e.1 (by omega))]
      rw [lp_266_3, e46, if_neg (by rw [zI_le (by omega) (by omega)]; omega), zI_vp (by omega), zI_cn (by omega), h122, e117, show zI j + 1 = zI (j + 1) from zIr_add 1 j]
      refine ⟨by omega, ?_⟩
      have cj := hc.2 j (by omega)
      have keep : ¬ (chn I p j ∧ ∃ f, K 42 j = zI f ∧ f ≤ 6 ∧ lo ≤ f ∧ f ≤ hi) → sm_wp X 266 3 [some (.ref 81), some (.int (zI lo)), some (.int (zI hi)), some (.int (zI w)), some (.int (zI (j + 1)))] [] (sM mo G U J) Q := fun hn => by
        refine ih (j + 1) U (by omega) ?_ h122
        rw [← setR_s0 (P := fun k => chn I p k ∧ ∃ f, K 42 k = zI f ∧ f ≤ 6 ∧ lo ≤ f ∧ f ≤ hi) hn]
        exact hU
      by_cases z : T 122 j = 0
      · rw [if_pos z]
        exact keep (fun e => by have := cj.mpr e.1; rw [z] at this; exact absurd this (by decide))
      · rw [if_neg z]
        have z1 := (hc.1 j (by omega)).resolve_left z
        have cc := cj.mp z1
        obtain ⟨f, hf6, ef⟩ := ((hst j (by omega)).resolve_left (fun e => cc.1 e.1)).2
        rw [ef]
        by_cases b1 : f < lo
        · rw [if_pos (by rw [zI_lt (by omega) (by omega)]; exact b1)]
          refine keep ?_
          rintro ⟨-, f', e', h2, h3, -⟩
          rw [ef, zI_eq (by omega) (by omega)] at e'
          omega
        · rw [if_neg (by rw [zI_lt (by omega) (by omega)]; exact b1)]
          by_cases b2 : hi < f
          · rw [if_pos (by rw [zI_lt (by omega) (by omega)]; exact b2)]
            refine keep ?_
            rintro ⟨-, f', e', h2, -, h4⟩
            rw [ef, zI_eq (by omega) (by omega)] at e'
            omega
          · rw [if_neg (by rw [zI_lt (by omega) (by omega)]; exact b2)]
            refine ih (j + 1) _ (by omega) ?_ (by rw [up2_rn _ _ _ _ _ (by decide)]; exact h122)
            rw [← setR_s1 (P := fun k => chn I p k ∧ ∃ f, K 42 k = zI f ∧ f ≤ 6 ∧ lo ≤ f ∧ f ≤ hi) ⟨cc, f, ef, hf6, by omega, by omega⟩, ← rw2_u]
            exact cpl_42 hU j (zI w)
  rw [lp_266_0]
  refine loop np 0 T (by omega) ?_ rfl
  rw [setR_0, rw2_self]
  exact hT
end C2
