/-! Settlements: the search. -/
def FrX (I K : Nat → Nat → Int32) (lo hi : Nat) : Prop := (∀ c, c ≠ 48 → c ≠ 49 → c ≠ 50 → c ≠ 143 → (c < lo ∨ hi < c) → K c = I c) ∧ (K 48 1 = I 48 1 ∨ K 48 1 = I 1 4)
section T5
variable {X : (Nat → Int32) × Nat} {mo : Bool} {G : Nat × Nat} {I : Nat → Nat → Int32} {J : Nat → Nat → Int64} {Q : Option Value → sm_M → Prop}
theorem cs_128l {n m : Nat} {pr : Int32} (hn : I 1 0 = zI n) (h12 : n ≤ 12) (hm : I 1 1 = zI m) (h6m : m ≤ 6) (hp : ∀ k, m ≤ k → bt pr k = false) (h3 : ∀ l, pc6 (I 5 l) ≤ 3) (hW : okW (I 13)) (hB : ∀ j, ∃ w, w ≤ 999 ∧ I 12 j = zI w) (h8 : dK n (I 5) pr ≤ 8)
    (hQ : ∀ mo' K J', FrX I K 52 59 → (∀ c, c ≠ 52 → J' c = J c) → shOK mo' K n m → K 52 3 = pr → K 52 4 = I 1 4 → srD n m (I 4) (I 5) (I 12) (I 13) pr (K 52) (K 53) (K 59) (J' 52 16) → Q none (sM mo' G K J')) :
    ∀ d v, v + d = rws n (I 5) pr → 0 < d → ∀ mo' K J', FrX I K 52 59 → (∀ c, c ≠ 52 → J' c = J c) → shOK mo' K n m → K 52 3 = pr → K 52 4 = I 1 4 → SI n m (I 4) (I 5) (I 12) (I 13) pr (svC n (I 5) pr v) (K 52) (K 53) (K 54) (K 56) (K 57) (K 58) → (∀ j, j < dK n (I 5) pr → K 55 j = svC n (I 5) pr v j) → RI n m (I 4) (I 5) (I 12) (I 13) pr v (K 52) (K 59) (J' 52 16) →
    sm_wp X 128 114 [some (.ref 52), none, some (.int 1), some (.int (zI v))] [] (sM mo' G K J') Q := by
  intro d
  have rb := rws_b (n := n) (pr := pr) h3 h8
  induction d with
  | zero => intro v _ h0; exact absurd h0 (Nat.lt_irrefl _)
  | succ d ih =>
    intro v hv _ mo' K J' f fJ hs k3 k4s hS h55 hR
    have fo : ∀ c, c < 48 → K c = I c := fun c hc => f.1 c (by omega) (by omega) (by omega) (by omega) (by omega)
    rw [lp_128_114, if_neg (by rw [zIl_le (c := 6561) (by decide) (by omega)]; show ¬ 6561 ≤ v; omega), if_neg (by decide)]
    refine cs_134 (I := K) (n := n) (m := m) (v := v) (pr := pr) (by rw [fo 1 (by decide)]; exact hn) h12 (by rw [fo 1 (by decide)]; exact hm) h6m hp (by rw [fo 13 (by decide)]; exact hW) (by rw [fo 12 (by decide)]; exact hB) hs (by rw [fo 5 (by decide)]; exact h8) (by omega) (by rw [fo 4 (by decide), fo 5 (by decide), fo 12 (by decide), fo 13 (by decide)]; exact hS) (by rw [fo 5 (by decide)]; exact h55) (by rw [fo 4 (by decide), fo 5 (by decide), fo 12 (by decide), fo 13 (by decide)]; exact hR) ?_
    intro mo2 L x fL shL hRL
    rw [fo 4 (by decide), fo 5 (by decide), fo 12 (by decide), fo 13 (by decide)] at hRL
    simp only [tl_none]
    have lk : ∀ c, c ≠ 48 → c ≠ 49 → c ≠ 50 → c ≠ 143 → c ≠ 52 → c ≠ 59 → L c = K c := fL.1
    have lo : ∀ c, c < 48 → L c = I c := fun c hc => (lk c (by omega) (by omega) (by omega) (by omega) (by omega) (by omega)).trans (fo c hc)
    have fXL : FrX I L 52 59 := by
      refine ⟨fun c a1 a2 a3 a4 a5 => (lk c a1 a2 a3 a4 (by omega) (by omega)).trans (f.1 c a1 a2 a3 a4 a5), ?_⟩
      rcases fL.2.1 with e | e
      · rw [e]; exact f.2
      · rw [e, fo 1 (by decide)]; exact Or.inr rfl
    have fJL : ∀ c, c ≠ 52 → up2 J' 52 16 x c = J c := fun c hc => by rw [up2_rn _ _ _ _ _ hc]; exact fJ c hc
    have jx : up2 J' 52 16 x 52 16 = x := up2_ss
    have hSL : SI n m (I 4) (I 5) (I 12) (I 13) pr (svC n (I 5) pr v) (L 52) (L 53) (L 54) (L 56) (L 57) (L 58) := by
      obtain ⟨s1, s2, s3, s4, s5⟩ := hS
      rw [lk 53 (by decide) (by decide) (by decide) (by decide) (by decide) (by decide), lk 54 (by decide) (by decide) (by decide) (by decide) (by decide) (by decide), lk 56 (by decide) (by decide) (by decide) (by decide) (by decide) (by decide), lk 57 (by decide) (by decide) (by decide) (by decide) (by decide) (by decide), lk 58 (by decide) (by decide) (by decide) (by decide) (by decide) (by decide)]
      refine ⟨?_, ?_, s3, s4, ?_⟩
      · rw [fL.2.2 2 (by decide) (by decide) (by decide) (by decide) (by decide)]; exact s1
      · rw [fL.2.2 5 (by decide) (by decide) (by decide) (by decide) (by decide)]; exact s2
      · rw [fL.2.2 12 (by decide) (by decide) (by decide) (by decide) (by decide)]; exact s5
    have l3 : L 52 3 = pr := by rw [fL.2.2 3 (by decide) (by decide) (by decide) (by decide) (by decide)]; exact k3
    have l4 : L 52 4 = I 1 4 := by rw [fL.2.2 4 (by decide) (by decide) (by decide) (by decide) (by decide)]; exact k4s
    -- what the next one leaves alone
    have nxt : ∀ N, FrS 52 58 L N → FrX I N 52 59 ∧ shOK mo2 N n m ∧ N 52 3 = pr ∧ N 52 4 = I 1 4 ∧ RI n m (I 4) (I 5) (I 12) (I 13) pr (v + 1) (N 52) (N 59) (up2 J' 52 16 x 52 16) := by
      intro N fN
      have no : ∀ c, c < 52 ∨ 58 < c → N c = L c := fN.1
      refine ⟨⟨fun c a1 a2 a3 a4 a5 => (no c (by omega)).trans (fXL.1 c a1 a2 a3 a4 a5), ?_⟩, ?_, ?_, ?_, ?_⟩
      · rw [no 48 (by decide)]; exact fXL.2
      · unfold shOK
        rw [no 48 (by decide), no 1 (by decide), no 4 (by decide), no 13 (by decide), no 49 (by decide), no 50 (by decide), no 143 (by decide)]
        exact shL
      · rw [fN.2 3 (by decide) (by decide) (by decide)]; exact l3
      · rw [fN.2 4 (by decide) (by decide) (by decide)]; exact l4
      · rw [jx]
        obtain ⟨a1, a2, a3, a4, a5⟩ := hRL
        refine ⟨?_, ?_, ?_, a4, ?_⟩
        · rw [fN.2 13 (by decide) (by decide) (by decide)]; exact a1
        · rw [fN.2 14 (by decide) (by decide) (by decide)]; exact a2
        · rw [fN.2 15 (by decide) (by decide) (by decide)]; exact a3
        · rw [fN.2 17 (by decide) (by decide) (by decide), fN.2 18 (by decide) (by decide) (by decide), no 59 (by decide)]; exact a5
    rw [lp_128_129]
    refine cs_137 (I := L) (n := n) (m := m) (v := v) (pr := pr) h12 (by rw [lo 13 (by decide)]; exact hW) (by rw [lo 12 (by decide)]; exact hB) (by rw [lo 5 (by decide)]; exact h8) (by rw [lo 5 (by decide)]; omega) (by rw [lo 4 (by decide), lo 5 (by decide), lo 12 (by decide), lo 13 (by decide)]; exact hSL) (by rw [lo 5 (by decide), lk 55 (by decide) (by decide) (by decide) (by decide) (by decide) (by decide)]; exact h55) ?_ ?_
    · intro hv1 N fN n55 hSN
      rw [lo 5 (by decide)] at hv1 n55
      rw [lo 4 (by decide), lo 5 (by decide), lo 12 (by decide), lo 13 (by decide)] at hSN
      obtain ⟨q1, q2, q3, q4, q5⟩ := nxt N fN
      simp only [tl_some]
      rw [lp_128_133, show zI v + 1 = zI (v + 1) from zIr_add 1 v]
      exact ih (v + 1) (by omega) (by omega) mo2 N _ q1 fJL q2 q3 q4 hSN n55 q5
    · intro hv1 N ch fN hSN
      rw [lo 5 (by decide)] at hv1
      rw [lo 4 (by decide), lo 5 (by decide), lo 12 (by decide), lo 13 (by decide)] at hSN
      obtain ⟨q1, q2, q3, q4, q5⟩ := nxt N fN
      simp only [tl_some]
      rw [lp_128_133, lp_128_114]
      have fin : Q none (sM mo2 G N (up2 J' 52 16 x)) := by
        refine hQ mo2 N _ q1 fJL q2 q3 q4 ⟨hSN.1, hSN.2.1, fun k a b => (hSN.2.2.1 k a b).1, fun e => absurd h8 (by omega), fun _ => ?_⟩
        rw [← hv1]
        exact q5
      by_cases g : (6561 : Int32) ≤ zI v + 1
      · rw [if_pos g]; exact fin
      · rw [if_neg g, if_pos rfl]; exact fin
theorem cs_128 {n m : Nat} {pr : Int32} (hn : I 1 0 = zI n) (h12 : n ≤ 12) (hm : I 1 1 = zI m) (h6m : m ≤ 6) (hp : ∀ k, m ≤ k → bt pr k = false) (h6 : ∀ l k, 6 ≤ k → bt (I 5 l) k = false) (h3 : ∀ l, pc6 (I 5 l) ≤ 3) (hW : okW (I 13)) (hB : ∀ j, ∃ w, w ≤ 999 ∧ I 12 j = zI w) (hsh : shOK mo I n m)
    (hca : I 52 3 = pr → I 52 4 = I 1 4 → srD n m (I 4) (I 5) (I 12) (I 13) pr (I 52) (I 53) (I 59) (J 52 16))
    (hQ : ∀ mo' K J', FrX I K 52 59 → (∀ c, c ≠ 52 → J' c = J c) → shOK mo' K n m → K 52 3 = pr → K 52 4 = I 1 4 → srD n m (I 4) (I 5) (I 12) (I 13) pr (K 52) (K 53) (K 59) (J' 52 16) → Q none (sM mo' G K J')) :
    sm_wp X 128 0 [some (.ref 52), some (.int pr), none, none] [] (sM mo G I J) Q := by
  have run : sm_wp X 129 0 [some (.ref 52), some (.int pr), none, none, none] [] (sM mo G (up2 (up2 (up2 (up2 (up2 (up2 I 52 3 pr) 52 4 (I 1 4)) 52 13 0) 52 14 0) 52 15 0) 52 17 (-1)) (up2 J 52 16 0)) (fun v M => sm_wp X 128 69 [some (.ref 52), some (.int pr), none, none] (v.toList ++ []) M Q) := by
    generalize hL : up2 (up2 (up2 (up2 (up2 (up2 I 52 3 pr) 52 4 (I 1 4)) 52 13 0) 52 14 0) 52 15 0) 52 17 (-1) = L
    have l52 : L 52 = va_up (va_up (va_up (va_up (va_up (va_up (I 52) 3 pr) 4 (I 1 4)) 13 0) 14 0) 15 0) 17 (-1) := by rw [← hL]; simp (decide := true) only [up2_ra, up2_rn, va_ap, ne_eq, if_false, if_true, not_false_eq_true]
    have lo : ∀ c, c ≠ 52 → L c = I c := fun c hc => by rw [← hL, up2_rn _ _ _ _ _ hc, up2_rn _ _ _ _ _ hc, up2_rn _ _ _ _ _ hc, up2_rn _ _ _ _ _ hc, up2_rn _ _ _ _ _ hc, up2_rn _ _ _ _ _ hc]
    refine cs_129 (I := L) (n := n) (m := m) (pr := pr) (by rw [lo 1 (by decide)]; exact hn) h12 (by rw [lo 1 (by decide)]; exact hm) h6m (by rw [lo 5 (by decide)]; exact h6) (by rw [lo 13 (by decide)]; exact hW) (by rw [lo 12 (by decide)]; exact hB) ?_
    intro K fK k55 hS
    rw [lo 5 (by decide)] at k55
    rw [lo 4 (by decide), lo 5 (by decide), lo 12 (by decide), lo 13 (by decide)] at hS
    simp only [tl_none]
    have ko : ∀ c, c < 52 ∨ 59 < c → K c = I c := fun c hc => (fK.1 c (by omega)).trans (lo c (by omega))
    have gen : ∀ N, FrS 52 58 L N → FrX I N 52 59 ∧ shOK mo N n m ∧ N 52 3 = pr ∧ N 52 4 = I 1 4 ∧ N 52 13 = 0 ∧ N 52 14 = 0 ∧ N 52 15 = 0 ∧ N 52 17 = -1 := by
      intro N fN
      have no : ∀ c, c < 52 ∨ 59 < c → N c = I c := fun c hc => (fN.1 c (by omega)).trans (lo c (by omega))
      refine ⟨⟨fun c a1 a2 a3 a4 a5 => no c a5, Or.inl (by rw [no 48 (by decide)])⟩, ?_, ?_, ?_, ?_, ?_, ?_, ?_⟩
      · unfold shOK
        rw [no 48 (by decide), no 1 (by decide), no 4 (by decide), no 13 (by decide), no 49 (by decide), no 50 (by decide), no 143 (by decide)]
        exact hsh
      · rw [fN.2 3 (by decide) (by decide) (by decide), l52]; rfl
      · rw [fN.2 4 (by decide) (by decide) (by decide), l52]; rfl
      · rw [fN.2 13 (by decide) (by decide) (by decide), l52]; rfl
      · rw [fN.2 14 (by decide) (by decide) (by decide), l52]; rfl
      · rw [fN.2 15 (by decide) (by decide) (by decide), l52]; rfl
      · rw [fN.2 17 (by decide) (by decide) (by decide), l52]; rfl
    have fJ : ∀ c, c ≠ 52 → up2 J 52 16 0 c = J c := fun c hc => up2_rn _ _ _ _ _ hc
    have d12 : dK n (I 5) pr ≤ 12 := Nat.le_trans (cN_le _ _) h12
    rw [lp_128_69, lp_131_0, hS.2.1]
    by_cases g8 : dK n (I 5) pr ≤ 8
    · rw [if_pos (by rw [zIr_le (c := 8) (by decide) (by omega)]; exact g8)]
      simp only [tl_some]
      rw [lp_128_73, if_pos rfl]
      -- the first one
      have first : ∀ d k, k + d = dK n (I 5) pr → ∀ N ch, FrS 52 58 L N → (∀ j, j < 8 → j < dK n (I 5) pr → N 55 j = ch j) → (∀ j, j < dK n (I 5) pr → ch j = if j < k then svC n (I 5) pr 0 j else -1) → SI n m (I 4) (I 5) (I 12) (I 13) pr ch (N 52) (N 53) (N 54) (N 56) (N 57) (N 58) → sm_wp X 128 79 [some (.ref 52), none, some (.int (zI k)), none] [] (sM mo G N (up2 J 52 16 0)) Q := by
        intro d
        induction d with
        | zero =>
          intro k hk N ch fN n55 hch hN
          have : k = dK n (I 5) pr := by omega
          subst this
          obtain ⟨q1, q2, q3, q4, q5, q6, q7, q8⟩ := gen N fN
          rw [lp_128_79, hN.2.1, if_pos (by rw [zI_le (by omega) (by omega)]; exact Nat.le_refl _)]
          have e : ∀ j, j < dK n (I 5) pr → ch j = svC n (I 5) pr 0 j := fun j hj => by rw [hch j hj, if_pos hj]
          refine cs_128l hn h12 hm h6m hp h3 hW hB g8 hQ (rws n (I 5) pr) 0 (by omega) rws_pos mo N _ q1 fJ q2 q3 q4 (si_ch hN (fun s => ?_)) (fun j hj => by rw [n55 j (by omega) hj]; exact e j hj) ⟨q5, q6, q7, fun k hk => ?_, q8⟩
          · unfold gtC
            rw [gsm_c (fun j hj => (e j (Nat.lt_of_lt_of_le hj (Nat.min_le_right _ _))).symm)]
          · rw [up2_ss, lb_0]
            exact ⟨fun e => (by cases e), fun e => absurd e.choose_spec.1 (Nat.not_lt_zero _)⟩
        | succ d ih =>
          intro k hk N ch fN n55 hch hN
          have no : ∀ c, c < 52 ∨ 59 < c → N c = I c := fun c hc => (fN.1 c (by omega)).trans (lo c (by omega))
          have kD : k < dK n (I 5) pr := by omega
          rw [lp_128_79, hN.2.1, if_neg (by rw [zI_le (by omega) (by omega)]; omega), if_neg (by rw [zIl_le (c := 8) (by decide) (by omega)]; show ¬ 8 ≤ k; omega), cs_132 (s := 0) (by omega) ((hN.2.2.1 k (by omega) kD).2) (by decide) (by decide)]
          simp only [tl_some]
          have z6 : 0 < cN (bt (clB n (I 5) pr k)) 6 := rd_pos k kD
          have np := nt_p z6
          have nx0 : nxC (clB n (I 5) pr k) (cN (bt (clB n (I 5) pr k)) 0) = zI (nt (bt (clB n (I 5) pr k)) 6 0) := by
            unfold nxC
            rw [show cN (bt (clB n (I 5) pr k)) 0 = 0 from rfl, if_pos z6]
          have ck : ch k = -1 := by rw [hch k kD, if_neg (Nat.lt_irrefl _)]
          rw [nx0, lp_128_101]
          refine cs_133 (I := N) (n := n) (m := m) (pr := pr) (ch := ch) (by omega) (by rw [no 5 (by decide)]; exact kD) np.2.1 h12 (by rw [no 13 (by decide)]; exact hW) (by rw [no 12 (by decide)]; exact hB) (by rw [no 4 (by decide), no 5 (by decide), no 12 (by decide), no 13 (by decide)]; exact hN) (by rw [no 5 (by decide)]; exact n55) (Or.inl ck) ?_
          intro P fP p55 hP
          rw [no 5 (by decide)] at p55
          rw [no 4 (by decide), no 5 (by decide), no 12 (by decide), no 13 (by decide)] at hP
          simp only [tl_none]
          rw [lp_128_104, show zI k + 1 = zI (k + 1) from zIr_add 1 k]
          refine ih (k + 1) (by omega) P _ (FrS_t fN fP) p55 (fun j hj => ?_) hP
          rw [va_ap]
          by_cases g1 : j = k
          · subst g1
            rw [if_pos rfl, if_pos (Nat.lt_succ_self _)]
            unfold svC sv
            rw [dg_0]
          · rw [if_neg g1, hch j hj]
            by_cases g2 : j < k
            · rw [if_pos g2, if_pos (by omega)]
            · rw [if_neg g2, if_neg (by omega)]
      exact first (dK n (I 5) pr) 0 (by omega) K _ fK k55 (fun j hj => by rw [if_neg (Nat.not_lt_zero _)]) hS
    · rw [if_neg (by rw [zIr_le (c := 8) (by decide) (by omega)]; exact g8)]
      simp only [tl_some]
      rw [lp_128_73, if_neg (by decide)]
      obtain ⟨q1, q2, q3, q4, q5, q6, q7, q8⟩ := gen K fK
      exact hQ mo K _ q1 fJ q2 q3 q4 ⟨hS.1, hS.2.1, fun k a b => (hS.2.2.1 k a b).1, fun _ => ⟨q6, q8⟩, fun e => absurd e g8⟩
  rw [lp_128_0]
  by_cases c1 : I 52 3 = pr
  · rw [if_neg (fun e => e c1)]
    by_cases c2 : I 52 4 = I 1 4
    · rw [if_neg (fun e => e c2)]
      exact hQ mo I J ⟨fun _ _ _ _ _ _ => rfl, Or.inl rfl⟩ (fun _ _ => rfl) hsh c1 c2 (hca c1 c2)
    · rw [if_pos c2]
      exact run
  · rw [if_pos c1]
    exact run
theorem cw_128l {n m : Nat} {pr : Int32} (hn : I 1 0 = zI n) (h12 : n ≤ 12) (hm : I 1 1 = zI m) (h6m : m ≤ 6) (hp : ∀ k, m ≤ k → bt pr k = false) (h3 : ∀ l, pc6 (I 5 l) ≤ 3) (hW : okW (I 13)) (hB : ∀ j, ∃ w, w ≤ 999 ∧ I 12 j = zI w) (h8 : dK n (I 5) pr ≤ 8)
    (hQ : ∀ mo' K J', FrX I K 60 67 → (∀ c, c ≠ 60 → J' c = J c) → shOK mo' K n m → K 60 3 = pr → K 60 4 = I 1 4 → srD n m (I 4) (I 5) (I 12) (I 13) pr (K 60) (K 61) (K 67) (J' 60 16) → Q none (sM mo' G K J')) :
    ∀ d v, v + d = rws n (I 5) pr → 0 < d → ∀ mo' K J', FrX I K 60 67 → (∀ c, c ≠ 60 → J' c = J c) → shOK mo' K n m → K 60 3 = pr → K 60 4 = I 1 4 → SI n m (I 4) (I 5) (I 12) (I 13) pr (svC n (I 5) pr v) (K 60) (K 61) (K 62) (K 64) (K 65) (K 66) → (∀ j, j < dK n (I 5) pr → K 63 j = svC n (I 5) pr v j) → RI n m (I 4) (I 5) (I 12) (I 13) pr v (K 60) (K 67) (J' 60 16) →
    sm_wp X 128 114 [some (.ref 60), none, some (.int 1), some (.int (zI v))] [] (sM mo' G K J') Q := by
  intro d
  have rb := rws_b (n := n) (pr := pr) h3 h8
  induction d with
  | zero => intro v _ h0; exact absurd h0 (Nat.lt_irrefl _)
  | succ d ih =>
    intro v hv _ mo' K J' f fJ hs k3 k4s hS h55 hR
    have fo : ∀ c, c < 48 → K c = I c := fun c hc => f.1 c (by omega) (by omega) (by omega) (by omega) (by omega)
    rw [lpw_128_114, if_neg (by rw [zIl_le (c := 6561) (by decide) (by omega)]; show ¬ 6561 ≤ v; omega), if_neg (by decide)]
    refine cw_134 (I := K) (n := n) (m := m) (v := v) (pr := pr) (by rw [fo 1 (by decide)]; exact hn) h12 (by rw [fo 1 (by decide)]; exact hm) h6m hp (by rw [fo 13 (by decide)]; exact hW) (by rw [fo 12 (by decide)]; exact hB) hs (by rw [fo 5 (by decide)]; exact h8) (by omega) (by rw [fo 4 (by decide), fo 5 (by decide), fo 12 (by decide), fo 13 (by decide)]; exact hS) (by rw [fo 5 (by decide)]; exact h55) (by rw [fo 4 (by decide), fo 5 (by decide), fo 12 (by decide), fo 13 (by decide)]; exact hR) ?_
    intro mo2 L x fL shL hRL
    rw [fo 4 (by decide), fo 5 (by decide), fo 12 (by decide), fo 13 (by decide)] at hRL
    simp only [tl_none]
    have lk : ∀ c, c ≠ 48 → c ≠ 49 → c ≠ 50 → c ≠ 143 → c ≠ 60 → c ≠ 67 → L c = K c := fL.1
    have lo : ∀ c, c < 48 → L c = I c := fun c hc => (lk c (by omega) (by omega) (by omega) (by omega) (by omega) (by omega)).trans (fo c hc)
    have fXL : FrX I L 60 67 := by
      refine ⟨fun c a1 a2 a3 a4 a5 => (lk c a1 a2 a3 a4 (by omega) (by omega)).trans (f.1 c a1 a2 a3 a4 a5), ?_⟩
      rcases fL.2.1 with e | e
      · rw [e]; exact f.2
      · rw [e, fo 1 (by decide)]; exact Or.inr rfl
    have fJL : ∀ c, c ≠ 60 → up2 J' 60 16 x c = J c := fun c hc => by rw [up2_rn _ _ _ _ _ hc]; exact fJ c hc
    have jx : up2 J' 60 16 x 60 16 = x := up2_ss
    have hSL : SI n m (I 4) (I 5) (I 12) (I 13) pr (svC n (I 5) pr v) (L 60) (L 61) (L 62) (L 64) (L 65) (L 66) := by
      obtain ⟨s1, s2, s3, s4, s5⟩ := hS
      rw [lk 61 (by decide) (by decide) (by decide) (by decide) (by decide) (by decide), lk 62 (by decide) (by decide) (by decide) (by decide) (by decide) (by decide), lk 64 (by decide) (by decide) (by decide) (by decide) (by decide) (by decide), lk 65 (by decide) (by decide) (by decide) (by decide) (by decide) (by decide), lk 66 (by decide) (by decide) (by decide) (by decide) (by decide) (by decide)]
      refine ⟨?_, ?_, s3, s4, ?_⟩
      · rw [fL.2.2 2 (by decide) (by decide) (by decide) (by decide) (by decide)]; exact s1
      · rw [fL.2.2 5 (by decide) (by decide) (by decide) (by decide) (by decide)]; exact s2
      · rw [fL.2.2 12 (by decide) (by decide) (by decide) (by decide) (by decide)]; exact s5
    have l3 : L 60 3 = pr := by rw [fL.2.2 3 (by decide) (by decide) (by decide) (by decide) (by decide)]; exact k3
    have l4 : L 60 4 = I 1 4 := by rw [fL.2.2 4 (by decide) (by decide) (by decide) (by decide) (by decide)]; exact k4s
    -- what the next one leaves alone
    have nxt : ∀ N, FrS 60 66 L N → FrX I N 60 67 ∧ shOK mo2 N n m ∧ N 60 3 = pr ∧ N 60 4 = I 1 4 ∧ RI n m (I 4) (I 5) (I 12) (I 13) pr (v + 1) (N 60) (N 67) (up2 J' 60 16 x 60 16) := by
      intro N fN
      have no : ∀ c, c < 60 ∨ 66 < c → N c = L c := fN.1
      refine ⟨⟨fun c a1 a2 a3 a4 a5 => (no c (by omega)).trans (fXL.1 c a1 a2 a3 a4 a5), ?_⟩, ?_, ?_, ?_, ?_⟩
      · rw [no 48 (by decide)]; exact fXL.2
      · unfold shOK
        rw [no 48 (by decide), no 1 (by decide), no 4 (by decide), no 13 (by decide), no 49 (by decide), no 50 (by decide), no 143 (by decide)]
        exact shL
      · rw [fN.2 3 (by decide) (by decide) (by decide)]; exact l3
      · rw [fN.2 4 (by decide) (by decide) (by decide)]; exact l4
      · rw [jx]
        obtain ⟨a1, a2, a3, a4, a5⟩ := hRL
        refine ⟨?_, ?_, ?_, a4, ?_⟩
        · rw [fN.2 13 (by decide) (by decide) (by decide)]; exact a1
        · rw [fN.2 14 (by decide) (by decide) (by decide)]; exact a2
        · rw [fN.2 15 (by decide) (by decide) (by decide)]; exact a3
        · rw [fN.2 17 (by decide) (by decide) (by decide), fN.2 18 (by decide) (by decide) (by decide), no 67 (by decide)]; exact a5
    rw [lpw_128_129]
    refine cw_137 (I := L) (n := n) (m := m) (v := v) (pr := pr) h12 (by rw [lo 13 (by decide)]; exact hW) (by rw [lo 12 (by decide)]; exact hB) (by rw [lo 5 (by decide)]; exact h8) (by rw [lo 5 (by decide)]; omega) (by rw [lo 4 (by decide), lo 5 (by decide), lo 12 (by decide), lo 13 (by decide)]; exact hSL) (by rw [lo 5 (by decide), lk 63 (by decide) (by decide) (by decide) (by decide) (by decide) (by decide)]; exact h55) ?_ ?_
    · intro hv1 N fN n55 hSN
      rw [lo 5 (by decide)] at hv1 n55
      rw [lo 4 (by decide), lo 5 (by decide), lo 12 (by decide), lo 13 (by decide)] at hSN
      obtain ⟨q1, q2, q3, q4, q5⟩ := nxt N fN
      simp only [tl_some]
      rw [lpw_128_133, show zI v + 1 = zI (v + 1) from zIr_add 1 v]
      exact ih (v + 1) (by omega) (by omega) mo2 N _ q1 fJL q2 q3 q4 hSN n55 q5
    · intro hv1 N ch fN hSN
      rw [lo 5 (by decide)] at hv1
      rw [lo 4 (by decide), lo 5 (by decide), lo 12 (by decide), lo 13 (by decide)] at hSN
      obtain ⟨q1, q2, q3, q4, q5⟩ := nxt N fN
      simp only [tl_some]
      rw [lpw_128_133, lpw_128_114]
      have fin : Q none (sM mo2 G N (up2 J' 60 16 x)) := by
        refine hQ mo2 N _ q1 fJL q2 q3 q4 ⟨hSN.1, hSN.2.1, fun k a b => (hSN.2.2.1 k a b).1, fun e => absurd h8 (by omega), fun _ => ?_⟩
        rw [← hv1]
        exact q5
      by_cases g : (6561 : Int32) ≤ zI v + 1
      · rw [if_pos g]; exact fin
      · rw [if_neg g, if_pos rfl]; exact fin
theorem cw_128 {n m : Nat} {pr : Int32} (hn : I 1 0 = zI n) (h12 : n ≤ 12) (hm : I 1 1 = zI m) (h6m : m ≤ 6) (hp : ∀ k, m ≤ k → bt pr k = false) (h6 : ∀ l k, 6 ≤ k → bt (I 5 l) k = false) (h3 : ∀ l, pc6 (I 5 l) ≤ 3) (hW : okW (I 13)) (hB : ∀ j, ∃ w, w ≤ 999 ∧ I 12 j = zI w) (hsh : shOK mo I n m)
    (hca : I 60 3 = pr → I 60 4 = I 1 4 → srD n m (I 4) (I 5) (I 12) (I 13) pr (I 60) (I 61) (I 67) (J 60 16))
    (hQ : ∀ mo' K J', FrX I K 60 67 → (∀ c, c ≠ 60 → J' c = J c) → shOK mo' K n m → K 60 3 = pr → K 60 4 = I 1 4 → srD n m (I 4) (I 5) (I 12) (I 13) pr (K 60) (K 61) (K 67) (J' 60 16) → Q none (sM mo' G K J')) :
    sm_wp X 128 0 [some (.ref 60), some (.int pr), none, none] [] (sM mo G I J) Q := by
  have run : sm_wp X 129 0 [some (.ref 60), some (.int pr), none, none, none] [] (sM mo G (up2 (up2 (up2 (up2 (up2 (up2 I 60 3 pr) 60 4 (I 1 4)) 60 13 0) 60 14 0) 60 15 0) 60 17 (-1)) (up2 J 60 16 0)) (fun v M => sm_wp X 128 69 [some (.ref 60), some (.int pr), none, none] (v.toList ++ []) M Q) := by
    generalize hL : up2 (up2 (up2 (up2 (up2 (up2 I 60 3 pr) 60 4 (I 1 4)) 60 13 0) 60 14 0) 60 15 0) 60 17 (-1) = L
    have l52 : L 60 = va_up (va_up (va_up (va_up (va_up (va_up (I 60) 3 pr) 4 (I 1 4)) 13 0) 14 0) 15 0) 17 (-1) := by rw [← hL]; simp (decide := true) only [up2_ra, up2_rn, va_ap, ne_eq, if_false, if_true, not_false_eq_true]
    have lo : ∀ c, c ≠ 60 → L c = I c := fun c hc => by rw [← hL, up2_rn _ _ _ _ _ hc, up2_rn _ _ _ _ _ hc, up2_rn _ _ _ _ _ hc, up2_rn _ _ _ _ _ hc, up2_rn _ _ _ _ _ hc, up2_rn _ _ _ _ _ hc]
    refine cw_129 (I := L) (n := n) (m := m) (pr := pr) (by rw [lo 1 (by decide)]; exact hn) h12 (by rw [lo 1 (by decide)]; exact hm) h6m (by rw [lo 5 (by decide)]; exact h6) (by rw [lo 13 (by decide)]; exact hW) (by rw [lo 12 (by decide)]; exact hB) ?_
    intro K fK k55 hS
    rw [lo 5 (by decide)] at k55
    rw [lo 4 (by decide), lo 5 (by decide), lo 12 (by decide), lo 13 (by decide)] at hS
    simp only [tl_none]
    have ko : ∀ c, c < 60 ∨ 67 < c → K c = I c := fun c hc => (fK.1 c (by omega)).trans (lo c (by omega))
    have gen : ∀ N, FrS 60 66 L N → FrX I N 60 67 ∧ shOK mo N n m ∧ N 60 3 = pr ∧ N 60 4 = I 1 4 ∧ N 60 13 = 0 ∧ N 60 14 = 0 ∧ N 60 15 = 0 ∧ N 60 17 = -1 := by
      intro N fN
      have no : ∀ c, c < 60 ∨ 67 < c → N c = I c := fun c hc => (fN.1 c (by omega)).trans (lo c (by omega))
      refine ⟨⟨fun c a1 a2 a3 a4 a5 => no c a5, Or.inl (by rw [no 48 (by decide)])⟩, ?_, ?_, ?_, ?_, ?_, ?_, ?_⟩
      · unfold shOK
        rw [no 48 (by decide), no 1 (by decide), no 4 (by decide), no 13 (by decide), no 49 (by decide), no 50 (by decide), no 143 (by decide)]
        exact hsh
      · rw [fN.2 3 (by decide) (by decide) (by decide), l52]; rfl
      · rw [fN.2 4 (by decide) (by decide) (by decide), l52]; rfl
      · rw [fN.2 13 (by decide) (by decide) (by decide), l52]; rfl
      · rw [fN.2 14 (by decide) (by decide) (by decide), l52]; rfl
      · rw [fN.2 15 (by decide) (by decide) (by decide), l52]; rfl
      · rw [fN.2 17 (by decide) (by decide) (by decide), l52]; rfl
    have fJ : ∀ c, c ≠ 60 → up2 J 60 16 0 c = J c := fun c hc => up2_rn _ _ _ _ _ hc
    have d12 : dK n (I 5) pr ≤ 12 := Nat.le_trans (cN_le _ _) h12
    rw [lpw_128_69, lpw_131_0, hS.2.1]
    by_cases g8 : dK n (I 5) pr ≤ 8
    · rw [if_pos (by rw [zIr_le (c := 8) (by decide) (by omega)]; exact g8)]
      simp only [tl_some]
      rw [lpw_128_73, if_pos rfl]
      -- the first one
      have first : ∀ d k, k + d = dK n (I 5) pr → ∀ N ch, FrS 60 66 L N → (∀ j, j < 8 → j < dK n (I 5) pr → N 63 j = ch j) → (∀ j, j < dK n (I 5) pr → ch j = if j < k then svC n (I 5) pr 0 j else -1) → SI n m (I 4) (I 5) (I 12) (I 13) pr ch (N 60) (N 61) (N 62) (N 64) (N 65) (N 66) → sm_wp X 128 79 [some (.ref 60), none, some (.int (zI k)), none] [] (sM mo G N (up2 J 60 16 0)) Q := by
        intro d
        induction d with
        | zero =>
          intro k hk N ch fN n55 hch hN
          have : k = dK n (I 5) pr := by omega
          subst this
          obtain ⟨q1, q2, q3, q4, q5, q6, q7, q8⟩ := gen N fN
          rw [lpw_128_79, hN.2.1, if_pos (by rw [zI_le (by omega) (by omega)]; exact Nat.le_refl _)]
          have e : ∀ j, j < dK n (I 5) pr → ch j = svC n (I 5) pr 0 j := fun j hj => by rw [hch j hj, if_pos hj]
          refine cw_128l hn h12 hm h6m hp h3 hW hB g8 hQ (rws n (I 5) pr) 0 (by omega) rws_pos mo N _ q1 fJ q2 q3 q4 (si_ch hN (fun s => ?_)) (fun j hj => by rw [n55 j (by omega) hj]; exact e j hj) ⟨q5, q6, q7, fun k hk => ?_, q8⟩
          · unfold gtC
            rw [gsm_c (fun j hj => (e j (Nat.lt_of_lt_of_le hj (Nat.min_le_right _ _))).symm)]
          · rw [up2_ss, lb_0]
            exact ⟨fun e => (by cases e), fun e => absurd e.choose_spec.1 (Nat.not_lt_zero _)⟩
        | succ d ih =>
          intro k hk N ch fN n55 hch hN
          have no : ∀ c, c < 60 ∨ 67 < c → N c = I c := fun c hc => (fN.1 c (by omega)).trans (lo c (by omega))
          have kD : k < dK n (I 5) pr := by omega
          rw [lpw_128_79, hN.2.1, if_neg (by rw [zI_le (by omega) (by omega)]; omega), if_neg (by rw [zIl_le (c := 8) (by decide) (by omega)]; show ¬ 8 ≤ k; omega), cw_132 (s := 0) (by omega) ((hN.2.2.1 k (by omega) kD).2) (by decide) (by decide)]
          simp only [tl_some]
          have z6 : 0 < cN (bt (clB n (I 5) pr k)) 6 := rd_pos k kD
          have np := nt_p z6
          have nx0 : nxC (clB n (I 5) pr k) (cN (bt (clB n (I 5) pr k)) 0) = zI (nt (bt (clB n (I 5) pr k)) 6 0) := by
            unfold nxC
            rw [show cN (bt (clB n (I 5) pr k)) 0 = 0 from rfl, if_pos z6]
          have ck : ch k = -1 := by rw [hch k kD, if_neg (Nat.lt_irrefl _)]
          rw [nx0, lpw_128_101]
          refine cw_133 (I := N) (n := n) (m := m) (pr := pr) (ch := ch) (by omega) (by rw [no 5 (by decide)]; exact kD) np.2.1 h12 (by rw [no 13 (by decide)]; exact hW) (by rw [no 12 (by decide)]; exact hB) (by rw [no 4 (by decide), no 5 (by decide), no 12 (by decide), no 13 (by decide)]; exact hN) (by rw [no 5 (by decide)]; exact n55) (Or.inl ck) ?_
          intro P fP p55 hP
          rw [no 5 (by decide)] at p55
          rw [no 4 (by decide), no 5 (by decide), no 12 (by decide), no 13 (by decide)] at hP
          simp only [tl_none]
          rw [lpw_128_104, show zI k + 1 = zI (k + 1) from zIr_add 1 k]
          refine ih (k + 1) (by omega) P _ (FrS_t fN fP) p55 (fun j hj => ?_) hP
          rw [va_ap]
          by_cases g1 : j = k
          · subst g1
            rw [if_pos rfl, if_pos (Nat.lt_succ_self _)]
            unfold svC sv
            rw [dg_0]
          · rw [if_neg g1, hch j hj]
            by_cases g2 : j < k
            · rw [if_pos g2, if_pos (by omega)]
            · rw [if_neg g2, if_neg (by omega)]
      exact first (dK n (I 5) pr) 0 (by omega) K _ fK k55 (fun j hj => by rw [if_neg (Nat.not_lt_zero _)]) hS
    · rw [if_neg (by rw [zIr_le (c := 8) (by decide) (by omega)]; exact g8)]
      simp only [tl_some]
      rw [lpw_128_73, if_neg (by decide)]
      obtain ⟨q1, q2, q3, q4, q5, q6, q7, q8⟩ := gen K fK
      exact hQ mo K _ q1 fJ q2 q3 q4 ⟨hS.1, hS.2.1, fun k a b => (hS.2.2.1 k a b).1, fun _ => ⟨q6, q8⟩, fun e => absurd e g8⟩
  rw [lpw_128_0]
  by_cases c1 : I 60 3 = pr
  · rw [if_neg (fun e => e c1)]
    by_cases c2 : I 60 4 = I 1 4
    · rw [if_neg (fun e => e c2)]
      exact hQ mo I J ⟨fun _ _ _ _ _ _ => rfl, Or.inl rfl⟩ (fun _ _ => rfl) hsh c1 c2 (hca c1 c2)
    · rw [if_pos c2]
      exact run
  · rw [if_pos c1]
    exact run
end T5
