/-! The first line that holds; why, tries. -/
def okl (nv : Nat → Int64) (c vb le : Nat → Nat) (ho : Bool) (i : Nat) : Bool := (decide (vb i = 3) == ho) && (decide (¬ lval nv c (ls le i) (le i) = -9223372036854775808) && decide (¬ lval nv c (ls le i) (le i) = 0))
def frs (P : Nat → Bool) : Nat → Nat → Int32
  | 0, _ => -1
  | d + 1, i => if P i = true then zI i else frs P d (i + 1)
def hoI (ho : Bool) : Int32 := if ho = true then 1 else 0
theorem okl_y {nv : Nat → Int64} {c vb le : Nat → Nat} {ho : Bool} {i : Nat} (h : decide (vb i = 3) = ho) (h1 : ¬ lval nv c (ls le i) (le i) = -9223372036854775808) (h2 : ¬ lval nv c (ls le i) (le i) = 0) : okl nv c vb le ho i = true := by
  unfold okl
  rw [h, decide_eq_true h1, decide_eq_true h2]
  cases ho <;> rfl
theorem okl_n {nv : Nat → Int64} {c vb le : Nat → Nat} {ho : Bool} {i : Nat} (h : ¬ decide (vb i = 3) = ho ∨ lval nv c (ls le i) (le i) = -9223372036854775808 ∨ lval nv c (ls le i) (le i) = 0) : ¬ okl nv c vb le ho i = true := by
  unfold okl
  intro e
  have e := (Bool.and_eq_true _ _).mp e
  have e2 := (Bool.and_eq_true _ _).mp e.2
  rcases h with h | h | h
  · exact h (eq_of_beq e.1)
  · exact (decide_eq_true_iff.mp e2.1) h
  · exact (decide_eq_true_iff.mp e2.2) h
theorem inv_e {c : Nat} {mo : Bool} {G : Nat × Nat} {I V : Nat → Nat → Int32} {J J' : Nat → Nat → Int64} (h : inv c mo G I J) (hd : ∀ d, ¬ d = 45 → ¬ d = 81 → V d = I d) (hj : ∀ j, ¬ j = 2 → ¬ j = 63 → V 81 j = I 81 j) (j52 : J' 52 = J 52) (j60 : J' 60 = J 60) : inv (c + 1) mo G V J' := by
  obtain ⟨n, m, t, p, q, r, ch, ln, hN, hE, hV, hY, hG, hK, hP, hS, hA, hT, hF, hB, hC, hD, hD2, hX, hZ⟩ := h
  refine ⟨n, m, t, p, q, r, ch, ln, ?_⟩
  simp (decide := true) only [hd, hj, j52, j60]
  exact ⟨hN, hE, hV, hY, hG, ivK_s hK, hP, hS, hA, hT, hF, hB, hC, hD, hD2, hX, ivZ_s hZ⟩
section W1
variable {X : (Nat → Int32) × Nat} {mo : Bool} {G : Nat × Nat} {I : Nat → Nat → Int32} {J : Nat → Nat → Int64} {Q : Option Value → sm_M → Prop}
/-- what the class's delegates change -/
def frD (I K : Nat → Nat → Int32) (J J' : Nat → Nat → Int64) : Prop := (∀ d, ¬ d = 45 → K d = I d) ∧ (∀ j, ¬ j = 5 → K 45 j = I 45 j) ∧ ∀ d, ¬ d = 46 → ¬ d = 47 → J' d = J d
/-- what the reference's lines change -/
def frL (I K : Nat → Nat → Int32) (J J' : Nat → Nat → Int64) : Prop := (∀ d, ¬ d = 81 → K d = I d) ∧ (∀ j, ¬ j = 63 → K 81 j = I 81 j) ∧ ∀ d, ¬ d = 121 → J' d = J d
theorem c_24l {s m : Nat} {c gb vb le : Nat → Nat} {nv : Nat → Int64} {ho : Bool} (hs : s < 6) (hb : bkP s m c gb vb le (I 22) (I 23) (I 24) (I 25) (I 94) (I 95) (I 96) (I 97) (I 98) (I 99) (I 100) (I 101) (I 102)) (hn : ∀ i, i < 12 → bnd (nv i))
    (hQ : ∀ L J', frD I L J J' → Q (some (.int (frs (okl nv c vb le ho) m 0))) (sM mo G L J')) : ∀ d i K J', i + d = m → frs (okl nv c vb le ho) d i = frs (okl nv c vb le ho) m 0 → frD I K J J' → (∀ a, a < 12 → J' 46 a = nv a) → sm_wp X 24 27 [some (.ref 45), none, some (.int (hoI ho)), some (.int (zI s)), some (.int (zI m)), some (.int (zI i)), none, none] [] (sM mo G K J') Q := by
  intro d
  induction d with
  | zero =>
    intro i K J' hi hf st hJ
    have hm := hb.2.2.1
    rw [lp_24_27, if_pos (by rw [zI_le (by omega) (by omega)]; omega)]
    have q := hQ K J' st
    rw [← hf] at q
    exact q
  | succ d ih =>
    intro i K J' hi hf st hJ
    have hm := hb.2.2.1
    have f1 := st.1
    have hbK : bkP s m c gb vb le (K 22) (K 23) (K 24) (K 25) (K 94) (K 95) (K 96) (K 97) (K 98) (K 99) (K 100) (K 101) (K 102) := by
      rw [f1 22 (by decide), f1 23 (by decide), f1 24 (by decide), f1 25 (by decide), f1 94 (by decide), f1 95 (by decide), f1 96 (by decide), f1 97 (by decide), f1 98 (by decide), f1 99 (by decide), f1 100 (by decide), f1 101 (by decide), f1 102 (by decide)]
      exact hb
    have hL := hbK.2.2.2.2 i (by omega)
    have ve := vrb_e (I := K) hs hbK.1 hm (show i < m by omega) hL.1
    have v3 := hL.2.2.1
    have fr : frs (okl nv c vb le ho) (d + 1) i = if okl nv c vb le ho i = true then zI i else frs (okl nv c vb le ho) d (i + 1) := rfl
    rw [fr] at hf
    have nxt : ∀ K2 J2, frD I K2 J J2 → (∀ a, a < 12 → J2 46 a = nv a) → ¬ okl nv c vb le ho i = true → sm_wp X 24 27 [some (.ref 45), none, some (.int (hoI ho)), some (.int (zI s)), some (.int (zI m)), some (.int (zI (i + 1))), none, none] [] (sM mo G K2 J2) Q := fun K2 J2 g1 g2 g3 => by
      rw [if_neg g3] at hf
      exact ih (i + 1) K2 J2 (by omega) hf g1 g2
    have val : decide (vb i = 3) = ho → sm_wp X 26 0 [some (.ref 45), some (.int (zI s)), some (.int (zI i)), none, none, none, none] [] (sM mo G K J') (fun v M => sm_wp X 24 64 [some (.ref 45), none, some (.int (hoI ho)), some (.int (zI s)), some (.int (zI m)), some (.int (zI i)), none, none] (v.toList ++ []) M Q) := by
      intro hho
      refine c_26 hs hbK (by omega) hn hJ ?_
      intro L J2 l1 l2 l3
      have fL : frD I L J J2 := ⟨fun d hd => by rw [l1 d hd]; exact f1 d hd, fun j hj => by rw [l2 j hj]; exact st.2.1 j hj, fun d a b => by rw [l3 d b]; exact st.2.2 d a b⟩
      have jL : ∀ a, a < 12 → J2 46 a = nv a := fun a ha => by rw [l3 46 (by decide)]; exact hJ a ha
      simp only [tl_some]
      rw [lp_24_64, show zI i + 1 = zI (i + 1) from zIr_add 1 i]
      by_cases g1 : lval nv c (ls le i) (le i) = -9223372036854775808
      · rw [if_pos ((lg_cmp_eq _ _).mpr g1)]
        exact nxt L J2 fL jL (okl_n (Or.inr (Or.inl g1)))
      · rw [if_neg (fun e => g1 ((lg_cmp_eq _ _).mp e))]
        by_cases g2 : lval nv c (ls le i) (le i) = 0
        · rw [if_pos ((lg_cmp_eq _ _).mpr g2)]
          exact nxt L J2 fL jL (okl_n (Or.inr (Or.inr g2)))
        · rw [if_neg (fun e => g2 ((lg_cmp_eq _ _).mp e))]
          have q := hQ L J2 fL
          rw [if_pos (okl_y hho g1 g2)] at hf
          rw [← hf] at q
          exact q
    rw [lp_24_27, if_neg (by rw [zI_le (by omega) (by omega)]; omega), ve, show zI i + 1 = zI (i + 1) from zIr_add 1 i]
    by_cases e3 : vb i = 3
    · rw [if_neg (fun e => e (by rw [e3]; rfl))]
      cases ho with
      | true =>
        rw [if_neg (fun e => e rfl)]
        exact val (by rw [decide_eq_true e3])
      | false =>
        rw [if_pos (by decide)]
        exact nxt K J' st hJ (okl_n (Or.inl (by rw [decide_eq_true e3]; decide)))
    · rw [if_pos (by rw [zIr_eq (c := 3) (by decide) (by omega)]; exact e3)]
      cases ho with
      | true =>
        rw [if_pos (by decide)]
        exact nxt K J' st hJ (okl_n (Or.inl (by rw [decide_eq_false e3]; decide)))
      | false =>
        rw [if_neg (fun e => e rfl)]
        exact val (by rw [decide_eq_false e3])
/-- of which states a paper is -/
def ppF (np n m p t fr : Nat) (I : Nat → Nat → Int32) : Prop := nmC n m np I ∧ p < np ∧ I 33 p = zI t ∧ t < m ∧ I 32 p = zI fr ∧ fr < m ∧ I 114 p = I 40 p
/-- what the class needs of it -/
def clF (np n m p t fr : Nat) (I : Nat → Nat → Int32) : Prop := (I 1 0 = zI n ∧ n ≤ 12) ∧ (I 1 1 = zI m ∧ m ≤ 6) ∧ (I 31 0 = zI np ∧ np ≤ 60) ∧ p < np ∧ I 33 p = zI t ∧ t < m ∧ I 32 p = zI fr ∧ fr < m
theorem pp_cl {np n m p t fr : Nat} {I : Nat → Nat → Int32} (h : ppF np n m p t fr I) : clF np n m p t fr I := ⟨⟨h.1.1.1, h.1.1.2.2⟩, h.1.2.1, h.1.2.2.1, h.2.1, h.2.2.1, h.2.2.2.1, h.2.2.2.2.1, h.2.2.2.2.2.1⟩
theorem c_24 {n m np p t fr ml : Nat} {c gb vb le : Nat → Nat} {ho : Bool} (hp : clF np n m p t fr I) (hb : bkP t ml c gb vb le (I 22) (I 23) (I 24) (I 25) (I 94) (I 95) (I 96) (I 97) (I 98) (I 99) (I 100) (I 101) (I 102))
    (hQ : ∀ L J', frD I L J J' → Q (some (.int (frs (okl (fun a => (nmv I n t fr p a).toInt64) c vb le ho) ml 0))) (sM mo G L J')) : sm_wp X 24 0 [some (.ref 45), some (.int (zI p)), some (.int (hoI ho)), none, none, none, none, none] [] (sM mo G I J) Q := by
  obtain ⟨⟨n1, n12⟩, ⟨m1, m6⟩, ⟨p1, p60⟩, hlt, ht, htm, hf, hfm⟩ := hp
  rw [lp_24_0, aP_e p1 p60 hlt, ht, lns_e (show t < 6 by omega) hb.1]
  refine c_25 n1 n12 m1 m6 p1 p60 hlt ht htm hf hfm ?_
  intro J' j1 j2
  simp only [tl_none]
  rw [lp_24_24]
  exact c_24l (by omega) hb (fun a _ => i32_b _) hQ ml 0 I J' (by omega) rfl ⟨fun _ _ => rfl, fun _ _ => rfl, fun d a _ => j1 d a⟩ j2
theorem r_254l {U : Nat → Nat → Int32} {n m np p t fr ml : Nat} {c gb vb le : Nat → Nat} {ho : Bool} (hU : ∀ d, 81 < d → U d = I d) (hUj : ∀ j, ¬ j = 63 → U 81 j = I 81 j) (hp : ppF np n m p t fr I) (hb : bkP t ml c gb vb le (I 22) (I 23) (I 24) (I 25) (I 94) (I 95) (I 96) (I 97) (I 98) (I 99) (I 100) (I 101) (I 102))
    (hQ : ∀ L J', frL U L J J' → Q (some (.int (frs (okl (fun a => (nmv I n t fr p a).toInt64) c vb le ho) ml 0))) (sM mo G L J')) : ∀ d i K J', i + d = ml → frs (okl (fun a => (nmv I n t fr p a).toInt64) c vb le ho) d i = frs (okl (fun a => (nmv I n t fr p a).toInt64) c vb le ho) ml 0 → frL U K J J' → sm_wp X 254 10 [some (.ref 81), some (.int (zI p)), some (.int (hoI ho)), some (.int (zI t)), some (.int (zI i))] [] (sM mo G K J') Q := by
  obtain ⟨hC, hlt, ht, htm, hf, hfm, h114⟩ := hp
  have m6 : m ≤ 6 := hC.2.1.2
  have p60 : np ≤ 60 := hC.2.2.1.2
  have hm := hb.2.2.1
  intro d
  induction d with
  | zero =>
    intro i K J' hi hf' st
    rw [lp_254_10, zI_vp (by omega), zI_cn (by omega), st.1 102 (by decide), hU 102 (by decide), hb.2.1, if_pos (by rw [zI_le (by omega) (by omega)]; omega)]
    have q := hQ K J' st
    rw [← hf'] at q
    exact ⟨by omega, q⟩
  | succ d ih =>
    intro i K J' hi hf' st
    have f1 := st.1
    have kI : ∀ d, 81 < d → K d = I d := fun d hd => by rw [f1 d (by omega)]; exact hU d hd
    have kJ : ∀ j, ¬ j = 63 → K 81 j = I 81 j := fun j hj => by rw [st.2.1 j hj]; exact hUj j hj
    have hL := hb.2.2.2.2 i (by omega)
    have v3 := hL.2.2.1
    have fr' : frs (okl (fun a => (nmv I n t fr p a).toInt64) c vb le ho) (d + 1) i = if okl (fun a => (nmv I n t fr p a).toInt64) c vb le ho i = true then zI i else frs (okl (fun a => (nmv I n t fr p a).toInt64) c vb le ho) d (i + 1) := rfl
    rw [fr'] at hf'
    have nxt : ∀ K2 J2, frL U K2 J J2 → ¬ okl (fun a => (nmv I n t fr p a).toInt64) c vb le ho i = true → sm_wp X 254 10 [some (.ref 81), some (.int (zI p)), some (.int (hoI ho)), some (.int (zI t)), some (.int (zI (i + 1)))] [] (sM mo G K2 J2) Q := fun K2 J2 g1 g3 => by
      rw [if_neg g3] at hf'
      exact ih (i + 1) K2 J2 (by omega) hf' g1
    have val : decide (vb i = 3) = ho → sm_wp X 255 0 [some (.ref 81), some (.int (zI p)), some (.int (zI i)), none, none] [] (sM mo G K J') (fun v M => sm_wp X 254 53 [some (.ref 81), some (.int (zI p)), some (.int (hoI ho)), some (.int (zI t)), some (.int (zI i))] (v.toList ++ []) M Q) := by
      intro hho
      rw [lp_255_0]
      refine r_256 (I := I) (nm := nmv I n t fr p) kI (show t < 6 by omega) (show p < 60 by omega) hb (by omega) (by rw [hC.2.2.2.2.1.1]; exact ht) (fun K2 J2 R a g1 g2 ha hR => r_257 hC hlt ht htm hf hfm h114 (fun d hd => by rw [g1 d (by omega)]; exact kI d hd) (fun j hj => by rw [g2 j hj]; exact kJ j hj) ha hR) ?_
      intro L J2 l1 l2 l3
      have fL : frL U L J J2 := ⟨fun d hd => by rw [l1 d hd]; exact f1 d hd, fun j hj => by rw [l2 j hj]; exact st.2.1 j hj, fun d hd => by rw [l3 d hd]; exact st.2.2 d hd⟩
      simp only [tl_some]
      rw [lp_255_6]
      by_cases g1 : lval (fun a => (nmv I n t fr p a).toInt64) c (ls le i) (le i) = -9223372036854775808
      · rw [if_pos ((lg_cmp_eq _ _).mpr g1)]
        simp only [tl_some]
        rw [lp_254_53, if_pos rfl, show zI i + 1 = zI (i + 1) from zIr_add 1 i]
        exact nxt L J2 fL (okl_n (Or.inr (Or.inl g1)))
      · rw [if_neg (fun e => g1 ((lg_cmp_eq _ _).mp e))]
        by_cases g2 : lval (fun a => (nmv I n t fr p a).toInt64) c (ls le i) (le i) = 0
        · rw [if_pos ((lg_cmp_eq _ _).mpr g2)]
          simp only [tl_some]
          rw [lp_254_53, if_pos rfl, show zI i + 1 = zI (i + 1) from zIr_add 1 i]
          exact nxt L J2 fL (okl_n (Or.inr (Or.inr g2)))
        · rw [if_neg (fun e => g2 ((lg_cmp_eq _ _).mp e))]
          simp only [tl_some]
          rw [lp_254_53, if_neg (by decide)]
          have q := hQ L J2 fL
          rw [if_pos (okl_y hho g1 g2)] at hf'
          rw [← hf'] at q
          exact q
    rw [lp_254_10, zI_vp (by omega), zI_cn (by omega), f1 102 (by decide), hU 102 (by decide), hb.2.1, if_neg (by rw [zI_le (by omega) (by omega)]; omega), show (16 : Int32) * zI t = zI (16 * t) from zIl_mul 16 t, zI_add, zI_vp (by omega), zI_cn (by omega), kI 99 (by decide), hL.2.1, show zI i + 1 = zI (i + 1) from zIr_add 1 i]
    refine ⟨by omega, by omega, ?_⟩
    by_cases e3 : vb i = 3
    · rw [if_neg (fun e => e (by rw [e3]; rfl))]
      cases ho with
      | true =>
        rw [if_neg (fun e => e rfl)]
        exact val (by rw [decide_eq_true e3])
      | false =>
        rw [if_pos (by decide)]
        exact nxt K J' st (okl_n (Or.inl (by rw [decide_eq_true e3]; decide)))
    · rw [if_pos (by rw [zIr_eq (c := 3) (by decide) (by omega)]; exact e3)]
      cases ho with
      | true =>
        rw [if_pos (by decide)]
        exact nxt K J' st (okl_n (Or.inl (by rw [decide_eq_false e3]; decide)))
      | false =>
        rw [if_neg (fun e => e rfl)]
        exact val (by rw [decide_eq_false e3])
theorem r_254 {U : Nat → Nat → Int32} {n m np p t fr ml : Nat} {c gb vb le : Nat → Nat} {ho : Bool} (hU : ∀ d, 81 < d → U d = I d) (hUj : ∀ j, ¬ j = 63 → U 81 j = I 81 j) (hp : ppF np n m p t fr I) (hb : bkP t ml c gb vb le (I 22) (I 23) (I 24) (I 25) (I 94) (I 95) (I 96) (I 97) (I 98) (I 99) (I 100) (I 101) (I 102))
    (hQ : ∀ L J', frL U L J J' → Q (some (.int (frs (okl (fun a => (nmv I n t fr p a).toInt64) c vb le ho) ml 0))) (sM mo G L J')) : sm_wp X 254 0 [some (.ref 81), some (.int (zI p)), some (.int (hoI ho)), none, none] [] (sM mo G U J) Q := by
  have hp' := hp
  obtain ⟨hC, hlt, ht, htm, hf, hfm, h114⟩ := hp'
  have p60 : np ≤ 60 := hC.2.2.1.2
  rw [lp_254_0, zI_vp (by omega), zI_cn (by omega), hU 109 (by decide), hC.2.2.2.2.1.1, ht]
  exact ⟨by omega, r_254l hU hUj hp hb hQ ml 0 U J (by omega) rfl ⟨fun _ _ => rfl, fun _ _ => rfl, fun _ _ => rfl⟩⟩
/-- the names don't see what a delegate or a line changes -/
theorem nmv_c {I K : Nat → Nat → Int32} (h : ∀ d, ¬ d = 45 → ¬ d = 81 → K d = I d) (n t fr p a : Nat) : nmv K n t fr p a = nmv I n t fr p a := by
  unfold nmv
  rw [h 13 (by decide) (by decide), h 37 (by decide) (by decide), h 38 (by decide) (by decide), h 2 (by decide) (by decide), h 3 (by decide) (by decide), h 4 (by decide) (by decide), h 12 (by decide) (by decide), h 10 (by decide) (by decide), h 1 (by decide) (by decide), h 39 (by decide) (by decide), h 40 (by decide) (by decide)]
end W1
