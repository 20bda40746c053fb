section
/-! Settlements: weighed one after the other. -/
theorem bst_p {P : Nat → Prop} {ls sm : Nat → Nat} : ∀ {v u : Nat}, bst P ls sm v = some u → u < v ∧ P u := by
  intro v
  induction v with
  | zero => intro u h; cases h
  | succ v ih =>
    intro u h
    unfold bst at h
    by_cases g : pB (P v ∧ bttr ls sm (bst P ls sm v) v) = true
    · rw [if_pos g] at h
      cases h
      exact ⟨Nat.lt_succ_self _, (pB_t.mp g).1⟩
    · rw [if_neg g] at h
      have := ih h
      exact ⟨by omega, this.2⟩
theorem lsG_b (m : Nat) (r12 : Nat → Int32) (pr : Int32) (g : Nat → Nat) : ∀ k, lsG m r12 pr g k ≤ 1188 := by
  intro k
  induction k with
  | zero => exact Nat.le_refl _
  | succ k ih =>
    show (if bt pr k = true then (if g k - bdN m r12 k < lsG m r12 pr g k then g k - bdN m r12 k else lsG m r12 pr g k) else lsG m r12 pr g k) ≤ 1188
    split
    · split <;> omega
    · exact ih
theorem smG_b {pr : Int32} {g : Nat → Nat} (h : ∀ s, g s ≤ 1188) : ∀ k, smG pr g k ≤ 1188 * k := by
  intro k
  induction k with
  | zero => exact Nat.le_refl _
  | succ k ih =>
    have := h k
    show (if bt pr k = true then smG pr g k + g k else smG pr g k) ≤ _
    split <;> omega
theorem bt_kpI (pr : Int32) (bd g : Nat → Nat) : ∀ k, k ≤ 6 → ∀ s, bt (kpI pr bd g k) s = (decide (s < k) && (bt pr s && decide (bd s ≤ g s))) := by
  intro k
  induction k with
  | zero =>
    intro _ s
    rw [decide_eq_false (Nat.not_lt_zero _), Bool.false_and]
    exact bt_0 s
  | succ k ih =>
    intro hk s
    have e : kpI pr bd g (k + 1) = if bt pr k = true ∧ bd k ≤ g k then kpI pr bd g k ||| b1 k else kpI pr bd g k := rfl
    have i := ih (by omega) s
    rw [e]
    by_cases s32 : s < 32
    · by_cases c : bt pr k = true ∧ bd k ≤ g k
      · rw [if_pos c, bt_or, i, bt_b1 k s (by omega) s32]
        by_cases g2 : s = k
        · subst g2
          rw [decide_eq_true (Nat.lt_succ_self _), c.1, decide_eq_true c.2, decide_eq_true rfl, Bool.or_true]; rfl
        · rw [decide_eq_false g2, Bool.or_false]
          by_cases g3 : s < k
          · rw [decide_eq_true g3, decide_eq_true (show s < k + 1 by omega)]
          · rw [decide_eq_false g3, decide_eq_false (show ¬ s < k + 1 by omega)]
      · rw [if_neg c, i]
        by_cases g2 : s = k
        · subst g2
          rw [decide_eq_false (Nat.lt_irrefl _), Bool.false_and]
          cases c1 : bt pr s with
          | false => rw [Bool.false_and, Bool.and_false]
          | true => rw [decide_eq_false (fun e => c ⟨c1, e⟩), Bool.and_false, Bool.and_false]
        · by_cases g3 : s < k
          · rw [decide_eq_true g3, decide_eq_true (show s < k + 1 by omega)]
          · rw [decide_eq_false g3, decide_eq_false (show ¬ s < k + 1 by omega)]
    · rw [bt_big _ _ (by omega), decide_eq_false (by omega), Bool.false_and]
theorem kpS_e {pr : Int32} {bd g : Nat → Nat} {kp : Int32} (h : kpS pr bd g kp) : kp = kpI pr bd g 6 := bt_ext fun k _ => by rw [h k, bt_kpI pr bd g 6 (Nat.le_refl _)]
theorem kpI_f {m : Nat} {r12 : Nat → Int32} {pr : Int32} {g : Nat → Nat} (h6 : ∀ k, 6 ≤ k → bt pr k = false) : kpI pr (bdN m r12) g 6 = pr ↔ frC m r12 pr g := by
  constructor
  · intro e s hs hp
    have := bt_kpI pr (bdN m r12) g 6 (Nat.le_refl _) s
    rw [e, hp, decide_eq_true hs, Bool.true_and, Bool.true_and] at this
    exact decide_eq_true_iff.mp this.symm
  · intro e
    apply bt_ext
    intro k hk
    rw [bt_kpI pr (bdN m r12) g 6 (Nat.le_refl _)]
    by_cases g6 : k < 6
    · rw [decide_eq_true g6, Bool.true_and]
      cases c : bt pr k with
      | false => rfl
      | true => rw [decide_eq_true (e k g6 c)]; rfl
    · rw [decide_eq_false g6, h6 k (by omega), Bool.false_and]
theorem kpI_z (pr : Int32) (bd g : Nat → Nat) : ∃ j, j < 64 ∧ kpI pr bd g 6 = zI j := bt_nat (m := 6) (by decide) (fun k hk => by rw [bt_kpI pr bd g 6 (Nat.le_refl _), decide_eq_false (by omega), Bool.false_and])
theorem lb_or (a b : Int64) (k : Nat) : lb (a ||| b) k = (lb a k || lb b k) := by simp [lb]
theorem lb_0 (k : Nat) : lb 0 k = false := by simp [lb]
theorem lb_sh : ∀ j k : Fin 64, lb ((1 : Int64) <<< ((zI j.val).toInt64 &&& 63)) k.val = decide (k.val = j.val) := by decide +kernel
def FrW (I K : Nat → Nat → Int32) (lo hi : Nat) : Prop := (∀ c, c ≠ 48 → c ≠ 49 → c ≠ 50 → c ≠ 143 → c ≠ lo → c ≠ hi → K c = I c) ∧ (K 48 1 = I 48 1 ∨ K 48 1 = I 1 4) ∧ ∀ j, j ≠ 13 → j ≠ 14 → j ≠ 15 → j ≠ 17 → j ≠ 18 → K lo j = I lo j
section T4
variable {X : (Nat → Int32) × Nat} {mo : Bool} {G : Nat × Nat} {I : Nat → Nat → Int32} {J : Nat → Nat → Int64} {Q : Option Value → sm_M → Prop}
theorem cs_136 {n m : Nat} {pr : Int32} {ch : Nat → Int32} {g : Nat → Nat} (hg : gtC n (I 4) (I 5) (I 13) pr ch = g) (h12 : n ≤ 12) (hW : okW (I 13)) (hB : ∀ j, ∃ w, w ≤ 999 ∧ I 12 j = zI w)
    (h : SI n m (I 4) (I 5) (I 12) (I 13) pr ch (I 52) (I 53) (I 54) (I 56) (I 57) (I 58)) (hf : frC m (I 12) pr g)
    (hQ1 : ¬ pr = 0 → (I 52 17 < zI (lsG m (I 12) pr g 6) ∨ (zI (lsG m (I 12) pr g 6) = I 52 17 ∧ I 52 18 < zI (smG pr g 6))) → ∀ K, (∀ c, c ≠ 52 → c ≠ 59 → K c = I c) → (∀ j, j ≠ 17 → j ≠ 18 → K 52 j = I 52 j) → K 52 17 = zI (lsG m (I 12) pr g 6) → K 52 18 = zI (smG pr g 6) → (∀ j, j < 8 → K 59 j = I 55 j) → Q none (sM mo G K J))
    (hQ0 : ¬ (¬ pr = 0 ∧ (I 52 17 < zI (lsG m (I 12) pr g 6) ∨ (zI (lsG m (I 12) pr g 6) = I 52 17 ∧ I 52 18 < zI (smG pr g 6)))) → Q none (sM mo G I J)) :
    sm_wp X 136 0 [some (.ref 52), none, none, none, none] [] (sM mo G I J) Q := by
  have gb : ∀ s, g s ≤ 1188 := fun s => by rw [← hg]; exact gtC_b hW h12 s
  have g56 : ∀ s, s < 6 → I 56 s = zI (g s) := fun s hs => by rw [← hg]; exact (h.2.2.2.1 s hs).1
  have g58 : ∀ s, s < 6 → I 58 s = zI (bdN m (I 12) s) := fun s hs => (h.2.2.2.1 s hs).2.2
  have hpr : I 52 2 = pr := h.1
  have copy : ¬ pr = 0 → (I 52 17 < zI (lsG m (I 12) pr g 6) ∨ (zI (lsG m (I 12) pr g 6) = I 52 17 ∧ I 52 18 < zI (smG pr g 6))) → ∀ d k, k + d = 8 → ∀ K, (∀ c, c ≠ 52 → c ≠ 59 → K c = I c) → (∀ j, j ≠ 17 → j ≠ 18 → K 52 j = I 52 j) → K 52 17 = zI (lsG m (I 12) pr g 6) → K 52 18 = zI (smG pr g 6) → (∀ j, j < k → K 59 j = I 55 j) → sm_wp X 136 113 [some (.ref 52), none, none, none, some (.int (zI k))] [] (sM mo G K J) Q := by
    intro c1 c2 d
    induction d with
    | zero =>
      intro k hk K a1 a2 a3 a4 a5
      have : k = 8 := by omega
      subst this
      rw [lp_136_113, if_pos (by decide)]
      exact hQ1 c1 c2 K a1 a2 a3 a4 a5
    | succ d ih =>
      intro k hk K a1 a2 a3 a4 a5
      rw [lp_136_113, if_neg (by rw [zIl_le (c := 8) (by decide) (by omega)]; show ¬ 8 ≤ k; omega), zI_vp (by omega), zI_cn (by omega), show zI k + 1 = zI (k + 1) from zIr_add 1 k]
      refine ⟨by omega, ih (k + 1) (by omega) _ (fun c b1 b2 => by rw [up2_rn _ _ _ _ _ b2]; exact a1 c b1 b2) (fun j b1 b2 => by rw [up2_rn _ _ _ _ _ (by decide)]; exact a2 j b1 b2) (by rw [up2_rn _ _ _ _ _ (by decide)]; exact a3) (by rw [up2_rn _ _ _ _ _ (by decide)]; exact a4) (fun j hj => ?_)⟩
      rw [up2_ra, va_ap]
      by_cases e : j = k
      · rw [if_pos e, e, a1 55 (by decide) (by decide)]
      · rw [if_neg e]; exact a5 j (by omega)
  have go : ¬ pr = 0 → (I 52 17 < zI (lsG m (I 12) pr g 6) ∨ (zI (lsG m (I 12) pr g 6) = I 52 17 ∧ I 52 18 < zI (smG pr g 6))) → sm_wp X 136 113 [some (.ref 52), none, none, none, some (.int 0)] [] (sM mo G (up2 (up2 I 52 17 (zI (lsG m (I 12) pr g 6))) 52 18 (zI (smG pr g 6))) J) Q := by
    intro c1 c2
    refine copy c1 c2 8 0 (by omega) _ (fun c b1 b2 => by rw [up2_rn _ _ _ _ _ b1, up2_rn _ _ _ _ _ b1]) (fun j b1 b2 => by rw [up2_ra, up2_ra, va_ap, if_neg b2, va_ap, if_neg b1]) ?_ ?_ (fun j hj => absurd hj (Nat.not_lt_zero _))
    · rw [up2_ra, up2_ra]; rfl
    · rw [up2_ra, va_ap, if_pos rfl]
  have key : ∀ d s, s + d = 6 → sm_wp X 136 8 [some (.ref 52), some (.int (zI (lsG m (I 12) pr g s))), some (.int (zI (smG pr g s))), some (.int (zI s)), none] [] (sM mo G I J) Q := by
    intro d
    induction d with
    | zero =>
      intro s hs
      have : s = 6 := by omega
      subst this
      rw [lp_136_8, if_pos (by decide), hpr]
      by_cases c1 : I 52 17 < zI (lsG m (I 12) pr g 6)
      · rw [if_pos c1]
        by_cases c2 : pr = 0
        · rw [if_pos c2]; exact hQ0 (fun e => e.1 c2)
        · rw [if_neg c2]; exact go c2 (Or.inl c1)
      · rw [if_neg c1]
        by_cases c3 : zI (lsG m (I 12) pr g 6) = I 52 17
        · rw [if_neg (fun e => e c3)]
          by_cases c4 : zI (smG pr g 6) ≤ I 52 18
          · rw [if_pos c4, ite_self]
            exact hQ0 (fun e => e.2.elim c1 (fun e => absurd e.2 (Int32.not_lt.mpr c4)))
          · rw [if_neg c4]
            by_cases c2 : pr = 0
            · rw [if_pos c2]; exact hQ0 (fun e => e.1 c2)
            · rw [if_neg c2]; exact go c2 (Or.inr ⟨c3, Int32.not_le.mp c4⟩)
        · rw [if_pos c3, ite_self]
          exact hQ0 (fun e => e.2.elim c1 (fun e => c3 e.1))
    | succ d ih =>
      intro s hs
      have s6 : s < 6 := by omega
      rw [lp_136_8, if_neg (by rw [zIl_le (c := 6) (by decide) (by omega)]; show ¬ 6 ≤ s; omega), hpr, show zI s + 1 = zI (s + 1) from zIr_add 1 s]
      have el : lsG m (I 12) pr g (s + 1) = if bt pr s = true then (if g s - bdN m (I 12) s < lsG m (I 12) pr g s then g s - bdN m (I 12) s else lsG m (I 12) pr g s) else lsG m (I 12) pr g s := rfl
      have es : smG pr g (s + 1) = if bt pr s = true then smG pr g s + g s else smG pr g s := rfl
      have lb' := lsG_b m (I 12) pr g s
      have gs := gb s
      by_cases g2 : bt pr s = true
      · have bd := hf s s6 g2
        rw [if_pos g2] at el es
        rw [if_neg (by rw [hb_bt _ _ (by omega)]; exact fun e => e g2), zI_vp (by omega), zI_cn (by omega), g56 s s6, g58 s s6, zI_sub bd, zI_add, ← es]
        refine ⟨s6, ?_⟩
        have e3 : (if zI (g s - bdN m (I 12) s) < zI (lsG m (I 12) pr g s) then zI (g s - bdN m (I 12) s) else zI (lsG m (I 12) pr g s)) = zI (lsG m (I 12) pr g (s + 1)) := by
          rw [el]
          by_cases c : g s - bdN m (I 12) s < lsG m (I 12) pr g s
          · rw [if_pos c, if_pos (by rw [zI_lt (by omega) (by omega)]; exact c)]
          · rw [if_neg c, if_neg (by rw [zI_lt (by omega) (by omega)]; exact c)]
        rw [e3]
        exact ih (s + 1) (by omega)
      · rw [if_neg g2] at el es
        rw [if_pos (by rw [hb_bt _ _ (by omega)]; exact g2), ← el, ← es]
        exact ih (s + 1) (by omega)
  rw [lp_136_0]
  exact key 6 0 (by omega)
theorem cs_134 {n m v : Nat} {pr : Int32} (hn : I 1 0 = zI n) (h12 : n ≤ 12) (hm : I 1 1 = zI m) (h6 : m ≤ 6) (hp : ∀ k, m ≤ k → bt pr k = false) (hW : okW (I 13)) (hB : ∀ j, ∃ w, w ≤ 999 ∧ I 12 j = zI w) (hsh : shOK mo I n m) (h8 : dK n (I 5) pr ≤ 8) (hv : v < 10000)
    (h : SI n m (I 4) (I 5) (I 12) (I 13) pr (svC n (I 5) pr v) (I 52) (I 53) (I 54) (I 56) (I 57) (I 58)) (hc : ∀ j, j < dK n (I 5) pr → I 55 j = svC n (I 5) pr v j) (hR : RI n m (I 4) (I 5) (I 12) (I 13) pr v (I 52) (I 59) (J 52 16))
    (hQ : ∀ mo' K x, FrW I K 52 59 → shOK mo' K n m → RI n m (I 4) (I 5) (I 12) (I 13) pr (v + 1) (K 52) (K 59) x → Q none (sM mo' G K (up2 J 52 16 x))) :
    sm_wp X 134 0 [some (.ref 52)] [] (sM mo G I J) Q := by
  obtain ⟨r1, r2, r3, r4, r5⟩ := hR
  have ek : I 52 12 = kpI pr (bdN m (I 12)) (gv n (I 4) (I 5) (I 13) pr v) 6 := kpS_e h.2.2.2.2
  have p6 : ∀ k, 6 ≤ k → bt pr k = false := fun k hk => hp k (by omega)
  obtain ⟨kj, hkj, ekj⟩ := kpI_z pr (bdN m (I 12)) (gv n (I 4) (I 5) (I 13) pr v)
  have hpr : I 52 2 = pr := h.1
  have bits : ∀ k, k < 64 → (lb (J 52 16 ||| (1 <<< ((I 52 12).toInt64 &&& 63))) k = true ↔ ∃ u, u < v + 1 ∧ kpI pr (bdN m (I 12)) (gv n (I 4) (I 5) (I 13) pr u) 6 = zI k) := by
    intro k hk
    rw [ek, ekj, lb_or, lb_sh ⟨kj, hkj⟩ ⟨k, hk⟩, Bool.or_eq_true, r4 k hk, decide_eq_true_iff]
    constructor
    · rintro (⟨u, hu, e⟩ | e)
      · exact ⟨u, by omega, e⟩
      · exact ⟨v, by omega, by rw [ekj]; exact congrArg zI (show kj = k from (show k = kj from e).symm)⟩
    · rintro ⟨u, hu, e⟩
      by_cases g : u = v
      · subst g
        rw [ekj, zI_eq (by omega) (by omega)] at e
        exact Or.inr e.symm
      · exact Or.inl ⟨u, by omega, e⟩
  have fb : nFr n m (I 4) (I 5) (I 12) (I 13) pr v ≤ v := cN_le _ _
  have sb : nSt n m (I 4) (I 5) (I 12) (I 13) pr v ≤ v := cN_le _ _
  have eb : bstS n m (I 4) (I 5) (I 12) (I 13) pr (v + 1) = if pB (isB n m (I 4) (I 5) (I 12) (I 13) pr v ∧ bttr (fun u => lsG m (I 12) pr (gv n (I 4) (I 5) (I 13) pr u) 6) (fun u => smG pr (gv n (I 4) (I 5) (I 13) pr u) 6) (bstS n m (I 4) (I 5) (I 12) (I 13) pr v) v) = true then some v else bstS n m (I 4) (I 5) (I 12) (I 13) pr v := rfl
  rw [lp_134_0]
  by_cases gf : frC m (I 12) pr (gv n (I 4) (I 5) (I 13) pr v)
  · rw [if_pos (by rw [ek, hpr]; exact (kpI_f p6).mpr gf)]
    have nf : nFr n m (I 4) (I 5) (I 12) (I 13) pr (v + 1) = nFr n m (I 4) (I 5) (I 12) (I 13) pr v + 1 := cN_p (pB_t.mpr gf)
    generalize hL : up2 (up2 I 52 13 (I 52 13 + 1)) 52 14 (I 52 14 + 1) = L
    have l52 : L 52 = va_up (va_up (I 52) 13 (zI (v + 1))) 14 (zI (nFr n m (I 4) (I 5) (I 12) (I 13) pr (v + 1))) := by
      rw [← hL, r1, r2, nf, show zI v + 1 = zI (v + 1) from zIr_add 1 v, show zI (nFr n m (I 4) (I 5) (I 12) (I 13) pr v) + 1 = zI (nFr n m (I 4) (I 5) (I 12) (I 13) pr v + 1) from zIr_add 1 _]
      simp (decide := true) only [up2_ra, up2_rn, va_ap, ne_eq, if_false, if_true, not_false_eq_true]
    have lo : ∀ c, c ≠ 52 → L c = I c := fun c hc => by rw [← hL, up2_rn _ _ _ _ _ hc, up2_rn _ _ _ _ _ hc]
    have hSL : SI n m (L 4) (L 5) (L 12) (L 13) pr (svC n (I 5) pr v) (L 52) (L 53) (L 54) (L 56) (L 57) (L 58) := by
      rw [lo 4 (by decide), lo 5 (by decide), lo 12 (by decide), lo 13 (by decide), lo 53 (by decide), lo 54 (by decide), lo 56 (by decide), lo 57 (by decide), lo 58 (by decide), l52]
      exact h
    have shL : shOK mo L n m := by
      unfold shOK
      rw [lo 48 (by decide), lo 1 (by decide), lo 4 (by decide), lo 13 (by decide), lo 49 (by decide), lo 50 (by decide), lo 143 (by decide)]
      exact hsh
    refine cs_135 (I := L) (n := n) (m := m) (pr := pr) (ch := svC n (I 5) pr v) (by rw [lo 1 (by decide)]; exact hn) h12 (by rw [lo 1 (by decide)]; exact hm) h6 hp (by rw [lo 13 (by decide)]; exact hW) shL hSL ?_
    intro mo' K z fK shK hz
    rw [lo 4 (by decide), lo 5 (by decide), lo 13 (by decide)] at hz
    simp only [tl_some]
    have k52 : K 52 = L 52 := fK.1 52 (by decide) (by decide) (by decide) (by decide)
    have k59 : K 59 = I 59 := (fK.1 59 (by decide) (by decide) (by decide) (by decide)).trans (lo 59 (by decide))
    have fr1 : ∀ c, c ≠ 48 → c ≠ 49 → c ≠ 50 → c ≠ 143 → c ≠ 52 → K c = I c := fun c a1 a2 a3 a4 a5 => (fK.1 c a1 a2 a3 a4).trans (lo c a5)
    have fr2 : K 48 1 = I 48 1 ∨ K 48 1 = I 1 4 := by
      have := fK.2
      rw [lo 48 (by decide), lo 1 (by decide)] at this
      exact this
    rcases hz with ⟨rfl, hz⟩ | ⟨rfl, hz⟩
    · have ns : nSt n m (I 4) (I 5) (I 12) (I 13) pr (v + 1) = nSt n m (I 4) (I 5) (I 12) (I 13) pr v + 1 := cN_p (pB_t.mpr ⟨gf, hz⟩)
      rw [lp_134_51, if_neg (by decide)]
      generalize hN : up2 K 52 15 (K 52 15 + 1) = N
      have n52 : N 52 = va_up (L 52) 15 (zI (nSt n m (I 4) (I 5) (I 12) (I 13) pr (v + 1))) := by
        rw [← hN, up2_ra, k52, ns]
        have : L 52 15 + 1 = zI (nSt n m (I 4) (I 5) (I 12) (I 13) pr v + 1) := by
          rw [l52]
          simp (decide := true) only [va_ap, if_false, if_true]
          rw [r3]
          exact zIr_add 1 _
        rw [this]
      have no : ∀ c, c ≠ 52 → N c = K c := fun c hc => by rw [← hN, up2_rn _ _ _ _ _ hc]
      have ni : ∀ c, c ≠ 48 → c ≠ 49 → c ≠ 50 → c ≠ 143 → c ≠ 52 → N c = I c := fun c a1 a2 a3 a4 a5 => (no c a5).trans (fr1 c a1 a2 a3 a4 a5)
      have n17 : N 52 17 = I 52 17 ∧ N 52 18 = I 52 18 := by
        rw [n52, l52]
        exact ⟨rfl, rfl⟩
      have shN : shOK mo' N n m := by
        unfold shOK
        rw [no 48 (by decide), no 1 (by decide), no 4 (by decide), no 13 (by decide), no 49 (by decide), no 50 (by decide), no 143 (by decide)]
        exact shK
      have hSN : SI n m (N 4) (N 5) (N 12) (N 13) pr (svC n (I 5) pr v) (N 52) (N 53) (N 54) (N 56) (N 57) (N 58) := by
        rw [ni 4 (by decide) (by decide) (by decide) (by decide) (by decide), ni 5 (by decide) (by decide) (by decide) (by decide) (by decide), ni 12 (by decide) (by decide) (by decide) (by decide) (by decide), ni 13 (by decide) (by decide) (by decide) (by decide) (by decide), ni 53 (by decide) (by decide) (by decide) (by decide) (by decide), ni 54 (by decide) (by decide) (by decide) (by decide) (by decide), ni 56 (by decide) (by decide) (by decide) (by decide) (by decide), ni 57 (by decide) (by decide) (by decide) (by decide) (by decide), ni 58 (by decide) (by decide) (by decide) (by decide) (by decide), n52, l52]
        exact h
      have e4 : N 4 = I 4 := ni 4 (by decide) (by decide) (by decide) (by decide) (by decide)
      have e5 : N 5 = I 5 := ni 5 (by decide) (by decide) (by decide) (by decide) (by decide)
      have e12 : N 12 = I 12 := ni 12 (by decide) (by decide) (by decide) (by decide) (by decide)
      have e13 : N 13 = I 13 := ni 13 (by decide) (by decide) (by decide) (by decide) (by decide)
      have e55 : N 55 = I 55 := ni 55 (by decide) (by decide) (by decide) (by decide) (by decide)
      have e59 : N 59 = I 59 := ni 59 (by decide) (by decide) (by decide) (by decide) (by decide)
      -- better or not
      have bt1 : (I 52 17 < zI (lsG m (I 12) pr (gv n (I 4) (I 5) (I 13) pr v) 6) ∨ (zI (lsG m (I 12) pr (gv n (I 4) (I 5) (I 13) pr v) 6) = I 52 17 ∧ I 52 18 < zI (smG pr (gv n (I 4) (I 5) (I 13) pr v) 6))) ↔ bttr (fun u => lsG m (I 12) pr (gv n (I 4) (I 5) (I 13) pr u) 6) (fun u => smG pr (gv n (I 4) (I 5) (I 13) pr u) 6) (bstS n m (I 4) (I 5) (I 12) (I 13) pr v) v := by
        have lbv := lsG_b m (I 12) pr (gv n (I 4) (I 5) (I 13) pr v) 6
        have sbv := smG_b (pr := pr) (g := gv n (I 4) (I 5) (I 13) pr v) (fun s => gtC_b hW h12 s) 6
        cases e : bstS n m (I 4) (I 5) (I 12) (I 13) pr v with
        | none =>
          rw [e] at r5
          have r5' : I 52 17 = -1 := r5
          refine ⟨fun _ => trivial, fun _ => Or.inl ?_⟩
          rw [r5', Int32.lt_iff_toInt_lt, zI_ti (by omega)]
          show (-1 : Int) < _
          omega
        | some u =>
          rw [e] at r5
          obtain ⟨q1, q2, q3⟩ := r5
          have lbu := lsG_b m (I 12) pr (gv n (I 4) (I 5) (I 13) pr u) 6
          have sbu := smG_b (pr := pr) (g := gv n (I 4) (I 5) (I 13) pr u) (fun s => gtC_b hW h12 s) 6
          rw [q1, q2, zI_lt (by omega) (by omega), zI_eq (by omega) (by omega), zI_lt (by omega) (by omega)]
          rfl
      refine cs_136 (I := N) (n := n) (m := m) (pr := pr) (ch := svC n (I 5) pr v) (g := gv n (I 4) (I 5) (I 13) pr v) (by rw [e4, e5, e13]; rfl) h12 (by rw [e13]; exact hW) (by rw [e12]; exact hB) hSN (by rw [e12]; exact gf) ?_ ?_
      · intro c1 c2 P p1 p2 p17 p18 p59
        rw [e12, n17.1, n17.2] at c2
        rw [e12] at p17
        simp only [tl_none]
        rw [lp_134_68]
        have e : bstS n m (I 4) (I 5) (I 12) (I 13) pr (v + 1) = some v := by
          rw [eb, if_pos (pB_t.mpr ⟨⟨c1, gf, hz⟩, bt1.mp c2⟩)]
        have po : ∀ j, j ≠ 17 → j ≠ 18 → P 52 j = va_up (va_up (va_up (I 52) 13 (zI (v + 1))) 14 (zI (nFr n m (I 4) (I 5) (I 12) (I 13) pr (v + 1)))) 15 (zI (nSt n m (I 4) (I 5) (I 12) (I 13) pr (v + 1))) j := fun j a b => by rw [p2 j a b, n52, l52]
        refine hQ mo' P _ ⟨fun c a1 a2 a3 a4 a5 a6 => (p1 c a5 a6).trans (ni c a1 a2 a3 a4 a5), ?_, fun j a1 a2 a3 a4 a5 => ?_⟩ ?_ ⟨?_, ?_, ?_, bits, ?_⟩
        · rw [p1 48 (by decide) (by decide), no 48 (by decide)]; exact fr2
        · rw [po j a4 a5]
          simp only [va_ap, if_neg a1, if_neg a2, if_neg a3]
        · unfold shOK
          rw [p1 48 (by decide) (by decide), p1 1 (by decide) (by decide), p1 4 (by decide) (by decide), p1 13 (by decide) (by decide), p1 49 (by decide) (by decide), p1 50 (by decide) (by decide), p1 143 (by decide) (by decide)]
          exact shN
        · rw [po 13 (by decide) (by decide)]; rfl
        · rw [po 14 (by decide) (by decide)]; rfl
        · rw [po 15 (by decide) (by decide)]; rfl
        · rw [e]
          refine ⟨p17, p18, fun j hj => ?_⟩
          rw [p59 j (by omega), e55]
          exact hc j hj
      · intro c1
        rw [e12, n17.1, n17.2] at c1
        simp only [tl_none]
        rw [lp_134_68]
        have e : bstS n m (I 4) (I 5) (I 12) (I 13) pr (v + 1) = bstS n m (I 4) (I 5) (I 12) (I 13) pr v := by
          rw [eb, if_neg (fun c => c1 ⟨(pB_t.mp c).1.1, bt1.mpr (pB_t.mp c).2⟩)]
        have po : ∀ j, N 52 j = va_up (va_up (va_up (I 52) 13 (zI (v + 1))) 14 (zI (nFr n m (I 4) (I 5) (I 12) (I 13) pr (v + 1)))) 15 (zI (nSt n m (I 4) (I 5) (I 12) (I 13) pr (v + 1))) j := fun j => by rw [n52, l52]
        refine hQ mo' N _ ⟨fun c a1 a2 a3 a4 a5 a6 => ni c a1 a2 a3 a4 a5, ?_, fun j a1 a2 a3 a4 a5 => ?_⟩ shN ⟨?_, ?_, ?_, bits, ?_⟩
        · rw [no 48 (by decide)]; exact fr2
        · rw [po j]
          simp only [va_ap, if_neg a1, if_neg a2, if_neg a3]
        · rw [po 13]; rfl
        · rw [po 14]; rfl
        · rw [po 15]; rfl
        · rw [e, n17.1, n17.2, e59]; exact r5
    · have ns : nSt n m (I 4) (I 5) (I 12) (I 13) pr (v + 1) = nSt n m (I 4) (I 5) (I 12) (I 13) pr v := cN_q (fun c => hz (pB_t.mp c).2)
      rw [lp_134_51, if_pos rfl]
      have e : bstS n m (I 4) (I 5) (I 12) (I 13) pr (v + 1) = bstS n m (I 4) (I 5) (I 12) (I 13) pr v := by
        rw [eb, if_neg (fun c => hz (pB_t.mp c).1.2.2)]
      refine hQ mo' K _ ⟨fun c a1 a2 a3 a4 a5 a6 => fr1 c a1 a2 a3 a4 a5, fr2, fun j a1 a2 a3 a4 a5 => ?_⟩ shK ⟨?_, ?_, ?_, bits, ?_⟩
      · rw [k52, l52]
        simp only [va_ap, if_neg a1, if_neg a2]
      · rw [k52, l52]; rfl
      · rw [k52, l52]; rfl
      · rw [k52, l52, ns]; exact r3
      · rw [e, k52, l52, k59]; exact r5
  · rw [if_neg (by rw [ek, hpr]; exact fun e => gf ((kpI_f p6).mp e))]
    have nf : nFr n m (I 4) (I 5) (I 12) (I 13) pr (v + 1) = nFr n m (I 4) (I 5) (I 12) (I 13) pr v := cN_q (fun c => gf (pB_t.mp c))
    have ns : nSt n m (I 4) (I 5) (I 12) (I 13) pr (v + 1) = nSt n m (I 4) (I 5) (I 12) (I 13) pr v := cN_q (fun c => gf (pB_t.mp c).1)
    have e : bstS n m (I 4) (I 5) (I 12) (I 13) pr (v + 1) = bstS n m (I 4) (I 5) (I 12) (I 13) pr v := by
      rw [eb, if_neg (fun c => gf (pB_t.mp c).1.2.1)]
    refine hQ mo _ _ ⟨fun c a1 a2 a3 a4 a5 a6 => up2_rn _ _ _ _ _ a5, Or.inl (by rw [up2_rn _ _ _ _ _ (by decide)]), fun j a1 a2 a3 a4 a5 => by rw [up2_ra, va_ap, if_neg a1]⟩ ?_ ⟨?_, ?_, ?_, bits, ?_⟩
    · unfold shOK
      rw [up2_rn _ _ _ _ _ (by decide), up2_rn _ _ _ _ _ (by decide), up2_rn _ _ _ _ _ (by decide), up2_rn _ _ _ _ _ (by decide), up2_rn _ _ _ _ _ (by decide), up2_rn _ _ _ _ _ (by decide), up2_rn _ _ _ _ _ (by decide)]
      exact hsh
    · rw [up2_ra, va_ap, if_pos rfl, r1]; exact zIr_add 1 v
    · rw [nf]; simp (decide := true) only [up2_ra, up2_rn, va_ap, ne_eq, if_false, if_true, not_false_eq_true]; exact r2
    · rw [ns]; simp (decide := true) only [up2_ra, up2_rn, va_ap, ne_eq, if_false, if_true, not_false_eq_true]; exact r3
    · rw [e]; simp (decide := true) only [up2_ra, up2_rn, va_ap, ne_eq, if_false, if_true, not_false_eq_true]; exact r5
theorem cw_136 {n m : Nat} {pr : Int32} {ch : Nat → Int32} {g : Nat → Nat} (hg : gtC n (I 4) (I 5) (I 13) pr ch = g) (h12 : n ≤ 12) (hW : okW (I 13)) (hB : ∀ j, ∃ w, w ≤ 999 ∧ I 12 j = zI w)
    (h : SI n m (I 4) (I 5) (I 12) (I 13) pr ch (I 60) (I 61) (I 62) (I 64) (I 65) (I 66)) (hf : frC m (I 12) pr g)
    (hQ1 : ¬ pr = 0 → (I 60 17 < zI (lsG m (I 12) pr g 6) ∨ (zI (lsG m (I 12) pr g 6) = I 60 17 ∧ I 60 18 < zI (smG pr g 6))) → ∀ K, (∀ c, c ≠ 60 → c ≠ 67 → K c = I c) → (∀ j, j ≠ 17 → j ≠ 18 → K 60 j = I 60 j) → K 60 17 = zI (lsG m (I 12) pr g 6) → K 60 18 = zI (smG pr g 6) → (∀ j, j < 8 → K 67 j = I 63 j) → Q none (sM mo G K J))
    (hQ0 : ¬ (¬ pr = 0 ∧ (I 60 17 < zI (lsG m (I 12) pr g 6) ∨ (zI (lsG m (I 12) pr g 6) = I 60 17 ∧ I 60 18 < zI (smG pr g 6)))) → Q none (sM mo G I J)) :
    sm_wp X 136 0 [some (.ref 60), none, none, none, none] [] (sM mo G I J) Q := by
  have gb : ∀ s, g s ≤ 1188 := fun s => by rw [← hg]; exact gtC_b hW h12 s
  have g56 : ∀ s, s < 6 → I 64 s = zI (g s) := fun s hs => by rw [← hg]; exact (h.2.2.2.1 s hs).1
  have g58 : ∀ s, s < 6 → I 66 s = zI (bdN m (I 12) s) := fun s hs => (h.2.2.2.1 s hs).2.2
  have hpr : I 60 2 = pr := h.1
  have copy : ¬ pr = 0 → (I 60 17 < zI (lsG m (I 12) pr g 6) ∨ (zI (lsG m (I 12) pr g 6) = I 60 17 ∧ I 60 18 < zI (smG pr g 6))) → ∀ d k, k + d = 8 → ∀ K, (∀ c, c ≠ 60 → c ≠ 67 → K c = I c) → (∀ j, j ≠ 17 → j ≠ 18 → K 60 j = I 60 j) → K 60 17 = zI (lsG m (I 12) pr g 6) → K 60 18 = zI (smG pr g 6) → (∀ j, j < k → K 67 j = I 63 j) → sm_wp X 136 113 [some (.ref 60), none, none, none, some (.int (zI k))] [] (sM mo G K J) Q := by
    intro c1 c2 d
    induction d with
    | zero =>
      intro k hk K a1 a2 a3 a4 a5
      have : k = 8 := by omega
      subst this
      rw [lpw_136_113, if_pos (by decide)]
      exact hQ1 c1 c2 K a1 a2 a3 a4 a5
    | succ d ih =>
      intro k hk K a1 a2 a3 a4 a5
      rw [lpw_136_113, if_neg (by rw [zIl_le (c := 8) (by decide) (by omega)]; show ¬ 8 ≤ k; omega), zI_vp (by omega), zI_cn (by omega), show zI k + 1 = zI (k + 1) from zIr_add 1 k]
      refine ⟨by omega, ih (k + 1) (by omega) _ (fun c b1 b2 => by rw [up2_rn _ _ _ _ _ b2]; exact a1 c b1 b2) (fun j b1 b2 => by rw [up2_rn _ _ _ _ _ (by decide)]; exact a2 j b1 b2) (by rw [up2_rn _ _ _ _ _ (by decide)]; exact a3) (by rw [up2_rn _ _ _ _ _ (by decide)]; exact a4) (fun j hj => ?_)⟩
      rw [up2_ra, va_ap]
      by_cases e : j = k
      · rw [if_pos e, e, a1 63 (by decide) (by decide)]
      · rw [if_neg e]; exact a5 j (by omega)
  have go : ¬ pr = 0 → (I 60 17 < zI (lsG m (I 12) pr g 6) ∨ (zI (lsG m (I 12) pr g 6) = I 60 17 ∧ I 60 18 < zI (smG pr g 6))) → sm_wp X 136 113 [some (.ref 60), none, none, none, some (.int 0)] [] (sM mo G (up2 (up2 I 60 17 (zI (lsG m (I 12) pr g 6))) 60 18 (zI (smG pr g 6))) J) Q := by
    intro c1 c2
    refine copy c1 c2 8 0 (by omega) _ (fun c b1 b2 => by rw [up2_rn _ _ _ _ _ b1, up2_rn _ _ _ _ _ b1]) (fun j b1 b2 => by rw [up2_ra, up2_ra, va_ap, if_neg b2, va_ap, if_neg b1]) ?_ ?_ (fun j hj => absurd hj (Nat.not_lt_zero _))
    · rw [up2_ra, up2_ra]; rfl
    · rw [up2_ra, va_ap, if_pos rfl]
  have key : ∀ d s, s + d = 6 → sm_wp X 136 8 [some (.ref 60), some (.int (zI (lsG m (I 12) pr g s))), some (.int (zI (smG pr g s))), some (.int (zI s)), none] [] (sM mo G I J) Q := by
    intro d
    induction d with
    | zero =>
      intro s hs
      have : s = 6 := by omega
      subst this
      rw [lpw_136_8, if_pos (by decide), hpr]
      by_cases c1 : I 60 17 < zI (lsG m (I 12) pr g 6)
      · rw [if_pos c1]
        by_cases c2 : pr = 0
        · rw [if_pos c2]; exact hQ0 (fun e => e.1 c2)
        · rw [if_neg c2]; exact go c2 (Or.inl c1)
      · rw [if_neg c1]
        by_cases c3 : zI (lsG m (I 12) pr g 6) = I 60 17
        · rw [if_neg (fun e => e c3)]
          by_cases c4 : zI (smG pr g 6) ≤ I 60 18
          · rw [if_pos c4, ite_self]
            exact hQ0 (fun e => e.2.elim c1 (fun e => absurd e.2 (Int32.not_lt.mpr c4)))
          · rw [if_neg c4]
            by_cases c2 : pr = 0
            · rw [if_pos c2]; exact hQ0 (fun e => e.1 c2)
            · rw [if_neg c2]; exact go c2 (Or.inr ⟨c3, Int32.not_le.mp c4⟩)
        · rw [if_pos c3, ite_self]
          exact hQ0 (fun e => e.2.elim c1 (fun e => c3 e.1))
    | succ d ih =>
      intro s hs
      have s6 : s < 6 := by omega
      rw [lpw_136_8, if_neg (by rw [zIl_le (c := 6) (by decide) (by omega)]; show ¬ 6 ≤ s; omega), hpr, show zI s + 1 = zI (s + 1) from zIr_add 1 s]
      have el : lsG m (I 12) pr g (s + 1) = if bt pr s = true then (if g s - bdN m (I 12) s < lsG m (I 12) pr g s then g s - bdN m (I 12) s else lsG m (I 12) pr g s) else lsG m (I 12) pr g s := rfl
      have es : smG pr g (s + 1) = if bt pr s = true then smG pr g s + g s else smG pr g s := rfl
      have lb' := lsG_b m (I 12) pr g s
      have gs := gb s
      by_cases g2 : bt pr s = true
      · have bd := hf s s6 g2
        rw [if_pos g2] at el es
        rw [if_neg (by rw [hb_bt _ _ (by omega)]; exact fun e => e g2), zI_vp (by omega), zI_cn (by omega), g56 s s6, g58 s s6, zI_sub bd, zI_add, ← es]
        refine ⟨s6, ?_⟩
        have e3 : (if zI (g s - bdN m (I 12) s) < zI (lsG m (I 12) pr g s) then zI (g s - bdN m (I 12) s) else zI (lsG m (I 12) pr g s)) = zI (lsG m (I 12) pr g (s + 1)) := by
          rw [el]
          by_cases c : g s - bdN m (I 12) s < lsG m (I 12) pr g s
          · rw [if_pos c, if_pos (by rw [zI_lt (by omega) (by omega)]; exact c)]
          · rw [if_neg c, if_neg (by rw [zI_lt (by omega) (by omega)]; exact c)]
        rw [e3]
        exact ih (s + 1) (by omega)
      · rw [if_neg g2] at el es
        rw [if_pos (by rw [hb_bt _ _ (by omega)]; exact g2), ← el, ← es]
        exact ih (s + 1) (by omega)
  rw [lpw_136_0]
  exact key 6 0 (by omega)
theorem cw_134 {n m v : Nat} {pr : Int32} (hn : I 1 0 = zI n) (h12 : n ≤ 12) (hm : I 1 1 = zI m) (h6 : m ≤ 6) (hp : ∀ k, m ≤ k → bt pr k = false) (hW : okW (I 13)) (hB : ∀ j, ∃ w, w ≤ 999 ∧ I 12 j = zI w) (hsh : shOK mo I n m) (h8 : dK n (I 5) pr ≤ 8) (hv : v < 10000)
    (h : SI n m (I 4) (I 5) (I 12) (I 13) pr (svC n (I 5) pr v) (I 60) (I 61) (I 62) (I 64) (I 65) (I 66)) (hc : ∀ j, j < dK n (I 5) pr → I 63 j = svC n (I 5) pr v j) (hR : RI n m (I 4) (I 5) (I 12) (I 13) pr v (I 60) (I 67) (J 60 16))
    (hQ : ∀ mo' K x, FrW I K 60 67 → shOK mo' K n m → RI n m (I 4) (I 5) (I 12) (I 13) pr (v + 1) (K 60) (K 67) x → Q none (sM mo' G K (up2 J 60 16 x))) :
    sm_wp X 134 0 [some (.ref 60)] [] (sM mo G I J) Q := by
  obtain ⟨r1, r2, r3, r4, r5⟩ := hR
  have ek : I 60 12 = kpI pr (bdN m (I 12)) (gv n (I 4) (I 5) (I 13) pr v) 6 := kpS_e h.2.2.2.2
  have p6 : ∀ k, 6 ≤ k → bt pr k = false := fun k hk => hp k (by omega)
  obtain ⟨kj, hkj, ekj⟩ := kpI_z pr (bdN m (I 12)) (gv n (I 4) (I 5) (I 13) pr v)
  have hpr : I 60 2 = pr := h.1
  have bits : ∀ k, k < 64 → (lb (J 60 16 ||| (1 <<< ((I 60 12).toInt64 &&& 63))) k = true ↔ ∃ u, u < v + 1 ∧ kpI pr (bdN m (I 12)) (gv n (I 4) (I 5) (I 13) pr u) 6 = zI k) := by
    intro k hk
    rw [ek, ekj, lb_or, lb_sh ⟨kj, hkj⟩ ⟨k, hk⟩, Bool.or_eq_true, r4 k hk, decide_eq_true_iff]
    constructor
    · rintro (⟨u, hu, e⟩ | e)
      · exact ⟨u, by omega, e⟩
      · exact ⟨v, by omega, by rw [ekj]; exact congrArg zI (show kj = k from (show k = kj from e).symm)⟩
    · rintro ⟨u, hu, e⟩
      by_cases g : u = v
      · subst g
        rw [ekj, zI_eq (by omega) (by omega)] at e
        exact Or.inr e.symm
      · exact Or.inl ⟨u, by omega, e⟩
  have fb : nFr n m (I 4) (I 5) (I 12) (I 13) pr v ≤ v := cN_le _ _
  have sb : nSt n m (I 4) (I 5) (I 12) (I 13) pr v ≤ v := cN_le _ _
  have eb : bstS n m (I 4) (I 5) (I 12) (I 13) pr (v + 1) = if pB (isB n m (I 4) (I 5) (I 12) (I 13) pr v ∧ bttr (fun u => lsG m (I 12) pr (gv n (I 4) (I 5) (I 13) pr u) 6) (fun u => smG pr (gv n (I 4) (I 5) (I 13) pr u) 6) (bstS n m (I 4) (I 5) (I 12) (I 13) pr v) v) = true then some v else bstS n m (I 4) (I 5) (I 12) (I 13) pr v := rfl
  rw [lpw_134_0]
  by_cases gf : frC m (I 12) pr (gv n (I 4) (I 5) (I 13) pr v)
  · rw [if_pos (by rw [ek, hpr]; exact (kpI_f p6).mpr gf)]
    have nf : nFr n m (I 4) (I 5) (I 12) (I 13) pr (v + 1) = nFr n m (I 4) (I 5) (I 12) (I 13) pr v + 1 := cN_p (pB_t.mpr gf)
    generalize hL : up2 (up2 I 60 13 (I 60 13 + 1)) 60 14 (I 60 14 + 1) = L
    have l52 : L 60 = va_up (va_up (I 60) 13 (zI (v + 1))) 14 (zI (nFr n m (I 4) (I 5) (I 12) (I 13) pr (v + 1))) := by
      rw [← hL, r1, r2, nf, show zI v + 1 = zI (v + 1) from zIr_add 1 v, show zI (nFr n m (I 4) (I 5) (I 12) (I 13) pr v) + 1 = zI (nFr n m (I 4) (I 5) (I 12) (I 13) pr v + 1) from zIr_add 1 _]
      simp (decide := true) only [up2_ra, up2_rn, va_ap, ne_eq, if_false, if_true, not_false_eq_true]
    have lo : ∀ c, c ≠ 60 → L c = I c := fun c hc => by rw [← hL, up2_rn _ _ _ _ _ hc, up2_rn _ _ _ _ _ hc]
    have hSL : SI n m (L 4) (L 5) (L 12) (L 13) pr (svC n (I 5) pr v) (L 60) (L 61) (L 62) (L 64) (L 65) (L 66) := by
      rw [lo 4 (by decide), lo 5 (by decide), lo 12 (by decide), lo 13 (by decide), lo 61 (by decide), lo 62 (by decide), lo 64 (by decide), lo 65 (by decide), lo 66 (by decide), l52]
      exact h
    have shL : shOK mo L n m := by
      unfold shOK
      rw [lo 48 (by decide), lo 1 (by decide), lo 4 (by decide), lo 13 (by decide), lo 49 (by decide), lo 50 (by decide), lo 143 (by decide)]
      exact hsh
    refine cw_135 (I := L) (n := n) (m := m) (pr := pr) (ch := svC n (I 5) pr v) (by rw [lo 1 (by decide)]; exact hn) h12 (by rw [lo 1 (by decide)]; exact hm) h6 hp (by rw [lo 13 (by decide)]; exact hW) shL hSL ?_
    intro mo' K z fK shK hz
    rw [lo 4 (by decide), lo 5 (by decide), lo 13 (by decide)] at hz
    simp only [tl_some]
    have k52 : K 60 = L 60 := fK.1 60 (by decide) (by decide) (by decide) (by decide)
    have k59 : K 67 = I 67 := (fK.1 67 (by decide) (by decide) (by decide) (by decide)).trans (lo 67 (by decide))
    have fr1 : ∀ c, c ≠ 48 → c ≠ 49 → c ≠ 50 → c ≠ 143 → c ≠ 60 → K c = I c := fun c a1 a2 a3 a4 a5 => (fK.1 c a1 a2 a3 a4).trans (lo c a5)
    have fr2 : K 48 1 = I 48 1 ∨ K 48 1 = I 1 4 := by
      have := fK.2
      rw [lo 48 (by decide), lo 1 (by decide)] at this
      exact this
    rcases hz with ⟨rfl, hz⟩ | ⟨rfl, hz⟩
    · have ns : nSt n m (I 4) (I 5) (I 12) (I 13) pr (v + 1) = nSt n m (I 4) (I 5) (I 12) (I 13) pr v + 1 := cN_p (pB_t.mpr ⟨gf, hz⟩)
      rw [lpw_134_51, if_neg (by decide)]
      generalize hN : up2 K 60 15 (K 60 15 + 1) = N
      have n52 : N 60 = va_up (L 60) 15 (zI (nSt n m (I 4) (I 5) (I 12) (I 13) pr (v + 1))) := by
        rw [← hN, up2_ra, k52, ns]
        have : L 60 15 + 1 = zI (nSt n m (I 4) (I 5) (I 12) (I 13) pr v + 1) := by
          rw [l52]
          simp (decide := true) only [va_ap, if_false, if_true]
          rw [r3]
          exact zIr_add 1 _
        rw [this]
      have no : ∀ c, c ≠ 60 → N c = K c := fun c hc => by rw [← hN, up2_rn _ _ _ _ _ hc]
      have ni : ∀ c, c ≠ 48 → c ≠ 49 → c ≠ 50 → c ≠ 143 → c ≠ 60 → N c = I c := fun c a1 a2 a3 a4 a5 => (no c a5).trans (fr1 c a1 a2 a3 a4 a5)
      have n17 : N 60 17 = I 60 17 ∧ N 60 18 = I 60 18 := by
        rw [n52, l52]
        exact ⟨rfl, rfl⟩
      have shN : shOK mo' N n m := by
        unfold shOK
        rw [no 48 (by decide), no 1 (by decide), no 4 (by decide), no 13 (by decide), no 49 (by decide), no 50 (by decide), no 143 (by decide)]
        exact shK
      have hSN : SI n m (N 4) (N 5) (N 12) (N 13) pr (svC n (I 5) pr v) (N 60) (N 61) (N 62) (N 64) (N 65) (N 66) := by
        rw [ni 4 (by decide) (by decide) (by decide) (by decide) (by decide), ni 5 (by decide) (by decide) (by decide) (by decide) (by decide), ni 12 (by decide) (by decide) (by decide) (by decide) (by decide), ni 13 (by decide) (by decide) (by decide) (by decide) (by decide), ni 61 (by decide) (by decide) (by decide) (by decide) (by decide), ni 62 (by decide) (by decide) (by decide) (by decide) (by decide), ni 64 (by decide) (by decide) (by decide) (by decide) (by decide), ni 65 (by decide) (by decide) (by decide) (by decide) (by decide), ni 66 (by decide) (by decide) (by decide) (by decide) (by decide), n52, l52]
        exact h
      have e4 : N 4 = I 4 := ni 4 (by decide) (by decide) (by decide) (by decide) (by decide)
      have e5 : N 5 = I 5 := ni 5 (by decide) (by decide) (by decide) (by decide) (by decide)
      have e12 : N 12 = I 12 := ni 12 (by decide) (by decide) (by decide) (by decide) (by decide)
      have e13 : N 13 = I 13 := ni 13 (by decide) (by decide) (by decide) (by decide) (by decide)
      have e55 : N 63 = I 63 := ni 63 (by decide) (by decide) (by decide) (by decide) (by decide)
      have e59 : N 67 = I 67 := ni 67 (by decide) (by decide) (by decide) (by decide) (by decide)
      -- better or not
      have bt1 : (I 60 17 < zI (lsG m (I 12) pr (gv n (I 4) (I 5) (I 13) pr v) 6) ∨ (zI (lsG m (I 12) pr (gv n (I 4) (I 5) (I 13) pr v) 6) = I 60 17 ∧ I 60 18 < zI (smG pr (gv n (I 4) (I 5) (I 13) pr v) 6))) ↔ bttr (fun u => lsG m (I 12) pr (gv n (I 4) (I 5) (I 13) pr u) 6) (fun u => smG pr (gv n (I 4) (I 5) (I 13) pr u) 6) (bstS n m (I 4) (I 5) (I 12) (I 13) pr v) v := by
        have lbv := lsG_b m (I 12) pr (gv n (I 4) (I 5) (I 13) pr v) 6
        have sbv := smG_b (pr := pr) (g := gv n (I 4) (I 5) (I 13) pr v) (fun s => gtC_b hW h12 s) 6
        cases e : bstS n m (I 4) (I 5) (I 12) (I 13) pr v with
        | none =>
          rw [e] at r5
          have r5' : I 60 17 = -1 := r5
          refine ⟨fun _ => trivial, fun _ => Or.inl ?_⟩
          rw [r5', Int32.lt_iff_toInt_lt, zI_ti (by omega)]
          show (-1 : Int) < _
          omega
        | some u =>
          rw [e] at r5
          obtain ⟨q1, q2, q3⟩ := r5
          have lbu := lsG_b m (I 12) pr (gv n (I 4) (I 5) (I 13) pr u) 6
          have sbu := smG_b (pr := pr) (g := gv n (I 4) (I 5) (I 13) pr u) (fun s => gtC_b hW h12 s) 6
          rw [q1, q2, zI_lt (by omega) (by omega), zI_eq (by omega) (by omega), zI_lt (by omega) (by omega)]
          rfl
      refine cw_136 (I := N) (n := n) (m := m) (pr := pr) (ch := svC n (I 5) pr v) (g := gv n (I 4) (I 5) (I 13) pr v) (by rw [e4, e5, e13]; rfl) h12 (by rw [e13]; exact hW) (by rw [e12]; exact hB) hSN (by rw [e12]; exact gf) ?_ ?_
      · intro c1 c2 P p1 p2 p17 p18 p59
        rw [e12, n17.1, n17.2] at c2
        rw [e12] at p17
        simp only [tl_none]
        rw [lpw_134_68]
        have e : bstS n m (I 4) (I 5) (I 12) (I 13) pr (v + 1) = some v := by
          rw [eb, if_pos (pB_t.mpr ⟨⟨c1, gf, hz⟩, bt1.mp c2⟩)]
        have po : ∀ j, j ≠ 17 → j ≠ 18 → P 60 j = va_up (va_up (va_up (I 60) 13 (zI (v + 1))) 14 (zI (nFr n m (I 4) (I 5) (I 12) (I 13) pr (v + 1)))) 15 (zI (nSt n m (I 4) (I 5) (I 12) (I 13) pr (v + 1))) j := fun j a b => by rw [p2 j a b, n52, l52]
        refine hQ mo' P _ ⟨fun c a1 a2 a3 a4 a5 a6 => (p1 c a5 a6).trans (ni c a1 a2 a3 a4 a5), ?_, fun j a1 a2 a3 a4 a5 => ?_⟩ ?_ ⟨?_, ?_, ?_, bits, ?_⟩
        · rw [p1 48 (by decide) (by decide), no 48 (by decide)]; exact fr2
        · rw [po j a4 a5]
          simp only [va_ap, if_neg a1, if_neg a2, if_neg a3]
        · unfold shOK
          rw [p1 48 (by decide) (by decide), p1 1 (by decide) (by decide), p1 4 (by decide) (by decide), p1 13 (by decide) (by decide), p1 49 (by decide) (by decide), p1 50 (by decide) (by decide), p1 143 (by decide) (by decide)]
          exact shN
        · rw [po 13 (by decide) (by decide)]; rfl
        · rw [po 14 (by decide) (by decide)]; rfl
        · rw [po 15 (by decide) (by decide)]; rfl
        · rw [e]
          refine ⟨p17, p18, fun j hj => ?_⟩
          rw [p59 j (by omega), e55]
          exact hc j hj
      · intro c1
        rw [e12, n17.1, n17.2] at c1
        simp only [tl_none]
        rw [lpw_134_68]
        have e : bstS n m (I 4) (I 5) (I 12) (I 13) pr (v + 1) = bstS n m (I 4) (I 5) (I 12) (I 13) pr v := by
          rw [eb, if_neg (fun c => c1 ⟨(pB_t.mp c).1.1, bt1.mpr (pB_t.mp c).2⟩)]
        have po : ∀ j, N 60 j = va_up (va_up (va_up (I 60) 13 (zI (v + 1))) 14 (zI (nFr n m (I 4) (I 5) (I 12) (I 13) pr (v + 1)))) 15 (zI (nSt n m (I 4) (I 5) (I 12) (I 13) pr (v + 1))) j := fun j => by rw [n52, l52]
        refine hQ mo' N _ ⟨fun c a1 a2 a3 a4 a5 a6 => ni c a1 a2 a3 a4 a5, ?_, fun j a1 a2 a3 a4 a5 => ?_⟩ shN ⟨?_, ?_, ?_, bits, ?_⟩
        · rw [no 48 (by decide)]; exact fr2
        · rw [po j]
          simp only [va_ap, if_neg a1, if_neg a2, if_neg a3]
        · rw [po 13]; rfl
        · rw [po 14]; rfl
        · rw [po 15]; rfl
        · rw [e, n17.1, n17.2, e59]; exact r5
    · have ns : nSt n m (I 4) (I 5) (I 12) (I 13) pr (v + 1) = nSt n m (I 4) (I 5) (I 12) (I 13) pr v := cN_q (fun c => hz (pB_t.mp c).2)
      rw [lpw_134_51, if_pos rfl]
      have e : bstS n m (I 4) (I 5) (I 12) (I 13) pr (v + 1) = bstS n m (I 4) (I 5) (I 12) (I 13) pr v := by
        rw [eb, if_neg (fun c => hz (pB_t.mp c).1.2.2)]
      refine hQ mo' K _ ⟨fun c a1 a2 a3 a4 a5 a6 => fr1 c a1 a2 a3 a4 a5, fr2, fun j a1 a2 a3 a4 a5 => ?_⟩ shK ⟨?_, ?_, ?_, bits, ?_⟩
      · rw [k52, l52]
        simp only [va_ap, if_neg a1, if_neg a2]
      · rw [k52, l52]; rfl
      · rw [k52, l52]; rfl
      · rw [k52, l52, ns]; exact r3
      · rw [e, k52, l52, k59]; exact r5
  · rw [if_neg (by rw [ek, hpr]; exact fun e => gf ((kpI_f p6).mp e))]
    have nf : nFr n m (I 4) (I 5) (I 12) (I 13) pr (v + 1) = nFr n m (I 4) (I 5) (I 12) (I 13) pr v := cN_q (fun c => gf (pB_t.mp c))
    have ns : nSt n m (I 4) (I 5) (I 12) (I 13) pr (v + 1) = nSt n m (I 4) (I 5) (I 12) (I 13) pr v := cN_q (fun c => gf (pB_t.mp c).1)
    have e : bstS n m (I 4) (I 5) (I 12) (I 13) pr (v + 1) = bstS n m (I 4) (I 5) (I 12) (I 13) pr v := by
      rw [eb, if_neg (fun c => gf (pB_t.mp c).1.2.1)]
    refine hQ mo _ _ ⟨fun c a1 a2 a3 a4 a5 a6 => up2_rn _ _ _ _ _ a5, Or.inl (by rw [up2_rn _ _ _ _ _ (by decide)]), fun j a1 a2 a3 a4 a5 => by rw [up2_ra, va_ap, if_neg a1]⟩ ?_ ⟨?_, ?_, ?_, bits, ?_⟩
    · unfold shOK
      rw [up2_rn _ _ _ _ _ (by decide), up2_rn _ _ _ _ _ (by decide), up2_rn _ _ _ _ _ (by decide), up2_rn _ _ _ _ _ (by decide), up2_rn _ _ _ _ _ (by decide), up2_rn _ _ _ _ _ (by decide), up2_rn _ _ _ _ _ (by decide)]
      exact hsh
    · rw [up2_ra, va_ap, if_pos rfl, r1]; exact zIr_add 1 v
    · rw [nf]; simp (decide := true) only [up2_ra, up2_rn, va_ap, ne_eq, if_false, if_true, not_false_eq_true]; exact r2
    · rw [ns]; simp (decide := true) only [up2_ra, up2_rn, va_ap, ne_eq, if_false, if_true, not_false_eq_true]; exact r3
    · rw [e]; simp (decide := true) only [up2_ra, up2_rn, va_ap, ne_eq, if_false, if_true, not_false_eq_true]; exact r5
end T4
end
section
/-! Settlements: the search. -/
def FrX (I K : Nat → Nat → Int32) (lo hi : Nat) : Prop := (∀ c, c ≠ 48 → c ≠ 49 → c ≠ 50 → c ≠ 143 → (c < lo ∨ hi < c) → K c = I c) ∧ (K 48 1 = I 48 1 ∨ K 48 1 = I 1 4)
section T5
variable {X : (Nat → Int32) × Nat} {mo : Bool} {G : Nat × Nat} {I : Nat → Nat → Int32} {J : Nat → Nat → Int64} {Q : Option Value → sm_M → Prop}
theorem cs_128l {n m : Nat} {pr : Int32} (hn : I 1 0 = zI n) (h12 : n ≤ 12) (hm : I 1 1 = zI m) (h6m : m ≤ 6) (hp : ∀ k, m ≤ k → bt pr k = false) (h3 : ∀ l, pc6 (I 5 l) ≤ 3) (hW : okW (I 13)) (hB : ∀ j, ∃ w, w ≤ 999 ∧ I 12 j = zI w) (h8 : dK n (I 5) pr ≤ 8)
    (hQ : ∀ mo' K J', FrX I K 52 59 → (∀ c, c ≠ 52 → J' c = J c) → shOK mo' K n m → K 52 3 = pr → K 52 4 = I 1 4 → srD n m (I 4) (I 5) (I 12) (I 13) pr (K 52) (K 53) (K 59) (J' 52 16) → Q none (sM mo' G K J')) :
    ∀ d v, v + d = rws n (I 5) pr → 0 < d → ∀ mo' K J', FrX I K 52 59 → (∀ c, c ≠ 52 → J' c = J c) → shOK mo' K n m → K 52 3 = pr → K 52 4 = I 1 4 → SI n m (I 4) (I 5) (I 12) (I 13) pr (svC n (I 5) pr v) (K 52) (K 53) (K 54) (K 56) (K 57) (K 58) → (∀ j, j < dK n (I 5) pr → K 55 j = svC n (I 5) pr v j) → RI n m (I 4) (I 5) (I 12) (I 13) pr v (K 52) (K 59) (J' 52 16) →
    sm_wp X 128 114 [some (.ref 52), none, some (.int 1), some (.int (zI v))] [] (sM mo' G K J') Q := by
  intro d
  have rb := rws_b (n := n) (pr := pr) h3 h8
  induction d with
  | zero => intro v _ h0; exact absurd h0 (Nat.lt_irrefl _)
  | succ d ih =>
    intro v hv _ mo' K J' f fJ hs k3 k4s hS h55 hR
    have fo : ∀ c, c < 48 → K c = I c := fun c hc => f.1 c (by omega) (by omega) (by omega) (by omega) (by omega)
    rw [lp_128_114, if_neg (by rw [zIl_le (c := 6561) (by decide) (by omega)]; show ¬ 6561 ≤ v; omega), if_neg (by decide)]
    refine cs_134 (I := K) (n := n) (m := m) (v := v) (pr := pr) (by rw [fo 1 (by decide)]; exact hn) h12 (by rw [fo 1 (by decide)]; exact hm) h6m hp (by rw [fo 13 (by decide)]; exact hW) (by rw [fo 12 (by decide)]; exact hB) hs (by rw [fo 5 (by decide)]; exact h8) (by omega) (by rw [fo 4 (by decide), fo 5 (by decide), fo 12 (by decide), fo 13 (by decide)]; exact hS) (by rw [fo 5 (by decide)]; exact h55) (by rw [fo 4 (by decide), fo 5 (by decide), fo 12 (by decide), fo 13 (by decide)]; exact hR) ?_
    intro mo2 L x fL shL hRL
    rw [fo 4 (by decide), fo 5 (by decide), fo 12 (by decide), fo 13 (by decide)] at hRL
    simp only [tl_none]
    have lk : ∀ c, c ≠ 48 → c ≠ 49 → c ≠ 50 → c ≠ 143 → c ≠ 52 → c ≠ 59 → L c = K c := fL.1
    have lo : ∀ c, c < 48 → L c = I c := fun c hc => (lk c (by omega) (by omega) (by omega) (by omega) (by omega) (by omega)).trans (fo c hc)
    have fXL : FrX I L 52 59 := by
      refine ⟨fun c a1 a2 a3 a4 a5 => (lk c a1 a2 a3 a4 (by omega) (by omega)).trans (f.1 c a1 a2 a3 a4 a5), ?_⟩
      rcases fL.2.1 with e | e
      · rw [e]; exact f.2
      · rw [e, fo 1 (by decide)]; exact Or.inr rfl
    have fJL : ∀ c, c ≠ 52 → up2 J' 52 16 x c = J c := fun c hc => by rw [up2_rn _ _ _ _ _ hc]; exact fJ c hc
    have jx : up2 J' 52 16 x 52 16 = x := up2_ss
    have hSL : SI n m (I 4) (I 5) (I 12) (I 13) pr (svC n (I 5) pr v) (L 52) (L 53) (L 54) (L 56) (L 57) (L 58) := by
      obtain ⟨s1, s2, s3, s4, s5⟩ := hS
      rw [lk 53 (by decide) (by decide) (by decide) (by decide) (by decide) (by decide), lk 54 (by decide) (by decide) (by decide) (by decide) (by decide) (by decide), lk 56 (by decide) (by decide) (by decide) (by decide) (by decide) (by decide), lk 57 (by decide) (by decide) (by decide) (by decide) (by decide) (by decide), lk 58 (by decide) (by decide) (by decide) (by decide) (by decide) (by decide)]
      refine ⟨?_, ?_, s3, s4, ?_⟩
      · rw [fL.2.2 2 (by decide) (by decide) (by decide) (by decide) (by decide)]; exact s1
      · rw [fL.2.2 5 (by decide) (by decide) (by decide) (by decide) (by decide)]; exact s2
      · rw [fL.2.2 12 (by decide) (by decide) (by decide) (by decide) (by decide)]; exact s5
    have l3 : L 52 3 = pr := by rw [fL.2.2 3 (by decide) (by decide) (by decide) (by decide) (by decide)]; exact k3
    have l4 : L 52 4 = I 1 4 := by rw [fL.2.2 4 (by decide) (by decide) (by decide) (by decide) (by decide)]; exact k4s
    -- what the next one leaves alone
    have nxt : ∀ N, FrS 52 58 L N → FrX I N 52 59 ∧ shOK mo2 N n m ∧ N 52 3 = pr ∧ N 52 4 = I 1 4 ∧ RI n m (I 4) (I 5) (I 12) (I 13) pr (v + 1) (N 52) (N 59) (up2 J' 52 16 x 52 16) := by
      intro N fN
      have no : ∀ c, c < 52 ∨ 58 < c → N c = L c := fN.1
      refine ⟨⟨fun c a1 a2 a3 a4 a5 => (no c (by omega)).trans (fXL.1 c a1 a2 a3 a4 a5), ?_⟩, ?_, ?_, ?_, ?_⟩
      · rw [no 48 (by decide)]; exact fXL.2
      · unfold shOK
        rw [no 48 (by decide), no 1 (by decide), no 4 (by decide), no 13 (by decide), no 49 (by decide), no 50 (by decide), no 143 (by decide)]
        exact shL
      · rw [fN.2 3 (by decide) (by decide) (by decide)]; exact l3
      · rw [fN.2 4 (by decide) (by decide) (by decide)]; exact l4
      · rw [jx]
        obtain ⟨a1, a2, a3, a4, a5⟩ := hRL
        refine ⟨?_, ?_, ?_, a4, ?_⟩
        · rw [fN.2 13 (by decide) (by decide) (by decide)]; exact a1
        · rw [fN.2 14 (by decide) (by decide) (by decide)]; exact a2
        · rw [fN.2 15 (by decide) (by decide) (by decide)]; exact a3
        · rw [fN.2 17 (by decide) (by decide) (by decide), fN.2 18 (by decide) (by decide) (by decide), no 59 (by decide)]; exact a5
    rw [lp_128_129]
    refine cs_137 (I := L) (n := n) (m := m) (v := v) (pr := pr) h12 (by rw [lo 13 (by decide)]; exact hW) (by rw [lo 12 (by decide)]; exact hB) (by rw [lo 5 (by decide)]; exact h8) (by rw [lo 5 (by decide)]; omega) (by rw [lo 4 (by decide), lo 5 (by decide), lo 12 (by decide), lo 13 (by decide)]; exact hSL) (by rw [lo 5 (by decide), lk 55 (by decide) (by decide) (by decide) (by decide) (by decide) (by decide)]; exact h55) ?_ ?_
    · intro hv1 N fN n55 hSN
      rw [lo 5 (by decide)] at hv1 n55
      rw [lo 4 (by decide), lo 5 (by decide), lo 12 (by decide), lo 13 (by decide)] at hSN
      obtain ⟨q1, q2, q3, q4, q5⟩ := nxt N fN
      simp only [tl_some]
      rw [lp_128_133, show zI v + 1 = zI (v + 1) from zIr_add 1 v]
      exact ih (v + 1) (by omega) (by omega) mo2 N _ q1 fJL q2 q3 q4 hSN n55 q5
    · intro hv1 N ch fN hSN
      rw [lo 5 (by decide)] at hv1
      rw [lo 4 (by decide), lo 5 (by decide), lo 12 (by decide), lo 13 (by decide)] at hSN
      obtain ⟨q1, q2, q3, q4, q5⟩ := nxt N fN
      simp only [tl_some]
      rw [lp_128_133, lp_128_114]
      have fin : Q none (sM mo2 G N (up2 J' 52 16 x)) := by
        refine hQ mo2 N _ q1 fJL q2 q3 q4 ⟨hSN.1, hSN.2.1, fun k a b => (hSN.2.2.1 k a b).1, fun e => absurd h8 (by omega), fun _ => ?_⟩
        rw [← hv1]
        exact q5
      by_cases g : (6561 : Int32) ≤ zI v + 1
      · rw [if_pos g]; exact fin
      · rw [if_neg g, if_pos rfl]; exact fin
theorem cs_128 {n m : Nat} {pr : Int32} (hn : I 1 0 = zI n) (h12 : n ≤ 12) (hm : I 1 1 = zI m) (h6m : m ≤ 6) (hp : ∀ k, m ≤ k → bt pr k = false) (h6 : ∀ l k, 6 ≤ k → bt (I 5 l) k = false) (h3 : ∀ l, pc6 (I 5 l) ≤ 3) (hW : okW (I 13)) (hB : ∀ j, ∃ w, w ≤ 999 ∧ I 12 j = zI w) (hsh : shOK mo I n m)
    (hca : I 52 3 = pr → I 52 4 = I 1 4 → srD n m (I 4) (I 5) (I 12) (I 13) pr (I 52) (I 53) (I 59) (J 52 16))
    (hQ : ∀ mo' K J', FrX I K 52 59 → (∀ c, c ≠ 52 → J' c = J c) → shOK mo' K n m → K 52 3 = pr → K 52 4 = I 1 4 → srD n m (I 4) (I 5) (I 12) (I 13) pr (K 52) (K 53) (K 59) (J' 52 16) → Q none (sM mo' G K J')) :
    sm_wp X 128 0 [some (.ref 52), some (.int pr), none, none] [] (sM mo G I J) Q := by
  have run : sm_wp X 129 0 [some (.ref 52), some (.int pr), none, none, none] [] (sM mo G (up2 (up2 (up2 (up2 (up2 (up2 I 52 3 pr) 52 4 (I 1 4)) 52 13 0) 52 14 0) 52 15 0) 52 17 (-1)) (up2 J 52 16 0)) (fun v M => sm_wp X 128 69 [some (.ref 52), some (.int pr), none, none] (v.toList ++ []) M Q) := by
    generalize hL : up2 (up2 (up2 (up2 (up2 (up2 I 52 3 pr) 52 4 (I 1 4)) 52 13 0) 52 14 0) 52 15 0) 52 17 (-1) = L
    have l52 : L 52 = va_up (va_up (va_up (va_up (va_up (va_up (I 52) 3 pr) 4 (I 1 4)) 13 0) 14 0) 15 0) 17 (-1) := by rw [← hL]; simp (decide := true) only [up2_ra, up2_rn, va_ap, ne_eq, if_false, if_true, not_false_eq_true]
    have lo : ∀ c, c ≠ 52 → L c = I c := fun c hc => by rw [← hL, up2_rn _ _ _ _ _ hc, up2_rn _ _ _ _ _ hc, up2_rn _ _ _ _ _ hc, up2_rn _ _ _ _ _ hc, up2_rn _ _ _ _ _ hc, up2_rn _ _ _ _ _ hc]
    refine cs_129 (I := L) (n := n) (m := m) (pr := pr) (by rw [lo 1 (by decide)]; exact hn) h12 (by rw [lo 1 (by decide)]; exact hm) h6m (by rw [lo 5 (by decide)]; exact h6) (by rw [lo 13 (by decide)]; exact hW) (by rw [lo 12 (by decide)]; exact hB) ?_
    intro K fK k55 hS
    rw [lo 5 (by decide)] at k55
    rw [lo 4 (by decide), lo 5 (by decide), lo 12 (by decide), lo 13 (by decide)] at hS
    simp only [tl_none]
    have ko : ∀ c, c < 52 ∨ 59 < c → K c = I c := fun c hc => (fK.1 c (by omega)).trans (lo c (by omega))
    have gen : ∀ N, FrS 52 58 L N → FrX I N 52 59 ∧ shOK mo N n m ∧ N 52 3 = pr ∧ N 52 4 = I 1 4 ∧ N 52 13 = 0 ∧ N 52 14 = 0 ∧ N 52 15 = 0 ∧ N 52 17 = -1 := by
      intro N fN
      have no : ∀ c, c < 52 ∨ 59 < c → N c = I c := fun c hc => (fN.1 c (by omega)).trans (lo c (by omega))
      refine ⟨⟨fun c a1 a2 a3 a4 a5 => no c a5, Or.inl (by rw [no 48 (by decide)])⟩, ?_, ?_, ?_, ?_, ?_, ?_, ?_⟩
      · unfold shOK
        rw [no 48 (by decide), no 1 (by decide), no 4 (by decide), no 13 (by decide), no 49 (by decide), no 50 (by decide), no 143 (by decide)]
        exact hsh
      · rw [fN.2 3 (by decide) (by decide) (by decide), l52]; rfl
      · rw [fN.2 4 (by decide) (by decide) (by decide), l52]; rfl
      · rw [fN.2 13 (by decide) (by decide) (by decide), l52]; rfl
      · rw [fN.2 14 (by decide) (by decide) (by decide), l52]; rfl
      · rw [fN.2 15 (by decide) (by decide) (by decide), l52]; rfl
      · rw [fN.2 17 (by decide) (by decide) (by decide), l52]; rfl
    have fJ : ∀ c, c ≠ 52 → up2 J 52 16 0 c = J c := fun c hc => up2_rn _ _ _ _ _ hc
    have d12 : dK n (I 5) pr ≤ 12 := Nat.le_trans (cN_le _ _) h12
    rw [lp_128_69, lp_131_0, hS.2.1]
    by_cases g8 : dK n (I 5) pr ≤ 8
    · rw [if_pos (by rw [zIr_le (c := 8) (by decide) (by omega)]; exact g8)]
      simp only [tl_some]
      rw [lp_128_73, if_pos rfl]
      -- the first one
      have first : ∀ d k, k + d = dK n (I 5) pr → ∀ N ch, FrS 52 58 L N → (∀ j, j < 8 → j < dK n (I 5) pr → N 55 j = ch j) → (∀ j, j < dK n (I 5) pr → ch j = if j < k then svC n (I 5) pr 0 j else -1) → SI n m (I 4) (I 5) (I 12) (I 13) pr ch (N 52) (N 53) (N 54) (N 56) (N 57) (N 58) → sm_wp X 128 79 [some (.ref 52), none, some (.int (zI k)), none] [] (sM mo G N (up2 J 52 16 0)) Q := by
        intro d
        induction d with
        | zero =>
          intro k hk N ch fN n55 hch hN
          have : k = dK n (I 5) pr := by omega
          subst this
          obtain ⟨q1, q2, q3, q4, q5, q6, q7, q8⟩ := gen N fN
          rw [lp_128_79, hN.2.1, if_pos (by rw [zI_le (by omega) (by omega)]; exact Nat.le_refl _)]
          have e : ∀ j, j < dK n (I 5) pr → ch j = svC n (I 5) pr 0 j := fun j hj => by rw [hch j hj, if_pos hj]
          refine cs_128l hn h12 hm h6m hp h3 hW hB g8 hQ (rws n (I 5) pr) 0 (by omega) rws_pos mo N _ q1 fJ q2 q3 q4 (si_ch hN (fun s => ?_)) (fun j hj => by rw [n55 j (by omega) hj]; exact e j hj) ⟨q5, q6, q7, fun k hk => ?_, q8⟩
          · unfold gtC
            rw [gsm_c (fun j hj => (e j (Nat.lt_of_lt_of_le hj (Nat.min_le_right _ _))).symm)]
          · rw [up2_ss, lb_0]
            exact ⟨fun e => (by cases e), fun e => absurd e.choose_spec.1 (Nat.not_lt_zero _)⟩
        | succ d ih =>
          intro k hk N ch fN n55 hch hN
          have no : ∀ c, c < 52 ∨ 59 < c → N c = I c := fun c hc => (fN.1 c (by omega)).trans (lo c (by omega))
          have kD : k < dK n (I 5) pr := by omega
          rw [lp_128_79, hN.2.1, if_neg (by rw [zI_le (by omega) (by omega)]; omega), if_neg (by rw [zIl_le (c := 8) (by decide) (by omega)]; show ¬ 8 ≤ k; omega), cs_132 (s := 0) (by omega) ((hN.2.2.1 k (by omega) kD).2) (by decide) (by decide)]
          simp only [tl_some]
          have z6 : 0 < cN (bt (clB n (I 5) pr k)) 6 := rd_pos k kD
          have np := nt_p z6
          have nx0 : nxC (clB n (I 5) pr k) (cN (bt (clB n (I 5) pr k)) 0) = zI (nt (bt (clB n (I 5) pr k)) 6 0) := by
            unfold nxC
            rw [show cN (bt (clB n (I 5) pr k)) 0 = 0 from rfl, if_pos z6]
          have ck : ch k = -1 := by rw [hch k kD, if_neg (Nat.lt_irrefl _)]
          rw [nx0, lp_128_101]
          refine cs_133 (I := N) (n := n) (m := m) (pr := pr) (ch := ch) (by omega) (by rw [no 5 (by decide)]; exact kD) np.2.1 h12 (by rw [no 13 (by decide)]; exact hW) (by rw [no 12 (by decide)]; exact hB) (by rw [no 4 (by decide), no 5 (by decide), no 12 (by decide), no 13 (by decide)]; exact hN) (by rw [no 5 (by decide)]; exact n55) (Or.inl ck) ?_
          intro P fP p55 hP
          rw [no 5 (by decide)] at p55
          rw [no 4 (by decide), no 5 (by decide), no 12 (by decide), no 13 (by decide)] at hP
          simp only [tl_none]
          rw [lp_128_104, show zI k + 1 = zI (k + 1) from zIr_add 1 k]
          refine ih (k + 1) (by omega) P _ (FrS_t fN fP) p55 (fun j hj => ?_) hP
          rw [va_ap]
          by_cases g1 : j = k
          · subst g1
            rw [if_pos rfl, if_pos (Nat.lt_succ_self _)]
            unfold svC sv
            rw [dg_0]
          · rw [if_neg g1, hch j hj]
            by_cases g2 : j < k
            · rw [if_pos g2, if_pos (by omega)]
            · rw [if_neg g2, if_neg (by omega)]
      exact first (dK n (I 5) pr) 0 (by omega) K _ fK k55 (fun j hj => by rw [if_neg (Nat.not_lt_zero _)]) hS
    · rw [if_neg (by rw [zIr_le (c := 8) (by decide) (by omega)]; exact g8)]
      simp only [tl_some]
      rw [lp_128_73, if_neg (by decide)]
      obtain ⟨q1, q2, q3, q4, q5, q6, q7, q8⟩ := gen K fK
      exact hQ mo K _ q1 fJ q2 q3 q4 ⟨hS.1, hS.2.1, fun k a b => (hS.2.2.1 k a b).1, fun _ => ⟨q6, q8⟩, fun e => absurd e g8⟩
  rw [lp_128_0]
  by_cases c1 : I 52 3 = pr
  · rw [if_neg (fun e => e c1)]
    by_cases c2 : I 52 4 = I 1 4
    · rw [if_neg (fun e => e c2)]
      exact hQ mo I J ⟨fun _ _ _ _ _ _ => rfl, Or.inl rfl⟩ (fun _ _ => rfl) hsh c1 c2 (hca c1 c2)
    · rw [if_pos c2]
      exact run
  · rw [if_pos c1]
    exact run
theorem cw_128l {n m : Nat} {pr : Int32} (hn : I 1 0 = zI n) (h12 : n ≤ 12) (hm : I 1 1 = zI m) (h6m : m ≤ 6) (hp : ∀ k, m ≤ k → bt pr k = false) (h3 : ∀ l, pc6 (I 5 l) ≤ 3) (hW : okW (I 13)) (hB : ∀ j, ∃ w, w ≤ 999 ∧ I 12 j = zI w) (h8 : dK n (I 5) pr ≤ 8)
    (hQ : ∀ mo' K J', FrX I K 60 67 → (∀ c, c ≠ 60 → J' c = J c) → shOK mo' K n m → K 60 3 = pr → K 60 4 = I 1 4 → srD n m (I 4) (I 5) (I 12) (I 13) pr (K 60) (K 61) (K 67) (J' 60 16) → Q none (sM mo' G K J')) :
    ∀ d v, v + d = rws n (I 5) pr → 0 < d → ∀ mo' K J', FrX I K 60 67 → (∀ c, c ≠ 60 → J' c = J c) → shOK mo' K n m → K 60 3 = pr → K 60 4 = I 1 4 → SI n m (I 4) (I 5) (I 12) (I 13) pr (svC n (I 5) pr v) (K 60) (K 61) (K 62) (K 64) (K 65) (K 66) → (∀ j, j < dK n (I 5) pr → K 63 j = svC n (I 5) pr v j) → RI n m (I 4) (I 5) (I 12) (I 13) pr v (K 60) (K 67) (J' 60 16) →
    sm_wp X 128 114 [some (.ref 60), none, some (.int 1), some (.int (zI v))] [] (sM mo' G K J') Q := by
  intro d
  have rb := rws_b (n := n) (pr := pr) h3 h8
  induction d with
  | zero => intro v _ h0; exact absurd h0 (Nat.lt_irrefl _)
  | succ d ih =>
    intro v hv _ mo' K J' f fJ hs k3 k4s hS h55 hR
    have fo : ∀ c, c < 48 → K c = I c := fun c hc => f.1 c (by omega) (by omega) (by omega) (by omega) (by omega)
    rw [lpw_128_114, if_neg (by rw [zIl_le (c := 6561) (by decide) (by omega)]; show ¬ 6561 ≤ v; omega), if_neg (by decide)]
    refine cw_134 (I := K) (n := n) (m := m) (v := v) (pr := pr) (by rw [fo 1 (by decide)]; exact hn) h12 (by rw [fo 1 (by decide)]; exact hm) h6m hp (by rw [fo 13 (by decide)]; exact hW) (by rw [fo 12 (by decide)]; exact hB) hs (by rw [fo 5 (by decide)]; exact h8) (by omega) (by rw [fo 4 (by decide), fo 5 (by decide), fo 12 (by decide), fo 13 (by decide)]; exact hS) (by rw [fo 5 (by decide)]; exact h55) (by rw [fo 4 (by decide), fo 5 (by decide), fo 12 (by decide), fo 13 (by decide)]; exact hR) ?_
    intro mo2 L x fL shL hRL
    rw [fo 4 (by decide), fo 5 (by decide), fo 12 (by decide), fo 13 (by decide)] at hRL
    simp only [tl_none]
    have lk : ∀ c, c ≠ 48 → c ≠ 49 → c ≠ 50 → c ≠ 143 → c ≠ 60 → c ≠ 67 → L c = K c := fL.1
    have lo : ∀ c, c < 48 → L c = I c := fun c hc => (lk c (by omega) (by omega) (by omega) (by omega) (by omega) (by omega)).trans (fo c hc)
    have fXL : FrX I L 60 67 := by
      refine ⟨fun c a1 a2 a3 a4 a5 => (lk c a1 a2 a3 a4 (by omega) (by omega)).trans (f.1 c a1 a2 a3 a4 a5), ?_⟩
      rcases fL.2.1 with e | e
      · rw [e]; exact f.2
      · rw [e, fo 1 (by decide)]; exact Or.inr rfl
    have fJL : ∀ c, c ≠ 60 → up2 J' 60 16 x c = J c := fun c hc => by rw [up2_rn _ _ _ _ _ hc]; exact fJ c hc
    have jx : up2 J' 60 16 x 60 16 = x := up2_ss
    have hSL : SI n m (I 4) (I 5) (I 12) (I 13) pr (svC n (I 5) pr v) (L 60) (L 61) (L 62) (L 64) (L 65) (L 66) := by
      obtain ⟨s1, s2, s3, s4, s5⟩ := hS
      rw [lk 61 (by decide) (by decide) (by decide) (by decide) (by decide) (by decide), lk 62 (by decide) (by decide) (by decide) (by decide) (by decide) (by decide), lk 64 (by decide) (by decide) (by decide) (by decide) (by decide) (by decide), lk 65 (by decide) (by decide) (by decide) (by decide) (by decide) (by decide), lk 66 (by decide) (by decide) (by decide) (by decide) (by decide) (by decide)]
      refine ⟨?_, ?_, s3, s4, ?_⟩
      · rw [fL.2.2 2 (by decide) (by decide) (by decide) (by decide) (by decide)]; exact s1
      · rw [fL.2.2 5 (by decide) (by decide) (by decide) (by decide) (by decide)]; exact s2
      · rw [fL.2.2 12 (by decide) (by decide) (by decide) (by decide) (by decide)]; exact s5
    have l3 : L 60 3 = pr := by rw [fL.2.2 3 (by decide) (by decide) (by decide) (by decide) (by decide)]; exact k3
    have l4 : L 60 4 = I 1 4 := by rw [fL.2.2 4 (by decide) (by decide) (by decide) (by decide) (by decide)]; exact k4s
    -- what the next one leaves alone
    have nxt : ∀ N, FrS 60 66 L N → FrX I N 60 67 ∧ shOK mo2 N n m ∧ N 60 3 = pr ∧ N 60 4 = I 1 4 ∧ RI n m (I 4) (I 5) (I 12) (I 13) pr (v + 1) (N 60) (N 67) (up2 J' 60 16 x 60 16) := by
      intro N fN
      have no : ∀ c, c < 60 ∨ 66 < c → N c = L c := fN.1
      refine ⟨⟨fun c a1 a2 a3 a4 a5 => (no c (by omega)).trans (fXL.1 c a1 a2 a3 a4 a5), ?_⟩, ?_, ?_, ?_, ?_⟩
      · rw [no 48 (by decide)]; exact fXL.2
      · unfold shOK
        rw [no 48 (by decide), no 1 (by decide), no 4 (by decide), no 13 (by decide), no 49 (by decide), no 50 (by decide), no 143 (by decide)]
        exact shL
      · rw [fN.2 3 (by decide) (by decide) (by decide)]; exact l3
      · rw [fN.2 4 (by decide) (by decide) (by decide)]; exact l4
      · rw [jx]
        obtain ⟨a1, a2, a3, a4, a5⟩ := hRL
        refine ⟨?_, ?_, ?_, a4, ?_⟩
        · rw [fN.2 13 (by decide) (by decide) (by decide)]; exact a1
        · rw [fN.2 14 (by decide) (by decide) (by decide)]; exact a2
        · rw [fN.2 15 (by decide) (by decide) (by decide)]; exact a3
        · rw [fN.2 17 (by decide) (by decide) (by decide), fN.2 18 (by decide) (by decide) (by decide), no 67 (by decide)]; exact a5
    rw [lpw_128_129]
    refine cw_137 (I := L) (n := n) (m := m) (v := v) (pr := pr) h12 (by rw [lo 13 (by decide)]; exact hW) (by rw [lo 12 (by decide)]; exact hB) (by rw [lo 5 (by decide)]; exact h8) (by rw [lo 5 (by decide)]; omega) (by rw [lo 4 (by decide), lo 5 (by decide), lo 12 (by decide), lo 13 (by decide)]; exact hSL) (by rw [lo 5 (by decide), lk 63 (by decide) (by decide) (by decide) (by decide) (by decide) (by decide)]; exact h55) ?_ ?_
    · intro hv1 N fN n55 hSN
      rw [lo 5 (by decide)] at hv1 n55
      rw [lo 4 (by decide), lo 5 (by decide), lo 12 (by decide), lo 13 (by decide)] at hSN
      obtain ⟨q1, q2, q3, q4, q5⟩ := nxt N fN
      simp only [tl_some]
      rw [lpw_128_133, show zI v + 1 = zI (v + 1) from zIr_add 1 v]
      exact ih (v + 1) (by omega) (by omega) mo2 N _ q1 fJL q2 q3 q4 hSN n55 q5
    · intro hv1 N ch fN hSN
      rw [lo 5 (by decide)] at hv1
      rw [lo 4 (by decide), lo 5 (by decide), lo 12 (by decide), lo 13 (by decide)] at hSN
      obtain ⟨q1, q2, q3, q4, q5⟩ := nxt N fN
      simp only [tl_some]
      rw [lpw_128_133, lpw_128_114]
      have fin : Q none (sM mo2 G N (up2 J' 60 16 x)) := by
        refine hQ mo2 N _ q1 fJL q2 q3 q4 ⟨hSN.1, hSN.2.1, fun k a b => (hSN.2.2.1 k a b).1, fun e => absurd h8 (by omega), fun _ => ?_⟩
        rw [← hv1]
        exact q5
      by_cases g : (6561 : Int32) ≤ zI v + 1
      · rw [if_pos g]; exact fin
      · rw [if_neg g, if_pos rfl]; exact fin
theorem cw_128 {n m : Nat} {pr : Int32} (hn : I 1 0 = zI n) (h12 : n ≤ 12) (hm : I 1 1 = zI m) (h6m : m ≤ 6) (hp : ∀ k, m ≤ k → bt pr k = false) (h6 : ∀ l k, 6 ≤ k → bt (I 5 l) k = false) (h3 : ∀ l, pc6 (I 5 l) ≤ 3) (hW : okW (I 13)) (hB : ∀ j, ∃ w, w ≤ 999 ∧ I 12 j = zI w) (hsh : shOK mo I n m)
    (hca : I 60 3 = pr → I 60 4 = I 1 4 → srD n m (I 4) (I 5) (I 12) (I 13) pr (I 60) (I 61) (I 67) (J 60 16))
    (hQ : ∀ mo' K J', FrX I K 60 67 → (∀ c, c ≠ 60 → J' c = J c) → shOK mo' K n m → K 60 3 = pr → K 60 4 = I 1 4 → srD n m (I 4) (I 5) (I 12) (I 13) pr (K 60) (K 61) (K 67) (J' 60 16) → Q none (sM mo' G K J')) :
    sm_wp X 128 0 [some (.ref 60), some (.int pr), none, none] [] (sM mo G I J) Q := by
  have run : sm_wp X 129 0 [some (.ref 60), some (.int pr), none, none, none] [] (sM mo G (up2 (up2 (up2 (up2 (up2 (up2 I 60 3 pr) 60 4 (I 1 4)) 60 13 0) 60 14 0) 60 15 0) 60 17 (-1)) (up2 J 60 16 0)) (fun v M => sm_wp X 128 69 [some (.ref 60), some (.int pr), none, none] (v.toList ++ []) M Q) := by
    generalize hL : up2 (up2 (up2 (up2 (up2 (up2 I 60 3 pr) 60 4 (I 1 4)) 60 13 0) 60 14 0) 60 15 0) 60 17 (-1) = L
    have l52 : L 60 = va_up (va_up (va_up (va_up (va_up (va_up (I 60) 3 pr) 4 (I 1 4)) 13 0) 14 0) 15 0) 17 (-1) := by rw [← hL]; simp (decide := true) only [up2_ra, up2_rn, va_ap, ne_eq, if_false, if_true, not_false_eq_true]
    have lo : ∀ c, c ≠ 60 → L c = I c := fun c hc => by rw [← hL, up2_rn _ _ _ _ _ hc, up2_rn _ _ _ _ _ hc, up2_rn _ _ _ _ _ hc, up2_rn _ _ _ _ _ hc, up2_rn _ _ _ _ _ hc, up2_rn _ _ _ _ _ hc]
    refine cw_129 (I := L) (n := n) (m := m) (pr := pr) (by rw [lo 1 (by decide)]; exact hn) h12 (by rw [lo 1 (by decide)]; exact hm) h6m (by rw [lo 5 (by decide)]; exact h6) (by rw [lo 13 (by decide)]; exact hW) (by rw [lo 12 (by decide)]; exact hB) ?_
    intro K fK k55 hS
    rw [lo 5 (by decide)] at k55
    rw [lo 4 (by decide), lo 5 (by decide), lo 12 (by decide), lo 13 (by decide)] at hS
    simp only [tl_none]
    have ko : ∀ c, c < 60 ∨ 67 < c → K c = I c := fun c hc => (fK.1 c (by omega)).trans (lo c (by omega))
    have gen : ∀ N, FrS 60 66 L N → FrX I N 60 67 ∧ shOK mo N n m ∧ N 60 3 = pr ∧ N 60 4 = I 1 4 ∧ N 60 13 = 0 ∧ N 60 14 = 0 ∧ N 60 15 = 0 ∧ N 60 17 = -1 := by
      intro N fN
      have no : ∀ c, c < 60 ∨ 67 < c → N c = I c := fun c hc => (fN.1 c (by omega)).trans (lo c (by omega))
      refine ⟨⟨fun c a1 a2 a3 a4 a5 => no c a5, Or.inl (by rw [no 48 (by decide)])⟩, ?_, ?_, ?_, ?_, ?_, ?_, ?_⟩
      · unfold shOK
        rw [no 48 (by decide), no 1 (by decide), no 4 (by decide), no 13 (by decide), no 49 (by decide), no 50 (by decide), no 143 (by decide)]
        exact hsh
      · rw [fN.2 3 (by decide) (by decide) (by decide), l52]; rfl
      · rw [fN.2 4 (by decide) (by decide) (by decide), l52]; rfl
      · rw [fN.2 13 (by decide) (by decide) (by decide), l52]; rfl
      · rw [fN.2 14 (by decide) (by decide) (by decide), l52]; rfl
      · rw [fN.2 15 (by decide) (by decide) (by decide), l52]; rfl
      · rw [fN.2 17 (by decide) (by decide) (by decide), l52]; rfl
    have fJ : ∀ c, c ≠ 60 → up2 J 60 16 0 c = J c := fun c hc => up2_rn _ _ _ _ _ hc
    have d12 : dK n (I 5) pr ≤ 12 := Nat.le_trans (cN_le _ _) h12
    rw [lpw_128_69, lpw_131_0, hS.2.1]
    by_cases g8 : dK n (I 5) pr ≤ 8
    · rw [if_pos (by rw [zIr_le (c := 8) (by decide) (by omega)]; exact g8)]
      simp only [tl_some]
      rw [lpw_128_73, if_pos rfl]
      -- the first one
      have first : ∀ d k, k + d = dK n (I 5) pr → ∀ N ch, FrS 60 66 L N → (∀ j, j < 8 → j < dK n (I 5) pr → N 63 j = ch j) → (∀ j, j < dK n (I 5) pr → ch j = if j < k then svC n (I 5) pr 0 j else -1) → SI n m (I 4) (I 5) (I 12) (I 13) pr ch (N 60) (N 61) (N 62) (N 64) (N 65) (N 66) → sm_wp X 128 79 [some (.ref 60), none, some (.int (zI k)), none] [] (sM mo G N (up2 J 60 16 0)) Q := by
        intro d
        induction d with
        | zero =>
          intro k hk N ch fN n55 hch hN
          have : k = dK n (I 5) pr := by omega
          subst this
          obtain ⟨q1, q2, q3, q4, q5, q6, q7, q8⟩ := gen N fN
          rw [lpw_128_79, hN.2.1, if_pos (by rw [zI_le (by omega) (by omega)]; exact Nat.le_refl _)]
          have e : ∀ j, j < dK n (I 5) pr → ch j = svC n (I 5) pr 0 j := fun j hj => by rw [hch j hj, if_pos hj]
          refine cw_128l hn h12 hm h6m hp h3 hW hB g8 hQ (rws n (I 5) pr) 0 (by omega) rws_pos mo N _ q1 fJ q2 q3 q4 (si_ch hN (fun s => ?_)) (fun j hj => by rw [n55 j (by omega) hj]; exact e j hj) ⟨q5, q6, q7, fun k hk => ?_, q8⟩
          · unfold gtC
            rw [gsm_c (fun j hj => (e j (Nat.lt_of_lt_of_le hj (Nat.min_le_right _ _))).symm)]
          · rw [up2_ss, lb_0]
            exact ⟨fun e => (by cases e), fun e => absurd e.choose_spec.1 (Nat.not_lt_zero _)⟩
        | succ d ih =>
          intro k hk N ch fN n55 hch hN
          have no : ∀ c, c < 60 ∨ 67 < c → N c = I c := fun c hc => (fN.1 c (by omega)).trans (lo c (by omega))
          have kD : k < dK n (I 5) pr := by omega
          rw [lpw_128_79, hN.2.1, if_neg (by rw [zI_le (by omega) (by omega)]; omega), if_neg (by rw [zIl_le (c := 8) (by decide) (by omega)]; show ¬ 8 ≤ k; omega), cw_132 (s := 0) (by omega) ((hN.2.2.1 k (by omega) kD).2) (by decide) (by decide)]
          simp only [tl_some]
          have z6 : 0 < cN (bt (clB n (I 5) pr k)) 6 := rd_pos k kD
          have np := nt_p z6
          have nx0 : nxC (clB n (I 5) pr k) (cN (bt (clB n (I 5) pr k)) 0) = zI (nt (bt (clB n (I 5) pr k)) 6 0) := by
            unfold nxC
            rw [show cN (bt (clB n (I 5) pr k)) 0 = 0 from rfl, if_pos z6]
          have ck : ch k = -1 := by rw [hch k kD, if_neg (Nat.lt_irrefl _)]
          rw [nx0, lpw_128_101]
          refine cw_133 (I := N) (n := n) (m := m) (pr := pr) (ch := ch) (by omega) (by rw [no 5 (by decide)]; exact kD) np.2.1 h12 (by rw [no 13 (by decide)]; exact hW) (by rw [no 12 (by decide)]; exact hB) (by rw [no 4 (by decide), no 5 (by decide), no 12 (by decide), no 13 (by decide)]; exact hN) (by rw [no 5 (by decide)]; exact n55) (Or.inl ck) ?_
          intro P fP p55 hP
          rw [no 5 (by decide)] at p55
          rw [no 4 (by decide), no 5 (by decide), no 12 (by decide), no 13 (by decide)] at hP
          simp only [tl_none]
          rw [lpw_128_104, show zI k + 1 = zI (k + 1) from zIr_add 1 k]
          refine ih (k + 1) (by omega) P _ (FrS_t fN fP) p55 (fun j hj => ?_) hP
          rw [va_ap]
          by_cases g1 : j = k
          · subst g1
            rw [if_pos rfl, if_pos (Nat.lt_succ_self _)]
            unfold svC sv
            rw [dg_0]
          · rw [if_neg g1, hch j hj]
            by_cases g2 : j < k
            · rw [if_pos g2, if_pos (by omega)]
            · rw [if_neg g2, if_neg (by omega)]
      exact first (dK n (I 5) pr) 0 (by omega) K _ fK k55 (fun j hj => by rw [if_neg (Nat.not_lt_zero _)]) hS
    · rw [if_neg (by rw [zIr_le (c := 8) (by decide) (by omega)]; exact g8)]
      simp only [tl_some]
      rw [lpw_128_73, if_neg (by decide)]
      obtain ⟨q1, q2, q3, q4, q5, q6, q7, q8⟩ := gen K fK
      exact hQ mo K _ q1 fJ q2 q3 q4 ⟨hS.1, hS.2.1, fun k a b => (hS.2.2.1 k a b).1, fun _ => ⟨q6, q8⟩, fun e => absurd e g8⟩
  rw [lpw_128_0]
  by_cases c1 : I 60 3 = pr
  · rw [if_neg (fun e => e c1)]
    by_cases c2 : I 60 4 = I 1 4
    · rw [if_neg (fun e => e c2)]
      exact hQ mo I J ⟨fun _ _ _ _ _ _ => rfl, Or.inl rfl⟩ (fun _ _ => rfl) hsh c1 c2 (hca c1 c2)
    · rw [if_pos c2]
      exact run
  · rw [if_pos c1]
    exact run
end T5
end
section
/-! The reference's settlements: gathered, a row, fair, stable. -/
def FrM (I K : Nat → Nat → Int32) : Prop := (∀ c, c ≠ 81 → (c < 123 ∨ 127 < c) → K c = I c) ∧ ∀ j, j ≠ 65 → j ≠ 69 → K 81 j = I 81 j
theorem FrM_t {I K L : Nat → Nat → Int32} (h : FrM I K) (k : FrM K L) : FrM I L := ⟨fun c a b => (k.1 c a b).trans (h.1 c a b), fun j a b => (k.2 j a b).trans (h.2 j a b)⟩
def pF (c : Nat → Nat) (k : Nat) : Nat := up (fun j a => a * c j) k 1
theorem pF_s (c : Nat → Nat) (k : Nat) : pF c (k + 1) = pF c k * c k := rfl
theorem pF_rp (c : Nat → Nat) (K : Nat) : ∀ k, k ≤ K → pF c k * rp c K k = rp c K 0 := by
  intro k
  induction k with
  | zero => intro _; exact Nat.one_mul _
  | succ k ih =>
    intro hk
    rw [pF_s, ← ih (by omega), rp_s c (show k < K by omega), Nat.mul_assoc, Nat.mul_comm (c k)]
theorem pF_K (c : Nat → Nat) (K : Nat) : pF c K = rp c K 0 := by
  have := pF_rp c K K (Nat.le_refl _)
  rw [rp_K, Nat.mul_one] at this
  exact this
def MI (n : Nat) (r4 r5 W : Nat → Int32) (pr : Int32) (r81 r123 r124 r125 r126 r127 : Nat → Int32) : Prop := r81 65 = zI (dK n r5 pr) ∧ (∀ j, j < dK n r5 pr → r123 j = zI (dl n r5 pr j)) ∧ (∀ j, j < 8 → j < dK n r5 pr → r125 j = zI (rd n r5 pr j) ∧ ∀ i, i < rd n r5 pr j → r124 (3 * j + i) = zI (nt (bt (clB n r5 pr j)) 6 i)) ∧ (dK n r5 pr ≤ 8 → r81 69 = zI (rws n r5 pr)) ∧ ∀ s, s < 6 → r126 s = zI (sur n r4 r5 W pr s) ∧ r127 s = zI (nowN r4 W n s)
theorem nowN_0 {n m : Nat} {r4 W : Nat → Int32} (h12 : n ≤ 12) (h6 : m ≤ 6) (hV : ∀ l, l < n → r4 l = -1 ∨ ∃ s, s < m ∧ r4 l = zI s) {s : Nat} (hs : m ≤ s) (hs6 : s < 6) : nowN r4 W n s = 0 := by
  have e : hlds r4 (zI s) n = 0 := by
    apply bt_ext
    intro k _
    rw [bt_0, bt_hl r4 _ n h12, decide_eq_false]
    rintro ⟨h1, h2⟩
    rcases hV k h1 with e | ⟨t, ht, e⟩
    · rw [e, zI_m1' (by omega)] at h2; exact h2
    · rw [e, zI_eq (by omega) (by omega)] at h2; omega
  unfold nowN
  rw [e]
  have : ∀ k, wA W s 0 k = 0 := by
    intro k
    induction k with
    | zero => rfl
    | succ k ih => rw [wA_q (bt_0 k), ih]
  exact this n
theorem popc_6 {x : Int32} (h : ∀ k, 6 ≤ k → bt x k = false) : popc x = zI (pc6 x) ∧ pc6 x ≤ 6 := (bc_6 h).2
section U1
variable {X : (Nat → Int32) × Nat} {mo : Bool} {G : Nat × Nat} {I : Nat → Nat → Int32} {J : Nat → Nat → Int64} {Q : Option Value → sm_M → Prop}
def mP (n : Nat) (r4 r5 W : Nat → Int32) (pr : Int32) (l : Nat) (K : Nat → Nat → Int32) : Prop := K 81 65 = zI (cN (stD r5 pr) l) ∧ K 81 69 = zI (pF (rd n r5 pr) (min 8 (cN (stD r5 pr) l))) ∧ (∀ j, j < cN (stD r5 pr) l → K 123 j = zI (dl n r5 pr j)) ∧ (∀ j, j < 8 → j < cN (stD r5 pr) l → K 125 j = zI (rd n r5 pr j) ∧ ∀ i, i < rd n r5 pr j → K 124 (3 * j + i) = zI (nt (bt (clB n r5 pr j)) 6 i)) ∧
  ∀ s, s < 6 → K 126 s = zI (wA W s (hlds r4 (zI s) n &&& fxd r5 pr n) l) ∧ K 127 s = zI (nowN r4 W n s)
theorem mg_c {n m l : Nat} {pr : Int32} {r5 : Nat → Int32} (hm : I 81 10 = zI m) (h6m : m ≤ 6) (hp : ∀ k, m ≤ k → bt pr k = false) (h3 : ∀ l, pc6 (r5 l) ≤ 3) (hl : l < n) (g : stD r5 pr l = true) (g8 : cN (stD r5 pr) l < 8)
    (hQ : ∀ K, FrM I K → K 123 = I 123 → K 126 = I 126 → K 127 = I 127 → K 81 65 = zI (cN (stD r5 pr) l + 1) → K 81 69 = I 81 69 * zI (rd n r5 pr (cN (stD r5 pr) l)) → (∀ j, j ≠ cN (stD r5 pr) l → K 125 j = I 125 j ∧ ∀ i, i < 3 → K 124 (3 * j + i) = I 124 (3 * j + i)) → K 125 (cN (stD r5 pr) l) = zI (rd n r5 pr (cN (stD r5 pr) l)) → (∀ i, i < rd n r5 pr (cN (stD r5 pr) l) → K 124 (3 * cN (stD r5 pr) l + i) = zI (nt (bt (clB n r5 pr (cN (stD r5 pr) l))) 6 i)) →
      sm_wp X 275 61 [some (.ref 81), some (.int (zI (l + 1))), none, none] [] (sM mo G K J) Q)
    (h65 : I 81 65 = zI (cN (stD r5 pr) l)) : ∀ d s, s + d = m → ∀ K, FrM I K → K 81 = I 81 → K 123 = I 123 → K 126 = I 126 → K 127 = I 127 → (∀ j, j ≠ cN (stD r5 pr) l → K 125 j = I 125 j ∧ ∀ i, i < 3 → K 124 (3 * j + i) = I 124 (3 * j + i)) → K 125 (cN (stD r5 pr) l) = zI (cN (bt (clB n r5 pr (cN (stD r5 pr) l))) s) → (∀ i, i < cN (bt (clB n r5 pr (cN (stD r5 pr) l))) s → K 124 (3 * cN (stD r5 pr) l + i) = zI (nt (bt (clB n r5 pr (cN (stD r5 pr) l))) 6 i)) →
      sm_wp X 275 163 [some (.ref 81), some (.int (zI l)), some (.int (clB n r5 pr (cN (stD r5 pr) l))), some (.int (zI s))] [] (sM mo G K J) Q := by
  have r3 := rd_3 (n := n) (pr := pr) h3 (cN (stD r5 pr) l)
  have cm : ∀ s, m ≤ s → s ≤ 6 → cN (bt (clB n r5 pr (cN (stD r5 pr) l))) s = cN (bt (clB n r5 pr (cN (stD r5 pr) l))) m := by
    intro s hs _
    have : ∀ e, cN (bt (clB n r5 pr (cN (stD r5 pr) l))) (m + e) = cN (bt (clB n r5 pr (cN (stD r5 pr) l))) m := by
      intro e
      induction e with
      | zero => rfl
      | succ e ih =>
        rw [← Nat.add_assoc, cN_q, ih]
        unfold clB
        rw [bt_and, hp (m + e) (by omega), Bool.and_false]
        decide
    have q := this (s - m)
    rw [show m + (s - m) = s from by omega] at q
    exact q
  have c6 : rd n r5 pr (cN (stD r5 pr) l) = cN (bt (clB n r5 pr (cN (stD r5 pr) l))) m := cm 6 h6m (Nat.le_refl _)
  generalize hD : cN (stD r5 pr) l = D at *
  intro d
  induction d with
  | zero =>
    intro s hs K f k81 k123 k126 k127 ko k125 k124
    have : s = m := by omega
    subst this
    rw [lp_275_163, k81, hm, if_pos (by rw [zI_le (by omega) (by omega)]; exact Nat.le_refl _), h65, zI_vp (by omega), zI_cn (by omega), k125, show zI l + 1 = zI (l + 1) from zIr_add 1 l, ← c6, show zI D + 1 = zI (D + 1) from zIr_add 1 D]
    refine ⟨g8, hQ _ ⟨fun c a b => ?_, fun j a b => ?_⟩ ?_ ?_ ?_ ?_ ?_ ?_ ?_ ?_⟩
    · rw [up2_rn _ _ _ _ _ a, up2_rn _ _ _ _ _ a]; exact f.1 c a b
    · rw [up2_ra, up2_ra, va_ap, if_neg a, va_ap, if_neg b, k81]
    · rw [up2_rn _ _ _ _ _ (by decide), up2_rn _ _ _ _ _ (by decide)]; exact k123
    · rw [up2_rn _ _ _ _ _ (by decide), up2_rn _ _ _ _ _ (by decide)]; exact k126
    · rw [up2_rn _ _ _ _ _ (by decide), up2_rn _ _ _ _ _ (by decide)]; exact k127
    · rw [up2_ra, va_ap, if_pos rfl]
    · rw [up2_ra, up2_ra]; rfl
    · simp (decide := true) only [up2_ra, up2_rn, va_ap, ne_eq, if_false, if_true, not_false_eq_true]; exact ko
    · simp (decide := true) only [up2_ra, up2_rn, va_ap, ne_eq, if_false, if_true, not_false_eq_true]; rw [c6]; exact k125
    · simp (decide := true) only [up2_ra, up2_rn, va_ap, ne_eq, if_false, if_true, not_false_eq_true]; rw [c6]; exact k124
  | succ d ih =>
    intro s hs K f k81 k123 k126 k127 ko k125 k124
    rw [lp_275_163, k81, hm, if_neg (by rw [zI_le (by omega) (by omega)]; omega), show zI s + 1 = zI (s + 1) from zIr_add 1 s]
    cases gb : bt (clB n r5 pr D) s with
    | true =>
      have clt : cN (bt (clB n r5 pr D)) s < rd n r5 pr D := cN_lt (show s < 6 by omega) gb
      have nte : nt (bt (clB n r5 pr D)) 6 (cN (bt (clB n r5 pr D)) s) = s := nt_c (show s < 6 by omega) gb
      rw [if_pos (by rw [sb_0 _ _ (show s < 32 by omega), gb]; decide), h65, zI_vp (by omega), zI_cn (by omega), k125, show (3 : Int32) * zI D = zI (3 * D) from zIl_mul 3 D, zI_add, zI_vp (by omega), zI_cn (by omega), show zI (cN (bt (clB n r5 pr D)) s) + 1 = zI (cN (bt (clB n r5 pr D)) s + 1) from zIr_add 1 _]
      refine ⟨g8, by omega, ih (s + 1) (by omega) _ ⟨fun c a b => ?_, fun j a b => ?_⟩ ?_ ?_ ?_ ?_ (fun j hj => ?_) ?_ (fun i hi => ?_)⟩
      · rw [up2_rn _ _ _ _ _ (by omega), up2_rn _ _ _ _ _ (by omega)]; exact f.1 c a b
      · rw [up2_rn _ _ _ _ _ (by decide), up2_rn _ _ _ _ _ (by decide)]; exact f.2 j a b
      · rw [up2_rn _ _ _ _ _ (by decide), up2_rn _ _ _ _ _ (by decide)]; exact k81
      · rw [up2_rn _ _ _ _ _ (by decide), up2_rn _ _ _ _ _ (by decide)]; exact k123
      · rw [up2_rn _ _ _ _ _ (by decide), up2_rn _ _ _ _ _ (by decide)]; exact k126
      · rw [up2_rn _ _ _ _ _ (by decide), up2_rn _ _ _ _ _ (by decide)]; exact k127
      · rw [up2_ra, va_ap, if_neg hj, up2_rn _ _ _ _ _ (by decide), up2_rn _ _ _ _ _ (by decide), up2_ra]
        refine ⟨(ko j hj).1, fun i hi => ?_⟩
        rw [va_ap, if_neg (by omega)]
        exact (ko j hj).2 i hi
      · rw [up2_ra, va_ap, if_pos rfl, cN_p gb]
      · rw [up2_rn _ _ _ _ _ (by decide), up2_ra, va_ap]
        rw [cN_p gb] at hi
        by_cases gi : i = cN (bt (clB n r5 pr D)) s
        · subst gi; rw [if_pos rfl, nte]
        · rw [if_neg (by omega)]; exact k124 i (by omega)
    | false =>
      rw [if_neg (by rw [sb_0 _ _ (show s < 32 by omega), gb]; exact fun e => e rfl)]
      refine ih (s + 1) (by omega) K f k81 k123 k126 k127 ko ?_ ?_
      · rw [cN_q (by rw [gb]; decide)]; exact k125
      · rw [cN_q (by rw [gb]; decide)]; exact k124
theorem mg_b {n m : Nat} (hn : I 81 3 = zI n) (h12 : n ≤ 12) (hm : I 81 10 = zI m) (h6m : m ≤ 6) (hp : ∀ k, m ≤ k → bt (I 81 15) k = false) (h6 : ∀ l k, 6 ≤ k → bt (I 86 l) k = false) (h3 : ∀ l, pc6 (I 86 l) ≤ 3) (hV : ∀ l, l < n → I 85 l = -1 ∨ ∃ s, s < m ∧ I 85 l = zI s) (hW : okW (I 91))
    (hQ : ∀ K, FrM I K → MI n (I 85) (I 86) (I 91) (I 81 15) (K 81) (K 123) (K 124) (K 125) (K 126) (K 127) → Q none (sM mo G K J)) :
    ∀ d l, l + d = n → ∀ K, FrM I K → mP n (I 85) (I 86) (I 91) (I 81 15) l K → sm_wp X 275 61 [some (.ref 81), some (.int (zI l)), none, none] [] (sM mo G K J) Q := by
  intro d
  induction d with
  | zero =>
    intro l hl K f h
    have : l = n := by omega
    subst this
    obtain ⟨h1, h2, h3', h4, h5⟩ := h
    rw [lp_275_61, f.2 3 (by decide) (by decide), hn, if_pos (by rw [zI_le (by omega) (by omega)]; exact Nat.le_refl _)]
    refine hQ K f ⟨h1, h3', h4, fun e8 => ?_, h5⟩
    rw [h2]
    have e : min 8 (cN (stD (I 86) (I 81 15)) l) = dK l (I 86) (I 81 15) := Nat.min_eq_right e8
    rw [e, pF_K]
    rfl
  | succ d ih =>
    intro l hl K f h
    obtain ⟨h1, h2, h3', h4, h5⟩ := h
    have ln : l < n := by omega
    have k85 : K 85 = I 85 := f.1 85 (by decide) (by decide)
    have k86 : K 86 = I 86 := f.1 86 (by decide) (by decide)
    have k91 : K 91 = I 91 := f.1 91 (by decide) (by decide)
    have k15 : K 81 15 = I 81 15 := f.2 15 (by decide) (by decide)
    have c12 := cN_le (stD (I 86) (I 81 15)) l
    have b := popc_6 (x := I 86 l &&& I 81 15) (fun k hk => by rw [bt_and, h6 l k hk, Bool.false_and])
    rw [lp_275_61, f.2 3 (by decide) (by decide), hn, if_neg (by rw [zI_le (by omega) (by omega)]; omega), zI_vp (by omega), zI_cn (by omega), k86, k15, ct_Mbits, b.1]
    refine ⟨by omega, ?_⟩
    simp only [tl_some]
    rw [lp_275_85]
    have bs : ∀ s, s < 6 → bt (hlds (I 85) (zI s) n &&& fxd (I 86) (I 81 15) n) l = (decide (I 85 l = zI s) && !stD (I 86) (I 81 15) l) := by
      intro s hs
      rw [bt_and, bt_hl _ _ n h12, bt_fxd _ _ n h12, decide_eq_true ln, Bool.true_and]
      have : decide (l < n ∧ I 85 l = zI s) = decide (I 85 l = zI s) := by
        by_cases e : I 85 l = zI s
        · rw [decide_eq_true e, decide_eq_true ⟨ln, e⟩]
        · rw [decide_eq_false e, decide_eq_false (fun x => e x.2)]
      rw [this]
    by_cases g : stD (I 86) (I 81 15) l = true
    · have g2 : 2 ≤ pc6 (I 86 l &&& I 81 15) := by
        unfold stD at g
        exact decide_eq_true_iff.mp g
      have dle : dl n (I 86) (I 81 15) (cN (stD (I 86) (I 81 15)) l) = l := nt_c ln g
      have sw : ∀ s, s < 6 → wA (I 91) s (hlds (I 85) (zI s) n &&& fxd (I 86) (I 81 15) n) (l + 1) = wA (I 91) s (hlds (I 85) (zI s) n &&& fxd (I 86) (I 81 15) n) l := fun s hs => wA_q (by rw [bs s hs, g, Bool.not_true, Bool.and_false])
      rw [if_pos (by rw [zIl_le (c := 2) (by decide) (by omega)]; exact g2), h1, zI_vp (by omega), zI_cn (by omega)]
      refine ⟨by omega, ?_⟩
      by_cases g8 : 8 ≤ cN (stD (I 86) (I 81 15)) l
      · rw [if_pos (by rw [zIl_le (c := 8) (by decide) (by omega)]; exact g8), show zI l + 1 = zI (l + 1) from zIr_add 1 l, show zI (cN (stD (I 86) (I 81 15)) l) + 1 = zI (cN (stD (I 86) (I 81 15)) l + 1) from zIr_add 1 _]
        refine ih (l + 1) (by omega) _ ⟨fun c a b => ?_, fun j a b => ?_⟩ ⟨?_, ?_, fun j hj => ?_, fun j a b => ?_, fun s hs => ?_⟩
        · rw [up2_rn _ _ _ _ _ a, up2_rn _ _ _ _ _ (by omega)]; exact f.1 c a b
        · rw [up2_ra, va_ap, if_neg a, up2_rn _ _ _ _ _ (by decide)]; exact f.2 j a b
        · rw [up2_ra, va_ap, if_pos rfl, cN_p g]
        · rw [up2_ra, va_ap, if_neg (by decide), up2_rn _ _ _ _ _ (by decide), h2, cN_p g, Nat.min_eq_left (show 8 ≤ cN (stD (I 86) (I 81 15)) l + 1 by omega), Nat.min_eq_left g8]
        · rw [up2_rn _ _ _ _ _ (by decide), up2_ra, va_ap]
          rw [cN_p g] at hj
          by_cases gj : j = cN (stD (I 86) (I 81 15)) l
          · rw [if_pos gj, gj, dle]
          · rw [if_neg gj]; exact h3' j (by omega)
        · rw [up2_rn _ _ _ _ _ (by decide), up2_rn _ _ _ _ _ (by decide), up2_rn _ _ _ _ _ (by decide), up2_rn _ _ _ _ _ (by decide)]
          exact h4 j a (by omega)
        · rw [up2_rn _ _ _ _ _ (by decide), up2_rn _ _ _ _ _ (by decide), up2_rn _ _ _ _ _ (by decide), up2_rn _ _ _ _ _ (by decide), sw s hs]
          exact h5 s hs
      · rw [if_neg (by rw [zIl_le (c := 8) (by decide) (by omega)]; exact g8), zI_vp (by omega)]
        refine ⟨by omega, ?_⟩
        have ecl : I 86 l &&& I 81 15 = clB n (I 86) (I 81 15) (cN (stD (I 86) (I 81 15)) l) := by unfold clB; rw [dle]
        rw [ecl]
        generalize hL : up2 (up2 K 123 (cN (stD (I 86) (I 81 15)) l) (zI l)) 125 (cN (stD (I 86) (I 81 15)) l) 0 = L
        have l81 : L 81 = K 81 := by rw [← hL]; simp (decide := true) only [up2_ra, up2_rn, va_ap, ne_eq, if_false, if_true, not_false_eq_true]
        have l123 : L 123 = va_up (K 123) (cN (stD (I 86) (I 81 15)) l) (zI l) := by rw [← hL]; simp (decide := true) only [up2_ra, up2_rn, va_ap, ne_eq, if_false, if_true, not_false_eq_true]
        have l124 : L 124 = K 124 := by rw [← hL]; simp (decide := true) only [up2_ra, up2_rn, va_ap, ne_eq, if_false, if_true, not_false_eq_true]
        have l125 : L 125 = va_up (K 125) (cN (stD (I 86) (I 81 15)) l) 0 := by rw [← hL]; simp (decide := true) only [up2_ra, up2_rn, va_ap, ne_eq, if_false, if_true, not_false_eq_true]
        have l126 : L 126 = K 126 := by rw [← hL]; simp (decide := true) only [up2_ra, up2_rn, va_ap, ne_eq, if_false, if_true, not_false_eq_true]
        have l127 : L 127 = K 127 := by rw [← hL]; simp (decide := true) only [up2_ra, up2_rn, va_ap, ne_eq, if_false, if_true, not_false_eq_true]
        have fL : FrM I L := ⟨fun c a b => by rw [← hL, up2_rn _ _ _ _ _ (by omega), up2_rn _ _ _ _ _ (by omega)]; exact f.1 c a b, fun j a b => by rw [l81]; exact f.2 j a b⟩
        refine mg_c (I := L) (n := n) (m := m) (l := l) (pr := I 81 15) (r5 := I 86) (by rw [l81, f.2 10 (by decide) (by decide)]; exact hm) h6m hp h3 ln g (by omega) ?_ (by rw [l81]; exact h1) m 0 (by omega) L ⟨fun _ _ _ => rfl, fun _ _ _ => rfl⟩ rfl rfl rfl rfl (fun j hj => ⟨rfl, fun _ _ => rfl⟩) (by rw [l125, va_ap, if_pos rfl]; rfl) (fun i hi => absurd hi (Nat.not_lt_zero _))
        intro N fN n123 n126 n127 n65 n69 no n125 n124
        refine ih (l + 1) (by omega) N (FrM_t fL fN) ⟨?_, ?_, fun j hj => ?_, fun j a b => ?_, fun s hs => ?_⟩
        · rw [n65, cN_p g]
        · rw [n69, l81, h2, zI_mul, cN_p g, Nat.min_eq_right (show cN (stD (I 86) (I 81 15)) l ≤ 8 by omega), Nat.min_eq_right (show cN (stD (I 86) (I 81 15)) l + 1 ≤ 8 by omega), pF_s]
        · rw [n123, l123, va_ap]
          rw [cN_p g] at hj
          by_cases gj : j = cN (stD (I 86) (I 81 15)) l
          · rw [if_pos gj, gj, dle]
          · rw [if_neg gj]; exact h3' j (by omega)
        · rw [cN_p g] at b
          by_cases gj : j = cN (stD (I 86) (I 81 15)) l
          · rw [gj]; exact ⟨n125, n124⟩
          · have q := h4 j a (by omega)
            have q2 := no j gj
            have r3 := rd_3 (n := n) (pr := I 81 15) h3 j
            refine ⟨?_, fun i hi => ?_⟩
            · rw [q2.1, l125, va_ap, if_neg gj]; exact q.1
            · rw [q2.2 i (by omega), l124]; exact q.2 i hi
        · rw [n126, n127, l126, l127, sw s hs]; exact h5 s hs
    · have g2 : ¬ 2 ≤ pc6 (I 86 l &&& I 81 15) := by
        unfold stD at g
        exact fun e => g (decide_eq_true e)
      rw [if_neg (by rw [zIl_le (c := 2) (by decide) (by omega)]; exact g2), zI_vp (by omega), zI_cn (by omega), k85, show zI l + 1 = zI (l + 1) from zIr_add 1 l]
      refine ⟨by omega, ?_⟩
      rcases hV l ln with e | ⟨t, ht, e⟩
      · rw [if_pos e]
        refine ih (l + 1) (by omega) K f ⟨?_, ?_, ?_, ?_, fun s hs => ?_⟩
        · rw [cN_q g]; exact h1
        · rw [cN_q g]; exact h2
        · rw [cN_q g]; exact h3'
        · rw [cN_q g]; exact h4
        · rw [wA_q (by rw [bs s hs, e, decide_eq_false (by rw [zI_m1' (by omega)]; exact id), Bool.false_and])]
          exact h5 s hs
      · have wz : I 91 (12 * t + l) = zI (ww (I 91) t l) := by
          obtain ⟨w, hw, e⟩ := hW (12 * t + l)
          unfold ww
          rw [e, zI_cn (by omega)]
        rw [e, if_neg (by rw [zI_m1 (by omega)]; exact id), zI_vp (by omega), zI_cn (by omega), show (12 : Int32) * zI t = zI (12 * t) from zIl_mul 12 t, zI_add, zI_vp (by omega), zI_cn (by omega), k91, wz, (h5 t (by omega)).1, zI_add]
        refine ⟨by omega, by omega, ih (l + 1) (by omega) _ ⟨fun c a b => ?_, fun j a b => ?_⟩ ⟨?_, ?_, ?_, ?_, fun s hs => ?_⟩⟩
        · rw [up2_rn _ _ _ _ _ (by omega)]; exact f.1 c a b
        · rw [up2_rn _ _ _ _ _ (by decide)]; exact f.2 j a b
        · rw [cN_q g, up2_rn _ _ _ _ _ (by decide)]; exact h1
        · rw [cN_q g, up2_rn _ _ _ _ _ (by decide)]; exact h2
        · rw [cN_q g, up2_rn _ _ _ _ _ (by decide)]; exact h3'
        · rw [cN_q g, up2_rn _ _ _ _ _ (by decide), up2_rn _ _ _ _ _ (by decide)]; exact h4
        · rw [up2_ra, va_ap, up2_rn _ _ _ _ _ (by decide)]
          have gf : stD (I 86) (I 81 15) l = false := by
            cases c : stD (I 86) (I 81 15) l with
            | false => rfl
            | true => exact absurd c g
          by_cases gs : s = t
          · subst gs
            rw [if_pos rfl, wA_p (by rw [bs s hs, e, decide_eq_true rfl, gf]; rfl)]
            exact ⟨rfl, (h5 s hs).2⟩
          · rw [if_neg gs, wA_q (by rw [bs s hs, e, decide_eq_false (by rw [zI_eq (by omega) (by omega)]; omega), Bool.false_and])]
            exact h5 s hs
theorem ct_275 {n m : Nat} (hn : I 81 3 = zI n) (h12 : n ≤ 12) (hm : I 81 10 = zI m) (h6m : m ≤ 6) (hp : ∀ k, m ≤ k → bt (I 81 15) k = false) (h6 : ∀ l k, 6 ≤ k → bt (I 86 l) k = false) (h3 : ∀ l, pc6 (I 86 l) ≤ 3) (hV : ∀ l, l < n → I 85 l = -1 ∨ ∃ s, s < m ∧ I 85 l = zI s) (hW : okW (I 91))
    (hQ : ∀ K, FrM I K → MI n (I 85) (I 86) (I 91) (I 81 15) (K 81) (K 123) (K 124) (K 125) (K 126) (K 127) → Q none (sM mo G K J)) :
    sm_wp X 275 0 [some (.ref 81), none, none, none] [] (sM mo G I J) Q := by
  have key : ∀ d s, s + d = 6 → ∀ K, FrM I K → K 81 65 = 0 → K 81 69 = 1 → (∀ t, t < s → K 126 t = 0 ∧ K 127 t = zI (nowN (I 85) (I 91) n t)) → sm_wp X 275 12 [some (.ref 81), some (.int (zI s)), none, none] [] (sM mo G K J) Q := by
    intro d
    induction d with
    | zero =>
      intro s hs K f k65 k69 h
      have : s = 6 := by omega
      subst this
      rw [lp_275_12, if_pos (by decide)]
      exact mg_b hn h12 hm h6m hp h6 h3 hV hW hQ n 0 (by omega) K f ⟨k65, k69, fun j hj => absurd hj (Nat.not_lt_zero _), fun j _ hj => absurd hj (Nat.not_lt_zero _), h⟩
    | succ d ih =>
      intro s hs K f k65 k69 h
      have s6 : s < 6 := by omega
      rw [lp_275_12, if_neg (by rw [zIl_le (c := 6) (by decide) (by omega)]; show ¬ 6 ≤ s; omega), zI_vp (by omega), zI_cn (by omega), f.2 10 (by decide) (by decide), hm]
      refine ⟨s6, ?_⟩
      by_cases g : m ≤ s
      · rw [if_pos (by rw [zI_le (by omega) (by omega)]; exact g), show zI s + 1 = zI (s + 1) from zIr_add 1 s]
        refine ih (s + 1) (by omega) _ ⟨fun c a b => ?_, fun j a b => ?_⟩ ?_ ?_ (fun t ht => ?_)
        · rw [up2_rn _ _ _ _ _ (by omega), up2_rn _ _ _ _ _ (by omega)]; exact f.1 c a b
        · rw [up2_rn _ _ _ _ _ (by decide), up2_rn _ _ _ _ _ (by decide)]; exact f.2 j a b
        · rw [up2_rn _ _ _ _ _ (by decide), up2_rn _ _ _ _ _ (by decide)]; exact k65
        · rw [up2_rn _ _ _ _ _ (by decide), up2_rn _ _ _ _ _ (by decide)]; exact k69
        · simp (decide := true) only [up2_ra, up2_rn, va_ap, ne_eq, if_false, if_true, not_false_eq_true]
          by_cases e : t = s
          · subst e
            rw [if_pos rfl, if_pos rfl, nowN_0 h12 h6m hV g s6]
            exact ⟨rfl, rfl⟩
          · rw [if_neg e, if_neg e]; exact h t (by omega)
      · rw [if_neg (by rw [zI_le (by omega) (by omega)]; exact g)]
        have l81 : up2 K 126 s 0 81 3 = zI n := by rw [up2_rn _ _ _ _ _ (by decide), f.2 3 (by decide) (by decide)]; exact hn
        have l85 : up2 K 126 s 0 85 = I 85 := by rw [up2_rn _ _ _ _ _ (by decide)]; exact f.1 85 (by decide) (by decide)
        have l91 : up2 K 126 s 0 91 = I 91 := by rw [up2_rn _ _ _ _ _ (by decide)]; exact f.1 91 (by decide) (by decide)
        rw [ct_Mholdings _ _ _ _ _ _ l81 h12, l85]
        simp only [tl_some]
        rw [lp_275_45, ct_MworthOf _ _ _ _ _ _ l81 h12 s6, l91, wsum_w hW s6 h12]
        simp only [tl_some]
        rw [lp_275_48, zI_vp (by omega), zI_cn (by omega), show zI s + 1 = zI (s + 1) from zIr_add 1 s]
        refine ⟨s6, ih (s + 1) (by omega) _ ⟨fun c a b => ?_, fun j a b => ?_⟩ ?_ ?_ (fun t ht => ?_)⟩
        · rw [up2_rn _ _ _ _ _ (by omega), up2_rn _ _ _ _ _ (by omega)]; exact f.1 c a b
        · rw [up2_rn _ _ _ _ _ (by decide), up2_rn _ _ _ _ _ (by decide)]; exact f.2 j a b
        · rw [up2_rn _ _ _ _ _ (by decide), up2_rn _ _ _ _ _ (by decide)]; exact k65
        · rw [up2_rn _ _ _ _ _ (by decide), up2_rn _ _ _ _ _ (by decide)]; exact k69
        · simp (decide := true) only [up2_ra, up2_rn, va_ap, ne_eq, if_false, if_true, not_false_eq_true]
          by_cases e : t = s
          · subst e
            rw [if_pos rfl, if_pos rfl]
            exact ⟨rfl, rfl⟩
          · rw [if_neg e, if_neg e]; exact h t (by omega)
  rw [lp_275_0]
  refine key 6 0 (by omega) _ ⟨fun c a b => ?_, fun j a b => ?_⟩ ?_ ?_ (fun t ht => absurd ht (Nat.not_lt_zero _))
  · rw [up2_rn _ _ _ _ _ a, up2_rn _ _ _ _ _ a]
  · rw [up2_ra, va_ap, if_neg b, up2_ra, va_ap, if_neg a]
  · simp (decide := true) only [up2_ra, up2_rn, va_ap, ne_eq, if_false, if_true, not_false_eq_true]
  · simp (decide := true) only [up2_ra, up2_rn, va_ap, ne_eq, if_false, if_true, not_false_eq_true]
end U1
end
section
/-! The reference: a row by its number, fair, stable. -/
theorem zI_div {a b : Nat} (ha : a < 2147483648) (hb : b < 2147483648) : zI a / zI b = zI (a / b) := by
  have h1 : a / b ≤ a := Nat.div_le_self a b
  apply Int32.toInt_inj.mp
  rw [Int32.toInt_div, zI_ti ha, zI_ti hb, zI_ti (by omega)]
  rw [show (a : Int).tdiv (b : Int) = ((a / b : Nat) : Int) from rfl]
  generalize a / b = c at *
  exact Int.bmod_eq_of_le (by omega) (by omega)
theorem zI_rem {a b : Nat} (ha : a < 2147483648) (hb : b < 2147483648) : zI a - zI a / zI b * zI b = zI (a % b) := by
  have h : a / b * b ≤ a := Nat.div_mul_le_self a b
  rw [zI_div ha hb, zI_mul, zI_sub h]
  congr 1
  have := Nat.div_add_mod a b
  rw [Nat.mul_comm] at this
  omega
def FrR (I K : Nat → Nat → Int32) : Prop := ∀ c, c ≠ 128 → c ≠ 129 → K c = I c
section U2
variable {X : (Nat → Int32) × Nat} {mo : Bool} {G : Nat × Nat} {I : Nat → Nat → Int32} {J : Nat → Nat → Int64} {Q : Option Value → sm_M → Prop}
theorem mr_c {n : Nat} {pr : Int32} {ch : Nat → Int32} {r4 r5 : Nat → Int32} (h12 : n ≤ 12) (hW : okW (I 91)) (h8 : dK n r5 pr ≤ 8) (hI : MI n r4 r5 (I 91) pr (I 81) (I 123) (I 124) (I 125) (I 126) (I 127)) (hch : ∀ j, j < dK n r5 pr → ∃ s, s < 6 ∧ ch j = zI s)
    (hQ : ∀ K, FrR I K → (∀ j, j < dK n r5 pr → K 129 j = ch j) → (∀ s, s < 6 → K 128 s = zI (gtC n r4 r5 (I 91) pr ch s)) → Q none (sM mo G K J)) :
    ∀ d k, k + d = dK n r5 pr → ∀ K, FrR I K → (∀ j, j < dK n r5 pr → K 129 j = ch j) → (∀ s, s < 6 → K 128 s = zI (sur n r4 r5 (I 91) pr s + gsm n r5 (I 91) pr ch k s)) → sm_wp X 278 79 [some (.ref 81), none, none, some (.int (zI k))] [] (sM mo G K J) Q := by
  intro d
  induction d with
  | zero =>
    intro k hk K f a b
    have : k = dK n r5 pr := by omega
    subst this
    rw [lp_278_79, f 81 (by decide) (by decide), hI.1, if_pos (by rw [zI_le (by omega) (by omega)]; exact Nat.le_refl _)]
    refine hQ K f a (fun s hs => ?_)
    rw [b s hs]
    unfold gtC
    rw [Nat.min_eq_right h8]
  | succ d ih =>
    intro k hk K f a b
    have kD : k < dK n r5 pr := by omega
    obtain ⟨t, ht, et⟩ := hch k kD
    have dl12 : dl n r5 pr k < 12 := by
      have := (nt_p (P := stD r5 pr) (n := n) kD).2.1
      show nt _ _ _ < 12
      omega
    have wz : I 91 (12 * t + dl n r5 pr k) = zI (ww (I 91) t (dl n r5 pr k)) := by
      obtain ⟨w, hw, e⟩ := hW (12 * t + dl n r5 pr k)
      unfold ww
      rw [e, zI_cn (by omega)]
    rw [lp_278_79, f 81 (by decide) (by decide), hI.1, if_neg (by rw [zI_le (by omega) (by omega)]; omega), zI_vp (by omega), zI_vp (by omega), zI_cn (by omega), a k kD, et, f 123 (by decide) (by decide), hI.2.1 k kD, zI_vp (by omega), zI_cn (by omega), show (12 : Int32) * zI t = zI (12 * t) from zIl_mul 12 t, zI_add, zI_vp (by omega), zI_cn (by omega), f 91 (by decide) (by decide), wz, b t ht, zI_add, show zI k + 1 = zI (k + 1) from zIr_add 1 k]
    refine ⟨by omega, ht, by omega, by omega, ih (k + 1) (by omega) _ (fun c p q => ?_) (fun j hj => ?_) (fun s hs => ?_)⟩
    · rw [up2_rn _ _ _ _ _ p]; exact f c p q
    · rw [up2_rn _ _ _ _ _ (by decide)]; exact a j hj
    · rw [up2_ra, va_ap, gsm_s]
      by_cases e : s = t
      · subst e
        rw [if_pos rfl, if_pos et, Nat.add_assoc]
      · rw [if_neg e, if_neg (by rw [et, zI_eq (by omega) (by omega)]; omega)]
        exact b s hs
theorem mr_b {n : Nat} {pr : Int32} {ch : Nat → Int32} {r4 r5 : Nat → Int32} (hI : MI n r4 r5 (I 91) pr (I 81) (I 123) (I 124) (I 125) (I 126) (I 127)) {K0 : Nat → Nat → Int32} (fK : FrR I K0) (hg : ∀ j, j < dK n r5 pr → K0 129 j = ch j) {x : Nat} (lpx : ∀ K, (∀ c, c ≠ 128 → K c = K0 c) → (∀ s, s < 6 → K 128 s = zI (sur n r4 r5 (I 91) pr s)) → sm_wp X 278 79 [some (.ref 81), none, none, some (.int (zI 0))] [] (sM mo G K J) Q) :
    ∀ d s, s + d = 6 → ∀ K, (∀ c, c ≠ 128 → K c = K0 c) → (∀ t, t < s → K 128 t = zI (sur n r4 r5 (I 91) pr t)) → sm_wp X 278 53 [some (.ref 81), none, none, some (.int (zI s))] [] (sM mo G K J) Q := by
  intro d
  induction d with
  | zero =>
    intro s hs K f a
    have : s = 6 := by omega
    subst this
    rw [lp_278_53, if_pos (by decide)]
    exact lpx K f a
  | succ d ih =>
    intro s hs K f a
    rw [lp_278_53, if_neg (by rw [zIl_le (c := 6) (by decide) (by omega)]; show ¬ 6 ≤ s; omega), zI_vp (by omega), zI_cn (by omega), show zI s + 1 = zI (s + 1) from zIr_add 1 s]
    refine ⟨by omega, ih (s + 1) (by omega) _ (fun c p => by rw [up2_rn _ _ _ _ _ p]; exact f c p) (fun t ht => ?_)⟩
    rw [up2_ra, va_ap]
    by_cases e : t = s
    · subst e
      rw [if_pos rfl, f 126 (by decide), fK 126 (by decide) (by decide), (hI.2.2.2.2 t (by omega)).1]
    · rw [if_neg e]; exact a t (by omega)
theorem ct_278 {n v : Nat} {pr : Int32} {r4 r5 : Nat → Int32} (h12 : n ≤ 12) (hW : okW (I 91)) (h3 : ∀ l, pc6 (r5 l) ≤ 3) (h8 : dK n r5 pr ≤ 8) (hv : v < 1000000) (hI : MI n r4 r5 (I 91) pr (I 81) (I 123) (I 124) (I 125) (I 126) (I 127))
    (hQ : ∀ K, FrR I K → (∀ j, j < dK n r5 pr → K 129 j = svC n r5 pr v j) → (∀ s, s < 6 → K 128 s = zI (gv n r4 r5 (I 91) pr v s)) → Q none (sM mo G K J)) :
    sm_wp X 278 0 [some (.ref 81), some (.int (zI v)), none, none] [] (sM mo G I J) Q := by
  have key : ∀ k, k ≤ dK n r5 pr → ∀ K, FrR I K → (∀ j, k ≤ j → j < dK n r5 pr → K 129 j = svC n r5 pr v j) → sm_wp X 278 9 [some (.ref 81), none, some (.int (zI (v / rp (rd n r5 pr) (dK n r5 pr) k))), some (.int (zI k + (-1)))] [] (sM mo G K J) Q := by
    intro k
    induction k with
    | zero =>
      intro _ K f a
      rw [lp_278_9, if_pos (by decide)]
      have a' : ∀ j, j < dK n r5 pr → K 129 j = svC n r5 pr v j := fun j hj => a j (Nat.zero_le _) hj
      refine mr_b (ch := svC n r5 pr v) hI f a' (x := 0) ?_ 6 0 (by omega) K (fun _ _ => rfl) (fun t ht => absurd ht (Nat.not_lt_zero _))
      intro L fL l128
      refine mr_c (ch := svC n r5 pr v) h12 hW h8 hI (fun j hj => ⟨_, (sv_p v hj).2.1, rfl⟩) hQ (dK n r5 pr) 0 (by omega) L (fun c p q => (fL c p).trans (f c p q)) (fun j hj => by rw [fL 129 (by decide)]; exact a' j hj) (fun s hs => l128 s hs)
    | succ k ih =>
      intro hk K f a
      have kD : k < dK n r5 pr := by omega
      have r2 := rd_2 kD
      have r3 := rd_3 (n := n) (pr := pr) h3 k
      have q1 := hI.2.2.1 k (by omega) kD
      have vb : v / rp (rd n r5 pr) (dK n r5 pr) (k + 1) ≤ v := Nat.div_le_self _ _
      have dgl := dg_lt (c := rd n r5 pr) (K := dK n r5 pr) v (show 0 < rd n r5 pr k by omega)
      rw [zI_p1, lp_278_9, if_neg (by rw [zIr_lt (c := 0) (by decide) (by omega)]; exact Nat.not_lt_zero _), zI_vp (by omega), zI_cn (by omega), f 125 (by decide) (by decide), q1.1, zI_rem (by omega) (by omega), zI_div (by omega) (by omega), Nat.div_div_eq_div_mul, ← rp_s _ kD, show (3 : Int32) * zI k = zI (3 * k) from zIl_mul 3 k, zI_add, show v / rp (rd n r5 pr) (dK n r5 pr) (k + 1) % rd n r5 pr k = dg (rd n r5 pr) (dK n r5 pr) v k from rfl, zI_vp (by omega), zI_cn (by omega), f 124 (by decide) (by decide), q1.2 _ dgl]
      refine ⟨by omega, by rw [zIr_eq (c := 0) (by decide) (by omega)]; show ¬ rd n r5 pr k = 0; omega, by omega, ih (by omega) _ (fun c p q => by rw [up2_rn _ _ _ _ _ q]; exact f c p q) (fun j h1 h2 => ?_)⟩
      rw [up2_ra, va_ap]
      by_cases e : j = k
      · subst e; rw [if_pos rfl]; rfl
      · rw [if_neg e]; exact a j (by omega) h2
  rw [lp_278_0, hI.1, show zI (dK n r5 pr) - 1 = zI (dK n r5 pr) + (-1) from Int32.sub_eq_add_neg _ _]
  have := key (dK n r5 pr) (Nat.le_refl _) I (fun _ _ _ => rfl) (fun j h1 h2 => absurd h2 (by omega))
  rw [rp_K, Nat.div_one] at this
  exact this
theorem ct_279 {m : Nat} {pr : Int32} {g : Nat → Nat} (hm : I 81 10 = zI m) (h6m : m ≤ 6) (hpr : I 81 15 = pr) (hp : ∀ k, m ≤ k → bt pr k = false) (hB : ∀ j, ∃ w, w ≤ 999 ∧ I 92 j = zI w) (hg : ∀ s, s < 6 → I 128 s = zI (g s)) (gb : ∀ s, g s ≤ 1188)
    (hQ : ∀ z : Int32, (z = 1 ∧ frC m (I 92) pr g ∨ z = 0 ∧ ¬ frC m (I 92) pr g) → Q (some (.int z)) (sM mo G I J)) : sm_wp X 279 0 [some (.ref 81), none] [] (sM mo G I J) Q := by
  have key : ∀ d s, s + d = m → (∀ t, t < s → bt pr t = true → bdN m (I 92) t ≤ g t) → sm_wp X 279 2 [some (.ref 81), some (.int (zI s))] [] (sM mo G I J) Q := by
    intro d
    induction d with
    | zero =>
      intro s hs h
      rw [lp_279_2, if_pos (by rw [hm, zI_le (by omega) (by omega)]; omega)]
      refine hQ 1 (Or.inl ⟨rfl, fun t _ ht2 => h t ?_ ht2⟩)
      rcases Nat.lt_or_ge t m with k | k
      · omega
      · rw [hp t k] at ht2; cases ht2
    | succ d ih =>
      intro s hs h
      have sm' : s < m := by omega
      have ps : vf_Model_isPresent I (zI s) ↔ bt pr s = true := by
        rw [mPres_vp hm h6m, zI_sIn (by omega) (by omega), zI_cn (by omega), hpr]
        exact ⟨fun e => e.2, fun e => ⟨sm', e⟩⟩
      rw [lp_279_2, if_neg (by rw [hm, zI_le (by omega) (by omega)]; omega), show zI s + 1 = zI (s + 1) from zIr_add 1 s]
      by_cases c1 : bt pr s = true
      · obtain ⟨w, hw, ew⟩ := hB s
        have eb : bdN m (I 92) s = w := by unfold bdN; rw [if_pos sm', ew, zI_cn (by omega)]
        have := gb s
        rw [if_neg (fun e => e (ps.mpr c1)), zI_vp (by omega), zI_cn (by omega), hg s (by omega), ew]
        refine ⟨by omega, ?_⟩
        by_cases c2 : w ≤ g s
        · rw [if_pos (by rw [zI_le (by omega) (by omega)]; exact c2)]
          refine ih (s + 1) (by omega) (fun t ht h1 => ?_)
          by_cases e : t = s
          · subst e; rw [eb]; exact c2
          · exact h t (by omega) h1
        · rw [if_neg (by rw [zI_le (by omega) (by omega)]; exact c2)]
          refine hQ 0 (Or.inr ⟨rfl, fun e => c2 ?_⟩)
          have := e s (by omega) c1
          rw [eb] at this
          exact this
      · rw [if_pos (fun e => c1 (ps.mp e))]
        refine ih (s + 1) (by omega) (fun t ht h1 => ?_)
        by_cases e : t = s
        · subst e; exact absurd h1 c1
        · exact h t (by omega) h1
  rw [lp_279_0]
  exact key m 0 (by omega) (fun t ht => absurd ht (Nat.not_lt_zero _))
theorem ct_280 {n m : Nat} {pr : Int32} {g : Nat → Nat} {r4 : Nat → Int32} (h12 : n ≤ 12) (hm : I 81 10 = zI m) (h6m : m ≤ 6) (hpr : I 81 15 = pr) (hp : ∀ k, m ≤ k → bt pr k = false) (hW : okW (I 91)) (hg : ∀ s, s < 6 → I 128 s = zI (g s)) (gb : ∀ s, g s ≤ 1188) (hnow : ∀ s, s < 6 → I 127 s = zI (nowN r4 (I 91) n s)) (hlv : ∀ c d, c < m → d < m → lvP r4 (I 91) pr (I 130) n c d)
    (hQ : ∀ z : Int32, (z = 1 ∧ stbC n r4 (I 91) pr g ∨ z = 0 ∧ ¬ stbC n r4 (I 91) pr g) → Q (some (.int z)) (sM mo G I J)) : sm_wp X 280 0 [some (.ref 81), none, none] [] (sM mo G I J) Q := by
  have pm : ∀ t, bt pr t = true → t < m := fun t ht => by
    rcases Nat.lt_or_ge t m with k | k
    · exact k
    · rw [hp t k] at ht; cases ht
  have key : ∀ d a, a + d = m → (∀ t, t < a → bt pr t = true → nowN r4 (I 91) n t ≤ g t ∧ ∀ b, b < m → t ≠ b → bt pr b = true → ¬ cB r4 (I 91) n t b (g t) (g b)) → sm_wp X 280 2 [some (.ref 81), some (.int (zI a)), none] [] (sM mo G I J) Q := by
    intro d
    induction d with
    | zero =>
      intro a ha h
      rw [lp_280_2, if_pos (by rw [hm, zI_le (by omega) (by omega)]; omega)]
      exact hQ 1 (Or.inl ⟨rfl, fun t _ ht => (h t (by have := pm t ht; omega) ht).1, fun c e hce he hc1 he1 => (h c (by have := pm c hc1; omega) hc1).2 e (pm e he1) (by omega) he1⟩)
    | succ d ih =>
      intro a ha h
      have am : a < m := by omega
      have ps : vf_Model_isPresent I (zI a) ↔ bt pr a = true := by
        rw [mPres_vp hm h6m, zI_sIn (by omega) (by omega), zI_cn (by omega), hpr]
        exact ⟨fun e => e.2, fun e => ⟨am, e⟩⟩
      rw [lp_280_2, if_neg (by rw [hm, zI_le (by omega) (by omega)]; omega)]
      by_cases c1 : bt pr a = true
      · have ga := gb a
        have nb := nowN_b (r4 := r4) hW h12 a
        rw [if_pos (ps.mpr c1), zI_vp (by omega), zI_cn (by omega), hg a (by omega), hnow a (by omega)]
        refine ⟨by omega, ?_⟩
        by_cases c2 : nowN r4 (I 91) n a ≤ g a
        · rw [if_pos (by rw [zI_le (by omega) (by omega)]; exact c2)]
          have inner : ∀ d b, b + d = m → (∀ e, e < b → a ≠ e → bt pr e = true → ¬ cB r4 (I 91) n a e (g a) (g e)) → sm_wp X 280 40 [some (.ref 81), some (.int (zI a)), some (.int (zI b))] [] (sM mo G I J) Q := by
            intro d
            induction d with
            | zero =>
              intro b hb hh
              rw [lp_280_40, hm, if_pos (by rw [zI_le (by omega) (by omega)]; omega), show zI a + 1 = zI (a + 1) from zIr_add 1 a]
              refine ih (a + 1) (by omega) (fun t ht h1 => ?_)
              by_cases e : t = a
              · subst e; exact ⟨c2, fun b' hb' => hh b' (by omega)⟩
              · exact h t (by omega) h1
            | succ d ih2 =>
              intro b hb hh
              have bm : b < m := by omega
              have gbb := gb b
              have lv := rv_lt (by decide) (hlv a b am bm (g a) (by omega)) (show g b < 1000000 by omega)
              rw [lp_280_40, hm, if_neg (by rw [zI_le (by omega) (by omega)]; omega), zI_vp (by omega), zI_cn (by omega), hg a (by omega), if_neg (by rw [zIl_le (c := 1200) (by decide) (by omega)]; show ¬ 1200 ≤ g a; omega), show (6 : Int32) * zI a = zI (6 * a) from zIl_mul 6 a, zI_add, show (1200 : Int32) * zI (6 * a + b) = zI (1200 * (6 * a + b)) from zIl_mul 1200 _, zI_add, zI_vp (by omega), zI_cn (by omega), zI_vp (by omega), zI_cn (by omega), hg b (by omega), show zI b + 1 = zI (b + 1) from zIr_add 1 b]
              refine ⟨by omega, by omega, by omega, ?_⟩
              by_cases c3 : I 130 (1200 * (6 * a + b) + g a) ≤ zI (g b)
              · rw [if_pos c3]
                refine ih2 (b + 1) (by omega) (fun e he h1 h2 h3 => ?_)
                by_cases ee : e = b
                · subst ee
                  exact lv.mpr ⟨h1, c1, h2, cB_sfp.mp h3⟩ c3
                · exact hh e (by omega) h1 h2 h3
              · rw [if_neg c3]
                obtain ⟨q1, q2, q3, q4⟩ := lv.mp c3
                have cb := cB_sfp.mpr q4
                refine hQ 0 (Or.inr ⟨rfl, fun e => ?_⟩)
                rcases Nat.lt_or_ge a b with k | k
                · exact e.2 a b k (by omega) q2 q3 cb
                · exact e.2 b a (by omega) (by omega) q3 q2 (cB_sym cb)
          exact inner m 0 (by omega) (fun e he => absurd he (Nat.not_lt_zero _))
        · rw [if_neg (by rw [zI_le (by omega) (by omega)]; exact c2)]
          exact hQ 0 (Or.inr ⟨rfl, fun e => c2 (e.1 a (by omega) c1)⟩)
      · rw [if_neg (fun e => c1 (ps.mp e)), show zI a + 1 = zI (a + 1) from zIr_add 1 a]
        refine ih (a + 1) (by omega) (fun t ht h1 => ?_)
        by_cases e : t = a
        · subst e; exact absurd h1 c1
        · exact h t (by omega) h1
  rw [lp_280_0]
  exact key m 0 (by omega) (fun t ht => absurd ht (Nat.not_lt_zero _))
end U2
end
section
/-! Calls on settlements: what they rest on; settle. -/
def bas (n m : Nat) (I : Nat → Nat → Int32) : Prop := I 1 0 = zI n ∧ n ≤ 12 ∧ I 1 1 = zI m ∧ m ≤ 6 ∧ (∀ k, m ≤ k → bt (I 1 2) k = false) ∧ (I 81 3 = zI n ∧ I 81 10 = zI m ∧ I 81 15 = I 1 2 ∧ I 85 = I 4 ∧ I 86 = I 5 ∧ I 92 = I 12 ∧ I 91 = I 13) ∧
  (∀ l, l < n → I 4 l = -1 ∨ ∃ s, s < m ∧ I 4 l = zI s) ∧ (∀ l k, 6 ≤ k → bt (I 5 l) k = false) ∧ (∀ l, pc6 (I 5 l) ≤ 3) ∧ okW (I 13) ∧ ∀ j, ∃ w, w ≤ 999 ∧ I 12 j = zI w
theorem inv_bas {c : Nat} {mo : Bool} {G : Nat × Nat} {I : Nat → Nat → Int32} {J : Nat → Nat → Int64} (h : inv c mo G I J) : ∃ n m, bas n m I := by
  obtain ⟨n, m, t, p, q, r, ch, ln, hN, hE, hV, -⟩ := h
  obtain ⟨a1, a2, a3, a4, a5, a6, a7, a8, -⟩ := hN
  obtain ⟨b1, b2, b3, b4, b5, b6, b7, b8⟩ := hE
  obtain ⟨v1, v2, v3, v4, v5, v6, v7, v8, v9⟩ := hV
  exact ⟨n, m, a1, a3, a4, a6, a8, ⟨a2, a5, a7, b2, b3, b7, b8⟩, v1, fun l k hk => v2 l k (by omega), v3, v9, v8⟩
theorem bas_fr {n m : Nat} {I K : Nat → Nat → Int32} (h : bas n m I) (f : Fr I K) : bas n m K := by
  obtain ⟨f1, f2, f3, f4, f5⟩ := f
  unfold bas
  simp (decide := true) only [f1, f5]
  exact h
theorem bas_x {n m lo hi : Nat} {I K : Nat → Nat → Int32} (h : bas n m I) (f : FrX I K lo hi) (hl : 48 ≤ lo) (hh : hi ≤ 67) : bas n m K := by
  have e : ∀ c, c < 48 ∨ (67 < c ∧ c < 143) → K c = I c := fun c hc => f.1 c (by omega) (by omega) (by omega) (by omega) (by omega)
  unfold bas
  rw [e 1 (by decide), e 81 (by decide), e 85 (by decide), e 86 (by decide), e 91 (by decide), e 92 (by decide), e 4 (by decide), e 5 (by decide), e 12 (by decide), e 13 (by decide)]
  exact h
theorem Fr_M {I K : Nat → Nat → Int32} (f : FrM I K) : Fr I K := by
  refine ⟨fun c hc => f.1 c (fun e => by rw [e] at hc; cases hc) ?_, by rw [f.1 14 (by decide) (by decide)], by rw [f.1 16 (by decide) (by decide)], by rw [f.1 16 (by decide) (by decide)], fun j hj => f.2 j (fun e => by rw [e] at hj; cases hj) (fun e => by rw [e] at hj; cases hj)⟩
  rcases Nat.lt_or_ge c 123 with g | g
  · exact Or.inl g
  · rcases Nat.lt_or_ge 127 c with g2 | g2
    · exact Or.inr g2
    · exfalso
      rcases (by omega : c = 123 ∨ c = 124 ∨ c = 125 ∨ c = 126 ∨ c = 127) with rfl | rfl | rfl | rfl | rfl <;> cases hc
theorem Fr_R {I K : Nat → Nat → Int32} (f : FrR I K) : Fr I K := ⟨fun c hc => f c (fun e => by rw [e] at hc; cases hc) (fun e => by rw [e] at hc; cases hc), by rw [f 14 (by decide) (by decide)], by rw [f 16 (by decide) (by decide)], by rw [f 16 (by decide) (by decide)], fun j _ => by rw [f 81 (by decide) (by decide)]⟩
def sx52 (c : Nat) : Bool := (decide (48 ≤ c) && decide (c ≤ 59)) || decide (143 ≤ c)
def sx60 (c : Nat) : Bool := (decide (48 ≤ c) && decide (c ≤ 50)) || (decide (60 ≤ c) && decide (c ≤ 67)) || decide (143 ≤ c)
theorem inv_x52 {c : Nat} {mo mo' : Bool} {G : Nat × Nat} {I K : Nat → Nat → Int32} {J J' : Nat → Nat → Int64} {n m : Nat} (e : ∀ c, sx52 c = false → K c = I c) (eJ : J' 60 = J 60) (h : inv c mo G I J) (hc : c ≤ 1000) (hb : bas n m I)
    (hC0 : ∀ ch, ch < 100000000 → I 1 4 = zI ch → ivC ch n m (I 1 2) (I 4) (I 5) (I 12) (I 13) mo (I 48) (I 49) (I 50) (I 143) (I 68) (I 69) (I 70) → ivC ch n m (I 1 2) (I 4) (I 5) (I 12) (I 13) mo' (K 48) (K 49) (K 50) (K 143) (I 68) (I 69) (I 70))
    (hD0 : ∀ ch, ch < 100000000 → I 1 4 = zI ch → ivD true ch n m (I 1 2) (I 4) (I 5) (I 12) (I 13) (K 52) (K 53) (K 54) (K 55) (K 56) (K 57) (K 58) (K 59) (J' 52)) : inv c mo' G K J' := by
  obtain ⟨n', m', t', p', q', r', ch', ln', hN', hE, hV, hY, hG, hK, hP, hS, hA, hT, hF, hB, hC', hD', hD2, hX, hZ⟩ := h
  have en : n = n' := by
    have := hb.1.symm.trans hN'.1
    rw [zI_eq (by have := hb.2.1; omega) (by have := hN'.2.2.1; omega)] at this
    exact this
  have em : m = m' := by
    have := hb.2.2.1.symm.trans hN'.2.2.2.1
    rw [zI_eq (by have := hb.2.2.2.1; omega) (by have := hN'.2.2.2.2.2.1; omega)] at this
    exact this
  subst en; subst em
  have t3 := hN'.2.2.2.2.2.2.2.2.2.2
  have cb : ch' < 100000000 := by have := hK.2; omega
  refine ⟨n, m, t', p', q', r', ch', ln', ?_⟩
  simp (decide := true) only [e, eJ]
  exact ⟨hN', hE, hV, hY, hG, hK, hP, hS, hA, hT, hF, hB, hC0 ch' cb hK.1 hC', hD0 ch' cb hK.1, hD2, hX, hZ⟩
theorem inv_x60 {c : Nat} {mo mo' : Bool} {G : Nat × Nat} {I K : Nat → Nat → Int32} {J J' : Nat → Nat → Int64} {n m : Nat} (e : ∀ c, sx60 c = false → K c = I c) (eJ : J' 52 = J 52) (h : inv c mo G I J) (hc : c ≤ 1000) (hb : bas n m I)
    (hC0 : ∀ ch, ch < 100000000 → I 1 4 = zI ch → ivC ch n m (I 1 2) (I 4) (I 5) (I 12) (I 13) mo (I 48) (I 49) (I 50) (I 143) (I 68) (I 69) (I 70) → ivC ch n m (I 1 2) (I 4) (I 5) (I 12) (I 13) mo' (K 48) (K 49) (K 50) (K 143) (I 68) (I 69) (I 70))
    (hD0 : ∀ ch, ch < 100000000 → I 1 4 = zI ch → ivD false ch n m (I 1 2) (I 4) (I 5) (I 12) (I 13) (K 60) (K 61) (K 62) (K 63) (K 64) (K 65) (K 66) (K 67) (J' 60)) : inv c mo' G K J' := by
  obtain ⟨n', m', t', p', q', r', ch', ln', hN', hE, hV, hY, hG, hK, hP, hS, hA, hT, hF, hB, hC', hD', hD2, hX, hZ⟩ := h
  have en : n = n' := by
    have := hb.1.symm.trans hN'.1
    rw [zI_eq (by have := hb.2.1; omega) (by have := hN'.2.2.1; omega)] at this
    exact this
  have em : m = m' := by
    have := hb.2.2.1.symm.trans hN'.2.2.2.1
    rw [zI_eq (by have := hb.2.2.2.1; omega) (by have := hN'.2.2.2.2.2.1; omega)] at this
    exact this
  subst en; subst em
  have t3 := hN'.2.2.2.2.2.2.2.2.2.2
  have cb : ch' < 100000000 := by have := hK.2; omega
  refine ⟨n, m, t', p', q', r', ch', ln', ?_⟩
  simp (decide := true) only [e, eJ]
  exact ⟨hN', hE, hV, hY, hG, hK, hP, hS, hA, hT, hF, hB, hC0 ch' cb hK.1 hC', hD', hD0 ch' cb hK.1, hX, hZ⟩
section V1
variable {X : (Nat → Int32) × Nat} {mo : Bool} {G : Nat × Nat} {I : Nat → Nat → Int32} {J : Nat → Nat → Int64} {Q : Option Value → sm_M → Prop} {c : Nat}
theorem inv_sh {n m : Nat} (h : inv c mo G I J) (hc : c ≤ 1000) (hb : bas n m I) : shOK mo I n m := by
  obtain ⟨n', m', t, p, q, r, ch, ln, hN, hE, hV, hY, hG, hK, hP, hS, hA, hT, hF, hB, hC, hD, hD2, hX, hZ⟩ := h
  have en : n = n' := by
    have := hb.1.symm.trans hN.1
    rw [zI_eq (by have := hb.2.1; omega) (by have := hN.2.2.1; omega)] at this
    exact this
  have em : m = m' := by
    have := hb.2.2.1.symm.trans hN.2.2.2.1
    rw [zI_eq (by have := hb.2.2.2.1; omega) (by have := hN.2.2.2.2.2.1; omega)] at this
    exact this
  subst en; subst em
  intro e
  have t3 := hN.2.2.2.2.2.2.2.2.2.2
  exact hC.2.2.1 (by have := hK.2; omega) (by rw [e, hK.1])
theorem c_52 {n m : Nat} (h : inv c mo G I J) (hc : c ≤ 1000) (hb : bas n m I) 
    (hQ : ∀ mo' K J', inv c mo' G K J' → bas n m K → K 4 = I 4 → K 5 = I 5 → K 12 = I 12 → K 13 = I 13 → K 1 = I 1 → srD n m (I 4) (I 5) (I 12) (I 13) (I 1 2) (K 52) (K 53) (K 59) (J' 52 16) → Q none (sM mo' G K J')) :
    sm_wp X 128 0 [some (.ref 52), some (.int (I 1 2)), none, none] [] (sM mo G I J) Q := by
  have hsh := inv_sh h hc hb
  have h0 := h
  obtain ⟨n', m', t, p, q, r, ch, ln, hN, hE, hV, hY, hG, hK, hP, hS, hA, hT, hF, hB, hC, hD, hD2, hX, hZ⟩ := h
  have en : n = n' := by
    have := hb.1.symm.trans hN.1
    rw [zI_eq (by have := hb.2.1; omega) (by have := hN.2.2.1; omega)] at this
    exact this
  have em : m = m' := by
    have := hb.2.2.1.symm.trans hN.2.2.2.1
    rw [zI_eq (by have := hb.2.2.2.1; omega) (by have := hN.2.2.2.2.2.1; omega)] at this
    exact this
  subst en; subst em
  have t3 := hN.2.2.2.2.2.2.2.2.2.2
  have cb : ch < 100000000 := by have := hK.2; omega
  have hb0 := hb
  obtain ⟨b1, b2, b3, b4, b5, -, b7, b8, b9, b10, b11⟩ := hb
  refine cs_128 (n := n) (m := m) b1 b2 b3 b4 b5 b8 b9 b10 b11 hsh (fun e1 e2 => ?_) ?_
  · have q := hD.2.1 cb (by rw [e2, hK.1])
    rw [e1] at q
    exact q
  · intro mo' K J' f fJ hs k3 k4 hr
    have e : ∀ c, sx52 c = false → K c = I c := fun c hc => by
      unfold sx52 at hc
      simp only [Bool.or_eq_false_iff, Bool.and_eq_false_iff, decide_eq_false_iff_not] at hc
      exact f.1 c (by omega) (by omega) (by omega) (by omega) (by omega)
    unfold shOK at hs
    rw [e 1 rfl, e 4 rfl, e 13 rfl] at hs
    refine hQ mo' K J' ?_ (bas_x hb0 f (by decide) (by decide)) (e 4 rfl) (e 5 rfl) (e 12 rfl) (e 13 rfl) (e 1 rfl) hr
    refine inv_x52 e (fJ 60 (by decide)) h0 hc hb0 (fun ch' cb' hk hC' => ⟨?_, hC'.2.1, fun _ e1 => hs (by rw [hk]; exact e1), hC'.2.2.2⟩) (fun ch' cb' hk => ⟨Or.inr ⟨ch', Nat.le_refl _, k4.trans hk⟩, fun _ _ => by rw [k3]; exact hr, fun _ _ _ => k3⟩)
    rcases f.2 with e1 | e1
    · rw [e1]; exact hC'.1
    · rw [e1]; exact Or.inr ⟨ch', Nat.le_refl _, hk⟩
theorem c_60 {n m : Nat} {pr : Int32} (h : inv c mo G I J) (hc : c ≤ 1000) (hb : bas n m I) (hpr : ∀ k, m ≤ k → bt pr k = false)
    (hQ : ∀ mo' K J', inv c mo' G K J' → bas n m K → K 4 = I 4 → K 5 = I 5 → K 12 = I 12 → K 13 = I 13 → K 1 = I 1 → srD n m (I 4) (I 5) (I 12) (I 13) pr (K 60) (K 61) (K 67) (J' 60 16) → Q none (sM mo' G K J')) :
    sm_wp X 128 0 [some (.ref 60), some (.int pr), none, none] [] (sM mo G I J) Q := by
  have hsh := inv_sh h hc hb
  have h0 := h
  obtain ⟨n', m', t, p, q, r, ch, ln, hN, hE, hV, hY, hG, hK, hP, hS, hA, hT, hF, hB, hC, hD, hD2, hX, hZ⟩ := h
  have en : n = n' := by
    have := hb.1.symm.trans hN.1
    rw [zI_eq (by have := hb.2.1; omega) (by have := hN.2.2.1; omega)] at this
    exact this
  have em : m = m' := by
    have := hb.2.2.1.symm.trans hN.2.2.2.1
    rw [zI_eq (by have := hb.2.2.2.1; omega) (by have := hN.2.2.2.2.2.1; omega)] at this
    exact this
  subst en; subst em
  have t3 := hN.2.2.2.2.2.2.2.2.2.2
  have cb : ch < 100000000 := by have := hK.2; omega
  have hb0 := hb
  obtain ⟨b1, b2, b3, b4, b5, -, b7, b8, b9, b10, b11⟩ := hb
  refine cw_128 (n := n) (m := m) b1 b2 b3 b4 hpr b8 b9 b10 b11 hsh (fun e1 e2 => ?_) ?_
  · have q := hD2.2.1 cb (by rw [e2, hK.1])
    rw [e1] at q
    exact q
  · intro mo' K J' f fJ hs k3 k4 hr
    have e : ∀ c, sx60 c = false → K c = I c := fun c hc => by
      unfold sx60 at hc
      simp only [Bool.or_eq_false_iff, Bool.and_eq_false_iff, decide_eq_false_iff_not] at hc
      exact f.1 c (by omega) (by omega) (by omega) (by omega) (by omega)
    unfold shOK at hs
    rw [e 1 rfl, e 4 rfl, e 13 rfl] at hs
    refine hQ mo' K J' ?_ (bas_x hb0 f (by decide) (by decide)) (e 4 rfl) (e 5 rfl) (e 12 rfl) (e 13 rfl) (e 1 rfl) hr
    refine inv_x60 e (fJ 52 (by decide)) h0 hc hb0 (fun ch' cb' hk hC' => ⟨?_, hC'.2.1, fun _ e1 => hs (by rw [hk]; exact e1), hC'.2.2.2⟩) (fun ch' cb' hk => ⟨Or.inr ⟨ch', Nat.le_refl _, k4.trans hk⟩, fun _ _ => by rw [k3]; exact hr, fun _ w => by cases w⟩)
    rcases f.2 with e1 | e1
    · rw [e1]; exact hC'.1
    · rw [e1]; exact Or.inr ⟨ch', Nat.le_refl _, hk⟩
/-- what settle answers -/
noncomputable def setV (n m : Nat) (r4 r5 r12 W : Nat → Int32) (pr x : Int32) : Int32 := if x = 0 then zI (dK n r5 pr) else if 8 < dK n r5 pr then -1 else if x = 1 then zI (rws n r5 pr) else if x = 2 then zI (nFr n m r4 r5 r12 W pr (rws n r5 pr)) else zI (nSt n m r4 r5 r12 W pr (rws n r5 pr))
theorem ct_112 {n : Nat} {pr : Int32} (hn : I 1 0 = zI n) (h12 : n ≤ 12) (h6 : ∀ l k, 6 ≤ k → bt (I 5 l) k = false) : sm_wp X 112 0 [some (.ref 1), some (.int pr), none, none] [] (sM mo G I J) Q = Q (some (.int (zI (dK n (I 5) pr)))) (sM mo G I J) := by
  have key : ∀ d l, l + d = n → sm_wp X 112 4 [some (.ref 1), some (.int pr), some (.int (zI (cN (stD (I 5) pr) l))), some (.int (zI l))] [] (sM mo G I J) Q = Q (some (.int (zI (dK n (I 5) pr)))) (sM mo G I J) := by
    intro d
    induction d with
    | zero =>
      intro l hl
      have : l = n := by omega
      subst this
      rw [lp_112_4, if_pos (by rw [hn, zI_le (by omega) (by omega)]; exact Nat.le_refl _)]
      rfl
    | succ d ih =>
      intro l hl
      have de := (dsp_e (I := I) (pr := pr) hn h12 (show l < n by omega) h6).1
      rw [lp_112_4, if_neg (by rw [hn, zI_le (by omega) (by omega)]; omega), show zI l + 1 = zI (l + 1) from zIr_add 1 l]
      by_cases g : stD (I 5) pr l = true
      · rw [if_neg (fun e => e (de.mpr g)), show zI (cN (stD (I 5) pr) l) + 1 = zI (cN (stD (I 5) pr) (l + 1)) from by rw [cN_p g]; exact zIr_add 1 _]
        exact ih (l + 1) (by omega)
      · rw [if_pos (fun e => g (de.mp e))]
        have q := ih (l + 1) (by omega)
        rw [cN_q g] at q
        exact q
  rw [lp_112_0]
  exact key n 0 (by omega)
theorem h_settle {n m : Nat} (h : inv c mo G I J) (hc : c ≤ 1000) (hb : bas n m I) {x : Int32} (h0 : ¬ x < 0) (h3 : x ≤ 3)
    (hQ : ∀ mo' K J', inv c mo' G K J' → bas n m K → K 4 = I 4 → K 5 = I 5 → K 12 = I 12 → K 13 = I 13 → K 1 = I 1 → Q (some (.int (setV n m (I 4) (I 5) (I 12) (I 13) (I 1 2) x))) (sM mo' G K J')) :
    sm_wp X 189 0 [some (.ref 0), some (.int x)] [] (sM mo G I J) Q := by
  have d12 : dK n (I 5) (I 1 2) ≤ 12 := Nat.le_trans (cN_le _ _) hb.2.1
  rw [lp_189_0, if_neg h0, if_pos h3]
  by_cases g0 : x = 0
  · rw [if_neg (fun e => e g0), ct_112 hb.1 hb.2.1 hb.2.2.2.2.2.2.2.1]
    simp only [tl_some]
    rw [lp_189_29]
    have q := hQ mo I J h hb rfl rfl rfl rfl rfl
    unfold setV at q
    rw [if_pos g0] at q
    exact q
  · rw [if_pos g0]
    refine c_52 h hc hb (fun mo' K J' hK bK k4 k5 k12 k13 k1 hr => ?_)
    simp only [tl_none]
    have q := hQ mo' K J' hK bK k4 k5 k12 k13 k1
    unfold setV at q
    rw [if_neg g0] at q
    rw [lp_189_44, lp_138_0, lp_131_0, hr.2.1]
    by_cases g8 : dK n (I 5) (I 1 2) ≤ 8
    · have r := hr.2.2.2.2 g8
      rw [if_neg (by omega)] at q
      rw [if_pos (by rw [zIr_le (c := 8) (by decide) (by omega)]; exact g8)]
      simp only [tl_some]
      rw [lp_138_4, if_pos rfl]
      by_cases g1 : x = 1
      · rw [if_pos g1] at q ⊢
        simp only [tl_some]
        rw [lp_189_52, r.1]
        exact q
      · rw [if_neg g1] at q ⊢
        by_cases g2 : x = 2
        · rw [if_pos g2] at q ⊢
          simp only [tl_some]
          rw [lp_189_52, r.2.1]
          exact q
        · rw [if_neg g2] at q ⊢
          have g3 : x = 3 := by
            obtain ⟨k, hk, rfl⟩ := zI_of h0
            rw [zIr_le (c := 3) (by decide) (by omega)] at h3
            rw [zIr_eq (c := 0) (by decide) (by omega)] at g0
            rw [zIr_eq (c := 1) (by decide) (by omega)] at g1
            rw [zIr_eq (c := 2) (by decide) (by omega)] at g2
            have h3' : k ≤ 3 := h3
            have g0' : ¬ k = 0 := g0
            have g1' : ¬ k = 1 := g1
            have g2' : ¬ k = 2 := g2
            have : k = 3 := by omega
            rw [this]; rfl
          rw [if_pos g3]
          simp only [tl_some]
          rw [lp_189_52, r.2.2.1]
          exact q
    · rw [if_pos (by omega)] at q
      rw [if_neg (by rw [zIr_le (c := 8) (by decide) (by omega)]; exact g8)]
      simp only [tl_some]
      rw [lp_138_4, if_neg (by decide)]
      simp only [tl_some]
      rw [lp_189_52]
      exact q
theorem m_settle {n m : Nat} (hb : bas n m I) {x : Int32} (h0 : ¬ x < 0) (h3 : x ≤ 3) (hQ : ∀ K, Fr I K → Q (some (.int (setV n m (I 4) (I 5) (I 12) (I 13) (I 1 2) x))) (sM mo G K J)) :
    sm_wp X 274 0 [some (.ref 81), some (.int x), none, none] [] (sM mo G I J) Q := by
  have fT : Fr I (up2 I 81 2 0) := Fr_m (Fr_r I) rfl 0
  have bT := bas_fr hb fT
  obtain ⟨b1, b2, b3, b4, b5, ⟨c1, c2, c3, c4, c5, c6, c7⟩, b7, b8, b9, b10, b11⟩ := hb
  have d12 : dK n (I 5) (I 1 2) ≤ 12 := Nat.le_trans (cN_le _ _) b2
  have t85 : up2 I 81 2 0 85 = I 4 := by rw [up2_rn _ _ _ _ _ (by decide)]; exact c4
  have t86 : up2 I 81 2 0 86 = I 5 := by rw [up2_rn _ _ _ _ _ (by decide)]; exact c5
  have t91 : up2 I 81 2 0 91 = I 13 := by rw [up2_rn _ _ _ _ _ (by decide)]; exact c7
  have t92 : up2 I 81 2 0 92 = I 12 := by rw [up2_rn _ _ _ _ _ (by decide)]; exact c6
  have t15 : up2 I 81 2 0 81 15 = I 1 2 := by rw [up2_ra, va_ap, if_neg (by decide)]; exact c3
  have t3 : up2 I 81 2 0 81 3 = zI n := by rw [up2_ra, va_ap, if_neg (by decide)]; exact c1
  have t10 : up2 I 81 2 0 81 10 = zI m := by rw [up2_ra, va_ap, if_neg (by decide)]; exact c2
  rw [lp_274_0, if_pos (by
    unfold vf_Model_isIn
    exact ⟨h0, Int32.not_lt.mpr h3⟩)]
  refine ct_275 (n := n) (m := m) t3 b2 t10 b4 (by rw [t15]; exact b5) (by rw [t86]; exact b8) (by rw [t86]; exact b9) (by rw [t85]; exact b7) (by rw [t91]; exact b10) ?_
  intro K fK hM
  rw [t85, t86, t91, t15] at hM
  have frK : Fr I K := Fr_t fT (Fr_M fK)
  have k15 : K 81 15 = I 1 2 := (fK.2 15 (by decide) (by decide)).trans t15
  have k10 : K 81 10 = zI m := (fK.2 10 (by decide) (by decide)).trans t10
  have k3 : K 81 3 = zI n := (fK.2 3 (by decide) (by decide)).trans t3
  have k85 : K 85 = I 4 := (fK.1 85 (by decide) (by decide)).trans t85
  have k91 : K 91 = I 13 := (fK.1 91 (by decide) (by decide)).trans t91
  have k92 : K 92 = I 12 := (fK.1 92 (by decide) (by decide)).trans t92
  simp only [tl_none]
  rw [lp_274_20]
  by_cases g0 : x = 0
  · rw [if_neg (fun e => e g0), hM.1]
    have q := hQ K frK
    unfold setV at q
    rw [if_pos g0] at q
    exact q
  · rw [if_pos g0]
    have sp : vf_Model_isSpent K ↔ 8 < dK n (I 5) (I 1 2) := by
      unfold vf_Model_isSpent
      rw [hM.1]
      rw [zIr_le (c := 8) (by decide) (by omega)]
      show ¬ dK n (I 5) (I 1 2) ≤ 8 ↔ _
      omega
    by_cases g8 : 8 < dK n (I 5) (I 1 2)
    · rw [if_neg (fun e => e (sp.mpr g8))]
      have q := hQ K frK
      unfold setV at q
      rw [if_neg g0, if_pos g8] at q
      exact q
    · rw [if_pos (fun e => g8 (sp.mp e))]
      have h8 : dK n (I 5) (I 1 2) ≤ 8 := by omega
      have rb := rws_b (n := n) (pr := I 1 2) b9 h8
      have e69 := hM.2.2.2.1 h8
      by_cases g1 : x = 1
      · rw [if_neg (fun e => e g1), e69]
        have q := hQ K frK
        unfold setV at q
        rw [if_neg g0, if_neg g8, if_pos g1] at q
        exact q
      · rw [if_pos g1]
        -- the loop over all rows
        have loop : ∀ (P : Nat → Bool), (∀ v, P v = if x = 2 then pB (frC m (I 12) (I 1 2) (gv n (I 4) (I 5) (I 13) (I 1 2) v)) else pB (frC m (I 12) (I 1 2) (gv n (I 4) (I 5) (I 13) (I 1 2) v) ∧ stbC n (I 4) (I 13) (I 1 2) (gv n (I 4) (I 5) (I 13) (I 1 2) v))) → (∀ K, Fr I K → Q (some (.int (zI (cN P (rws n (I 5) (I 1 2)))))) (sM mo G K J)) → ∀ d v, v + d = rws n (I 5) (I 1 2) → ∀ L, FrR K L ∨ (∃ q130, ¬ x = 2 ∧ FrR (rw2 K 130 q130) L ∧ ∀ c d, c < m → d < m → lvP (I 4) (I 13) (I 1 2) q130 n c d) → (¬ x = 2 → ∀ c d, c < m → d < m → lvP (I 4) (I 13) (I 1 2) (L 130) n c d) → sm_wp X 274 61 [some (.ref 81), some (.int x), some (.int (zI (cN P v))), some (.int (zI v))] [] (sM mo G L J) Q := by
          intro P hP hQ2 d
          induction d with
          | zero =>
            intro v hv L hL hlv
            have : v = rws n (I 5) (I 1 2) := by omega
            subst this
            have lo : ∀ c, c ≠ 128 → c ≠ 129 → c ≠ 130 → L c = K c := by
              intro c a1 a2 a3
              rcases hL with f | ⟨q130, -, f, -⟩
              · exact f c a1 a2
              · rw [f c a1 a2, rw2_n _ _ _ _ a3]
            have frL : Fr I L := by
              refine Fr_t frK ⟨fun c hc => lo c (fun e => by rw [e] at hc; cases hc) (fun e => by rw [e] at hc; cases hc) (fun e => by rw [e] at hc; cases hc), by rw [lo 14 (by decide) (by decide) (by decide)], by rw [lo 16 (by decide) (by decide) (by decide)], by rw [lo 16 (by decide) (by decide) (by decide)], fun j _ => by rw [lo 81 (by decide) (by decide) (by decide)]⟩
            rw [lp_274_61, if_pos (by rw [lo 81 (by decide) (by decide) (by decide), e69, zI_le (by omega) (by omega)]; exact Nat.le_refl _)]
            exact hQ2 L frL
          | succ d ih =>
            intro v hv L hL hlv
            have lo : ∀ c, c ≠ 128 → c ≠ 129 → c ≠ 130 → L c = K c := by
              intro c a1 a2 a3
              rcases hL with f | ⟨q130, -, f, -⟩
              · exact f c a1 a2
              · rw [f c a1 a2, rw2_n _ _ _ _ a3]
            have l81 := lo 81 (by decide) (by decide) (by decide)
            have l91 : L 91 = I 13 := (lo 91 (by decide) (by decide) (by decide)).trans k91
            have l92 : L 92 = I 12 := (lo 92 (by decide) (by decide) (by decide)).trans k92
            rw [lp_274_61, if_neg (by rw [l81, e69, zI_le (by omega) (by omega)]; omega)]
            refine ct_278 (I := L) (n := n) (v := v) (pr := I 1 2) (r4 := I 4) (r5 := I 5) b2 (by rw [l91]; exact b10) b9 h8 (by omega) (by rw [l91, l81, lo 123 (by decide) (by decide) (by decide), lo 124 (by decide) (by decide) (by decide), lo 125 (by decide) (by decide) (by decide), lo 126 (by decide) (by decide) (by decide), lo 127 (by decide) (by decide) (by decide)]; exact hM) ?_
            intro N fN n129 n128
            rw [l91] at n128
            have gb : ∀ s, gv n (I 4) (I 5) (I 13) (I 1 2) v s ≤ 1188 := fun s => gtC_b b10 b2 s
            have n81 : N 81 = K 81 := (fN 81 (by decide) (by decide)).trans l81
            have n91 : N 91 = I 13 := (fN 91 (by decide) (by decide)).trans l91
            have n92 : N 92 = I 12 := (fN 92 (by decide) (by decide)).trans l92
            have hLN : FrR K N ∨ (∃ q130, ¬ x = 2 ∧ FrR (rw2 K 130 q130) N ∧ ∀ c d, c < m → d < m → lvP (I 4) (I 13) (I 1 2) q130 n c d) := by
              rcases hL with f | ⟨q130, e, f, g⟩
              · exact Or.inl (fun c a1 a2 => (fN c a1 a2).trans (f c a1 a2))
              · exact Or.inr ⟨q130, e, fun c a1 a2 => (fN c a1 a2).trans (f c a1 a2), g⟩
            have hlN : ¬ x = 2 → ∀ c d, c < m → d < m → lvP (I 4) (I 13) (I 1 2) (N 130) n c d := fun e => by rw [fN 130 (by decide) (by decide)]; exact hlv e
            have yes : P v = true → sm_wp X 274 61 [some (.ref 81), some (.int x), some (.int (zI (cN P v) + 1)), some (.int (zI v + 1))] [] (sM mo G N J) Q := by
              intro e
              rw [show zI (cN P v) + 1 = zI (cN P (v + 1)) from by rw [cN_p e]; exact zIr_add 1 _, show zI v + 1 = zI (v + 1) from zIr_add 1 v]
              exact ih (v + 1) (by omega) N hLN hlN
            have no : ¬ P v = true → sm_wp X 274 61 [some (.ref 81), some (.int x), some (.int (zI (cN P v) + 0)), some (.int (zI v + 1))] [] (sM mo G N J) Q := by
              intro e
              rw [Int32.add_zero, show zI (cN P v) = zI (cN P (v + 1)) from by rw [cN_q e], show zI v + 1 = zI (v + 1) from zIr_add 1 v]
              exact ih (v + 1) (by omega) N hLN hlN
            simp only [tl_none]
            rw [lp_274_74]
            refine ct_279 (I := N) (m := m) (pr := I 1 2) (g := gv n (I 4) (I 5) (I 13) (I 1 2) v) (by rw [n81]; exact k10) b4 (by rw [n81]; exact k15) b5 (by rw [n92]; exact b11) n128 gb ?_
            intro z hz
            rw [n92] at hz
            simp only [tl_some]
            rw [lp_274_79]
            rcases hz with ⟨rfl, hz⟩ | ⟨rfl, hz⟩
            · rw [if_neg (by decide)]
              by_cases g2 : x = 2
              · rw [if_pos g2]
                refine yes ?_
                rw [hP v, if_pos g2]
                exact pB_t.mpr hz
              · rw [if_neg g2]
                refine ct_280 (I := N) (n := n) (m := m) (pr := I 1 2) (r4 := I 4) (g := gv n (I 4) (I 5) (I 13) (I 1 2) v) b2 (by rw [n81]; exact k10) b4 (by rw [n81]; exact k15) b5 (by rw [n91]; exact b10) n128 gb (fun s hs => ?_) (by rw [n91]; exact hlN g2) ?_
                · rw [fN 127 (by decide) (by decide), lo 127 (by decide) (by decide) (by decide), n91]
                  exact (hM.2.2.2.2 s hs).2
                · intro z2 hz2
                  rw [n91] at hz2
                  simp only [tl_some]
                  rw [lp_274_91]
                  rcases hz2 with ⟨rfl, hz2⟩ | ⟨rfl, hz2⟩
                  · rw [if_neg (by decide)]
                    refine yes ?_
                    rw [hP v, if_neg g2]
                    exact pB_t.mpr ⟨hz, hz2⟩
                  · rw [if_pos rfl]
                    refine no ?_
                    rw [hP v, if_neg g2]
                    exact fun e => hz2 (pB_t.mp e).2
            · rw [if_pos rfl]
              refine no ?_
              rw [hP v]
              by_cases g2 : x = 2
              · rw [if_pos g2]; exact fun e => hz (pB_t.mp e)
              · rw [if_neg g2]; exact fun e => hz (pB_t.mp e).1
        by_cases g2 : x = 2
        · rw [if_pos (by rw [g2]; decide)]
          refine loop (fun u => pB (frC m (I 12) (I 1 2) (gv n (I 4) (I 5) (I 13) (I 1 2) u))) (fun v => by rw [if_pos g2]) (fun L fL => ?_) (rws n (I 5) (I 1 2)) 0 (by omega) K (Or.inl (fun _ _ _ => rfl)) (fun e => absurd g2 e)
          have q := hQ L fL
          unfold setV at q
          rw [if_neg g0, if_neg g8, if_neg g1, if_pos g2] at q
          exact q
        · have g3 : x = 3 := by
            obtain ⟨k, hk, rfl⟩ := zI_of h0
            rw [zIr_le (c := 3) (by decide) (by omega)] at h3
            rw [zIr_eq (c := 0) (by decide) (by omega)] at g0
            rw [zIr_eq (c := 1) (by decide) (by omega)] at g1
            rw [zIr_eq (c := 2) (by decide) (by omega)] at g2
            have h3' : k ≤ 3 := h3
            have g0' : ¬ k = 0 := g0
            have g1' : ¬ k = 1 := g1
            have g2' : ¬ k = 2 := g2
            have : k = 3 := by omega
            rw [this]; rfl
          rw [if_neg (fun e => e g3)]
          refine ct_277 (I := K) (n := n) (m := m) k3 b2 k10 b4 (by rw [k91]; exact b10) ?_
          intro q130 hq
          rw [k85, k91, k15] at hq
          simp only [tl_none]
          rw [lp_274_57]
          refine loop (fun u => pB (frC m (I 12) (I 1 2) (gv n (I 4) (I 5) (I 13) (I 1 2) u) ∧ stbC n (I 4) (I 13) (I 1 2) (gv n (I 4) (I 5) (I 13) (I 1 2) u))) (fun v => by rw [if_neg g2]) (fun L fL => ?_) (rws n (I 5) (I 1 2)) 0 (by omega) _ (Or.inr ⟨q130, g2, fun _ _ _ => rfl, hq⟩) (fun _ => by rw [rw2_a]; exact hq)
          have q := hQ L fL
          unfold setV at q
          rw [if_neg g0, if_neg g8, if_neg g1, if_neg g2] at q
          exact q
theorem op_settle (h : inv c mo G I J) (hc : c ≤ 1000) (x : Int32) : Agr X 189 [some (.ref 0), some (.int x)] 274 [some (.ref 81), some (.int x), none, none] (sM mo G I J) (Inv (c + 1)) := by
  obtain ⟨n, m, hb⟩ := inv_bas h
  unfold Agr
  by_cases g : ¬ x < 0 ∧ x ≤ 3
  · refine h_settle h hc hb g.1 g.2 (fun mo' K J' hK bK k4 k5 k12 k13 k1 => ?_)
    refine m_settle bK g.1 g.2 (fun L fL => ?_)
    rw [k4, k5, k12, k13, k1]
    exact ⟨rfl, inv_fr hK fL rfl rfl⟩
  · have e : sm_wp X 274 0 [some (.ref 81), some (.int x), none, none] [] (sM mo G I J) (fun w M2 => w = some (.int (-1)) ∧ Inv (c + 1) M2) := by
      rw [lp_274_0, if_neg (by
        unfold vf_Model_isIn
        exact fun e => g ⟨e.1, Int32.not_lt.mp e.2⟩)]
      exact ⟨rfl, inv_t 0 h⟩
    rw [lp_189_0]
    by_cases g1 : x < 0
    · rw [if_pos g1]; exact e
    · rw [if_neg g1, if_neg (fun e => g ⟨g1, e⟩)]; exact e
end V1
end
section
/-! Calls on settlements: best, without. -/
def basM (n m : Nat) (pr : Int32) (r4 r5 r12 W : Nat → Int32) (I : Nat → Nat → Int32) : Prop := (I 81 3 = zI n ∧ n ≤ 12 ∧ I 81 10 = zI m ∧ m ≤ 6 ∧ I 81 15 = pr) ∧ (∀ k, m ≤ k → bt pr k = false) ∧ (I 85 = r4 ∧ I 86 = r5 ∧ I 92 = r12 ∧ I 91 = W) ∧
  (∀ l, l < n → r4 l = -1 ∨ ∃ s, s < m ∧ r4 l = zI s) ∧ (∀ l k, 6 ≤ k → bt (r5 l) k = false) ∧ (∀ l, pc6 (r5 l) ≤ 3) ∧ okW W ∧ ∀ j, ∃ w, w ≤ 999 ∧ r12 j = zI w
theorem basM_fr {n m : Nat} {pr : Int32} {r4 r5 r12 W : Nat → Int32} {I K : Nat → Nat → Int32} (h : basM n m pr r4 r5 r12 W I) (f : Fr I K) : basM n m pr r4 r5 r12 W K := by
  obtain ⟨f1, f2, f3, f4, f5⟩ := f
  unfold basM
  simp (decide := true) only [f1, f5]
  exact h
/-- gathered, and the table of shares stands -/
def MS (n m : Nat) (r4 r5 W : Nat → Int32) (pr : Int32) (L : Nat → Nat → Int32) : Prop := MI n r4 r5 W pr (L 81) (L 123) (L 124) (L 125) (L 126) (L 127) ∧ ∀ c d, c < m → d < m → lvP r4 W pr (L 130) n c d
def lsM (m : Nat) (r12 : Nat → Int32) (pr : Int32) (g : Nat → Nat) (k : Nat) : Nat := up (fun s a => if bt pr s = true then (if g s - bdN m r12 s < a then g s - bdN m r12 s else a) else a) k 100000
theorem lsM_s (m : Nat) (r12 : Nat → Int32) (pr : Int32) (g : Nat → Nat) (k : Nat) : lsM m r12 pr g (k + 1) = if bt pr k = true then (if g k - bdN m r12 k < lsM m r12 pr g k then g k - bdN m r12 k else lsM m r12 pr g k) else lsM m r12 pr g k := rfl
theorem lsG_s (m : Nat) (r12 : Nat → Int32) (pr : Int32) (g : Nat → Nat) (k : Nat) : lsG m r12 pr g (k + 1) = if bt pr k = true then (if g k - bdN m r12 k < lsG m r12 pr g k then g k - bdN m r12 k else lsG m r12 pr g k) else lsG m r12 pr g k := rfl
theorem lsM_b {m : Nat} {r12 : Nat → Int32} {pr : Int32} {g : Nat → Nat} : ∀ k, lsM m r12 pr g k ≤ 100000 := by
  intro k
  induction k with
  | zero => exact Nat.le_refl _
  | succ k ih =>
    rw [lsM_s]
    split
    · split <;> omega
    · exact ih
theorem lsM_e {m : Nat} {r12 : Nat → Int32} {pr : Int32} {g : Nat → Nat} (gb : ∀ s, g s ≤ 1188) : ∀ k, (lsM m r12 pr g k ≤ 1188 ∧ lsM m r12 pr g k = lsG m r12 pr g k) ∨ (lsM m r12 pr g k = 100000 ∧ lsG m r12 pr g k = 1188 ∧ ∀ t, t < k → bt pr t = false) := by
  intro k
  induction k with
  | zero => exact Or.inr ⟨rfl, rfl, fun t ht => absurd ht (Nat.not_lt_zero _)⟩
  | succ k ih =>
    have := gb k
    rw [lsM_s, lsG_s]
    cases c : bt pr k with
    | true =>
      left
      simp only [if_true]
      rcases ih with ⟨a, b⟩ | ⟨a, b, -⟩
      · rw [b]
        rw [b] at a
        split <;> omega
      · rw [a, b]
        rw [if_pos (by omega)]
        split <;> omega
    | false =>
      simp only [Bool.false_eq_true, if_false]
      rcases ih with h | ⟨a, b, d⟩
      · exact Or.inl h
      · refine Or.inr ⟨a, b, fun t ht => ?_⟩
        by_cases e : t = k
        · rw [e]; exact c
        · exact d t (by omega)
theorem lsM_ls {m : Nat} {r12 : Nat → Int32} {pr : Int32} {g : Nat → Nat} (gb : ∀ s, g s ≤ 1188) (h6 : m ≤ 6) (hp : ∀ k, m ≤ k → bt pr k = false) (h0 : ¬ pr = 0) : lsM m r12 pr g m = lsG m r12 pr g 6 := by
  have e : ∀ d, m + d ≤ 6 → lsG m r12 pr g (m + d) = lsG m r12 pr g m := by
    intro d
    induction d with
    | zero => intro _; rfl
    | succ d ih =>
      intro hd
      rw [← Nat.add_assoc, lsG_s, hp (m + d) (by omega)]
      simp only [Bool.false_eq_true, if_false]
      exact ih (by omega)
  have e6 := e (6 - m) (by omega)
  rw [show m + (6 - m) = 6 from by omega] at e6
  rw [e6]
  rcases lsM_e (m := m) (r12 := r12) (pr := pr) gb m with ⟨-, b⟩ | ⟨-, -, d⟩
  · exact b
  · exfalso
    apply h0
    apply bt_ext
    intro k _
    rw [bt_0]
    rcases Nat.lt_or_ge k m with c | c
    · exact d k c
    · exact hp k c
theorem smG_6 {m : Nat} {pr : Int32} {g : Nat → Nat} (h6 : m ≤ 6) (hp : ∀ k, m ≤ k → bt pr k = false) : smG pr g m = smG pr g 6 := by
  have e : ∀ d, m + d ≤ 6 → smG pr g (m + d) = smG pr g m := by
    intro d
    induction d with
    | zero => intro _; rfl
    | succ d ih =>
      intro hd
      have s : smG pr g (m + d + 1) = if bt pr (m + d) = true then smG pr g (m + d) + g (m + d) else smG pr g (m + d) := rfl
      rw [← Nat.add_assoc, s, hp (m + d) (by omega)]
      simp only [Bool.false_eq_true, if_false]
      exact ih (by omega)
  have e6 := e (6 - m) (by omega)
  rw [show m + (6 - m) = 6 from by omega] at e6
  exact e6.symm
/-- who has a land in the best -/
def bsH (n : Nat) (r4 r5 : Nat → Int32) (pr : Int32) (u l : Nat) : Int32 := if stD r5 pr l = true then zI (sv n r5 pr u (cN (stD r5 pr) l)) else r4 l
def bsM (n m : Nat) (r4 r5 r12 W : Nat → Int32) (pr : Int32) (o : Option Nat) (x1 : Int32) (L : Nat → Nat → Int32) : Prop := match o with
  | none => x1 = 0
  | some u => x1 = 1 ∧ L 81 76 = zI (lsG m r12 pr (gv n r4 r5 W pr u) 6) ∧ L 81 77 = zI (smG pr (gv n r4 r5 W pr u) 6) ∧ ∀ l, l < n → L 131 l = bsH n r4 r5 pr u l
section V2
variable {X : (Nat → Int32) × Nat} {mo : Bool} {G : Nat × Nat} {I : Nat → Nat → Int32} {J : Nat → Nat → Int64} {Q : Option Value → sm_M → Prop} {c : Nat}
/-- the best is written down -/
theorem mf_t {n m v : Nat} {pr : Int32} {r4 r5 r12 W : Nat → Int32} (h8 : dK n r5 pr ≤ 8) (hb : basM n m pr r4 r5 r12 W I) (hS : MS n m r4 r5 W pr I) (h129 : ∀ j, j < dK n r5 pr → I 129 j = svC n r5 pr v j)
    (hQ : ∀ L, Fr I L → MS n m r4 r5 W pr L → L 81 = I 81 → (∀ l, l < n → L 131 l = bsH n r4 r5 pr v l) → sm_wp X 283 28 [some (.ref 81), some (.int 1), some (.int (zI (v + 1))), none, none, none] [] (sM mo G L J) Q) :
    sm_wp X 283 194 [some (.ref 81), some (.int 1), some (.int (zI v)), none, none, some (.int 0)] [] (sM mo G I J) Q := by
  obtain ⟨⟨c1, c2, c3, c4, c5⟩, b1, ⟨d1, d2, d3, d4⟩, b2, b3, b4, b5, b6⟩ := hb
  have ok : ∀ q, Fr I (rw2 I 131 q) := fun q => Fr_w (Fr_r I) rfl (by decide) (by decide) (by decide) q
  have mS : ∀ q, MS n m r4 r5 W pr (rw2 I 131 q) := fun q => by
    unfold MS
    rw [rw2_n _ _ _ _ (by decide), rw2_n _ _ _ _ (by decide), rw2_n _ _ _ _ (by decide), rw2_n _ _ _ _ (by decide), rw2_n _ _ _ _ (by decide), rw2_n _ _ _ _ (by decide), rw2_n _ _ _ _ (by decide)]
    exact hS
  have two : ∀ d k, k + d = dK n r5 pr → ∀ q : Nat → Int32, (∀ l, l < n → q l = if stD r5 pr l = true ∧ cN (stD r5 pr) l < k then zI (sv n r5 pr v (cN (stD r5 pr) l)) else r4 l) → sm_wp X 283 226 [some (.ref 81), some (.int 1), some (.int (zI v)), none, none, some (.int (zI k))] [] (sM mo G (rw2 I 131 q) J) Q := by
    intro d
    induction d with
    | zero =>
      intro k hk q hq
      rw [lp_283_226, if_pos (by rw [rw2_n _ _ _ _ (by decide), hS.1.1, zI_le (by omega) (by omega)]; omega), show zI v + 1 = zI (v + 1) from zIr_add 1 v]
      refine hQ _ (ok q) (mS q) (rw2_n _ _ _ _ (by decide)) (fun l hl => ?_)
      rw [rw2_a, hq l hl]
      unfold bsH
      by_cases g : stD r5 pr l = true
      · rw [if_pos g, if_pos ⟨g, by have := cN_lt hl g; show cN (stD r5 pr) l < k; unfold dK at hk; omega⟩]
      · rw [if_neg g, if_neg (fun e => g e.1)]
    | succ d ih =>
      intro k hk q hq
      have kD : k < dK n r5 pr := by omega
      have np := nt_p (P := stD r5 pr) (n := n) kD
      have dn : dl n r5 pr k < n := np.2.1
      rw [lp_283_226, if_neg (by rw [rw2_n _ _ _ _ (by decide), hS.1.1, zI_le (by omega) (by omega)]; omega), zI_vp (by omega), zI_vp (by omega), zI_cn (by omega), rw2_n _ _ _ 123 (by decide), hS.1.2.1 k kD, zI_vp (by omega), zI_cn (by omega), rw2_n _ _ _ 129 (by decide), h129 k kD, show zI k + 1 = zI (k + 1) from zIr_add 1 k, up2_rw, rw2_a, rw2_rw]
      refine ⟨by omega, by omega, by omega, ih (k + 1) (by omega) _ (fun l hl => ?_)⟩
      rw [va_ap]
      by_cases g : l = dl n r5 pr k
      · have e1 : stD r5 pr l = true := by rw [g]; exact np.1
        have e2 : cN (stD r5 pr) l = k := by rw [g]; exact np.2.2
        rw [if_pos g, if_pos ⟨e1, by omega⟩, e2]
        rfl
      · rw [if_neg g, hq l hl]
        have e : (stD r5 pr l = true ∧ cN (stD r5 pr) l < k) ↔ (stD r5 pr l = true ∧ cN (stD r5 pr) l < k + 1) := by
          constructor
          · exact fun e => ⟨e.1, by omega⟩
          · rintro ⟨e1, e2⟩
            refine ⟨e1, ?_⟩
            by_cases e3 : cN (stD r5 pr) l = k
            · exact absurd (by rw [← e3]; exact (nt_c hl e1).symm) g
            · omega
        by_cases g2 : stD r5 pr l = true ∧ cN (stD r5 pr) l < k
        · rw [if_pos g2, if_pos (e.mp g2)]
        · rw [if_neg g2, if_neg (fun x => g2 (e.mpr x))]
  have one : ∀ d l, l + d = n → ∀ q : Nat → Int32, (∀ j, j < l → q j = r4 j) → sm_wp X 283 194 [some (.ref 81), some (.int 1), some (.int (zI v)), none, none, some (.int (zI l))] [] (sM mo G (rw2 I 131 q) J) Q := by
    intro d
    induction d with
    | zero =>
      intro l hl q hq
      rw [lp_283_194, if_pos (by rw [rw2_n _ _ _ _ (by decide), c1, zI_le (by omega) (by omega)]; omega)]
      refine two (dK n r5 pr) 0 (by omega) q (fun j hj => ?_)
      rw [if_neg (fun e => absurd e.2 (Nat.not_lt_zero _))]
      exact hq j (by omega)
    | succ d ih =>
      intro l hl q hq
      rw [lp_283_194, if_neg (by rw [rw2_n _ _ _ _ (by decide), c1, zI_le (by omega) (by omega)]; omega), zI_vp (by omega), zI_cn (by omega), rw2_n _ _ _ 85 (by decide), d1, show zI l + 1 = zI (l + 1) from zIr_add 1 l, up2_rw, rw2_a, rw2_rw]
      refine ⟨by omega, ih (l + 1) (by omega) _ (fun j hj => ?_)⟩
      rw [va_ap]
      by_cases g : j = l
      · rw [if_pos g, g]
      · rw [if_neg g]; exact hq j (by omega)
  have q := one n 0 (by omega) (I 131) (fun j hj => absurd hj (Nat.not_lt_zero _))
  rw [rw2_self] at q
  exact q
theorem mf_l {n m : Nat} {pr : Int32} {r4 r5 r12 W : Nat → Int32} (h8 : dK n r5 pr ≤ 8) (h0 : ¬ pr = 0) (hb : basM n m pr r4 r5 r12 W I)
    (hQ : ∀ L z, Fr I L → bsM n m r4 r5 r12 W pr (bstS n m r4 r5 r12 W pr (rws n r5 pr)) z L → Q (some (.int z)) (sM mo G L J)) :
    ∀ d v, v + d = rws n r5 pr → ∀ L x1, Fr I L → MS n m r4 r5 W pr L → bsM n m r4 r5 r12 W pr (bstS n m r4 r5 r12 W pr v) x1 L → sm_wp X 283 28 [some (.ref 81), some (.int x1), some (.int (zI v)), none, none, none] [] (sM mo G L J) Q := by
  have hb0 := hb
  obtain ⟨⟨c1, c2, c3, c4, c5⟩, b1, ⟨d1, d2, d3, d4⟩, b2, b3, b4, b5, b6⟩ := hb
  have rb := rws_b (n := n) (pr := pr) b4 h8
  intro d
  induction d with
  | zero =>
    intro v hv L x1 f hS hM
    have : v = rws n r5 pr := by omega
    subst this
    rw [lp_283_28, if_pos (by rw [hS.1.2.2.2.1 h8, zI_le (by omega) (by omega)]; exact Nat.le_refl _)]
    refine ⟨?_, hQ L x1 f hM⟩
    unfold bsM at hM
    split at hM
    · exact Or.inl hM
    · exact Or.inr hM.1
  | succ d ih =>
    intro v hv L x1 f hS hM
    obtain ⟨⟨k1, k2, k3, k4, k5⟩, -, ⟨e1, e2, e3, e4⟩, -⟩ := basM_fr hb0 f
    rw [lp_283_28, if_neg (by rw [hS.1.2.2.2.1 h8, zI_le (by omega) (by omega)]; omega)]
    refine ct_278 (I := L) (n := n) (v := v) (pr := pr) (r4 := r4) (r5 := r5) c2 (by rw [e4]; exact b5) b4 h8 (by omega) (by rw [e4]; exact hS.1) ?_
    intro N fN n129 n128
    rw [e4] at n128
    have gb : ∀ s, gv n r4 r5 W pr v s ≤ 1188 := fun s => gtC_b b5 c2 s
    have fIN : Fr I N := Fr_t f (Fr_R fN)
    have n81 : N 81 = L 81 := fN 81 (by decide) (by decide)
    have hSN : MS n m r4 r5 W pr N := by
      unfold MS
      rw [n81, fN 123 (by decide) (by decide), fN 124 (by decide) (by decide), fN 125 (by decide) (by decide), fN 126 (by decide) (by decide), fN 127 (by decide) (by decide), fN 130 (by decide) (by decide)]
      exact hS
    have hMN : bsM n m r4 r5 r12 W pr (bstS n m r4 r5 r12 W pr v) x1 N := by
      unfold bsM at hM ⊢
      rw [n81, fN 131 (by decide) (by decide)]
      exact hM
    have eb : bstS n m r4 r5 r12 W pr (v + 1) = if pB (isB n m r4 r5 r12 W pr v ∧ bttr (fun u => lsG m r12 pr (gv n r4 r5 W pr u) 6) (fun u => smG pr (gv n r4 r5 W pr u) 6) (bstS n m r4 r5 r12 W pr v) v) = true then some v else bstS n m r4 r5 r12 W pr v := rfl
    have skip : ∀ N', Fr I N' → MS n m r4 r5 W pr N' → bsM n m r4 r5 r12 W pr (bstS n m r4 r5 r12 W pr v) x1 N' → ¬ (isB n m r4 r5 r12 W pr v ∧ bttr (fun u => lsG m r12 pr (gv n r4 r5 W pr u) 6) (fun u => smG pr (gv n r4 r5 W pr u) 6) (bstS n m r4 r5 r12 W pr v) v) → sm_wp X 283 28 [some (.ref 81), some (.int x1), some (.int (zI v + 1)), none, none, none] [] (sM mo G N' J) Q := by
      intro N' f1 f2 f3 hno
      rw [show zI v + 1 = zI (v + 1) from zIr_add 1 v]
      refine ih (v + 1) (by omega) N' x1 f1 f2 ?_
      rw [eb, if_neg (fun e => hno (pB_t.mp e))]
      exact f3
    simp only [tl_none]
    rw [lp_283_41]
    obtain ⟨⟨j1, j2, j3, j4, j5⟩, -, ⟨g1, g2, g3, g4⟩, -⟩ := basM_fr hb0 fIN
    refine ct_279 (I := N) (m := m) (pr := pr) (g := gv n r4 r5 W pr v) j3 c4 j5 b1 (by rw [g3]; exact b6) n128 gb ?_
    intro z hz
    rw [g3] at hz
    simp only [tl_some]
    rw [lp_283_45]
    rcases hz with ⟨rfl, hz⟩ | ⟨rfl, hz⟩
    · rw [if_neg (by decide)]
      refine ct_280 (I := N) (n := n) (m := m) (pr := pr) (r4 := r4) (g := gv n r4 r5 W pr v) c2 j3 c4 j5 b1 (by rw [g4]; exact b5) n128 gb (fun s hs => by rw [g4]; exact (hSN.1.2.2.2.2 s hs).2) (by rw [g4]; exact hSN.2) ?_
      intro z2 hz2
      rw [g4] at hz2
      simp only [tl_some]
      rw [lp_283_52]
      rcases hz2 with ⟨rfl, hz2⟩ | ⟨rfl, hz2⟩
      · rw [if_pos (by decide)]
        have hB : isB n m r4 r5 r12 W pr v := ⟨h0, hz, hz2⟩
        have lbv := lsG_b m r12 pr (gv n r4 r5 W pr v) 6
        have sbv := smG_b (pr := pr) (g := gv n r4 r5 W pr v) gb 6
        have take : bttr (fun u => lsG m r12 pr (gv n r4 r5 W pr u) 6) (fun u => smG pr (gv n r4 r5 W pr u) 6) (bstS n m r4 r5 r12 W pr v) v → sm_wp X 283 194 [some (.ref 81), some (.int 1), some (.int (zI v)), none, none, some (.int 0)] [] (sM mo G (up2 (up2 N 81 76 (zI (lsG m r12 pr (gv n r4 r5 W pr v) 6))) 81 77 (zI (smG pr (gv n r4 r5 W pr v) 6))) J) Q := by
          intro hbt
          have f2 : Fr I (up2 (up2 N 81 76 (zI (lsG m r12 pr (gv n r4 r5 W pr v) 6))) 81 77 (zI (smG pr (gv n r4 r5 W pr v) 6))) := Fr_m (Fr_m fIN rfl _) rfl _
          refine mf_t (n := n) (m := m) (v := v) (pr := pr) h8 (basM_fr hb0 f2) ?_ (fun j hj => ?_) ?_
          · unfold MS MI
            simp (decide := true) only [up2_ra, up2_rn, va_ap, ne_eq, if_false, if_true, not_false_eq_true]
            exact hSN
          · rw [up2_rn _ _ _ _ _ (by decide), up2_rn _ _ _ _ _ (by decide)]; exact n129 j hj
          · intro P fP hP p81 p131
            refine ih (v + 1) (by omega) P 1 (Fr_t f2 fP) hP ?_
            rw [eb, if_pos (pB_t.mpr ⟨hB, hbt⟩)]
            refine ⟨rfl, ?_, ?_, p131⟩
            · rw [p81]; simp (decide := true) only [up2_ra, up2_rn, va_ap, ne_eq, if_false, if_true, not_false_eq_true]
            · rw [p81]; simp (decide := true) only [up2_ra, up2_rn, va_ap, ne_eq, if_false, if_true, not_false_eq_true]
        have loop : ∀ d s, s + d = m → sm_wp X 283 68 [some (.ref 81), some (.int x1), some (.int (zI v)), some (.int (zI (lsM m r12 pr (gv n r4 r5 W pr v) s))), some (.int (zI (smG pr (gv n r4 r5 W pr v) s))), some (.int (zI s))] [] (sM mo G N J) Q := by
          intro d
          induction d with
          | zero =>
            intro s hs
            have : s = m := by omega
            subst this
            rw [lp_283_68, if_pos (by rw [j3, zI_le (by omega) (by omega)]; exact Nat.le_refl _), lsM_ls gb c4 b1 h0, smG_6 c4 b1]
            unfold bsM at hMN
            cases eo : bstS n s r4 r5 r12 W pr v with
            | none =>
              rw [eo] at hMN
              rw [if_pos hMN]
              refine take ?_
              rw [eo]
              trivial
            | some u =>
              rw [eo] at hMN
              obtain ⟨m1, m2, m3, m4⟩ := hMN
              have lbu := lsG_b s r12 pr (gv n r4 r5 W pr u) 6
              have sbu := smG_b (pr := pr) (g := gv n r4 r5 W pr u) (fun s => gtC_b b5 c2 s) 6
              have hbv : bttr (fun u => lsG s r12 pr (gv n r4 r5 W pr u) 6) (fun u => smG pr (gv n r4 r5 W pr u) 6) (bstS n s r4 r5 r12 W pr v) v ↔ (lsG s r12 pr (gv n r4 r5 W pr u) 6 < lsG s r12 pr (gv n r4 r5 W pr v) 6 ∨ (lsG s r12 pr (gv n r4 r5 W pr v) 6 = lsG s r12 pr (gv n r4 r5 W pr u) 6 ∧ smG pr (gv n r4 r5 W pr u) 6 < smG pr (gv n r4 r5 W pr v) 6)) := by
                rw [eo]
                exact Iff.rfl
              have sk : ¬ bttr (fun u => lsG s r12 pr (gv n r4 r5 W pr u) 6) (fun u => smG pr (gv n r4 r5 W pr u) 6) (bstS n s r4 r5 r12 W pr v) v → sm_wp X 283 28 [some (.ref 81), some (.int x1), some (.int (zI v + 1)), none, none, none] [] (sM mo G N J) Q := fun hno => skip N fIN hSN (by unfold bsM; rw [eo]; exact ⟨m1, m2, m3, m4⟩) (fun e => hno e.2)
              rw [if_neg (by rw [m1]; decide), m2, m3]
              by_cases q1 : lsG s r12 pr (gv n r4 r5 W pr v) 6 < lsG s r12 pr (gv n r4 r5 W pr u) 6
              · rw [if_pos (by rw [zI_lt (by omega) (by omega)]; exact q1)]
                exact sk (fun e => by have := hbv.mp e; omega)
              · rw [if_neg (by rw [zI_lt (by omega) (by omega)]; exact q1)]
                by_cases q2 : lsG s r12 pr (gv n r4 r5 W pr v) 6 = lsG s r12 pr (gv n r4 r5 W pr u) 6
                · rw [if_neg (fun e => e (by rw [q2]))]
                  by_cases q3 : smG pr (gv n r4 r5 W pr u) 6 < smG pr (gv n r4 r5 W pr v) 6
                  · rw [if_pos (by rw [zI_lt (by omega) (by omega)]; exact q3)]
                    exact take (hbv.mpr (Or.inr ⟨q2, q3⟩))
                  · rw [if_neg (by rw [zI_lt (by omega) (by omega)]; exact q3)]
                    exact sk (fun e => by have := hbv.mp e; omega)
                · rw [if_pos (by rw [zI_eq (by omega) (by omega)]; exact q2)]
                  exact take (hbv.mpr (Or.inl (by omega)))
          | succ d ih2 =>
            intro s hs
            have sm' : s < m := by omega
            have ps : vf_Model_isPresent N (zI s) ↔ bt pr s = true := by
              rw [mPres_vp j3 c4, zI_sIn (by omega) (by omega), zI_cn (by omega), j5]
              exact ⟨fun e => e.2, fun e => ⟨sm', e⟩⟩
            have ss : smG pr (gv n r4 r5 W pr v) (s + 1) = if bt pr s = true then smG pr (gv n r4 r5 W pr v) s + gv n r4 r5 W pr v s else smG pr (gv n r4 r5 W pr v) s := rfl
            have ls := lsM_s m r12 pr (gv n r4 r5 W pr v) s
            have lb' := lsM_b (m := m) (r12 := r12) (pr := pr) (g := gv n r4 r5 W pr v) s
            rw [lp_283_68, if_neg (by rw [j3, zI_le (by omega) (by omega)]; omega)]
            by_cases q1 : bt pr s = true
            · obtain ⟨w, hw, ew⟩ := b6 s
              have ebd : bdN m r12 s = w := by unfold bdN; rw [if_pos sm', ew, zI_cn (by omega)]
              have fr := hz s (by omega) q1
              have gs := gb s
              rw [if_pos q1] at ss ls
              rw [ebd] at fr ls
              rw [if_pos (ps.mpr q1), zI_vp (by omega), zI_cn (by omega), n128 s (by omega), g3, ew, zI_sub fr, zI_add, ← ss, show zI s + 1 = zI (s + 1) from zIr_add 1 s]
              refine ⟨by omega, ?_⟩
              by_cases q2 : lsM m r12 pr (gv n r4 r5 W pr v) s ≤ gv n r4 r5 W pr v s - w
              · rw [if_neg (by omega)] at ls
                rw [if_pos (by rw [zI_le (by omega) (by omega)]; exact q2), ← ls]
                exact ih2 (s + 1) (by omega)
              · rw [if_pos (by omega)] at ls
                rw [if_neg (by rw [zI_le (by omega) (by omega)]; exact q2), ← ls]
                exact ih2 (s + 1) (by omega)
            · rw [if_neg q1] at ss ls
              rw [if_neg (fun e => q1 (ps.mp e)), ← ss, ← ls, show zI s + 1 = zI (s + 1) from zIr_add 1 s]
              exact ih2 (s + 1) (by omega)
        exact loop m 0 (by omega)
      · rw [if_neg (fun e => e rfl)]
        exact skip N fIN hSN hMN (fun e => hz2 e.1.2.2)
    · rw [if_pos rfl]
      exact skip N fIN hSN hMN (fun e => hz e.1.2.1)
/-- finds -/
theorem ct_283 {n m : Nat} {pr : Int32} {r4 r5 r12 W : Nat → Int32} (hb : basM n m pr r4 r5 r12 W I)
    (hQ : ∀ L z, Fr I L → (z = 0 ∧ (8 < dK n r5 pr ∨ bstS n m r4 r5 r12 W pr (rws n r5 pr) = none) ∨ (dK n r5 pr ≤ 8 ∧ z = 1 ∧ bsM n m r4 r5 r12 W pr (bstS n m r4 r5 r12 W pr (rws n r5 pr)) 1 L ∧ ¬ bstS n m r4 r5 r12 W pr (rws n r5 pr) = none)) → Q (some (.int z)) (sM mo G L J)) :
    sm_wp X 283 0 [some (.ref 81), none, none, none, none, none] [] (sM mo G I J) Q := by
  have hb0 := hb
  obtain ⟨⟨c1, c2, c3, c4, c5⟩, b1, ⟨d1, d2, d3, d4⟩, b2, b3, b4, b5, b6⟩ := hb
  have d12 : dK n r5 pr ≤ 12 := Nat.le_trans (cN_le _ _) c2
  rw [lp_283_0]
  refine ct_275 (n := n) (m := m) c1 c2 c3 c4 (by rw [c5]; exact b1) (by rw [d2]; exact b3) (by rw [d2]; exact b4) (by rw [d1]; exact b2) (by rw [d4]; exact b5) ?_
  intro K fK hM
  rw [d1, d2, d4, c5] at hM
  have frK : Fr I K := Fr_M fK
  obtain ⟨⟨k1, k2, k3, k4, k5⟩, -, ⟨e1, e2, e3, e4⟩, -⟩ := basM_fr hb0 frK
  have sp : vf_Model_isSpent K ↔ 8 < dK n r5 pr := by
    unfold vf_Model_isSpent
    rw [hM.1]
    rw [zIr_le (c := 8) (by decide) (by omega)]
    show ¬ dK n r5 pr ≤ 8 ↔ _
    omega
  simp only [tl_none]
  rw [lp_283_4]
  by_cases g8 : 8 < dK n r5 pr
  · rw [if_pos (sp.mpr g8)]
    exact hQ K 0 frK (Or.inl ⟨rfl, Or.inl g8⟩)
  · rw [if_neg (fun e => g8 (sp.mp e)), k5]
    by_cases g0 : pr = 0
    · rw [if_neg (fun e => e g0)]
      refine hQ K 0 frK (Or.inl ⟨rfl, Or.inr ?_⟩)
      cases e : bstS n m r4 r5 r12 W pr (rws n r5 pr) with
      | none => rfl
      | some u => exact absurd g0 (bst_p e).2.1
    · rw [if_pos g0]
      refine ct_277 (I := K) (n := n) (m := m) k1 c2 k3 c4 (by rw [e4]; exact b5) ?_
      intro q130 hq
      rw [e1, e4, k5] at hq
      simp only [tl_none]
      rw [lp_283_24]
      have f130 : Fr I (rw2 K 130 q130) := Fr_w frK rfl (by decide) (by decide) (by decide) q130
      refine mf_l (by omega) g0 hb0 ?_ (rws n r5 pr) 0 (by omega) _ 0 f130 ⟨?_, by rw [rw2_a]; exact hq⟩ rfl
      · intro L z fL hL
        unfold bsM at hL
        cases e : bstS n m r4 r5 r12 W pr (rws n r5 pr) with
        | none =>
          rw [e] at hL
          have hL' : z = 0 := hL
          exact hQ L z fL (Or.inl ⟨hL', Or.inr e⟩)
        | some u =>
          rw [e] at hL
          refine hQ L z fL (Or.inr ⟨by omega, hL.1, ?_, by rw [e]; exact fun x => by cases x⟩)
          rw [e]
          exact ⟨rfl, hL.2⟩
      · rw [rw2_n _ _ _ _ (by decide), rw2_n _ _ _ _ (by decide), rw2_n _ _ _ _ (by decide), rw2_n _ _ _ _ (by decide), rw2_n _ _ _ _ (by decide), rw2_n _ _ _ _ (by decide)]
        exact hM
/-- what best answers -/
noncomputable def bstV (n m : Nat) (r4 r5 r12 W : Nat → Int32) (pr x : Int32) : Int32 := if 8 < dK n r5 pr then -1 else match bstS n m r4 r5 r12 W pr (rws n r5 pr) with
  | none => -1
  | some u => if x = 12 then zI (lsG m r12 pr (gv n r4 r5 W pr u) 6) else if x = 13 then zI (smG pr (gv n r4 r5 W pr u) 6) else if sIn x n then bsH n r4 r5 pr u x.toNatClampNeg else -1
theorem ct_282 {n m : Nat} {pr : Int32} {r4 r5 r12 W : Nat → Int32} (hb : basM n m pr r4 r5 r12 W I) {x : Int32} (hQ : ∀ L, Fr I L → Q (some (.int (bstV n m r4 r5 r12 W pr x))) (sM mo G L J)) :
    sm_wp X 282 0 [some (.ref 81), some (.int x)] [] (sM mo G I J) Q := by
  have c1 := hb.1.1
  have c2 := hb.1.2.1
  have lnd : vf_Model_isLand I x = sIn x n := mLand_vp c1 c2 x
  have n12 : ∀ x : Int32, sIn x n → ¬ (12 : Int32) ≤ x := by
    intro x h
    obtain ⟨k, hk, hk2, rfl⟩ := sIn_ex h
    rw [zIl_le (c := 12) (by decide) (by omega)]
    show ¬ 12 ≤ k
    omega
  -- no answer
  have no : ¬ x = 12 → ¬ x = 13 → ¬ sIn x n → Q (some (.int (-1))) (sM mo G I J) := by
    intro a1 a2 a3
    have q := hQ I (Fr_r I)
    unfold bstV at q
    by_cases g8 : 8 < dK n r5 pr
    · rw [if_pos g8] at q; exact q
    · rw [if_neg g8] at q
      cases e : bstS n m r4 r5 r12 W pr (rws n r5 pr) with
      | none => rw [e] at q; exact q
      | some u =>
        rw [e] at q
        simp only [if_neg a1, if_neg a2, if_neg a3] at q
        exact q
  have go : (x = 12 ∨ x = 13 ∨ sIn x n) → sm_wp X 283 0 [some (.ref 81), none, none, none, none, none] [] (sM mo G I J) (fun v M => sm_wp X 282 28 [some (.ref 81), some (.int x)] (v.toList ++ []) M Q) := by
    intro hx
    refine ct_283 hb (fun L z fL hz => ?_)
    simp only [tl_some]
    have q := hQ L fL
    unfold bstV at q
    rw [lp_282_28]
    rcases hz with ⟨rfl, hz⟩ | ⟨h8, rfl, hz, hne⟩
    · rw [if_neg (fun e => e rfl)]
      rcases hz with hz | hz
      · rw [if_pos hz] at q; exact q
      · rw [hz] at q
        rw [ite_self] at q
        exact q
    · rw [if_pos (by decide)]
      rw [if_neg (by omega)] at q
      cases e : bstS n m r4 r5 r12 W pr (rws n r5 pr) with
      | none => exact absurd e hne
      | some u =>
        rw [e] at q hz
        obtain ⟨-, z1, z2, z3⟩ := hz
        rcases hx with rfl | rfl | hx
        · rw [if_pos (by decide), if_neg (fun e => e rfl), z1]
          simp only [if_true] at q
          exact q
        · rw [if_pos (by decide), if_pos (by decide), z2]
          simp (decide := true) only [if_true, if_false] at q
          exact q
        · have nx := n12 x hx
          rw [if_neg nx]
          have a1 : ¬ x = 12 := fun e => nx (by rw [e]; decide)
          have a2 : ¬ x = 13 := fun e => nx (by rw [e]; decide)
          simp only [if_neg a1, if_neg a2, if_pos hx] at q
          obtain ⟨k, hk, hk2, rfl⟩ := sIn_ex hx
          rw [zI_cn hk2] at q ⊢
          rw [zI_vp hk2, z3 k hk]
          exact ⟨by omega, q⟩
  rw [lp_282_0]
  by_cases i13 : vf_Model_isIn x 0 13
  · rw [if_neg (fun e => e i13)]
    obtain ⟨j1, j2⟩ := i13
    by_cases g12 : (12 : Int32) ≤ x
    · rw [if_pos g12]
      refine go ?_
      obtain ⟨k, hk, rfl⟩ := zI_of j1
      rw [zIl_le (c := 12) (by decide) (by omega)] at g12
      rw [zIl_lt (c := 13) (by decide) (by omega)] at j2
      have g12' : 12 ≤ k := g12
      have j2' : ¬ 13 < k := j2
      rcases (by omega : k = 12 ∨ k = 13) with rfl | rfl
      · exact Or.inl rfl
      · exact Or.inr (Or.inl rfl)
    · rw [if_neg g12]
      by_cases gl : sIn x n
      · rw [if_neg (by rw [lnd]; exact fun e => e gl)]
        exact go (Or.inr (Or.inr gl))
      · rw [if_pos (by rw [lnd]; exact gl)]
        exact no (fun e => g12 (by rw [e]; decide)) (fun e => g12 (by rw [e]; decide)) gl
  · rw [if_pos i13]
    refine no (fun e => i13 (by rw [e]; exact ⟨by decide, by decide⟩)) (fun e => i13 (by rw [e]; exact ⟨by decide, by decide⟩)) (fun e => i13 ?_)
    refine ⟨e.1, fun e2 => n12 x e ?_⟩
    obtain ⟨k, hk, hk2, rfl⟩ := sIn_ex e
    rw [zIl_lt (c := 13) (by decide) (by omega)] at e2
    rw [zIl_le (c := 12) (by decide) (by omega)]
    have e2' : 13 < k := e2
    show 12 ≤ k
    omega
theorem cs_139 {n m : Nat} {pr : Int32} (hn : I 1 0 = zI n) (h12 : n ≤ 12) {x : Int32} (hr : srD n m (I 4) (I 5) (I 12) (I 13) pr (I 52) (I 53) (I 59) (J 52 16)) : sm_wp X 139 0 [some (.ref 52), some (.int x)] [] (sM mo G I J) Q = Q (some (.int (bstV n m (I 4) (I 5) (I 12) (I 13) pr x))) (sM mo G I J) := by
  obtain ⟨r1, r2, r3, r4, r5⟩ := hr
  have d12 : dK n (I 5) pr ≤ 12 := Nat.le_trans (cN_le _ _) h12
  rw [lp_139_0]
  unfold bstV
  by_cases g8 : 8 < dK n (I 5) pr
  · rw [if_pos g8, if_neg (fun e => e (r4 g8).2)]
  · rw [if_neg g8]
    have R := (r5 (by omega)).2.2.2.2
    unfold bsI at R
    cases e : bstS n m (I 4) (I 5) (I 12) (I 13) pr (rws n (I 5) pr) with
    | none =>
      rw [e] at R
      rw [if_neg (fun e => e R)]
    | some u =>
      rw [e] at R
      obtain ⟨R1, R2, R3⟩ := R
      have lb' := lsG_b m (I 12) pr (gv n (I 4) (I 5) (I 13) pr u) 6
      rw [if_pos (by rw [R1, zI_m1 (by omega)]; exact id)]
      by_cases a1 : x = 12
      · rw [if_neg (fun e => e a1), R1]
        simp only [if_pos a1]
      · rw [if_pos a1]
        simp only [if_neg a1]
        by_cases a2 : x = 13
        · rw [if_neg (fun e => e a2), R2]
          simp only [if_pos a2]
        · rw [if_pos a2]
          simp only [if_neg a2]
          rw [lp_140_0]
          have key : ∀ d k, k + d = dK n (I 5) pr → (∀ j, j < k → ¬ zI (dl n (I 5) pr j) = x) → sm_wp X 140 2 [some (.ref 52), some (.int x), some (.int (zI k))] [] (sM mo G I J) (fun v M => sm_wp X 139 39 [some (.ref 52), some (.int x)] (v.toList ++ []) M Q) = Q (some (.int (if sIn x n then bsH n (I 4) (I 5) pr u x.toNatClampNeg else -1))) (sM mo G I J) := by
            intro d
            induction d with
            | zero =>
              intro k hk hno
              have : k = dK n (I 5) pr := by omega
              subst this
              rw [lp_140_2, if_pos (by rw [r2, zI_le (by omega) (by omega)]; exact Nat.le_refl _)]
              simp only [tl_some]
              rw [lp_139_39]
              have ea : aLand I 4 (-1) x = if sIn x n then bsH n (I 4) (I 5) pr u x.toNatClampNeg else -1 := by
                unfold aLand
                have hl := hLand_vp hn h12 x
                by_cases g : sIn x n
                · rw [if_pos (by rw [hl]; exact g), if_pos g]
                  obtain ⟨l, hl2, hl3, rfl⟩ := sIn_ex g
                  rw [zI_cn hl3]
                  unfold bsH
                  rw [if_neg]
                  intro e
                  have c1 := cN_lt hl2 e
                  exact hno _ c1 (by rw [show dl n (I 5) pr (cN (stD (I 5) pr) l) = l from nt_c hl2 e])
                · rw [if_neg (by rw [hl]; exact g), if_neg g]
              rw [ea]
            | succ d ih =>
              intro k hk hno
              have kD : k < dK n (I 5) pr := by omega
              have np := nt_p (P := stD (I 5) pr) (n := n) kD
              have dn : dl n (I 5) pr k < n := np.2.1
              rw [lp_140_2, if_neg (by rw [r2, zI_le (by omega) (by omega)]; omega), if_neg (by rw [zIl_le (c := 8) (by decide) (by omega)]; show ¬ 8 ≤ k; omega), zI_vp (by omega), zI_cn (by omega), r3 k (by omega) kD, eq_true (by omega : k < 8), true_and, R3 k kD, show zI k + 1 = zI (k + 1) from zIr_add 1 k]
              by_cases g : zI (dl n (I 5) pr k) = x
              · rw [if_neg (fun e => e g)]
                simp only [tl_some]
                rw [lp_139_39, ← g, if_pos (by rw [zI_sIn (by omega) (by omega)]; exact dn), zI_cn (by omega)]
                unfold bsH
                rw [if_pos (show stD (I 5) pr (dl n (I 5) pr k) = true from np.1), show cN (stD (I 5) pr) (dl n (I 5) pr k) = k from np.2.2]
                rfl
              · rw [if_pos g]
                refine ih (k + 1) (by omega) (fun j hj => ?_)
                by_cases e2 : j = k
                · rw [e2]; exact g
                · exact hno j (by omega)
          exact key (dK n (I 5) pr) 0 (by omega) (fun j hj => absurd hj (Nat.not_lt_zero _))
theorem cw_139 {n m : Nat} {pr : Int32} (hn : I 1 0 = zI n) (h12 : n ≤ 12) {x : Int32} (hr : srD n m (I 4) (I 5) (I 12) (I 13) pr (I 60) (I 61) (I 67) (J 60 16)) : sm_wp X 139 0 [some (.ref 60), some (.int x)] [] (sM mo G I J) Q = Q (some (.int (bstV n m (I 4) (I 5) (I 12) (I 13) pr x))) (sM mo G I J) := by
  obtain ⟨r1, r2, r3, r4, r5⟩ := hr
  have d12 : dK n (I 5) pr ≤ 12 := Nat.le_trans (cN_le _ _) h12
  rw [lpw_139_0]
  unfold bstV
  by_cases g8 : 8 < dK n (I 5) pr
  · rw [if_pos g8, if_neg (fun e => e (r4 g8).2)]
  · rw [if_neg g8]
    have R := (r5 (by omega)).2.2.2.2
    unfold bsI at R
    cases e : bstS n m (I 4) (I 5) (I 12) (I 13) pr (rws n (I 5) pr) with
    | none =>
      rw [e] at R
      rw [if_neg (fun e => e R)]
    | some u =>
      rw [e] at R
      obtain ⟨R1, R2, R3⟩ := R
      have lb' := lsG_b m (I 12) pr (gv n (I 4) (I 5) (I 13) pr u) 6
      rw [if_pos (by rw [R1, zI_m1 (by omega)]; exact id)]
      by_cases a1 : x = 12
      · rw [if_neg (fun e => e a1), R1]
        simp only [if_pos a1]
      · rw [if_pos a1]
        simp only [if_neg a1]
        by_cases a2 : x = 13
        · rw [if_neg (fun e => e a2), R2]
          simp only [if_pos a2]
        · rw [if_pos a2]
          simp only [if_neg a2]
          rw [lpw_140_0]
          have key : ∀ d k, k + d = dK n (I 5) pr → (∀ j, j < k → ¬ zI (dl n (I 5) pr j) = x) → sm_wp X 140 2 [some (.ref 60), some (.int x), some (.int (zI k))] [] (sM mo G I J) (fun v M => sm_wp X 139 39 [some (.ref 60), some (.int x)] (v.toList ++ []) M Q) = Q (some (.int (if sIn x n then bsH n (I 4) (I 5) pr u x.toNatClampNeg else -1))) (sM mo G I J) := by
            intro d
            induction d with
            | zero =>
              intro k hk hno
              have : k = dK n (I 5) pr := by omega
              subst this
              rw [lpw_140_2, if_pos (by rw [r2, zI_le (by omega) (by omega)]; exact Nat.le_refl _)]
              simp only [tl_some]
              rw [lpw_139_39]
              have ea : aLand I 4 (-1) x = if sIn x n then bsH n (I 4) (I 5) pr u x.toNatClampNeg else -1 := by
                unfold aLand
                have hl := hLand_vp hn h12 x
                by_cases g : sIn x n
                · rw [if_pos (by rw [hl]; exact g), if_pos g]
                  obtain ⟨l, hl2, hl3, rfl⟩ := sIn_ex g
                  rw [zI_cn hl3]
                  unfold bsH
                  rw [if_neg]
                  intro e
                  have c1 := cN_lt hl2 e
                  exact hno _ c1 (by rw [show dl n (I 5) pr (cN (stD (I 5) pr) l) = l from nt_c hl2 e])
                · rw [if_neg (by rw [hl]; exact g), if_neg g]
              rw [ea]
            | succ d ih =>
              intro k hk hno
              have kD : k < dK n (I 5) pr := by omega
              have np := nt_p (P := stD (I 5) pr) (n := n) kD
              have dn : dl n (I 5) pr k < n := np.2.1
              rw [lpw_140_2, if_neg (by rw [r2, zI_le (by omega) (by omega)]; omega), if_neg (by rw [zIl_le (c := 8) (by decide) (by omega)]; show ¬ 8 ≤ k; omega), zI_vp (by omega), zI_cn (by omega), r3 k (by omega) kD, eq_true (by omega : k < 8), true_and, R3 k kD, show zI k + 1 = zI (k + 1) from zIr_add 1 k]
              by_cases g : zI (dl n (I 5) pr k) = x
              · rw [if_neg (fun e => e g)]
                simp only [tl_some]
                rw [lpw_139_39, ← g, if_pos (by rw [zI_sIn (by omega) (by omega)]; exact dn), zI_cn (by omega)]
                unfold bsH
                rw [if_pos (show stD (I 5) pr (dl n (I 5) pr k) = true from np.1), show cN (stD (I 5) pr) (dl n (I 5) pr k) = k from np.2.2]
                rfl
              · rw [if_pos g]
                refine ih (k + 1) (by omega) (fun j hj => ?_)
                by_cases e2 : j = k
                · rw [e2]; exact g
                · exact hno j (by omega)
          exact key (dK n (I 5) pr) 0 (by omega) (fun j hj => absurd hj (Nat.not_lt_zero _))
theorem bas_M {n m : Nat} (h : bas n m I) : basM n m (I 1 2) (I 4) (I 5) (I 12) (I 13) I := by
  obtain ⟨b1, b2, b3, b4, b5, ⟨c1, c2, c3, c4, c5, c6, c7⟩, b7, b8, b9, b10, b11⟩ := h
  exact ⟨⟨c1, b2, c2, b4, c3⟩, b5, ⟨c4, c5, c6, c7⟩, b7, b8, b9, b10, b11⟩
theorem op_best (h : inv c mo G I J) (hc : c ≤ 1000) (x : Int32) : Agr X 190 [some (.ref 0), some (.int x)] 281 [some (.ref 81), some (.int x)] (sM mo G I J) (Inv (c + 1)) := by
  obtain ⟨n, m, hb⟩ := inv_bas h
  unfold Agr
  rw [lp_190_0]
  refine c_52 h hc hb (fun mo' K J' hK bK k4 k5 k12 k13 k1 hr => ?_)
  simp only [tl_none]
  rw [← k4, ← k5, ← k12, ← k13, ← k1] at hr
  rw [lp_190_14, cs_139 bK.1 bK.2.1 hr]
  simp only [tl_some]
  rw [lp_190_22, lp_281_0]
  have f0 : Fr K (up2 K 81 2 0) := Fr_m (Fr_r K) rfl 0
  refine ct_282 (basM_fr (bas_M bK) f0) (fun L fL => ?_)
  simp only [tl_some]
  rw [lp_281_10]
  exact ⟨rfl, inv_fr hK (Fr_t f0 fL) rfl rfl⟩
theorem op_without (h : inv c mo G I J) (hc : c ≤ 1000) (y x : Int32) : Agr X 191 [some (.ref 0), some (.int y), some (.int x)] 284 [some (.ref 81), some (.int y), some (.int x), none] (sM mo G I J) (Inv (c + 1)) := by
  obtain ⟨n, m, hb⟩ := inv_bas h
  unfold Agr
  rw [lp_191_0]
  have hp : hPres I y = (sIn y m ∧ bt (I 1 2) y.toNatClampNeg = true) := hPres_vp hb.2.2.1 hb.2.2.2.1 y
  have mp : ∀ K, bas n m K → vf_Model_isPresent (up2 K 81 2 0) y = (sIn y m ∧ bt (K 1 2) y.toNatClampNeg = true) := fun K bK => by rw [mP0 bK.2.2.2.2.2.1.2.1 bK.2.2.2.1, bK.2.2.2.2.2.1.2.2.1]
  by_cases g : sIn y m ∧ bt (I 1 2) y.toNatClampNeg = true
  · rw [if_pos (by rw [hp]; exact g)]
    obtain ⟨s, hs, hs2, rfl⟩ := sIn_ex g.1
    have gb := g.2
    rw [zI_cn hs2] at gb
    have s6 : s < 6 := by have := hb.2.2.2.1; omega
    have pe : I 1 2 &&& ((1 : Int32) <<< (zI s &&& 31) ^^^ (-1)) = I 1 2 ^^^ b1 s := by
      show I 1 2 &&& (b1 s ^^^ (-1)) = _
      apply bt_ext
      intro k hk
      rw [bt_and, bt_xor, bt_xor, bt_m1 hk, bt_b1 s k (by omega) hk, Bool.xor_true]
      by_cases e : k = s
      · subst e; rw [decide_eq_true rfl, gb]; rfl
      · rw [decide_eq_false e]; cases bt (I 1 2) k <;> rfl
    rw [pe]
    have pb : ∀ k, m ≤ k → bt (I 1 2 ^^^ b1 s) k = false := by
      intro k hk
      by_cases k32 : k < 32
      · rw [bt_xor, hb.2.2.2.2.1 k hk, bt_b1 s k (by omega) k32, decide_eq_false (by omega)]; rfl
      · exact bt_big _ _ (by omega)
    refine c_60 h hc hb pb (fun mo' K J' hK bK k4 k5 k12 k13 k1 hr => ?_)
    simp only [tl_none]
    rw [← k4, ← k5, ← k12, ← k13] at hr
    rw [lp_191_33, cw_139 bK.1 bK.2.1 hr]
    simp only [tl_some]
    rw [lp_191_41, lp_284_0, if_pos (by rw [mp K bK, k1]; exact g)]
    have e15 : K 81 15 = I 1 2 := by rw [bK.2.2.2.2.2.1.2.2.1, k1]
    rw [e15, show I 1 2 ^^^ ((1 : Int32) <<< (zI s &&& 31)) = I 1 2 ^^^ b1 s from rfl]
    have bM : basM n m (I 1 2 ^^^ b1 s) (K 4) (K 5) (K 12) (K 13) (up2 (up2 K 81 2 0) 81 15 (I 1 2 ^^^ b1 s)) := by
      obtain ⟨⟨a1, a2, a3, a4, a5⟩, a6, ⟨a7, a8, a9, a10⟩, a11⟩ := bas_M bK
      unfold basM
      simp (decide := true) only [up2_ra, up2_rn, va_ap, ne_eq, if_false, if_true, not_false_eq_true]
      exact ⟨⟨a1, a2, a3, a4, trivial⟩, pb, ⟨a7, a8, a9, a10⟩, a11⟩
    refine ct_282 bM (fun L fL => ?_)
    simp only [tl_some]
    rw [lp_284_32]
    refine ⟨rfl, inv_fr hK ⟨fun c hc => ?_, ?_, ?_, ?_, fun j hj => ?_⟩ rfl rfl⟩
    · have : c ≠ 81 := fun e => by rw [e] at hc; cases hc
      rw [up2_rn _ _ _ _ _ this, fL.1 c hc, up2_rn _ _ _ _ _ this, up2_rn _ _ _ _ _ this]
    · rw [up2_rn _ _ _ _ _ (by decide), fL.2.1, up2_rn _ _ _ _ _ (by decide), up2_rn _ _ _ _ _ (by decide)]
    · rw [up2_rn _ _ _ _ _ (by decide), fL.2.2.1, up2_rn _ _ _ _ _ (by decide), up2_rn _ _ _ _ _ (by decide)]
    · rw [up2_rn _ _ _ _ _ (by decide), fL.2.2.2.1, up2_rn _ _ _ _ _ (by decide), up2_rn _ _ _ _ _ (by decide)]
    · rw [up2_ra, va_ap]
      have l15 : L 81 15 = I 1 2 ^^^ b1 s := by rw [fL.2.2.2.2 15 rfl]; simp (decide := true) only [up2_ra, up2_rn, va_ap, ne_eq, if_false, if_true, not_false_eq_true]
      by_cases e : j = 15
      · rw [if_pos e, l15, e, e15, show (1 : Int32) <<< (zI s &&& 31) = b1 s from rfl, Int32.xor_assoc, Int32.xor_self, Int32.xor_zero]
      · rw [if_neg e, fL.2.2.2.2 j hj, up2_ra, va_ap, if_neg e, up2_ra, va_ap, if_neg (fun e => by rw [e] at hj; cases hj)]
  · rw [if_neg (by rw [hp]; exact g), lp_284_0, if_neg (by rw [mp I hb]; exact g)]
    exact ⟨rfl, inv_t 0 h⟩
end V2
end
section
/-! Calls on settlements: core. -/
def kpt (n m : Nat) (r4 r5 r12 W : Nat → Int32) (pr : Int32) (u : Nat) : Int32 := kpI pr (bdN m r12) (gv n r4 r5 W pr u) 6
abbrev subS (a b : Int32) : Prop := a &&& (b ^^^ (-1)) = 0
theorem subS_b {a b : Int32} : subS a b ↔ ∀ k, bt a k = true → bt b k = true := by
  unfold subS
  rw [bt_eq0]
  constructor
  · intro h k hk
    by_cases k32 : k < 32
    · have := h k k32
      rw [bt_and, bt_xor, bt_m1 k32, Bool.xor_true, hk, Bool.true_and] at this
      cases e : bt b k with
      | true => rfl
      | false => rw [e] at this; cases this
    · rw [bt_big _ _ (by omega)] at hk; cases hk
  · intro h k hk
    rw [bt_and, bt_xor, bt_m1 hk, Bool.xor_true]
    cases e : bt a k with
    | false => rfl
    | true => rw [h k e]; rfl
/-- bounds that can't hold together -/
def badG (n m : Nat) (r4 r5 r12 W : Nat → Int32) (pr : Int32) (g : Nat) : Prop := subS (zI g) pr ∧ ¬ ∃ u, u < rws n r5 pr ∧ subS (zI g) (kpt n m r4 r5 r12 W pr u)
def pcN (g : Nat) : Nat := pc6 (zI g)
def isCr (B : Nat → Prop) (v : Nat) : Prop := (v = 0 ∧ ∀ g, 1 ≤ g → g < 64 → ¬ B g) ∨ (1 ≤ v ∧ v < 64 ∧ B v ∧ ∀ g, 1 ≤ g → g < 64 → B g → pcN v < pcN g ∨ (pcN v = pcN g ∧ v ≤ g))
theorem isCr_u {B : Nat → Prop} {v w : Nat} (h : isCr B v) (k : isCr B w) : v = w := by
  rcases h with ⟨h1, h2⟩ | ⟨h1, h2, h3, h4⟩
  · rcases k with ⟨k1, k2⟩ | ⟨k1, k2, k3, k4⟩
    · omega
    · exact absurd k3 (h2 w k1 k2)
  · rcases k with ⟨k1, k2⟩ | ⟨k1, k2, k3, k4⟩
    · exact absurd h3 (k2 v h1 h2)
    · have a := h4 w k1 k2 k3
      have b := k4 v h1 h2 h3
      omega
theorem pcN_b {g : Nat} (h : g < 64) : pcN g ≤ 6 := (bc_64 ⟨g, h⟩).2.2
theorem pcN_1 {g : Nat} (h : g < 64) (h1 : 1 ≤ g) : 1 ≤ pcN g := by
  have e : ∀ g : Fin 64, 1 ≤ g.val → 1 ≤ pcN g.val := by decide +kernel
  exact e ⟨g, h⟩ h1
theorem bc_pcN {g : Nat} (h : g < 64) : vf_Integer_bitCount (zI g) = zI (pcN g) ∧ popc (zI g) = zI (pcN g) := ⟨(bc_64 ⟨g, h⟩).1, (bc_64 ⟨g, h⟩).2.1⟩
theorem s64_k : ∀ k : Fin 64, ((zI k.val).toInt64.toUInt64 &&& Int64.toUInt64 63).toNat % 64 = k.val := by decide +kernel
theorem lsr_lb (x : Int64) {k : Nat} (h : k < 64) : ((x.toUInt64 >>> ((zI k).toInt64.toUInt64 &&& Int64.toUInt64 63)).toInt64 &&& 1) = if lb x k = true then 1 else 0 := by
  have e1 : ∀ i, ((x.toUInt64 >>> ((zI k).toInt64.toUInt64 &&& Int64.toUInt64 63)).toInt64 &&& 1).toBitVec.getLsbD i = (lb x (k + i) && decide (i = 0)) := by
    intro i
    rw [Int64.toBitVec_and, BitVec.getLsbD_and]
    have a : (x.toUInt64 >>> ((zI k).toInt64.toUInt64 &&& Int64.toUInt64 63)).toInt64.toBitVec.getLsbD i = lb x (k + i) := by
      show (x.toUInt64 >>> ((zI k).toInt64.toUInt64 &&& Int64.toUInt64 63)).toBitVec.getLsbD i = _
      rw [UInt64.toBitVec_shiftRight]
      have s := s64_k ⟨k, h⟩
      generalize (zI k).toInt64.toUInt64 &&& Int64.toUInt64 63 = y at *
      simp only [BitVec.ushiftRight_eq', BitVec.getLsbD_ushiftRight]
      have e : (y.toBitVec % 64).toNat = k := by
        rw [BitVec.toNat_umod]
        exact s
      rw [e]
      rfl
    have b : (1 : Int64).toBitVec.getLsbD i = decide (i = 0) := by
      show (BitVec.ofNat 64 1).getLsbD i = _
      rw [BitVec.getLsbD_one]
      simp
    rw [a, b]
  apply Int64.toBitVec_inj.mp
  apply BitVec.eq_of_getLsbD_eq
  intro i _
  rw [e1 i]
  have b : (1 : Int64).toBitVec.getLsbD i = decide (i = 0) := by
    show (BitVec.ofNat 64 1).getLsbD i = _
    rw [BitVec.getLsbD_one]
    simp
  by_cases g : i = 0
  · subst g
    rw [Nat.add_zero]
    cases lb x k with
    | true => rfl
    | false => rfl
  · rw [decide_eq_false g, Bool.and_false]
    cases lb x k with
    | true => simp only [if_true]; rw [b, decide_eq_false g]
    | false => simp
theorem lsr_c (x : Int64) {k : Nat} (h : k < 64) : lg_cmp ((x.toUInt64 >>> ((zI k).toInt64.toUInt64 &&& Int64.toUInt64 63)).toInt64 &&& 1) 0 = 0 ↔ lb x k = false := by
  rw [lsr_lb x h]
  cases lb x k with
  | true => simp only [if_true]; decide
  | false => simp only [Bool.false_eq_true, if_false]; decide
section V3
variable {X : (Nat → Int32) × Nat} {mo : Bool} {G : Nat × Nat} {I : Nat → Nat → Int32} {J : Nat → Nat → Int64} {Q : Option Value → sm_M → Prop} {c : Nat}
theorem ct_142 {g : Nat} {E : Prop} (hE : E ↔ ∃ k, k < 64 ∧ lb (J 52 16) k = true ∧ subS (zI g) (zI k)) (hQ : ∀ z : Int32, (z = 1 ∧ E ∨ z = 0 ∧ ¬ E) → Q (some (.int z)) (sM mo G I J)) : sm_wp X 142 0 [some (.ref 52), some (.int (zI g)), none] [] (sM mo G I J) Q := by
  have key : ∀ d k, k + d = 64 → (∀ j, j < k → ¬ (lb (J 52 16) j = true ∧ subS (zI g) (zI j))) → sm_wp X 142 2 [some (.ref 52), some (.int (zI g)), some (.int (zI k))] [] (sM mo G I J) Q := by
    intro d
    induction d with
    | zero =>
      intro k hk h
      rw [lp_142_2, if_pos (by rw [zIl_le (c := 64) (by decide) (by omega)]; show 64 ≤ k; omega)]
      exact hQ 0 (Or.inr ⟨rfl, fun e => by
        obtain ⟨j, hj, e2⟩ := hE.mp e
        exact h j (by omega) e2⟩)
    | succ d ih =>
      intro k hk h
      have nxt : ¬ (lb (J 52 16) k = true ∧ subS (zI g) (zI k)) → sm_wp X 142 2 [some (.ref 52), some (.int (zI g)), some (.int (zI k + 1))] [] (sM mo G I J) Q := by
        intro hn
        rw [show zI k + 1 = zI (k + 1) from zIr_add 1 k]
        refine ih (k + 1) (by omega) (fun j hj => ?_)
        by_cases e : j = k
        · rw [e]; exact hn
        · exact h j (by omega)
      rw [lp_142_2, if_neg (by rw [zIl_le (c := 64) (by decide) (by omega)]; show ¬ 64 ≤ k; omega)]
      cases c1 : lb (J 52 16) k with
      | false =>
        rw [if_pos ((lsr_c _ (by omega)).mpr c1)]
        exact nxt (fun e => by rw [c1] at e; cases e.1)
      | true =>
        rw [if_neg (fun e => by rw [(lsr_c _ (by omega)).mp e] at c1; cases c1)]
        by_cases c2 : subS (zI g) (zI k)
        · rw [if_neg (fun e => e c2)]
          exact hQ 1 (Or.inl ⟨rfl, hE.mpr ⟨k, by omega, c1, c2⟩⟩)
        · rw [if_pos c2]
          exact nxt (fun e => c2 e.2)
  rw [lp_142_0]
  exact key 64 0 (by omega) (fun j hj => absurd hj (Nat.not_lt_zero _))
theorem ct_141 {n m : Nat} {pr : Int32} (h12 : n ≤ 12) (h6 : ∀ k, 6 ≤ k → bt pr k = false) (h3 : ∀ l, pc6 (I 5 l) ≤ 3) (hr : srD n m (I 4) (I 5) (I 12) (I 13) pr (I 52) (I 53) (I 59) (J 52 16))
    (hQ : ∀ x : Int32, (8 < dK n (I 5) pr ∧ x = -1 ∨ dK n (I 5) pr ≤ 8 ∧ ∃ v, x = zI v ∧ isCr (badG n m (I 4) (I 5) (I 12) (I 13) pr) v) → Q (some (.int x)) (sM mo G I J)) :
    sm_wp X 141 0 [some (.ref 52), none, none] [] (sM mo G I J) Q := by
  obtain ⟨r1, r2, r3, r4, r5⟩ := hr
  have d12 : dK n (I 5) pr ≤ 12 := Nat.le_trans (cN_le _ _) h12
  rw [lp_141_0, lp_131_0, r2]
  by_cases g8 : dK n (I 5) pr ≤ 8
  · obtain ⟨q1, q2, q3, q4, q5⟩ := r5 g8
    have rb := rws_b (n := n) (pr := pr) h3 g8
    have fb : nFr n m (I 4) (I 5) (I 12) (I 13) pr (rws n (I 5) pr) ≤ rws n (I 5) pr := cN_le _ _
    rw [if_pos (by rw [zIr_le (c := 8) (by decide) (by omega)]; exact g8)]
    simp only [tl_some]
    rw [lp_141_4, if_pos rfl, q2]
    by_cases g0 : nFr n m (I 4) (I 5) (I 12) (I 13) pr (rws n (I 5) pr) = 0
    · rw [g0, if_pos (by decide)]
      have kE : ∀ g, (∃ u, u < rws n (I 5) pr ∧ subS (zI g) (kpt n m (I 4) (I 5) (I 12) (I 13) pr u)) ↔ ∃ k, k < 64 ∧ lb (J 52 16) k = true ∧ subS (zI g) (zI k) := by
        intro g
        constructor
        · rintro ⟨u, hu, e⟩
          obtain ⟨j, hj, ej⟩ := kpI_z pr (bdN m (I 12)) (gv n (I 4) (I 5) (I 13) pr u)
          refine ⟨j, hj, (q4 j hj).mpr ⟨u, hu, ej⟩, ?_⟩
          rw [← ej]
          exact e
        · rintro ⟨k, hk, e1, e2⟩
          obtain ⟨u, hu, eu⟩ := (q4 k hk).mp e1
          refine ⟨u, hu, ?_⟩
          unfold kpt
          rw [eu]
          exact e2
      have sz : ∀ d s, s + d = 7 → 1 ≤ s → (∀ g, 1 ≤ g → g < 64 → badG n m (I 4) (I 5) (I 12) (I 13) pr g → s ≤ pcN g) → sm_wp X 141 20 [some (.ref 52), some (.int (zI s)), none] [] (sM mo G I J) Q := by
        intro d
        induction d with
        | zero =>
          intro s hs h1 h
          rw [lp_141_20, if_pos (by rw [zIl_lt (c := 6) (by decide) (by omega)]; show 6 < s; omega)]
          refine hQ 0 (Or.inr ⟨g8, 0, rfl, Or.inl ⟨rfl, fun g a b e => ?_⟩⟩)
          have := h g a b e
          have := pcN_b b
          omega
        | succ d ih =>
          intro s hs h1 h
          rw [lp_141_20, if_neg (by rw [zIl_lt (c := 6) (by decide) (by omega)]; show ¬ 6 < s; omega)]
          have gl : ∀ d g, g + d = 64 → 1 ≤ g → (∀ g', 1 ≤ g' → g' < g → badG n m (I 4) (I 5) (I 12) (I 13) pr g' → s < pcN g') → sm_wp X 141 28 [some (.ref 52), some (.int (zI s)), some (.int (zI g))] [] (sM mo G I J) Q := by
            intro d
            induction d with
            | zero =>
              intro g hg hg1 hh
              rw [lp_141_28, if_pos (by rw [zIl_le (c := 64) (by decide) (by omega)]; show 64 ≤ g; omega), show zI s + 1 = zI (s + 1) from zIr_add 1 s]
              exact ih (s + 1) (by omega) (by omega) (fun g' a b e => hh g' a (by omega) e)
            | succ d ih2 =>
              intro g hg hg1 hh
              have nxt : (badG n m (I 4) (I 5) (I 12) (I 13) pr g → s < pcN g) → sm_wp X 141 28 [some (.ref 52), some (.int (zI s)), some (.int (zI g + 1))] [] (sM mo G I J) Q := by
                intro hn
                rw [show zI g + 1 = zI (g + 1) from zIr_add 1 g]
                refine ih2 (g + 1) (by omega) (by omega) (fun g' a b e => ?_)
                by_cases e3 : g' = g
                · rw [e3] at e ⊢; exact hn e
                · exact hh g' a (by omega) e
              have pb := pcN_b (show g < 64 by omega)
              rw [lp_141_28, if_neg (by rw [zIl_le (c := 64) (by decide) (by omega)]; show ¬ 64 ≤ g; omega), (bc_pcN (show g < 64 by omega)).1, r1]
              by_cases c1 : pcN g = s
              · rw [if_neg (fun e => e (by rw [c1]))]
                by_cases c2 : subS (zI g) pr
                · rw [if_neg (fun e => e c2)]
                  refine ct_142 (kE g) (fun z hz => ?_)
                  simp only [tl_some]
                  rw [lp_141_58]
                  rcases hz with ⟨rfl, hz⟩ | ⟨rfl, hz⟩
                  · rw [if_pos (by decide)]
                    exact nxt (fun e => absurd hz e.2)
                  · rw [if_neg (fun e => e rfl)]
                    refine hQ (zI g) (Or.inr ⟨g8, g, rfl, Or.inr ⟨hg1, by omega, ⟨c2, hz⟩, fun g' a b e => ?_⟩⟩)
                    have p1 := h g' a b e
                    rcases Nat.lt_or_ge g' g with k | k
                    · have := hh g' a k e
                      omega
                    · omega
                · rw [if_pos c2]
                  exact nxt (fun e => absurd e.1 c2)
              · rw [if_pos (by rw [zI_eq (by omega) (by omega)]; exact c1)]
                refine nxt (fun e => ?_)
                have := h g hg1 (by omega) e
                omega
          exact gl 63 1 (by omega) (Nat.le_refl _) (fun g' a b => absurd b (by omega))
      exact sz 6 1 (by omega) (Nat.le_refl _) (fun g a b _ => pcN_1 b a)
    · rw [if_neg (by rw [zIr_le (c := 0) (by decide) (by omega)]; show ¬ nFr n m (I 4) (I 5) (I 12) (I 13) pr (rws n (I 5) pr) ≤ 0; omega)]
      refine hQ 0 (Or.inr ⟨g8, 0, rfl, Or.inl ⟨rfl, fun g _ _ e => e.2 ?_⟩⟩)
      have np := nt_p (P := fun u => pB (frC m (I 12) pr (gv n (I 4) (I 5) (I 13) pr u))) (n := rws n (I 5) pr) (j := 0) (by unfold nFr at g0; omega)
      refine ⟨_, np.2.1, ?_⟩
      unfold kpt
      rw [(kpI_f h6).mpr (pB_t.mp np.1)]
      exact e.1
  · rw [if_neg (by rw [zIr_le (c := 8) (by decide) (by omega)]; exact g8)]
    simp only [tl_some]
    rw [lp_141_4, if_neg (by decide)]
    exact hQ (-1) (Or.inl ⟨by omega, rfl⟩)
theorem mc_b {n m : Nat} {pr : Int32} {r4 r5 r12 W : Nat → Int32} {E : Nat → Prop} (hpr : I 81 15 = pr) (hE : ∀ k, k < 64 → (I 132 k = 1 ∧ E k ∨ I 132 k = 0 ∧ ¬ E k)) (hEk : ∀ k, k < 64 → (E k ↔ ∃ u, u < rws n r5 pr ∧ kpt n m r4 r5 r12 W pr u = zI k))
    (hQ : ∀ v, isCr (badG n m r4 r5 r12 W pr) v → Q (some (.int (zI v))) (sM mo G I J)) :
    ∀ d g, g + d = 64 → 1 ≤ g → ∀ b, b < 64 → (b = 0 ∧ (∀ g', 1 ≤ g' → g' < g → ¬ badG n m r4 r5 r12 W pr g') ∨ 1 ≤ b ∧ b < g ∧ badG n m r4 r5 r12 W pr b ∧ ∀ g', 1 ≤ g' → g' < g → badG n m r4 r5 r12 W pr g' → pcN b < pcN g' ∨ (pcN b = pcN g' ∧ b ≤ g')) → sm_wp X 285 122 [some (.ref 81), some (.int (zI b)), some (.int (zI g)), none, none] [] (sM mo G I J) Q := by
  have kE : ∀ g, (∃ u, u < rws n r5 pr ∧ subS (zI g) (kpt n m r4 r5 r12 W pr u)) ↔ ∃ k, k < 64 ∧ E k ∧ subS (zI g) (zI k) := by
    intro g
    constructor
    · rintro ⟨u, hu, e⟩
      obtain ⟨j, hj, ej⟩ := kpI_z pr (bdN m r12) (gv n r4 r5 W pr u)
      have ej' : kpt n m r4 r5 r12 W pr u = zI j := ej
      refine ⟨j, hj, (hEk j hj).mpr ⟨u, hu, ej'⟩, ?_⟩
      rw [← ej']
      exact e
    · rintro ⟨k, hk, e1, e2⟩
      obtain ⟨u, hu, eu⟩ := (hEk k hk).mp e1
      exact ⟨u, hu, by rw [eu]; exact e2⟩
  intro d
  induction d with
  | zero =>
    intro g hg hg1 b hb h
    rw [lp_285_122, if_pos (by rw [zIl_le (c := 64) (by decide) (by omega)]; show 64 ≤ g; omega)]
    refine hQ b ?_
    rcases h with ⟨h1, h2⟩ | ⟨h1, h2, h3, h4⟩
    · exact Or.inl ⟨h1, fun g' a b' => h2 g' a (by omega)⟩
    · exact Or.inr ⟨h1, hb, h3, fun g' a b' => h4 g' a (by omega)⟩
  | succ d ih =>
    intro g hg hg1 b hb h
    -- not this one
    have skip : (badG n m r4 r5 r12 W pr g → ¬ b = 0 ∧ pcN b ≤ pcN g) → sm_wp X 285 122 [some (.ref 81), some (.int (zI b)), some (.int (zI g + 1)), none, none] [] (sM mo G I J) Q := by
      intro hn
      rw [show zI g + 1 = zI (g + 1) from zIr_add 1 g]
      refine ih (g + 1) (by omega) (by omega) b hb ?_
      rcases h with ⟨h1, h2⟩ | ⟨h1, h2, h3, h4⟩
      · refine Or.inl ⟨h1, fun g' a b' e => ?_⟩
        by_cases eg : g' = g
        · rw [eg] at e; exact (hn e).1 h1
        · exact h2 g' a (by omega) e
      · refine Or.inr ⟨h1, by omega, h3, fun g' a b' e => ?_⟩
        by_cases eg : g' = g
        · rw [eg] at e ⊢
          have := (hn e).2
          omega
        · exact h4 g' a (by omega) e
    have take : badG n m r4 r5 r12 W pr g → (b = 0 ∨ pcN g < pcN b) → sm_wp X 285 122 [some (.ref 81), some (.int (zI g)), some (.int (zI g + 1)), none, none] [] (sM mo G I J) Q := by
      intro hb1 hb2
      rw [show zI g + 1 = zI (g + 1) from zIr_add 1 g]
      refine ih (g + 1) (by omega) (by omega) g (by omega) (Or.inr ⟨hg1, by omega, hb1, fun g' a b' e => ?_⟩)
      by_cases eg : g' = g
      · rw [eg]; exact Or.inr ⟨rfl, Nat.le_refl _⟩
      · rcases h with ⟨h1, h2⟩ | ⟨h1, h2, h3, h4⟩
        · exact absurd e (h2 g' a (by omega))
        · have := h4 g' a (by omega) e
          omega
    rw [lp_285_122, if_neg (by rw [zIl_le (c := 64) (by decide) (by omega)]; show ¬ 64 ≤ g; omega), hpr]
    by_cases c1 : subS (zI g) pr
    · rw [if_pos c1]
      have lk : ∀ d k, k + d = 64 → ∀ x : Int32, (x = 1 ∧ (∃ j, j < k ∧ E j ∧ subS (zI g) (zI j)) ∨ x = 0 ∧ ¬ ∃ j, j < k ∧ E j ∧ subS (zI g) (zI j)) → sm_wp X 285 147 [some (.ref 81), some (.int (zI b)), some (.int (zI g)), some (.int x), some (.int (zI k))] [] (sM mo G I J) Q := by
        intro d
        induction d with
        | zero =>
          intro k hk x hx
          have : k = 64 := by omega
          subst this
          rw [lp_285_147, if_pos (by decide)]
          rcases hx with ⟨rfl, hx⟩ | ⟨rfl, hx⟩
          · rw [if_pos (by decide)]
            exact skip (fun e => absurd ((kE g).mpr hx) e.2)
          · rw [if_neg (fun e => e rfl)]
            have hbad : badG n m r4 r5 r12 W pr g := ⟨c1, fun e => hx ((kE g).mp e)⟩
            by_cases b0 : b = 0
            · rw [if_pos (by rw [b0]; rfl)]
              exact take hbad (Or.inl b0)
            · have p1 := pcN_b hb
              have p2 := pcN_b (show g < 64 by omega)
              rw [if_neg (by rw [zIr_eq (c := 0) (by decide) (by omega)]; exact b0), ct_Mbits, (bc_pcN (show g < 64 by omega)).2]
              simp only [tl_some]
              rw [lp_285_201, ct_Mbits, (bc_pcN hb).2]
              simp only [tl_some]
              rw [lp_285_205]
              by_cases c3 : pcN b ≤ pcN g
              · rw [if_pos (by rw [zI_le (by omega) (by omega)]; exact c3)]
                exact skip (fun _ => ⟨b0, c3⟩)
              · rw [if_neg (by rw [zI_le (by omega) (by omega)]; exact c3)]
                exact take hbad (Or.inr (by omega))
        | succ d ih2 =>
          intro k hk x hx
          rw [lp_285_147, if_neg (by rw [zIl_le (c := 64) (by decide) (by omega)]; show ¬ 64 ≤ k; omega), show zI k + 1 = zI (k + 1) from zIr_add 1 k]
          rcases hx with ⟨rfl, j, hj, e⟩ | ⟨rfl, hx⟩
          · rw [if_pos (by decide)]
            exact ih2 (k + 1) (by omega) 1 (Or.inl ⟨rfl, j, by omega, e⟩)
          · have no : ¬ (E k ∧ subS (zI g) (zI k)) → sm_wp X 285 147 [some (.ref 81), some (.int (zI b)), some (.int (zI g)), some (.int 0), some (.int (zI (k + 1)))] [] (sM mo G I J) Q := by
              intro hn
              refine ih2 (k + 1) (by omega) 0 (Or.inr ⟨rfl, ?_⟩)
              rintro ⟨j, hj, e⟩
              by_cases ej : j = k
              · rw [ej] at e; exact hn e
              · exact hx ⟨j, by omega, e⟩
            rw [if_neg (fun e => e rfl), zI_vp (by omega), zI_cn (by omega)]
            refine ⟨by omega, ?_⟩
            rcases hE k (by omega) with ⟨e1, e2⟩ | ⟨e1, e2⟩
            · rw [if_neg (by rw [e1]; decide)]
              by_cases c2 : subS (zI g) (zI k)
              · rw [if_neg (fun e => e c2)]
                exact ih2 (k + 1) (by omega) 1 (Or.inl ⟨rfl, k, by omega, e2, c2⟩)
              · rw [if_pos c2]
                exact no (fun e => c2 e.2)
            · rw [if_pos e1]
              exact no (fun e => e2 e.1)
      exact lk 64 0 (by omega) 0 (Or.inr ⟨rfl, fun e => by
        obtain ⟨j, hj, -⟩ := e
        exact absurd hj (Nat.not_lt_zero _)⟩)
    · rw [if_neg c1]
      exact skip (fun e => absurd e.1 c1)
theorem m_core {n m : Nat} {pr : Int32} {r4 r5 r12 W : Nat → Int32} (hb : basM n m pr r4 r5 r12 W I)
    (hQ : ∀ L, Fr I L → ∀ x : Int32, (8 < dK n r5 pr ∧ x = -1 ∨ dK n r5 pr ≤ 8 ∧ ∃ v, x = zI v ∧ isCr (badG n m r4 r5 r12 W pr) v) → Q (some (.int x)) (sM mo G L J)) :
    sm_wp X 285 0 [some (.ref 81), none, none, none, none] [] (sM mo G I J) Q := by
  have f0 : Fr I (up2 I 81 2 0) := Fr_m (Fr_r I) rfl 0
  have hb1 := basM_fr hb f0
  have hb0 := hb1
  obtain ⟨⟨c1, c2, c3, c4, c5⟩, bp, ⟨d1, d2, d3, d4⟩, b2, b3, b4, b5, b6⟩ := hb1
  have d12 : dK n r5 pr ≤ 12 := Nat.le_trans (cN_le _ _) c2
  rw [lp_285_0]
  refine ct_275 (n := n) (m := m) c1 c2 c3 c4 (by rw [c5]; exact bp) (by rw [d2]; exact b3) (by rw [d2]; exact b4) (by rw [d1]; exact b2) (by rw [d4]; exact b5) ?_
  intro K fK hM
  rw [d1, d2, d4, c5] at hM
  have frK : Fr I K := Fr_t f0 (Fr_M fK)
  have sp : vf_Model_isSpent K ↔ 8 < dK n r5 pr := by
    unfold vf_Model_isSpent
    rw [hM.1]
    rw [zIr_le (c := 8) (by decide) (by omega)]
    show ¬ dK n r5 pr ≤ 8 ↔ _
    omega
  simp only [tl_none]
  rw [lp_285_9]
  by_cases g8 : 8 < dK n r5 pr
  · rw [if_neg (fun e => e (sp.mpr g8))]
    exact hQ K frK (-1) (Or.inl ⟨g8, rfl⟩)
  · rw [if_pos (fun e => g8 (sp.mp e))]
    have h8 : dK n r5 pr ≤ 8 := by omega
    have rb := rws_b (n := n) (pr := pr) b4 h8
    have MIk : ∀ L, Fr I L → (∀ c, c ≠ 128 → c ≠ 129 → c ≠ 132 → L c = K c) → MI n r4 r5 W pr (L 81) (L 123) (L 124) (L 125) (L 126) (L 127) := by
      intro L _ e
      rw [e 81 (by decide) (by decide) (by decide), e 123 (by decide) (by decide) (by decide), e 124 (by decide) (by decide) (by decide), e 125 (by decide) (by decide) (by decide), e 126 (by decide) (by decide) (by decide), e 127 (by decide) (by decide) (by decide)]
      exact hM
    -- all rows
    have rows : ∀ d v, v + d = rws n r5 pr → ∀ L, Fr I L → (∀ c, c ≠ 128 → c ≠ 129 → c ≠ 132 → L c = K c) → (∀ k, k < 64 → (L 132 k = 1 ∧ (∃ u, u < v ∧ kpt n m r4 r5 r12 W pr u = zI k) ∨ L 132 k = 0 ∧ ¬ ∃ u, u < v ∧ kpt n m r4 r5 r12 W pr u = zI k)) → sm_wp X 285 41 [some (.ref 81), some (.int (zI v)), none, none, none] [] (sM mo G L J) Q := by
      intro d
      induction d with
      | zero =>
        intro v hv L fL eL hE
        have : v = rws n r5 pr := by omega
        subst this
        rw [lp_285_41, if_pos (by rw [(MIk L fL eL).2.2.2.1 h8, zI_le (by omega) (by omega)]; exact Nat.le_refl _)]
        refine mc_b (n := n) (m := m) (pr := pr) (E := fun k => ∃ u, u < rws n r5 pr ∧ kpt n m r4 r5 r12 W pr u = zI k) ((basM_fr hb fL).1.2.2.2.2) hE (fun k _ => Iff.rfl) (fun v hv => hQ L fL _ (Or.inr ⟨h8, v, rfl, hv⟩)) 63 1 (by omega) (Nat.le_refl _) 0 (by decide) (Or.inl ⟨rfl, fun g' a b => absurd b (by omega)⟩)
      | succ d ih =>
        intro v hv L fL eL hE
        have bL := basM_fr hb fL
        obtain ⟨⟨k1, k2, k3, k4, k5⟩, -, ⟨e1, e2, e3, e4⟩, -⟩ := bL
        rw [lp_285_41, if_neg (by rw [(MIk L fL eL).2.2.2.1 h8, zI_le (by omega) (by omega)]; omega)]
        refine ct_278 (I := L) (n := n) (v := v) (pr := pr) (r4 := r4) (r5 := r5) c2 (by rw [e4]; exact b5) b4 h8 (by omega) (by rw [e4]; exact MIk L fL eL) ?_
        intro N fN n129 n128
        rw [e4] at n128
        have gb : ∀ s, gv n r4 r5 W pr v s ≤ 1188 := fun s => gtC_b b5 c2 s
        have fIN : Fr I N := Fr_t fL (Fr_R fN)
        obtain ⟨⟨j1, j2, j3, j4, j5⟩, -, ⟨g1, g2, g3, g4⟩, -⟩ := basM_fr hb fIN
        have eN : ∀ c, c ≠ 128 → c ≠ 129 → c ≠ 132 → N c = K c := fun c x y z => (fN c x y).trans (eL c x y z)
        have n132 : N 132 = L 132 := fN 132 (by decide) (by decide)
        simp only [tl_none]
        rw [lp_285_54]
        have sl : ∀ d s, s + d = m → sm_wp X 285 58 [some (.ref 81), some (.int (zI v)), some (.int (kpI pr (bdN m r12) (gv n r4 r5 W pr v) s)), some (.int (zI s)), none] [] (sM mo G N J) Q := by
          intro d
          induction d with
          | zero =>
            intro s hs
            have : s = m := by omega
            subst this
            have e6 : kpI pr (bdN s r12) (gv n r4 r5 W pr v) s = kpt n s r4 r5 r12 W pr v := by
              apply bt_ext
              intro k _
              unfold kpt
              rw [bt_kpI _ _ _ s c4, bt_kpI _ _ _ 6 (Nat.le_refl _)]
              by_cases ks : k < s
              · rw [decide_eq_true ks, decide_eq_true (show k < 6 by omega)]
              · rw [decide_eq_false ks, bp k (by omega), Bool.false_and, Bool.false_and, Bool.and_false]
            obtain ⟨j, hj, ej⟩ := kpI_z pr (bdN s r12) (gv n r4 r5 W pr v)
            have ej' : kpt n s r4 r5 r12 W pr v = zI j := ej
            rw [lp_285_58, if_pos (by rw [j3, zI_le (by omega) (by omega)]; exact Nat.le_refl _), e6, ej', zI_vp (by omega), zI_cn (by omega), nar_1, show zI v + 1 = zI (v + 1) from zIr_add 1 v]
            refine ⟨hj, ih (v + 1) (by omega) _ (Fr_u fIN rfl (by decide) (by decide) (by decide) _ _) (fun c x y z => by rw [up2_rn _ _ _ _ _ z]; exact eN c x y z) (fun k hk => ?_)⟩
            rw [up2_ra, va_ap, n132]
            by_cases ek : k = j
            · rw [if_pos ek]
              exact Or.inl ⟨rfl, v, by omega, by rw [ek]; exact ej'⟩
            · rw [if_neg ek]
              rcases hE k hk with ⟨h1, u, hu, h2⟩ | ⟨h1, h2⟩
              · exact Or.inl ⟨h1, u, by omega, h2⟩
              · refine Or.inr ⟨h1, ?_⟩
                rintro ⟨u, hu, h3⟩
                by_cases eu : u = v
                · rw [eu, ej', zI_eq (by omega) (by omega)] at h3
                  exact ek h3.symm
                · exact h2 ⟨u, by omega, h3⟩
          | succ d ih2 =>
            intro s hs
            have sm' : s < m := by omega
            have ps : vf_Model_isPresent N (zI s) ↔ bt pr s = true := by
              rw [mPres_vp j3 c4, zI_sIn (by omega) (by omega), zI_cn (by omega), j5]
              exact ⟨fun e => e.2, fun e => ⟨sm', e⟩⟩
            have ek : kpI pr (bdN m r12) (gv n r4 r5 W pr v) (s + 1) = if bt pr s = true ∧ bdN m r12 s ≤ gv n r4 r5 W pr v s then kpI pr (bdN m r12) (gv n r4 r5 W pr v) s ||| b1 s else kpI pr (bdN m r12) (gv n r4 r5 W pr v) s := rfl
            rw [lp_285_58, if_neg (by rw [j3, zI_le (by omega) (by omega)]; omega), show zI s + 1 = zI (s + 1) from zIr_add 1 s, Int32.or_zero]
            by_cases q1 : bt pr s = true
            · obtain ⟨w, hw, ew⟩ := b6 s
              have ebd : bdN m r12 s = w := by unfold bdN; rw [if_pos sm', ew, zI_cn (by omega)]
              have gs := gb s
              rw [if_neg (fun e => e (ps.mpr q1)), zI_vp (by omega), zI_cn (by omega), n128 s (by omega), g3, ew]
              refine ⟨by omega, ?_⟩
              by_cases q2 : w ≤ gv n r4 r5 W pr v s
              · rw [if_neg (by rw [zI_lt (by omega) (by omega)]; omega), show kpI pr (bdN m r12) (gv n r4 r5 W pr v) s ||| ((1 : Int32) <<< (zI s &&& 31)) = kpI pr (bdN m r12) (gv n r4 r5 W pr v) (s + 1) from by rw [ek, if_pos ⟨q1, by rw [ebd]; exact q2⟩]; rfl]
                exact ih2 (s + 1) (by omega)
              · rw [if_pos (by rw [zI_lt (by omega) (by omega)]; omega)]
                rw [if_neg (fun e => q2 (by rw [← ebd]; exact e.2))] at ek
                rw [← ek]
                exact ih2 (s + 1) (by omega)
            · rw [if_pos (fun e => q1 (ps.mp e))]
              rw [if_neg (fun e => q1 e.1)] at ek
              rw [← ek]
              exact ih2 (s + 1) (by omega)
        exact sl m 0 (by omega)
    have clr : ∀ d k, k + d = 64 → ∀ q : Nat → Int32, (∀ j, j < k → q j = 0) → sm_wp X 285 20 [some (.ref 81), some (.int (zI k)), none, none, none] [] (sM mo G (rw2 K 132 q) J) Q := by
      intro d
      induction d with
      | zero =>
        intro k hk q hq
        have : k = 64 := by omega
        subst this
        rw [lp_285_20, if_pos (by decide)]
        refine rows (rws n r5 pr) 0 (by omega) _ (Fr_w frK rfl (by decide) (by decide) (by decide) q) (fun c _ _ z => rw2_n _ _ _ _ z) (fun k hk => Or.inr ⟨by rw [rw2_a]; exact hq k hk, ?_⟩)
        rintro ⟨u, hu, -⟩
        exact absurd hu (Nat.not_lt_zero _)
      | succ d ih =>
        intro k hk q hq
        rw [lp_285_20, if_neg (by rw [zIl_le (c := 64) (by decide) (by omega)]; show ¬ 64 ≤ k; omega), zI_vp (by omega), zI_cn (by omega), nar_0, show zI k + 1 = zI (k + 1) from zIr_add 1 k, up2_rw, rw2_a, rw2_rw]
        refine ⟨by omega, ih (k + 1) (by omega) _ (fun j hj => ?_)⟩
        rw [va_ap]
        by_cases e : j = k
        · rw [if_pos e]
        · rw [if_neg e]; exact hq j (by omega)
    have q := clr 64 0 (by omega) (K 132) (fun j hj => absurd hj (Nat.not_lt_zero _))
    rw [rw2_self] at q
    exact q
theorem op_core (h : inv c mo G I J) (hc : c ≤ 1000) : Agr X 192 [some (.ref 0)] 285 [some (.ref 81), none, none, none, none] (sM mo G I J) (Inv (c + 1)) := by
  obtain ⟨n, m, hb⟩ := inv_bas h
  unfold Agr
  rw [lp_192_0]
  refine c_52 h hc hb (fun mo' K J' hK bK k4 k5 k12 k13 k1 hr => ?_)
  simp only [tl_none]
  rw [← k4, ← k5, ← k12, ← k13, ← k1] at hr
  rw [lp_192_14]
  refine ct_141 bK.2.1 (fun k hk => bK.2.2.2.2.1 k (by have := bK.2.2.2.1; omega)) bK.2.2.2.2.2.2.2.2.1 hr (fun x hx => ?_)
  simp only [tl_some]
  rw [lp_192_21]
  refine m_core (bas_M bK) (fun L fL y hy => ?_)
  refine ⟨?_, inv_fr hK fL rfl rfl⟩
  have e : y = x := by
    rcases hx with ⟨a1, rfl⟩ | ⟨a1, v, rfl, a2⟩
    · rcases hy with ⟨b1, rfl⟩ | ⟨b1, -⟩
      · rfl
      · omega
    · rcases hy with ⟨b1, -⟩ | ⟨b1, w, rfl, b2⟩
      · omega
      · rw [isCr_u b2 a2]
  rw [e]
end V3
end
section
/-! Calls on settlements: judge. -/
theorem bt_7 {i : Nat} (h : i < 32) : bt 7 i = decide (i < 3) := by
  have e : ∀ i : Fin 32, bt 7 i.val = decide (i.val < 3) := by decide
  exact e ⟨i, h⟩
theorem jd_bits (x : Int32) {k : Nat} (h : k < 8) : ∃ t, t < 8 ∧ (x >>> (zI (3 * k) &&& 31)) &&& 7 = zI t ∧ ((x.toUInt32 >>> ((zI (3 * k)).toUInt32 &&& Int32.toUInt32 31)).toInt32) &&& 7 = zI t := by
  have e0 : (x.toUInt32 >>> ((zI (3 * k)).toUInt32 &&& Int32.toUInt32 31)).toInt32 &&& 7 = (x >>> (zI (3 * k) &&& 31)) &&& 7 := by
    apply bt_ext
    intro i hi
    rw [bt_and, bt_and, bt_7 hi]
    by_cases i3 : i < 3
    · rw [decide_eq_true i3, Bool.and_true, Bool.and_true]
      have a : bt ((x.toUInt32 >>> ((zI (3 * k)).toUInt32 &&& Int32.toUInt32 31)).toInt32) i = bt x (3 * k + i) := by
        show (x.toUInt32 >>> ((zI (3 * k)).toUInt32 &&& Int32.toUInt32 31)).toBitVec.getLsbD i = _
        rw [UInt32.toBitVec_shiftRight]
        have s : ∀ k : Fin 32, (((zI k.val).toUInt32 &&& Int32.toUInt32 31).toBitVec % 32).toNat = k.val := by decide
        have s2 := s ⟨3 * k, by omega⟩
        simp only [BitVec.ushiftRight_eq', BitVec.getLsbD_ushiftRight]
        rw [s2]
        rfl
      have b : bt (x >>> (zI (3 * k) &&& 31)) i = bt x (3 * k + i) := by
        unfold bt
        rw [Int32.toBitVec_shiftRight, sh_k ⟨3 * k, by omega⟩]
        simp only [BitVec.sshiftRight', BitVec.toNat_ofNat, BitVec.getLsbD_sshiftRight]
        have : 3 * k % 2 ^ 32 = 3 * k := Nat.mod_eq_of_lt (by omega)
        rw [this]
        simp [show ¬ 32 ≤ i by omega, show 3 * k + i < 32 by omega]
      rw [a, b]
    · rw [decide_eq_false i3, Bool.and_false, Bool.and_false]
  obtain ⟨t, ht, et⟩ := bt_nat (x := (x >>> (zI (3 * k) &&& 31)) &&& 7) (m := 3) (by decide) (fun i hi => by
    by_cases i32 : i < 32
    · rw [bt_and, bt_7 i32, decide_eq_false (by omega), Bool.and_false]
    · exact bt_big _ _ (by omega))
  exact ⟨t, ht, et, e0.trans et⟩
noncomputable def jt (x : Int32) (k : Nat) : Nat := if h : k < 8 then (jd_bits x h).choose else 0
theorem jt_p (x : Int32) {k : Nat} (h : k < 8) : jt x k < 8 ∧ (x >>> (zI (3 * k) &&& 31)) &&& 7 = zI (jt x k) ∧ ((x.toUInt32 >>> ((zI (3 * k)).toUInt32 &&& Int32.toUInt32 31)).toInt32) &&& 7 = zI (jt x k) := by
  unfold jt
  rw [dif_pos h]
  exact (jd_bits x h).choose_spec
noncomputable def jC (x : Int32) : Nat → Int32 := fun k => zI (jt x k)
def jOK (n : Nat) (r5 : Nat → Int32) (pr x : Int32) (K : Nat) : Prop := ∀ k, k < K → bt (clB n r5 pr k) (jt x k) = true
def jdR (n m : Nat) (r4 r5 r12 W : Nat → Int32) (pr x y : Int32) : Prop := (8 < dK n r5 pr ∧ y = -1) ∨ (dK n r5 pr ≤ 8 ∧ ((¬ jOK n r5 pr x (dK n r5 pr) ∧ y = 0) ∨ (jOK n r5 pr x (dK n r5 pr) ∧ ((¬ frC m r12 pr (gtC n r4 r5 W pr (jC x)) ∧ y = 1) ∨ (frC m r12 pr (gtC n r4 r5 W pr (jC x)) ∧ (stbC n r4 W pr (gtC n r4 r5 W pr (jC x)) ∧ y = 3 ∨ ¬ stbC n r4 W pr (gtC n r4 r5 W pr (jC x)) ∧ y = 2))))))
theorem jdR_u {n m : Nat} {r4 r5 r12 W : Nat → Int32} {pr x y z : Int32} (h : jdR n m r4 r5 r12 W pr x y) (k : jdR n m r4 r5 r12 W pr x z) : z = y := by
  rcases h with ⟨h1, rfl⟩ | ⟨h1, ⟨h2, rfl⟩ | ⟨h2, ⟨h3, rfl⟩ | ⟨h3, ⟨h4, rfl⟩ | ⟨h4, rfl⟩⟩⟩⟩ <;> rcases k with ⟨k1, rfl⟩ | ⟨k1, ⟨k2, rfl⟩ | ⟨k2, ⟨k3, rfl⟩ | ⟨k3, ⟨k4, rfl⟩ | ⟨k4, rfl⟩⟩⟩⟩ <;> first | rfl | omega | (exact absurd k2 h2) | (exact absurd h2 k2) | (exact absurd k3 h3) | (exact absurd h3 k3) | (exact absurd k4 h4) | (exact absurd h4 k4)
theorem clB_6 {n : Nat} {r5 : Nat → Int32} {pr : Int32} (h6 : ∀ l k, 6 ≤ k → bt (r5 l) k = false) {j s : Nat} (h : bt (clB n r5 pr j) s = true) : s < 6 := by
  rcases Nat.lt_or_ge s 6 with k | k
  · exact k
  · unfold clB at h
    rw [bt_and, h6 _ s k, Bool.false_and] at h
    cases h
section V4
variable {X : (Nat → Int32) × Nat} {mo : Bool} {G : Nat × Nat} {I : Nat → Nat → Int32} {J : Nat → Nat → Int64} {Q : Option Value → sm_M → Prop} {c : Nat}
theorem h_judge {n m : Nat} (h : inv c mo G I J) (hc : c ≤ 1000) (hb : bas n m I) {x : Int32}
    (hQ : ∀ mo' K y, inv c mo' G K J → bas n m K → K 4 = I 4 → K 5 = I 5 → K 12 = I 12 → K 13 = I 13 → K 1 = I 1 → jdR n m (I 4) (I 5) (I 12) (I 13) (I 1 2) x y → Q (some (.int y)) (sM mo' G K J)) :
    sm_wp X 143 0 [some (.ref 52), some (.int (I 1 2)), some (.int x), none, none] [] (sM mo G I J) Q := by
  have hsh := inv_sh h hc hb
  have hb0 := hb
  obtain ⟨b1', b2, b3, b4, b5, -, b7, b8, b9, b10, b11⟩ := hb
  have d12 : dK n (I 5) (I 1 2) ≤ 12 := Nat.le_trans (cN_le _ _) b2
  have p6 : ∀ k, 6 ≤ k → bt (I 1 2) k = false := fun k hk => b5 k (by omega)
  -- what comes back
  have back : ∀ mo' K L, FrS 52 58 I K → (∃ ch, SI n m (I 4) (I 5) (I 12) (I 13) (I 1 2) ch (K 52) (K 53) (K 54) (K 56) (K 57) (K 58)) → FrH K L → shOK mo' L n m → inv c mo' G L J ∧ bas n m L ∧ L 4 = I 4 ∧ L 5 = I 5 ∧ L 12 = I 12 ∧ L 13 = I 13 ∧ L 1 = I 1 := by
    rintro mo' K L f ⟨ch, hS⟩ fL hs
    have e : ∀ c, sx52 c = false → L c = I c := fun c hc => by
      unfold sx52 at hc
      simp only [Bool.or_eq_false_iff, Bool.and_eq_false_iff, decide_eq_false_iff_not] at hc
      rw [fL.1 c (by omega) (by omega) (by omega) (by omega), f.1 c (by omega)]
    have fX : FrX I L 52 59 := by
      refine ⟨fun c a1 a2 a3 a4 a5 => by rw [fL.1 c a1 a2 a3 a4, f.1 c (by omega)], ?_⟩
      have := fL.2
      rw [f.1 48 (by decide), f.1 1 (by decide)] at this
      exact this
    have l52 : L 52 = K 52 := fL.1 52 (by decide) (by decide) (by decide) (by decide)
    have l53 : L 53 = K 53 := fL.1 53 (by decide) (by decide) (by decide) (by decide)
    have l59 : L 59 = I 59 := (fL.1 59 (by decide) (by decide) (by decide) (by decide)).trans (f.1 59 (by decide))
    have lj : ∀ j, j ≠ 2 → j ≠ 5 → j ≠ 12 → L 52 j = I 52 j := fun j a b d => by rw [l52]; exact f.2 j a b d
    refine ⟨?_, bas_x hb0 fX (by decide) (by decide), e 4 rfl, e 5 rfl, e 12 rfl, e 13 rfl, e 1 rfl⟩
    unfold shOK at hs
    rw [e 1 rfl, e 4 rfl, e 13 rfl] at hs
    have h0 := h
    obtain ⟨n', m', t, p, q, r, ch0, ln, hN, hE, hV, hY, hG, hK, hP, hS', hA, hT, hF, hB, hC, hD, hD2, hX, hZ⟩ := h
    have en : n = n' := by
      have := hb0.1.symm.trans hN.1
      rw [zI_eq (by omega) (by have := hN.2.2.1; omega)] at this
      exact this
    have em : m = m' := by
      have := hb0.2.2.1.symm.trans hN.2.2.2.1
      rw [zI_eq (by omega) (by have := hN.2.2.2.2.2.1; omega)] at this
      exact this
    subst en; subst em
    have t3 := hN.2.2.2.2.2.2.2.2.2.2
    have cb0 : ch0 < 100000000 := by have := hK.2; omega
    refine inv_x52 e rfl h0 hc hb0 (fun ch' cb' hk hC' => ⟨?_, hC'.2.1, fun _ e1 => hs (by rw [hk]; exact e1), hC'.2.2.2⟩) (fun ch' cb' hk => ?_)
    · rcases fX.2 with e1 | e1
      · rw [e1]; exact hC'.1
      · rw [e1]; exact Or.inr ⟨ch', Nat.le_refl _, hk⟩
    · have ech : ch' = ch0 := by
        have := hk.symm.trans hK.1
        rw [zI_eq (by omega) (by omega)] at this
        exact this
      subst ech
      obtain ⟨g1, g2, g3⟩ := hD
      unfold ivD
      rw [lj 4 (by decide) (by decide) (by decide), lj 3 (by decide) (by decide) (by decide)]
      refine ⟨g1, fun _ e4 => ?_, g3⟩
      have e3 := g3 cb0 rfl e4
      obtain ⟨s1, s2, s3, s4, s5⟩ := g2 cb0 e4
      rw [e3] at s1 s2 s3 s4 s5 ⊢
      refine ⟨by rw [l52]; exact hS.1, by rw [l52]; exact hS.2.1, fun k a b => by rw [l53]; exact (hS.2.2.1 k a b).1, fun a => ?_, fun a => ?_⟩
      · rw [lj 14 (by decide) (by decide) (by decide), lj 17 (by decide) (by decide) (by decide)]; exact s4 a
      · obtain ⟨u1, u2, u3, u4, u5⟩ := s5 a
        unfold RI
        rw [lj 13 (by decide) (by decide) (by decide), lj 14 (by decide) (by decide) (by decide), lj 15 (by decide) (by decide) (by decide), lj 17 (by decide) (by decide) (by decide), lj 18 (by decide) (by decide) (by decide), l59]
        exact ⟨u1, u2, u3, u4, u5⟩
  have stay : ∀ K, FrS 52 58 I K → (∃ ch, SI n m (I 4) (I 5) (I 12) (I 13) (I 1 2) ch (K 52) (K 53) (K 54) (K 56) (K 57) (K 58)) → ∀ y, jdR n m (I 4) (I 5) (I 12) (I 13) (I 1 2) x y → Q (some (.int y)) (sM mo G K J) := by
    intro K f hS y hy
    have hs : shOK mo K n m := by
      unfold shOK
      rw [f.1 48 (by decide), f.1 1 (by decide), f.1 4 (by decide), f.1 13 (by decide), f.1 49 (by decide), f.1 50 (by decide), f.1 143 (by decide)]
      exact hsh
    obtain ⟨q1, q2, q3, q4, q5, q6, q7⟩ := back mo K K f hS ⟨fun _ _ _ _ _ => rfl, Or.inl rfl⟩ hs
    exact hQ mo K y q1 q2 q3 q4 q5 q6 q7 hy
  rw [lp_143_0]
  refine cs_129 (n := n) (m := m) (pr := I 1 2) b1' b2 b3 b4 b8 b10 b11 ?_
  intro K f k55 hS
  simp only [tl_none]
  rw [lp_143_5, lp_131_0, hS.2.1]
  by_cases g8 : dK n (I 5) (I 1 2) ≤ 8
  · rw [if_pos (by rw [zIr_le (c := 8) (by decide) (by omega)]; exact g8)]
    simp only [tl_some]
    rw [lp_143_9, if_pos rfl]
    have key : ∀ d k, k + d = dK n (I 5) (I 1 2) → jOK n (I 5) (I 1 2) x k → ∀ N ch, FrS 52 58 I N → (∀ j, j < 8 → j < dK n (I 5) (I 1 2) → N 55 j = ch j) → (∀ j, j < dK n (I 5) (I 1 2) → ch j = if j < k then jC x j else -1) → SI n m (I 4) (I 5) (I 12) (I 13) (I 1 2) ch (N 52) (N 53) (N 54) (N 56) (N 57) (N 58) → sm_wp X 143 16 [some (.ref 52), none, some (.int x), some (.int (zI k)), none] [] (sM mo G N J) Q := by
      intro d
      induction d with
      | zero =>
        intro k hk hj N ch fN n55 hch hN
        have : k = dK n (I 5) (I 1 2) := by omega
        subst this
        have e : ∀ j, j < dK n (I 5) (I 1 2) → ch j = jC x j := fun j hj => by rw [hch j hj, if_pos hj]
        have hN2 : SI n m (I 4) (I 5) (I 12) (I 13) (I 1 2) (jC x) (N 52) (N 53) (N 54) (N 56) (N 57) (N 58) := si_ch hN (fun s => by
          unfold gtC
          rw [gsm_c (fun j hj => (e j (Nat.lt_of_lt_of_le hj (Nat.min_le_right _ _))).symm)])
        have no : ∀ c, c < 52 ∨ 58 < c → N c = I c := fN.1
        have ek := kpS_e hN2.2.2.2.2
        rw [lp_143_16, if_pos (by rw [hN.2.1, zI_le (by omega) (by omega)]; exact Nat.le_refl _)]
        by_cases gf : frC m (I 12) (I 1 2) (gtC n (I 4) (I 5) (I 13) (I 1 2) (jC x))
        · rw [if_pos (by rw [ek, hN.1]; exact (kpI_f p6).mpr gf)]
          have hs : shOK mo N n m := by
            unfold shOK
            rw [no 48 (by decide), no 1 (by decide), no 4 (by decide), no 13 (by decide), no 49 (by decide), no 50 (by decide), no 143 (by decide)]
            exact hsh
          refine cs_135 (I := N) (n := n) (m := m) (pr := I 1 2) (ch := jC x) (by rw [no 1 (by decide)]; exact b1') b2 (by rw [no 1 (by decide)]; exact b3) b4 b5 (by rw [no 13 (by decide)]; exact b10) hs (by rw [no 4 (by decide), no 5 (by decide), no 12 (by decide), no 13 (by decide)]; exact hN2) ?_
          intro mo' L z fL shL hz
          rw [no 4 (by decide), no 5 (by decide), no 13 (by decide)] at hz
          simp only [tl_some]
          rw [lp_143_86]
          obtain ⟨q1, q2, q3, q4, q5, q6, q7⟩ := back mo' N L fN ⟨_, hN2⟩ fL shL
          rcases hz with ⟨rfl, hz⟩ | ⟨rfl, hz⟩
          · rw [if_neg (by decide)]
            exact hQ mo' L 3 q1 q2 q3 q4 q5 q6 q7 (Or.inr ⟨g8, Or.inr ⟨hj, Or.inr ⟨gf, Or.inl ⟨hz, rfl⟩⟩⟩⟩)
          · rw [if_pos rfl]
            exact hQ mo' L 2 q1 q2 q3 q4 q5 q6 q7 (Or.inr ⟨g8, Or.inr ⟨hj, Or.inr ⟨gf, Or.inr ⟨hz, rfl⟩⟩⟩⟩)
        · rw [if_neg (by rw [ek, hN.1]; exact fun e => gf ((kpI_f p6).mp e))]
          exact stay N fN ⟨_, hN⟩ 1 (Or.inr ⟨g8, Or.inr ⟨hj, Or.inl ⟨gf, rfl⟩⟩⟩)
      | succ d ih =>
        intro k hk hj N ch fN n55 hch hN
        have kD : k < dK n (I 5) (I 1 2) := by omega
        have no : ∀ c, c < 52 ∨ 58 < c → N c = I c := fN.1
        have jp := jt_p x (show k < 8 by omega)
        rw [lp_143_16, if_neg (by rw [hN.2.1, zI_le (by omega) (by omega)]; omega), if_neg (by rw [zIl_le (c := 8) (by decide) (by omega)]; show ¬ 8 ≤ k; omega), zI_vp (by omega), zI_cn (by omega), show (3 : Int32) * zI k = zI (3 * k) from zIl_mul 3 k, jp.2.2]
        refine ⟨by omega, ?_⟩
        have hbit : hBit (N 54 k) (zI (jt x k)) = (bt (clB n (I 5) (I 1 2) k) (jt x k) = true) := by
          rw [(hN.2.2.1 k (by omega) kD).2, hb_bt _ _ (by omega)]
        by_cases gb : bt (clB n (I 5) (I 1 2) k) (jt x k) = true
        · have t6 := clB_6 b8 gb
          have ck : ch k = -1 := by rw [hch k kD, if_neg (Nat.lt_irrefl _)]
          rw [if_pos (by rw [hbit]; exact gb)]
          refine cs_133 (I := N) (n := n) (m := m) (pr := I 1 2) (ch := ch) (by omega) (by rw [no 5 (by decide)]; exact kD) t6 b2 (by rw [no 13 (by decide)]; exact b10) (by rw [no 12 (by decide)]; exact b11) (by rw [no 4 (by decide), no 5 (by decide), no 12 (by decide), no 13 (by decide)]; exact hN) (by rw [no 5 (by decide)]; exact n55) (Or.inl ck) ?_
          intro P fP p55 hP
          rw [no 5 (by decide)] at p55
          rw [no 4 (by decide), no 5 (by decide), no 12 (by decide), no 13 (by decide)] at hP
          simp only [tl_none]
          rw [lp_143_63, show zI k + 1 = zI (k + 1) from zIr_add 1 k]
          refine ih (k + 1) (by omega) (fun j hj2 => ?_) P _ (FrS_t fN fP) p55 (fun j hj2 => ?_) hP
          · by_cases e : j = k
            · rw [e]; exact gb
            · exact hj j (by omega)
          · rw [va_ap]
            by_cases g1 : j = k
            · subst g1
              rw [if_pos rfl, if_pos (Nat.lt_succ_self _)]
              rfl
            · rw [if_neg g1, hch j hj2]
              by_cases g2 : j < k
              · rw [if_pos g2, if_pos (by omega)]
              · rw [if_neg g2, if_neg (by omega)]
        · rw [if_neg (by rw [hbit]; exact gb)]
          exact stay N fN ⟨_, hN⟩ 0 (Or.inr ⟨g8, Or.inl ⟨fun e => gb (e k kD), rfl⟩⟩)
    exact key (dK n (I 5) (I 1 2)) 0 (by omega) (fun j hj => absurd hj (Nat.not_lt_zero _)) K _ f k55 (fun j hj => by rw [if_neg (Nat.not_lt_zero _)]) hS
  · rw [if_neg (by rw [zIr_le (c := 8) (by decide) (by omega)]; exact g8)]
    simp only [tl_some]
    rw [lp_143_9, if_neg (by decide)]
    exact stay K f ⟨_, hS⟩ (-1) (Or.inl ⟨by omega, rfl⟩)
theorem m_judge {n m : Nat} {pr : Int32} {r4 r5 r12 W : Nat → Int32} (hb : basM n m pr r4 r5 r12 W I) {x : Int32}
    (hQ : ∀ L y, Fr I L → jdR n m r4 r5 r12 W pr x y → Q (some (.int y)) (sM mo G L J)) :
    sm_wp X 286 0 [some (.ref 81), some (.int x), none, none] [] (sM mo G I J) Q := by
  have f0 : Fr I (up2 I 81 2 0) := Fr_m (Fr_r I) rfl 0
  have hb1 := basM_fr hb f0
  obtain ⟨⟨c1, c2, c3, c4, c5⟩, bp, ⟨d1, d2, d3, d4⟩, b2, b3, b4, b5, b6⟩ := hb1
  have d12 : dK n r5 pr ≤ 12 := Nat.le_trans (cN_le _ _) c2
  rw [lp_286_0]
  refine ct_275 (n := n) (m := m) c1 c2 c3 c4 (by rw [c5]; exact bp) (by rw [d2]; exact b3) (by rw [d2]; exact b4) (by rw [d1]; exact b2) (by rw [d4]; exact b5) ?_
  intro K fK hM
  rw [d1, d2, d4, c5] at hM
  have frK : Fr I K := Fr_t f0 (Fr_M fK)
  have sp : vf_Model_isSpent K ↔ 8 < dK n r5 pr := by
    unfold vf_Model_isSpent
    rw [hM.1]
    rw [zIr_le (c := 8) (by decide) (by omega)]
    show ¬ dK n r5 pr ≤ 8 ↔ _
    omega
  simp only [tl_none]
  rw [lp_286_9]
  by_cases g8 : 8 < dK n r5 pr
  · rw [if_neg (fun e => e (sp.mpr g8))]
    exact hQ K (-1) frK (Or.inl ⟨g8, rfl⟩)
  · rw [if_pos (fun e => g8 (sp.mp e))]
    have h8 : dK n r5 pr ≤ 8 := by omega
    have f128 : ∀ q, Fr I (rw2 K 128 q) := fun q => Fr_w frK rfl (by decide) (by decide) (by decide) q
    have key : ∀ d k, k + d = dK n r5 pr → jOK n r5 pr x k → ∀ q : Nat → Int32, (∀ s, s < 6 → q s = zI (sur n r4 r5 W pr s + gsm n r5 W pr (jC x) k s)) → sm_wp X 286 46 [some (.ref 81), some (.int x), some (.int (zI k)), none] [] (sM mo G (rw2 K 128 q) J) Q := by
      intro d
      induction d with
      | zero =>
        intro k hk hj q hq
        have : k = dK n r5 pr := by omega
        subst this
        obtain ⟨⟨k1, k2, k3, k4, k5⟩, -, ⟨e1, e2, e3, e4⟩, -⟩ := basM_fr hb (f128 q)
        have hg : ∀ s, s < 6 → rw2 K 128 q 128 s = zI (gtC n r4 r5 W pr (jC x) s) := fun s hs => by
          rw [rw2_a, hq s hs]
          unfold gtC
          rw [Nat.min_eq_right h8]
        have gb : ∀ s, gtC n r4 r5 W pr (jC x) s ≤ 1188 := fun s => gtC_b b5 c2 s
        rw [lp_286_46, if_pos (by rw [rw2_n _ _ _ _ (by decide), hM.1, zI_le (by omega) (by omega)]; exact Nat.le_refl _)]
        refine ct_279 (m := m) (pr := pr) (g := gtC n r4 r5 W pr (jC x)) k3 c4 k5 bp (by rw [e3]; exact b6) hg gb ?_
        intro z hz
        rw [e3] at hz
        simp only [tl_some]
        rw [lp_286_126]
        rcases hz with ⟨rfl, hz⟩ | ⟨rfl, hz⟩
        · rw [if_pos (by decide)]
          refine ct_277 (n := n) (m := m) k1 c2 k3 c4 (by rw [e4]; exact b5) ?_
          intro q130 hq130
          rw [e1, e4, k5] at hq130
          simp only [tl_none]
          rw [lp_286_135]
          have fL : Fr I (rw2 (rw2 K 128 q) 130 q130) := Fr_w (f128 q) rfl (by decide) (by decide) (by decide) q130
          obtain ⟨⟨l1, l2, l3, l4, l5⟩, -, ⟨m1, m2, m3, m4⟩, -⟩ := basM_fr hb fL
          refine ct_280 (n := n) (m := m) (pr := pr) (r4 := r4) (g := gtC n r4 r5 W pr (jC x)) c2 l3 c4 l5 bp (by rw [m4]; exact b5) (by rw [rw2_n _ _ _ _ (by decide)]; exact hg) gb (fun s hs => by rw [m4, rw2_n _ _ _ _ (by decide), rw2_n _ _ _ _ (by decide)]; exact (hM.2.2.2.2 s hs).2) (by rw [m4, rw2_a]; exact hq130) ?_
          intro z2 hz2
          rw [m4] at hz2
          simp only [tl_some]
          rw [lp_286_139]
          rcases hz2 with ⟨rfl, hz2⟩ | ⟨rfl, hz2⟩
          · rw [if_neg (by decide)]
            exact hQ _ 3 fL (Or.inr ⟨h8, Or.inr ⟨hj, Or.inr ⟨hz, Or.inl ⟨hz2, rfl⟩⟩⟩⟩)
          · rw [if_pos rfl]
            exact hQ _ 2 fL (Or.inr ⟨h8, Or.inr ⟨hj, Or.inr ⟨hz, Or.inr ⟨hz2, rfl⟩⟩⟩⟩)
        · rw [if_neg (fun e => e rfl)]
          exact hQ _ 1 (f128 q) (Or.inr ⟨h8, Or.inr ⟨hj, Or.inl ⟨hz, rfl⟩⟩⟩)
      | succ d ih =>
        intro k hk hj q hq
        have kD : k < dK n r5 pr := by omega
        have np := nt_p (P := stD r5 pr) (n := n) kD
        have dn : dl n r5 pr k < n := np.2.1
        obtain ⟨⟨k1, k2, k3, k4, k5⟩, -, ⟨e1, e2, e3, e4⟩, -⟩ := basM_fr hb (f128 q)
        have jp := jt_p x (show k < 8 by omega)
        have pe : vf_Model_isPresent (rw2 K 128 q) (zI (jt x k)) ↔ bt pr (jt x k) = true := by
          rw [mPres_vp k3 c4, zI_sIn (by omega) (by omega), zI_cn (by omega), k5]
          refine ⟨fun e => e.2, fun e => ⟨?_, e⟩⟩
          rcases Nat.lt_or_ge (jt x k) m with g | g
          · exact g
          · rw [bp _ g] at e; cases e
        have cle : bt (clB n r5 pr k) (jt x k) = (bt (r5 (dl n r5 pr k)) (jt x k) && bt pr (jt x k)) := by unfold clB; rw [bt_and]
        rw [lp_286_46, if_neg (by rw [rw2_n _ _ _ _ (by decide), hM.1, zI_le (by omega) (by omega)]; omega), show (3 : Int32) * zI k = zI (3 * k) from zIl_mul 3 k, jp.2.1]
        by_cases g1 : bt pr (jt x k) = true
        · rw [if_neg (fun e => e (pe.mpr g1)), zI_vp (by omega), zI_cn (by omega), rw2_n _ _ _ 123 (by decide), hM.2.1 k kD, zI_vp (by omega), zI_cn (by omega), e2]
          refine ⟨by omega, by omega, ?_⟩
          cases g2 : bt (r5 (dl n r5 pr k)) (jt x k) with
          | true =>
            have hcl : bt (clB n r5 pr k) (jt x k) = true := by rw [cle, g1, g2]; rfl
            have t6 := clB_6 b3 hcl
            have wz : W (12 * jt x k + dl n r5 pr k) = zI (ww W (jt x k) (dl n r5 pr k)) := by
              obtain ⟨w, hw, e⟩ := b5 (12 * jt x k + dl n r5 pr k)
              unfold ww
              rw [e, zI_cn (by omega)]
            rw [if_pos (by rw [sb_0 _ _ (by omega), g2]; decide), zI_vp (by omega), zI_cn (by omega), show (12 : Int32) * zI (jt x k) = zI (12 * jt x k) from zIl_mul 12 _, zI_add, zI_vp (by omega), zI_cn (by omega), e4, wz, up2_rw, rw2_a, rw2_rw, hq _ t6, zI_add, show zI k + 1 = zI (k + 1) from zIr_add 1 k]
            refine ⟨t6, by omega, ih (k + 1) (by omega) (fun j hj2 => ?_) _ (fun s hs => ?_)⟩
            · by_cases e : j = k
              · rw [e]; exact hcl
              · exact hj j (by omega)
            · rw [va_ap, gsm_s]
              by_cases e : s = jt x k
              · rw [if_pos e, e, if_pos (show jC x k = zI (jt x k) from rfl), Nat.add_assoc]
              · rw [if_neg e, if_neg (show ¬ jC x k = zI s from by unfold jC; rw [zI_eq (by omega) (by omega)]; omega)]
                exact hq s hs
          | false =>
            rw [if_neg (by rw [sb_0 _ _ (by omega), g2]; exact fun e => e rfl)]
            refine hQ _ 0 (f128 q) (Or.inr ⟨h8, Or.inl ⟨fun e => ?_, rfl⟩⟩)
            have := e k kD
            rw [cle, g2, Bool.false_and] at this
            cases this
        · rw [if_pos (fun e => g1 (pe.mp e))]
          refine hQ _ 0 (f128 q) (Or.inr ⟨h8, Or.inl ⟨fun e => ?_, rfl⟩⟩)
          have := e k kD
          rw [cle, Bool.and_eq_true] at this
          exact g1 this.2
    have ini : ∀ d s, s + d = 6 → ∀ q : Nat → Int32, (∀ t, t < s → q t = zI (sur n r4 r5 W pr t)) → sm_wp X 286 20 [some (.ref 81), some (.int x), some (.int (zI s)), none] [] (sM mo G (rw2 K 128 q) J) Q := by
      intro d
      induction d with
      | zero =>
        intro s hs q hq
        have : s = 6 := by omega
        subst this
        rw [lp_286_20, if_pos (by decide)]
        exact key (dK n r5 pr) 0 (by omega) (fun j hj => absurd hj (Nat.not_lt_zero _)) q (fun t ht => hq t ht)
      | succ d ih =>
        intro s hs q hq
        rw [lp_286_20, if_neg (by rw [zIl_le (c := 6) (by decide) (by omega)]; show ¬ 6 ≤ s; omega), zI_vp (by omega), zI_cn (by omega), rw2_n _ _ _ 126 (by decide), (hM.2.2.2.2 s (by omega)).1, show zI s + 1 = zI (s + 1) from zIr_add 1 s, up2_rw, rw2_a, rw2_rw]
        refine ⟨by omega, ih (s + 1) (by omega) _ (fun t ht => ?_)⟩
        rw [va_ap]
        by_cases e : t = s
        · rw [if_pos e, e]
        · rw [if_neg e]; exact hq t (by omega)
    have q := ini 6 0 (by omega) (K 128) (fun t ht => absurd ht (Nat.not_lt_zero _))
    rw [rw2_self] at q
    exact q
theorem op_judge (h : inv c mo G I J) (hc : c ≤ 1000) (x : Int32) : Agr X 193 [some (.ref 0), some (.int x)] 286 [some (.ref 81), some (.int x), none, none] (sM mo G I J) (Inv (c + 1)) := by
  obtain ⟨n, m, hb⟩ := inv_bas h
  unfold Agr
  rw [lp_193_0]
  refine h_judge h hc hb (fun mo' K y hK bK k4 k5 k12 k13 k1 hy => ?_)
  simp only [tl_some]
  rw [lp_193_15]
  refine m_judge (bas_M bK) (fun L z fL hz => ?_)
  rw [k4, k5, k12, k13, k1] at hz
  rw [jdR_u hy hz]
  exact ⟨rfl, inv_fr hK fL rfl rfl⟩
end V4
end
section
/-! Going through rows in order, place by place. -/
def LB (k : Nat) (m : Nat → Nat) (t : Nat) (x : Nat → Nat) : Prop := (∃ i, i < k ∧ (∀ j, j < i → x j = m j) ∧ x i < m i) ∨ ((∀ j, j < k → x j = m j) ∧ x k < t)
/-- so many steps at most for a whole subtree -/
def cT (b : Nat) : Nat → Nat
  | 0 => 0
  | j + 1 => b * (1 + cT b j) + 1
def cS (b k : Nat) : Nat := cT b (4 - k)
theorem cS_s (b : Nat) {k : Nat} (h : k < 4) : cS b k = b * (1 + cS b (k + 1)) + 1 := by
  unfold cS
  rw [show 4 - k = (4 - (k + 1)) + 1 from by omega]
  rfl
def pS (b : Nat) (M : Nat → Nat) (k : Nat) : Nat := up (fun i a => a + ((b - (M i + 1)) * (1 + cS b (i + 1)) + 1)) k 0
def bS (b : Nat) (M : Nat → Nat) (k t : Nat) : Nat := pS b M k + ((b - t) * (1 + cS b (k + 1)) + 1)
theorem pS_s (b : Nat) (M : Nat → Nat) (k : Nat) : pS b M (k + 1) = bS b M k (M k + 1) := rfl
theorem pS_c {b : Nat} {M M' : Nat → Nat} {k : Nat} (h : ∀ j, j < k → M j = M' j) : pS b M k = pS b M' k := by
  unfold pS
  apply up_congr
  intro j hj x
  rw [h j hj]
theorem bS_0 (b : Nat) (M : Nat → Nat) : bS b M 0 0 = cS b 0 := by
  rw [cS_s b (by decide)]
  show 0 + ((b - 0) * (1 + cS b 1) + 1) = _
  rw [Nat.zero_add, Nat.sub_zero]
theorem bS_p (b : Nat) (M : Nat → Nat) (k t : Nat) : pS b M k + 1 ≤ bS b M k t := by
  unfold bS
  omega
theorem bS_1 {b : Nat} {M : Nat → Nat} {k s t : Nat} (h : s < t) (ht : t ≤ b) : bS b M k t + (1 + cS b (k + 1)) ≤ bS b M k s := by
  have e : (b - t + 1) * (1 + cS b (k + 1)) ≤ (b - s) * (1 + cS b (k + 1)) := Nat.mul_le_mul_right _ (by omega)
  rw [Nat.add_mul, Nat.one_mul] at e
  unfold bS
  omega
theorem bS_d {b : Nat} {M : Nat → Nat} {k t : Nat} (hk : k < 3) : bS b M (k + 1) t ≤ bS b M k (M k + 1) + cS b (k + 1) := by
  have e : (b - t) * (1 + cS b (k + 1 + 1)) ≤ b * (1 + cS b (k + 1 + 1)) := Nat.mul_le_mul_right _ (by omega)
  have e2 := cS_s b (k := k + 1) (by omega)
  rw [← pS_s]
  show pS b M (k + 1) + _ ≤ _
  omega
theorem dfs {N b : Nat} (hN : N ≤ 4) (h1 : 1 ≤ N) (hb : 0 < b) (V : Nat → (Nat → Nat) → Nat → Prop) (t0 : (Nat → Nat) → Nat) (Sol : (Nat → Nat) → Prop) (F : (Nat → Nat) → Prop) (S : Nat)
    (hS : ∀ x, Sol x → ∀ k, k < N → x k < b ∧ V k x (x k)) (hVc : ∀ k M M' s, (∀ j, j < k → M j = M' j) → V k M s → V k M' s)
    (ht0 : ∀ x, Sol x → ∀ k, 0 < k → k < N → t0 x ≤ x k) (ht0c : ∀ M M', M 0 = M' 0 → t0 M = t0 M') (ht0b : ∀ M, M 0 < b → t0 M ≤ b)
    (hF : ∀ M, ¬ F M → ∀ x, Sol x → (∀ j, j < N → x j = M j) → False)
    (W : Nat → Nat → Nat → (Nat → Nat) → Prop) (W0 : Prop) (Fd : (Nat → Nat) → Prop) (h0 : (∀ x, ¬ Sol x) → W0) (hfd : ∀ M, F M → (∀ k, k < N → M k < b ∧ V k M (M k)) → (∀ x, Sol x → ¬ lxL N x M) → Fd M)
    (step : ∀ k t st M, k < N → st < S → t ≤ b → (∀ j, j < k → M j < b ∧ V j M (M j)) →
      ((∀ s, t ≤ s → s < b → ¬ V k M s) → (k = 0 → W0) ∧ ∀ k', k = k' + 1 → W k' (M k' + 1) (st + 1) M) →
      (∀ s, t ≤ s → s < b → V k M s → (∀ s', t ≤ s' → s' < s → ¬ V k M s') → (k + 1 < N → W (k + 1) (t0 (va_up M k s)) (st + 1) (va_up M k s)) ∧ (k + 1 = N → (¬ F (va_up M k s) → W k (s + 1) (st + 1) (va_up M k s)) ∧ (F (va_up M k s) → Fd (va_up M k s)))) → W k t st M) :
    ∀ f k t st M, k < N → t ≤ b → (∀ j, j < k → M j < b ∧ V j M (M j)) → (∀ x, Sol x → ¬ LB k M t x) → bS b M k t ≤ f → st + f ≤ S → W k t st M := by
  intro f
  induction f with
  | zero =>
    intro k t st M hk ht hM hL hf hst
    have := bS_p b M k t
    omega
  | succ f ih =>
    intro k t st M hk ht hM hL hf hst
    have bp := bS_p b M k t
    refine step k t st M hk (by omega) ht hM (fun hno => ⟨fun k0 => ?_, fun k' ek => ?_⟩) (fun s hs1 hs2 hs3 hs4 => ?_)
    · subst k0
      refine h0 (fun x hx => ?_)
      have q := hS x hx 0 hk
      rcases Nat.lt_or_ge (x 0) t with g | g
      · exact hL x hx (Or.inr ⟨fun j hj => absurd hj (Nat.not_lt_zero _), g⟩)
      · exact hno (x 0) g q.1 (hVc 0 x M _ (fun j hj => absurd hj (Nat.not_lt_zero _)) q.2)
    · subst ek
      have mk := hM k' (by omega)
      refine ih k' (M k' + 1) (st + 1) M (by omega) (by omega) (fun j hj => hM j (by omega)) (fun x hx hlb => ?_) ?_ (by omega)
      · have q := hS x hx (k' + 1) hk
        rcases hlb with ⟨i, hi, h2, h3⟩ | ⟨h2, h3⟩
        · exact hL x hx (Or.inl ⟨i, by omega, h2, h3⟩)
        · rcases Nat.lt_or_ge (x k') (M k') with g | g
          · exact hL x hx (Or.inl ⟨k', by omega, h2, g⟩)
          · have pe : ∀ j, j < k' + 1 → x j = M j := by
              intro j hj
              by_cases e : j = k'
              · rw [e]; omega
              · exact h2 j (by omega)
            rcases Nat.lt_or_ge (x (k' + 1)) t with g2 | g2
            · exact hL x hx (Or.inr ⟨pe, g2⟩)
            · exact hno _ g2 q.1 (hVc (k' + 1) x M _ pe q.2)
      · rw [pS_s] at bp
        omega
    · have Mc : ∀ j, j < k → va_up M k s j = M j := fun j hj => by rw [va_ap, if_neg (by omega)]
      have Mk : va_up M k s k = s := by rw [va_ap, if_pos rfl]
      have hM' : ∀ j, j < k + 1 → va_up M k s j < b ∧ V j (va_up M k s) (va_up M k s j) := by
        intro j hj
        by_cases e : j = k
        · rw [e, Mk]
          exact ⟨hs2, hVc k M _ s (fun i hi => (Mc i hi).symm) hs3⟩
        · have q := hM j (by omega)
          rw [Mc j (by omega)]
          exact ⟨q.1, hVc j M _ _ (fun i hi => (Mc i (by omega)).symm) q.2⟩
      have pc : pS b (va_up M k s) k = pS b M k := pS_c Mc
      have hLs : ∀ x, Sol x → ¬ LB k (va_up M k s) s x := by
        intro x hx hlb
        have q := hS x hx k hk
        rcases hlb with ⟨i, hi, h2, h3⟩ | ⟨h2, h3⟩
        · exact hL x hx (Or.inl ⟨i, hi, fun j hj => by rw [h2 j hj, Mc j (by omega)], by rw [← Mc i hi]; exact h3⟩)
        · have pe : ∀ j, j < k → x j = M j := fun j hj => by rw [h2 j hj, Mc j hj]
          rcases Nat.lt_or_ge (x k) t with g | g
          · exact hL x hx (Or.inr ⟨pe, g⟩)
          · exact hs4 _ g h3 (hVc k x M _ pe q.2)
      have bt' : bS b (va_up M k s) k (s + 1) + (1 + cS b (k + 1)) ≤ bS b M k t := by
        have e := bS_1 (b := b) (M := M) (k := k) (show t < s + 1 by omega) (by omega)
        unfold bS at e ⊢
        rw [pc]
        exact e
      refine ⟨fun hk1 => ?_, fun hk1 => ⟨fun hnF => ?_, fun hF1 => ?_⟩⟩
      · have M0 : va_up M k s 0 < b := (hM' 0 (by omega)).1
        refine ih (k + 1) (t0 (va_up M k s)) (st + 1) _ hk1 (ht0b _ M0) hM' (fun x hx hlb => ?_) ?_ (by omega)
        · rcases hlb with ⟨i, hi, h2, h3⟩ | ⟨h2, h3⟩
          · by_cases e : i = k
            · rw [e] at h2 h3
              rw [Mk] at h3
              exact hLs x hx (Or.inr ⟨h2, h3⟩)
            · exact hLs x hx (Or.inl ⟨i, by omega, h2, h3⟩)
          · have := ht0 x hx (k + 1) (by omega) hk1
            rw [ht0c x (va_up M k s) (h2 0 (by omega))] at this
            omega
        · have e1 := bS_d (b := b) (M := va_up M k s) (k := k) (t := t0 (va_up M k s)) (by omega)
          rw [Mk] at e1
          omega
      · refine ih k (s + 1) (st + 1) _ hk (by omega) (fun j hj => hM' j (by omega)) (fun x hx hlb => ?_) ?_ (by omega)
        · rcases hlb with ⟨i, hi, h2, h3⟩ | ⟨h2, h3⟩
          · exact hLs x hx (Or.inl ⟨i, hi, h2, h3⟩)
          · rcases Nat.lt_or_ge (x k) s with g | g
            · exact hLs x hx (Or.inr ⟨h2, g⟩)
            · refine hF _ hnF x hx (fun j hj => ?_)
              by_cases e : j = k
              · rw [e, Mk]; omega
              · exact h2 j (by omega)
        · omega
      · refine hfd _ hF1 (fun j hj => hM' j (by omega)) (fun x hx hlx => ?_)
        obtain ⟨i, hi, h2, h3⟩ := hlx
        by_cases e : i = k
        · rw [e] at h2 h3
          rw [Mk] at h3
          exact hLs x hx (Or.inr ⟨h2, h3⟩)
        · exact hLs x hx (Or.inl ⟨i, by omega, h2, h3⟩)
end
section
/-! The class's ring. -/
def rVm (pr : Int32) (k : Nat) (M : Nat → Nat) (s : Nat) : Prop := bt pr s = true ∧ (∀ j, j < k → ¬ s = M j) ∧ (0 < k → M 0 < s)
def rVl (n : Nat) (r4 W : Nat → Int32) (M : Nat → Nat) (k : Nat) (L : Nat → Nat) (l : Nat) : Prop := l < n ∧ r4 l = zI (M k) ∧ (0 < k → ww W (M k) l < ww W (M k) (L (k - 1)))
theorem vp04 : vp_in 0 4 := by rw [vp_in_iff]; decide
section Y1
variable {X : (Nat → Int32) × Nat} {mo : Bool} {G : Nat × Nat} {I : Nat → Nat → Int32} {J : Nat → Nat → Int64} {Q : Option Value → sm_M → Prop}
theorem ct_122 {k : Nat} (hk : k ≤ 4) {x : Int32} (hQ : ∀ z : Int32, (z = 1 ∧ (∃ j, j < k ∧ I 69 j = x) ∨ z = 0 ∧ ∀ j, j < k → ¬ I 69 j = x) → Q (some (.int z)) (sM mo G I J)) : sm_wp X 122 0 [some (.ref 68), some (.int x), some (.int (zI k)), none] [] (sM mo G I J) Q := by
  have key : ∀ d j, j + d = k → (∀ i, i < j → ¬ I 69 i = x) → sm_wp X 122 2 [some (.ref 68), some (.int x), some (.int (zI k)), some (.int (zI j))] [] (sM mo G I J) Q := by
    intro d
    induction d with
    | zero =>
      intro j hj h
      rw [lp_122_2, if_pos (by rw [zI_le (by omega) (by omega)]; omega)]
      exact hQ 0 (Or.inr ⟨rfl, fun i hi => h i (by omega)⟩)
    | succ d ih =>
      intro j hj h
      rw [lp_122_2, if_neg (by rw [zI_le (by omega) (by omega)]; omega), if_neg (by rw [zIl_le (c := 4) (by decide) (by omega)]; show ¬ 4 ≤ j; omega), zI_vp (by omega), zI_cn (by omega), show zI j + 1 = zI (j + 1) from zIr_add 1 j]
      refine ⟨by omega, ?_⟩
      by_cases g : I 69 j = x
      · rw [if_neg (fun e => e g)]
        exact hQ 1 (Or.inl ⟨rfl, j, by omega, g⟩)
      · rw [if_pos g]
        refine ih (j + 1) (by omega) (fun i hi => ?_)
        by_cases e : i = j
        · rw [e]; exact g
        · exact h i (by omega)
  rw [lp_122_0]
  exact key k 0 (by omega) (fun i hi => absurd hi (Nat.not_lt_zero _))
theorem ct_121 {m k t : Nat} {pr : Int32} {M : Nat → Nat} (hm : I 1 1 = zI m) (h6 : m ≤ 6) (hpr : I 1 2 = pr) (hp : ∀ k, m ≤ k → bt pr k = false) (hk : k < 4) (hM : ∀ j, j < k → I 69 j = zI (M j) ∧ M j < 6) (ht : I 69 k + 1 = zI t) (ht6 : t ≤ 6) (h0 : 0 < k → M 0 < t)
    (hQ : ∀ z : Int32, (z = -1 ∧ (∀ s, t ≤ s → s < 6 → ¬ rVm pr k M s) ∨ ∃ s, t ≤ s ∧ s < 6 ∧ rVm pr k M s ∧ (∀ s', t ≤ s' → s' < s → ¬ rVm pr k M s') ∧ z = zI s) → Q (some (.int z)) (sM mo G I J)) :
    sm_wp X 121 0 [some (.ref 68), some (.int (zI k)), none] [] (sM mo G I J) Q := by
  have key : ∀ d s, s + d = 6 → t ≤ s → (∀ s', t ≤ s' → s' < s → ¬ rVm pr k M s') → sm_wp X 121 20 [some (.ref 68), some (.int (zI k)), some (.int (zI s))] [] (sM mo G I J) Q := by
    intro d
    induction d with
    | zero =>
      intro s hs hts h
      have : s = 6 := by omega
      subst this
      rw [lp_121_20, if_pos (by decide)]
      exact hQ (-1) (Or.inl ⟨rfl, h⟩)
    | succ d ih =>
      intro s hs hts h
      have nxt : ¬ rVm pr k M s → sm_wp X 121 20 [some (.ref 68), some (.int (zI k)), some (.int (zI s + 1))] [] (sM mo G I J) Q := by
        intro hn
        rw [show zI s + 1 = zI (s + 1) from zIr_add 1 s]
        refine ih (s + 1) (by omega) (by omega) (fun s' a b => ?_)
        by_cases e : s' = s
        · rw [e]; exact hn
        · exact h s' a (by omega)
      have ps : hPres I (zI s) ↔ bt pr s = true := by
        rw [hPres_vp hm h6, zI_sIn (by omega) (by omega), zI_cn (by omega), hpr]
        refine ⟨fun e => e.2, fun e => ⟨?_, e⟩⟩
        rcases Nat.lt_or_ge s m with g | g
        · exact g
        · rw [hp s g] at e; cases e
      rw [lp_121_20, if_neg (by rw [zIl_le (c := 6) (by decide) (by omega)]; show ¬ 6 ≤ s; omega)]
      by_cases g1 : bt pr s = true
      · rw [if_neg (fun e => e (ps.mpr g1))]
        refine ct_122 (by omega) (fun z hz => ?_)
        simp only [tl_some]
        rw [lp_121_43]
        rcases hz with ⟨rfl, j, hj, e⟩ | ⟨rfl, hz⟩
        · rw [if_pos (by decide)]
          refine nxt (fun v => v.2.1 j hj ?_)
          rw [(hM j hj).1, zI_eq (by have := (hM j hj).2; omega) (by omega)] at e
          exact e.symm
        · rw [if_neg (fun e => e rfl)]
          refine hQ (zI s) (Or.inr ⟨s, hts, by omega, ⟨g1, fun j hj e => hz j hj ?_, fun k0 => by have := h0 k0; omega⟩, h, rfl⟩)
          rw [(hM j hj).1, e]
      · rw [if_pos (fun e => g1 (ps.mp e))]
        exact nxt (fun v => g1 v.1)
  rw [lp_121_0, if_neg (by rw [zIr_lt (c := 0) (by decide) (by omega)]; exact Nat.not_lt_zero _), if_pos (by rw [zIr_lt (c := 4) (by decide) (by omega)]; exact hk), zI_vp (by omega), zI_cn (by omega), ht]
  exact ⟨hk, key (6 - t) t (by omega) (Nat.le_refl _) (fun s' a b => absurd b (by omega))⟩
theorem ct_124 {n k t : Nat} {M L : Nat → Nat} (hn : I 1 0 = zI n) (h12 : n ≤ 12) (hW : okW (I 13)) (hk : k < 4) (hM : I 69 k = zI (M k)) (hM6 : M k < 6) (hL : ∀ j, j < k → I 70 j = zI (L j) ∧ L j < 12) (ht : I 70 k + 1 = zI t) (ht12 : t ≤ 12)
    (hQ : ∀ z : Int32, (z = -1 ∧ (∀ s, t ≤ s → s < 12 → ¬ rVl n (I 4) (I 13) M k L s) ∨ ∃ s, t ≤ s ∧ s < 12 ∧ rVl n (I 4) (I 13) M k L s ∧ (∀ s', t ≤ s' → s' < s → ¬ rVl n (I 4) (I 13) M k L s') ∧ z = zI s) → Q (some (.int z)) (sM mo G I J)) :
    sm_wp X 124 0 [some (.ref 68), some (.int (zI k)), none, none] [] (sM mo G I J) Q := by
  have key : ∀ d s, s + d = 12 → t ≤ s → (∀ s', t ≤ s' → s' < s → ¬ rVl n (I 4) (I 13) M k L s') → sm_wp X 124 34 [some (.ref 68), some (.int (zI k)), some (.int (hlds (I 4) (zI (M k)) n)), some (.int (zI s))] [] (sM mo G I J) Q := by
    intro d
    induction d with
    | zero =>
      intro s hs hts h
      have : s = 12 := by omega
      subst this
      rw [lp_124_34, if_pos (by decide)]
      exact hQ (-1) (Or.inl ⟨rfl, h⟩)
    | succ d ih =>
      intro s hs hts h
      have nxt : ¬ rVl n (I 4) (I 13) M k L s → sm_wp X 124 34 [some (.ref 68), some (.int (zI k)), some (.int (hlds (I 4) (zI (M k)) n)), some (.int (zI s + 1))] [] (sM mo G I J) Q := by
        intro hn
        rw [show zI s + 1 = zI (s + 1) from zIr_add 1 s]
        refine ih (s + 1) (by omega) (by omega) (fun s' a b => ?_)
        by_cases e : s' = s
        · rw [e]; exact hn
        · exact h s' a (by omega)
      have hb : hBit (hlds (I 4) (zI (M k)) n) (zI s) ↔ (s < n ∧ I 4 s = zI (M k)) := by
        rw [hb_bt _ _ (by omega), bt_hl _ _ n h12, decide_eq_true_iff]
      rw [lp_124_34, if_neg (by rw [zIl_le (c := 12) (by decide) (by omega)]; show ¬ 12 ≤ s; omega)]
      by_cases g1 : s < n ∧ I 4 s = zI (M k)
      · rw [if_neg (fun e => e (hb.mpr g1))]
        by_cases k0 : k = 0
        · rw [if_pos (by rw [k0]; rfl)]
          exact hQ (zI s) (Or.inr ⟨s, hts, by omega, ⟨g1.1, g1.2, fun e => absurd e (by omega)⟩, h, rfl⟩)
        · have hl := hL (k - 1) (by omega)
          rw [if_neg (by rw [zIr_eq (c := 0) (by decide) (by omega)]; exact k0), show zI k - 1 = zI (k - 1) from zIr_sub (c := 1) (by show 1 ≤ k; omega), zI_vp (by omega), zI_vp (by omega), zI_cn (by omega), zI_cn (by omega)]
          refine ⟨hk, by omega, ?_⟩
          have ge : vf_Ring_gains I (I 69 k) (I 70 (k - 1)) (zI s) ↔ ww (I 13) (M k) s < ww (I 13) (M k) (L (k - 1)) := by
            unfold vf_Ring_gains
            rw [hM, hl.1, wof_w hW hM6 hl.2, wof_w hW hM6 (by omega)]
            have a := ww_le hW (M k) (L (k - 1))
            have b := ww_le hW (M k) s
            rw [zI_le (by omega) (by omega)]
            omega
          by_cases g2 : ww (I 13) (M k) s < ww (I 13) (M k) (L (k - 1))
          · rw [if_neg (fun e => e (ge.mpr g2))]
            exact hQ (zI s) (Or.inr ⟨s, hts, by omega, ⟨g1.1, g1.2, fun _ => g2⟩, h, rfl⟩)
          · rw [if_pos (fun e => g2 (ge.mp e))]
            exact nxt (fun v => g2 (v.2.2 (by omega)))
      · rw [if_pos (fun e => g1 (hb.mp e))]
        exact nxt (fun v => g1 ⟨v.1, v.2.1⟩)
  rw [lp_124_0, if_neg (by rw [zIr_lt (c := 0) (by decide) (by omega)]; exact Nat.not_lt_zero _), if_pos (by rw [zIr_lt (c := 4) (by decide) (by omega)]; exact hk), zI_vp (by omega), zI_cn (by omega), hM]
  refine ⟨hk, ?_⟩
  rw [ct_landsHeld _ _ _ _ _ _ hn h12]
  simp only [tl_some]
  rw [lp_124_24, zI_vp (by omega), zI_cn (by omega), ht]
  exact ⟨hk, key (12 - t) t (by omega) (Nat.le_refl _) (fun s' a b => absurd b (by omega))⟩
theorem ct_123 {n N : Nat} {M : Nat → Nat} (hn : I 1 0 = zI n) (h12 : n ≤ 12) (hW : okW (I 13)) (hN : N ≤ 4) (hN2 : 2 ≤ N) (hM : ∀ j, j < N → I 69 j = zI (M j) ∧ M j < 6)
    (hQ0 : (∀ L, ¬ rgL n (I 4) (I 13) N M L) → ∀ r, Q (some (.int 0)) (sM mo G (rw2 I 70 r) J))
    (hQ1 : ∀ L r, (∀ j, j < N → r j = zI (L j)) → rgL n (I 4) (I 13) N M L → (∀ L', rgL n (I 4) (I 13) N M L' → ¬ lxL N L' L) → Q (some (.int 1)) (sM mo G (rw2 I 70 r) J)) :
    sm_wp X 123 0 [some (.ref 68), some (.int (zI N)), none, none] [] (sM mo G I J) Q := by
  have key := dfs (N := N) (b := 12) hN (by omega) (by decide) (rVl n (I 4) (I 13) M) (fun _ => 0) (rgL n (I 4) (I 13) N M) (fun L => ww (I 13) (M 0) (L 0) < ww (I 13) (M 0) (L (N - 1))) 100000
    (fun x hx k hk => ⟨by have := (hx.1 k hk).1; omega, (hx.1 k hk).1, (hx.1 k hk).2, fun k0 => hx.2.1 k hk k0⟩)
    (fun k L L' s h v => ⟨v.1, v.2.1, fun k0 => by rw [← h (k - 1) (by omega)]; exact v.2.2 k0⟩)
    (fun x _ k _ _ => Nat.zero_le _) (fun _ _ _ => rfl) (fun _ _ => Nat.zero_le _)
    (fun L hF x hx he => hF (by rw [← he 0 (by omega), ← he (N - 1) (by omega)]; exact hx.2.2))
    (fun k t st L => ∀ r : Nat → Int32, (∀ j, j < k → r j = zI (L j)) → r k + 1 = zI t → sm_wp X 123 11 [some (.ref 68), some (.int (zI N)), some (.int (zI k)), some (.int (zI st))] [] (sM mo G (rw2 I 70 r) J) Q)
    (∀ r, Q (some (.int 0)) (sM mo G (rw2 I 70 r) J)) (fun L => ∀ r : Nat → Int32, (∀ j, j < N → r j = zI (L j)) → Q (some (.int 1)) (sM mo G (rw2 I 70 r) J))
    hQ0 (fun L hF hV hmin r hr => hQ1 L r hr ⟨fun i hi => ⟨(hV i hi).2.1, (hV i hi).2.2.1⟩, fun i hi i0 => (hV i hi).2.2.2 i0, hF⟩ hmin)
    (by
      intro k t st L hk hst ht hL h1 h2 r hr hrt
      have k13 : rw2 I 70 r 13 = I 13 := rw2_n _ _ _ _ (by decide)
      have k4 : rw2 I 70 r 4 = I 4 := rw2_n _ _ _ _ (by decide)
      have k1 : rw2 I 70 r 1 = I 1 := rw2_n _ _ _ _ (by decide)
      have k69 : rw2 I 70 r 69 = I 69 := rw2_n _ _ _ _ (by decide)
      have hMk := hM k hk
      have hM0 := hM 0 (by omega)
      rw [lp_123_11, if_neg (by rw [zIl_le (c := 100000) (by decide) (by omega)]; show ¬ 100000 ≤ st; omega), if_neg (by rw [zIr_lt (c := 0) (by decide) (by omega)]; exact Nat.not_lt_zero _), if_neg (by rw [zIl_le (c := 4) (by decide) (by omega)]; show ¬ 4 ≤ k; omega)]
      refine ct_124 (I := rw2 I 70 r) (n := n) (M := M) (L := L) (by rw [k1]; exact hn) h12 (by rw [k13]; exact hW) (by omega) (by rw [k69]; exact hMk.1) hMk.2 (fun j hj => by rw [rw2_a]; exact ⟨hr j hj, (hL j hj).1⟩) (by rw [rw2_a]; exact hrt) ht ?_
      intro z hz
      rw [k4, k13] at hz
      simp only [tl_some]
      rw [lp_123_36, zI_vp (by omega), zI_cn (by omega), up2_rw, rw2_a, rw2_rw, rw2_a, va_ap, if_pos rfl, show zI st + 1 = zI (st + 1) from zIr_add 1 st]
      refine ⟨by omega, by omega, ?_⟩
      rcases hz with ⟨rfl, hz⟩ | ⟨s, s1, s2, s3, s4, rfl⟩
      · rw [if_neg (fun e => e rfl)]
        have q := h1 hz
        by_cases k0 : k = 0
        · rw [k0, lp_123_11]
          by_cases g : (100000 : Int32) ≤ zI (st + 1)
          · rw [if_pos g]; exact q.1 k0 _
          · rw [if_neg g, if_pos (by decide)]; exact q.1 k0 _
        · obtain ⟨k', rfl⟩ : ∃ k', k = k' + 1 := ⟨k - 1, by omega⟩
          rw [zI_p1]
          refine q.2 k' rfl _ (fun j hj => ?_) ?_
          · rw [va_ap, if_neg (by omega)]; exact hr j (by omega)
          · rw [va_ap, if_neg (by omega), hr k' (by omega)]; exact zIr_add 1 _
      · rw [if_pos (by rw [zI_m1 (by omega)]; exact id)]
        have q := h2 s s1 s2 s3 s4
        have rk : ∀ j, j < k + 1 → va_up r k (zI s) j = zI (va_up L k s j) := by
          intro j hj
          rw [va_ap, va_ap]
          by_cases e : j = k
          · rw [if_pos e, if_pos e]
          · rw [if_neg e, if_neg e]; exact hr j (by omega)
        have L12 : ∀ j, j < k + 1 → va_up L k s j < 12 := by
          intro j hj
          rw [va_ap]
          by_cases e : j = k
          · rw [if_pos e]; exact s2
          · rw [if_neg e]; exact (hL j (by omega)).1
        have ge : k + 1 = N → (vf_Ring_gains (rw2 I 70 (va_up r k (zI s))) (rw2 I 70 r 69 (Int32.toNatClampNeg 0)) (zI s) (va_up r k (zI s) (Int32.toNatClampNeg 0)) ↔ ww (I 13) (M 0) (va_up L k s 0) < ww (I 13) (M 0) (va_up L k s (N - 1))) := by
          intro hkN
          have z0 : Int32.toNatClampNeg 0 = 0 := by decide
          have eL : va_up L k s (N - 1) = s := by rw [va_ap, if_pos (by omega)]
          unfold vf_Ring_gains
          rw [rw2_n _ _ _ 13 (by decide), k69, z0, hM0.1, rk 0 (by omega), wof_w hW hM0.2 s2, wof_w hW hM0.2 (L12 0 (by omega)), eL]
          have a := ww_le hW (M 0) (va_up L k s 0)
          have b := ww_le hW (M 0) s
          rw [zI_le (by omega) (by omega)]
          omega
        by_cases g : k + 1 = N
        · rw [if_pos (by rw [show zI N - 1 = zI (N - 1) from zIr_sub (c := 1) (by show 1 ≤ N; omega), zI_le (by omega) (by omega)]; omega)]
          refine ⟨vp04, ?_⟩
          obtain ⟨q1, q2⟩ := q.2 g
          by_cases hF : ww (I 13) (M 0) (va_up L k s 0) < ww (I 13) (M 0) (va_up L k s (N - 1))
          · rw [if_neg (fun e => e ((ge g).mpr hF))]
            exact q2 hF _ (fun j hj => rk j (by omega))
          · rw [if_pos (fun e => hF ((ge g).mp e))]
            refine q1 hF _ (fun j hj => rk j (by omega)) ?_
            rw [va_ap, if_pos rfl]; exact zIr_add 1 _
        · rw [if_neg (by rw [show zI N - 1 = zI (N - 1) from zIr_sub (c := 1) (by show 1 ≤ N; omega), zI_le (by omega) (by omega)]; omega), show zI k + 1 = zI (k + 1) from zIr_add 1 k, if_neg (by rw [zIl_le (c := 4) (by decide) (by omega)]; show ¬ 4 ≤ k + 1; omega), zI_vp (by omega), zI_cn (by omega), up2_rw, rw2_a, rw2_rw]
          refine ⟨by omega, q.1 (by omega) _ (fun j hj => ?_) ?_⟩
          · rw [va_ap, if_neg (by omega)]; exact rk j hj
          · rw [va_ap, if_pos rfl]; decide)
  rw [lp_123_0]
  refine ⟨vp04, ?_⟩
  rw [show Int32.toNatClampNeg 0 = 0 from by decide, up2_rw]
  refine key 24505 0 0 0 (fun _ => 0) (by omega) (by omega) (fun j hj => absurd hj (Nat.not_lt_zero _)) (fun x hx hl => ?_) (by rw [bS_0]; decide) (by decide) _ (fun j hj => absurd hj (Nat.not_lt_zero _)) ?_
  · rcases hl with ⟨i, hi, -⟩ | ⟨-, h⟩
    · exact absurd hi (Nat.not_lt_zero _)
    · exact absurd h (Nat.not_lt_zero _)
  · rw [va_ap, if_pos rfl]; decide
def rgK (I : Nat → Nat → Int32) (r69 r70 : Nat → Int32) : Nat → Nat → Int32 := rw2 (rw2 I 69 r69) 70 r70
theorem rgK_o {I : Nat → Nat → Int32} {r69 r70 : Nat → Int32} {c : Nat} (h : c ≠ 69 ∧ c ≠ 70) : rgK I r69 r70 c = I c := by
  unfold rgK
  rw [rw2_n _ _ _ _ h.2, rw2_n _ _ _ _ h.1]
theorem rgK_69 {I : Nat → Nat → Int32} {r69 r70 : Nat → Int32} : rgK I r69 r70 69 = r69 := by
  unfold rgK
  rw [rw2_n _ _ _ _ (by decide), rw2_a]
theorem rgK_w {I : Nat → Nat → Int32} {r69 r70 q : Nat → Int32} : rw2 (rgK I r69 r70) 69 q = rgK I q r70 := by
  unfold rgK
  funext c
  by_cases h1 : c = 70
  · subst h1; rw [rw2_n _ _ _ _ (by decide), rw2_a, rw2_a]
  · rw [rw2_n _ _ _ _ h1]
    by_cases h2 : c = 69
    · subst h2; rw [rw2_a, rw2_a]
    · rw [rw2_n _ _ _ _ h2, rw2_n _ _ _ _ h1, rw2_n _ _ _ _ h2, rw2_n _ _ _ _ h2]
theorem rgK_l {I : Nat → Nat → Int32} {r69 r70 q : Nat → Int32} : rw2 (rgK I r69 r70) 70 q = rgK I r69 q := by
  unfold rgK
  rw [rw2_rw]
theorem ct_120 {n m N : Nat} {pr : Int32} (hn : I 1 0 = zI n) (h12 : n ≤ 12) (hm : I 1 1 = zI m) (h6 : m ≤ 6) (hpr : I 1 2 = pr) (hp : ∀ k, m ≤ k → bt pr k = false) (hW : okW (I 13)) (hN : N ≤ 4) (hN2 : 2 ≤ N)
    (hQ0 : rgN n (I 4) (I 13) pr N → ∀ r69 r70, Q (some (.int 0)) (sM mo G (rgK I r69 r70) J))
    (hQ1 : ∀ M L r69 r70, (∀ j, j < N → r69 j = zI (M j) ∧ r70 j = zI (L j)) → rgF n (I 4) (I 13) pr N M L → Q (some (.int 1)) (sM mo G (rgK I r69 r70) J)) :
    sm_wp X 120 0 [some (.ref 68), some (.int (zI N)), none, none] [] (sM mo G I J) Q := by
  have key := dfs (N := N) (b := 6) hN (by omega) (by decide) (rVm pr) (fun M => M 0 + 1) (fun M => rgM pr N M ∧ ∃ L, rgL n (I 4) (I 13) N M L) (fun M => ∃ L, rgL n (I 4) (I 13) N M L) 100000
    (fun x hx k hk => ⟨(hx.1.1 k hk).1, (hx.1.1 k hk).2, fun j hj => hx.1.2.2 k j hk hj, fun k0 => hx.1.2.1 k hk k0⟩)
    (fun k M M' s h v => ⟨v.1, fun j hj => by rw [← h j hj]; exact v.2.1 j hj, fun k0 => by rw [← h 0 k0]; exact v.2.2 k0⟩)
    (fun x hx k k0 hk => hx.1.2.1 k hk k0) (fun M M' h => by rw [h]) (fun M h => h)
    (fun M hF x hx he => hF (by
      obtain ⟨L, hL⟩ := hx.2
      refine ⟨L, fun i hi => ⟨(hL.1 i hi).1, by rw [← he i hi]; exact (hL.1 i hi).2⟩, fun i hi i0 => by rw [← he i hi]; exact hL.2.1 i hi i0, by rw [← he 0 (by omega)]; exact hL.2.2⟩))
    (fun k t st M => (0 < k → M 0 < t) → ∀ r69 r70 : Nat → Int32, (∀ j, j < k → r69 j = zI (M j)) → r69 k + 1 = zI t → sm_wp X 120 11 [some (.ref 68), some (.int (zI N)), some (.int (zI k)), some (.int (zI st))] [] (sM mo G (rgK I r69 r70) J) Q)
    (∀ r69 r70, Q (some (.int 0)) (sM mo G (rgK I r69 r70) J))
    (fun M => ∀ L r69 r70, (∀ j, j < N → r69 j = zI (M j) ∧ r70 j = zI (L j)) → rgL n (I 4) (I 13) N M L → (∀ L', rgL n (I 4) (I 13) N M L' → ¬ lxL N L' L) → Q (some (.int 1)) (sM mo G (rgK I r69 r70) J))
    (fun h => hQ0 (fun M L h1 h2 => h M ⟨h1, L, h2⟩))
    (fun M _ hV hmin L r69 r70 hr hL hLm => hQ1 M L r69 r70 hr ⟨⟨fun i hi => ⟨(hV i hi).1, (hV i hi).2.1⟩, fun i hi i0 => (hV i hi).2.2.2 i0, fun i j hi hj => (hV i hi).2.2.1 j hj⟩, hL, fun M' L' a b => hmin M' ⟨a, L', b⟩, hLm⟩)
    (by
      intro k t st M hk hst ht hM h1 h2 h0 r69 r70 hr hrt
      have k1 : rgK I r69 r70 1 = I 1 := rgK_o (by decide)
      rw [lp_120_11, if_neg (by rw [zIl_le (c := 100000) (by decide) (by omega)]; show ¬ 100000 ≤ st; omega), if_neg (by rw [zIr_lt (c := 0) (by decide) (by omega)]; exact Nat.not_lt_zero _), if_neg (by rw [zIl_le (c := 4) (by decide) (by omega)]; show ¬ 4 ≤ k; omega)]
      refine ct_121 (I := rgK I r69 r70) (m := m) (pr := pr) (M := M) (by rw [k1]; exact hm) h6 (by rw [k1]; exact hpr) hp (by omega) (fun j hj => by rw [rgK_69]; exact ⟨hr j hj, (hM j hj).1⟩) (by rw [rgK_69]; exact hrt) ht h0 ?_
      intro z hz
      simp only [tl_some]
      rw [lp_120_36, zI_vp (by omega), zI_cn (by omega), up2_rw, rgK_69, rgK_w, rgK_69, va_ap, if_pos rfl, show zI st + 1 = zI (st + 1) from zIr_add 1 st]
      refine ⟨by omega, by omega, ?_⟩
      rcases hz with ⟨rfl, hz⟩ | ⟨s, s1, s2, s3, s4, rfl⟩
      · rw [if_neg (fun e => e rfl)]
        have q := h1 hz
        by_cases k0 : k = 0
        · rw [k0, lp_120_11]
          by_cases g : (100000 : Int32) ≤ zI (st + 1)
          · rw [if_pos g]; exact q.1 k0 _ _
          · rw [if_neg g, if_pos (by decide)]; exact q.1 k0 _ _
        · obtain ⟨k', rfl⟩ : ∃ k', k = k' + 1 := ⟨k - 1, by omega⟩
          rw [zI_p1]
          refine q.2 k' rfl (fun k0' => ?_) _ _ (fun j hj => ?_) ?_
          · have := (hM k' (by omega)).2.2.2 k0'
            omega
          · rw [va_ap, if_neg (by omega)]; exact hr j (by omega)
          · rw [va_ap, if_neg (by omega), hr k' (by omega)]; exact zIr_add 1 _
      · rw [if_pos (by rw [zI_m1 (by omega)]; exact id)]
        have q := h2 s s1 s2 s3 s4
        have rk : ∀ j, j < k + 1 → va_up r69 k (zI s) j = zI (va_up M k s j) := by
          intro j hj
          rw [va_ap, va_ap]
          by_cases e : j = k
          · rw [if_pos e, if_pos e]
          · rw [if_neg e, if_neg e]; exact hr j (by omega)
        have M6 : ∀ j, j < k + 1 → va_up M k s j < 6 := by
          intro j hj
          rw [va_ap]
          by_cases e : j = k
          · rw [if_pos e]; exact s2
          · rw [if_neg e]; exact (hM j (by omega)).1
        by_cases g : k + 1 = N
        · rw [if_pos (by rw [show zI N - 1 = zI (N - 1) from zIr_sub (c := 1) (by show 1 ≤ N; omega), zI_le (by omega) (by omega)]; omega)]
          obtain ⟨q1, q2⟩ := q.2 g
          have e4 : rgK I (va_up r69 k (zI s)) r70 4 = I 4 := rgK_o (by decide)
          have e13 : rgK I (va_up r69 k (zI s)) r70 13 = I 13 := rgK_o (by decide)
          have e1 : rgK I (va_up r69 k (zI s)) r70 1 = I 1 := rgK_o (by decide)
          refine ct_123 (I := rgK I (va_up r69 k (zI s)) r70) (n := n) (N := N) (M := va_up M k s) (by rw [e1]; exact hn) h12 (by rw [e13]; exact hW) hN hN2 (fun j hj => by rw [rgK_69]; exact ⟨rk j (by omega), M6 j (by omega)⟩) ?_ ?_
          · intro hno r
            rw [e4, e13] at hno
            rw [rgK_l]
            simp only [tl_some]
            rw [lp_120_90, if_pos rfl, show zI st + 1 = zI (st + 1) from zIr_add 1 st]
            refine q1 (fun e => by
              obtain ⟨L, hL⟩ := e
              exact hno L hL) (fun k0 => ?_) _ _ (fun j hj => rk j (by omega)) ?_
            · rw [va_ap, if_neg (by omega)]
              have := h0 k0
              omega
            · rw [va_ap, if_pos rfl]; exact zIr_add 1 _
          · intro L r hr2 hL hLm
            rw [e4, e13] at hL hLm
            rw [rgK_l]
            simp only [tl_some]
            rw [lp_120_90, if_neg (by decide)]
            exact q2 ⟨L, hL⟩ L _ _ (fun j hj => ⟨rk j (by omega), hr2 j hj⟩) hL hLm
        · rw [if_neg (by rw [show zI N - 1 = zI (N - 1) from zIr_sub (c := 1) (by show 1 ≤ N; omega), zI_le (by omega) (by omega)]; omega), show zI k + 1 = zI (k + 1) from zIr_add 1 k, if_neg (by rw [zIl_le (c := 4) (by decide) (by omega)]; show ¬ 4 ≤ k + 1; omega), zI_vp (by omega), zI_cn (by omega), up2_rw, rgK_69, rgK_w, show Int32.toNatClampNeg 0 = 0 from by decide, rk 0 (by omega)]
          refine ⟨vp04, by omega, q.1 (by omega) (fun _ => by show va_up M k s 0 < va_up M k s 0 + 1; omega) _ _ (fun j hj => ?_) ?_⟩
          · rw [va_ap, if_neg (by omega)]; exact rk j hj
          · rw [va_ap, if_pos rfl]; exact zIr_add 1 _)
  rw [lp_120_0]
  refine ⟨vp04, ?_⟩
  rw [show Int32.toNatClampNeg 0 = 0 from by decide, up2_rw, show rw2 I 69 (va_up (I 69) 0 (-1)) = rgK I (va_up (I 69) 0 (-1)) (I 70) from by
    unfold rgK
    funext c
    by_cases h : c = 70
    · subst h; rw [rw2_a, rw2_n _ _ _ _ (by decide)]
    · rw [rw2_n _ _ _ _ h]]
  refine key 1813 0 0 0 (fun _ => 0) (by omega) (by omega) (fun j hj => absurd hj (Nat.not_lt_zero _)) (fun x hx hl => ?_) (by rw [bS_0]; decide) (by decide) (fun e => absurd e (Nat.lt_irrefl _)) _ _ (fun j hj => absurd hj (Nat.not_lt_zero _)) ?_
  · rcases hl with ⟨i, hi, -⟩ | ⟨-, h⟩
    · exact absurd hi (Nat.not_lt_zero _)
    · exact absurd h (Nat.not_lt_zero _)
  · rw [va_ap, if_pos rfl]; decide
/-- the ring is found, or there is none -/
theorem ct_119 {n m : Nat} {pr : Int32} (hn : I 1 0 = zI n) (h12 : n ≤ 12) (hm : I 1 1 = zI m) (h6 : m ≤ 6) (hpr : I 1 2 = pr) (hp : ∀ k, m ≤ k → bt pr k = false) (hW : okW (I 13))
    (hca : I 68 4 = I 1 4 → ∃ len M L, I 68 3 = zI len ∧ (∀ i, i < len → I 69 i = zI (M i) ∧ I 70 i = zI (L i)) ∧ rgR n (I 4) (I 13) pr len M L)
    (hQ : ∀ K len M L, (∀ c, c ≠ 68 → c ≠ 69 → c ≠ 70 → K c = I c) → K 68 4 = I 1 4 → K 68 3 = zI len → (∀ i, i < len → K 69 i = zI (M i) ∧ K 70 i = zI (L i)) → rgR n (I 4) (I 13) pr len M L → Q none (sM mo G K J)) :
    sm_wp X 119 0 [some (.ref 68), none] [] (sM mo G I J) Q := by
  rw [lp_119_0]
  by_cases c1 : I 68 4 = I 1 4
  · rw [if_neg (fun e => e c1)]
    obtain ⟨len, M, L, a, b, d⟩ := hca c1
    exact hQ I len M L (fun _ _ _ _ => rfl) c1 a b d
  · rw [if_pos c1]
    have key : ∀ d N, N + d = 5 → 2 ≤ N → (∀ N', 2 ≤ N' → N' < N → rgN n (I 4) (I 13) pr N') → ∀ K, (∀ c, c ≠ 68 → c ≠ 69 → c ≠ 70 → K c = I c) → K 68 4 = I 1 4 → K 68 3 = 0 → sm_wp X 119 33 [some (.ref 68), some (.int (zI N))] [] (sM mo G K J) Q := by
      intro d
      induction d with
      | zero =>
        intro N hN hN2 hno K f k4 k3
        rw [lp_119_33, if_pos (by rw [zIl_lt (c := 4) (by decide) (by omega)]; show 4 < N; omega)]
        exact hQ K 0 (fun _ => 0) (fun _ => 0) f k4 k3 (fun i hi => absurd hi (Nat.not_lt_zero _)) (Or.inl ⟨rfl, fun N' a b => hno N' a (by omega)⟩)
      | succ d ih =>
        intro N hN hN2 hno K f k4 k3
        have fo : ∀ c, c < 68 → K c = I c := fun c hc => f c (by omega) (by omega) (by omega)
        rw [lp_119_33, if_neg (by rw [zIl_lt (c := 4) (by decide) (by omega)]; show ¬ 4 < N; omega), if_neg (fun e => e k3)]
        refine ct_120 (I := K) (n := n) (m := m) (N := N) (pr := pr) (by rw [fo 1 (by decide)]; exact hn) h12 (by rw [fo 1 (by decide)]; exact hm) h6 (by rw [fo 1 (by decide)]; exact hpr) hp (by rw [fo 13 (by decide)]; exact hW) (by omega) hN2 ?_ ?_
        · intro hN0 r69 r70
          rw [fo 4 (by decide), fo 13 (by decide)] at hN0
          simp only [tl_some]
          rw [lp_119_50, if_pos rfl, show zI N + 1 = zI (N + 1) from zIr_add 1 N]
          refine ih (N + 1) (by omega) (by omega) (fun N' a b => ?_) _ (fun c a b d => by rw [rgK_o ⟨b, d⟩]; exact f c a b d) (by rw [rgK_o (by decide)]; exact k4) (by rw [rgK_o (by decide)]; exact k3)
          by_cases e : N' = N
          · rw [e]; exact hN0
          · exact hno N' a (by omega)
        · intro M L r69 r70 hr hF
          rw [fo 4 (by decide), fo 13 (by decide)] at hF
          simp only [tl_some]
          rw [lp_119_50, if_neg (by decide), show zI N + 1 = zI (N + 1) from zIr_add 1 N, lp_119_33]
          have fin : Q none (sM mo G (up2 (rgK K r69 r70) 68 3 (zI N)) J) := by
            refine hQ _ N M L (fun c a b d => by rw [up2_rn _ _ _ _ _ a, rgK_o ⟨b, d⟩]; exact f c a b d) ?_ ?_ (fun i hi => ?_) (Or.inr ⟨hN2, by omega, hno, hF⟩)
            · rw [up2_ra, va_ap, if_neg (by decide), rgK_o (by decide)]; exact k4
            · rw [up2_ra, va_ap, if_pos rfl]
            · rw [up2_rn _ _ _ _ _ (by decide), up2_rn _ _ _ _ _ (by decide), rgK_69, show rgK K r69 r70 70 = r70 from by unfold rgK; rw [rw2_a]]
              exact hr i hi
          by_cases g : (4 : Int32) < zI (N + 1)
          · rw [if_pos g]; exact fin
          · rw [if_neg g, if_pos (by rw [up2_ra, va_ap, if_pos rfl, zIr_eq (c := 0) (by decide) (by omega)]; show ¬ N = 0; omega)]
            exact fin
    refine key 3 2 (by omega) (by omega) (fun N' a b => absurd b (by omega)) _ (fun c a b d => by rw [up2_rn _ _ _ _ _ a, up2_rn _ _ _ _ _ a]) ?_ ?_
    · rw [up2_ra, va_ap, if_neg (by decide), up2_ra, va_ap, if_pos rfl]
    · rw [up2_ra, va_ap, if_pos rfl]
end Y1
end
section
/-! The reference's ring. -/
theorem dg_q {c : Nat → Nat} {K v k : Nat} (hk : k < K) : v / rp c K (k + 1) = v / rp c K k * c k + dg c K v k := by
  have e := Nat.div_add_mod (v / rp c K (k + 1)) (c k)
  rw [Nat.div_div_eq_div_mul, ← rp_s c hk, Nat.mul_comm] at e
  exact e.symm
theorem dg_lx {c : Nat → Nat} {K u v : Nat} (hu : u < rp c K 0) (hv : v < rp c K 0) (h : lxL K (dg c K u) (dg c K v)) : u < v := by
  obtain ⟨i, hi, h1, h2⟩ := h
  have e : ∀ k, k ≤ i → u / rp c K k = v / rp c K k := by
    intro k
    induction k with
    | zero => intro _; rw [Nat.div_eq_of_lt hu, Nat.div_eq_of_lt hv]
    | succ k ih =>
      intro hk
      rw [dg_q (by omega), dg_q (by omega), ih (by omega), h1 k (by omega)]
  have q : u / rp c K (i + 1) < v / rp c K (i + 1) := by
    rw [dg_q hi, dg_q hi, e i (Nat.le_refl _)]
    omega
  rcases Nat.lt_or_ge u v with g | g
  · exact g
  · have := Nat.div_le_div_right (c := rp c K (i + 1)) g
    omega
theorem dg_ex {c : Nat → Nat} {K : Nat} {x : Nat → Nat} (hx : ∀ i, i < K → x i < c i) : ∀ d k, k + d = K → ∃ T, T < rp c K k ∧ ∀ i, k ≤ i → i < K → dg c K T i = x i := by
  have hc : ∀ j, j < K → 0 < c j := fun j hj => by have := hx j hj; omega
  intro d
  induction d with
  | zero =>
    intro k hk
    exact ⟨0, rp_pos hc 0 k hk, fun i a b => absurd b (by omega)⟩
  | succ d ih =>
    intro k hk
    obtain ⟨T, hT, hd⟩ := ih (k + 1) (by omega)
    have kK : k < K := by omega
    have xk := hx k kK
    have pk := rp_pos hc (K - (k + 1)) (k + 1) (by omega)
    refine ⟨T + x k * rp c K (k + 1), ?_, fun i hi hiK => ?_⟩
    · rw [rp_s c kK, Nat.mul_comm (rp c K (k + 1))]
      have : (x k + 1) * rp c K (k + 1) ≤ c k * rp c K (k + 1) := Nat.mul_le_mul_right _ xk
      rw [Nat.add_mul, Nat.one_mul] at this
      omega
    · by_cases e : i = k
      · subst e
        unfold dg
        rw [Nat.add_mul_div_right _ _ pk, Nat.div_eq_of_lt hT, Nat.zero_add, Nat.mod_eq_of_lt xk]
      · have d1 := rp_dvd c (K := K) (i - (k + 1)) (k + 1) (by omega)
        rw [show k + 1 + (i - (k + 1)) = i from by omega] at d1
        obtain ⟨t, ht⟩ := d1
        rw [← hd i (by omega) hiK]
        unfold dg
        rw [ht, rp_s c hiK, show x k * (rp c K (i + 1) * c i * t) = (x k * t * c i) * rp c K (i + 1) from by
          rw [Nat.mul_comm (rp c K (i + 1)) (c i), Nat.mul_assoc, Nat.mul_comm (rp c K (i + 1)) t, ← Nat.mul_assoc, ← Nat.mul_assoc, Nat.mul_assoc (x k) (c i) t, Nat.mul_comm (c i) t, ← Nat.mul_assoc],
          Nat.add_mul_div_right _ _ (rp_pos hc (K - (i + 1)) (i + 1) (by omega)), Nat.add_mul_mod_self_right]
theorem rgM_c {pr : Int32} {N : Nat} {M M' : Nat → Nat} (h : ∀ i, i < N → M i = M' i) (k : rgM pr N M) : rgM pr N M' := by
  obtain ⟨k1, k2, k3⟩ := k
  refine ⟨fun i hi => by rw [← h i hi]; exact k1 i hi, fun i hi i0 => by rw [← h i hi, ← h 0 (by omega)]; exact k2 i hi i0, fun i j hi hj => by rw [← h i hi, ← h j (by omega)]; exact k3 i j hi hj⟩
theorem rgL_c {n : Nat} {r4 W : Nat → Int32} {N : Nat} (hN : 1 ≤ N) {M M' L L' : Nat → Nat} (h : ∀ i, i < N → M i = M' i) (g : ∀ i, i < N → L i = L' i) (k : rgL n r4 W N M L) : rgL n r4 W N M' L' := by
  obtain ⟨k1, k2, k3⟩ := k
  refine ⟨fun i hi => by rw [← h i hi, ← g i hi]; exact k1 i hi, fun i hi i0 => by rw [← h i hi, ← g i hi, ← g (i - 1) (by omega)]; exact k2 i hi i0, ?_⟩
  rw [← h 0 (by omega), ← g 0 (by omega), ← g (N - 1) (by omega)]
  exact k3
theorem lx_c {N : Nat} {x x' y : Nat → Nat} (h : ∀ i, i < N → x i = x' i) (k : lxL N x y) : lxL N x' y := by
  obtain ⟨i, hi, h1, h2⟩ := k
  exact ⟨i, hi, fun j hj => by rw [← h j (by omega)]; exact h1 j hj, by rw [← h i hi]; exact h2⟩
abbrev cst (b : Nat) : Nat → Nat := fun _ => b
theorem rp_cst (b N : Nat) : rp (cst b) N 0 = b ^ N := by
  rw [← pF_K]
  have : ∀ k, pF (cst b) k = b ^ k := by
    intro k
    induction k with
    | zero => rfl
    | succ k ih => rw [pF_s, ih, Nat.pow_succ]
  exact this N
section Y2
variable {X : (Nat → Int32) × Nat} {mo : Bool} {G : Nat × Nat} {I : Nat → Nat → Int32} {J : Nat → Nat → Int64} {Q : Option Value → sm_M → Prop}
theorem ct_289 {m N : Nat} {pr : Int32} {M : Nat → Nat} (hm : I 81 10 = zI m) (h6 : m ≤ 6) (hpr : I 81 15 = pr) (hp : ∀ k, m ≤ k → bt pr k = false) (hN : N ≤ 4) (hM : ∀ j, j < N → I 133 j = zI (M j) ∧ M j < 6)
    (hQ : ∀ z : Int32, (z = 1 ∧ rgM pr N M ∨ z = 0 ∧ ¬ rgM pr N M) → Q (some (.int z)) (sM mo G I J)) : sm_wp X 289 0 [some (.ref 81), some (.int (zI N)), none, none] [] (sM mo G I J) Q := by
  have key : ∀ d i, i + d = N → rgM pr i M → sm_wp X 289 2 [some (.ref 81), some (.int (zI N)), some (.int (zI i)), none] [] (sM mo G I J) Q := by
    intro d
    induction d with
    | zero =>
      intro i hi h
      rw [lp_289_2, if_pos (by rw [zI_le (by omega) (by omega)]; omega)]
      have : i = N := by omega
      subst this
      exact hQ 1 (Or.inl ⟨rfl, h⟩)
    | succ d ih =>
      intro i hi h
      have Mi := hM i (by omega)
      have ps : vf_Model_isPresent I (I 133 i) ↔ bt pr (M i) = true := by
        rw [Mi.1, mPres_vp hm h6, zI_sIn (by omega) (by omega), zI_cn (by omega), hpr]
        refine ⟨fun e => e.2, fun e => ⟨?_, e⟩⟩
        rcases Nat.lt_or_ge (M i) m with g | g
        · exact g
        · rw [hp _ g] at e; cases e
      have inner : bt pr (M i) = true → (0 < i → M 0 < M i) → ∀ d j, j + d = i → (∀ j', j' < j → ¬ M i = M j') → sm_wp X 289 43 [some (.ref 81), some (.int (zI N)), some (.int (zI i)), some (.int (zI j))] [] (sM mo G I J) Q := by
        intro p1 p2 d
        induction d with
        | zero =>
          intro j hj hh
          rw [lp_289_43, if_pos (by rw [zI_le (by omega) (by omega)]; omega), show zI i + 1 = zI (i + 1) from zIr_add 1 i]
          refine ih (i + 1) (by omega) ⟨fun i' hi' => ?_, fun i' hi' i0 => ?_, fun i' j' hi' hj' => ?_⟩
          · by_cases e : i' = i
            · rw [e]; exact ⟨Mi.2, p1⟩
            · exact h.1 i' (by omega)
          · by_cases e : i' = i
            · rw [e] at i0 ⊢; exact p2 i0
            · exact h.2.1 i' (by omega) i0
          · by_cases e : i' = i
            · rw [e] at hj' ⊢; exact hh j' (by omega)
            · exact h.2.2 i' j' (by omega) hj'
        | succ d ih2 =>
          intro j hj hh
          have Mj := hM j (by omega)
          rw [lp_289_43, if_neg (by rw [zI_le (by omega) (by omega)]; omega), zI_vp (by omega), zI_vp (by omega), zI_cn (by omega), zI_cn (by omega), Mi.1, Mj.1, show zI j + 1 = zI (j + 1) from zIr_add 1 j]
          refine ⟨by omega, by omega, ?_⟩
          by_cases g : M i = M j
          · rw [if_neg (fun e => e (by rw [g]))]
            exact hQ 0 (Or.inr ⟨rfl, fun e => e.2.2 i j (by omega) (by omega) g⟩)
          · rw [if_pos (by rw [zI_eq (by omega) (by omega)]; exact g)]
            refine ih2 (j + 1) (by omega) (fun j' hj' => ?_)
            by_cases e : j' = j
            · rw [e]; exact g
            · exact hh j' (by omega)
      rw [lp_289_2, if_neg (by rw [zI_le (by omega) (by omega)]; omega), zI_vp (by omega), zI_cn (by omega)]
      refine ⟨by omega, ?_⟩
      by_cases g1 : bt pr (M i) = true
      · rw [if_neg (fun e => e (ps.mpr g1))]
        by_cases i0 : i = 0
        · rw [if_pos (by rw [i0]; decide)]
          exact inner g1 (fun e => absurd e (by omega)) i 0 (by omega) (fun j' hj' => absurd hj' (Nat.not_lt_zero _))
        · have M0 := hM 0 (by omega)
          rw [if_neg (by rw [zIr_le (c := 0) (by decide) (by omega)]; show ¬ i ≤ 0; omega), show Int32.toNatClampNeg 0 = 0 from by decide, M0.1, Mi.1]
          refine ⟨vp04, ?_⟩
          by_cases g2 : M 0 < M i
          · rw [if_pos (by rw [zI_lt (by omega) (by omega)]; exact g2)]
            exact inner g1 (fun _ => g2) i 0 (by omega) (fun j' hj' => absurd hj' (Nat.not_lt_zero _))
          · rw [if_neg (by rw [zI_lt (by omega) (by omega)]; exact g2)]
            exact hQ 0 (Or.inr ⟨rfl, fun e => g2 (e.2.1 i (by omega) (by omega))⟩)
      · rw [if_pos (fun e => g1 (ps.mp e))]
        exact hQ 0 (Or.inr ⟨rfl, fun e => g1 (e.1 i (by omega)).2⟩)
  rw [lp_289_0]
  exact key N 0 (by omega) ⟨fun i hi => absurd hi (Nat.not_lt_zero _), fun i hi => absurd hi (Nat.not_lt_zero _), fun i j hi => absurd hi (Nat.not_lt_zero _)⟩
theorem ct_290 {n N : Nat} {M L : Nat → Nat} (h12 : n ≤ 12) (hW : okW (I 91)) (hN : N ≤ 4) (hN2 : 1 ≤ N) (hM : ∀ j, j < N → I 133 j = zI (M j) ∧ M j < 6) (hL : ∀ j, j < N → I 134 j = zI (L j) ∧ L j < n)
    (hQ : ∀ z : Int32, (z = 1 ∧ rgL n (I 85) (I 91) N M L ∨ z = 0 ∧ ¬ rgL n (I 85) (I 91) N M L) → Q (some (.int z)) (sM mo G I J)) : sm_wp X 290 0 [some (.ref 81), some (.int (zI N)), none, none, none] [] (sM mo G I J) Q := by
  have wz : ∀ s l, I 91 (12 * s + l) = zI (ww (I 91) s l) := by
    intro s l
    obtain ⟨w, hw, e⟩ := hW (12 * s + l)
    unfold ww
    rw [e, zI_cn (by omega)]
  have key : ∀ d i, i + d = N → (∀ j, j < i → I 85 (L j) = zI (M j) ∧ (0 < j → ww (I 91) (M j) (L j) < ww (I 91) (M j) (L (j - 1))) ∧ (j = 0 → ww (I 91) (M 0) (L 0) < ww (I 91) (M 0) (L (N - 1)))) → sm_wp X 290 2 [some (.ref 81), some (.int (zI N)), some (.int (zI i)), none, none] [] (sM mo G I J) Q := by
    intro d
    induction d with
    | zero =>
      intro i hi h
      have : i = N := by omega
      subst this
      rw [lp_290_2, if_pos (by rw [zI_le (by omega) (by omega)]; exact Nat.le_refl _)]
      exact hQ 1 (Or.inl ⟨rfl, fun j hj => ⟨(hL j hj).2, (h j hj).1⟩, fun j hj j0 => (h j hj).2.1 j0, (h 0 (by omega)).2.2 rfl⟩)
    | succ d ih =>
      intro i hi h
      have Mi := hM i (by omega)
      have Li := hL i (by omega)
      obtain ⟨p, hp, ep⟩ : ∃ p, p < N ∧ (i + N - 1) % N = p ∧ (0 < i → p = i - 1) ∧ (i = 0 → p = N - 1) := by
        by_cases i0 : i = 0
        · subst i0
          exact ⟨N - 1, by omega, by rw [Nat.mod_eq_of_lt (by omega)]; omega, fun e => absurd e (by omega), fun _ => rfl⟩
        · refine ⟨i - 1, by omega, ?_, fun _ => rfl, fun e => absurd e i0⟩
          rw [show i + N - 1 = (i - 1) + N from by omega, Nat.add_mod_right, Nat.mod_eq_of_lt (by omega)]
      have Lp := hL p hp
      have a := ww_le hW (M i) (L i)
      have b := ww_le hW (M i) (L p)
      rw [lp_290_2, if_neg (by rw [zI_le (by omega) (by omega)]; omega), zI_vp (by omega), zI_cn (by omega), zI_add, show zI (i + N) - 1 = zI (i + N - 1) from zIr_sub (c := 1) (by show 1 ≤ i + N; omega), zI_rem (by omega) (by omega), ep.1, zI_vp (by omega), zI_cn (by omega), Li.1, Mi.1, Lp.1, zI_vp (by omega), zI_cn (by omega), show (12 : Int32) * zI (M i) = zI (12 * M i) from zIl_mul 12 _, zI_add, zI_add, zI_vp (by omega), zI_vp (by omega), zI_cn (by omega), zI_cn (by omega), wz, wz, show zI i + 1 = zI (i + 1) from zIr_add 1 i]
      refine ⟨by omega, by rw [zIr_eq (c := 0) (by decide) (by omega)]; show ¬ N = 0; omega, by omega, by omega, ?_⟩
      by_cases g1 : I 85 (L i) = zI (M i)
      · rw [if_neg (fun e => e g1)]
        refine ⟨by omega, by omega, ?_⟩
        by_cases g2 : ww (I 91) (M i) (L i) < ww (I 91) (M i) (L p)
        · rw [if_pos (by rw [zI_lt (by omega) (by omega)]; exact g2)]
          refine ih (i + 1) (by omega) (fun j hj => ?_)
          by_cases e : j = i
          · subst e
            refine ⟨g1, fun j0 => by rw [← ep.2.1 j0]; exact g2, fun j0 => ?_⟩
            rw [← ep.2.2 j0]
            rw [j0] at g2
            exact g2
          · exact h j (by omega)
        · rw [if_neg (by rw [zI_lt (by omega) (by omega)]; exact g2)]
          refine hQ 0 (Or.inr ⟨rfl, fun e => g2 ?_⟩)
          by_cases i0 : i = 0
          · rw [ep.2.2 i0, i0]; exact e.2.2
          · rw [ep.2.1 (by omega)]; exact e.2.1 i (by omega) (by omega)
      · rw [if_pos g1]
        exact hQ 0 (Or.inr ⟨rfl, fun e => g1 (e.1 i (by omega)).2⟩)
  rw [lp_290_0]
  exact key N 0 (by omega) (fun j hj => absurd hj (Nat.not_lt_zero _))
def mgK (I : Nat → Nat → Int32) (r133 r134 : Nat → Int32) : Nat → Nat → Int32 := rw2 (rw2 I 133 r133) 134 r134
theorem mgK_o {r133 r134 : Nat → Int32} {c : Nat} (h : c ≠ 133 ∧ c ≠ 134) : mgK I r133 r134 c = I c := by
  unfold mgK
  rw [rw2_n _ _ _ _ h.2, rw2_n _ _ _ _ h.1]
theorem mgK_3 {r133 r134 : Nat → Int32} : mgK I r133 r134 133 = r133 := by
  unfold mgK
  rw [rw2_n _ _ _ _ (by decide), rw2_a]
theorem mgK_4 {r133 r134 : Nat → Int32} : mgK I r133 r134 134 = r134 := by
  unfold mgK
  rw [rw2_a]
theorem mgK_w {r133 r134 q : Nat → Int32} : rw2 (mgK I r133 r134) 133 q = mgK I q r134 := by
  unfold mgK
  funext c
  by_cases h1 : c = 134
  · subst h1; rw [rw2_n _ _ _ _ (by decide), rw2_a, rw2_a]
  · rw [rw2_n _ _ _ _ h1]
    by_cases h2 : c = 133
    · subst h2; rw [rw2_a, rw2_a]
    · rw [rw2_n _ _ _ _ h2, rw2_n _ _ _ _ h1, rw2_n _ _ _ _ h2, rw2_n _ _ _ _ h2]
theorem mgK_l {r133 r134 q : Nat → Int32} : rw2 (mgK I r133 r134) 134 q = mgK I r133 q := by
  unfold mgK
  rw [rw2_rw]
theorem ct_288 {n m N : Nat} {pr : Int32} (hn : I 81 3 = zI n) (h12 : n ≤ 12) (hm : I 81 10 = zI m) (h6 : m ≤ 6) (hpr : I 81 15 = pr) (hp : ∀ k, m ≤ k → bt pr k = false) (hW : okW (I 91)) (hN : N ≤ 4) (hN2 : 2 ≤ N)
    (hQ0 : rgN n (I 85) (I 91) pr N → ∀ r q, Q (some (.int 0)) (sM mo G (mgK I r q) J))
    (hQ1 : ∀ M L r q, (∀ j, j < N → r j = zI (M j) ∧ q j = zI (L j)) → rgF n (I 85) (I 91) pr N M L → Q (some (.int 1)) (sM mo G (mgK I r q) J)) :
    sm_wp X 288 0 [some (.ref 81), some (.int (zI N)), none, none, none, none, none, none, none] [] (sM mo G I J) Q := by
  have c6 : rp (cst 6) N 0 ≤ 1296 := by rw [rp_cst]; exact Nat.le_trans (Nat.pow_le_pow_right (by decide) hN) (by decide)
  have cn : rp (cst n) N 0 ≤ 20736 := by rw [rp_cst]; exact Nat.le_trans (Nat.pow_le_pow_left h12 N) (Nat.le_trans (Nat.pow_le_pow_right (by decide) hN) (by decide))
  have h6p : ∀ j, j < N → 0 < cst 6 j := fun _ _ => by show 0 < 6; decide
  -- no solution of a number
  have noS : ∀ v, (∀ u, u < v → u < rp (cst 6) N 0 → rgM pr N (dg (cst 6) N u) → ∀ w, w < rp (cst n) N 0 → ¬ rgL n (I 85) (I 91) N (dg (cst 6) N u) (dg (cst n) N w)) → ∀ M' L', rgM pr N M' → rgL n (I 85) (I 91) N M' L' → ∃ u, u < rp (cst 6) N 0 ∧ (∀ i, i < N → dg (cst 6) N u i = M' i) ∧ ¬ u < v := by
    intro v h M' L' hM' hL'
    obtain ⟨u, hu, eu⟩ := dg_ex (c := cst 6) (K := N) (x := M') (fun i hi => (hM'.1 i hi).1) N 0 (by omega)
    obtain ⟨w, hw, ew⟩ := dg_ex (c := cst n) (K := N) (x := L') (fun i hi => (hL'.1 i hi).1) N 0 (by omega)
    refine ⟨u, hu, fun i hi => eu i (Nat.zero_le _) hi, fun g => h u g hu (rgM_c (fun i hi => (eu i (Nat.zero_le _) hi).symm) hM') w hw (rgL_c (by omega) (fun i hi => (eu i (Nat.zero_le _) hi).symm) (fun i hi => (ew i (Nat.zero_le _) hi).symm) hL')⟩
  -- the rows of lands
  have rows : ∀ v, v < rp (cst 6) N 0 → rgM pr N (dg (cst 6) N v) → (∀ u, u < v → u < rp (cst 6) N 0 → rgM pr N (dg (cst 6) N u) → ∀ w, w < rp (cst n) N 0 → ¬ rgL n (I 85) (I 91) N (dg (cst 6) N u) (dg (cst n) N w)) →
      ((∀ w, w < rp (cst n) N 0 → ¬ rgL n (I 85) (I 91) N (dg (cst 6) N v) (dg (cst n) N w)) → ∀ r q, sm_wp X 288 34 [some (.ref 81), some (.int (zI N)), some (.int (zI (rp (cst 6) N 0))), some (.int (zI (rp (cst n) N 0))), some (.int (zI (v + 1))), none, none, none, none] [] (sM mo G (mgK I r q) J) Q) →
      ∀ d w, w + d = rp (cst n) N 0 → (∀ w', w' < w → ¬ rgL n (I 85) (I 91) N (dg (cst 6) N v) (dg (cst n) N w')) → ∀ r q : Nat → Int32, (∀ j, j < N → r j = zI (dg (cst 6) N v j)) → sm_wp X 288 93 [some (.ref 81), some (.int (zI N)), some (.int (zI (rp (cst 6) N 0))), some (.int (zI (rp (cst n) N 0))), some (.int (zI v)), none, some (.int (zI w)), none, none] [] (sM mo G (mgK I r q) J) Q := by
    intro v hv hMv hb hnx d
    induction d with
    | zero =>
      intro w hw h r q hr
      rw [lp_288_93, if_pos (by rw [zI_le (by omega) (by omega)]; omega), show zI v + 1 = zI (v + 1) from zIr_add 1 v]
      exact hnx (fun w' hw' => h w' (by omega)) r q
    | succ d ih =>
      intro w hw h r q hr
      have n0 : 0 < n := by
        rcases Nat.eq_zero_or_pos n with e | e
        · subst e
          have : rp (cst 0) N 0 = 0 := by rw [rp_cst]; exact Nat.zero_pow (by omega)
          omega
        · exact e
      have hnp : ∀ j, j < N → 0 < cst n j := fun _ _ => n0
      rw [lp_288_93, if_neg (by rw [zI_le (by omega) (by omega)]; omega)]
      have dig : ∀ k, k ≤ N → ∀ q : Nat → Int32, (∀ j, k ≤ j → j < N → q j = zI (dg (cst n) N w j)) → sm_wp X 288 108 [some (.ref 81), some (.int (zI N)), some (.int (zI (rp (cst 6) N 0))), some (.int (zI (rp (cst n) N 0))), some (.int (zI v)), none, some (.int (zI w)), some (.int (zI (w / rp (cst n) N k))), some (.int (zI k + (-1)))] [] (sM mo G (mgK I r q) J) Q := by
        intro k
        induction k with
        | zero =>
          intro _ q hq
          rw [lp_288_108, if_pos (by decide)]
          have e85 : mgK I r q 85 = I 85 := mgK_o (by decide)
          have e91 : mgK I r q 91 = I 91 := mgK_o (by decide)
          refine ct_290 (I := mgK I r q) (n := n) (N := N) (M := dg (cst 6) N v) (L := dg (cst n) N w) h12 (by rw [e91]; exact hW) hN (by omega) (fun j hj => by rw [mgK_3]; exact ⟨hr j hj, dg_lt (c := cst 6) v (h6p j hj)⟩) (fun j hj => by rw [mgK_4]; exact ⟨hq j (Nat.zero_le _) hj, dg_lt (c := cst n) w (hnp j hj)⟩) ?_
          intro z hz
          rw [e85, e91] at hz
          simp only [tl_some]
          rw [lp_288_147]
          rcases hz with ⟨rfl, hz⟩ | ⟨rfl, hz⟩
          · rw [if_neg (by decide)]
            refine hQ1 (dg (cst 6) N v) (dg (cst n) N w) r q (fun j hj => ⟨hr j hj, hq j (Nat.zero_le _) hj⟩) ⟨hMv, hz, fun M' L' hM' hL' hlx => ?_, fun L' hL' hlx => ?_⟩
            · obtain ⟨u, hu, eu, hnu⟩ := noS v hb M' L' hM' hL'
              exact hnu (dg_lx hu hv (lx_c (fun i hi => (eu i hi).symm) hlx))
            · obtain ⟨w', hw', ew'⟩ := dg_ex (c := cst n) (K := N) (x := L') (fun i hi => (hL'.1 i hi).1) N 0 (by omega)
              have lt := dg_lx hw' (show w < rp (cst n) N 0 by omega) (lx_c (fun i hi => (ew' i (Nat.zero_le _) hi).symm) hlx)
              exact h w' lt (rgL_c (by omega) (fun _ _ => rfl) (fun i hi => (ew' i (Nat.zero_le _) hi).symm) hL')
          · rw [if_pos rfl, show zI w + 1 = zI (w + 1) from zIr_add 1 w]
            refine ih (w + 1) (by omega) (fun w' hw' => ?_) r q hr
            by_cases e : w' = w
            · rw [e]; exact hz
            · exact h w' (by omega)
        | succ k ihk =>
          intro hk q hq
          have wb : w / rp (cst n) N (k + 1) ≤ w := Nat.div_le_self _ _
          have kN : k < N := by omega
          have e81 : mgK I r q 81 = I 81 := mgK_o (by decide)
          rw [zI_p1, lp_288_108, if_neg (by rw [zIr_lt (c := 0) (by decide) (by omega)]; exact Nat.not_lt_zero _), e81, hn, zI_vp (by omega), zI_cn (by omega), zI_rem (by omega) (by omega), zI_div (by omega) (by omega), Nat.div_div_eq_div_mul, show rp (cst n) N (k + 1) * n = rp (cst n) N k from (rp_s (cst n) kN).symm, show w / rp (cst n) N (k + 1) % n = dg (cst n) N w k from rfl, up2_rw, mgK_4, mgK_l]
          refine ⟨by rw [zIr_eq (c := 0) (by decide) (by omega)]; show ¬ n = 0; omega, by omega, ihk (by omega) _ (fun j h1 h2 => ?_)⟩
          rw [va_ap]
          by_cases e : j = k
          · subst e; rw [if_pos rfl]
          · rw [if_neg e]; exact hq j (by omega) h2
      have s1 : zI N - 1 = zI N + (-1) := Int32.sub_eq_add_neg _ _
      rw [s1]
      have q0 := dig N (Nat.le_refl _) q (fun j h1 h2 => absurd h2 (by omega))
      rw [rp_K, Nat.div_one] at q0
      exact q0
  have codes : ∀ d v, v + d = rp (cst 6) N 0 → (∀ u, u < v → u < rp (cst 6) N 0 → rgM pr N (dg (cst 6) N u) → ∀ w, w < rp (cst n) N 0 → ¬ rgL n (I 85) (I 91) N (dg (cst 6) N u) (dg (cst n) N w)) → ∀ r q, sm_wp X 288 34 [some (.ref 81), some (.int (zI N)), some (.int (zI (rp (cst 6) N 0))), some (.int (zI (rp (cst n) N 0))), some (.int (zI v)), none, none, none, none] [] (sM mo G (mgK I r q) J) Q := by
    intro d
    induction d with
    | zero =>
      intro v hv h r q
      rw [lp_288_34, if_pos (by rw [zI_le (by omega) (by omega)]; omega)]
      refine hQ0 (fun M' L' hM' hL' => ?_) r q
      obtain ⟨u, hu, -, hnu⟩ := noS v h M' L' hM' hL'
      exact hnu (by omega)
    | succ d ih =>
      intro v hv h r q
      have nxt : (rgM pr N (dg (cst 6) N v) → ∀ w, w < rp (cst n) N 0 → ¬ rgL n (I 85) (I 91) N (dg (cst 6) N v) (dg (cst n) N w)) → ∀ r q, sm_wp X 288 34 [some (.ref 81), some (.int (zI N)), some (.int (zI (rp (cst 6) N 0))), some (.int (zI (rp (cst n) N 0))), some (.int (zI (v + 1))), none, none, none, none] [] (sM mo G (mgK I r q) J) Q := by
        intro hno r q
        refine ih (v + 1) (by omega) (fun u hu hu2 => ?_) r q
        by_cases e : u = v
        · rw [e]; exact hno
        · exact h u (by omega) hu2
      rw [lp_288_34, if_neg (by rw [zI_le (by omega) (by omega)]; omega)]
      have dig : ∀ k, k ≤ N → ∀ r : Nat → Int32, (∀ j, k ≤ j → j < N → r j = zI (dg (cst 6) N v j)) → sm_wp X 288 49 [some (.ref 81), some (.int (zI N)), some (.int (zI (rp (cst 6) N 0))), some (.int (zI (rp (cst n) N 0))), some (.int (zI v)), some (.int (zI (v / rp (cst 6) N k))), some (.int (zI k + (-1))), none, none] [] (sM mo G (mgK I r q) J) Q := by
        intro k
        induction k with
        | zero =>
          intro _ r hr
          have e81 : mgK I r q 81 = I 81 := mgK_o (by decide)
          rw [lp_288_49, if_pos (by decide)]
          refine ct_289 (I := mgK I r q) (m := m) (N := N) (pr := pr) (M := dg (cst 6) N v) (by rw [e81]; exact hm) h6 (by rw [e81]; exact hpr) hp hN (fun j hj => by rw [mgK_3]; exact ⟨hr j (Nat.zero_le _) hj, dg_lt (c := cst 6) v (h6p j hj)⟩) ?_
          intro z hz
          simp only [tl_some]
          rw [lp_288_84]
          rcases hz with ⟨rfl, hz⟩ | ⟨rfl, hz⟩
          · rw [if_pos (by decide)]
            exact rows v (by omega) hz h (fun hno => nxt (fun _ => hno)) (rp (cst n) N 0) 0 (by omega) (fun w' hw' => absurd hw' (Nat.not_lt_zero _)) r q (fun j hj => hr j (Nat.zero_le _) hj)
          · rw [if_neg (fun e => e rfl), show zI v + 1 = zI (v + 1) from zIr_add 1 v]
            exact nxt (fun e => absurd e hz) r q
        | succ k ihk =>
          intro hk r hr
          have vb : v / rp (cst 6) N (k + 1) ≤ v := Nat.div_le_self _ _
          have kN : k < N := by omega
          rw [zI_p1, lp_288_49, if_neg (by rw [zIr_lt (c := 0) (by decide) (by omega)]; exact Nat.not_lt_zero _), show (6 : Int32) = zI 6 from rfl, zI_vp (by omega), zI_cn (by omega), zI_rem (by omega) (by omega), zI_div (by omega) (by omega), Nat.div_div_eq_div_mul, show rp (cst 6) N (k + 1) * 6 = rp (cst 6) N k from (rp_s (cst 6) kN).symm, show v / rp (cst 6) N (k + 1) % 6 = dg (cst 6) N v k from rfl, up2_rw, mgK_3, mgK_w]
          refine ⟨by decide, by omega, ihk (by omega) _ (fun j h1 h2 => ?_)⟩
          rw [va_ap]
          by_cases e : j = k
          · subst e; rw [if_pos rfl]
          · rw [if_neg e]; exact hr j (by omega) h2
      have s1 : zI N - 1 = zI N + (-1) := Int32.sub_eq_add_neg _ _
      rw [s1]
      have q0 := dig N (Nat.le_refl _) r (fun j h1 h2 => absurd h2 (by omega))
      rw [rp_K, Nat.div_one] at q0
      exact q0
  have prod : ∀ d i, i + d = N → sm_wp X 288 7 [some (.ref 81), some (.int (zI N)), some (.int (zI (pF (cst 6) i))), some (.int (zI (pF (cst n) i))), some (.int (zI i)), none, none, none, none] [] (sM mo G I J) Q := by
    intro d
    induction d with
    | zero =>
      intro i hi
      have : i = N := by omega
      subst this
      rw [lp_288_7, if_pos (by rw [zI_le (by omega) (by omega)]; exact Nat.le_refl _), pF_K, pF_K]
      have q0 := codes (rp (cst 6) i 0) 0 (by omega) (fun u hu => absurd hu (Nat.not_lt_zero _)) (I 133) (I 134)
      have e : mgK I (I 133) (I 134) = I := by unfold mgK; rw [rw2_self, rw2_self]
      rw [e] at q0
      exact q0
    | succ d ih =>
      intro i hi
      rw [lp_288_7, if_neg (by rw [zI_le (by omega) (by omega)]; omega), hn, show (6 : Int32) = zI 6 from rfl, zI_mul, zI_mul, show zI i + 1 = zI (i + 1) from zIr_add 1 i]
      exact ih (i + 1) (by omega)
  rw [lp_288_0]
  exact prod N 0 (by omega)
end Y2
end
section
/-! swap. -/
theorem lx_tri : ∀ (N : Nat) (x y : Nat → Nat), lxL N x y ∨ lxL N y x ∨ ∀ i, i < N → x i = y i := by
  intro N
  induction N with
  | zero => intro x y; exact Or.inr (Or.inr (fun i hi => absurd hi (Nat.not_lt_zero _)))
  | succ N ih =>
    intro x y
    rcases ih x y with ⟨i, hi, h⟩ | ⟨i, hi, h⟩ | h
    · exact Or.inl ⟨i, by omega, h⟩
    · exact Or.inr (Or.inl ⟨i, by omega, h⟩)
    · rcases Nat.lt_trichotomy (x N) (y N) with g | g | g
      · exact Or.inl ⟨N, by omega, h, g⟩
      · refine Or.inr (Or.inr (fun i hi => ?_))
        by_cases e : i = N
        · rw [e]; exact g
        · exact h i (by omega)
      · exact Or.inr (Or.inl ⟨N, by omega, fun j hj => (h j hj).symm, g⟩)
theorem rgF_u {n : Nat} {r4 W : Nat → Int32} {pr : Int32} {N : Nat} (hN : 1 ≤ N) {M L M' L' : Nat → Nat} (h : rgF n r4 W pr N M L) (k : rgF n r4 W pr N M' L') : (∀ i, i < N → M i = M' i) ∧ ∀ i, i < N → L i = L' i := by
  obtain ⟨h1, h2, h3, h4⟩ := h
  obtain ⟨k1, k2, k3, k4⟩ := k
  have e : ∀ i, i < N → M i = M' i := by
    rcases lx_tri N M M' with g | g | g
    · exact absurd g (k3 M L h1 h2)
    · exact absurd g (h3 M' L' k1 k2)
    · exact g
  refine ⟨e, ?_⟩
  rcases lx_tri N L L' with g | g | g
  · exact absurd g (k4 L (rgL_c hN e (fun _ _ => rfl) h2))
  · exact absurd g (h4 L' (rgL_c hN (fun i hi => (e i hi).symm) (fun _ _ => rfl) k2))
  · exact g
theorem rgR_u {n : Nat} {r4 W : Nat → Int32} {pr : Int32} {a b : Nat} {M L M' L' : Nat → Nat} (h : rgR n r4 W pr a M L) (k : rgR n r4 W pr b M' L') : a = b ∧ (∀ i, i < a → M i = M' i) ∧ ∀ i, i < a → L i = L' i := by
  rcases h with ⟨h1, h2⟩ | ⟨h1, h2, h3, h4⟩
  · rcases k with ⟨k1, k2⟩ | ⟨k1, k2, k3, k4⟩
    · exact ⟨by omega, fun i hi => absurd hi (by omega), fun i hi => absurd hi (by omega)⟩
    · exact absurd k4.2.1 (h2 b k1 k2 M' L' k4.1)
  · rcases k with ⟨k1, k2⟩ | ⟨k1, k2, k3, k4⟩
    · exact absurd h4.2.1 (k2 a h1 h2 M L h4.1)
    · have e : a = b := by
        rcases Nat.lt_trichotomy a b with g | g | g
        · exact absurd h4.2.1 (k3 a h1 g M L h4.1)
        · exact g
        · exact absurd k4.2.1 (h3 b k1 g M' L' k4.1)
      subst e
      exact ⟨rfl, rgF_u (by omega) h4 k4⟩
/-- what swap answers -/
def swV (len : Nat) (M L : Nat → Nat) (x : Int32) : Int32 := if x = 0 then zI len else if x < 0 ∨ 8 < x then -1 else if x.toNatClampNeg < 5 then (if x.toNatClampNeg ≤ len then zI (M (x.toNatClampNeg - 1)) else -1) else (if x.toNatClampNeg - 5 < len then zI (L (x.toNatClampNeg - 5)) else -1)
theorem rgR_4 {n : Nat} {r4 W : Nat → Int32} {pr : Int32} {a : Nat} {M L : Nat → Nat} (h : rgR n r4 W pr a M L) : a ≤ 4 := by
  rcases h with ⟨h1, -⟩ | ⟨-, h2, -⟩ <;> omega
theorem swV_e {a : Nat} {M L M' L' : Nat → Nat} (h1 : ∀ i, i < a → M i = M' i) (h2 : ∀ i, i < a → L i = L' i) (x : Int32) : swV a M L x = swV a M' L' x := by
  unfold swV
  by_cases g0 : x = 0
  · rw [if_pos g0, if_pos g0]
  · rw [if_neg g0, if_neg g0]
    by_cases g1 : x < 0 ∨ 8 < x
    · rw [if_pos g1, if_pos g1]
    · rw [if_neg g1, if_neg g1]
      obtain ⟨k, hk, rfl⟩ := zI_of (fun e => g1 (Or.inl e))
      rw [zI_cn hk]
      have k0 : ¬ k = 0 := fun e => g0 (by rw [e]; rfl)
      by_cases g2 : k < 5
      · rw [if_pos g2, if_pos g2]
        by_cases g3 : k ≤ a
        · rw [if_pos g3, if_pos g3, h1 _ (by omega)]
        · rw [if_neg g3, if_neg g3]
      · rw [if_neg g2, if_neg g2]
        by_cases g3 : k - 5 < a
        · rw [if_pos g3, if_pos g3, h2 _ g3]
        · rw [if_neg g3, if_neg g3]
section Y3
variable {X : (Nat → Int32) × Nat} {mo : Bool} {G : Nat × Nat} {I : Nat → Nat → Int32} {J : Nat → Nat → Int64} {Q : Option Value → sm_M → Prop} {c : Nat}
theorem h_tell {len : Nat} {M L : Nat → Nat} (h4 : len ≤ 4) (h3 : I 68 3 = zI len) (hr : ∀ i, i < len → I 69 i = zI (M i) ∧ I 70 i = zI (L i)) (x : Int32) (hQ : Q (some (.int (swV len M L x))) (sM mo G I J)) : sm_wp X 194 7 [some (.ref 0), some (.int x)] [] (sM mo G I J) Q := by
  rw [lp_194_7]
  unfold swV at hQ
  by_cases g0 : x = 0
  · rw [if_pos g0] at hQ
    rw [if_neg (fun e => e g0), h3]
    exact hQ
  · rw [if_neg g0] at hQ
    rw [if_pos g0]
    -- the lands' half
    have far : ∀ j, x - 1 - 4 = zI j → j < 4 → ¬ x < 0 ∧ x = zI (j + 5) := by
      intro j e hj
      have e2 : x = zI (j + 5) := by
        have : x = (x - 1 - 4) + 5 := by
          rw [Int32.sub_eq_add_neg, Int32.sub_eq_add_neg, Int32.add_assoc, Int32.add_assoc, show (-1 : Int32) + (-4 + 5) = 0 from by decide, Int32.add_zero]
        rw [this, e]
        exact zIr_add 5 j
      refine ⟨?_, e2⟩
      rw [e2, zIr_lt (c := 0) (by decide) (by omega)]
      exact Nat.not_lt_zero _
    have half : (x < 0 ∨ ∃ k, k < 2147483648 ∧ x = zI k ∧ 4 < k) → (if (x - 1) - 4 < 0 then (Q (some (.int (-1))) (sM mo G I J)) else (if 4 ≤ (x - 1) - 4 then (Q (some (.int (-1))) (sM mo G I J)) else (if I 68 3 ≤ (x - 1) - 4 then (Q (some (.int (-1))) (sM mo G I J)) else (vp_in ((x - 1) - 4) 4 ∧ (Q (some (.int (I 70 (((x - 1) - 4).toNatClampNeg)))) (sM mo G I J)))))) := by
      intro hx
      by_cases n1 : (x - 1) - 4 < 0
      · rw [if_pos n1]
        rcases hx with hx | ⟨k, hk, rfl, k4⟩
        · rw [if_pos (Or.inl hx)] at hQ; exact hQ
        · exfalso
          rw [show zI k - 1 = zI (k - 1) from zIr_sub (c := 1) (by show 1 ≤ k; omega), show zI (k - 1) - 4 = zI (k - 1 - 4) from zIr_sub (c := 4) (by show 4 ≤ k - 1; omega), zIr_lt (c := 0) (by decide) (by omega)] at n1
          exact absurd n1 (Nat.not_lt_zero _)
      · rw [if_neg n1]
        obtain ⟨j, hj, ej⟩ := zI_of n1
        rw [ej]
        by_cases n2 : 4 ≤ j
        · rw [if_pos (by rw [zIl_le (c := 4) (by decide) hj]; exact n2)]
          rcases hx with hx | ⟨k, hk, rfl, k4⟩
          · rw [if_pos (Or.inl hx)] at hQ; exact hQ
          · have ek : k - 1 - 4 = j := by
              rw [show zI k - 1 = zI (k - 1) from zIr_sub (c := 1) (by show 1 ≤ k; omega), show zI (k - 1) - 4 = zI (k - 1 - 4) from zIr_sub (c := 4) (by show 4 ≤ k - 1; omega), zI_eq (by omega) hj] at ej
              exact ej
            rw [if_pos (Or.inr (by rw [zIl_lt (c := 8) (by decide) hk]; show 8 < k; omega))] at hQ
            exact hQ
        · have fx := far j ej (by omega)
          rw [if_neg (by rw [zIl_le (c := 4) (by decide) hj]; exact n2), h3]
          rw [fx.2] at hQ
          rw [if_neg (by rw [zIr_lt (c := 0) (by decide) (by omega), zIl_lt (c := 8) (by decide) (by omega)]; show ¬ (j + 5 < 0 ∨ 8 < j + 5); omega), zI_cn (by omega), if_neg (by omega), show j + 5 - 5 = j from by omega] at hQ
          by_cases n3 : j < len
          · rw [if_pos n3] at hQ
            rw [if_neg (by rw [zI_le (by omega) (by omega)]; omega), zI_vp (by omega), zI_cn (by omega), (hr j n3).2]
            exact ⟨by omega, hQ⟩
          · rw [if_neg n3] at hQ
            rw [if_pos (by rw [zI_le (by omega) (by omega)]; omega)]
            exact hQ
    by_cases n1 : x < 1
    · rw [if_pos n1]
      refine half (Or.inl ?_)
      by_cases hx : x < 0
      · exact hx
      · exfalso
        obtain ⟨k, hk, rfl⟩ := zI_of hx
        rw [zIr_lt (c := 1) (by decide) hk] at n1
        have n1' : k < 1 := n1
        exact g0 (by rw [show k = 0 from by omega]; rfl)
    · rw [if_neg n1]
      obtain ⟨k, hk, rfl⟩ := zI_of (show ¬ x < 0 from fun e => n1 (by
        rw [Int32.lt_iff_toInt_lt] at e ⊢
        have e0 : (0 : Int32).toInt = 0 := by decide
        have e1 : (1 : Int32).toInt = 1 := by decide
        omega))
      have k1 : 1 ≤ k := by
        rw [zIr_lt (c := 1) (by decide) hk] at n1
        have n1' : ¬ k < 1 := n1
        omega
      by_cases n2 : 4 < k
      · rw [if_pos (by rw [zIl_lt (c := 4) (by decide) hk]; exact n2)]
        exact half (Or.inr ⟨k, hk, rfl, n2⟩)
      · rw [if_neg (by rw [zIl_lt (c := 4) (by decide) hk]; exact n2), h3]
        rw [if_neg (by rw [zIr_lt (c := 0) (by decide) (by omega), zIl_lt (c := 8) (by decide) (by omega)]; show ¬ (k < 0 ∨ 8 < k); omega), zI_cn hk, if_pos (by omega)] at hQ
        by_cases n3 : k ≤ len
        · rw [if_pos n3] at hQ
          rw [if_neg (by rw [zI_lt (by omega) (by omega)]; omega), show zI k - 1 = zI (k - 1) from zIr_sub (c := 1) (by show 1 ≤ k; omega), zI_vp (by omega), zI_cn (by omega), (hr (k - 1) (by omega)).1]
          exact ⟨by omega, hQ⟩
        · rw [if_neg n3] at hQ
          rw [if_pos (by rw [zI_lt (by omega) (by omega)]; omega)]
          exact hQ
theorem m_swap {n m : Nat} {pr : Int32} {r4 r5 r12 W : Nat → Int32} (hb : basM n m pr r4 r5 r12 W I) (x : Int32) (i8 : vf_Model_isIn x 0 8) (hQ : ∀ K len M L, Fr I K → rgR n r4 W pr len M L → Q (some (.int (swV len M L x))) (sM mo G K J)) :
    sm_wp X 287 0 [some (.ref 81), some (.int x), none, none] [] (sM mo G I J) Q := by
  have f0 : Fr I (up2 I 81 2 0) := Fr_m (Fr_r I) rfl 0
  -- there is always an answer
  have fin5 : ∀ K, Fr I K → (∀ N, 2 ≤ N → N ≤ 4 → rgN n r4 W pr N) → ¬ x < 0 → ¬ 8 < x → (if ¬ x = 0 then (Q (some (.int (-1))) (sM mo G K J)) else (Q (some (.int 0)) (sM mo G K J))) := by
    intro K fK hno x0 x8
    have q := hQ K 0 (fun _ => 0) (fun _ => 0) fK (Or.inl ⟨rfl, hno⟩)
    unfold swV at q
    by_cases g0 : x = 0
    · rw [if_pos g0] at q
      rw [if_neg (fun e => e g0)]
      exact q
    · rw [if_neg g0, if_neg (fun e => e.elim x0 x8)] at q
      rw [if_pos g0]
      obtain ⟨k, hk, rfl⟩ := zI_of x0
      have k0 : ¬ k = 0 := fun e => g0 (by rw [e]; rfl)
      rw [zI_cn hk] at q
      by_cases g2 : k < 5
      · rw [if_pos g2, if_neg (by omega)] at q; exact q
      · rw [if_neg g2, if_neg (by omega)] at q; exact q
  have loop : ¬ x < 0 → ¬ 8 < x → ∀ d N, N + d = 5 → 2 ≤ N → (∀ N', 2 ≤ N' → N' < N → rgN n r4 W pr N') → ∀ K, Fr I K → sm_wp X 287 19 [some (.ref 81), some (.int x), some (.int (zI N)), none] [] (sM mo G K J) Q := by
    intro x0 x8 d
    induction d with
    | zero =>
      intro N hN hN2 hno K fK
      have : N = 5 := by omega
      subst this
      rw [lp_287_19, if_pos (by decide), if_neg (fun e => e rfl)]
      exact fin5 K fK (fun N' a b => hno N' a (by omega)) x0 x8
    | succ d ih =>
      intro N hN hN2 hno K fK
      obtain ⟨⟨k1, k2, k3, k4, k5⟩, kp, ⟨e1, e2, e3, e4⟩, -, -, -, e5, -⟩ := basM_fr hb fK
      have frm : ∀ r q, Fr I (mgK K r q) := fun r q => Fr_w (Fr_w fK rfl (by decide) (by decide) (by decide) r) rfl (by decide) (by decide) (by decide) q
      rw [lp_287_19, if_neg (by rw [zIl_le (c := 5) (by decide) (by omega)]; show ¬ 5 ≤ N; omega)]
      refine ct_288 (I := K) (n := n) (m := m) (N := N) (pr := pr) k1 k2 k3 k4 k5 kp (by rw [e4]; exact e5) (by omega) hN2 ?_ ?_
      · intro hN0 r q
        rw [e1, e4] at hN0
        simp only [tl_some]
        rw [lp_287_29, if_neg (fun e => e rfl), show zI N + 1 = zI (N + 1) from zIr_add 1 N]
        refine ih (N + 1) (by omega) (by omega) (fun N' a b => ?_) _ (frm r q)
        by_cases e : N' = N
        · rw [e]; exact hN0
        · exact hno N' a (by omega)
      · intro M L r q hr hF
        rw [e1, e4] at hF
        have qq := hQ _ N M L (frm r q) (Or.inr ⟨hN2, by omega, hno, hF⟩)
        unfold swV at qq
        simp only [tl_some]
        rw [lp_287_29, if_pos (by decide), if_pos (by rw [zIr_eq (c := 5) (by decide) (by omega)]; show ¬ N = 5; omega)]
        by_cases g0 : x = 0
        · rw [if_pos g0] at qq
          rw [if_neg (fun e => e g0)]
          exact qq
        · rw [if_neg g0, if_neg (fun e => e.elim x0 x8)] at qq
          rw [if_pos g0]
          obtain ⟨k, hk, rfl⟩ := zI_of x0
          have kk0 : ¬ k = 0 := fun e => g0 (by rw [e]; rfl)
          have k8 : k ≤ 8 := by
            rw [zIl_lt (c := 8) (by decide) hk] at x8
            have x8' : ¬ 8 < k := x8
            omega
          rw [zI_cn hk] at qq
          by_cases g2 : k < 5
          · rw [if_pos g2] at qq
            rw [if_neg (by rw [zIl_le (c := 5) (by decide) (by omega)]; show ¬ 5 ≤ k; omega), show zI k - 1 = zI (k - 1) from zIr_sub (c := 1) (by show 1 ≤ k; omega)]
            by_cases g3 : k ≤ N
            · rw [if_pos g3] at qq
              rw [if_pos (by rw [zI_lt (by omega) (by omega)]; omega), zI_vp (by omega), zI_cn (by omega), mgK_3, (hr (k - 1) (by omega)).1]
              exact ⟨by omega, qq⟩
            · rw [if_neg g3] at qq
              rw [if_neg (by rw [zI_lt (by omega) (by omega)]; omega)]
              exact qq
          · rw [if_neg g2] at qq
            rw [if_pos (by rw [zIl_le (c := 5) (by decide) (by omega)]; show 5 ≤ k; omega), show zI k - 5 = zI (k - 5) from zIr_sub (c := 5) (by show 5 ≤ k; omega)]
            by_cases g3 : k - 5 < N
            · rw [if_pos g3] at qq
              rw [if_pos (by rw [zI_lt (by omega) (by omega)]; omega), zI_vp (by omega), zI_cn (by omega), mgK_4, (hr (k - 5) g3).2]
              exact ⟨by omega, qq⟩
            · rw [if_neg g3] at qq
              rw [if_neg (by rw [zI_lt (by omega) (by omega)]; omega)]
              exact qq
  rw [lp_287_0, if_pos i8]
  exact loop i8.1 i8.2 3 2 (by omega) (by omega) (fun N' a b => absurd b (by omega)) _ f0
def sx68 (c : Nat) : Bool := decide (68 ≤ c) && decide (c ≤ 70)
theorem inv_x68 {K : Nat → Nat → Int32} {n m : Nat} (e : ∀ c, sx68 c = false → K c = I c) (h : inv c mo G I J) (hc : c ≤ 1000) (hb : bas n m I)
    (hC0 : ∀ ch, ch < 100000000 → I 1 4 = zI ch → ivC ch n m (I 1 2) (I 4) (I 5) (I 12) (I 13) mo (I 48) (I 49) (I 50) (I 143) (I 68) (I 69) (I 70) → ivC ch n m (I 1 2) (I 4) (I 5) (I 12) (I 13) mo (I 48) (I 49) (I 50) (I 143) (K 68) (K 69) (K 70)) : inv c mo G K J := by
  obtain ⟨n', m', t', p', q', r', ch', ln', hN', hE, hV, hY, hG, hK, hP, hS, hA, hT, hF, hB, hC', hD', hD2, hX, hZ⟩ := h
  have en : n = n' := by
    have := hb.1.symm.trans hN'.1
    rw [zI_eq (by have := hb.2.1; omega) (by have := hN'.2.2.1; omega)] at this
    exact this
  have em : m = m' := by
    have := hb.2.2.1.symm.trans hN'.2.2.2.1
    rw [zI_eq (by have := hb.2.2.2.1; omega) (by have := hN'.2.2.2.2.2.1; omega)] at this
    exact this
  subst en; subst em
  have t3 := hN'.2.2.2.2.2.2.2.2.2.2
  have cb : ch' < 100000000 := by have := hK.2; omega
  refine ⟨n, m, t', p', q', r', ch', ln', ?_⟩
  simp (decide := true) only [e]
  exact ⟨hN', hE, hV, hY, hG, hK, hP, hS, hA, hT, hF, hB, hC0 ch' cb hK.1 hC', hD', hD2, hX, hZ⟩
theorem bas_68 {K : Nat → Nat → Int32} {n m : Nat} (e : ∀ c, sx68 c = false → K c = I c) (h : bas n m I) : bas n m K := by
  unfold bas
  simp (decide := true) only [e]
  exact h
theorem op_swap (h : inv c mo G I J) (hc : c ≤ 1000) (x : Int32) : Agr X 194 [some (.ref 0), some (.int x)] 287 [some (.ref 81), some (.int x), none, none] (sM mo G I J) (Inv (c + 1)) := by
  obtain ⟨n, m, hb⟩ := inv_bas h
  unfold Agr
  rw [lp_194_0]
  have hb0 := hb
  obtain ⟨b1, b2, b3, b4, b5, -, b7, b8, b9, b10, b11⟩ := hb
  have hca : I 68 4 = I 1 4 → ∃ len M L, I 68 3 = zI len ∧ (∀ i, i < len → I 69 i = zI (M i) ∧ I 70 i = zI (L i)) ∧ rgR n (I 4) (I 13) (I 1 2) len M L := by
    intro e1
    obtain ⟨n', m', t', p', q', r', ch', ln', hN', hE, hV, hY, hG, hK, hP, hS, hA, hT, hF, hB, hC', -⟩ := h
    have en : n = n' := by
      have := b1.symm.trans hN'.1
      rw [zI_eq (by omega) (by have := hN'.2.2.1; omega)] at this
      exact this
    subst en
    have t3 := hN'.2.2.2.2.2.2.2.2.2.2
    exact hC'.2.2.2 (by have := hK.2; omega) (by rw [e1, hK.1])
  refine ct_119 (n := n) (m := m) (pr := I 1 2) b1 b2 b3 b4 rfl b5 b10 hca ?_
  intro K len M L f k4 k3 hr hR
  simp only [tl_none]
  have e : ∀ c, sx68 c = false → K c = I c := fun c hc => by
    unfold sx68 at hc
    simp only [Bool.and_eq_false_iff, decide_eq_false_iff_not] at hc
    exact f c (by omega) (by omega) (by omega)
  have hK : inv c mo G K J := inv_x68 e h hc hb0 (fun ch cb hk hC => ⟨hC.1, Or.inr ⟨ch, Nat.le_refl _, k4.trans hk⟩, hC.2.2.1, fun _ _ => ⟨len, M, L, k3, hr, hR⟩⟩)
  have bK : bas n m K := bas_68 e hb0
  refine h_tell (rgR_4 hR) k3 hr x ?_
  by_cases i8 : vf_Model_isIn x 0 8
  · refine m_swap (bas_M bK) x i8 (fun N len' M' L' fN hR' => ?_)
    rw [e 4 rfl, e 13 rfl, e 1 rfl] at hR'
    have u := rgR_u hR hR'
    obtain ⟨rfl, u2, u3⟩ := u
    exact ⟨by rw [swV_e u2 u3], inv_fr hK fN rfl rfl⟩
  · rw [lp_287_0, if_neg i8]
    refine ⟨?_, inv_t 0 hK⟩
    unfold swV
    rw [if_neg (fun e => i8 (by rw [e]; exact ⟨by decide, by decide⟩)), if_pos (by
      by_cases e : x < 0
      · exact Or.inl e
      · right
        by_cases e2 : 8 < x
        · exact e2
        · exact absurd ⟨e, e2⟩ i8)]
end Y3
end
section
/-! Tokens: what they are; the class reads them. -/
def wC : List (List Nat) := [[116, 97, 107, 101], [114, 101, 102, 117, 115, 101], [97, 115, 107], [104, 111, 109, 101], [110, 111, 116], [97, 110, 100], [111, 114], [103, 97, 105, 110], [103, 111, 116], [108, 111, 115, 116], [115, 111, 117, 108, 115], [110, 101, 97, 114], [109, 105, 110, 101], [98, 111, 117, 110, 100], [114, 97, 110, 107], [111, 116, 104, 101, 114], [100, 97, 121], [108, 101, 102, 116], [108, 105, 110, 107, 101, 100]]
def wR : List (List Nat) := [[116, 97, 107, 101], [114, 101, 102, 117, 115, 101], [97, 115, 107], [104, 111, 109, 101], [111, 114], [97, 110, 100], [110, 111, 116], [103, 97, 105, 110], [103, 111, 116], [108, 111, 115, 116], [115, 111, 117, 108, 115], [110, 101, 97, 114], [109, 105, 110, 101], [98, 111, 117, 110, 100], [114, 97, 110, 107], [111, 116, 104, 101, 114], [100, 97, 121], [108, 101, 102, 116], [108, 105, 110, 107, 101, 100]]
def fi (p : List Nat → Bool) : List (List Nat) → Nat → Nat → Nat
  | [], _, d => d
  | w :: r, k, d => if p w = true then k else fi p r (k + 1) d
theorem fi_c {p q : List Nat → Bool} {d : Nat} : ∀ (ws : List (List Nat)) (k : Nat), (∀ w, w ∈ ws → p w = q w) → fi p ws k d = fi q ws k d
  | [], _, _ => rfl
  | w :: r, k, h => by
    unfold fi
    rw [h w (List.mem_cons_self ..), fi_c r (k + 1) (fun v hv => h v (List.mem_cons_of_mem _ hv))]
def prm (i : Nat) : Nat := if i = 4 then 6 else if i = 6 then 4 else i
theorem wds {p : List Nat → Bool} (hu : ∀ w v, p w = true → p v = true → w = v) : (fi p wC 0 35 = 35 ∧ fi p wR 0 99 = 99) ∨ ∃ i, i < 19 ∧ fi p wC 0 35 = i ∧ fi p wR 0 99 = prm i := by
  by_cases h : ∃ w, w ∈ wC ∧ p w = true
  · obtain ⟨w, hw, hp⟩ := h
    right
    have e : ∀ ws : List (List Nat), ∀ v, v ∈ ws → p v = (v == w) := by
      intro ws v _
      by_cases g : v = w
      · rw [g, hp]; exact (beq_self_eq_true w).symm
      · cases c : p v with
        | true => exact absurd (hu v w c hp) g
        | false => exact (beq_eq_false_iff_ne.mpr g).symm
    have e1 : fi p wC 0 35 = fi (fun v => v == w) wC 0 35 := fi_c wC 0 (e wC)
    have e2 : fi p wR 0 99 = fi (fun v => v == w) wR 0 99 := fi_c wR 0 (e wR)
    rw [e1, e2]
    have all : ∀ w, w ∈ wC → fi (fun v => v == w) wC 0 35 < 19 ∧ fi (fun v => v == w) wR 0 99 = prm (fi (fun v => v == w) wC 0 35) := by decide
    exact ⟨_, (all w hw).1, rfl, (all w hw).2⟩
  · left
    have hn : ∀ w, w ∈ wC → p w = false := fun w hw => by
      cases c : p w with
      | false => rfl
      | true => exact absurd ⟨w, hw, c⟩ h
    have sub : ∀ w, w ∈ wR → w ∈ wC := by decide
    have e1 : fi p wC 0 35 = fi (fun _ => false) wC 0 35 := fi_c wC 0 hn
    have e2 : fi p wR 0 99 = fi (fun _ => false) wR 0 99 := fi_c wR 0 (fun w hw => hn w (sub w hw))
    rw [e1, e2]
    exact ⟨rfl, rfl⟩
/-- the word from q to e -/
def mtc (B : Nat → Nat) (q e : Nat) (w : List Nat) : Prop := q + w.length = e ∧ ∀ j, j < w.length → B (q + j) = w.getD j 0
theorem mtc_u {B : Nat → Nat} {q e : Nat} : ∀ w v, pB (mtc B q e w) = true → pB (mtc B q e v) = true → w = v := by
  intro w v h k
  have h := pB_t.mp h
  have k := pB_t.mp k
  apply List.ext_getElem
  · have := h.1; have := k.1; omega
  · intro j h1 h2
    have a := h.2 j h1
    have b := k.2 j h2
    rw [List.getD_eq_getElem?_getD, List.getElem?_eq_getElem h1] at a
    rw [List.getD_eq_getElem?_getD, List.getElem?_eq_getElem h2] at b
    exact a.symm.trans b
noncomputable def wcd (B : Nat → Nat) (q e : Nat) : Nat := fi (fun w => pB (mtc B q e w)) wC 0 35
/-- as long as it holds -/
def sp (P : Nat → Bool) : Nat → Nat → Nat
  | 0, q => q
  | f + 1, q => if P q = true then sp P f (q + 1) else q
theorem sp_b (P : Nat → Bool) : ∀ f q, q ≤ sp P f q ∧ sp P f q ≤ q + f := by
  intro f
  induction f with
  | zero => intro q; exact ⟨Nat.le_refl _, Nat.le_refl _⟩
  | succ f ih =>
    intro q
    unfold sp
    split
    · have := ih (q + 1); omega
    · omega
def isBl (B : Nat → Nat) (j : Nat) : Bool := decide (B j = 10) || decide (B j = 32)
def isLt (B : Nat → Nat) (j : Nat) : Bool := decide (97 ≤ B j) && decide (B j ≤ 122)
def isDt (B : Nat → Nat) (j : Nat) : Bool := decide (48 ≤ B j) && decide (B j ≤ 57)
/-- a sign: its code and its length -/
def sgC (b c : Nat) : Nat × Nat := if b = 37 then (23, 1) else if b = 40 then (30, 1) else if b = 41 then (31, 1) else if b = 42 then (21, 1) else if b = 43 then (19, 1) else if b = 45 then (20, 1) else if b = 47 then (22, 1) else if b = 59 then (32, 1) else if b = 60 then (if c = 61 then (25, 2) else if c = 62 then (27, 2) else (24, 1)) else if b = 61 then (26, 1) else if b = 62 then (if c = 61 then (28, 2) else (29, 1)) else (35, 1)
/-- the byte behind, or none -/
def nxB (B : Nat → Nat) (n q : Nat) : Nat := if q + 1 < n then B (q + 1) else 0
/-- a number, as the class has it -/
def nuC (B : Nat → Nat) (q k : Nat) : Nat := up (fun i a => if 100000 < a * 10 + B (q + i) - 48 then 100000 else a * 10 + B (q + i) - 48) k 0
def plc (B : Nat → Nat) (n p : Nat) : Nat := sp (isBl B) (n - p) p
noncomputable def tkN (B : Nat → Nat) (n q : Nat) : Nat × Nat := if n ≤ q then (34, q) else if isLt B q = true then (wcd B q (sp (isLt B) (n - q) q), sp (isLt B) (n - q) q) else if isDt B q = true then (36, sp (isDt B) (n - q) q) else ((sgC (B q) (nxB B n q)).1, q + (sgC (B q) (nxB B n q)).2)
theorem by_8 : ∀ b : Fin 256, ∀ c : Fin 128, ((zI b.val).toInt8.toInt32 = zI c.val ↔ b.val = c.val) := by decide +kernel
theorem by_r : ∀ b : Fin 256, (vf_Tape_isLetter (zI b.val).toInt8.toInt32 ↔ (97 ≤ b.val ∧ b.val ≤ 122)) ∧ (vf_Tape_isDigit (zI b.val).toInt8.toInt32 ↔ (48 ≤ b.val ∧ b.val ≤ 57)) ∧ (vf_Tape_isBlank (zI b.val).toInt8.toInt32 ↔ (b.val = 10 ∨ b.val = 32)) := by decide +kernel
theorem by_z : ∀ b : Fin 128, (zI b.val).toInt8.toInt32 = zI b.val := by decide +kernel
/-- the tape by the class -/
def tpC (B : Nat → Nat) (r15 : Nat → Int32) : Prop := ∀ j, B j < 256 ∧ r15 j = (zI (B j)).toInt8.toInt32
section K1
variable {X : (Nat → Int32) × Nat} {mo : Bool} {G : Nat × Nat} {I : Nat → Nat → Int32} {J : Nat → Nat → Int64} {Q : Option Value → sm_M → Prop}
theorem byt {B : Nat → Nat} {n j : Nat} (hT : tpC B (I 15)) (h4 : I 14 4 = zI n) (hn : n ≤ 400) (hj : j < n) : vf_Tape_byteAt I (zI j) = (zI (B j)).toInt8.toInt32 := by
  unfold vf_Tape_byteAt
  rw [if_neg (by rw [zIr_lt (c := 0) (by decide) (by omega)]; exact Nat.not_lt_zero _), if_neg (by rw [h4, zI_le (by omega) (by omega)]; omega), if_neg (by rw [zIl_le (c := 400) (by decide) (by omega)]; show ¬ 400 ≤ j; omega), zI_cn (by omega)]
  exact (hT j).2
theorem byt_e {B : Nat → Nat} {n j c : Nat} (hT : tpC B (I 15)) (h4 : I 14 4 = zI n) (hn : n ≤ 400) (hj : j < n) (hc : c < 128) : vf_Tape_byteAt I (zI j) = zI c ↔ B j = c := by
  rw [byt hT h4 hn hj]
  exact by_8 ⟨B j, (hT j).1⟩ ⟨c, hc⟩
theorem byt_L {B : Nat → Nat} {n j : Nat} (hT : tpC B (I 15)) (h4 : I 14 4 = zI n) (hn : n ≤ 400) (hj : j < n) : vf_Tape_isLetter (vf_Tape_byteAt I (zI j)) ↔ isLt B j = true := by
  rw [byt hT h4 hn hj]
  unfold isLt
  rw [Bool.and_eq_true, decide_eq_true_iff, decide_eq_true_iff]
  exact (by_r ⟨B j, (hT j).1⟩).1
theorem byt_D {B : Nat → Nat} {n j : Nat} (hT : tpC B (I 15)) (h4 : I 14 4 = zI n) (hn : n ≤ 400) (hj : j < n) : vf_Tape_isDigit (vf_Tape_byteAt I (zI j)) ↔ isDt B j = true := by
  rw [byt hT h4 hn hj]
  unfold isDt
  rw [Bool.and_eq_true, decide_eq_true_iff, decide_eq_true_iff]
  exact (by_r ⟨B j, (hT j).1⟩).2.1
theorem byt_B {B : Nat → Nat} {n j : Nat} (hT : tpC B (I 15)) (h4 : I 14 4 = zI n) (hn : n ≤ 400) (hj : j < n) : vf_Tape_isBlank (vf_Tape_byteAt I (zI j)) ↔ isBl B j = true := by
  rw [byt hT h4 hn hj]
  unfold isBl
  rw [Bool.or_eq_true, decide_eq_true_iff, decide_eq_true_iff]
  exact (by_r ⟨B j, (hT j).1⟩).2.2
/-- the words, one after the other -/
theorem rw_1 {B : Nat → Nat} {n q e : Nat} (hT : tpC B (I 15)) (h4 : I 14 4 = zI n) (hn : n ≤ 400) (hq : I 14 1 = zI q) (he : I 14 5 = zI e) (hqe : q ≤ e) (hen : e ≤ n) {w : List Nat} {o k : Nat} (ho : o + w.length < 95) (hw : ∀ j, j < w.length → sm_words.getD (o + j) 0 = zI (w.getD j 0) ∧ w.getD j 0 < 128 ∧ ¬ w.getD j 0 = 32) (hb : sm_words.getD (o + w.length) 0 = 32) (hk : k < 100) :
    ∀ d j, j + d = w.length → ∀ x : Int32, (x = 1 ∧ (∀ i, i < j → q + i < e ∧ B (q + i) = w.getD i 0) ∨ x = 0 ∧ ¬ ∀ i, i < j → q + i < e ∧ B (q + i) = w.getD i 0) → sm_wp X 160 50 [some (.ref 14), some (.int (zI k)), some (.int (zI (q + j))), some (.int x), some (.int (zI (o + j))), none] [] (sM mo G I J) Q = if pB (mtc B q e w) = true then Q (some (.int (zI k))) (sM mo G I J) else sm_wp X 160 50 [some (.ref 14), some (.int (zI (k + 1))), some (.int (zI (q + 0))), some (.int 1), some (.int (zI (o + w.length + 1))), none] [] (sM mo G I J) Q := by
  intro d
  induction d with
  | zero =>
    intro j hj x hx
    have : j = w.length := by omega
    subst this
    rw [lp_160_50, if_neg (by rw [zIl_le (c := 95) (by decide) (by omega)]; show ¬ 95 ≤ o + w.length; omega), zI_vp (by omega), zI_cn (by omega), eq_true (by omega : o + w.length < 95), true_and, if_pos hb, hq, he, show zI k + 1 = zI (k + 1) from zIr_add 1 k, show zI (o + w.length) + 1 = zI (o + w.length + 1) from zIr_add 1 _, Nat.add_zero]
    rcases hx with ⟨rfl, hx⟩ | ⟨rfl, hx⟩
    · rw [if_neg (by decide)]
      by_cases g : q + w.length = e
      · rw [if_neg (by rw [g]; exact fun e => e rfl), if_pos (pB_t.mpr ⟨g, fun i hi => (hx i hi).2⟩)]
      · rw [if_pos (by rw [zI_eq (by omega) (by omega)]; exact g), if_neg (fun m => g (pB_t.mp m).1)]
        rfl
    · rw [if_pos rfl, if_neg (fun m => hx (fun i hi => ⟨by have := (pB_t.mp m).1; omega, (pB_t.mp m).2 i hi⟩))]
      rfl
  | succ d ih =>
    intro j hj x hx
    have jw : j < w.length := by omega
    have hwj := hw j jw
    rw [lp_160_50, if_neg (by rw [zIl_le (c := 95) (by decide) (by omega)]; show ¬ 95 ≤ o + j; omega), zI_vp (by omega), zI_cn (by omega), eq_true (by omega : o + j < 95), true_and, if_neg (by rw [hwj.1, zIr_eq (c := 32) (by decide) (by omega)]; exact hwj.2.2), show zI (q + j) + 1 = zI (q + (j + 1)) from zIr_add 1 _, show zI (o + j) + 1 = zI (o + (j + 1)) from zIr_add 1 _]
    have no : (¬ ∀ i, i < j + 1 → q + i < e ∧ B (q + i) = w.getD i 0) → sm_wp X 160 50 [some (.ref 14), some (.int (zI k)), some (.int (zI (q + (j + 1)))), some (.int 0), some (.int (zI (o + (j + 1)))), none] [] (sM mo G I J) Q = if pB (mtc B q e w) = true then Q (some (.int (zI k))) (sM mo G I J) else sm_wp X 160 50 [some (.ref 14), some (.int (zI (k + 1))), some (.int (zI (q + 0))), some (.int 1), some (.int (zI (o + w.length + 1))), none] [] (sM mo G I J) Q := fun hn => ih (j + 1) (by omega) 0 (Or.inr ⟨rfl, hn⟩)
    rcases hx with ⟨rfl, hx⟩ | ⟨rfl, hx⟩
    · rw [if_neg (by decide), he]
      by_cases g : q + j < e
      · rw [if_neg (by rw [zI_le (by omega) (by omega)]; omega), hwj.1]
        by_cases g2 : B (q + j) = w.getD j 0
        · rw [if_neg (fun c => c ((byt_e hT h4 hn (by omega) hwj.2.1).mpr g2))]
          refine ih (j + 1) (by omega) 1 (Or.inl ⟨rfl, fun i hi => ?_⟩)
          by_cases e3 : i = j
          · rw [e3]; exact ⟨g, g2⟩
          · exact hx i (by omega)
        · rw [if_pos (fun c => g2 ((byt_e hT h4 hn (by omega) hwj.2.1).mp c))]
          exact no (fun a => g2 (a j (by omega)).2)
      · rw [if_pos (by rw [zI_le (by omega) (by omega)]; omega)]
        exact no (fun a => g (a j (by omega)).1)
    · rw [if_pos rfl]
      exact no (fun a => hx (fun i hi => a i (by omega)))
def ofs : List (List Nat) → Nat → Bool
  | [], o => decide (o = 95)
  | w :: r, o => decide (o + w.length < 95) && (List.range w.length).all (fun j => decide (sm_words.getD (o + j) 0 = zI (w.getD j 0)) && (decide (w.getD j 0 < 128) && decide (¬ w.getD j 0 = 32))) && decide (sm_words.getD (o + w.length) 0 = 32) && ofs r (o + w.length + 1)
theorem rw_2 {B : Nat → Nat} {n q e : Nat} (hT : tpC B (I 15)) (h4 : I 14 4 = zI n) (hn : n ≤ 400) (hq : I 14 1 = zI q) (he : I 14 5 = zI e) (hqe : q ≤ e) (hen : e ≤ n) : ∀ (ws : List (List Nat)) (o k : Nat), ofs ws o = true → k + ws.length < 100 → sm_wp X 160 50 [some (.ref 14), some (.int (zI k)), some (.int (zI (q + 0))), some (.int 1), some (.int (zI o)), none] [] (sM mo G I J) Q = Q (some (.int (zI (fi (fun w => pB (mtc B q e w)) ws k 35)))) (sM mo G I J)
  | [], o, k, h, _ => by
    have h' : o = 95 := decide_eq_true_iff.mp h
    rw [lp_160_50, if_pos (by rw [h']; decide)]
    rfl
  | w :: r, o, k, h, hk => by
    unfold ofs at h
    simp only [Bool.and_eq_true, decide_eq_true_iff, List.all_eq_true, List.mem_range] at h
    obtain ⟨⟨⟨h1, h2⟩, h3⟩, h5⟩ := h
    rw [List.length_cons] at hk
    have s := rw_1 (X := X) (mo := mo) (G := G) (J := J) (Q := Q) hT h4 hn hq he hqe hen (w := w) (o := o) (k := k) h1 (fun j hj => h2 j hj) h3 (by omega) w.length 0 (by omega) 1 (Or.inl ⟨rfl, fun i hi => absurd hi (Nat.not_lt_zero _)⟩)
    rw [Nat.add_zero o] at s
    rw [s]
    unfold fi
    by_cases g : pB (mtc B q e w) = true
    · rw [if_pos g, if_pos g]
    · rw [if_neg g, if_neg g]
      exact rw_2 hT h4 hn hq he hqe hen r (o + w.length + 1) (k + 1) h5 (by omega)
theorem ofs_C : ofs wC 0 = true := by decide
/-- the tape's row, one more read -/
def tpR (r14 : Nat → Int32) (n q e : Nat) : Prop := r14 4 = zI n ∧ r14 1 = zI q ∧ r14 5 = zI e
theorem ct_160 {B : Nat → Nat} {n q : Nat} (hT : tpC B (I 15)) (h4 : I 14 4 = zI n) (hn : n ≤ 400) (hq : I 14 1 = zI q) : ∀ f e, e + f = n → q ≤ e → ∀ K, (∀ c, c ≠ 14 → K c = I c) → (∀ j, j ≠ 5 → K 14 j = I 14 j) → K 14 5 = zI e → (hQ : ∀ L, (∀ c, c ≠ 14 → L c = I c) → (∀ j, j ≠ 5 → L 14 j = I 14 j) → L 14 5 = zI (sp (isLt B) f e) → Q (some (.int (zI (wcd B q (sp (isLt B) f e))))) (sM mo G L J)) → sm_wp X 160 0 [some (.ref 14), none, none, none, none, none] [] (sM mo G K J) Q := by
  intro f
  induction f with
  | zero =>
    intro e hf hqe K k1 k2 k5 hQ
    have e4 : K 14 4 = zI n := by rw [k2 4 (by decide)]; exact h4
    have e1 : K 14 1 = zI q := by rw [k2 1 (by decide)]; exact hq
    rw [lp_160_0, if_pos (by rw [e4, k5, zI_le (by omega) (by omega)]; omega), e1]
    have s := rw_2 (X := X) (mo := mo) (G := G) (J := J) (Q := Q) (by rw [k1 15 (by decide)]; exact hT) e4 hn e1 k5 hqe (by omega) wC 0 0 ofs_C (by decide)
    rw [Nat.add_zero] at s
    exact s.mpr (hQ K k1 k2 k5)
  | succ f ih =>
    intro e hf hqe K k1 k2 k5 hQ
    have e4 : K 14 4 = zI n := by rw [k2 4 (by decide)]; exact h4
    have e1 : K 14 1 = zI q := by rw [k2 1 (by decide)]; exact hq
    have T : tpC B (K 15) := by rw [k1 15 (by decide)]; exact hT
    rw [lp_160_0, if_neg (by rw [e4, k5, zI_le (by omega) (by omega)]; omega), k5]
    have un : sp (isLt B) (f + 1) e = if isLt B e = true then sp (isLt B) f (e + 1) else e := rfl
    by_cases g : isLt B e = true
    · rw [if_pos g] at un
      rw [if_neg (fun c => c ((byt_L T e4 hn (by omega)).mpr g)), show zI e + 1 = zI (e + 1) from zIr_add 1 e]
      refine ih (e + 1) (by omega) (by omega) _ (fun c hc => by rw [up2_rn _ _ _ _ _ hc]; exact k1 c hc) (fun j hj => by rw [up2_ra, va_ap, if_neg hj]; exact k2 j hj) up2_ss ?_
      rw [un] at hQ
      exact hQ
    · rw [if_neg g] at un
      rw [if_pos (fun c => g ((byt_L T e4 hn (by omega)).mp c)), e1]
      have s := rw_2 (X := X) (mo := mo) (G := G) (J := J) (Q := Q) T e4 hn e1 k5 hqe (by omega) wC 0 0 ofs_C (by decide)
      rw [Nat.add_zero] at s
      rw [un] at hQ
      exact s.mpr (hQ K k1 k2 k5)
theorem nuC_s (B : Nat → Nat) (q k : Nat) : nuC B q (k + 1) = if 100000 < nuC B q k * 10 + B (q + k) - 48 then 100000 else nuC B q k * 10 + B (q + k) - 48 := by
  unfold nuC
  rw [up_s]
theorem nuC_b (B : Nat → Nat) (q : Nat) : ∀ k, nuC B q k ≤ 100000 := by
  intro k
  induction k with
  | zero => exact Nat.zero_le _
  | succ k ih => rw [nuC_s]; split <;> omega
theorem ct_162 {B : Nat → Nat} {n q : Nat} (hT : tpC B (I 15)) (h4 : I 14 4 = zI n) (hn : n ≤ 400) : ∀ f k, q + k + f = n → ∀ K, (∀ c, c ≠ 14 → K c = I c) → (∀ j, j ≠ 5 → j ≠ 2 → K 14 j = I 14 j) → K 14 5 = zI (q + k) → K 14 2 = zI (nuC B q k) → (hQ : ∀ L, (∀ c, c ≠ 14 → L c = I c) → (∀ j, j ≠ 5 → j ≠ 2 → L 14 j = I 14 j) → L 14 5 = zI (sp (isDt B) f (q + k)) → L 14 2 = zI (nuC B q (sp (isDt B) f (q + k) - q)) → Q (some (.int 36)) (sM mo G L J)) → sm_wp X 162 5 [some (.ref 14)] [] (sM mo G K J) Q := by
  intro f
  induction f with
  | zero =>
    intro k hf K k1 k2 k5 kn hQ
    have e4 : K 14 4 = zI n := by rw [k2 4 (by decide) (by decide)]; exact h4
    rw [lp_162_5, if_pos (by rw [e4, k5, zI_le (by omega) (by omega)]; omega)]
    refine hQ K k1 k2 k5 ?_
    show K 14 2 = zI (nuC B q (q + k - q))
    rw [Nat.add_sub_cancel_left]
    exact kn
  | succ f ih =>
    intro k hf K k1 k2 k5 kn hQ
    have e4 : K 14 4 = zI n := by rw [k2 4 (by decide) (by decide)]; exact h4
    have T : tpC B (K 15) := by rw [k1 15 (by decide)]; exact hT
    have un : sp (isDt B) (f + 1) (q + k) = if isDt B (q + k) = true then sp (isDt B) f (q + k + 1) else q + k := rfl
    rw [lp_162_5, if_neg (by rw [e4, k5, zI_le (by omega) (by omega)]; omega), k5]
    by_cases g : isDt B (q + k) = true
    · have dd : 48 ≤ B (q + k) ∧ B (q + k) ≤ 57 := by
        unfold isDt at g
        rw [Bool.and_eq_true, decide_eq_true_iff, decide_eq_true_iff] at g
        exact g
      have nb := nuC_b B q k
      rw [if_pos g] at un
      rw [if_neg (fun c => c ((byt_D T e4 hn (by omega)).mpr g)), byt T e4 hn (by omega), by_z ⟨B (q + k), by omega⟩, kn, show zI (nuC B q k) * 10 = zI (nuC B q k * 10) from zIr_mul 10 _, zI_add, show zI (nuC B q k * 10 + B (q + k)) - 48 = zI (nuC B q k * 10 + B (q + k) - 48) from zIr_sub (c := 48) (by show 48 ≤ nuC B q k * 10 + B (q + k); omega), show zI (q + k) + 1 = zI (q + (k + 1)) from zIr_add 1 _]
      have ev : (if (100000 : Int32) < zI (nuC B q k * 10 + B (q + k) - 48) then 100000 else zI (nuC B q k * 10 + B (q + k) - 48)) = zI (nuC B q (k + 1)) := by
        rw [nuC_s]
        by_cases c : 100000 < nuC B q k * 10 + B (q + k) - 48
        · rw [if_pos c, if_pos (by rw [zIl_lt (c := 100000) (by decide) (by omega)]; exact c)]; rfl
        · rw [if_neg c, if_neg (by rw [zIl_lt (c := 100000) (by decide) (by omega)]; exact c)]
      rw [ev]
      refine ih (k + 1) (by omega) _ (fun c hc => by rw [up2_rn _ _ _ _ _ hc, up2_rn _ _ _ _ _ hc]; exact k1 c hc) (fun j hj hj2 => by rw [up2_ra, va_ap, if_neg hj, up2_ra, va_ap, if_neg hj2]; exact k2 j hj hj2) up2_ss (by rw [up2_ra, va_ap, if_neg (by decide), up2_ra, va_ap, if_pos rfl]) ?_
      rw [un] at hQ
      exact hQ
    · rw [if_neg g] at un
      rw [if_pos (fun c => g ((byt_D T e4 hn (by omega)).mp c))]
      rw [un, Nat.add_sub_cancel_left] at hQ
      exact hQ K k1 k2 k5 kn
end K1
end
