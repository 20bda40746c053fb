/-! Settlements: weighed one after the other. -/
theorem bst_p {P : Nat → Prop} {ls sm : Nat → Nat} : ∀ {v u : Nat}, bst P ls sm v = some u → u < v ∧ P u := by
  intro v
  induction v with
  | zero => intro u h; cases h
  | succ v ih =>
    intro u h
    unfold bst at h
    by_cases g : pB (P v ∧ bttr ls sm (bst P ls sm v) v) = true
    · rw [if_pos g] at h
      cases h
      exact ⟨Nat.lt_succ_self _, (pB_t.mp g).1⟩
    · rw [if_neg g] at h
      have := ih h
      exact ⟨by omega, this.2⟩
theorem lsG_b (m : Nat) (r12 : Nat → Int32) (pr : Int32) (g : Nat → Nat) : ∀ k, lsG m r12 pr g k ≤ 1188 := by
  intro k
  induction k with
  | zero => exact Nat.le_refl _
  | succ k ih =>
    show (if bt pr k = true then (if g k - bdN m r12 k < lsG m r12 pr g k then g k - bdN m r12 k else lsG m r12 pr g k) else lsG m r12 pr g k) ≤ 1188
    split
    · split <;> omega
    · exact ih
theorem smG_b {pr : Int32} {g : Nat → Nat} (h : ∀ s, g s ≤ 1188) : ∀ k, smG pr g k ≤ 1188 * k := by
  intro k
  induction k with
  | zero => exact Nat.le_refl _
  | succ k ih =>
    have := h k
    show (if bt pr k = true then smG pr g k + g k else smG pr g k) ≤ _
    split <;> omega
theorem bt_kpI (pr : Int32) (bd g : Nat → Nat) : ∀ k, k ≤ 6 → ∀ s, bt (kpI pr bd g k) s = (decide (s < k) && (bt pr s && decide (bd s ≤ g s))) := by
  intro k
  induction k with
  | zero =>
    intro _ s
    rw [decide_eq_false (Nat.not_lt_zero _), Bool.false_and]
    exact bt_0 s
  | succ k ih =>
    intro hk s
    have e : kpI pr bd g (k + 1) = if bt pr k = true ∧ bd k ≤ g k then kpI pr bd g k ||| b1 k else kpI pr bd g k := rfl
    have i := ih (by omega) s
    rw [e]
    by_cases s32 : s < 32
    · by_cases c : bt pr k = true ∧ bd k ≤ g k
      · rw [if_pos c, bt_or, i, bt_b1 k s (by omega) s32]
        by_cases g2 : s = k
        · subst g2
          rw [decide_eq_true (Nat.lt_succ_self _), c.1, decide_eq_true c.2, decide_eq_true rfl, Bool.or_true]; rfl
        · rw [decide_eq_false g2, Bool.or_false]
          by_cases g3 : s < k
          · rw [decide_eq_true g3, decide_eq_true (show s < k + 1 by omega)]
          · rw [decide_eq_false g3, decide_eq_false (show ¬ s < k + 1 by omega)]
      · rw [if_neg c, i]
        by_cases g2 : s = k
        · subst g2
          rw [decide_eq_false (Nat.lt_irrefl _), Bool.false_and]
          cases c1 : bt pr s with
          | false => rw [Bool.false_and, Bool.and_false]
          | true => rw [decide_eq_false (fun e => c ⟨c1, e⟩), Bool.and_false, Bool.and_false]
        · by_cases g3 : s < k
          · rw [decide_eq_true g3, decide_eq_true (show s < k + 1 by omega)]
          · rw [decide_eq_false g3, decide_eq_false (show ¬ s < k + 1 by omega)]
    · rw [bt_big _ _ (by omega), decide_eq_false (by omega), Bool.false_and]
theorem kpS_e {pr : Int32} {bd g : Nat → Nat} {kp : Int32} (h : kpS pr bd g kp) : kp = kpI pr bd g 6 := bt_ext fun k _ => by rw [h k, bt_kpI pr bd g 6 (Nat.le_refl _)]
theorem kpI_f {m : Nat} {r12 : Nat → Int32} {pr : Int32} {g : Nat → Nat} (h6 : ∀ k, 6 ≤ k → bt pr k = false) : kpI pr (bdN m r12) g 6 = pr ↔ frC m r12 pr g := by
  constructor
  · intro e s hs hp
    have := bt_kpI pr (bdN m r12) g 6 (Nat.le_refl _) s
    rw [e, hp, decide_eq_true hs, Bool.true_and, Bool.true_and] at this
    exact decide_eq_true_iff.mp this.symm
  · intro e
    apply bt_ext
    intro k hk
    rw [bt_kpI pr (bdN m r12) g 6 (Nat.le_refl _)]
    by_cases g6 : k < 6
    · rw [decide_eq_true g6, Bool.true_and]
      cases c : bt pr k with
      | false => rfl
      | true => rw [decide_eq_true (e k g6 c)]; rfl
    · rw [decide_eq_false g6, h6 k (by omega), Bool.false_and]
theorem kpI_z (pr : Int32) (bd g : Nat → Nat) : ∃ j, j < 64 ∧ kpI pr bd g 6 = zI j := bt_nat (m := 6) (by decide) (fun k hk => by rw [bt_kpI pr bd g 6 (Nat.le_refl _), decide_eq_false (by omega), Bool.false_and])
theorem lb_or (a b : Int64) (k : Nat) : lb (a ||| b) k = (lb a k || lb b k) := by simp [lb]
theorem lb_0 (k : Nat) : lb 0 k = false := by simp [lb]
theorem lb_sh : ∀ j k : Fin 64, lb ((1 : Int64) <<< ((zI j.val).toInt64 &&& 63)) k.val = decide (k.val = j.val) := by decide +kernel
def FrW (I K : Nat → Nat → Int32) (lo hi : Nat) : Prop := (∀ c, c ≠ 48 → c ≠ 49 → c ≠ 50 → c ≠ 143 → c ≠ lo → c ≠ hi → K c = I c) ∧ (K 48 1 = I 48 1 ∨ K 48 1 = I 1 4) ∧ ∀ j, j ≠ 13 → j ≠ 14 → j ≠ 15 → j ≠ 17 → j ≠ 18 → K lo j = I lo j
section T4
variable {X : (Nat → Int32) × Nat} {mo : Bool} {G : Nat × Nat} {I : Nat → Nat → Int32} {J : Nat → Nat → Int64} {Q : Option Value → sm_M → Prop}
theorem cs_136 {n m : Nat} {pr : Int32} {ch : Nat → Int32} {g : Nat → Nat} (hg : gtC n (I 4) (I 5) (I 13) pr ch = g) (h12 : n ≤ 12) (hW : okW (I 13)) (hB : ∀ j, ∃ w, w ≤ 999 ∧ I 12 j = zI w)
    (h : SI n m (I 4) (I 5) (I 12) (I 13) pr ch (I 52) (I 53) (I 54) (I 56) (I 57) (I 58)) (hf : frC m (I 12) pr g)
    (hQ1 : ¬ pr = 0 → (I 52 17 < zI (lsG m (I 12) pr g 6) ∨ (zI (lsG m (I 12) pr g 6) = I 52 17 ∧ I 52 18 < zI (smG pr g 6))) → ∀ K, (∀ c, c ≠ 52 → c ≠ 59 → K c = I c) → (∀ j, j ≠ 17 → j ≠ 18 → K 52 j = I 52 j) → K 52 17 = zI (lsG m (I 12) pr g 6) → K 52 18 = zI (smG pr g 6) → (∀ j, j < 8 → K 59 j = I 55 j) → Q none (sM mo G K J))
    (hQ0 : ¬ (¬ pr = 0 ∧ (I 52 17 < zI (lsG m (I 12) pr g 6) ∨ (zI (lsG m (I 12) pr g 6) = I 52 17 ∧ I 52 18 < zI (smG pr g 6)))) → Q none (sM mo G I J)) :
    sm_wp X 136 0 [some (.ref 52), none, none, none, none] [] (sM mo G I J) Q := by
  have gb : ∀ s, g s ≤ 1188 := fun s => by rw [← hg]; exact gtC_b hW h12 s
  have g56 : ∀ s, s < 6 → I 56 s = zI (g s) := fun s hs => by rw [← hg]; exact (h.2.2.2.1 s hs).1
  have g58 : ∀ s, s < 6 → I 58 s = zI (bdN m (I 12) s) := fun s hs => (h.2.2.2.1 s hs).2.2
  have hpr : I 52 2 = pr := h.1
  have copy : ¬ pr = 0 → (I 52 17 < zI (lsG m (I 12) pr g 6) ∨ (zI (lsG m (I 12) pr g 6) = I 52 17 ∧ I 52 18 < zI (smG pr g 6))) → ∀ d k, k + d = 8 → ∀ K, (∀ c, c ≠ 52 → c ≠ 59 → K c = I c) → (∀ j, j ≠ 17 → j ≠ 18 → K 52 j = I 52 j) → K 52 17 = zI (lsG m (I 12) pr g 6) → K 52 18 = zI (smG pr g 6) → (∀ j, j < k → K 59 j = I 55 j) → sm_wp X 136 113 [some (.ref 52), none, none, none, some (.int (zI k))] [] (sM mo G K J) Q := by
    intro c1 c2 d
    induction d with
    | zero =>
      intro k hk K a1 a2 a3 a4 a5
      have : k = 8 := by omega
      subst this
      rw [lp_136_113, if_pos (by decide)]
      exact hQ1 c1 c2 K a1 a2 a3 a4 a5
    | succ d ih =>
      intro k hk K a1 a2 a3 a4 a5
      rw [lp_136_113, if_neg (by rw [zIl_le (c := 8) (by decide) (by omega)]; show ¬ 8 ≤ k; omega), zI_vp (by omega), zI_cn (by omega), show zI k + 1 = zI (k + 1) from zIr_add 1 k]
      refine ⟨by omega, ih (k + 1) (by omega) _ (fun c b1 b2 => by rw [up2_rn _ _ _ _ _ b2]; exact a1 c b1 b2) (fun j b1 b2 => by rw [up2_rn _ _ _ _ _ (by decide)]; exact a2 j b1 b2) (by rw [up2_rn _ _ _ _ _ (by decide)]; exact a3) (by rw [up2_rn _ _ _ _ _ (by decide)]; exact a4) (fun j hj => ?_)⟩
      rw [up2_ra, va_ap]
      by_cases e : j = k
      · rw [if_pos e, e, a1 55 (by decide) (by decide)]
      · rw [if_neg e]; exact a5 j (by omega)
  have go : ¬ pr = 0 → (I 52 17 < zI (lsG m (I 12) pr g 6) ∨ (zI (lsG m (I 12) pr g 6) = I 52 17 ∧ I 52 18 < zI (smG pr g 6))) → sm_wp X 136 113 [some (.ref 52), none, none, none, some (.int 0)] [] (sM mo G (up2 (up2 I 52 17 (zI (lsG m (I 12) pr g 6))) 52 18 (zI (smG pr g 6))) J) Q := by
    intro c1 c2
    refine copy c1 c2 8 0 (by omega) _ (fun c b1 b2 => by rw [up2_rn _ _ _ _ _ b1, up2_rn _ _ _ _ _ b1]) (fun j b1 b2 => by rw [up2_ra, up2_ra, va_ap, if_neg b2, va_ap, if_neg b1]) ?_ ?_ (fun j hj => absurd hj (Nat.not_lt_zero _))
    · rw [up2_ra, up2_ra]; rfl
    · rw [up2_ra, va_ap, if_pos rfl]
  have key : ∀ d s, s + d = 6 → sm_wp X 136 8 [some (.ref 52), some (.int (zI (lsG m (I 12) pr g s))), some (.int (zI (smG pr g s))), some (.int (zI s)), none] [] (sM mo G I J) Q := by
    intro d
    induction d with
    | zero =>
      intro s hs
      have : s = 6 := by omega
      subst this
      rw [lp_136_8, if_pos (by decide), hpr]
      by_cases c1 : I 52 17 < zI (lsG m (I 12) pr g 6)
      · rw [if_pos c1]
        by_cases c2 : pr = 0
        · rw [if_pos c2]; exact hQ0 (fun e => e.1 c2)
        · rw [if_neg c2]; exact go c2 (Or.inl c1)
      · rw [if_neg c1]
        by_cases c3 : zI (lsG m (I 12) pr g 6) = I 52 17
        · rw [if_neg (fun e => e c3)]
          by_cases c4 : zI (smG pr g 6) ≤ I 52 18
          · rw [if_pos c4, ite_self]
            exact hQ0 (fun e => e.2.elim c1 (fun e => absurd e.2 (Int32.not_lt.mpr c4)))
          · rw [if_neg c4]
            by_cases c2 : pr = 0
            · rw [if_pos c2]; exact hQ0 (fun e => e.1 c2)
            · rw [if_neg c2]; exact go c2 (Or.inr ⟨c3, Int32.not_le.mp c4⟩)
        · rw [if_pos c3, ite_self]
          exact hQ0 (fun e => e.2.elim c1 (fun e => c3 e.1))
    | succ d ih =>
      intro s hs
      have s6 : s < 6 := by omega
      rw [lp_136_8, if_neg (by rw [zIl_le (c := 6) (by decide) (by omega)]; show ¬ 6 ≤ s; omega), hpr, show zI s + 1 = zI (s + 1) from zIr_add 1 s]
      have el : lsG m (I 12) pr g (s + 1) = if bt pr s = true then (if g s - bdN m (I 12) s < lsG m (I 12) pr g s then g s - bdN m (I 12) s else lsG m (I 12) pr g s) else lsG m (I 12) pr g s := rfl
      have es : smG pr g (s + 1) = if bt pr s = true then smG pr g s + g s else smG pr g s := rfl
      have lb' := lsG_b m (I 12) pr g s
      have gs := gb s
      by_cases g2 : bt pr s = true
      · have bd := hf s s6 g2
        rw [if_pos g2] at el es
        rw [if_neg (by rw [hb_bt _ _ (by omega)]; exact fun e => e g2), zI_vp (by omega), zI_cn (by omega), g56 s s6, g58 s s6, zI_sub bd, zI_add, ← es]
        refine ⟨s6, ?_⟩
        have e3 : (if zI (g s - bdN m (I 12) s) < zI (lsG m (I 12) pr g s) then zI (g s - bdN m (I 12) s) else zI (lsG m (I 12) pr g s)) = zI (lsG m (I 12) pr g (s + 1)) := by
          rw [el]
          by_cases c : g s - bdN m (I 12) s < lsG m (I 12) pr g s
          · rw [if_pos c, if_pos (by rw [zI_lt (by omega) (by omega)]; exact c)]
          · rw [if_neg c, if_neg (by rw [zI_lt (by omega) (by omega)]; exact c)]
        rw [e3]
        exact ih (s + 1) (by omega)
      · rw [if_neg g2] at el es
        rw [if_pos (by rw [hb_bt _ _ (by omega)]; exact g2), ← el, ← es]
        exact ih (s + 1) (by omega)
  rw [lp_136_0]
  exact key 6 0 (by omega)
theorem cs_134 {n m v : Nat} {pr : Int32} (hn : I 1 0 = zI n) (h12 : n ≤ 12) (hm : I 1 1 = zI m) (h6 : m ≤ 6) (hp : ∀ k, m ≤ k → bt pr k = false) (hW : okW (I 13)) (hB : ∀ j, ∃ w, w ≤ 999 ∧ I 12 j = zI w) (hsh : shOK mo I n m) (h8 : dK n (I 5) pr ≤ 8) (hv : v < 10000)
    (h : SI n m (I 4) (I 5) (I 12) (I 13) pr (svC n (I 5) pr v) (I 52) (I 53) (I 54) (I 56) (I 57) (I 58)) (hc : ∀ j, j < dK n (I 5) pr → I 55 j = svC n (I 5) pr v j) (hR : RI n m (I 4) (I 5) (I 12) (I 13) pr v (I 52) (I 59) (J 52 16))
    (hQ : ∀ mo' K x, FrW I K 52 59 → shOK mo' K n m → RI n m (I 4) (I 5) (I 12) (I 13) pr (v + 1) (K 52) (K 59) x → Q none (sM mo' G K (up2 J 52 16 x))) :
    sm_wp X 134 0 [some (.ref 52)] [] (sM mo G I J) Q := by
  obtain ⟨r1, r2, r3, r4, r5⟩ := hR
  have ek : I 52 12 = kpI pr (bdN m (I 12)) (gv n (I 4) (I 5) (I 13) pr v) 6 := kpS_e h.2.2.2.2
  have p6 : ∀ k, 6 ≤ k → bt pr k = false := fun k hk => hp k (by omega)
  obtain ⟨kj, hkj, ekj⟩ := kpI_z pr (bdN m (I 12)) (gv n (I 4) (I 5) (I 13) pr v)
  have hpr : I 52 2 = pr := h.1
  have bits : ∀ k, k < 64 → (lb (J 52 16 ||| (1 <<< ((I 52 12).toInt64 &&& 63))) k = true ↔ ∃ u, u < v + 1 ∧ kpI pr (bdN m (I 12)) (gv n (I 4) (I 5) (I 13) pr u) 6 = zI k) := by
    intro k hk
    rw [ek, ekj, lb_or, lb_sh ⟨kj, hkj⟩ ⟨k, hk⟩, Bool.or_eq_true, r4 k hk, decide_eq_true_iff]
    constructor
    · rintro (⟨u, hu, e⟩ | e)
      · exact ⟨u, by omega, e⟩
      · exact ⟨v, by omega, by rw [ekj]; exact congrArg zI (show kj = k from (show k = kj from e).symm)⟩
    · rintro ⟨u, hu, e⟩
      by_cases g : u = v
      · subst g
        rw [ekj, zI_eq (by omega) (by omega)] at e
        exact Or.inr e.symm
      · exact Or.inl ⟨u, by omega, e⟩
  have fb : nFr n m (I 4) (I 5) (I 12) (I 13) pr v ≤ v := cN_le _ _
  have sb : nSt n m (I 4) (I 5) (I 12) (I 13) pr v ≤ v := cN_le _ _
  have eb : bstS n m (I 4) (I 5) (I 12) (I 13) pr (v + 1) = if pB (isB n m (I 4) (I 5) (I 12) (I 13) pr v ∧ bttr (fun u => lsG m (I 12) pr (gv n (I 4) (I 5) (I 13) pr u) 6) (fun u => smG pr (gv n (I 4) (I 5) (I 13) pr u) 6) (bstS n m (I 4) (I 5) (I 12) (I 13) pr v) v) = true then some v else bstS n m (I 4) (I 5) (I 12) (I 13) pr v := rfl
  rw [lp_134_0]
  by_cases gf : frC m (I 12) pr (gv n (I 4) (I 5) (I 13) pr v)
  · rw [if_pos (by rw [ek, hpr]; exact (kpI_f p6).mpr gf)]
    have nf : nFr n m (I 4) (I 5) (I 12) (I 13) pr (v + 1) = nFr n m (I 4) (I 5) (I 12) (I 13) pr v + 1 := cN_p (pB_t.mpr gf)
    generalize hL : up2 (up2 I 52 13 (I 52 13 + 1)) 52 14 (I 52 14 + 1) = L
    have l52 : L 52 = va_up (va_up (I 52) 13 (zI (v + 1))) 14 (zI (nFr n m (I 4) (I 5) (I 12) (I 13) pr (v + 1))) := by
      rw [← hL, r1, r2, nf, show zI v + 1 = zI (v + 1) from zIr_add 1 v, show zI (nFr n m (I 4) (I 5) (I 12) (I 13) pr v) + 1 = zI (nFr n m (I 4) (I 5) (I 12) (I 13) pr v + 1) from zIr_add 1 _]
      simp (decide := true) only [up2_ra, up2_rn, va_ap, ne_eq, if_false, if_true, not_false_eq_true]
    have lo : ∀ c, c ≠ 52 → L c = I c := fun c hc => by rw [← hL, up2_rn _ _ _ _ _ hc, up2_rn _ _ _ _ _ hc]
    have hSL : SI n m (L 4) (L 5) (L 12) (L 13) pr (svC n (I 5) pr v) (L 52) (L 53) (L 54) (L 56) (L 57) (L 58) := by
      rw [lo 4 (by decide), lo 5 (by decide), lo 12 (by decide), lo 13 (by decide), lo 53 (by decide), lo 54 (by decide), lo 56 (by decide), lo 57 (by decide), lo 58 (by decide), l52]
      exact h
    have shL : shOK mo L n m := by
      unfold shOK
      rw [lo 48 (by decide), lo 1 (by decide), lo 4 (by decide), lo 13 (by decide), lo 49 (by decide), lo 50 (by decide), lo 143 (by decide)]
      exact hsh
    refine cs_135 (I := L) (n := n) (m := m) (pr := pr) (ch := svC n (I 5) pr v) (by rw [lo 1 (by decide)]; exact hn) h12 (by rw [lo 1 (by decide)]; exact hm) h6 hp (by rw [lo 13 (by decide)]; exact hW) shL hSL ?_
    intro mo' K z fK shK hz
    rw [lo 4 (by decide), lo 5 (by decide), lo 13 (by decide)] at hz
    simp only [tl_some]
    have k52 : K 52 = L 52 := fK.1 52 (by decide) (by decide) (by decide) (by decide)
    have k59 : K 59 = I 59 := (fK.1 59 (by decide) (by decide) (by decide) (by decide)).trans (lo 59 (by decide))
    have fr1 : ∀ c, c ≠ 48 → c ≠ 49 → c ≠ 50 → c ≠ 143 → c ≠ 52 → K c = I c := fun c a1 a2 a3 a4 a5 => (fK.1 c a1 a2 a3 a4).trans (lo c a5)
    have fr2 : K 48 1 = I 48 1 ∨ K 48 1 = I 1 4 := by
      have := fK.2
      rw [lo 48 (by decide), lo 1 (by decide)] at this
      exact this
    rcases hz with ⟨rfl, hz⟩ | ⟨rfl, hz⟩
    · have ns : nSt n m (I 4) (I 5) (I 12) (I 13) pr (v + 1) = nSt n m (I 4) (I 5) (I 12) (I 13) pr v + 1 := cN_p (pB_t.mpr ⟨gf, hz⟩)
      rw [lp_134_51, if_neg (by decide)]
      generalize hN : up2 K 52 15 (K 52 15 + 1) = N
      have n52 : N 52 = va_up (L 52) 15 (zI (nSt n m (I 4) (I 5) (I 12) (I 13) pr (v + 1))) := by
        rw [← hN, up2_ra, k52, ns]
        have : L 52 15 + 1 = zI (nSt n m (I 4) (I 5) (I 12) (I 13) pr v + 1) := by
          rw [l52]
          simp (decide := true) only [va_ap, if_false, if_true]
          rw [r3]
          exact zIr_add 1 _
        rw [this]
      have no : ∀ c, c ≠ 52 → N c = K c := fun c hc => by rw [← hN, up2_rn _ _ _ _ _ hc]
      have ni : ∀ c, c ≠ 48 → c ≠ 49 → c ≠ 50 → c ≠ 143 → c ≠ 52 → N c = I c := fun c a1 a2 a3 a4 a5 => (no c a5).trans (fr1 c a1 a2 a3 a4 a5)
      have n17 : N 52 17 = I 52 17 ∧ N 52 18 = I 52 18 := by
        rw [n52, l52]
        exact ⟨rfl, rfl⟩
      have shN : shOK mo' N n m := by
        unfold shOK
        rw [no 48 (by decide), no 1 (by decide), no 4 (by decide), no 13 (by decide), no 49 (by decide), no 50 (by decide), no 143 (by decide)]
        exact shK
      have hSN : SI n m (N 4) (N 5) (N 12) (N 13) pr (svC n (I 5) pr v) (N 52) (N 53) (N 54) (N 56) (N 57) (N 58) := by
        rw [ni 4 (by decide) (by decide) (by decide) (by decide) (by decide), ni 5 (by decide) (by decide) (by decide) (by decide) (by decide), ni 12 (by decide) (by decide) (by decide) (by decide) (by decide), ni 13 (by decide) (by decide) (by decide) (by decide) (by decide), ni 53 (by decide) (by decide) (by decide) (by decide) (by decide), ni 54 (by decide) (by decide) (by decide) (by decide) (by decide), ni 56 (by decide) (by decide) (by decide) (by decide) (by decide), ni 57 (by decide) (by decide) (by decide) (by decide) (by decide), ni 58 (by decide) (by decide) (by decide) (by decide) (by decide), n52, l52]
        exact h
      have e4 : N 4 = I 4 := ni 4 (by decide) (by decide) (by decide) (by decide) (by decide)
      have e5 : N 5 = I 5 := ni 5 (by decide) (by decide) (by decide) (by decide) (by decide)
      have e12 : N 12 = I 12 := ni 12 (by decide) (by decide) (by decide) (by decide) (by decide)
      have e13 : N 13 = I 13 := ni 13 (by decide) (by decide) (by decide) (by decide) (by decide)
      have e55 : N 55 = I 55 := ni 55 (by decide) (by decide) (by decide) (by decide) (by decide)
      have e59 : N 59 = I 59 := ni 59 (by decide) (by decide) (by decide) (by decide) (by decide)
      -- better or not
      have bt1 : (I 52 17 < zI (lsG m (I 12) pr (gv n (I 4) (I 5) (I 13) pr v) 6) ∨ (zI (lsG m (I 12) pr (gv n (I 4) (I 5) (I 13) pr v) 6) = I 52 17 ∧ I 52 18 < zI (smG pr (gv n (I 4) (I 5) (I 13) pr v) 6))) ↔ bttr (fun u => lsG m (I 12) pr (gv n (I 4) (I 5) (I 13) pr u) 6) (fun u => smG pr (gv n (I 4) (I 5) (I 13) pr u) 6) (bstS n m (I 4) (I 5) (I 12) (I 13) pr v) v := by
        have lbv := lsG_b m (I 12) pr (gv n (I 4) (I 5) (I 13) pr v) 6
        have sbv := smG_b (pr := pr) (g := gv n (I 4) (I 5) (I 13) pr v) (fun s => gtC_b hW h12 s) 6
        cases e : bstS n m (I 4) (I 5) (I 12) (I 13) pr v with
        | none =>
          rw [e] at r5
          have r5' : I 52 17 = -1 := r5
          refine ⟨fun _ => trivial, fun _ => Or.inl ?_⟩
          rw [r5', Int32.lt_iff_toInt_lt, zI_ti (by omega)]
          show (-1 : Int) < _
          omega
        | some u =>
          rw [e] at r5
          obtain ⟨q1, q2, q3⟩ := r5
          have lbu := lsG_b m (I 12) pr (gv n (I 4) (I 5) (I 13) pr u) 6
          have sbu := smG_b (pr := pr) (g := gv n (I 4) (I 5) (I 13) pr u) (fun s => gtC_b hW h12 s) 6
          rw [q1, q2, zI_lt (by omega) (by omega), zI_eq (by omega) (by omega), zI_lt (by omega) (by omega)]
          rfl
      refine cs_136 (I := N) (n := n) (m := m) (pr := pr) (ch := svC n (I 5) pr v) (g := gv n (I 4) (I 5) (I 13) pr v) (by rw [e4, e5, e13]; rfl) h12 (by rw [e13]; exact hW) (by rw [e12]; exact hB) hSN (by rw [e12]; exact gf) ?_ ?_
      · intro c1 c2 P p1 p2 p17 p18 p59
        rw [e12, n17.1, n17.2] at c2
        rw [e12] at p17
        simp only [tl_none]
        rw [lp_134_68]
        have e : bstS n m (I 4) (I 5) (I 12) (I 13) pr (v + 1) = some v := by
          rw [eb, if_pos (pB_t.mpr ⟨⟨c1, gf, hz⟩, bt1.mp c2⟩)]
        have po : ∀ j, j ≠ 17 → j ≠ 18 → P 52 j = va_up (va_up (va_up (I 52) 13 (zI (v + 1))) 14 (zI (nFr n m (I 4) (I 5) (I 12) (I 13) pr (v + 1)))) 15 (zI (nSt n m (I 4) (I 5) (I 12) (I 13) pr (v + 1))) j := fun j a b => by rw [p2 j a b, n52, l52]
        refine hQ mo' P _ ⟨fun c a1 a2 a3 a4 a5 a6 => (p1 c a5 a6).trans (ni c a1 a2 a3 a4 a5), ?_, fun j a1 a2 a3 a4 a5 => ?_⟩ ?_ ⟨?_, ?_, ?_, bits, ?_⟩
        · rw [p1 48 (by decide) (by decide), no 48 (by decide)]; exact fr2
        · rw [po j a4 a5]
          simp only [va_ap, if_neg a1, if_neg a2, if_neg a3]
        · unfold shOK
          rw [p1 48 (by decide) (by decide), p1 1 (by decide) (by decide), p1 4 (by decide) (by decide), p1 13 (by decide) (by decide), p1 49 (by decide) (by decide), p1 50 (by decide) (by decide), p1 143 (by decide) (by decide)]
          exact shN
        · rw [po 13 (by decide) (by decide)]; rfl
        · rw [po 14 (by decide) (by decide)]; rfl
        · rw [po 15 (by decide) (by decide)]; rfl
        · rw [e]
          refine ⟨p17, p18, fun j hj => ?_⟩
          rw [p59 j (by omega), e55]
          exact hc j hj
      · intro c1
        rw [e12, n17.1, n17.2] at c1
        simp only [tl_none]
        rw [lp_134_68]
        have e : bstS n m (I 4) (I 5) (I 12) (I 13) pr (v + 1) = bstS n m (I 4) (I 5) (I 12) (I 13) pr v := by
          rw [eb, if_neg (fun c => c1 ⟨(pB_t.mp c).1.1, bt1.mpr (pB_t.mp c).2⟩)]
        have po : ∀ j, N 52 j = va_up (va_up (va_up (I 52) 13 (zI (v + 1))) 14 (zI (nFr n m (I 4) (I 5) (I 12) (I 13) pr (v + 1)))) 15 (zI (nSt n m (I 4) (I 5) (I 12) (I 13) pr (v + 1))) j := fun j => by rw [n52, l52]
        refine hQ mo' N _ ⟨fun c a1 a2 a3 a4 a5 a6 => ni c a1 a2 a3 a4 a5, ?_, fun j a1 a2 a3 a4 a5 => ?_⟩ shN ⟨?_, ?_, ?_, bits, ?_⟩
        · rw [no 48 (by decide)]; exact fr2
        · rw [po j]
          simp only [va_ap, if_neg a1, if_neg a2, if_neg a3]
        · rw [po 13]; rfl
        · rw [po 14]; rfl
        · rw [po 15]; rfl
        · rw [e, n17.1, n17.2, e59]; exact r5
    · have ns : nSt n m (I 4) (I 5) (I 12) (I 13) pr (v + 1) = nSt n m (I 4) (I 5) (I 12) (I 13) pr v := cN_q (fun c => hz (pB_t.mp c).2)
      rw [lp_134_51, if_pos rfl]
      have e : bstS n m (I 4) (I 5) (I 12) (I 13) pr (v + 1) = bstS n m (I 4) (I 5) (I 12) (I 13) pr v := by
        rw [eb, if_neg (fun c => hz (pB_t.mp c).1.2.2)]
      refine hQ mo' K _ ⟨fun c a1 a2 a3 a4 a5 a6 => fr1 c a1 a2 a3 a4 a5, fr2, fun j a1 a2 a3 a4 a5 => ?_⟩ shK ⟨?_, ?_, ?_, bits, ?_⟩
      · rw [k52, l52]
        simp only [va_ap, if_neg a1, if_neg a2]
      · rw [k52, l52]; rfl
      · rw [k52, l52]; rfl
      · rw [k52, l52, ns]; exact r3
      · rw [e, k52, l52, k59]; exact r5
  · rw [if_neg (by rw [ek, hpr]; exact fun e => gf ((kpI_f p6).mp e))]
    have nf : nFr n m (I 4) (I 5) (I 12) (I 13) pr (v + 1) = nFr n m (I 4) (I 5) (I 12) (I 13) pr v := cN_q (fun c => gf (pB_t.mp c))
    have ns : nSt n m (I 4) (I 5) (I 12) (I 13) pr (v + 1) = nSt n m (I 4) (I 5) (I 12) (I 13) pr v := cN_q (fun c => gf (pB_t.mp c).1)
    have e : bstS n m (I 4) (I 5) (I 12) (I 13) pr (v + 1) = bstS n m (I 4) (I 5) (I 12) (I 13) pr v := by
      rw [eb, if_neg (fun c => gf (pB_t.mp c).1.2.1)]
    refine hQ mo _ _ ⟨fun c a1 a2 a3 a4 a5 a6 => up2_rn _ _ _ _ _ a5, Or.inl (by rw [up2_rn _ _ _ _ _ (by decide)]), fun j a1 a2 a3 a4 a5 => by rw [up2_ra, va_ap, if_neg a1]⟩ ?_ ⟨?_, ?_, ?_, bits, ?_⟩
    · unfold shOK
      rw [up2_rn _ _ _ _ _ (by decide), up2_rn _ _ _ _ _ (by decide), up2_rn _ _ _ _ _ (by decide), up2_rn _ _ _ _ _ (by decide), up2_rn _ _ _ _ _ (by decide), up2_rn _ _ _ _ _ (by decide), up2_rn _ _ _ _ _ (by decide)]
      exact hsh
    · rw [up2_ra, va_ap, if_pos rfl, r1]; exact zIr_add 1 v
    · rw [nf]; simp (decide := true) only [up2_ra, up2_rn, va_ap, ne_eq, if_false, if_true, not_false_eq_true]; exact r2
    · rw [ns]; simp (decide := true) only [up2_ra, up2_rn, va_ap, ne_eq, if_false, if_true, not_false_eq_true]; exact r3
    · rw [e]; simp (decide := true) only [up2_ra, up2_rn, va_ap, ne_eq, if_false, if_true, not_false_eq_true]; exact r5
theorem cw_136 {n m : Nat} {pr : Int32} {ch : Nat → Int32} {g : Nat → Nat} (hg : gtC n (I 4) (I 5) (I 13) pr ch = g) (h12 : n ≤ 12) (hW : okW (I 13)) (hB : ∀ j, ∃ w, w ≤ 999 ∧ I 12 j = zI w)
    (h : SI n m (I 4) (I 5) (I 12) (I 13) pr ch (I 60) (I 61) (I 62) (I 64) (I 65) (I 66)) (hf : frC m (I 12) pr g)
    (hQ1 : ¬ pr = 0 → (I 60 17 < zI (lsG m (I 12) pr g 6) ∨ (zI (lsG m (I 12) pr g 6) = I 60 17 ∧ I 60 18 < zI (smG pr g 6))) → ∀ K, (∀ c, c ≠ 60 → c ≠ 67 → K c = I c) → (∀ j, j ≠ 17 → j ≠ 18 → K 60 j = I 60 j) → K 60 17 = zI (lsG m (I 12) pr g 6) → K 60 18 = zI (smG pr g 6) → (∀ j, j < 8 → K 67 j = I 63 j) → Q none (sM mo G K J))
    (hQ0 : ¬ (¬ pr = 0 ∧ (I 60 17 < zI (lsG m (I 12) pr g 6) ∨ (zI (lsG m (I 12) pr g 6) = I 60 17 ∧ I 60 18 < zI (smG pr g 6)))) → Q none (sM mo G I J)) :
    sm_wp X 136 0 [some (.ref 60), none, none, none, none] [] (sM mo G I J) Q := by
  have gb : ∀ s, g s ≤ 1188 := fun s => by rw [← hg]; exact gtC_b hW h12 s
  have g56 : ∀ s, s < 6 → I 64 s = zI (g s) := fun s hs => by rw [← hg]; exact (h.2.2.2.1 s hs).1
  have g58 : ∀ s, s < 6 → I 66 s = zI (bdN m (I 12) s) := fun s hs => (h.2.2.2.1 s hs).2.2
  have hpr : I 60 2 = pr := h.1
  have copy : ¬ pr = 0 → (I 60 17 < zI (lsG m (I 12) pr g 6) ∨ (zI (lsG m (I 12) pr g 6) = I 60 17 ∧ I 60 18 < zI (smG pr g 6))) → ∀ d k, k + d = 8 → ∀ K, (∀ c, c ≠ 60 → c ≠ 67 → K c = I c) → (∀ j, j ≠ 17 → j ≠ 18 → K 60 j = I 60 j) → K 60 17 = zI (lsG m (I 12) pr g 6) → K 60 18 = zI (smG pr g 6) → (∀ j, j < k → K 67 j = I 63 j) → sm_wp X 136 113 [some (.ref 60), none, none, none, some (.int (zI k))] [] (sM mo G K J) Q := by
    intro c1 c2 d
    induction d with
    | zero =>
      intro k hk K a1 a2 a3 a4 a5
      have : k = 8 := by omega
      subst this
      rw [lpw_136_113, if_pos (by decide)]
      exact hQ1 c1 c2 K a1 a2 a3 a4 a5
    | succ d ih =>
      intro k hk K a1 a2 a3 a4 a5
      rw [lpw_136_113, if_neg (by rw [zIl_le (c := 8) (by decide) (by omega)]; show ¬ 8 ≤ k; omega), zI_vp (by omega), zI_cn (by omega), show zI k + 1 = zI (k + 1) from zIr_add 1 k]
      refine ⟨by omega, ih (k + 1) (by omega) _ (fun c b1 b2 => by rw [up2_rn _ _ _ _ _ b2]; exact a1 c b1 b2) (fun j b1 b2 => by rw [up2_rn _ _ _ _ _ (by decide)]; exact a2 j b1 b2) (by rw [up2_rn _ _ _ _ _ (by decide)]; exact a3) (by rw [up2_rn _ _ _ _ _ (by decide)]; exact a4) (fun j hj => ?_)⟩
      rw [up2_ra, va_ap]
      by_cases e : j = k
      · rw [if_pos e, e, a1 63 (by decide) (by decide)]
      · rw [if_neg e]; exact a5 j (by omega)
  have go : ¬ pr = 0 → (I 60 17 < zI (lsG m (I 12) pr g 6) ∨ (zI (lsG m (I 12) pr g 6) = I 60 17 ∧ I 60 18 < zI (smG pr g 6))) → sm_wp X 136 113 [some (.ref 60), none, none, none, some (.int 0)] [] (sM mo G (up2 (up2 I 60 17 (zI (lsG m (I 12) pr g 6))) 60 18 (zI (smG pr g 6))) J) Q := by
    intro c1 c2
    refine copy c1 c2 8 0 (by omega) _ (fun c b1 b2 => by rw [up2_rn _ _ _ _ _ b1, up2_rn _ _ _ _ _ b1]) (fun j b1 b2 => by rw [up2_ra, up2_ra, va_ap, if_neg b2, va_ap, if_neg b1]) ?_ ?_ (fun j hj => absurd hj (Nat.not_lt_zero _))
    · rw [up2_ra, up2_ra]; rfl
    · rw [up2_ra, va_ap, if_pos rfl]
  have key : ∀ d s, s + d = 6 → sm_wp X 136 8 [some (.ref 60), some (.int (zI (lsG m (I 12) pr g s))), some (.int (zI (smG pr g s))), some (.int (zI s)), none] [] (sM mo G I J) Q := by
    intro d
    induction d with
    | zero =>
      intro s hs
      have : s = 6 := by omega
      subst this
      rw [lpw_136_8, if_pos (by decide), hpr]
      by_cases c1 : I 60 17 < zI (lsG m (I 12) pr g 6)
      · rw [if_pos c1]
        by_cases c2 : pr = 0
        · rw [if_pos c2]; exact hQ0 (fun e => e.1 c2)
        · rw [if_neg c2]; exact go c2 (Or.inl c1)
      · rw [if_neg c1]
        by_cases c3 : zI (lsG m (I 12) pr g 6) = I 60 17
        · rw [if_neg (fun e => e c3)]
          by_cases c4 : zI (smG pr g 6) ≤ I 60 18
          · rw [if_pos c4, ite_self]
            exact hQ0 (fun e => e.2.elim c1 (fun e => absurd e.2 (Int32.not_lt.mpr c4)))
          · rw [if_neg c4]
            by_cases c2 : pr = 0
            · rw [if_pos c2]; exact hQ0 (fun e => e.1 c2)
            · rw [if_neg c2]; exact go c2 (Or.inr ⟨c3, Int32.not_le.mp c4⟩)
        · rw [if_pos c3, ite_self]
          exact hQ0 (fun e => e.2.elim c1 (fun e => c3 e.1))
    | succ d ih =>
      intro s hs
      have s6 : s < 6 := by omega
      rw [lpw_136_8, if_neg (by rw [zIl_le (c := 6) (by decide) (by omega)]; show ¬ 6 ≤ s; omega), hpr, show zI s + 1 = zI (s + 1) from zIr_add 1 s]
      have el : lsG m (I 12) pr g (s + 1) = if bt pr s = true then (if g s - bdN m (I 12) s < lsG m (I 12) pr g s then g s - bdN m (I 12) s else lsG m (I 12) pr g s) else lsG m (I 12) pr g s := rfl
      have es : smG pr g (s + 1) = if bt pr s = true then smG pr g s + g s else smG pr g s := rfl
      have lb' := lsG_b m (I 12) pr g s
      have gs := gb s
      by_cases g2 : bt pr s = true
      · have bd := hf s s6 g2
        rw [if_pos g2] at el es
        rw [if_neg (by rw [hb_bt _ _ (by omega)]; exact fun e => e g2), zI_vp (by omega), zI_cn (by omega), g56 s s6, g58 s s6, zI_sub bd, zI_add, ← es]
        refine ⟨s6, ?_⟩
        have e3 : (if zI (g s - bdN m (I 12) s) < zI (lsG m (I 12) pr g s) then zI (g s - bdN m (I 12) s) else zI (lsG m (I 12) pr g s)) = zI (lsG m (I 12) pr g (s + 1)) := by
          rw [el]
          by_cases c : g s - bdN m (I 12) s < lsG m (I 12) pr g s
          · rw [if_pos c, if_pos (by rw [zI_lt (by omega) (by omega)]; exact c)]
          · rw [if_neg c, if_neg (by rw [zI_lt (by omega) (by omega)]; exact c)]
        rw [e3]
        exact ih (s + 1) (by omega)
      · rw [if_neg g2] at el es
        rw [if_pos (by rw [hb_bt _ _ (by omega)]; exact g2), ← el, ← es]
        exact ih (s + 1) (by omega)
  rw [lpw_136_0]
  exact key 6 0 (by omega)
theorem cw_134 {n m v : Nat} {pr : Int32} (hn : I 1 0 = zI n) (h12 : n ≤ 12) (hm : I 1 1 = zI m) (h6 : m ≤ 6) (hp : ∀ k, m ≤ k → bt pr k = false) (hW : okW (I 13)) (hB : ∀ j, ∃ w, w ≤ 999 ∧ I 12 j = zI w) (hsh : shOK mo I n m) (h8 : dK n (I 5) pr ≤ 8) (hv : v < 10000)
    (h : SI n m (I 4) (I 5) (I 12) (I 13) pr (svC n (I 5) pr v) (I 60) (I 61) (I 62) (I 64) (I 65) (I 66)) (hc : ∀ j, j < dK n (I 5) pr → I 63 j = svC n (I 5) pr v j) (hR : RI n m (I 4) (I 5) (I 12) (I 13) pr v (I 60) (I 67) (J 60 16))
    (hQ : ∀ mo' K x, FrW I K 60 67 → shOK mo' K n m → RI n m (I 4) (I 5) (I 12) (I 13) pr (v + 1) (K 60) (K 67) x → Q none (sM mo' G K (up2 J 60 16 x))) :
    sm_wp X 134 0 [some (.ref 60)] [] (sM mo G I J) Q := by
  obtain ⟨r1, r2, r3, r4, r5⟩ := hR
  have ek : I 60 12 = kpI pr (bdN m (I 12)) (gv n (I 4) (I 5) (I 13) pr v) 6 := kpS_e h.2.2.2.2
  have p6 : ∀ k, 6 ≤ k → bt pr k = false := fun k hk => hp k (by omega)
  obtain ⟨kj, hkj, ekj⟩ := kpI_z pr (bdN m (I 12)) (gv n (I 4) (I 5) (I 13) pr v)
  have hpr : I 60 2 = pr := h.1
  have bits : ∀ k, k < 64 → (lb (J 60 16 ||| (1 <<< ((I 60 12).toInt64 &&& 63))) k = true ↔ ∃ u, u < v + 1 ∧ kpI pr (bdN m (I 12)) (gv n (I 4) (I 5) (I 13) pr u) 6 = zI k) := by
    intro k hk
    rw [ek, ekj, lb_or, lb_sh ⟨kj, hkj⟩ ⟨k, hk⟩, Bool.or_eq_true, r4 k hk, decide_eq_true_iff]
    constructor
    · rintro (⟨u, hu, e⟩ | e)
      · exact ⟨u, by omega, e⟩
      · exact ⟨v, by omega, by rw [ekj]; exact congrArg zI (show kj = k from (show k = kj from e).symm)⟩
    · rintro ⟨u, hu, e⟩
      by_cases g : u = v
      · subst g
        rw [ekj, zI_eq (by omega) (by omega)] at e
        exact Or.inr e.symm
      · exact Or.inl ⟨u, by omega, e⟩
  have fb : nFr n m (I 4) (I 5) (I 12) (I 13) pr v ≤ v := cN_le _ _
  have sb : nSt n m (I 4) (I 5) (I 12) (I 13) pr v ≤ v := cN_le _ _
  have eb : bstS n m (I 4) (I 5) (I 12) (I 13) pr (v + 1) = if pB (isB n m (I 4) (I 5) (I 12) (I 13) pr v ∧ bttr (fun u => lsG m (I 12) pr (gv n (I 4) (I 5) (I 13) pr u) 6) (fun u => smG pr (gv n (I 4) (I 5) (I 13) pr u) 6) (bstS n m (I 4) (I 5) (I 12) (I 13) pr v) v) = true then some v else bstS n m (I 4) (I 5) (I 12) (I 13) pr v := rfl
  rw [lpw_134_0]
  by_cases gf : frC m (I 12) pr (gv n (I 4) (I 5) (I 13) pr v)
  · rw [if_pos (by rw [ek, hpr]; exact (kpI_f p6).mpr gf)]
    have nf : nFr n m (I 4) (I 5) (I 12) (I 13) pr (v + 1) = nFr n m (I 4) (I 5) (I 12) (I 13) pr v + 1 := cN_p (pB_t.mpr gf)
    generalize hL : up2 (up2 I 60 13 (I 60 13 + 1)) 60 14 (I 60 14 + 1) = L
    have l52 : L 60 = va_up (va_up (I 60) 13 (zI (v + 1))) 14 (zI (nFr n m (I 4) (I 5) (I 12) (I 13) pr (v + 1))) := by
      rw [← hL, r1, r2, nf, show zI v + 1 = zI (v + 1) from zIr_add 1 v, show zI (nFr n m (I 4) (I 5) (I 12) (I 13) pr v) + 1 = zI (nFr n m (I 4) (I 5) (I 12) (I 13) pr v + 1) from zIr_add 1 _]
      simp (decide := true) only [up2_ra, up2_rn, va_ap, ne_eq, if_false, if_true, not_false_eq_true]
    have lo : ∀ c, c ≠ 60 → L c = I c := fun c hc => by rw [← hL, up2_rn _ _ _ _ _ hc, up2_rn _ _ _ _ _ hc]
    have hSL : SI n m (L 4) (L 5) (L 12) (L 13) pr (svC n (I 5) pr v) (L 60) (L 61) (L 62) (L 64) (L 65) (L 66) := by
      rw [lo 4 (by decide), lo 5 (by decide), lo 12 (by decide), lo 13 (by decide), lo 61 (by decide), lo 62 (by decide), lo 64 (by decide), lo 65 (by decide), lo 66 (by decide), l52]
      exact h
    have shL : shOK mo L n m := by
      unfold shOK
      rw [lo 48 (by decide), lo 1 (by decide), lo 4 (by decide), lo 13 (by decide), lo 49 (by decide), lo 50 (by decide), lo 143 (by decide)]
      exact hsh
    refine cw_135 (I := L) (n := n) (m := m) (pr := pr) (ch := svC n (I 5) pr v) (by rw [lo 1 (by decide)]; exact hn) h12 (by rw [lo 1 (by decide)]; exact hm) h6 hp (by rw [lo 13 (by decide)]; exact hW) shL hSL ?_
    intro mo' K z fK shK hz
    rw [lo 4 (by decide), lo 5 (by decide), lo 13 (by decide)] at hz
    simp only [tl_some]
    have k52 : K 60 = L 60 := fK.1 60 (by decide) (by decide) (by decide) (by decide)
    have k59 : K 67 = I 67 := (fK.1 67 (by decide) (by decide) (by decide) (by decide)).trans (lo 67 (by decide))
    have fr1 : ∀ c, c ≠ 48 → c ≠ 49 → c ≠ 50 → c ≠ 143 → c ≠ 60 → K c = I c := fun c a1 a2 a3 a4 a5 => (fK.1 c a1 a2 a3 a4).trans (lo c a5)
    have fr2 : K 48 1 = I 48 1 ∨ K 48 1 = I 1 4 := by
      have := fK.2
      rw [lo 48 (by decide), lo 1 (by decide)] at this
      exact this
    rcases hz with ⟨rfl, hz⟩ | ⟨rfl, hz⟩
    · have ns : nSt n m (I 4) (I 5) (I 12) (I 13) pr (v + 1) = nSt n m (I 4) (I 5) (I 12) (I 13) pr v + 1 := cN_p (pB_t.mpr ⟨gf, hz⟩)
      rw [lpw_134_51, if_neg (by decide)]
      generalize hN : up2 K 60 15 (K 60 15 + 1) = N
      have n52 : N 60 = va_up (L 60) 15 (zI (nSt n m (I 4) (I 5) (I 12) (I 13) pr (v + 1))) := by
        rw [← hN, up2_ra, k52, ns]
        have : L 60 15 + 1 = zI (nSt n m (I 4) (I 5) (I 12) (I 13) pr v + 1) := by
          rw [l52]
          simp (decide := true) only [va_ap, if_false, if_true]
          rw [r3]
          exact zIr_add 1 _
        rw [this]
      have no : ∀ c, c ≠ 60 → N c = K c := fun c hc => by rw [← hN, up2_rn _ _ _ _ _ hc]
      have ni : ∀ c, c ≠ 48 → c ≠ 49 → c ≠ 50 → c ≠ 143 → c ≠ 60 → N c = I c := fun c a1 a2 a3 a4 a5 => (no c a5).trans (fr1 c a1 a2 a3 a4 a5)
      have n17 : N 60 17 = I 60 17 ∧ N 60 18 = I 60 18 := by
        rw [n52, l52]
        exact ⟨rfl, rfl⟩
      have shN : shOK mo' N n m := by
        unfold shOK
        rw [no 48 (by decide), no 1 (by decide), no 4 (by decide), no 13 (by decide), no 49 (by decide), no 50 (by decide), no 143 (by decide)]
        exact shK
      have hSN : SI n m (N 4) (N 5) (N 12) (N 13) pr (svC n (I 5) pr v) (N 60) (N 61) (N 62) (N 64) (N 65) (N 66) := by
        rw [ni 4 (by decide) (by decide) (by decide) (by decide) (by decide), ni 5 (by decide) (by decide) (by decide) (by decide) (by decide), ni 12 (by decide) (by decide) (by decide) (by decide) (by decide), ni 13 (by decide) (by decide) (by decide) (by decide) (by decide), ni 61 (by decide) (by decide) (by decide) (by decide) (by decide), ni 62 (by decide) (by decide) (by decide) (by decide) (by decide), ni 64 (by decide) (by decide) (by decide) (by decide) (by decide), ni 65 (by decide) (by decide) (by decide) (by decide) (by decide), ni 66 (by decide) (by decide) (by decide) (by decide) (by decide), n52, l52]
        exact h
      have e4 : N 4 = I 4 := ni 4 (by decide) (by decide) (by decide) (by decide) (by decide)
      have e5 : N 5 = I 5 := ni 5 (by decide) (by decide) (by decide) (by decide) (by decide)
      have e12 : N 12 = I 12 := ni 12 (by decide) (by decide) (by decide) (by decide) (by decide)
      have e13 : N 13 = I 13 := ni 13 (by decide) (by decide) (by decide) (by decide) (by decide)
      have e55 : N 63 = I 63 := ni 63 (by decide) (by decide) (by decide) (by decide) (by decide)
      have e59 : N 67 = I 67 := ni 67 (by decide) (by decide) (by decide) (by decide) (by decide)
      -- better or not
      have bt1 : (I 60 17 < zI (lsG m (I 12) pr (gv n (I 4) (I 5) (I 13) pr v) 6) ∨ (zI (lsG m (I 12) pr (gv n (I 4) (I 5) (I 13) pr v) 6) = I 60 17 ∧ I 60 18 < zI (smG pr (gv n (I 4) (I 5) (I 13) pr v) 6))) ↔ bttr (fun u => lsG m (I 12) pr (gv n (I 4) (I 5) (I 13) pr u) 6) (fun u => smG pr (gv n (I 4) (I 5) (I 13) pr u) 6) (bstS n m (I 4) (I 5) (I 12) (I 13) pr v) v := by
        have lbv := lsG_b m (I 12) pr (gv n (I 4) (I 5) (I 13) pr v) 6
        have sbv := smG_b (pr := pr) (g := gv n (I 4) (I 5) (I 13) pr v) (fun s => gtC_b hW h12 s) 6
        cases e : bstS n m (I 4) (I 5) (I 12) (I 13) pr v with
        | none =>
          rw [e] at r5
          have r5' : I 60 17 = -1 := r5
          refine ⟨fun _ => trivial, fun _ => Or.inl ?_⟩
          rw [r5', Int32.lt_iff_toInt_lt, zI_ti (by omega)]
          show (-1 : Int) < _
          omega
        | some u =>
          rw [e] at r5
          obtain ⟨q1, q2, q3⟩ := r5
          have lbu := lsG_b m (I 12) pr (gv n (I 4) (I 5) (I 13) pr u) 6
          have sbu := smG_b (pr := pr) (g := gv n (I 4) (I 5) (I 13) pr u) (fun s => gtC_b hW h12 s) 6
          rw [q1, q2, zI_lt (by omega) (by omega), zI_eq (by omega) (by omega), zI_lt (by omega) (by omega)]
          rfl
      refine cw_136 (I := N) (n := n) (m := m) (pr := pr) (ch := svC n (I 5) pr v) (g := gv n (I 4) (I 5) (I 13) pr v) (by rw [e4, e5, e13]; rfl) h12 (by rw [e13]; exact hW) (by rw [e12]; exact hB) hSN (by rw [e12]; exact gf) ?_ ?_
      · intro c1 c2 P p1 p2 p17 p18 p59
        rw [e12, n17.1, n17.2] at c2
        rw [e12] at p17
        simp only [tl_none]
        rw [lpw_134_68]
        have e : bstS n m (I 4) (I 5) (I 12) (I 13) pr (v + 1) = some v := by
          rw [eb, if_pos (pB_t.mpr ⟨⟨c1, gf, hz⟩, bt1.mp c2⟩)]
        have po : ∀ j, j ≠ 17 → j ≠ 18 → P 60 j = va_up (va_up (va_up (I 60) 13 (zI (v + 1))) 14 (zI (nFr n m (I 4) (I 5) (I 12) (I 13) pr (v + 1)))) 15 (zI (nSt n m (I 4) (I 5) (I 12) (I 13) pr (v + 1))) j := fun j a b => by rw [p2 j a b, n52, l52]
        refine hQ mo' P _ ⟨fun c a1 a2 a3 a4 a5 a6 => (p1 c a5 a6).trans (ni c a1 a2 a3 a4 a5), ?_, fun j a1 a2 a3 a4 a5 => ?_⟩ ?_ ⟨?_, ?_, ?_, bits, ?_⟩
        · rw [p1 48 (by decide) (by decide), no 48 (by decide)]; exact fr2
        · rw [po j a4 a5]
          simp only [va_ap, if_neg a1, if_neg a2, if_neg a3]
        · unfold shOK
          rw [p1 48 (by decide) (by decide), p1 1 (by decide) (by decide), p1 4 (by decide) (by decide), p1 13 (by decide) (by decide), p1 49 (by decide) (by decide), p1 50 (by decide) (by decide), p1 143 (by decide) (by decide)]
          exact shN
        · rw [po 13 (by decide) (by decide)]; rfl
        · rw [po 14 (by decide) (by decide)]; rfl
        · rw [po 15 (by decide) (by decide)]; rfl
        · rw [e]
          refine ⟨p17, p18, fun j hj => ?_⟩
          rw [p59 j (by omega), e55]
          exact hc j hj
      · intro c1
        rw [e12, n17.1, n17.2] at c1
        simp only [tl_none]
        rw [lpw_134_68]
        have e : bstS n m (I 4) (I 5) (I 12) (I 13) pr (v + 1) = bstS n m (I 4) (I 5) (I 12) (I 13) pr v := by
          rw [eb, if_neg (fun c => c1 ⟨(pB_t.mp c).1.1, bt1.mpr (pB_t.mp c).2⟩)]
        have po : ∀ j, N 60 j = va_up (va_up (va_up (I 60) 13 (zI (v + 1))) 14 (zI (nFr n m (I 4) (I 5) (I 12) (I 13) pr (v + 1)))) 15 (zI (nSt n m (I 4) (I 5) (I 12) (I 13) pr (v + 1))) j := fun j => by rw [n52, l52]
        refine hQ mo' N _ ⟨fun c a1 a2 a3 a4 a5 a6 => ni c a1 a2 a3 a4 a5, ?_, fun j a1 a2 a3 a4 a5 => ?_⟩ shN ⟨?_, ?_, ?_, bits, ?_⟩
        · rw [no 48 (by decide)]; exact fr2
        · rw [po j]
          simp only [va_ap, if_neg a1, if_neg a2, if_neg a3]
        · rw [po 13]; rfl
        · rw [po 14]; rfl
        · rw [po 15]; rfl
        · rw [e, n17.1, n17.2, e59]; exact r5
    · have ns : nSt n m (I 4) (I 5) (I 12) (I 13) pr (v + 1) = nSt n m (I 4) (I 5) (I 12) (I 13) pr v := cN_q (fun c => hz (pB_t.mp c).2)
      rw [lpw_134_51, if_pos rfl]
      have e : bstS n m (I 4) (I 5) (I 12) (I 13) pr (v + 1) = bstS n m (I 4) (I 5) (I 12) (I 13) pr v := by
        rw [eb, if_neg (fun c => hz (pB_t.mp c).1.2.2)]
      refine hQ mo' K _ ⟨fun c a1 a2 a3 a4 a5 a6 => fr1 c a1 a2 a3 a4 a5, fr2, fun j a1 a2 a3 a4 a5 => ?_⟩ shK ⟨?_, ?_, ?_, bits, ?_⟩
      · rw [k52, l52]
        simp only [va_ap, if_neg a1, if_neg a2]
      · rw [k52, l52]; rfl
      · rw [k52, l52]; rfl
      · rw [k52, l52, ns]; exact r3
      · rw [e, k52, l52, k59]; exact r5
  · rw [if_neg (by rw [ek, hpr]; exact fun e => gf ((kpI_f p6).mp e))]
    have nf : nFr n m (I 4) (I 5) (I 12) (I 13) pr (v + 1) = nFr n m (I 4) (I 5) (I 12) (I 13) pr v := cN_q (fun c => gf (pB_t.mp c))
    have ns : nSt n m (I 4) (I 5) (I 12) (I 13) pr (v + 1) = nSt n m (I 4) (I 5) (I 12) (I 13) pr v := cN_q (fun c => gf (pB_t.mp c).1)
    have e : bstS n m (I 4) (I 5) (I 12) (I 13) pr (v + 1) = bstS n m (I 4) (I 5) (I 12) (I 13) pr v := by
      rw [eb, if_neg (fun c => gf (pB_t.mp c).1.2.1)]
    refine hQ mo _ _ ⟨fun c a1 a2 a3 a4 a5 a6 => up2_rn _ _ _ _ _ a5, Or.inl (by rw [up2_rn _ _ _ _ _ (by decide)]), fun j a1 a2 a3 a4 a5 => by rw [up2_ra, va_ap, if_neg a1]⟩ ?_ ⟨?_, ?_, ?_, bits, ?_⟩
    · unfold shOK
      rw [up2_rn _ _ _ _ _ (by decide), up2_rn _ _ _ _ _ (by decide), up2_rn _ _ _ _ _ (by decide), up2_rn _ _ _ _ _ (by decide), up2_rn _ _ _ _ _ (by decide), up2_rn _ _ _ _ _ (by decide), up2_rn _ _ _ _ _ (by decide)]
      exact hsh
    · rw [up2_ra, va_ap, if_pos rfl, r1]; exact zIr_add 1 v
    · rw [nf]; simp (decide := true) only [up2_ra, up2_rn, va_ap, ne_eq, if_false, if_true, not_false_eq_true]; exact r2
    · rw [ns]; simp (decide := true) only [up2_ra, up2_rn, va_ap, ne_eq, if_false, if_true, not_false_eq_true]; exact r3
    · rw [e]; simp (decide := true) only [up2_ra, up2_rn, va_ap, ne_eq, if_false, if_true, not_false_eq_true]; exact r5
end T4
