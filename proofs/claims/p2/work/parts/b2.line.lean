/-! Values of lines: the class's start, the reference. -/
theorem hs_in {c gb : Nat → Nat} {f : Nat} : ∀ k j, j < hg c f k → ∃ i, i < k ∧ hs c gb f k j = gb (f + i) := by
  intro k
  induction k with
  | zero => intro j hj; exact absurd hj (Nat.not_lt_zero _)
  | succ k ih =>
    intro j hj
    rw [hg_s] at hj
    rw [hs_s]
    unfold va_up
    by_cases e : j = hg c f k - ar (c (f + k))
    · rw [if_pos e]; exact ⟨k, by omega, rfl⟩
    · rw [if_neg e]
      obtain ⟨i, hi, h⟩ := ih j (by omega)
      exact ⟨i, by omega, h⟩
/-- the book of one state, with its parts named -/
def bkP (s m : Nat) (c gb vb le : Nat → Nat) (r22 r23 r24 r25 q94 q95 q96 q97 q98 q99 q100 q101 q102 : Nat → Int32) : Prop := r22 s = zI m ∧ q102 s = zI m ∧ m ≤ 16 ∧ bkC s (ls le m) c gb r23 q94 q97 q98 ∧ ∀ i, i < m → bkL s c gb vb le (ls le m) r24 r25 q95 q96 q99 q100 q101 i
section V3
variable {X : (Nat → Int32) × Nat} {mo : Bool} {G : Nat × Nat} {I : Nat → Nat → Int32} {J : Nat → Nat → Int64} {Q : Option Value → sm_M → Prop}
theorem lns_e {s m : Nat} (hs : s < 6) (h : I 22 s = zI m) : vf_Book_linesOf I (zI s) = zI m := by
  unfold vf_Book_linesOf
  rw [if_neg (by rw [zIr_lt (c := 0) (by decide) (by omega)]; exact Nat.not_lt_zero _), if_neg (by rw [zIl_le (c := 6) (by decide) (by omega)]; show ¬ 6 ≤ s; omega), zI_cn (by omega)]
  exact h
theorem isl_e {s m i : Nat} (hs : s < 6) (h : I 22 s = zI m) (hm : m ≤ 16) (hi : i < m) : vf_Book_isLine I (zI s) (zI i) := by
  refine ⟨?_, ?_, ?_⟩
  · rw [zIr_lt (c := 0) (by decide) (by omega)]; exact Nat.not_lt_zero _
  · rw [zIl_le (c := 16) (by decide) (by omega)]; show ¬ 16 ≤ i; omega
  · rw [lns_e hs h, zI_le (by omega) (by omega)]; omega
theorem end_e {s m i e : Nat} (hs : s < 6) (h : I 22 s = zI m) (hm : m ≤ 16) (hi : i < m) (he : I 25 (16 * s + i) = zI e) : vf_Book_endOf I (zI s) (zI i) = zI e := by
  unfold vf_Book_endOf
  rw [if_neg (fun g => g (isl_e hs h hm hi)), show zI s * 16 = zI (s * 16) from zIr_mul 16 s, zI_add, zI_cn (by omega), show s * 16 + i = 16 * s + i from by omega]
  exact he
theorem vrb_e {s m i v : Nat} (hs : s < 6) (h : I 22 s = zI m) (hm : m ≤ 16) (hi : i < m) (he : I 24 (16 * s + i) = zI v) : vf_Book_verbOf I (zI s) (zI i) = zI v := by
  unfold vf_Book_verbOf
  rw [if_neg (fun g => g (isl_e hs h hm hi)), show zI s * 16 = zI (s * 16) from zIr_mul 16 s, zI_add, zI_cn (by omega), show s * 16 + i = 16 * s + i from by omega]
  exact he
theorem c_26 {s m i : Nat} {c gb vb le : Nat → Nat} {nv : Nat → Int64} (hs : s < 6) (hb : bkP s m c gb vb le (I 22) (I 23) (I 24) (I 25) (I 94) (I 95) (I 96) (I 97) (I 98) (I 99) (I 100) (I 101) (I 102)) (hi : i < m) (hn : ∀ i, i < 12 → bnd (nv i)) (hJ : ∀ i, i < 12 → J 46 i = nv i)
    (hQ : ∀ L J', (∀ d, ¬ d = 45 → L d = I d) → (∀ j, ¬ j = 5 → L 45 j = I 45 j) → (∀ d, ¬ d = 47 → J' d = J d) → Q (some (.long (lval nv c (ls le i) (le i)))) (sM mo G L J')) : sm_wp X 26 0 [some (.ref 45), some (.int (zI s)), some (.int (zI i)), none, none, none, none] [] (sM mo G I J) Q := by
  obtain ⟨h22, -, hm, ⟨hT, hC, -⟩, hL⟩ := hb
  obtain ⟨a1, a2, a3, a4, a5, a6, a7, a8, a9, a10, a11⟩ := hL i hi
  have ee : vf_Book_endOf I (zI s) (zI i) = zI (le i) := end_e hs h22 hm hi a4
  have k1 : ∀ d, ¬ d = 45 → up2 I 45 5 0 d = I d := fun d hd => up2_rn _ _ _ _ _ hd
  have k2 : ∀ j, ¬ j = 5 → up2 I 45 5 0 45 j = I 45 j := fun j hj => by rw [up2_ra, va_ap, if_neg hj]
  have go := c_26l (X := X) (mo := mo) (G := G) (I := I) (J := J) (Q := Q) (s := s) (f := ls le i) (e := le i) (c := c) (nv := nv) hs (by omega) (fun k hk => ⟨(hC k (by omega)).1, (hC k (by omega)).2.1⟩) a9 a10 hn hQ (le i - ls le i) 0 (fun _ => 0) (up2 I 45 5 0) J (by omega) rfl (fun j hj => absurd hj (Nat.not_lt_zero _)) ⟨by simp (decide := true) only [up2_ra, up2_rn, va_ap, ne_eq, if_false, if_true, not_false_eq_true]; rfl, fun j hj => absurd hj (Nat.not_lt_zero _), hJ, k1, k2, fun _ _ => rfl⟩
  rw [Nat.add_zero] at go
  rw [lp_26_0, ee]
  by_cases z : i = 0
  · subst z
    rw [if_pos (by decide)]
    exact go
  · rw [if_neg (by rw [zIr_le (c := 0) (by decide) (by omega)]; show ¬ i ≤ 0; omega), show zI i - 1 = zI (i - 1) from zIr_sub (c := 1) (by show 1 ≤ i; omega)]
    have es : vf_Book_endOf (up2 I 45 5 0) (zI s) (zI (i - 1)) = zI (ls le i) := by
      have b := (hL (i - 1) (by omega)).2.2.2.1
      refine end_e hs (m := m) (by rw [k1 22 (by decide)]; exact h22) hm (by omega) ?_
      rw [k1 25 (by decide), b]
      unfold ls
      rw [if_neg z]
    rw [es]
    exact go
/-- what the reference works on -/
def skR (b h : Nat) (c gb : Nat → Nat) (f k : Nat) (V : Nat → Int64) (I K : Nat → Nat → Int32) (J J' : Nat → Nat → Int64) : Prop := (∀ j, j < h → J' 121 (b + hs c gb f k j) = V j) ∧ (∀ d, ¬ d = 81 → K d = I d) ∧ (∀ j, ¬ j = 63 → K 81 j = I 81 j) ∧ K 81 63 = 0 ∧ ∀ d, ¬ d = 121 → J' d = J d
theorem r_256l {U : Nat → Nat → Int32} {s m i p : Nat} {c gb vb le : Nat → Nat} {nm : Nat → Int32} (hU : ∀ d, 81 < d → U d = I d) (hs6 : s < 6) (hp : p < 60) (hb : bkP s m c gb vb le (I 22) (I 23) (I 24) (I 25) (I 94) (I 95) (I 96) (I 97) (I 98) (I 99) (I 100) (I 101) (I 102)) (hi : i < m)
    (hN : ∀ (K : Nat → Nat → Int32) (J' : Nat → Nat → Int64) (R : Option Value → sm_M → Prop) a, (∀ d, ¬ d = 81 → K d = U d) → (∀ j, ¬ j = 63 → K 81 j = U 81 j) → a < 12 → R (some (.int (nm a))) (sM mo G K J') → sm_wp X 257 0 [some (.ref 81), some (.int (zI a)), some (.int (zI p)), none] [] (sM mo G K J') R)
    (hQ : ∀ L J', (∀ d, ¬ d = 81 → L d = U d) → (∀ j, ¬ j = 63 → L 81 j = U 81 j) → (∀ d, ¬ d = 121 → J' d = J d) → Q (some (.long (lval (fun a => (nm a).toInt64) c (ls le i) (le i)))) (sM mo G L J')) : ∀ d k V v K J', ls le i + k + d = le i → evl (fun a => (nm a).toInt64) c (ls le i) k = some V → (∀ j, j < hg c (ls le i) k → bnd (V j)) → (k = 0 ∨ v = V (hg c (ls le i) k - 1)) → skR (64 * s) (hg c (ls le i) k) c gb (ls le i) k V U K J J' → sm_wp X 256 26 [some (.ref 81), some (.int (zI p)), none, some (.int (zI s)), some (.int (zI (16 * s + i))), some (.long v), none, some (.int (zI k)), none, none] [] (sM mo G K J') Q := by
  obtain ⟨-, h102, hm, ⟨hT, hC, hinj⟩, hL⟩ := hb
  obtain ⟨a1, a2, a3, a4, a5, a6, a7, a8, a9, a10, a11⟩ := hL i hi
  have hn : ∀ a, a < 12 → bnd ((fun a => (nm a).toInt64) a) := fun a _ => i32_b _
  -- an error ends it
  have err : ∀ k v K J', evl (fun a => (nm a).toInt64) c (ls le i) k = none → ls le i + k ≤ le i → K 81 63 = 1 → (∀ d, ¬ d = 81 → K d = U d) → (∀ j, ¬ j = 63 → K 81 j = U 81 j) → (∀ d, ¬ d = 121 → J' d = J d) → sm_wp X 256 26 [some (.ref 81), some (.int (zI p)), none, some (.int (zI s)), some (.int (zI (16 * s + i))), some (.long v), none, some (.int (zI k)), none, none] [] (sM mo G K J') Q := by
    intro k v K J' en hk k63 k1 k2 k3
    have en2 : evl (fun a => (nm a).toInt64) c (ls le i) (le i - ls le i) = none := by rw [show le i - ls le i = k + (le i - ls le i - k) from by omega]; exact evl_n en _
    have q := hQ K J' k1 k2 k3
    unfold lval at q
    rw [en2] at q
    rw [lp_256_26, zI_vp (by omega), k63]
    refine ⟨by omega, ?_⟩
    split
    · rw [if_neg (by decide)]; exact q
    · rw [if_pos (by decide)]; exact q
  intro d
  induction d with
  | zero =>
    intro k V v K J' hk ev hV hv st
    obtain ⟨t1, t2, t3, t4, t5⟩ := st
    have ek : le i - ls le i = k := by omega
    rw [ek] at a10 a6
    have k0 : ¬ k = 0 := by
      intro e
      rw [e] at a10
      exact absurd a10 (by show ¬ 0 = 1; decide)
    have q := hQ K J' t2 t3 t5
    unfold lval at q
    rw [ek, ev] at q
    have hv' := hv.resolve_left k0
    rw [a10] at hv'
    rw [lp_256_26, zI_vp (by omega), zI_cn (by omega), t2 101 (by decide), hU 101 (by decide), a6, if_pos (by rw [zI_le (by omega) (by omega)]; omega), t4, if_pos rfl, hv']
    exact ⟨by omega, q⟩
  | succ d ih =>
    intro k V v K J' hk ev hV hv st
    obtain ⟨t1, t2, t3, t4, t5⟩ := st
    have hgk := hg_b c (ls le i) k
    obtain ⟨b1, vc, b3, b4, b5, b6⟩ := hC (ls le i + k) (by omega)
    have hpk := a9 k (by omega)
    obtain ⟨l1, l2⟩ := a11 k (by omega)
    generalize hx : c (ls le i + k) = x at *
    generalize hgx : gb (ls le i + k) = g at *
    generalize hh : hg c (ls le i) k = h at *
    have nb : ∀ j, j < h → hs c gb (ls le i) k j < 64 ∧ ¬ hs c gb (ls le i) k j = g := fun j hj => by
      obtain ⟨a, ha, e⟩ := hs_in k j (by rw [hh]; exact hj)
      rw [e]
      refine ⟨(hC _ (by omega)).2.2.2.1, fun e2 => ?_⟩
      rw [← hgx] at e2
      have := hinj _ _ (by omega) (by omega) e2
      omega
    -- the next value stands at its node
    have nxt : ∀ (w : Int64) K2, (∀ d, ¬ d = 81 → K2 d = U d) → (∀ j, ¬ j = 63 → K2 81 j = U 81 j) → K2 81 63 = 0 → cval (fun a => (nm a).toInt64) V h x = some w → sm_wp X 256 26 [some (.ref 81), some (.int (zI p)), none, some (.int (zI s)), some (.int (zI (16 * s + i))), some (.long w), none, some (.int (zI (k + 1))), none, none] [] (sM mo G K2 (up2 J' 121 (64 * s + g) w)) Q := by
      intro w K2 k1 k2 k3 hv2
      have bw := cval_b vc hpk hn hV hv2
      have es : evl (fun a => (nm a).toInt64) c (ls le i) (k + 1) = some (va_up V (h - ar x) w) := by rw [evl_s, hx, hh, ev]; exact stpv_y hv2
      have eh : hg c (ls le i) (k + 1) = h - ar x + 1 := by rw [hg_s, hh, hx]
      refine ih (k + 1) _ w K2 _ (by omega) es (fun j hj => ?_) (Or.inr ?_) ⟨fun j hj => ?_, k1, k2, k3, fun d hd => by rw [up2_rn _ _ _ _ _ hd]; exact t5 d hd⟩
      · rw [eh] at hj
        by_cases e : j = h - ar x
        · rw [e, vl_s]; exact bw
        · rw [vl_n _ _ e]; exact hV j (by omega)
      · rw [eh, Nat.add_sub_cancel, vl_s]
      · rw [eh] at hj
        rw [hs_s, hh, hx, hgx, up2_ra]
        by_cases e : j = h - ar x
        · rw [e, va_s, vl_s, vl_s]
        · rw [va_n _ _ e, vl_n _ _ e, vl_n _ _ (by have := (nb j (by omega)).2; omega)]
          exact t1 j (by omega)
    have e100 : K 100 (16 * s + i) = zI (ls le i) := by rw [t2 100 (by decide), hU 100 (by decide)]; exact a5
    have e98 : K 98 (64 * s + (ls le i + k)) = zI (64 * s + g) := by rw [t2 98 (by decide), hU 98 (by decide)]; exact b3
    have e94 : K 94 (64 * s + g) = zI (kdc x) := by rw [t2 94 (by decide), hU 94 (by decide)]; exact b5
    have e97 : K 97 (64 * s + g) = zI (amc x) := by rw [t2 97 (by decide), hU 97 (by decide)]; exact b6
    have k31 : kdc x < 100 := by
      unfold vcd at vc
      unfold kdc
      split
      · omega
      · split
        · omega
        · split
          · omega
          · split
            · omega
            · split
              · omega
              · split
                · omega
                · split <;> omega
    rw [lp_256_26, zI_vp (by omega), zI_cn (by omega), t2 101 (by decide), hU 101 (by decide), a6, if_neg (by rw [zI_le (by omega) (by omega)]; omega), t4, if_neg (fun e => e rfl), e100, show (64 : Int32) * zI s = zI (64 * s) from zIl_mul 64 s, zI_add, zI_add, show 64 * s + ls le i + k = 64 * s + (ls le i + k) from by omega, zI_vp (by omega), zI_cn (by omega), e98, zI_vp (by omega), zI_vp (by omega), zI_cn (by omega), e94, e97, show zI k + 1 = zI (k + 1) from zIr_add 1 k]
    refine ⟨by omega, by omega, by omega, ?_⟩
    unfold cval at nxt
    by_cases g1 : 100 ≤ x
    · have kd : kdc x = 0 := by unfold kdc; rw [if_pos g1]
      have am : amc x = x - 100 := by unfold amc; rw [if_pos g1]
      rw [kd, if_neg (fun e => e rfl), am]
      exact ⟨by omega, nxt _ K t2 t3 t4 (by rw [if_pos g1])⟩
    by_cases g2 : 7 ≤ x ∧ x < 19
    · have kd : kdc x = 16 := by unfold kdc; rw [if_neg g1, if_pos g2]
      have am : amc x = x - 7 := by unfold amc; rw [if_neg g1, if_pos g2]
      rw [kd, if_pos (by decide), if_neg (fun e => e rfl), am]
      refine hN K J' _ (x - 7) t2 t3 (by omega) ?_
      simp only [tl_some]
      rw [lp_256_111, zI_vp (by omega), zI_cn (by omega), show zI k + 1 = zI (k + 1) from zIr_add 1 k]
      exact ⟨by omega, nxt _ K t2 t3 t4 (by rw [if_neg g1, if_pos g2])⟩
    have x34 : x < 34 := by unfold vcd at vc; omega
    by_cases g3 : x = 4
    · have kd : kdc x = 13 := by rw [g3]; rfl
      have a1' : ar x = 1 := by rw [g3]; rfl
      have n1 := nb (h - 1) (by omega)
      rw [kd, if_pos (by decide), if_pos (by decide), if_pos (by decide), if_neg (fun e => e rfl), t2 95 (by decide), hU 95 (by decide), l1 a1', zI_vp (by omega), zI_cn (by omega), t1 (h - 1) (by omega)]
      refine ⟨by omega, ?_⟩
      have tr : vf_Model_truth 0 = 0 ∧ vf_Model_truth 1 = 1 := by decide
      rw [tr.1, tr.2]
      by_cases z : V (h - 1) = 0
      · rw [if_neg (fun e => e ((lg_cmp_eq _ _).mpr z))]
        exact ⟨by omega, nxt 1 K t2 t3 t4 (by rw [if_neg g1, if_neg g2, if_pos g3, if_pos z])⟩
      · rw [if_pos (fun e => z ((lg_cmp_eq _ _).mp e))]
        exact ⟨by omega, nxt 0 K t2 t3 t4 (by rw [if_neg g1, if_neg g2, if_pos g3, if_neg z])⟩
    by_cases g4 : x = 33
    · have kd : kdc x = 12 := by rw [g4]; rfl
      have a1' : ar x = 1 := by rw [g4]; rfl
      have n1 := nb (h - 1) (by omega)
      rw [kd, if_pos (by decide), if_pos (by decide), if_neg (fun e => e rfl), t2 95 (by decide), hU 95 (by decide), l1 a1', zI_vp (by omega), zI_cn (by omega), t1 (h - 1) (by omega)]
      exact ⟨by omega, by omega, nxt _ K t2 t3 t4 (by rw [if_neg g1, if_neg g2, if_neg g3, if_pos g4])⟩
    obtain ⟨a2', hbs⟩ := ar_2 vc g1 g2 g3 g4
    have n1 := nb (h - 1) (by omega)
    have n2 := nb (h - 2) (by omega)
    have kds : ¬ kdc x = 0 ∧ ¬ kdc x = 16 ∧ ¬ kdc x = 12 ∧ ¬ kdc x = 13 := by
      have e : ∀ x : Fin 34, (x.val = 5 ∨ x.val = 6 ∨ (19 ≤ x.val ∧ x.val ≤ 29)) → ¬ kdc x.val = 0 ∧ ¬ kdc x.val = 16 ∧ ¬ kdc x.val = 12 ∧ ¬ kdc x.val = 13 := by decide
      exact e ⟨x, x34⟩ hbs
    obtain ⟨l3, l4⟩ := l2 a2'
    rw [if_pos (by rw [zIr_eq (c := 0) (by decide) (by omega)]; exact kds.1), if_pos (by rw [zIr_eq (c := 16) (by decide) (by omega)]; exact kds.2.1), if_pos (by rw [zIr_eq (c := 12) (by decide) (by omega)]; exact kds.2.2.1), if_pos (by rw [zIr_eq (c := 13) (by decide) (by omega)]; exact kds.2.2.2), t2 95 (by decide), hU 95 (by decide), t2 96 (by decide), hU 96 (by decide), l3, l4, zI_vp (by omega), zI_cn (by omega), zI_vp (by omega), zI_cn (by omega), t1 (h - 1) (by omega), t1 (h - 2) (by omega)]
    refine ⟨by omega, by omega, r_261 hbs (hV _ (by omega)) (hV _ (by omega)) t4 ?_⟩
    intro L lA lB
    have f1 : ∀ d, ¬ d = 81 → L d = U d := fun d hd => by rw [lA d hd]; exact t2 d hd
    have f2 : ∀ j, ¬ j = 63 → L 81 j = U 81 j := fun j hj => by rw [lB j hj]; exact t3 j hj
    have cv : cval (fun a => (nm a).toInt64) V h x = bopv x (V (h - 2)) (V (h - 1)) := by
      unfold cval
      rw [if_neg g1, if_neg g2, if_neg g3, if_neg g4]
    refine ⟨fun w hw z => ?_, fun hw z => ?_⟩
    · simp only [tl_some]
      rw [lp_256_203, zI_vp (by omega), zI_cn (by omega), show zI k + 1 = zI (k + 1) from zIr_add 1 k]
      exact ⟨by omega, nxt w L f1 f2 z (by rw [if_neg g1, if_neg g2, if_neg g3, if_neg g4]; exact hw)⟩
    · simp only [tl_some]
      rw [lp_256_203, zI_vp (by omega), zI_cn (by omega), show zI k + 1 = zI (k + 1) from zIr_add 1 k]
      refine ⟨by omega, err (k + 1) 0 L _ ?_ (by omega) z f1 f2 (fun d hd => by rw [up2_rn _ _ _ _ _ hd]; exact t5 d hd)⟩
      rw [evl_s, hx, hh, ev]
      exact stpv_n (cv.trans hw)
theorem r_256 {U : Nat → Nat → Int32} {s m i p : Nat} {c gb vb le : Nat → Nat} {nm : Nat → Int32} (hU : ∀ d, 81 < d → U d = I d) (hs6 : s < 6) (hp : p < 60) (hb : bkP s m c gb vb le (I 22) (I 23) (I 24) (I 25) (I 94) (I 95) (I 96) (I 97) (I 98) (I 99) (I 100) (I 101) (I 102)) (hi : i < m) (h109 : I 109 p = zI s)
    (hN : ∀ (K : Nat → Nat → Int32) (J' : Nat → Nat → Int64) (R : Option Value → sm_M → Prop) a, (∀ d, ¬ d = 81 → K d = U d) → (∀ j, ¬ j = 63 → K 81 j = U 81 j) → a < 12 → R (some (.int (nm a))) (sM mo G K J') → sm_wp X 257 0 [some (.ref 81), some (.int (zI a)), some (.int (zI p)), none] [] (sM mo G K J') R)
    (hQ : ∀ L J', (∀ d, ¬ d = 81 → L d = U d) → (∀ j, ¬ j = 63 → L 81 j = U 81 j) → (∀ d, ¬ d = 121 → J' d = J d) → Q (some (.long (lval (fun a => (nm a).toInt64) c (ls le i) (le i)))) (sM mo G L J')) : sm_wp X 256 0 [some (.ref 81), some (.int (zI p)), some (.int (zI i)), none, none, none, none, none, none, none] [] (sM mo G U J) Q := by
  have hm := hb.2.2.1
  have h1 := hb.2.2.2.2 i hi
  rw [lp_256_0, zI_vp (by omega), zI_cn (by omega), hU 109 (by decide), h109, show (16 : Int32) * zI s = zI (16 * s) from zIl_mul 16 s, zI_add]
  refine ⟨hp, ?_⟩
  exact r_256l hU hs6 hp hb hi hN hQ (le i - ls le i) 0 (fun _ => 0) 0 (up2 U 81 63 0) J (by have := h1.2.2.2.2.2.2.1; omega) rfl (fun j hj => absurd hj (Nat.not_lt_zero _)) (Or.inl rfl) ⟨fun j hj => absurd hj (Nat.not_lt_zero _), fun d hd => up2_rn _ _ _ _ _ hd, fun j hj => by rw [up2_ra, va_ap, if_neg hj], up2_ss, fun _ _ => rfl⟩
end V3
