/-! The reference's table of what two could have. -/
theorem sub_dn : ∀ (k s S A : Nat), s < 2 ^ k → A &&& S = A → s &&& S = s → A < s → A ≤ (s - 1) &&& S := by
  intro k
  induction k with
  | zero => intro s S A h _ _ h2; simp at h; omega
  | succ k ih =>
    intro s S A hs hA hS h
    have a1 : (A / 2) &&& (S / 2) = A / 2 := by rw [← Nat.and_div_two, hA]
    have a2 : (s / 2) &&& (S / 2) = s / 2 := by rw [← Nat.and_div_two, hS]
    have m1 : ∀ x y : Nat, (x &&& y) % 2 = (x % 2) &&& (y % 2) := fun x y => by
      have := Nat.and_mod_two_pow (a := x) (b := y) (n := 1)
      simpa using this
    have c1 : A % 2 ≤ S % 2 := by
      have := m1 A S
      rw [hA] at this
      rcases Nat.mod_two_eq_zero_or_one A with e | e <;> rcases Nat.mod_two_eq_zero_or_one S with f | f <;> rw [e, f] at this <;> first | omega | (simp at this)
    have d : ((s - 1) &&& S) = 2 * (((s - 1) / 2) &&& (S / 2)) + ((s - 1) % 2 &&& S % 2) := by
      rw [← Nat.and_div_two, ← m1]
      omega
    rw [d]
    rcases Nat.mod_two_eq_zero_or_one s with e | e
    · have e1 : (s - 1) / 2 = s / 2 - 1 := by omega
      have e2 : (s - 1) % 2 = 1 := by omega
      have q := ih (s / 2) (S / 2) (A / 2) (by rw [Nat.pow_succ] at hs; omega) a1 a2 (by omega)
      rw [e1, e2]
      have e3 : 1 &&& S % 2 = S % 2 := by
        rcases Nat.mod_two_eq_zero_or_one S with f | f <;> rw [f] <;> rfl
      rw [e3]
      omega
    · have e1 : (s - 1) / 2 = s / 2 := by omega
      rw [e1, a2]
      have := Nat.zero_le ((s - 1) % 2 &&& S % 2)
      omega
theorem zI_and (a b : Nat) : zI a &&& zI b = zI (a &&& b) := by
  apply Int32.toBitVec_inj.mp
  show BitVec.ofNat 32 a &&& BitVec.ofNat 32 b = BitVec.ofNat 32 (a &&& b)
  exact (BitVec.ofNat_and).symm
theorem bt_zI {a l : Nat} (h : l < 32) : bt (zI a) l = a.testBit l := by
  show (BitVec.ofNat 32 a).getLsbD l = _
  rw [BitVec.getLsbD_ofNat]
  simp [h]
theorem zI_bits (A : Int32) (h : ∀ l, 12 ≤ l → bt A l = false) : ∃ a, a < 4096 ∧ A = zI a := by
  refine ⟨A.toBitVec.toNat, ?_, ?_⟩
  · have : A.toBitVec.toNat < 2 ^ 12 := by
      apply Nat.lt_pow_two_of_testBit
      intro i hi
      exact h i hi
    exact this
  · apply Int32.toBitVec_inj.mp
    show A.toBitVec = BitVec.ofNat 32 A.toBitVec.toNat
    rw [BitVec.ofNat_toNat, BitVec.setWidth_eq]
theorem zI_sub_bits {S A : Nat} (hA : A &&& S = A) (l : Nat) (h : bt (zI A) l = true) : bt (zI S) l = true := by
  by_cases h32 : l < 32
  · rw [bt_zI h32] at h ⊢
    rw [← hA, Nat.testBit_and, Bool.and_eq_true] at h
    exact h.2
  · rw [bt_big _ _ (by omega)] at h
    cases h
theorem sub_zI {S A : Nat} (hA : A < 4096) (h : ∀ l, bt (zI A) l = true → bt (zI S) l = true) : A &&& S = A := by
  apply Nat.eq_of_testBit_eq
  intro l
  rw [Nat.testBit_and]
  by_cases h32 : l < 32
  · have := h l
    rw [bt_zI h32, bt_zI h32] at this
    cases e : A.testBit l with
    | false => rfl
    | true => rw [this e]; rfl
  · rw [Nat.testBit_lt_two_pow (Nat.lt_of_lt_of_le hA (show 4096 ≤ 2 ^ l from Nat.le_trans (show 4096 ≤ 2 ^ 12 by decide) (Nat.pow_le_pow_right (by decide) (by omega))))]
    rfl
def vis (W : Nat → Int32) (S a b L x y : Nat) : Prop := ∃ A : Nat, A &&& S = A ∧ L ≤ A ∧ wA W a (zI A) 12 = x + 1 ∧ y ≤ wA W b (rst (zI S) (zI A)) 12
theorem vis_0 {W : Nat → Int32} {S a b x y : Nat} (hS : ∀ l, 12 ≤ l → bt (zI S) l = false) : vis W S a b 0 x y ↔ rch W (zI S) a b 12 (x + 1) y := by
  constructor
  · rintro ⟨A, h1, -, h2, h3⟩
    exact ⟨zI A, zI_sub_bits h1, h2, h3⟩
  · rintro ⟨A, h1, h2, h3⟩
    obtain ⟨A', h4, rfl⟩ := zI_bits A (fun l hl => by
      cases e : bt A l with
      | false => rfl
      | true => exact absurd (h1 l e) (by rw [hS l hl]; decide))
    exact ⟨A', sub_zI h4 h1, Nat.zero_le _, h2, h3⟩
def lvP (r4 W : Nat → Int32) (pr : Int32) (q : Nat → Int32) (n a b : Nat) : Prop := ∀ x, x < 1200 → rv 1188 (fun y => a ≠ b ∧ bt pr a = true ∧ bt pr b = true ∧ sfp W (bth r4 n a b) a b (x + 1) y) (q (1200 * (6 * a + b) + x))
def bfl (a b c d : Nat) : Prop := c < 6 ∧ d < 6 ∧ (c < a ∨ c = a ∧ d < b)
section S5
variable {X : (Nat → Int32) × Nat} {mo : Bool} {G : Nat × Nat} {I : Nat → Nat → Int32} {J : Nat → Nat → Int64} {Q : Option Value → sm_M → Prop}
theorem l3_277 {r4 W : Nat → Int32} {n a b T : Nat} (hT : T + 1200 ≤ 43200) {q0 : Nat → Int32} (P : Nat → Nat → Prop) (hP : ∀ x y, P x y ↔ rch W (bth r4 n a b) a b 12 (x + 1) y)
    (hQ : ∀ q, (∀ x, x < 1200 → rv 1188 (fun y => ∃ u, x ≤ u ∧ u < 1200 ∧ P u y) (q (T + x))) → (∀ j, j < T ∨ T + 1200 ≤ j → q j = q0 j) → sm_wp X 277 12 [some (.ref 81), some (.int (zI a)), some (.int (zI (b + 1))), none, none, none, none, none] [] (sM mo G (rw2 I 130 q) J) Q) :
    ∀ i, i ≤ 1199 → ∀ q, (∀ x, x < 1200 → i ≤ x → rv 1188 (fun y => ∃ u, x ≤ u ∧ u < 1200 ∧ P u y) (q (T + x))) → (∀ x, x < i → rv 1188 (P x) (q (T + x))) → (∀ j, j < T ∨ T + 1200 ≤ j → q j = q0 j) →
    sm_wp X 277 185 [some (.ref 81), some (.int (zI a)), some (.int (zI b)), some (.int (zI T)), none, some (.int (zI i + (-1))), none, none] [] (sM mo G (rw2 I 130 q) J) Q := by
  intro i
  induction i with
  | zero =>
    intro _ q h1 h2 h3
    rw [lp_277_185, if_pos (by decide), show zI b + 1 = zI (b + 1) from zIr_add 1 b]
    exact hQ q (fun x hx => h1 x hx (Nat.zero_le _)) h3
  | succ i ih =>
    intro hi q h1 h2 h3
    rw [zI_p1, lp_277_185, if_neg (by rw [zIr_lt (c := 0) (by decide) (by omega)]; exact Nat.not_lt_zero _), zI_add, show zI (T + i) + 1 = zI (T + (i + 1)) from zIr_add 1 _, zI_vp (by omega), zI_vp (by omega), zI_cn (by omega), zI_cn (by omega), rw2_a]
    refine ⟨by omega, by omega, ?_⟩
    have q1 := h1 (i + 1) (by omega) (Nat.le_refl _)
    have q2 := h2 i (by omega)
    have q3 : rv 1188 (fun y => ∃ u, i ≤ u ∧ u < 1200 ∧ P u y) (if q (T + (i + 1)) ≤ q (T + i) then q (T + i) else q (T + (i + 1))) := by
      refine rv_g (rv_or (by decide) q2 q1) (fun y => ⟨?_, ?_⟩)
      · rintro ⟨u, hu, hu2, e⟩
        by_cases g : u = i
        · subst g; exact Or.inl e
        · exact Or.inr ⟨u, by omega, hu2, e⟩
      · rintro (e | ⟨u, hu, hu2, e⟩)
        · exact ⟨i, Nat.le_refl _, by omega, e⟩
        · exact ⟨u, by omega, hu2, e⟩
    by_cases g : q (T + (i + 1)) ≤ q (T + i)
    · rw [if_pos g] at q3 ⊢
      refine ih (by omega) q (fun x hx hix => ?_) (fun x hx => h2 x (by omega)) h3
      by_cases g2 : x = i
      · subst g2; exact q3
      · exact h1 x hx (by omega)
    · rw [if_neg g] at q3 ⊢
      rw [up2_rw, rw2_a, rw2_rw]
      refine ih (by omega) _ (fun x hx hix => ?_) (fun x hx => ?_) (fun j hj => ?_)
      · rw [va_ap]
        by_cases g2 : x = i
        · subst g2; rw [if_pos rfl]; exact q3
        · rw [if_neg (by omega)]; exact h1 x hx (by omega)
      · rw [va_ap, if_neg (by omega)]; exact h2 x (by omega)
      · rw [va_ap, if_neg (by omega)]; exact h3 j hj
theorem l2_277 {n a b S T : Nat} (hn : I 81 3 = zI n) (h12 : n ≤ 12) (ha : a < 6) (hb : b < 6) (hW : okW (I 91)) (hT : T + 1200 ≤ 43200) (hSn : ∀ l, n ≤ l → bt (zI S) l = false) {q0 : Nat → Int32}
    (hQ : ∀ q, (∀ x, x < 1200 → rv 1188 (vis (I 91) S a b 0 x) (q (T + x))) → (∀ j, j < T ∨ T + 1200 ≤ j → q j = q0 j) → sm_wp X 277 185 [some (.ref 81), some (.int (zI a)), some (.int (zI b)), some (.int (zI T)), none, some (.int 1198), none, none] [] (sM mo G (rw2 I 130 q) J) Q) :
    ∀ s, s < 4096 → s &&& S = s → ∀ q, (∀ x, x < 1200 → rv 1188 (vis (I 91) S a b (s + 1) x) (q (T + x))) → (∀ j, j < T ∨ T + 1200 ≤ j → q j = q0 j) →
    sm_wp X 277 99 [some (.ref 81), some (.int (zI a)), some (.int (zI b)), some (.int (zI T)), some (.int (zI S)), some (.int (zI s)), none, none] [] (sM mo G (rw2 I 130 q) J) Q := by
  intro s
  induction s using Nat.strongRecOn with
  | _ s ih =>
  intro hs hsS q h1 h2
  have e12 : ∀ t A, (∀ l, n ≤ l → bt A l = false) → wA (I 91) t A n = wA (I 91) t A 12 := by
    intro t A hA
    have := wA_t (W := I 91) (s := t) hA (12 - n)
    rw [show n + (12 - n) = 12 from by omega] at this
    exact this.symm
  have bs : ∀ l, n ≤ l → bt (zI s) l = false := by
    intro l hl
    cases e : bt (zI s) l with
    | false => rfl
    | true => exact absurd (zI_sub_bits hsS l e) (by rw [hSn l hl]; decide)
  have br : ∀ l, n ≤ l → bt (rst (zI S) (zI s)) l = false := by
    intro l hl
    by_cases l32 : l < 32
    · rw [bt_rst _ _ l32, hSn l hl]; rfl
    · exact bt_big _ _ (by omega)
  have nxt : ∀ q', (∀ x, x < 1200 → rv 1188 (vis (I 91) S a b s x) (q' (T + x))) → (∀ j, j < T ∨ T + 1200 ≤ j → q' j = q0 j) → (if ¬ zI s = 0 then sm_wp X 277 99 [some (.ref 81), some (.int (zI a)), some (.int (zI b)), some (.int (zI T)), some (.int (zI S)), some (.int ((zI s - 1) &&& zI S)), none, none] [] (sM mo G (rw2 I 130 q') J) Q else sm_wp X 277 99 [some (.ref 81), some (.int (zI a)), some (.int (zI b)), some (.int (zI T)), some (.int (zI S)), some (.int (-1)), none, none] [] (sM mo G (rw2 I 130 q') J) Q) := by
    intro q' k1 k2
    have z0 : (zI s = 0) = (s = 0) := zIr_eq (c := 0) (by decide) (by omega)
    by_cases g : s = 0
    · subst g
      rw [if_neg (by rw [z0]; exact fun e => e rfl), lp_277_99, if_pos (by decide)]
      exact hQ q' k1 k2
    · rw [if_pos (by rw [z0]; exact g), show zI s - 1 = zI (s - 1) from zIr_sub (c := 1) (by show 1 ≤ s; omega), zI_and]
      have le : (s - 1) &&& S ≤ s - 1 := Nat.and_le_left
      refine ih _ (by omega) (by omega) (by rw [Nat.and_assoc, Nat.and_self]) q' (fun x hx => rv_g (k1 x hx) (fun y => ?_)) k2
      constructor
      · rintro ⟨A, e1, e2, e3⟩
        refine ⟨A, e1, ?_, e3⟩
        rcases Nat.lt_or_ge A s with g2 | g2
        · have := sub_dn 12 s S A hs e1 hsS g2
          omega
        · exact g2
      · rintro ⟨A, e1, e2, e3⟩
        exact ⟨A, e1, by omega, e3⟩
  have dec : ∀ x y, vis (I 91) S a b s x y ↔ (vis (I 91) S a b (s + 1) x y ∨ (wA (I 91) a (zI s) 12 = x + 1 ∧ y ≤ wA (I 91) b (rst (zI S) (zI s)) 12)) := by
    intro x y
    constructor
    · rintro ⟨A, e1, e2, e3⟩
      by_cases g : A = s
      · subst g; exact Or.inr e3
      · exact Or.inl ⟨A, e1, by omega, e3⟩
    · rintro (⟨A, e1, e2, e3⟩ | e3)
      · exact ⟨A, e1, by omega, e3⟩
      · exact ⟨s, hsS, Nat.le_refl _, e3⟩
  have n81 : (rw2 I 130 q) 81 3 = zI n := by rw [rw2_n _ _ _ _ (by decide)]; exact hn
  have n91 : (rw2 I 130 q) 91 = I 91 := rw2_n _ _ _ _ (by decide)
  rw [lp_277_99, if_neg (by rw [zIr_lt (c := 0) (by decide) (by omega)]; exact Nat.not_lt_zero _), ct_MworthOf _ _ _ _ _ _ n81 h12 ha, n91, wsum_w hW ha h12, e12 a _ bs]
  simp only [tl_some]
  rw [lp_277_111, ct_MworthOf _ _ _ _ _ _ n81 h12 hb, n91, wsum_w hW hb h12, show zI S &&& (zI s ^^^ (-1)) = rst (zI S) (zI s) from rfl, e12 b _ br]
  simp only [tl_some]
  have w1 := wA_b hW a (zI s) 12
  have w2 := wA_b hW b (rst (zI S) (zI s)) 12
  generalize wA (I 91) a (zI s) 12 = wa at *
  generalize wA (I 91) b (rst (zI S) (zI s)) 12 = wb at *
  rw [lp_277_127]
  by_cases g : wa = 0
  · subst g
    rw [if_pos (by decide)]
    exact nxt q (fun x hx => rv_g (h1 x hx) (fun y => (dec x y).trans ⟨fun e => e.elim id (fun e => absurd e.1 (by omega)), Or.inl⟩)) h2
  · rw [show zI wa - 1 = zI (wa - 1) from zIr_sub (c := 1) (by show 1 ≤ wa; omega), if_neg (by rw [zIr_lt (c := 0) (by decide) (by omega)]; exact Nat.not_lt_zero _), zI_add, zI_vp (by omega), zI_cn (by omega), rw2_a, up2_rw, rw2_a, rw2_rw]
    refine ⟨by omega, ?_⟩
    have q3 : rv 1188 (vis (I 91) S a b s (wa - 1)) (if zI wb ≤ q (T + (wa - 1)) then q (T + (wa - 1)) else zI wb) := by
      have r2 : rv 1188 (fun y => y ≤ wb) (zI wb) := Or.inr ⟨wb, by omega, rfl, fun y => Iff.rfl⟩
      refine rv_g (rv_or (by decide) (h1 (wa - 1) (by omega)) r2) (fun y => (dec _ y).trans ⟨fun e => e.elim Or.inl (fun e => Or.inr e.2), fun e => e.elim Or.inl (fun e => Or.inr ⟨by omega, e⟩)⟩)
    have oth : ∀ x, x < 1200 → x ≠ wa - 1 → rv 1188 (vis (I 91) S a b s x) (q (T + x)) := fun x hx hne => rv_g (h1 x hx) (fun y => (dec x y).trans ⟨fun e => e.elim id (fun e => absurd e.1 (by omega)), Or.inl⟩)
    by_cases g2 : zI wb ≤ q (T + (wa - 1))
    · rw [if_pos g2] at q3 ⊢
      refine nxt q (fun x hx => ?_) h2
      by_cases g3 : x = wa - 1
      · subst g3; exact q3
      · exact oth x hx g3
    · rw [if_neg g2] at q3 ⊢
      refine nxt _ (fun x hx => ?_) (fun j hj => ?_)
      · rw [va_ap]
        by_cases g3 : x = wa - 1
        · subst g3; rw [if_pos rfl]; exact q3
        · rw [if_neg (by omega)]; exact oth x hx g3
      · rw [va_ap, if_neg (by omega)]; exact h2 j hj
theorem l1_277 {n m a b : Nat} (hn : I 81 3 = zI n) (h12 : n ≤ 12) (hm : I 81 10 = zI m) (h6 : m ≤ 6) (ha : a < m) (hb : b < m) (hW : okW (I 91)) {q0 : Nat → Int32}
    (hQ : ∀ q, lvP (I 85) (I 91) (I 81 15) q n a b → (∀ j, j < 1200 * (6 * a + b) ∨ 1200 * (6 * a + b) + 1200 ≤ j → q j = q0 j) → sm_wp X 277 12 [some (.ref 81), some (.int (zI a)), some (.int (zI (b + 1))), none, none, none, none, none] [] (sM mo G (rw2 I 130 q) J) Q) :
    ∀ d i, i + d = 1200 → ∀ q, (∀ x, x < i → q (1200 * (6 * a + b) + x) = -1) → (∀ j, j < 1200 * (6 * a + b) ∨ 1200 * (6 * a + b) + 1200 ≤ j → q j = q0 j) →
    sm_wp X 277 34 [some (.ref 81), some (.int (zI a)), some (.int (zI b)), some (.int (zI (1200 * (6 * a + b)))), some (.int (zI i)), none, none, none] [] (sM mo G (rw2 I 130 q) J) Q := by
  intro d
  have hT : 1200 * (6 * a + b) + 1200 ≤ 43200 := by omega
  have hTe : 1200 * (6 * a + b) = 1200 * (6 * a + b) := rfl
  induction d with
  | zero =>
    intro i hi q h1 h2
    have : i = 1200 := by omega
    subst this
    have nil : (¬ (a ≠ b ∧ bt (I 81 15) a = true ∧ bt (I 81 15) b = true)) → sm_wp X 277 12 [some (.ref 81), some (.int (zI a)), some (.int (zI b + 1)), none, none, none, none, none] [] (sM mo G (rw2 I 130 q) J) Q := by
      intro h
      rw [show zI b + 1 = zI (b + 1) from zIr_add 1 b]
      refine hQ q (fun x hx => ?_) h2
      rw [h1 x hx]
      exact rv_no (fun y e => h ⟨e.1, e.2.1, e.2.2.1⟩)
    have n81 : (rw2 I 130 q) 81 = I 81 := rw2_n _ _ _ _ (by decide)
    have n85 : (rw2 I 130 q) 85 = I 85 := rw2_n _ _ _ _ (by decide)
    have pa : vf_Model_isPresent (rw2 I 130 q) (zI a) ↔ bt (I 81 15) a = true := by
      rw [mPres_vp (n := m) (by rw [n81]; exact hm) h6, n81, zI_sIn (by omega) (by omega), zI_cn (by omega)]
      exact ⟨fun e => e.2, fun e => ⟨ha, e⟩⟩
    have pb : vf_Model_isPresent (rw2 I 130 q) (zI b) ↔ bt (I 81 15) b = true := by
      rw [mPres_vp (n := m) (by rw [n81]; exact hm) h6, n81, zI_sIn (by omega) (by omega), zI_cn (by omega)]
      exact ⟨fun e => e.2, fun e => ⟨hb, e⟩⟩
    rw [lp_277_34, if_pos (by decide)]
    by_cases g1 : a = b
    · rw [if_pos (by rw [g1])]
      exact nil (fun e => e.1 g1)
    · rw [if_neg (by rw [zI_eq (by omega) (by omega)]; exact g1)]
      by_cases g2 : bt (I 81 15) a = true
      · rw [if_neg (fun e => e (pa.mpr g2))]
        by_cases g3 : bt (I 81 15) b = true
        · rw [if_pos (pb.mpr g3), ct_Mholdings _ _ _ _ _ _ (by rw [n81]; exact hn) h12, n85]
          simp only [tl_some]
          rw [lp_277_87, ct_Mholdings _ _ _ _ _ _ (by rw [n81]; exact hn) h12, n85]
          simp only [tl_some]
          rw [lp_277_92, show hlds (I 85) (zI a) n ||| hlds (I 85) (zI b) n = bth (I 85) n a b from rfl]
          obtain ⟨S, hS, eS⟩ := zI_bits (bth (I 85) n a b) (fun l hl => bth_hi h12 a b l (by omega))
          have hSn : ∀ l, n ≤ l → bt (zI S) l = false := by rw [← eS]; exact bth_hi h12 a b
          rw [eS]
          refine l2_277 hn h12 (by omega) (by omega) hW hT hSn (q0 := q0) ?_ S hS (Nat.and_self S) q (fun x hx => ?_) h2
          · intro q' k1 k2
            have c12 : ∀ l, 12 ≤ l → bt (zI S) l = false := fun l hl => hSn l (by omega)
            refine l3_277 (r4 := I 85) (W := I 91) (n := n) hT (q0 := q0) (fun x y => rch (I 91) (bth (I 85) n a b) a b 12 (x + 1) y) (fun x y => Iff.rfl) ?_ 1199 (Nat.le_refl _) q' (fun x hx hx2 => ?_) (fun x hx => ?_) k2
            · intro q2 j1 j2
              refine hQ q2 (fun x hx => rv_g (j1 x hx) (fun y => ?_)) j2
              constructor
              · rintro ⟨-, -, -, u, hu, e⟩
                have : u - 1 < 1200 := by
                  rcases Nat.lt_or_ge (wA (I 91) a (bth (I 85) n a b) 12) u with k | k
                  · exact absurd e (rch_no k y)
                  · have := wA_b hW a (bth (I 85) n a b) 12
                    omega
                refine ⟨u - 1, by omega, this, ?_⟩
                rw [show u - 1 + 1 = u from by omega]
                exact e
              · rintro ⟨u, hu, -, e⟩
                exact ⟨g1, g2, g3, u + 1, by omega, e⟩
            · have : x = 1199 := by omega
              subst this
              refine rv_g (k1 1199 (by decide)) (fun y => ?_)
              rw [vis_0 c12, ← eS]
              constructor
              · rintro ⟨u, hu, hu2, e⟩
                have : u = 1199 := by omega
                rw [this] at e
                exact e
              · intro e
                exact ⟨1199, Nat.le_refl _, by decide, e⟩
            · refine rv_g (k1 x (by omega)) (fun y => ?_)
              rw [vis_0 c12, ← eS]
          · rw [h1 x hx]
            refine rv_no ?_
            rintro y ⟨A, e1, e2, -⟩
            have : A ≤ S := by rw [← e1]; exact Nat.and_le_right
            omega
        · rw [if_neg (fun e => g3 (pb.mp e))]
          exact nil (fun e => g3 e.2.2)
      · rw [if_pos (fun e => g2 (pa.mp e))]
        exact nil (fun e => g2 e.2.1)
  | succ d ih =>
    intro i hi q h1 h2
    rw [lp_277_34, if_neg (by rw [zIl_le (c := 1200) (by decide) (by omega)]; show ¬ 1200 ≤ i; omega), zI_add, zI_vp (by omega), zI_cn (by omega), show zI i + 1 = zI (i + 1) from zIr_add 1 i, up2_rw, rw2_a, rw2_rw]
    refine ⟨by omega, ih (i + 1) (by omega) _ (fun x hx => ?_) (fun j hj => ?_)⟩
    · rw [va_ap]
      by_cases g : x = i
      · subst g; rw [if_pos rfl]
      · rw [if_neg (by omega)]; exact h1 x (by omega)
    · rw [va_ap, if_neg (by omega)]; exact h2 j hj
theorem lb_277 {n m a : Nat} (hn : I 81 3 = zI n) (h12 : n ≤ 12) (hm : I 81 10 = zI m) (h6 : m ≤ 6) (ha : a < m) (hW : okW (I 91))
    (hQ : ∀ q, (∀ c d, c < a + 1 → d < m → lvP (I 85) (I 91) (I 81 15) q n c d) → sm_wp X 277 2 [some (.ref 81), some (.int (zI (a + 1))), none, none, none, none, none, none] [] (sM mo G (rw2 I 130 q) J) Q) :
    ∀ d b, b + d = m → ∀ q, (∀ c d, c < a + 1 → d < m → (c < a ∨ d < b) → lvP (I 85) (I 91) (I 81 15) q n c d) → sm_wp X 277 12 [some (.ref 81), some (.int (zI a)), some (.int (zI b)), none, none, none, none, none] [] (sM mo G (rw2 I 130 q) J) Q := by
  intro d
  induction d with
  | zero =>
    intro b hb q h
    rw [lp_277_12, rw2_n _ _ _ _ (by decide), hm, if_pos (by rw [zI_le (by omega) (by omega)]; omega), show zI a + 1 = zI (a + 1) from zIr_add 1 a]
    exact hQ q (fun c d hc hd => h c d hc hd (by omega))
  | succ d ih =>
    intro b hb q h
    rw [lp_277_12, rw2_n _ _ _ _ (by decide), hm, if_neg (by rw [zI_le (by omega) (by omega)]; omega), show (1200 : Int32) * (6 * zI a + zI b) = zI (1200 * (6 * a + b)) from by rw [show (6 : Int32) * zI a = zI (6 * a) from zIl_mul 6 a, zI_add]; exact zIl_mul 1200 _]
    refine l1_277 hn h12 hm h6 ha (by omega) hW (q0 := q) ?_ 1200 0 (by omega) q (fun x hx => absurd hx (Nat.not_lt_zero _)) (fun j _ => rfl)
    intro q' k1 k2
    refine ih (b + 1) (by omega) q' (fun c e hc he hce => ?_)
    by_cases g : c = a ∧ e = b
    · obtain ⟨rfl, rfl⟩ := g
      exact k1
    · intro x hx
      rw [k2 _ (by omega)]
      exact h c e hc he (by omega) x hx
theorem ct_277 {n m : Nat} (hn : I 81 3 = zI n) (h12 : n ≤ 12) (hm : I 81 10 = zI m) (h6 : m ≤ 6) (hW : okW (I 91))
    (hQ : ∀ q, (∀ c d, c < m → d < m → lvP (I 85) (I 91) (I 81 15) q n c d) → Q none (sM mo G (rw2 I 130 q) J)) :
    sm_wp X 277 0 [some (.ref 81), none, none, none, none, none, none, none] [] (sM mo G I J) Q := by
  have key : ∀ d a, a + d = m → ∀ q, (∀ c d, c < a → d < m → lvP (I 85) (I 91) (I 81 15) q n c d) → sm_wp X 277 2 [some (.ref 81), some (.int (zI a)), none, none, none, none, none, none] [] (sM mo G (rw2 I 130 q) J) Q := by
    intro d
    induction d with
    | zero =>
      intro a ha q h
      rw [lp_277_2, rw2_n _ _ _ _ (by decide), hm, if_pos (by rw [zI_le (by omega) (by omega)]; omega)]
      exact hQ q (fun c d hc hd => h c d (by omega) hd)
    | succ d ih =>
      intro a ha q h
      rw [lp_277_2, rw2_n _ _ _ _ (by decide), hm, if_neg (by rw [zI_le (by omega) (by omega)]; omega)]
      exact lb_277 hn h12 hm h6 (by omega) hW (fun q' k => ih (a + 1) (by omega) q' k) m 0 (by omega) q (fun c d hc hd hcd => h c d (by omega) hd)
  rw [lp_277_0]
  have k := key m 0 (by omega) (I 130) (fun c d hc => absurd hc (Nat.not_lt_zero _))
  rw [rw2_self] at k
  exact k
end S5
