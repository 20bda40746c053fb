/-! Tokens: what they are; the class reads them. -/
def wC : List (List Nat) := [[116, 97, 107, 101], [114, 101, 102, 117, 115, 101], [97, 115, 107], [104, 111, 109, 101], [110, 111, 116], [97, 110, 100], [111, 114], [103, 97, 105, 110], [103, 111, 116], [108, 111, 115, 116], [115, 111, 117, 108, 115], [110, 101, 97, 114], [109, 105, 110, 101], [98, 111, 117, 110, 100], [114, 97, 110, 107], [111, 116, 104, 101, 114], [100, 97, 121], [108, 101, 102, 116], [108, 105, 110, 107, 101, 100]]
def wR : List (List Nat) := [[116, 97, 107, 101], [114, 101, 102, 117, 115, 101], [97, 115, 107], [104, 111, 109, 101], [111, 114], [97, 110, 100], [110, 111, 116], [103, 97, 105, 110], [103, 111, 116], [108, 111, 115, 116], [115, 111, 117, 108, 115], [110, 101, 97, 114], [109, 105, 110, 101], [98, 111, 117, 110, 100], [114, 97, 110, 107], [111, 116, 104, 101, 114], [100, 97, 121], [108, 101, 102, 116], [108, 105, 110, 107, 101, 100]]
def fi (p : List Nat → Bool) : List (List Nat) → Nat → Nat → Nat
  | [], _, d => d
  | w :: r, k, d => if p w = true then k else fi p r (k + 1) d
theorem fi_c {p q : List Nat → Bool} {d : Nat} : ∀ (ws : List (List Nat)) (k : Nat), (∀ w, w ∈ ws → p w = q w) → fi p ws k d = fi q ws k d
  | [], _, _ => rfl
  | w :: r, k, h => by
    unfold fi
    rw [h w (List.mem_cons_self ..), fi_c r (k + 1) (fun v hv => h v (List.mem_cons_of_mem _ hv))]
def prm (i : Nat) : Nat := if i = 4 then 6 else if i = 6 then 4 else i
theorem wds {p : List Nat → Bool} (hu : ∀ w v, p w = true → p v = true → w = v) : (fi p wC 0 35 = 35 ∧ fi p wR 0 99 = 99) ∨ ∃ i, i < 19 ∧ fi p wC 0 35 = i ∧ fi p wR 0 99 = prm i := by
  by_cases h : ∃ w, w ∈ wC ∧ p w = true
  · obtain ⟨w, hw, hp⟩ := h
    right
    have e : ∀ ws : List (List Nat), ∀ v, v ∈ ws → p v = (v == w) := by
      intro ws v _
      by_cases g : v = w
      · rw [g, hp]; exact (beq_self_eq_true w).symm
      · cases c : p v with
        | true => exact absurd (hu v w c hp) g
        | false => exact (beq_eq_false_iff_ne.mpr g).symm
    have e1 : fi p wC 0 35 = fi (fun v => v == w) wC 0 35 := fi_c wC 0 (e wC)
    have e2 : fi p wR 0 99 = fi (fun v => v == w) wR 0 99 := fi_c wR 0 (e wR)
    rw [e1, e2]
    have all : ∀ w, w ∈ wC → fi (fun v => v == w) wC 0 35 < 19 ∧ fi (fun v => v == w) wR 0 99 = prm (fi (fun v => v == w) wC 0 35) := by decide
    exact ⟨_, (all w hw).1, rfl, (all w hw).2⟩
  · left
    have hn : ∀ w, w ∈ wC → p w = false := fun w hw => by
      cases c : p w with
      | false => rfl
      | true => exact absurd ⟨w, hw, c⟩ h
    have sub : ∀ w, w ∈ wR → w ∈ wC := by decide
    have e1 : fi p wC 0 35 = fi (fun _ => false) wC 0 35 := fi_c wC 0 hn
    have e2 : fi p wR 0 99 = fi (fun _ => false) wR 0 99 := fi_c wR 0 (fun w hw => hn w (sub w hw))
    rw [e1, e2]
    exact ⟨rfl, rfl⟩
/-- the word from q to e -/
def mtc (B : Nat → Nat) (q e : Nat) (w : List Nat) : Prop := q + w.length = e ∧ ∀ j, j < w.length → B (q + j) = w.getD j 0
theorem mtc_u {B : Nat → Nat} {q e : Nat} : ∀ w v, pB (mtc B q e w) = true → pB (mtc B q e v) = true → w = v := by
  intro w v h k
  have h := pB_t.mp h
  have k := pB_t.mp k
  apply List.ext_getElem
  · have := h.1; have := k.1; omega
  · intro j h1 h2
    have a := h.2 j h1
    have b := k.2 j h2
    rw [List.getD_eq_getElem?_getD, List.getElem?_eq_getElem h1] at a
    rw [List.getD_eq_getElem?_getD, List.getElem?_eq_getElem h2] at b
    exact a.symm.trans b
noncomputable def wcd (B : Nat → Nat) (q e : Nat) : Nat := fi (fun w => pB (mtc B q e w)) wC 0 35
/-- as long as it holds -/
def sp (P : Nat → Bool) : Nat → Nat → Nat
  | 0, q => q
  | f + 1, q => if P q = true then sp P f (q + 1) else q
theorem sp_b (P : Nat → Bool) : ∀ f q, q ≤ sp P f q ∧ sp P f q ≤ q + f := by
  intro f
  induction f with
  | zero => intro q; exact ⟨Nat.le_refl _, Nat.le_refl _⟩
  | succ f ih =>
    intro q
    unfold sp
    split
    · have := ih (q + 1); omega
    · omega
def isBl (B : Nat → Nat) (j : Nat) : Bool := decide (B j = 10) || decide (B j = 32)
def isLt (B : Nat → Nat) (j : Nat) : Bool := decide (97 ≤ B j) && decide (B j ≤ 122)
def isDt (B : Nat → Nat) (j : Nat) : Bool := decide (48 ≤ B j) && decide (B j ≤ 57)
/-- a sign: its code and its length -/
def sgC (b c : Nat) : Nat × Nat := if b = 37 then (23, 1) else if b = 40 then (30, 1) else if b = 41 then (31, 1) else if b = 42 then (21, 1) else if b = 43 then (19, 1) else if b = 45 then (20, 1) else if b = 47 then (22, 1) else if b = 59 then (32, 1) else if b = 60 then (if c = 61 then (25, 2) else if c = 62 then (27, 2) else (24, 1)) else if b = 61 then (26, 1) else if b = 62 then (if c = 61 then (28, 2) else (29, 1)) else (35, 1)
/-- the byte behind, or none -/
def nxB (B : Nat → Nat) (n q : Nat) : Nat := if q + 1 < n then B (q + 1) else 0
/-- a number, as the class has it -/
def nuC (B : Nat → Nat) (q k : Nat) : Nat := up (fun i a => if 100000 < a * 10 + B (q + i) - 48 then 100000 else a * 10 + B (q + i) - 48) k 0
def plc (B : Nat → Nat) (n p : Nat) : Nat := sp (isBl B) (n - p) p
noncomputable def tkN (B : Nat → Nat) (n q : Nat) : Nat × Nat := if n ≤ q then (34, q) else if isLt B q = true then (wcd B q (sp (isLt B) (n - q) q), sp (isLt B) (n - q) q) else if isDt B q = true then (36, sp (isDt B) (n - q) q) else ((sgC (B q) (nxB B n q)).1, q + (sgC (B q) (nxB B n q)).2)
theorem by_8 : ∀ b : Fin 256, ∀ c : Fin 128, ((zI b.val).toInt8.toInt32 = zI c.val ↔ b.val = c.val) := by decide +kernel
theorem by_r : ∀ b : Fin 256, (vf_Tape_isLetter (zI b.val).toInt8.toInt32 ↔ (97 ≤ b.val ∧ b.val ≤ 122)) ∧ (vf_Tape_isDigit (zI b.val).toInt8.toInt32 ↔ (48 ≤ b.val ∧ b.val ≤ 57)) ∧ (vf_Tape_isBlank (zI b.val).toInt8.toInt32 ↔ (b.val = 10 ∨ b.val = 32)) := by decide +kernel
theorem by_z : ∀ b : Fin 128, (zI b.val).toInt8.toInt32 = zI b.val := by decide +kernel
/-- the tape by the class -/
def tpC (B : Nat → Nat) (r15 : Nat → Int32) : Prop := ∀ j, B j < 256 ∧ r15 j = (zI (B j)).toInt8.toInt32
section K1
variable {X : (Nat → Int32) × Nat} {mo : Bool} {G : Nat × Nat} {I : Nat → Nat → Int32} {J : Nat → Nat → Int64} {Q : Option Value → sm_M → Prop}
theorem byt {B : Nat → Nat} {n j : Nat} (hT : tpC B (I 15)) (h4 : I 14 4 = zI n) (hn : n ≤ 400) (hj : j < n) : vf_Tape_byteAt I (zI j) = (zI (B j)).toInt8.toInt32 := by
  unfold vf_Tape_byteAt
  rw [if_neg (by rw [zIr_lt (c := 0) (by decide) (by omega)]; exact Nat.not_lt_zero _), if_neg (by rw [h4, zI_le (by omega) (by omega)]; omega), if_neg (by rw [zIl_le (c := 400) (by decide) (by omega)]; show ¬ 400 ≤ j; omega), zI_cn (by omega)]
  exact (hT j).2
theorem byt_e {B : Nat → Nat} {n j c : Nat} (hT : tpC B (I 15)) (h4 : I 14 4 = zI n) (hn : n ≤ 400) (hj : j < n) (hc : c < 128) : vf_Tape_byteAt I (zI j) = zI c ↔ B j = c := by
  rw [byt hT h4 hn hj]
  exact by_8 ⟨B j, (hT j).1⟩ ⟨c, hc⟩
theorem byt_L {B : Nat → Nat} {n j : Nat} (hT : tpC B (I 15)) (h4 : I 14 4 = zI n) (hn : n ≤ 400) (hj : j < n) : vf_Tape_isLetter (vf_Tape_byteAt I (zI j)) ↔ isLt B j = true := by
  rw [byt hT h4 hn hj]
  unfold isLt
  rw [Bool.and_eq_true, decide_eq_true_iff, decide_eq_true_iff]
  exact (by_r ⟨B j, (hT j).1⟩).1
theorem byt_D {B : Nat → Nat} {n j : Nat} (hT : tpC B (I 15)) (h4 : I 14 4 = zI n) (hn : n ≤ 400) (hj : j < n) : vf_Tape_isDigit (vf_Tape_byteAt I (zI j)) ↔ isDt B j = true := by
  rw [byt hT h4 hn hj]
  unfold isDt
  rw [Bool.and_eq_true, decide_eq_true_iff, decide_eq_true_iff]
  exact (by_r ⟨B j, (hT j).1⟩).2.1
theorem byt_B {B : Nat → Nat} {n j : Nat} (hT : tpC B (I 15)) (h4 : I 14 4 = zI n) (hn : n ≤ 400) (hj : j < n) : vf_Tape_isBlank (vf_Tape_byteAt I (zI j)) ↔ isBl B j = true := by
  rw [byt hT h4 hn hj]
  unfold isBl
  rw [Bool.or_eq_true, decide_eq_true_iff, decide_eq_true_iff]
  exact (by_r ⟨B j, (hT j).1⟩).2.2
/-- the words, one after the other -/
theorem rw_1 {B : Nat → Nat} {n q e : Nat} (hT : tpC B (I 15)) (h4 : I 14 4 = zI n) (hn : n ≤ 400) (hq : I 14 1 = zI q) (he : I 14 5 = zI e) (hqe : q ≤ e) (hen : e ≤ n) {w : List Nat} {o k : Nat} (ho : o + w.length < 95) (hw : ∀ j, j < w.length → sm_words.getD (o + j) 0 = zI (w.getD j 0) ∧ w.getD j 0 < 128 ∧ ¬ w.getD j 0 = 32) (hb : sm_words.getD (o + w.length) 0 = 32) (hk : k < 100) :
    ∀ d j, j + d = w.length → ∀ x : Int32, (x = 1 ∧ (∀ i, i < j → q + i < e ∧ B (q + i) = w.getD i 0) ∨ x = 0 ∧ ¬ ∀ i, i < j → q + i < e ∧ B (q + i) = w.getD i 0) → sm_wp X 160 50 [some (.ref 14), some (.int (zI k)), some (.int (zI (q + j))), some (.int x), some (.int (zI (o + j))), none] [] (sM mo G I J) Q = if pB (mtc B q e w) = true then Q (some (.int (zI k))) (sM mo G I J) else sm_wp X 160 50 [some (.ref 14), some (.int (zI (k + 1))), some (.int (zI (q + 0))), some (.int 1), some (.int (zI (o + w.length + 1))), none] [] (sM mo G I J) Q := by
  intro d
  induction d with
  | zero =>
    intro j hj x hx
    have : j = w.length := by omega
    subst this
    rw [lp_160_50, if_neg (by rw [zIl_le (c := 95) (by decide) (by omega)]; show ¬ 95 ≤ o + w.length; omega), zI_vp (by omega), zI_cn (by omega), eq_true (by omega : o + w.length < 95), true_and, if_pos hb, hq, he, show zI k + 1 = zI (k + 1) from zIr_add 1 k, show zI (o + w.length) + 1 = zI (o + w.length + 1) from zIr_add 1 _, Nat.add_zero]
    rcases hx with ⟨rfl, hx⟩ | ⟨rfl, hx⟩
    · rw [if_neg (by decide)]
      by_cases g : q + w.length = e
      · rw [if_neg (by rw [g]; exact fun e => e rfl), if_pos (pB_t.mpr ⟨g, fun i hi => (hx i hi).2⟩)]
      · rw [if_pos (by rw [zI_eq (by omega) (by omega)]; exact g), if_neg (fun m => g (pB_t.mp m).1)]
        rfl
    · rw [if_pos rfl, if_neg (fun m => hx (fun i hi => ⟨by have := (pB_t.mp m).1; omega, (pB_t.mp m).2 i hi⟩))]
      rfl
  | succ d ih =>
    intro j hj x hx
    have jw : j < w.length := by omega
    have hwj := hw j jw
    rw [lp_160_50, if_neg (by rw [zIl_le (c := 95) (by decide) (by omega)]; show ¬ 95 ≤ o + j; omega), zI_vp (by omega), zI_cn (by omega), eq_true (by omega : o + j < 95), true_and, if_neg (by rw [hwj.1, zIr_eq (c := 32) (by decide) (by omega)]; exact hwj.2.2), show zI (q + j) + 1 = zI (q + (j + 1)) from zIr_add 1 _, show zI (o + j) + 1 = zI (o + (j + 1)) from zIr_add 1 _]
    have no : (¬ ∀ i, i < j + 1 → q + i < e ∧ B (q + i) = w.getD i 0) → sm_wp X 160 50 [some (.ref 14), some (.int (zI k)), some (.int (zI (q + (j + 1)))), some (.int 0), some (.int (zI (o + (j + 1)))), none] [] (sM mo G I J) Q = if pB (mtc B q e w) = true then Q (some (.int (zI k))) (sM mo G I J) else sm_wp X 160 50 [some (.ref 14), some (.int (zI (k + 1))), some (.int (zI (q + 0))), some (.int 1), some (.int (zI (o + w.length + 1))), none] [] (sM mo G I J) Q := fun hn => ih (j + 1) (by omega) 0 (Or.inr ⟨rfl, hn⟩)
    rcases hx with ⟨rfl, hx⟩ | ⟨rfl, hx⟩
    · rw [if_neg (by decide), he]
      by_cases g : q + j < e
      · rw [if_neg (by rw [zI_le (by omega) (by omega)]; omega), hwj.1]
        by_cases g2 : B (q + j) = w.getD j 0
        · rw [if_neg (fun c => c ((byt_e hT h4 hn (by omega) hwj.2.1).mpr g2))]
          refine ih (j + 1) (by omega) 1 (Or.inl ⟨rfl, fun i hi => ?_⟩)
          by_cases e3 : i = j
          · rw [e3]; exact ⟨g, g2⟩
          · exact hx i (by omega)
        · rw [if_pos (fun c => g2 ((byt_e hT h4 hn (by omega) hwj.2.1).mp c))]
          exact no (fun a => g2 (a j (by omega)).2)
      · rw [if_pos (by rw [zI_le (by omega) (by omega)]; omega)]
        exact no (fun a => g (a j (by omega)).1)
    · rw [if_pos rfl]
      exact no (fun a => hx (fun i hi => a i (by omega)))
def ofs : List (List Nat) → Nat → Bool
  | [], o => decide (o = 95)
  | w :: r, o => decide (o + w.length < 95) && (List.range w.length).all (fun j => decide (sm_words.getD (o + j) 0 = zI (w.getD j 0)) && (decide (w.getD j 0 < 128) && decide (¬ w.getD j 0 = 32))) && decide (sm_words.getD (o + w.length) 0 = 32) && ofs r (o + w.length + 1)
theorem rw_2 {B : Nat → Nat} {n q e : Nat} (hT : tpC B (I 15)) (h4 : I 14 4 = zI n) (hn : n ≤ 400) (hq : I 14 1 = zI q) (he : I 14 5 = zI e) (hqe : q ≤ e) (hen : e ≤ n) : ∀ (ws : List (List Nat)) (o k : Nat), ofs ws o = true → k + ws.length < 100 → sm_wp X 160 50 [some (.ref 14), some (.int (zI k)), some (.int (zI (q + 0))), some (.int 1), some (.int (zI o)), none] [] (sM mo G I J) Q = Q (some (.int (zI (fi (fun w => pB (mtc B q e w)) ws k 35)))) (sM mo G I J)
  | [], o, k, h, _ => by
    have h' : o = 95 := decide_eq_true_iff.mp h
    rw [lp_160_50, if_pos (by rw [h']; decide)]
    rfl
  | w :: r, o, k, h, hk => by
    unfold ofs at h
    simp only [Bool.and_eq_true, decide_eq_true_iff, List.all_eq_true, List.mem_range] at h
    obtain ⟨⟨⟨h1, h2⟩, h3⟩, h5⟩ := h
    rw [List.length_cons] at hk
    have s := rw_1 (X := X) (mo := mo) (G := G) (J := J) (Q := Q) hT h4 hn hq he hqe hen (w := w) (o := o) (k := k) h1 (fun j hj => h2 j hj) h3 (by omega) w.length 0 (by omega) 1 (Or.inl ⟨rfl, fun i hi => absurd hi (Nat.not_lt_zero _)⟩)
    rw [Nat.add_zero o] at s
    rw [s]
    unfold fi
    by_cases g : pB (mtc B q e w) = true
    · rw [if_pos g, if_pos g]
    · rw [if_neg g, if_neg g]
      exact rw_2 hT h4 hn hq he hqe hen r (o + w.length + 1) (k + 1) h5 (by omega)
theorem ofs_C : ofs wC 0 = true := by decide
/-- the tape's row, one more read -/
def tpR (r14 : Nat → Int32) (n q e : Nat) : Prop := r14 4 = zI n ∧ r14 1 = zI q ∧ r14 5 = zI e
theorem ct_160 {B : Nat → Nat} {n q : Nat} (hT : tpC B (I 15)) (h4 : I 14 4 = zI n) (hn : n ≤ 400) (hq : I 14 1 = zI q) : ∀ f e, e + f = n → q ≤ e → ∀ K, (∀ c, c ≠ 14 → K c = I c) → (∀ j, j ≠ 5 → K 14 j = I 14 j) → K 14 5 = zI e → (hQ : ∀ L, (∀ c, c ≠ 14 → L c = I c) → (∀ j, j ≠ 5 → L 14 j = I 14 j) → L 14 5 = zI (sp (isLt B) f e) → Q (some (.int (zI (wcd B q (sp (isLt B) f e))))) (sM mo G L J)) → sm_wp X 160 0 [some (.ref 14), none, none, none, none, none] [] (sM mo G K J) Q := by
  intro f
  induction f with
  | zero =>
    intro e hf hqe K k1 k2 k5 hQ
    have e4 : K 14 4 = zI n := by rw [k2 4 (by decide)]; exact h4
    have e1 : K 14 1 = zI q := by rw [k2 1 (by decide)]; exact hq
    rw [lp_160_0, if_pos (by rw [e4, k5, zI_le (by omega) (by omega)]; omega), e1]
    have s := rw_2 (X := X) (mo := mo) (G := G) (J := J) (Q := Q) (by rw [k1 15 (by decide)]; exact hT) e4 hn e1 k5 hqe (by omega) wC 0 0 ofs_C (by decide)
    rw [Nat.add_zero] at s
    exact s.mpr (hQ K k1 k2 k5)
  | succ f ih =>
    intro e hf hqe K k1 k2 k5 hQ
    have e4 : K 14 4 = zI n := by rw [k2 4 (by decide)]; exact h4
    have e1 : K 14 1 = zI q := by rw [k2 1 (by decide)]; exact hq
    have T : tpC B (K 15) := by rw [k1 15 (by decide)]; exact hT
    rw [lp_160_0, if_neg (by rw [e4, k5, zI_le (by omega) (by omega)]; omega), k5]
    have un : sp (isLt B) (f + 1) e = if isLt B e = true then sp (isLt B) f (e + 1) else e := rfl
    by_cases g : isLt B e = true
    · rw [if_pos g] at un
      rw [if_neg (fun c => c ((byt_L T e4 hn (by omega)).mpr g)), show zI e + 1 = zI (e + 1) from zIr_add 1 e]
      refine ih (e + 1) (by omega) (by omega) _ (fun c hc => by rw [up2_rn _ _ _ _ _ hc]; exact k1 c hc) (fun j hj => by rw [up2_ra, va_ap, if_neg hj]; exact k2 j hj) up2_ss ?_
      rw [un] at hQ
      exact hQ
    · rw [if_neg g] at un
      rw [if_pos (fun c => g ((byt_L T e4 hn (by omega)).mp c)), e1]
      have s := rw_2 (X := X) (mo := mo) (G := G) (J := J) (Q := Q) T e4 hn e1 k5 hqe (by omega) wC 0 0 ofs_C (by decide)
      rw [Nat.add_zero] at s
      rw [un] at hQ
      exact s.mpr (hQ K k1 k2 k5)
theorem nuC_s (B : Nat → Nat) (q k : Nat) : nuC B q (k + 1) = if 100000 < nuC B q k * 10 + B (q + k) - 48 then 100000 else nuC B q k * 10 + B (q + k) - 48 := by
  unfold nuC
  rw [up_s]
theorem nuC_b (B : Nat → Nat) (q : Nat) : ∀ k, nuC B q k ≤ 100000 := by
  intro k
  induction k with
  | zero => exact Nat.zero_le _
  | succ k ih => rw [nuC_s]; split <;> omega
theorem ct_162 {B : Nat → Nat} {n q : Nat} (hT : tpC B (I 15)) (h4 : I 14 4 = zI n) (hn : n ≤ 400) : ∀ f k, q + k + f = n → ∀ K, (∀ c, c ≠ 14 → K c = I c) → (∀ j, j ≠ 5 → j ≠ 2 → K 14 j = I 14 j) → K 14 5 = zI (q + k) → K 14 2 = zI (nuC B q k) → (hQ : ∀ L, (∀ c, c ≠ 14 → L c = I c) → (∀ j, j ≠ 5 → j ≠ 2 → L 14 j = I 14 j) → L 14 5 = zI (sp (isDt B) f (q + k)) → L 14 2 = zI (nuC B q (sp (isDt B) f (q + k) - q)) → Q (some (.int 36)) (sM mo G L J)) → sm_wp X 162 5 [some (.ref 14)] [] (sM mo G K J) Q := by
  intro f
  induction f with
  | zero =>
    intro k hf K k1 k2 k5 kn hQ
    have e4 : K 14 4 = zI n := by rw [k2 4 (by decide) (by decide)]; exact h4
    rw [lp_162_5, if_pos (by rw [e4, k5, zI_le (by omega) (by omega)]; omega)]
    refine hQ K k1 k2 k5 ?_
    show K 14 2 = zI (nuC B q (q + k - q))
    rw [Nat.add_sub_cancel_left]
    exact kn
  | succ f ih =>
    intro k hf K k1 k2 k5 kn hQ
    have e4 : K 14 4 = zI n := by rw [k2 4 (by decide) (by decide)]; exact h4
    have T : tpC B (K 15) := by rw [k1 15 (by decide)]; exact hT
    have un : sp (isDt B) (f + 1) (q + k) = if isDt B (q + k) = true then sp (isDt B) f (q + k + 1) else q + k := rfl
    rw [lp_162_5, if_neg (by rw [e4, k5, zI_le (by omega) (by omega)]; omega), k5]
    by_cases g : isDt B (q + k) = true
    · have dd : 48 ≤ B (q + k) ∧ B (q + k) ≤ 57 := by
        unfold isDt at g
        rw [Bool.and_eq_true, decide_eq_true_iff, decide_eq_true_iff] at g
        exact g
      have nb := nuC_b B q k
      rw [if_pos g] at un
      rw [if_neg (fun c => c ((byt_D T e4 hn (by omega)).mpr g)), byt T e4 hn (by omega), by_z ⟨B (q + k), by omega⟩, kn, show zI (nuC B q k) * 10 = zI (nuC B q k * 10) from zIr_mul 10 _, zI_add, show zI (nuC B q k * 10 + B (q + k)) - 48 = zI (nuC B q k * 10 + B (q + k) - 48) from zIr_sub (c := 48) (by show 48 ≤ nuC B q k * 10 + B (q + k); omega), show zI (q + k) + 1 = zI (q + (k + 1)) from zIr_add 1 _]
      have ev : (if (100000 : Int32) < zI (nuC B q k * 10 + B (q + k) - 48) then 100000 else zI (nuC B q k * 10 + B (q + k) - 48)) = zI (nuC B q (k + 1)) := by
        rw [nuC_s]
        by_cases c : 100000 < nuC B q k * 10 + B (q + k) - 48
        · rw [if_pos c, if_pos (by rw [zIl_lt (c := 100000) (by decide) (by omega)]; exact c)]; rfl
        · rw [if_neg c, if_neg (by rw [zIl_lt (c := 100000) (by decide) (by omega)]; exact c)]
      rw [ev]
      refine ih (k + 1) (by omega) _ (fun c hc => by rw [up2_rn _ _ _ _ _ hc, up2_rn _ _ _ _ _ hc]; exact k1 c hc) (fun j hj hj2 => by rw [up2_ra, va_ap, if_neg hj, up2_ra, va_ap, if_neg hj2]; exact k2 j hj hj2) up2_ss (by rw [up2_ra, va_ap, if_neg (by decide), up2_ra, va_ap, if_pos rfl]) ?_
      rw [un] at hQ
      exact hQ
    · rw [if_neg g] at un
      rw [if_pos (fun c => g ((byt_D T e4 hn (by omega)).mp c))]
      rw [un, Nat.add_sub_cancel_left] at hQ
      exact hQ K k1 k2 k5 kn
end K1
