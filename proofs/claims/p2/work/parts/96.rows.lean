/-! Orders: the reference's rows while they are read. -/
def wtc (s : Nat) : Nat := if s = 30 then 100 else kdc s
def rS (q : Nat → Int32) (z w d kn o : Nat) (cm : Int32) : Prop := q 34 = zI kn ∧ q 35 = zI z ∧ (¬ d = 0 → q 38 = zI w ∧ q 42 = zI o ∧ q 43 = (if bt cm o = true then 1 else 0) ∧ (q 44 = if d = 3 then 0 else 1) ∧ (¬ d = 3 → q 45 = if d = 1 then 1 else 0))
def rG (z kn : Nat) (c gb : Nat → Nat) (r94 r97 r98 : Nat → Int32) : Prop := ∀ i, i < z → r98 (384 + i) = zI (384 + gb i) ∧ gb i < kn ∧ r94 (384 + gb i) = zI (kdc (c i)) ∧ r97 (384 + gb i) = zI (amc (c i))
def rW (w kn : Nat) (sg wo : Nat → Nat) (r94 r97 r103 r104 : Nat → Int32) : Prop := ∀ j, j < w → r103 j = zI (wtc (sg j)) ∧ (¬ sg j = 30 → r104 j = zI (384 + wo j) ∧ wo j < kn ∧ r94 (384 + wo j) = zI (kdc (sg j)) ∧ r97 (384 + wo j) = 0)
def rI (z w : Nat) (sg gb wo : Nat → Nat) : Prop := (∀ i k, i < z → k < z → gb i = gb k → i = k) ∧ (∀ i j, i < z → j < w → ¬ sg j = 30 → ¬ gb i = wo j) ∧ (∀ j k, j < w → k < w → ¬ sg j = 30 → ¬ sg k = 30 → wo j = wo k → j = k)
def rB (m z w kn f : Nat) (c gb sg wo le : Nat → Nat) (r94 r95 r96 r97 r98 r103 r104 : Nat → Int32) : Prop :=
  rG z kn c gb r94 r97 r98 ∧ rW w kn sg wo r94 r97 r103 r104 ∧ rI z w sg gb wo ∧ (∀ i, i < m → le i ≤ z ∧ rL 384 (ls le i) (le i) c gb r95 r96) ∧ f ≤ z ∧ rL 384 f z c gb r95 r96
def rH (f z : Nat) (c gb : Nat → Nat) (r105 : Nat → Int32) (q40 : Int32) : Prop := q40 = zI (hg c f (z - f)) ∧ ∀ j, j < hg c f (z - f) → r105 j = zI (384 + hs c gb f (z - f) j)
def rV (m d : Nat) (vb le : Nat → Nat) (r99 r100 r101 : Nat → Int32) (x : Int32) : Prop := (∀ i, i < m + on d → r99 (96 + i) = zI (vb i) ∧ r100 (96 + i) = zI (ls le i)) ∧ (∀ i, i < m → r101 (96 + i) = zI (le i - ls le i)) ∧ x = zI m
def rC (o : Nat) (cm : Int32) (r106 : Nat → Int32) : Prop := ∀ j, j < o → r106 j = if bt cm j = true then 1 else 0
theorem vs_a (f : Nat → Int32) (k : Nat) (v : Int32) : va_up f k v k = v := if_pos rfl
theorem vs_n (f : Nat → Int32) {k j : Nat} (v : Int32) (h : ¬ j = k) : va_up f k v j = f j := if_neg h
theorem rL_c {b f e : Nat} {c c' g g' : Nat → Nat} {r95 r96 r95' r96' : Nat → Int32} (hc : ∀ i, f ≤ i → i < e → c i = c' i ∧ g i = g' i) (hr : ∀ i, f ≤ i → i < e → r95' (b + g i) = r95 (b + g i) ∧ r96' (b + g i) = r96 (b + g i)) (h : rL b f e c g r95 r96) : rL b f e c' g' r95' r96' := by
  intro k hk
  obtain ⟨h1, h2⟩ := h k hk
  obtain ⟨c1, g1⟩ := hc (f + k) (by omega) hk
  obtain ⟨s1, s2⟩ := hr (f + k) (by omega) hk
  rw [← c1, ← g1, s1, s2, ← hs_c (c := c) (g := g) k (fun i a b => hc i a (by omega)), ← hg_c (c := c) k (fun i a b => (hc i a (by omega)).1)]
  exact ⟨h1, h2⟩
/-- a new node -/
theorem rB_g {m z w kn f : Nat} {c gb sg wo le : Nat → Nat} {r94 r95 r96 r97 r98 r103 r104 : Nat → Int32} (a b e x : Int32) (h : rB m z w kn f c gb sg wo le r94 r95 r96 r97 r98 r103 r104) :
    rB m z w (kn + 1) f c gb sg wo le (va_up r94 (384 + kn) a) (va_up r95 (384 + kn) b) (va_up r96 (384 + kn) e) (va_up r97 (384 + kn) x) r98 r103 r104 := by
  obtain ⟨hG, hW, hI, hL, hf, hl⟩ := h
  refine ⟨fun i hi => ?_, fun j hj => ?_, hI, fun i hi => ⟨(hL i hi).1, rL_c (fun _ _ _ => ⟨rfl, rfl⟩) (fun k _ hk => ?_) (hL i hi).2⟩, hf, rL_c (fun _ _ _ => ⟨rfl, rfl⟩) (fun k _ hk => ?_) hl⟩
  · obtain ⟨g1, g2, g3, g4⟩ := hG i hi
    refine ⟨g1, by omega, ?_, ?_⟩
    · rw [vs_n _ _ (by omega)]; exact g3
    · rw [vs_n _ _ (by omega)]; exact g4
  · obtain ⟨w1, w2⟩ := hW j hj
    refine ⟨w1, fun hs => ?_⟩
    obtain ⟨g1, g2, g3, g4⟩ := w2 hs
    refine ⟨g1, by omega, ?_, ?_⟩
    · rw [vs_n _ _ (by omega)]; exact g3
    · rw [vs_n _ _ (by omega)]; exact g4
  · have := (hG k (by have := (hL i hi).1; omega)).2.1
    exact ⟨vs_n _ _ (by omega), vs_n _ _ (by omega)⟩
  · have := (hG k hk).2.1
    exact ⟨vs_n _ _ (by omega), vs_n _ _ (by omega)⟩
/-- a node is put behind, with its links -/
theorem rB_e {m z w kn f x g : Nat} {c gb sg wo le : Nat → Nat} {r94 r95 r96 r97 r98 r103 r104 r95' r96' : Nat → Int32} (h : rB m z w kn f c gb sg wo le r94 r95 r96 r97 r98 r103 r104) (hg0 : g < kn) (h94 : r94 (384 + g) = zI (kdc x)) (h97 : r97 (384 + g) = zI (amc x)) (n1 : ∀ i, i < z → ¬ gb i = g) (n2 : ∀ j, j < w → ¬ sg j = 30 → ¬ wo j = g)
    (k5 : ∀ j, ¬ j = 384 + g → r95' j = r95 j) (k6 : ∀ j, ¬ j = 384 + g → r96' j = r96 j) (l1 : ar x = 1 → r95' (384 + g) = zI (384 + hs c gb f (z - f) (hg c f (z - f) - 1))) (l2 : ar x = 2 → r96' (384 + g) = zI (384 + hs c gb f (z - f) (hg c f (z - f) - 1)) ∧ r95' (384 + g) = zI (384 + hs c gb f (z - f) (hg c f (z - f) - 2))) :
    rB m (z + 1) w kn f (va_up c z x) (va_up gb z g) sg wo le r94 r95' r96' r97 (va_up r98 (384 + z) (zI (384 + g))) r103 r104 := by
  obtain ⟨hG, hW, ⟨i1, i2, i3⟩, hL, hf, hl⟩ := h
  have cc : ∀ i, i < z → c i = va_up c z x i ∧ gb i = va_up gb z g i := fun i hi => ⟨(va_n _ _ (by omega)).symm, (va_n _ _ (by omega)).symm⟩
  have rr : ∀ i, i < z → r95' (384 + gb i) = r95 (384 + gb i) ∧ r96' (384 + gb i) = r96 (384 + gb i) := fun i hi => ⟨k5 _ (by have := n1 i hi; omega), k6 _ (by have := n1 i hi; omega)⟩
  refine ⟨fun i hi => ?_, hW, ⟨fun i k hi hk e => ?_, fun i j hi hj hs e => ?_, i3⟩, fun i hi => ⟨by have := (hL i hi).1; omega, rL_c (fun k _ hk => cc k (by have := (hL i hi).1; omega)) (fun k _ hk => rr k (by have := (hL i hi).1; omega)) (hL i hi).2⟩, by omega, fun k hk => ?_⟩
  · by_cases e : i = z
    · rw [e, va_s, va_s, vs_a]; exact ⟨rfl, hg0, h94, h97⟩
    · rw [va_n _ _ e, va_n _ _ e, vs_n _ _ (by omega)]; exact hG i (by omega)
  · by_cases e1 : i = z
    · by_cases e2 : k = z
      · rw [e1, e2]
      · rw [e1, va_s, va_n _ _ e2] at e
        exact absurd e.symm (n1 k (by omega))
    · by_cases e2 : k = z
      · rw [e2, va_s, va_n _ _ e1] at e
        exact absurd e (n1 i (by omega))
      · rw [va_n _ _ e1, va_n _ _ e2] at e
        exact i1 i k (by omega) (by omega) e
  · by_cases e1 : i = z
    · rw [e1, va_s] at e
      exact n2 j hj hs e.symm
    · rw [va_n _ _ e1] at e
      exact i2 i j (by omega) hj hs e
  · have ec : hg (va_up c z x) f k = hg c f k := hg_c k (fun i a b => va_n _ _ (by omega))
    have es : hs (va_up c z x) (va_up gb z g) f k = hs c gb f k := hs_c k (fun i a b => ⟨va_n _ _ (by omega), va_n _ _ (by omega)⟩)
    rw [ec, es]
    by_cases e : f + k = z
    · rw [e, va_s, va_s]
      have : k = z - f := by omega
      rw [this]
      exact ⟨l1, l2⟩
    · rw [va_n _ _ e, va_n _ _ e, (rr (f + k) (by omega)).1, (rr (f + k) (by omega)).2]
      exact hl k (by omega)
theorem rH_e {f z x g : Nat} {c gb : Nat → Nat} {r105 : Nat → Int32} {q40 : Int32} (hf : f ≤ z) (h : rH f z c gb r105 q40) : rH f (z + 1) (va_up c z x) (va_up gb z g) (va_up r105 (hg c f (z - f) - ar x) (zI (384 + g))) (zI (hg c f (z - f) - ar x + 1)) := by
  refine ⟨by rw [hg_x hf], fun j hj => ?_⟩
  rw [hg_x hf] at hj
  rw [hs_x hf]
  by_cases e : j = hg c f (z - f) - ar x
  · rw [e, vs_a, va_s]
  · rw [vs_n _ _ e, va_n _ _ e]
    exact h.2 j (by omega)
/-- something waits -/
theorem rB_w {m z w kn f x g : Nat} {c gb sg wo le : Nat → Nat} {r94 r95 r96 r97 r98 r103 r104 : Nat → Int32} (h : rB m z w kn f c gb sg wo le r94 r95 r96 r97 r98 r103 r104) (v : Int32) (hv : ¬ x = 30 → v = zI (384 + g) ∧ g < kn ∧ r94 (384 + g) = zI (kdc x) ∧ r97 (384 + g) = 0 ∧ (∀ i, i < z → ¬ gb i = g) ∧ ∀ j, j < w → ¬ sg j = 30 → ¬ wo j = g) :
    rB m z (w + 1) kn f c gb (va_up sg w x) (va_up wo w g) le r94 r95 r96 r97 r98 (va_up r103 w (zI (wtc x))) (va_up r104 w v) := by
  obtain ⟨hG, hW, ⟨i1, i2, i3⟩, hL, hf, hl⟩ := h
  refine ⟨hG, fun j hj => ?_, ⟨i1, fun i j hi hj hs => ?_, fun j k hj hk s1 s2 e => ?_⟩, hL, hf, hl⟩
  · by_cases e : j = w
    · rw [e, va_s, va_s, vs_a, vs_a]
      exact ⟨rfl, fun hs => ⟨(hv hs).1, (hv hs).2.1, (hv hs).2.2.1, (hv hs).2.2.2.1⟩⟩
    · rw [va_n _ _ e, va_n _ _ e, vs_n _ _ e, vs_n _ _ e]
      exact hW j (by omega)
  · by_cases e : j = w
    · rw [e, va_s] at hs
      rw [e, va_s]
      exact (hv hs).2.2.2.2.1 i hi
    · rw [va_n _ _ e] at hs
      rw [va_n _ _ e]
      exact i2 i j hi (by omega) hs
  · by_cases e1 : j = w
    · by_cases e2 : k = w
      · rw [e1, e2]
      · rw [e1, va_s] at s1
        rw [va_n _ _ e2] at s2
        rw [e1, va_s, va_n _ _ e2] at e
        exact absurd e.symm ((hv s1).2.2.2.2.2 k (by omega) s2)
    · rw [va_n _ _ e1] at s1
      by_cases e2 : k = w
      · rw [e2, va_s] at s2
        rw [e2, va_s, va_n _ _ e1] at e
        exact absurd e ((hv s2).2.2.2.2.2 j (by omega) s1)
      · rw [va_n _ _ e2] at s2
        rw [va_n _ _ e1, va_n _ _ e2] at e
        exact i3 j k (by omega) (by omega) s1 s2 e
/-- one waits no more -/
theorem rB_d {m z w kn f : Nat} {c gb sg wo le : Nat → Nat} {r94 r95 r96 r97 r98 r103 r104 : Nat → Int32} (h : rB m z (w + 1) kn f c gb sg wo le r94 r95 r96 r97 r98 r103 r104) : rB m z w kn f c gb sg wo le r94 r95 r96 r97 r98 r103 r104 := by
  obtain ⟨hG, hW, ⟨i1, i2, i3⟩, hL, hf, hl⟩ := h
  exact ⟨hG, fun j hj => hW j (by omega), ⟨i1, fun i j hi hj => i2 i j hi (by omega), fun j k hj hk => i3 j k (by omega) (by omega)⟩, hL, hf, hl⟩
/-- all that the reference has -/
def CT (m z w d kn o : Nat) (cm : Int32) (c sg vb le : Nat → Nat) (gb wo : Nat → Nat) (T : Nat → Nat → Int32) : Prop := rS (T 81) z w d kn o cm ∧ rB m z w kn (ls le m) c gb sg wo le (T 94) (T 95) (T 96) (T 97) (T 98) (T 103) (T 104) ∧ (¬ d = 0 → rH (ls le m) z c gb (T 105) (T 81 40) ∧ rC o cm (T 106)) ∧ rV m d vb le (T 99) (T 100) (T 101) (T 102 6)
/-- what is as it was -/
def frR (T0 L : Nat → Nat → Int32) : Prop := (∀ d, ¬ d = 81 → d < 94 ∨ 106 < d → L d = T0 d) ∧ (∀ j, j < 21 ∨ (24 < j ∧ j < 34) ∨ (35 < j ∧ j < 38) ∨ j = 39 ∨ j = 41 ∨ 45 < j → L 81 j = T0 81 j) ∧ (∀ d, 94 ≤ d → d ≤ 98 → ∀ j, j < 384 → L d j = T0 d j) ∧ (∀ d, 99 ≤ d → d ≤ 101 → ∀ j, j < 96 → L d j = T0 d j) ∧ ∀ j, ¬ j = 6 → L 102 j = T0 102 j
def tkF (B : Nat → Nat) (n q : Nat) (L : Nat → Nat → Int32) : Prop := L 81 24 = zI q ∧ L 81 21 = zI (tkN B n q).2 ∧ tkR B q (tkN B n q).1 (tkN B n q).2 (L 81 22) (L 81 23)
theorem rS_c {q q' : Nat → Int32} {z w d kn o : Nat} {cm : Int32} (h : rS q z w d kn o cm) (e : ∀ j, 33 < j → j < 46 → q' j = q j) : rS q' z w d kn o cm := by
  unfold rS
  rw [e 34 (by decide) (by decide), e 35 (by decide) (by decide), e 38 (by decide) (by decide), e 42 (by decide) (by decide), e 43 (by decide) (by decide), e 44 (by decide) (by decide), e 45 (by decide) (by decide)]
  exact h
theorem CT_tk {B : Nat → Nat} {n q m z w d kn o : Nat} {cm : Int32} {c sg vb le gb wo : Nat → Nat} {U L : Nat → Nat → Int32} (h : CT m z w d kn o cm c sg vb le gb wo U) (t : tkM B n q U L) : CT m z w d kn o cm c sg vb le gb wo L := by
  obtain ⟨t1, t2, -⟩ := t
  unfold CT
  rw [t1 94 (by decide), t1 95 (by decide), t1 96 (by decide), t1 97 (by decide), t1 98 (by decide), t1 99 (by decide), t1 100 (by decide), t1 101 (by decide), t1 102 (by decide), t1 103 (by decide), t1 104 (by decide), t1 105 (by decide), t1 106 (by decide), t2 40 (by decide) (by decide) (by decide) (by decide)]
  exact ⟨rS_c h.1 (fun j a b => t2 j (by omega) (by omega) (by omega) (by omega)), h.2⟩
theorem fr_tk {B : Nat → Nat} {n q : Nat} {T0 U L : Nat → Nat → Int32} (h : frR T0 U) (t : tkM B n q U L) : frR T0 L := by
  obtain ⟨t1, t2, -⟩ := t
  obtain ⟨f1, f2, f3, f4, f5⟩ := h
  refine ⟨fun d a b => by rw [t1 d a]; exact f1 d a b, fun j hj => by rw [t2 j (by omega) (by omega) (by omega) (by omega)]; exact f2 j hj, fun d a b j hj => by rw [t1 d (by omega)]; exact f3 d a b j hj, fun d a b j hj => by rw [t1 d (by omega)]; exact f4 d a b j hj, fun j hj => by rw [t1 102 (by decide)]; exact f5 j hj⟩
