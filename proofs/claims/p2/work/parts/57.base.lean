/-! What a call may use and leave as it likes; the base of an article. -/
def scr (c : Nat) : Bool := c == 0 || c == 14 || (16 ≤ c && c ≤ 20) || (45 ≤ c && c ≤ 47) || (76 ≤ c && c ≤ 81) || (103 ≤ c && c ≤ 106) || (121 ≤ c && c ≤ 134) || (139 ≤ c && c ≤ 142)
def fld (j : Nat) : Bool := [1, 3, 10, 15, 16, 18, 19, 46, 60, 81].contains j
def Fr (I K : Nat → Nat → Int32) : Prop := (∀ c, scr c = false → K c = I c) ∧ K 14 0 = I 14 0 ∧ K 16 0 = I 16 0 ∧ K 16 1 = I 16 1 ∧ ∀ j, fld j = true → K 81 j = I 81 j
theorem Fr_r (I : Nat → Nat → Int32) : Fr I I := ⟨fun _ _ => rfl, rfl, rfl, rfl, fun _ _ => rfl⟩
theorem Fr_t {I K L : Nat → Nat → Int32} (h : Fr I K) (g : Fr K L) : Fr I L := ⟨fun c hc => (g.1 c hc).trans (h.1 c hc), g.2.1.trans h.2.1, g.2.2.1.trans h.2.2.1, g.2.2.2.1.trans h.2.2.2.1, fun j hj => (g.2.2.2.2 j hj).trans (h.2.2.2.2 j hj)⟩
theorem Fr_w {I K : Nat → Nat → Int32} (h : Fr I K) {c : Nat} (hc : scr c = true) (h14 : c ≠ 14) (h16 : c ≠ 16) (h81 : c ≠ 81) (r : Nat → Int32) : Fr I (rw2 K c r) := by
  refine ⟨fun d hd => ?_, ?_, ?_, ?_, fun j hj => ?_⟩
  · have : d ≠ c := fun e => by rw [e, hc] at hd; cases hd
    rw [rw2_n _ _ _ _ this]
    exact h.1 d hd
  · rw [rw2_n _ _ _ _ h14.symm]; exact h.2.1
  · rw [rw2_n _ _ _ _ h16.symm]; exact h.2.2.1
  · rw [rw2_n _ _ _ _ h16.symm]; exact h.2.2.2.1
  · rw [rw2_n _ _ _ _ h81.symm]; exact h.2.2.2.2 j hj
theorem Fr_u {I K : Nat → Nat → Int32} (h : Fr I K) {c : Nat} (hc : scr c = true) (h14 : c ≠ 14) (h16 : c ≠ 16) (h81 : c ≠ 81) (k : Nat) (v : Int32) : Fr I (up2 K c k v) := by
  rw [up2_rw]
  exact Fr_w h hc h14 h16 h81 _
theorem Fr_m {I K : Nat → Nat → Int32} (h : Fr I K) {k : Nat} (hk : fld k = false) (v : Int32) : Fr I (up2 K 81 k v) := by
  refine ⟨fun d hd => ?_, ?_, ?_, ?_, fun j hj => ?_⟩
  · have : d ≠ 81 := fun e => by rw [e] at hd; cases hd
    rw [up2_rn _ _ _ _ _ this]
    exact h.1 d hd
  · rw [up2_rn _ _ _ _ _ (by decide)]; exact h.2.1
  · rw [up2_rn _ _ _ _ _ (by decide)]; exact h.2.2.1
  · rw [up2_rn _ _ _ _ _ (by decide)]; exact h.2.2.2.1
  · rw [up2_ra, va_ap, if_neg (fun e => by rw [← e, hj] at hk; cases hk)]
    exact h.2.2.2.2 j hj
theorem inv_fr {c : Nat} {mo : Bool} {G : Nat × Nat} {I K : Nat → Nat → Int32} {J L : Nat → Nat → Int64} (h : inv c mo G I J) (f : Fr I K) (h52 : L 52 = J 52) (h60 : L 60 = J 60) : Inv (c + 1) (sM mo G K L) := by
  obtain ⟨n, m, t, p, q, r, ch, ln, hN, hE, hV, hY, hG, hK, hP, hS, hA, hT, hF, hB, hC, hD, hD2, hX, hZ⟩ := h
  refine ⟨mo, G, K, L, rfl, n, m, t, p, q, r, ch, ln, ?_⟩
  obtain ⟨f1, f2, f3, f4, f5⟩ := f
  simp (decide := true) only [f1, f2, f3, f4, f5, h52, h60]
  exact ⟨hN, hE, hV, hY, hG, ivK_s hK, hP, hS, hA, hT, hF, hB, hC, hD, hD2, hX, ivZ_s hZ⟩
/-! pure: drafts of an article -/
def adr (pr : Int32) (L : Nat → Int32) (ms a s : Nat) : Bool := decide (s < ms) && bt pr s && decide (¬ L (6 * a + s) = 0)
def adl (L : Nat → Int32) (a s : Nat) : Nat := (L (6 * a + s)).toNatClampNeg
def adw (W : Nat → Int32) (a s k : Nat) : Int32 := W (8 * (6 * a + s) + k)
def adD (L W : Nat → Int32) (a s o : Nat) : Nat := ed (adw W a s) (adw W a o) (adl L a s) (adl L a o) (adl L a s) (adl L a o)
def sm6 (f : Nat → Nat) : Nat := f 0 + f 1 + f 2 + f 3 + f 4 + f 5
theorem sm6_c {f g : Nat → Nat} (h : ∀ o, o < 6 → f o = g o) : sm6 f = sm6 g := by
  unfold sm6
  rw [h 0 (by decide), h 1 (by decide), h 2 (by decide), h 3 (by decide), h 4 (by decide), h 5 (by decide)]
theorem sm6_k {f g : Nat → Nat} {k v : Nat} (hk : k < 6) (h : ∀ o, o < 6 → o ≠ k → f o = g o) (h2 : f k = g k + v) : sm6 f = sm6 g + v := by
  have h0 := h 0 (by decide)
  have h1 := h 1 (by decide)
  have h3 := h 2 (by decide)
  have h4 := h 3 (by decide)
  have h5 := h 4 (by decide)
  have h6 := h 5 (by decide)
  unfold sm6
  have : k = 0 ∨ k = 1 ∨ k = 2 ∨ k = 3 ∨ k = 4 ∨ k = 5 := by omega
  rcases this with rfl | rfl | rfl | rfl | rfl | rfl <;> simp at h0 h1 h3 h4 h5 h6 <;> omega
theorem sm6_le {f : Nat → Nat} {b : Nat} (h : ∀ o, o < 6 → f o ≤ b) : sm6 f ≤ 6 * b := by
  have h0 := h 0 (by decide)
  have h1 := h 1 (by decide)
  have h3 := h 2 (by decide)
  have h4 := h 3 (by decide)
  have h5 := h 4 (by decide)
  have h6 := h 5 (by decide)
  unfold sm6
  omega
def asm (pr : Int32) (L W : Nat → Int32) (ms a s : Nat) : Nat := sm6 (fun o => if adr pr L ms a o = true then adD L W a s o else 0)
def abF (pr : Int32) (L W R : Nat → Int32) (ms a : Nat) (s : Nat) (b : Option Nat) : Option Nat := if adr pr L ms a s = true then (match b with
  | none => some s
  | some t => if asm pr L W ms a s < asm pr L W ms a t ∨ (asm pr L W ms a s = asm pr L W ms a t ∧ R s < R t) then some s else some t) else b
def abs (pr : Int32) (L W R : Nat → Int32) (ms a : Nat) : Option Nat := up (abF pr L W R ms a) 6 none
def enc (b : Option Nat) : Int32 := match b with
  | none => -1
  | some t => zI t
theorem adD_s {L W : Nat → Int32} {a : Nat} (s o : Nat) : adD L W a s o = adD L W a o s := ed_sym _ _ _ _ _ _
theorem adD_0 {L W : Nat → Int32} {a : Nat} (s : Nat) : adD L W a s s = 0 := ed_self _ _ _
theorem adD_le {L W : Nat → Int32} {a : Nat} (hL : ∀ j, ∃ w, w ≤ 8 ∧ L j = zI w) (s o : Nat) : adD L W a s o ≤ 16 := by
  have h1 := ed_le (adw W a s) (adw W a o) (adl L a s) (adl L a o) (adl L a s) (adl L a o)
  obtain ⟨w, hw, e⟩ := hL (6 * a + s)
  obtain ⟨v, hv, e2⟩ := hL (6 * a + o)
  have e3 : adl L a s = w := by unfold adl; rw [e, zI_cn (by omega)]
  have e4 : adl L a o = v := by unfold adl; rw [e2, zI_cn (by omega)]
  unfold adD
  omega
theorem asm_le {pr : Int32} {L W : Nat → Int32} {ms a : Nat} (hL : ∀ j, ∃ w, w ≤ 8 ∧ L j = zI w) (s : Nat) : asm pr L W ms a s ≤ 96 := by
  unfold asm
  refine Nat.le_trans (sm6_le (b := 16) fun o ho => ?_) (by decide)
  split
  · exact adD_le hL s o
  · omega
theorem abF_t {pr : Int32} {L W R : Nat → Int32} {ms a : Nat} (k : Nat) : up (abF pr L W R ms a) (ms + k) none = up (abF pr L W R ms a) ms none := by
  induction k with
  | zero => rfl
  | succ k ih =>
    rw [← Nat.add_assoc, up_s, ih]
    unfold abF
    rw [if_neg]
    unfold adr
    rw [decide_eq_false (by omega)]
    simp
theorem abF_lt {pr : Int32} {L W R : Nat → Int32} {ms a : Nat} : ∀ k, k ≤ 6 → ∀ t, up (abF pr L W R ms a) k none = some t → t < k ∧ adr pr L ms a t = true := by
  refine up_ind (fun k (b : Option Nat) => ∀ t, b = some t → t < k ∧ adr pr L ms a t = true) (fun t h => by cases h) ?_
  intro k hk b ih t ht
  unfold abF at ht
  split at ht
  · rename_i hh
    cases b with
    | none =>
      simp only [Option.some.injEq] at ht
      subst ht
      exact ⟨by omega, hh⟩
    | some u =>
      simp only at ht
      split at ht
      · simp only [Option.some.injEq] at ht
        subst ht
        exact ⟨by omega, hh⟩
      · simp only [Option.some.injEq] at ht
        subst ht
        have := ih u rfl
        exact ⟨by omega, this.2⟩
  · have := ih t ht
    exact ⟨by omega, this.2⟩
/-- which pairs are done -/
abbrev prc (b a s o : Nat) : Prop := ¬ s = o ∧ ((s < b ∧ o < b) ∨ (s = b ∧ o < a) ∨ (o = b ∧ s < a))
def pss (pr : Int32) (L W : Nat → Int32) (ms x b a s : Nat) : Nat := sm6 (fun o => if adr pr L ms x s = true ∧ adr pr L ms x o = true ∧ prc b a s o then adD L W x s o else 0)
section O1
variable {pr : Int32} {L W : Nat → Int32} {ms x : Nat}
theorem pss_row {b s : Nat} (hs : s < 6) : pss pr L W ms x b b s = pss pr L W ms x (b + 1) 0 s := by
  apply sm6_c
  intro o ho
  have e : (adr pr L ms x s = true ∧ adr pr L ms x o = true ∧ prc b b s o) = (adr pr L ms x s = true ∧ adr pr L ms x o = true ∧ prc (b + 1) 0 s o) := by
    have : prc b b s o = prc (b + 1) 0 s o := by unfold prc; apply propext; omega
    rw [this]
  simp only [e]
theorem pss_0 {s : Nat} : pss pr L W ms x 1 0 s = 0 := by
  have : pss pr L W ms x 1 0 s = sm6 (fun _ => 0) := by
    apply sm6_c
    intro o ho
    rw [if_neg]
    rintro ⟨-, -, h⟩
    unfold prc at h
    omega
  rw [this]
  rfl
theorem pss_6 {s : Nat} (hs : s < 6) (h : adr pr L ms x s = true) : pss pr L W ms x 6 0 s = asm pr L W ms x s := by
  apply sm6_c
  intro o ho
  by_cases g : adr pr L ms x o = true
  · by_cases e : s = o
    · subst e
      rw [if_neg, if_pos g, adD_0]
      rintro ⟨-, -, h⟩
      exact h.1 rfl
    · rw [if_pos ⟨h, g, e, Or.inl ⟨hs, ho⟩⟩, if_pos g]
  · rw [if_neg (fun h => g h.2.1), if_neg g]
theorem pss_no {b a s : Nat} (hs : s < 6) (hab : a < b) (h : ¬ (adr pr L ms x a = true ∧ adr pr L ms x b = true)) : pss pr L W ms x b (a + 1) s = pss pr L W ms x b a s := by
  apply sm6_c
  intro o ho
  have e : (adr pr L ms x s = true ∧ adr pr L ms x o = true ∧ prc b (a + 1) s o) = (adr pr L ms x s = true ∧ adr pr L ms x o = true ∧ prc b a s o) := by
    apply propext
    constructor
    · rintro ⟨h1, h2, h3⟩
      refine ⟨h1, h2, h3.1, ?_⟩
      rcases h3.2 with q | ⟨q1, q2⟩ | ⟨q1, q2⟩
      · exact Or.inl q
      · by_cases q3 : o = a
        · subst q1 q3
          exact absurd ⟨h2, h1⟩ h
        · exact Or.inr (Or.inl ⟨q1, by omega⟩)
      · by_cases q3 : s = a
        · subst q1 q3
          exact absurd ⟨h1, h2⟩ h
        · exact Or.inr (Or.inr ⟨q1, by omega⟩)
    · rintro ⟨h1, h2, h3⟩
      refine ⟨h1, h2, h3.1, ?_⟩
      have := h3.2
      omega
  simp only [e]
theorem pss_yes {b a s : Nat} (hs : s < 6) (hb : b < 6) (hab : a < b) (h1 : adr pr L ms x a = true) (h2 : adr pr L ms x b = true) : pss pr L W ms x b (a + 1) s = pss pr L W ms x b a s + (if s = a then adD L W x a b else if s = b then adD L W x a b else 0) := by
  by_cases e1 : s = a
  · subst e1
    rw [if_pos rfl]
    apply sm6_k (k := b) hb
    · intro o ho hne
      have : prc b (s + 1) s o = prc b s s o := by unfold prc; apply propext; omega
      simp only [this]
    · rw [if_pos ⟨h1, h2, by unfold prc; omega⟩, if_neg (fun g => by have := g.2.2; unfold prc at this; omega)]
      omega
  · rw [if_neg e1]
    by_cases e2 : s = b
    · subst e2
      rw [if_pos rfl, adD_s]
      apply sm6_k (k := a) (by omega)
      · intro o ho hne
        have : prc s (a + 1) s o = prc s a s o := by unfold prc; apply propext; omega
        simp only [this]
      · rw [if_pos ⟨h2, h1, by unfold prc; omega⟩, if_neg (fun g => by have := g.2.2; unfold prc at this; omega)]
        omega
    · rw [if_neg e2]
      show pss pr L W ms x b (a + 1) s = pss pr L W ms x b a s
      apply sm6_c
      intro o ho
      have : prc b (a + 1) s o = prc b a s o := by unfold prc; apply propext; omega
      simp only [this]
theorem pss_le (hL : ∀ j, ∃ w, w ≤ 8 ∧ L j = zI w) (b a s : Nat) : pss pr L W ms x b a s ≤ 96 := by
  unfold pss
  refine Nat.le_trans (sm6_le (b := 16) fun o ho => ?_) (by decide)
  split
  · exact adD_le hL s o
  · omega
end O1
