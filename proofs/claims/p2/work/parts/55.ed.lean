/-! The distance of two drafts. -/
/-- what is left: x words of the one, y of the other -/
def ed (A B : Nat → Int32) (n m : Nat) : Nat → Nat → Nat
  | 0, y => y
  | x + 1, 0 => x + 1
  | x + 1, y + 1 => min (ed A B n m x y + (if A (n - (x + 1)) = B (m - (y + 1)) then 0 else 1)) (min (ed A B n m x (y + 1) + 1) (ed A B n m (x + 1) y + 1))
termination_by x y => x + y
theorem ed_0 (A B : Nat → Int32) (n m y : Nat) : ed A B n m 0 y = y := by rw [ed]
theorem ed_x (A B : Nat → Int32) (n m x : Nat) : ed A B n m x 0 = x := by
  cases x with
  | zero => rw [ed]
  | succ x => rw [ed]
theorem ed_s (A B : Nat → Int32) (n m x y : Nat) : ed A B n m (x + 1) (y + 1) = min (ed A B n m x y + (if A (n - (x + 1)) = B (m - (y + 1)) then 0 else 1)) (min (ed A B n m x (y + 1) + 1) (ed A B n m (x + 1) y + 1)) := by rw [ed]
theorem ed_le (A B : Nat → Int32) (n m : Nat) : ∀ x y, ed A B n m x y ≤ x + y := by
  intro x
  induction x with
  | zero => intro y; rw [ed_0]; omega
  | succ x ih =>
    intro y
    induction y with
    | zero => rw [ed_x]; omega
    | succ y ih2 =>
      rw [ed_s]
      have := ih (y + 1)
      omega
theorem ed_sym (A B : Nat → Int32) (n m : Nat) : ∀ x y, ed A B n m x y = ed B A m n y x := by
  intro x
  induction x with
  | zero => intro y; rw [ed_0, ed_x]
  | succ x ih =>
    intro y
    induction y with
    | zero => rw [ed_0, ed_x]
    | succ y ih2 =>
      rw [ed_s, ed_s, ih y, ih (y + 1), ih2]
      have e : (if A (n - (x + 1)) = B (m - (y + 1)) then 0 else 1) = (if B (m - (y + 1)) = A (n - (x + 1)) then 0 else 1) := by
        by_cases h : A (n - (x + 1)) = B (m - (y + 1))
        · rw [if_pos h, if_pos h.symm]
        · rw [if_neg h, if_neg (fun g => h g.symm)]
      rw [e]
      omega
theorem ed_self (A : Nat → Int32) (n : Nat) : ∀ x, ed A A n n x x = 0 := by
  intro x
  induction x with
  | zero => rw [ed_0]
  | succ x ih =>
    rw [ed_s, ih, if_pos rfl]
    omega
/-- the table, done from (i, j) on -/
def tb (A B : Nat → Int32) (n m : Nat) (o : Nat → Int32) (i j c : Nat) : Int32 := if c / 9 ≤ n ∧ c % 9 ≤ m ∧ i ≤ c / 9 ∧ (c / 9 = i → j ≤ c % 9) then zI (ed A B n m (n - c / 9) (m - c % 9)) else o c
theorem tb_top (A B : Nat → Int32) (n m : Nat) (o : Nat → Int32) : tb A B n m o (n + 1) 0 = o := by
  funext c
  unfold tb
  rw [if_neg (by omega)]
theorem tb_row (A B : Nat → Int32) (n m : Nat) (o : Nat → Int32) (i : Nat) : tb A B n m o i (m + 1) = tb A B n m o (i + 1) 0 := by
  funext c
  unfold tb
  have e : (c / 9 ≤ n ∧ c % 9 ≤ m ∧ i ≤ c / 9 ∧ (c / 9 = i → m + 1 ≤ c % 9)) = (c / 9 ≤ n ∧ c % 9 ≤ m ∧ i + 1 ≤ c / 9 ∧ (c / 9 = i + 1 → 0 ≤ c % 9)) := by apply propext; omega
  simp only [e]
theorem tb_at (A B : Nat → Int32) (n m : Nat) (o : Nat → Int32) (i j a b : Nat) (ha : a ≤ n) (hb : b ≤ m) (hm : m ≤ 8) (h1 : i ≤ a) (h2 : a = i → j ≤ b) : tb A B n m o i j (9 * a + b) = zI (ed A B n m (n - a) (m - b)) := by
  unfold tb
  have e1 : (9 * a + b) / 9 = a := by omega
  have e2 : (9 * a + b) % 9 = b := by omega
  rw [e1, e2, if_pos ⟨ha, hb, h1, h2⟩]
theorem tb_set (A B : Nat → Int32) (n m : Nat) (o : Nat → Int32) (i j : Nat) (hi : i ≤ n) (hj : j ≤ m) (hm : m ≤ 8) : va_up (tb A B n m o i (j + 1)) (9 * i + j) (zI (ed A B n m (n - i) (m - j))) = tb A B n m o i j := by
  funext c
  rw [va_ap]
  split
  · rename_i h
    subst h
    rw [tb_at A B n m o i j i j hi hj hm (Nat.le_refl _) (fun _ => Nat.le_refl _)]
  · rename_i h
    unfold tb
    have e : (c / 9 ≤ n ∧ c % 9 ≤ m ∧ i ≤ c / 9 ∧ (c / 9 = i → j + 1 ≤ c % 9)) = (c / 9 ≤ n ∧ c % 9 ≤ m ∧ i ≤ c / 9 ∧ (c / 9 = i → j ≤ c % 9)) := by apply propext; omega
    simp only [e]
theorem mn_c {p q d : Nat} (hp : p < 100) (hq : q < 100) (hd : d < 100) (e : Nat) (he : e ≤ 1) : (if ((1 : Int32) + (if (zI p : Int32) < zI q then zI p else zI q)) < zI e + zI d then (1 : Int32) + (if (zI p : Int32) < zI q then zI p else zI q) else zI e + zI d) = zI (min (d + e) (min (q + 1) (p + 1))) := by
  have e1 : (if (zI p : Int32) < zI q then zI p else zI q) = zI (min p q) := by
    simp only [zI_lt (show p < 2147483648 by omega) (show q < 2147483648 by omega)]
    split
    · rw [show min p q = p by omega]
    · rw [show min p q = q by omega]
  rw [e1, show (1 : Int32) + zI (min p q) = zI (1 + min p q) from zI_add 1 _, zI_add]
  simp only [zI_lt (show 1 + min p q < 2147483648 by omega) (show e + d < 2147483648 by omega)]
  split
  · congr 1; omega
  · congr 1; omega
section O1
variable (X : (Nat → Int32) × Nat) (mo : Bool) (G : Nat × Nat) (I : Nat → Nat → Int32) (J : Nat → Nat → Int64) (Q : Option Value → sm_M → Prop)
def cpr (o s : Nat → Int32) (n : Nat) (k : Nat) : Int32 := if k < n then s k else o k
theorem cpr_8 (o s : Nat → Int32) (n : Nat) : va_up (cpr o s n) n (s n) = cpr o s (n + 1) := by
  funext k
  rw [va_ap]
  unfold cpr
  grind
theorem m1_s (j : Nat) : zI (j + 1) + (-1) = zI j := by
  rw [← zI_add j 1, Int32.add_assoc, show zI 1 + (-1) = 0 by decide, Int32.add_zero]
theorem m1_0 : zI 0 + (-1) = -1 := by decide
/-- the two inner loops of the class -/
theorem lp_stp {n m : Nat} (hn : n ≤ 8) (hm : m ≤ 8) : ∀ i, i ≤ n + 1 → ∀ o : Nat → Int32, sm_wp X 8 76 [some (.ref 71), none, none, none, some (.int (zI n)), some (.int (zI m)), some (.int (zI i + (-1))), none, none, none, none] [] (sM mo G (rw2 I 78 (tb (I 76) (I 77) n m o i 0)) J) Q = Q (some (.int (zI (ed (I 76) (I 77) n m n m)))) (sM mo G (rw2 I 78 (tb (I 76) (I 77) n m o 0 0)) J) := by
  intro i
  induction i with
  | zero =>
    intro _ o
    rw [lp_8_76, m1_0, if_pos (by decide), rw2_a]
    have e := tb_at (I 76) (I 77) n m o 0 0 0 0 (by omega) (by omega) hm (Nat.le_refl _) (fun _ => Nat.le_refl _)
    have e2 : (0 : Int32).toNatClampNeg = 0 := by decide
    have e3 : vp_in 0 81 := by rw [show (0 : Int32) = zI 0 from rfl, zI_vp (by decide)]; decide
    rw [e2]
    simp only [Nat.mul_zero, Nat.add_zero, Nat.sub_zero] at e
    rw [e]
    simp only [e3, true_and]
  | succ i ih =>
    intro hi o
    rw [lp_8_76, m1_s, if_neg (by rw [zIr_lt (c := 0) (by decide) (by omega)]; exact Nat.not_lt_zero _)]
    have inner : ∀ j, j ≤ m + 1 → sm_wp X 8 85 [some (.ref 71), none, none, none, some (.int (zI n)), some (.int (zI m)), some (.int (zI i)), some (.int (zI j + (-1))), none, none, none] [] (sM mo G (rw2 I 78 (tb (I 76) (I 77) n m o i j)) J) Q = sm_wp X 8 76 [some (.ref 71), none, none, none, some (.int (zI n)), some (.int (zI m)), some (.int (zI i + (-1))), none, none, none, none] [] (sM mo G (rw2 I 78 (tb (I 76) (I 77) n m o i 0)) J) Q := by
      intro j
      induction j with
      | zero =>
        intro _
        rw [lp_8_85, m1_0, if_pos (by decide)]
      | succ j ihj =>
        intro hj
        rw [← ihj (by omega), lp_8_85, m1_s, if_neg (by rw [zIr_lt (c := 0) (by decide) (by omega)]; exact Nat.not_lt_zero _)]
        have v0 : i * 9 + j = 9 * i + j := by omega
        have v1 : 9 * i + j < 81 := by omega
        simp (decide := true) only [rw2_a, rw2_n, ne_eq, not_false_eq_true, up2_rw, rw2_rw]
        by_cases hin : n ≤ i
        · have en : i = n := by omega
          subst en
          have ev : zI i - zI i + zI m - zI j = zI (m - j) := by
            rw [zI_sub (Nat.le_refl _), zI_add, zI_sub (by omega)]
            congr 1
            omega
          rw [ev]
          simp (disch := first | omega | decide) only [zI_lt, zI_le, zI_eq, zI_cn, zI_vp, zI_add, zI_mul, zI_sub, zIl_add, zIr_add, zIl_mul, zIr_mul, zIr_sub, zIl_lt, zIr_lt, zIl_le, zIr_le, zIl_eq, zIr_eq, zI_sIn, zI_m1, zI_m1', Int32.add_zero, Int32.or_zero, Nat.le_refl, if_true, v0, v1, true_and]
          have es := tb_set (I 76) (I 77) i m o i j (Nat.le_refl _) (by omega) hm
          rw [Nat.sub_self, ed_0] at es
          rw [es]
        · by_cases hjm : m ≤ j
          · have em : j = m := by omega
            subst em
            have ev : zI n - zI i + zI j - zI j = zI (n - i) := by
              rw [zI_sub (by omega), zI_add, zI_sub (by omega)]
              congr 1
              omega
            rw [ev]
            simp (disch := first | omega | decide) only [zI_lt, zI_le, zI_eq, zI_cn, zI_vp, zI_add, zI_mul, zI_sub, zIl_add, zIr_add, zIl_mul, zIr_mul, zIr_sub, zIl_lt, zIr_lt, zIl_le, zIr_le, zIl_eq, zIr_eq, zI_sIn, zI_m1, zI_m1', Int32.add_zero, Int32.or_zero, hin, Nat.le_refl, if_true, if_false, v0, v1, true_and]
            have es := tb_set (I 76) (I 77) n j o i j (by omega) (Nat.le_refl _) hm
            rw [Nat.sub_self, ed_x] at es
            rw [es]
          · have t1 : tb (I 76) (I 77) n m o i (j + 1) (9 * (i + 1) + j + 1) = _ := tb_at (I 76) (I 77) n m o i (j + 1) (i + 1) (j + 1) (by omega) (by omega) hm (by omega) (by omega)
            have t2 := tb_at (I 76) (I 77) n m o i (j + 1) (i + 1) j (by omega) (by omega) hm (by omega) (by omega)
            have t3 : tb (I 76) (I 77) n m o i (j + 1) (9 * i + j + 1) = _ := tb_at (I 76) (I 77) n m o i (j + 1) i (j + 1) (by omega) (by omega) hm (by omega) (by omega)
            have w2 : (i + 1) * 9 + j = 9 * (i + 1) + j := by omega
            have y1 : 9 * (i + 1) + j + 1 < 81 := by omega
            have y2 : 9 * (i + 1) + j < 81 := by omega
            have y3 : 9 * i + j + 1 < 81 := by omega
            have i8 : i < 8 := by omega
            have j8 : j < 8 := by omega
            obtain ⟨x, hx⟩ : ∃ x, n - i = x + 1 := ⟨n - i - 1, by omega⟩
            obtain ⟨y, hy⟩ : ∃ y, m - j = y + 1 := ⟨m - j - 1, by omega⟩
            have hx2 : n - (i + 1) = x := by omega
            have hy2 : m - (j + 1) = y := by omega
            have l1 := ed_le (I 76) (I 77) n m x y
            have l2 := ed_le (I 76) (I 77) n m x (y + 1)
            have l3 := ed_le (I 76) (I 77) n m (x + 1) y
            have es := tb_set (I 76) (I 77) n m o i j (by omega) (by omega) hm
            rw [hx, hy, ed_s, show n - (x + 1) = i by omega, show m - (y + 1) = j by omega] at es
            rw [hx2, hy2] at t1
            rw [hx2, hy] at t2
            rw [hx, hy2] at t3
            have z0 : (0 : Int32) = zI 0 := rfl
            have z1 : (1 : Int32) = zI 1 := rfl
            simp (disch := first | omega | decide) only [zI_le, zI_mul, zIr_mul, zI_add, zIr_add, zI_cn, zI_vp, hin, hjm, if_false, v0, v1, w2, y1, y2, y3, i8, j8, true_and, t1, t2, t3]
            by_cases hc : I 76 i = I 77 j
            · rw [if_neg (fun g => g hc)]
              rw [if_pos hc] at es
              have q := mn_c (p := ed (I 76) (I 77) n m (x + 1) y) (q := ed (I 76) (I 77) n m x (y + 1)) (d := ed (I 76) (I 77) n m x y) (by omega) (by omega) (by omega) 0 (by decide)
              rw [← z0] at q
              rw [q, es]
            · rw [if_pos hc]
              rw [if_neg hc] at es
              have q := mn_c (p := ed (I 76) (I 77) n m (x + 1) y) (q := ed (I 76) (I 77) n m x (y + 1)) (d := ed (I 76) (I 77) n m x y) (by omega) (by omega) (by omega) 1 (by decide)
              rw [← z1] at q
              rw [q, es]
    have ii := inner (m + 1) (Nat.le_refl _)
    rw [m1_s, tb_row] at ii
    rw [ii]
    exact ih (by omega) o
end O1
