/-! look: the memory that it wants, and the runs of the Realm's four methods there. -/
theorem lk_and {a b : Bool} (h : (a && b) = true) : a = true ∧ b = true := by simpa using h
theorem lk_ik {K : List (Nat × Nat)} {o t n : Nat} (h : sm_ik K o t n = true) : sm_kd K o = (t, n) := by
  have h2 := lk_and h
  exact Prod.ext (Nat.eq_of_beq_eq_true h2.1) (Nat.eq_of_beq_eq_true h2.2)
theorem lk_is {R : List (List (Option Nat))} {o j r : Nat} (h : sm_is R o j r = true) : sm_on (sm_rw R o) j = some r := by
  unfold sm_is at h
  split at h
  · rename_i a e
    rw [e, Nat.eq_of_beq_eq_true h]
  · cases h
theorem lk_shp {M : sm_M} (h : sm_shp M = true) : sm_kd M.1 0 = (11, 11) ∧ sm_kd M.1 1 = (5, 17) ∧ sm_kd M.1 2 = (100, 12) ∧ sm_kd M.1 4 = (100, 12) ∧ sm_kd M.1 5 = (100, 12) ∧ sm_kd M.1 142 = (103, 1) ∧ sm_on (sm_rw M.2.2.2.2 0) 0 = some 1 ∧ sm_on (sm_rw M.2.2.2.2 1) 5 = some 2 ∧ sm_on (sm_rw M.2.2.2.2 1) 7 = some 4 ∧ sm_on (sm_rw M.2.2.2.2 1) 8 = some 5 := by
  have a := lk_and h
  have b := lk_and a.2
  have c := lk_and b.2
  have d := lk_and c.2
  have e := lk_and d.2
  have f := lk_and e.2
  have g := lk_and f.2
  have i := lk_and g.2
  have j := lk_and i.2
  exact ⟨lk_ik a.1, lk_ik b.1, lk_ik c.1, lk_ik d.1, lk_ik e.1, lk_ik f.1, lk_is g.1, lk_is i.1, lk_is j.1, lk_is j.2⟩
theorem lk_kd0 {K : List (Nat × Nat)} {q : Nat × Nat} (h : sm_kd K 0 = q) (hq : q ≠ (99, 0)) : ∃ l, K = q :: l := by
  cases K with
  | nil => exact absurd h.symm hq
  | cons x l => exact ⟨l, by rw [show x = q from h]⟩
theorem lk_kdS {K : List (Nat × Nat)} {n : Nat} {q : Nat × Nat} (h : sm_kd K (n + 1) = q) (hq : q ≠ (99, 0)) : ∃ x l, K = x :: l ∧ sm_kd l n = q := by
  cases K with
  | nil => exact absurd h.symm hq
  | cons x l => exact ⟨x, l, rfl, h⟩
theorem lk_on0 {r : List (Option Nat)} {v : Nat} (h : sm_on r 0 = some v) : ∃ l, r = some v :: l := by
  cases r with
  | nil => cases h
  | cons x l => exact ⟨l, by rw [show x = some v from h]⟩
theorem lk_onS {r : List (Option Nat)} {n v : Nat} (h : sm_on r (n + 1) = some v) : ∃ x l, r = x :: l ∧ sm_on l n = some v := by
  cases r with
  | nil => cases h
  | cons x l => exact ⟨x, l, rfl, h⟩
theorem lk_rw {R : List (List (Option Nat))} {o j v : Nat} (h : sm_on (sm_rw R o) j = some v) : ∃ x l, R = x :: l := by
  cases R with
  | nil => cases j <;> cases h
  | cons x l => exact ⟨x, l, rfl⟩
/-- such a memory, its first cells laid open -/
def lkM (k3 : Nat × Nat) (K : List (Nat × Nat)) (G : Nat × Nat) (I : Nat → Nat → Int32) (J : Nat → Nat → Int64) (r0 : List (Option Nat)) (a0 a1 a2 a3 a4 a6 : Option Nat) (r1 : List (Option Nat)) (R : List (List (Option Nat))) : sm_M :=
  ((11, 11) :: (5, 17) :: (100, 12) :: k3 :: (100, 12) :: (100, 12) :: K, G, I, J, (some 1 :: r0) :: (a0 :: a1 :: a2 :: a3 :: a4 :: some 2 :: a6 :: some 4 :: some 5 :: r1) :: R)
theorem lk_opn {M : sm_M} (h : sm_shp M = true) : ∃ k3 K G I J r0 a0 a1 a2 a3 a4 a6 r1 R, M = lkM k3 K G I J r0 a0 a1 a2 a3 a4 a6 r1 R := by
  obtain ⟨h0, h1, h2, h4, h5, -, g0, g1, g2, g3⟩ := lk_shp h
  obtain ⟨K, G, I, J, R⟩ := M
  dsimp only at h0 h1 h2 h4 h5 g0 g1 g2 g3
  obtain ⟨K, rfl⟩ := lk_kd0 h0 (by decide)
  obtain ⟨K, rfl⟩ := lk_kd0 (K := K) h1 (by decide)
  obtain ⟨K, rfl⟩ := lk_kd0 (K := K) h2 (by decide)
  obtain ⟨k3, K, rfl, h4⟩ := lk_kdS (K := K) (n := 0) h4 (by decide)
  obtain ⟨K, rfl⟩ := lk_kd0 h4 (by decide)
  obtain ⟨K, rfl⟩ := lk_kd0 (K := K) h5 (by decide)
  obtain ⟨x0, R, rfl⟩ := lk_rw g0
  obtain ⟨r0, rfl⟩ := lk_on0 (r := x0) g0
  obtain ⟨x1, R, rfl⟩ := lk_rw (R := R) (o := 0) g1
  have g1 : sm_on x1 5 = some 2 := g1
  have g2 : sm_on x1 7 = some 4 := g2
  have g3 : sm_on x1 8 = some 5 := g3
  obtain ⟨a0, x2, e1, p1⟩ := lk_onS g1
  obtain ⟨a1, x3, e2, p2⟩ := lk_onS p1
  obtain ⟨a2, x4, e3, p3⟩ := lk_onS p2
  obtain ⟨a3, x5, e4, p4⟩ := lk_onS p3
  obtain ⟨a4, x6, e5, p5⟩ := lk_onS p4
  obtain ⟨x7, e6⟩ := lk_on0 p5
  rw [e1, e2, e3, e4, e5, e6] at g2 g3
  obtain ⟨a6, x8, e7, q1⟩ := lk_onS (r := x7) (n := 0) g2
  obtain ⟨x9, e8⟩ := lk_on0 q1
  rw [e7, e8] at g3
  obtain ⟨x1b, e9⟩ := lk_on0 (r := x9) g3
  rw [e1, e2, e3, e4, e5, e6, e7, e8, e9]
  exact ⟨k3, K, G, I, J, r0, a0, a1, a2, a3, a4, a6, x1b, R, rfl⟩
def lk_in (M : sm_M) (l : Int32) : Prop := 0 ≤ l ∧ l < M.2.2.1 1 0 ∧ l < 12
theorem lk_vp {M : sm_M} {l : Int32} (h : lk_in M l) : vp_in l 12 := by
  obtain ⟨h1, -, h3⟩ := h
  rintro (z | z)
  · exact absurd h1 (Int32.not_le.mpr z)
  · have e1 : l.toInt < 12 := Int32.lt_iff_toInt_lt.mp h3
    have e2 : (12 : Nat) ≤ l.toInt.toNat := z
    omega
section LKR
variable {X : (Nat → Int32) × Nat} {k3 : Nat × Nat} {K : List (Nat × Nat)} {G : Nat × Nat} {I : Nat → Nat → Int32} {J : Nat → Nat → Int64} {r0 : List (Option Nat)} {a0 a1 a2 a3 a4 a6 : Option Nat} {r1 : List (Option Nat)} {R : List (List (Option Nat))} {Q : Option Value → sm_M → Prop} {x1 : Int32}
set_option maxRecDepth 100000 in
theorem lk_90a : sm_wp X 90 0 [some (.ref 1), some (.int x1)] [] (lkM k3 K G I J r0 a0 a1 a2 a3 a4 a6 r1 R) Q =
    (if (x1 : Int32) < 0 then sm_wp X 90 22 [some (.ref 1), some (.int x1)] [] (lkM k3 K G I J r0 a0 a1 a2 a3 a4 a6 r1 R) Q else (if (I 1 0 : Int32) ≤ (x1 : Int32) then sm_wp X 90 22 [some (.ref 1), some (.int x1)] [] (lkM k3 K G I J r0 a0 a1 a2 a3 a4 a6 r1 R) Q else (if (12 : Int32) ≤ (x1 : Int32) then sm_wp X 90 22 [some (.ref 1), some (.int x1)] [] (lkM k3 K G I J r0 a0 a1 a2 a3 a4 a6 r1 R) Q else (sm_wp X 90 23 [some (.ref 1), some (.int x1)] [.int 1] (lkM k3 K G I J r0 a0 a1 a2 a3 a4 a6 r1 R) Q)))) :=
  (sm_blk X 90 0 (tt_lin 90 (by decide)) rfl rfl _ _ _ _).trans rfl
set_option maxRecDepth 100000 in
theorem lk_90b : sm_wp X 90 22 [some (.ref 1), some (.int x1)] [] (lkM k3 K G I J r0 a0 a1 a2 a3 a4 a6 r1 R) Q =
    (sm_zb 0 ∧ Q (some (.int 0)) (lkM k3 K G I J r0 a0 a1 a2 a3 a4 a6 r1 R)) :=
  (sm_blk X 90 22 (tt_lin 90 (by decide)) rfl rfl _ _ _ _).trans rfl
set_option maxRecDepth 100000 in
theorem lk_90c {s0 : Int32} : sm_wp X 90 23 [some (.ref 1), some (.int x1)] [.int s0] (lkM k3 K G I J r0 a0 a1 a2 a3 a4 a6 r1 R) Q =
    (sm_zb s0 ∧ Q (some (.int s0)) (lkM k3 K G I J r0 a0 a1 a2 a3 a4 a6 r1 R)) :=
  (sm_blk X 90 23 (tt_lin 90 (by decide)) rfl rfl _ _ _ _).trans rfl
theorem lk_90 (h1 : lk_in (lkM k3 K G I J r0 a0 a1 a2 a3 a4 a6 r1 R) x1 → Q (some (.int 1)) (lkM k3 K G I J r0 a0 a1 a2 a3 a4 a6 r1 R)) (h0 : ¬ lk_in (lkM k3 K G I J r0 a0 a1 a2 a3 a4 a6 r1 R) x1 → Q (some (.int 0)) (lkM k3 K G I J r0 a0 a1 a2 a3 a4 a6 r1 R)) :
    sm_wp X 90 0 [some (.ref 1), some (.int x1)] [] (lkM k3 K G I J r0 a0 a1 a2 a3 a4 a6 r1 R) Q := by
  rw [lk_90a]
  split
  · rename_i g
    rw [lk_90b]
    exact ⟨Or.inl rfl, h0 fun z => absurd z.1 (Int32.not_le.mpr g)⟩
  · rename_i g
    split
    · rename_i g2
      rw [lk_90b]
      exact ⟨Or.inl rfl, h0 fun z => absurd z.2.1 (Int32.not_lt.mpr g2)⟩
    · rename_i g2
      split
      · rename_i g3
        rw [lk_90b]
        exact ⟨Or.inl rfl, h0 fun z => absurd z.2.2 (Int32.not_lt.mpr g3)⟩
      · rename_i g3
        rw [lk_90c]
        exact ⟨Or.inr rfl, h1 ⟨Int32.not_lt.mp g, Int32.not_le.mp g2, Int32.not_le.mp g3⟩⟩
set_option maxRecDepth 100000 in
theorem lk_117a : sm_wp X 117 0 [some (.ref 1), some (.int x1)] [] (lkM k3 K G I J r0 a0 a1 a2 a3 a4 a6 r1 R) Q =
    (sm_wp X 90 0 [some (.ref 1), some (.int x1)] [] (lkM k3 K G I J r0 a0 a1 a2 a3 a4 a6 r1 R) (fun v M => sm_wp X 117 5 [some (.ref 1), some (.int x1)] (v.toList ++ []) M Q)) :=
  (sm_blk X 117 0 (tt_lin 117 (by decide)) rfl rfl _ _ _ _).trans rfl
set_option maxRecDepth 100000 in
theorem lk_117b : sm_wp X 117 5 [some (.ref 1), some (.int x1)] [.int 1] (lkM k3 K G I J r0 a0 a1 a2 a3 a4 a6 r1 R) Q =
    (if (1 : Int32) = 0 then sm_wp X 117 17 [some (.ref 1), some (.int x1)] [] (lkM k3 K G I J r0 a0 a1 a2 a3 a4 a6 r1 R) Q else (vp_in x1 12 ∧ (sm_wp X 117 18 [some (.ref 1), some (.int x1)] [.int (I 2 (x1.toNatClampNeg))] (lkM k3 K G I J r0 a0 a1 a2 a3 a4 a6 r1 R) Q))) :=
  (sm_blk X 117 5 (tt_lin 117 (by decide)) rfl rfl _ _ _ _).trans rfl
set_option maxRecDepth 100000 in
theorem lk_117c {s0 : Int32} : sm_wp X 117 18 [some (.ref 1), some (.int x1)] [.int s0] (lkM k3 K G I J r0 a0 a1 a2 a3 a4 a6 r1 R) Q =
    (True ∧ Q (some (.int s0)) (lkM k3 K G I J r0 a0 a1 a2 a3 a4 a6 r1 R)) :=
  (sm_blk X 117 18 (tt_lin 117 (by decide)) rfl rfl _ _ _ _).trans rfl
theorem lk_117 (h : lk_in (lkM k3 K G I J r0 a0 a1 a2 a3 a4 a6 r1 R) x1) (hQ : Q (some (.int (I 2 x1.toNatClampNeg))) (lkM k3 K G I J r0 a0 a1 a2 a3 a4 a6 r1 R)) : sm_wp X 117 0 [some (.ref 1), some (.int x1)] [] (lkM k3 K G I J r0 a0 a1 a2 a3 a4 a6 r1 R) Q := by
  rw [lk_117a]
  refine lk_90 (fun _ => ?_) (fun z => absurd h z)
  show sm_wp X 117 5 [some (.ref 1), some (.int x1)] [.int 1] (lkM k3 K G I J r0 a0 a1 a2 a3 a4 a6 r1 R) Q
  rw [lk_117b, if_neg (by decide), lk_117c]
  exact ⟨lk_vp h, trivial, hQ⟩
set_option maxRecDepth 100000 in
theorem lk_95a : sm_wp X 95 0 [some (.ref 1), some (.int x1)] [] (lkM k3 K G I J r0 a0 a1 a2 a3 a4 a6 r1 R) Q =
    (sm_wp X 90 0 [some (.ref 1), some (.int x1)] [] (lkM k3 K G I J r0 a0 a1 a2 a3 a4 a6 r1 R) (fun v M => sm_wp X 95 5 [some (.ref 1), some (.int x1)] (v.toList ++ []) M Q)) :=
  (sm_blk X 95 0 (tt_lin 95 (by decide)) rfl rfl _ _ _ _).trans rfl
set_option maxRecDepth 100000 in
theorem lk_95b : sm_wp X 95 5 [some (.ref 1), some (.int x1)] [.int 1] (lkM k3 K G I J r0 a0 a1 a2 a3 a4 a6 r1 R) Q =
    (if (1 : Int32) = 0 then sm_wp X 95 17 [some (.ref 1), some (.int x1)] [] (lkM k3 K G I J r0 a0 a1 a2 a3 a4 a6 r1 R) Q else (vp_in x1 12 ∧ (sm_wp X 95 18 [some (.ref 1), some (.int x1)] [.int (I 4 (x1.toNatClampNeg))] (lkM k3 K G I J r0 a0 a1 a2 a3 a4 a6 r1 R) Q))) :=
  (sm_blk X 95 5 (tt_lin 95 (by decide)) rfl rfl _ _ _ _).trans rfl
set_option maxRecDepth 100000 in
theorem lk_95c {s0 : Int32} : sm_wp X 95 18 [some (.ref 1), some (.int x1)] [.int s0] (lkM k3 K G I J r0 a0 a1 a2 a3 a4 a6 r1 R) Q =
    (True ∧ Q (some (.int s0)) (lkM k3 K G I J r0 a0 a1 a2 a3 a4 a6 r1 R)) :=
  (sm_blk X 95 18 (tt_lin 95 (by decide)) rfl rfl _ _ _ _).trans rfl
theorem lk_95 (h : lk_in (lkM k3 K G I J r0 a0 a1 a2 a3 a4 a6 r1 R) x1) (hQ : Q (some (.int (I 4 x1.toNatClampNeg))) (lkM k3 K G I J r0 a0 a1 a2 a3 a4 a6 r1 R)) : sm_wp X 95 0 [some (.ref 1), some (.int x1)] [] (lkM k3 K G I J r0 a0 a1 a2 a3 a4 a6 r1 R) Q := by
  rw [lk_95a]
  refine lk_90 (fun _ => ?_) (fun z => absurd h z)
  show sm_wp X 95 5 [some (.ref 1), some (.int x1)] [.int 1] (lkM k3 K G I J r0 a0 a1 a2 a3 a4 a6 r1 R) Q
  rw [lk_95b, if_neg (by decide), lk_95c]
  exact ⟨lk_vp h, trivial, hQ⟩
set_option maxRecDepth 100000 in
theorem lk_98a : sm_wp X 98 0 [some (.ref 1), some (.int x1)] [] (lkM k3 K G I J r0 a0 a1 a2 a3 a4 a6 r1 R) Q =
    (sm_wp X 90 0 [some (.ref 1), some (.int x1)] [] (lkM k3 K G I J r0 a0 a1 a2 a3 a4 a6 r1 R) (fun v M => sm_wp X 98 5 [some (.ref 1), some (.int x1)] (v.toList ++ []) M Q)) :=
  (sm_blk X 98 0 (tt_lin 98 (by decide)) rfl rfl _ _ _ _).trans rfl
set_option maxRecDepth 100000 in
theorem lk_98b : sm_wp X 98 5 [some (.ref 1), some (.int x1)] [.int 1] (lkM k3 K G I J r0 a0 a1 a2 a3 a4 a6 r1 R) Q =
    (if (1 : Int32) = 0 then sm_wp X 98 17 [some (.ref 1), some (.int x1)] [] (lkM k3 K G I J r0 a0 a1 a2 a3 a4 a6 r1 R) Q else (vp_in x1 12 ∧ (sm_wp X 98 18 [some (.ref 1), some (.int x1)] [.int (I 5 (x1.toNatClampNeg))] (lkM k3 K G I J r0 a0 a1 a2 a3 a4 a6 r1 R) Q))) :=
  (sm_blk X 98 5 (tt_lin 98 (by decide)) rfl rfl _ _ _ _).trans rfl
set_option maxRecDepth 100000 in
theorem lk_98c {s0 : Int32} : sm_wp X 98 18 [some (.ref 1), some (.int x1)] [.int s0] (lkM k3 K G I J r0 a0 a1 a2 a3 a4 a6 r1 R) Q =
    (True ∧ Q (some (.int s0)) (lkM k3 K G I J r0 a0 a1 a2 a3 a4 a6 r1 R)) :=
  (sm_blk X 98 18 (tt_lin 98 (by decide)) rfl rfl _ _ _ _).trans rfl
theorem lk_98 (h : lk_in (lkM k3 K G I J r0 a0 a1 a2 a3 a4 a6 r1 R) x1) (hQ : Q (some (.int (I 5 x1.toNatClampNeg))) (lkM k3 K G I J r0 a0 a1 a2 a3 a4 a6 r1 R)) : sm_wp X 98 0 [some (.ref 1), some (.int x1)] [] (lkM k3 K G I J r0 a0 a1 a2 a3 a4 a6 r1 R) Q := by
  rw [lk_98a]
  refine lk_90 (fun _ => ?_) (fun z => absurd h z)
  show sm_wp X 98 5 [some (.ref 1), some (.int x1)] [.int 1] (lkM k3 K G I J r0 a0 a1 a2 a3 a4 a6 r1 R) Q
  rw [lk_98b, if_neg (by decide), lk_98c]
  exact ⟨lk_vp h, trivial, hQ⟩
end LKR
theorem lk_r117 {X : (Nat → Int32) × Nat} {M : sm_M} {x : Int32} (h : sm_shp M = true) (hi : lk_in M x) : ∃ n, sm_run X n 117 0 (sm_en 117 [.ref 1, .int x]) [] M = some (some (.int (M.2.2.1 2 x.toNatClampNeg)), M) := by
  obtain ⟨k3, K, G, I, J, r0, a0, a1, a2, a3, a4, a6, r1, R, rfl⟩ := lk_opn h
  obtain ⟨n, v, M', e, rfl, rfl⟩ := lk_117 (X := X) (Q := fun v M' => v = some (.int (I 2 x.toNatClampNeg)) ∧ M' = lkM k3 K G I J r0 a0 a1 a2 a3 a4 a6 r1 R) hi ⟨rfl, rfl⟩
  exact ⟨n, e⟩
theorem lk_r95 {X : (Nat → Int32) × Nat} {M : sm_M} {x : Int32} (h : sm_shp M = true) (hi : lk_in M x) : ∃ n, sm_run X n 95 0 (sm_en 95 [.ref 1, .int x]) [] M = some (some (.int (M.2.2.1 4 x.toNatClampNeg)), M) := by
  obtain ⟨k3, K, G, I, J, r0, a0, a1, a2, a3, a4, a6, r1, R, rfl⟩ := lk_opn h
  obtain ⟨n, v, M', e, rfl, rfl⟩ := lk_95 (X := X) (Q := fun v M' => v = some (.int (I 4 x.toNatClampNeg)) ∧ M' = lkM k3 K G I J r0 a0 a1 a2 a3 a4 a6 r1 R) hi ⟨rfl, rfl⟩
  exact ⟨n, e⟩
theorem lk_r98 {X : (Nat → Int32) × Nat} {M : sm_M} {x : Int32} (h : sm_shp M = true) (hi : lk_in M x) : ∃ n, sm_run X n 98 0 (sm_en 98 [.ref 1, .int x]) [] M = some (some (.int (M.2.2.1 5 x.toNatClampNeg)), M) := by
  obtain ⟨k3, K, G, I, J, r0, a0, a1, a2, a3, a4, a6, r1, R, rfl⟩ := lk_opn h
  obtain ⟨n, v, M', e, rfl, rfl⟩ := lk_98 (X := X) (Q := fun v M' => v = some (.int (I 5 x.toNatClampNeg)) ∧ M' = lkM k3 K G I J r0 a0 a1 a2 a3 a4 a6 r1 R) hi ⟨rfl, rfl⟩
  exact ⟨n, e⟩
theorem lk_r90 {X : (Nat → Int32) × Nat} {M : sm_M} {x : Int32} (h : sm_shp M = true) : ∃ n k, sm_run X n 90 0 (sm_en 90 [.ref 1, .int x]) [] M = some (some (.int k), M) ∧ ((lk_in M x ∧ k = 1) ∨ (¬ lk_in M x ∧ k = 0)) := by
  obtain ⟨k3, K, G, I, J, r0, a0, a1, a2, a3, a4, a6, r1, R, rfl⟩ := lk_opn h
  obtain ⟨n, v, M', e, k, rfl, rfl, hk⟩ := lk_90 (X := X) (x1 := x) (Q := fun v M' => ∃ k, v = some (.int k) ∧ M' = lkM k3 K G I J r0 a0 a1 a2 a3 a4 a6 r1 R ∧ ((lk_in (lkM k3 K G I J r0 a0 a1 a2 a3 a4 a6 r1 R) x ∧ k = 1) ∨ (¬ lk_in (lkM k3 K G I J r0 a0 a1 a2 a3 a4 a6 r1 R) x ∧ k = 0))) (fun z => ⟨1, rfl, rfl, Or.inl ⟨z, rfl⟩⟩) (fun z => ⟨0, rfl, rfl, Or.inr ⟨z, rfl⟩⟩)
  exact ⟨n, k, e, hk⟩
