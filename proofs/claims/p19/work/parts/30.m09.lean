section
/-! The fresh memory: what holds before the first call. -/
def wI0 : List (Nat × Nat × Int32) := [(1, 0, 0), (1, 1, 0), (1, 2, 0), (1, 3, 0), (1, 4, 0), (14, 0, 0), (14, 1, 0), (14, 2, 0), (14, 4, 0), (14, 5, 0), (16, 0, 0), (16, 1, (-1)), (16, 2, 0), (16, 3, 0), (16, 9, 0), (16, 10, 0), (16, 11, 0), (16, 12, 0), (16, 13, 0), (26, 0, 0), (31, 0, 0), (45, 5, 0), (48, 1, (-1)), (48, 2, 0), (52, 2, 0), (52, 3, (-1)), (52, 4, (-1)), (52, 5, 0), (52, 12, 0), (52, 13, 0), (52, 14, 0), (52, 15, 0), (52, 17, (-1)), (52, 18, 0), (60, 2, 0), (60, 3, (-1)), (60, 4, (-1)), (60, 5, 0), (60, 12, 0), (60, 13, 0), (60, 14, 0), (60, 15, 0), (60, 17, (-1)), (60, 18, 0), (68, 3, 0), (68, 4, (-1)), (71, 0, 0), (93, 0, 116), (93, 1, 97), (93, 2, 107), (93, 3, 101), (93, 4, 32), (93, 5, 114), (93, 6, 101), (93, 7, 102), (93, 8, 117), (93, 9, 115), (93, 10, 101), (93, 11, 32), (93, 12, 97), (93, 13, 115), (93, 14, 107), (93, 15, 32), (93, 16, 104), (93, 17, 111), (93, 18, 109), (93, 19, 101), (93, 20, 32), (93, 21, 111), (93, 22, 114), (93, 23, 32), (93, 24, 97), (93, 25, 110), (93, 26, 100), (93, 27, 32), (93, 28, 110), (93, 29, 111), (93, 30, 116), (93, 31, 32), (93, 32, 103), (93, 33, 97), (93, 34, 105), (93, 35, 110), (93, 36, 32), (93, 37, 103), (93, 38, 111), (93, 39, 116), (93, 40, 32), (93, 41, 108), (93, 42, 111), (93, 43, 115), (93, 44, 116), (93, 45, 32), (93, 46, 115), (93, 47, 111), (93, 48, 117), (93, 49, 108), (93, 50, 115), (93, 51, 32), (93, 52, 110), (93, 53, 101), (93, 54, 97), (93, 55, 114), (93, 56, 32), (93, 57, 109), (93, 58, 105), (93, 59, 110), (93, 60, 101), (93, 61, 32), (93, 62, 98), (93, 63, 111), (93, 64, 117), (93, 65, 110), (93, 66, 100), (93, 67, 32), (93, 68, 114), (93, 69, 97), (93, 70, 110), (93, 71, 107), (93, 72, 32), (93, 73, 111), (93, 74, 116), (93, 75, 104), (93, 76, 101), (93, 77, 114), (93, 78, 32), (93, 79, 100), (93, 80, 97), (93, 81, 121), (93, 82, 32), (93, 83, 108), (93, 84, 101), (93, 85, 102), (93, 86, 116), (93, 87, 32), (93, 88, 108), (93, 89, 105), (93, 90, 110), (93, 91, 107), (93, 92, 101), (93, 93, 100), (93, 94, 32), (81, 19, (-1))]
def wrs (w : List (Nat × Nat × Int32)) (I : Nat → Nat → Int32) : Nat → Nat → Int32 := w.foldl (fun I x => up2 I x.1 x.2.1 x.2.2) I
def wlk (d k : Nat) (w : List (Nat × Nat × Int32)) (v : Int32) : Int32 := w.foldl (fun v x => if x.1 = d ∧ x.2.1 = k then x.2.2 else v) v
theorem wrs_0 {d : Nat} : ∀ (w : List (Nat × Nat × Int32)) (I : Nat → Nat → Int32), I d = (fun _ => 0) → (∀ x ∈ w, x.1 = d → x.2.2 = 0) → wrs w I d = fun _ => 0 := by
  intro w
  induction w with
  | nil => intro I h _; exact h
  | cons x w ih =>
    intro I h hw
    refine ih (up2 I x.1 x.2.1 x.2.2) ?_ (fun y hy => hw y (List.mem_cons_of_mem _ hy))
    by_cases e : d = x.1
    · funext j
      rw [e, up2_ra, va_ap, hw x List.mem_cons_self e.symm, ← e, h]
      split <;> rfl
    · rw [up2_rn _ _ _ _ _ e]; exact h
theorem wrs_v {d k : Nat} : ∀ (w : List (Nat × Nat × Int32)) (I : Nat → Nat → Int32), wrs w I d k = wlk d k w (I d k) := by
  intro w
  induction w with
  | nil => intro I; rfl
  | cons x w ih =>
    intro I
    show wrs w (up2 I x.1 x.2.1 x.2.2) d k = wlk d k w (if x.1 = d ∧ x.2.1 = k then x.2.2 else I d k)
    rw [ih]
    congr 1
    by_cases e : d = x.1
    · rw [e, up2_ra, va_ap]
      by_cases g : k = x.2.1
      · rw [if_pos g, if_pos ⟨rfl, g.symm⟩]
      · rw [if_neg g, if_neg (fun h => g h.2.symm)]
    · rw [up2_rn _ _ _ _ _ e, if_neg (fun h => e h.1.symm)]
def I00 : Nat → Nat → Int32 := wrs wI0 (fun _ _ => 0)
def J00 : Nat → Nat → Int64 := up2 (up2 (fun _ _ => 0) 52 16 0) 60 16 0
set_option maxRecDepth 100000 in
theorem i00_e : up2 (up2 (up2 (up2 (up2 (up2 (up2 (up2 (up2 (up2 (up2 (up2 (up2 (up2 (up2 (up2 (up2 (up2 (up2 (up2 (up2 (up2 (up2 (up2 (up2 (up2 (up2 (up2 (up2 (up2 (up2 (up2 (up2 (up2 (up2 (up2 (up2 (up2 (up2 (up2 (up2 (up2 (up2 (up2 (up2 (up2 (up2 (up2 (up2 (up2 (up2 (up2 (up2 (up2 (up2 (up2 (up2 (up2 (up2 (up2 (up2 (up2 (up2 (up2 (up2 (up2 (up2 (up2 (up2 (up2 (up2 (up2 (up2 (up2 (up2 (up2 (up2 (up2 (up2 (up2 (up2 (up2 (up2 (up2 (up2 (up2 (up2 (up2 (up2 (up2 (up2 (up2 (up2 (up2 (up2 (up2 (up2 (up2 (up2 (up2 (up2 (up2 (up2 (up2 (up2 (up2 (up2 (up2 (up2 (up2 (up2 (up2 (up2 (up2 (up2 (up2 (up2 (up2 (up2 (up2 (up2 (up2 (up2 (up2 (up2 (up2 (up2 (up2 (up2 (up2 (up2 (up2 (up2 (up2 (up2 (up2 (up2 (up2 (up2 (up2 (up2 (up2 (up2 ((fun _ _ => (0 : Int32))) 1 0 0) 1 1 0) 1 2 0) 1 3 0) 1 4 0) 14 0 0) 14 1 0) 14 2 0) 14 4 0) 14 5 0) 16 0 0) 16 1 (-1)) 16 2 0) 16 3 0) 16 9 0) 16 10 0) 16 11 0) 16 12 0) 16 13 0) 26 0 0) 31 0 0) 45 5 0) 48 1 (-1)) 48 2 0) 52 2 0) 52 3 (-1)) 52 4 (-1)) 52 5 0) 52 12 0) 52 13 0) 52 14 0) 52 15 0) 52 17 (-1)) 52 18 0) 60 2 0) 60 3 (-1)) 60 4 (-1)) 60 5 0) 60 12 0) 60 13 0) 60 14 0) 60 15 0) 60 17 (-1)) 60 18 0) 68 3 0) 68 4 (-1)) 71 0 0) 93 0 116) 93 1 97) 93 2 107) 93 3 101) 93 4 32) 93 5 114) 93 6 101) 93 7 102) 93 8 117) 93 9 115) 93 10 101) 93 11 32) 93 12 97) 93 13 115) 93 14 107) 93 15 32) 93 16 104) 93 17 111) 93 18 109) 93 19 101) 93 20 32) 93 21 111) 93 22 114) 93 23 32) 93 24 97) 93 25 110) 93 26 100) 93 27 32) 93 28 110) 93 29 111) 93 30 116) 93 31 32) 93 32 103) 93 33 97) 93 34 105) 93 35 110) 93 36 32) 93 37 103) 93 38 111) 93 39 116) 93 40 32) 93 41 108) 93 42 111) 93 43 115) 93 44 116) 93 45 32) 93 46 115) 93 47 111) 93 48 117) 93 49 108) 93 50 115) 93 51 32) 93 52 110) 93 53 101) 93 54 97) 93 55 114) 93 56 32) 93 57 109) 93 58 105) 93 59 110) 93 60 101) 93 61 32) 93 62 98) 93 63 111) 93 64 117) 93 65 110) 93 66 100) 93 67 32) 93 68 114) 93 69 97) 93 70 110) 93 71 107) 93 72 32) 93 73 111) 93 74 116) 93 75 104) 93 76 101) 93 77 114) 93 78 32) 93 79 100) 93 80 97) 93 81 121) 93 82 32) 93 83 108) 93 84 101) 93 85 102) 93 86 116) 93 87 32) 93 88 108) 93 89 105) 93 90 110) 93 91 107) 93 92 101) 93 93 100) 93 94 32) 81 19 (-1) = I00 := rfl
theorem i00_c : (wI0.all fun x => decide (x.1 = 16 ∨ x.1 = 48 ∨ x.1 = 52 ∨ x.1 = 60 ∨ x.1 = 68 ∨ x.1 = 81 ∨ x.1 = 93 ∨ x.2.2 = 0)) = true := by decide +kernel
theorem i00_z {d : Nat} (a : ¬ d = 16) (b : ¬ d = 48) (c : ¬ d = 52) (e : ¬ d = 60) (f : ¬ d = 68) (g : ¬ d = 81) (h : ¬ d = 93) : I00 d = fun _ => 0 := by
  refine wrs_0 wI0 _ rfl fun x hx hd => ?_
  rcases of_decide_eq_true (List.all_eq_true.mp i00_c x hx) with q | q | q | q | q | q | q | q
  all_goals first | exact q | omega
theorem i00_v (d k : Nat) : I00 d k = wlk d k wI0 0 := wrs_v wI0 _
theorem i00_w : ∀ j : Fin 95, I00 93 j.val = rf_words.getD j.val 0 := by
  intro j
  rw [i00_v]
  exact (by decide +kernel : ∀ j : Fin 95, wlk 93 j.val wI0 0 = rf_words.getD j.val 0) j
theorem kk_end : kk_69 = sK false := by decide +kernel
theorem rr_end : rr_75 = sR false := by decide +kernel
theorem bt_z0 (k : Nat) : bt 0 k = false := by
  cases h : bt 0 k with
  | false => rfl
  | true => exact absurd h (by simp [bt])
theorem pc6_z0 : pc6 0 ≤ 3 := by decide +kernel
theorem bt_z01 (k : Nat) : bt 0 k = true ↔ (0 : Int32) = 1 := by
  rw [bt_z0]
  decide
theorem b8_z0 : (0 : Int32) = (0 : Int32).toInt8.toInt32 := by decide
theorem inv_0 : inv 0 false (0, 0) I00 J00 := by
  have z0 : (0 : Int32) = zI 0 := rfl
  have z : ∀ d : Nat, ¬ d = 16 → ¬ d = 48 → ¬ d = 52 → ¬ d = 60 → ¬ d = 68 → ¬ d = 81 → ¬ d = 93 → I00 d = fun _ => 0 := fun d a b c e f g h => i00_z a b c e f g h
  have v81 : ∀ j, ¬ j = 19 → I00 81 j = 0 := fun j hj => by
    rw [i00_v]
    have : ∀ (w : List (Nat × Nat × Int32)), (∀ x ∈ w, x.1 = 81 → x.2.1 = 19) → ∀ v, wlk 81 j w v = v := by
      intro w
      induction w with
      | nil => intro _ v; rfl
      | cons x w ih =>
        intro h v
        show wlk 81 j w (if x.1 = 81 ∧ x.2.1 = j then x.2.2 else v) = v
        rw [ih (fun y hy => h y (List.mem_cons_of_mem _ hy)), if_neg (fun e => hj (by rw [← e.2]; exact h x List.mem_cons_self e.1))]
    exact this wI0 (fun x hx he => by
      have q := of_decide_eq_true (List.all_eq_true.mp (by decide +kernel : (wI0.all fun x => decide (x.1 = 81 → x.2.1 = 19)) = true) x hx)
      exact q he) 0
  have stm : stp 0 (-1) := Or.inl rfl
  have nst : ∀ a : Int32, a = -1 → ¬ a = zI 0 := fun a e h => by rw [e] at h; exact absurd h (by decide)
  have e481 : I00 48 1 = -1 := by rw [i00_v]; decide +kernel
  have e684 : I00 68 4 = -1 := by rw [i00_v]; decide +kernel
  have e524 : I00 52 4 = -1 := by rw [i00_v]; decide +kernel
  have e604 : I00 60 4 = -1 := by rw [i00_v]; decide +kernel
  have e16 : I00 16 0 = 0 ∧ I00 16 1 = -1 ∧ I00 81 19 = -1 := by
    rw [i00_v, i00_v, i00_v]; decide +kernel
  refine ⟨0, 0, 0, 0, 0, 0, 0, 0, ?_, ?_, ?_, ?_, ?_, ?_, ?_, ?_, ?_, ?_, ?_, ?_, ?_, ?_, ?_, ?_, ?_⟩
  · rw [v81 3 (by decide), v81 10 (by decide), v81 15 (by decide), v81 16 (by decide), z 1 (by decide) (by decide) (by decide) (by decide) (by decide) (by decide) (by decide)]
    exact ⟨rfl, rfl, by decide, rfl, rfl, by decide, rfl, fun k _ => bt_z0 k, rfl, rfl, by decide⟩
  · simp (decide := true) only [i00_z]
    exact ⟨rfl, rfl, rfl, rfl, rfl, rfl, rfl, rfl⟩
  · simp (decide := true) only [i00_z]
    exact ⟨fun l hl => absurd hl (Nat.not_lt_zero _), fun _ k _ => bt_z0 k, fun _ => pc6_z0, fun _ _ => rfl, fun _ => ⟨0, by decide, rfl⟩, fun _ => ⟨0, by decide, rfl⟩, fun _ => ⟨0, by decide, rfl⟩, fun _ => ⟨0, by decide, rfl⟩, fun _ => ⟨0, by decide, rfl⟩⟩
  · simp (decide := true) only [i00_z]
    exact ⟨fun _ _ => rfl, fun _ => ⟨0, rfl, Nat.zero_le _⟩, fun _ _ _ _ => ⟨rfl, rfl, rfl⟩⟩
  · simp (decide := true) only [i00_z]
    exact ⟨fun _ => Or.inl rfl, fun a _ b _ => bt_z01 b⟩
  · simp (decide := true) only [i00_z]
    exact ⟨rfl, by decide⟩
  · rw [v81 46 (by decide)]
    simp (decide := true) only [i00_z]
    exact ⟨rfl, rfl, by decide, ⟨rfl, rfl, rfl, rfl, rfl, rfl, rfl, rfl, rfl, trivial, rfl⟩, fun _ _ => ⟨rfl, rfl, rfl⟩, fun k hk => absurd hk (Nat.not_lt_zero _), fun k hk => absurd hk (Nat.not_lt_zero _)⟩
  · rw [v81 60 (by decide)]
    simp (decide := true) only [i00_z]
    exact ⟨rfl, rfl, by decide, fun _ _ => ⟨rfl, rfl, rfl, rfl⟩⟩
  · rw [v81 81 (by decide)]
    simp (decide := true) only [i00_z]
    exact ⟨rfl, rfl, by decide, rfl, rfl, rfl, fun _ => ⟨0, by decide, rfl⟩, fun _ => Or.inl rfl, fun a _ b _ => bt_z01 b, fun a b _ => bt_z0 b⟩
  · rw [v81 1 (by decide)]
    simp (decide := true) only [i00_z]
    exact ⟨rfl, rfl, by decide, fun _ => ⟨⟨0, by decide, rfl⟩, b8_z0⟩⟩
  · exact ⟨by rw [v81 18 (by decide), e16.1], by rw [e16.2.2, e16.2.1]⟩
  · simp (decide := true) only [i00_z]
    intro s hs
    exact ⟨0, fun _ => 0, fun _ => 0, fun _ => 0, fun _ => 0, rfl, rfl, by decide, ⟨by decide, fun i hi => absurd hi (Nat.not_lt_zero _), fun i k hi => absurd hi (Nat.not_lt_zero _)⟩, fun i hi => absurd hi (Nat.not_lt_zero _)⟩
  · exact ⟨by rw [e481]; exact stm, by rw [e684]; exact stm, fun _ e => absurd e (nst _ e481), fun _ e => absurd e (nst _ e684)⟩
  · exact ⟨by rw [e524]; exact stm, fun _ e => absurd e (nst _ e524), fun _ _ e => absurd e (nst _ e524)⟩
  · exact ⟨by rw [e604]; exact stm, fun _ e => absurd e (nst _ e604), fun _ _ e => absurd e (nst _ e604)⟩
  · exact fun j hj => i00_w ⟨j, hj⟩
  · exact ⟨Nat.le_refl _, Nat.le_refl _⟩
theorem fresh_43 : I00 118 = I00 43 := by
  rw [i00_z (d := 118) (by decide) (by decide) (by decide) (by decide) (by decide) (by decide) (by decide), i00_z (d := 43) (by decide) (by decide) (by decide) (by decide) (by decide) (by decide) (by decide)]
end
section
/-! The law's look: both sides. -/
theorem lg_self (x : Int64) : lg_cmp x x = 0 := by
  unfold lg_cmp
  simp
theorem inv_lk {c : Nat} {mo : Bool} {G G' : Nat × Nat} {I : Nat → Nat → Int32} {J J' : Nat → Nat → Int64} (v : Int32) (h : inv c mo G I J) (g1 : G'.1 ≤ G.1 + 1) (g2 : G'.2 ≤ G.2 + 6) (j52 : J' 52 = J 52) (j60 : J' 60 = J 60) : Inv (c + 1) (sM mo G' (up2 I 81 2 v) J') := by
  obtain ⟨n, m, t, p, q, r, ch, ln, hN, hE, hV, hY, hG, hK, hP, hS, hA, hT, hF, hB, hC, hD, hD2, hX, hZ⟩ := h
  refine ⟨mo, G', _, _, rfl, n, m, t, p, q, r, ch, ln, ?_⟩
  rw [j52, j60]
  simp (decide := true) only [up2_ra, up2_rn, va_ap, ne_eq, if_false, if_true, not_false_eq_true]
  exact ⟨hN, hE, hV, hY, hG, ivK_s hK, hP, hS, hA, hT, hF, hB, hC, hD, hD2, hX, by have := hZ.1; have := hZ.2; exact ⟨by omega, by omega⟩⟩
section K1
variable {X : (Nat → Int32) × Nat} {c : Nat} {mo : Bool} {G : Nat × Nat} {I : Nat → Nat → Int32} {J : Nat → Nat → Int64} {Q : Option Value → sm_M → Prop}
set_option maxRecDepth 100000 in
theorem bkx_315_1626 (X : (Nat → Int32) × Nat) (mo : Bool) (G : Nat × Nat) (I : Nat → Nat → Int32) (J : Nat → Nat → Int64) (Q : Option Value → sm_M → Prop) (x4 s0 : Int32) :
    sm_wp X 315 1626 [some (.retAddr 1), some (.ref 0), some (.ref 81), some (.ref 142), some (.int x4), none, none] [.int s0] (sM mo G I J) Q =
    (vp_in (x4 + 1) X.2 ∧ (vp_in (x4 + 2) X.2 ∧ (sm_wp X 308 0 [some (.ref 81), some (.int (X.1 (x4 + 1).toNatClampNeg)), some (.int (X.1 (x4 + 2).toNatClampNeg))] [] (sM mo G I J) (fun v M => sm_wp X 315 1644 [some (.retAddr 1), some (.ref 0), some (.ref 81), some (.ref 142), some (.int x4), some (.int s0), none] (v.toList ++ []) M Q)))) :=
  (sm_blk X 315 1626 (tt_lin 315 (by decide)) rfl rfl _ _ _ _).trans rfl
set_option maxRecDepth 100000 in
theorem bkx_315_1674 (X : (Nat → Int32) × Nat) (mo : Bool) (G : Nat × Nat) (I : Nat → Nat → Int32) (J : Nat → Nat → Int64) (Q : Option Value → sm_M → Prop) (x4 x5 x6 : Int32) :
    sm_wp X 315 1674 [some (.retAddr 1), some (.ref 0), some (.ref 81), some (.ref 142), some (.int x4), some (.int x5), some (.int x6)] [] (sM mo G I J) Q =
    (sm_wp X 315 23 [some (.retAddr 1), some (.ref 0), some (.ref 81), some (.ref 142), some (.int (x4 + 7)), none, none] [] (sM mo G I J) Q) :=
  (sm_blk X 315 1674 (tt_lin 315 (by decide)) rfl rfl _ _ _ _).trans rfl
set_option maxRecDepth 100000 in
theorem bkx_315_1644 (X : (Nat → Int32) × Nat) (mo : Bool) (G : Nat × Nat) (I : Nat → Nat → Int32) (J : Nat → Nat → Int64) (Q : Option Value → sm_M → Prop) (x4 x5 s0 : Int32) :
    sm_wp X 315 1644 [some (.retAddr 1), some (.ref 0), some (.ref 81), some (.ref 142), some (.int x4), some (.int x5), none] [.int s0] (sM mo G I J) Q =
    (sm_wp X 315 1674 [some (.retAddr 1), some (.ref 0), some (.ref 81), some (.ref 142), some (.int x4), some (.int x5), some (.int s0)] [] (sM mo G I J) Q) :=
  (sm_blk X 315 1644 (tt_lin 315 (by decide)) rfl rfl _ _ _ _).trans rfl
theorem sm_ckw {i pc : Nat} {e : Nat × List Bool × sm_R} {l : sm_T} {L L' : sm_L} {st st' : sm_S} {M M' : sm_M} {c : sm_C} (hc : sm_from (sm_code i) pc = e :: l) (hs : sm_step X e.2.2 L st M = some (.inr (.inl (c, L', st', M')))) (h1 : c.1) (h : sm_wp X i (pc + e.2.2.2.1) (sm_kl i (pc + e.2.2.2.1) L') st' M' Q) : sm_wp X i pc L st M Q := by
  obtain ⟨p, ks, r⟩ := e
  exact (sm_wp_step X hc).mpr ⟨_, hs, h1, h⟩
set_option maxRecDepth 100000 in
theorem lw_1609 {x4 : Int32} (h1 : vp_in (x4 + 1) X.2) (h2 : vp_in (x4 + 2) X.2) {z : sm_C × Option Value × sm_M} (hz : sm_look [.ref 0, .int (X.1 (x4 + 1).toNatClampNeg), .int (X.1 (x4 + 2).toNatClampNeg), .ref 142] (sM mo G I J) = some z) (hc : z.1.1) (h : sm_wp X 315 1626 [some (.retAddr 1), some (.ref 0), some (.ref 81), some (.ref 142), some (.int x4), none, none] (z.2.1.toList ++ []) z.2.2 Q) :
    sm_wp X 315 1609 [some (.retAddr 1), some (.ref 0), some (.ref 81), some (.ref 142), some (.int x4), none, none] [] (sM mo G I J) Q := by
  refine sm_gon_wp (show sm_gon X 5 315 1609 [some (.retAddr 1), some (.ref 0), some (.ref 81), some (.ref 142), some (.int x4), none, none] [] (sM mo G I J) = some (1615, [some (.retAddr 1), some (.ref 0), some (.ref 81), some (.ref 142), some (.int x4), none, none], [.int (x4 + 1), .retAddr 1, .ref 0], sM mo G I J) from rfl) ?_
  refine sm_ckw (pc := 1615) rfl rfl h1 ?_
  refine sm_gon_wp (show sm_gon X 4 315 1616 [some (.retAddr 1), some (.ref 0), some (.ref 81), some (.ref 142), some (.int x4), none, none] [.int (X.1 (x4 + 1).toNatClampNeg), .ref 0] (sM mo G I J) = some (1621, [some (.retAddr 1), some (.ref 0), some (.ref 81), some (.ref 142), some (.int x4), none, none], [.int (x4 + 2), .retAddr 1, .int (X.1 (x4 + 1).toNatClampNeg), .ref 0], sM mo G I J) from rfl) ?_
  refine sm_ckw (pc := 1621) rfl rfl h2 ?_
  refine sm_gon_wp (show sm_gon X 1 315 1622 [some (.retAddr 1), some (.ref 0), some (.ref 81), some (.ref 142), some (.int x4), none, none] [.int (X.1 (x4 + 2).toNatClampNeg), .int (X.1 (x4 + 1).toNatClampNeg), .ref 0] (sM mo G I J) = some (1623, [some (.retAddr 1), some (.ref 0), some (.ref 81), some (.ref 142), some (.int x4), none, none], [.ref 142, .int (X.1 (x4 + 2).toNatClampNeg), .int (X.1 (x4 + 1).toNatClampNeg), .ref 0], sM mo G I J) from rfl) ?_
  refine (sm_wp_step X (p := 1623) rfl).mpr ⟨_, rfl, ?_⟩
  show (match sm_look [.ref 0, .int (X.1 (x4 + 1).toNatClampNeg), .int (X.1 (x4 + 2).toNatClampNeg), .ref 142] (sM mo G I J) with
    | some (c, v, M') => c.1 ∧ sm_wp X 315 1626 [some (.retAddr 1), some (.ref 0), some (.ref 81), some (.ref 142), some (.int x4), none, none] (v.toList ++ []) M' Q
    | none => False)
  rw [hz]
  exact ⟨hc, h⟩
/-- what look comes to, in the law -/
theorem op_lookL (h : inv c mo G I J) {x4 : Int32} (h1 : vp_in (x4 + 1) X.2) (h2 : vp_in (x4 + 2) X.2) (hQ : ∀ M', Inv (c + 1) M' → sm_wp X 315 23 [some (.retAddr 1), some (.ref 0), some (.ref 81), some (.ref 142), some (.int (x4 + 7)), none, none] [] M' Q) :
    sm_wp X 315 1609 [some (.retAddr 1), some (.ref 0), some (.ref 81), some (.ref 142), some (.int x4), none, none] [] (sM mo G I J) Q := by
  have h' := h
  obtain ⟨n, m, t, p, q, r, ch, ln, ⟨n1, n2, n3, n4, n5, n6, n7, n8, n9, n10, n11⟩, ⟨e1, e2, e3, e4, e5, e6, e7, e8⟩, hV, hY, hG, hK, hP, hS, hA, hT, hF, hB, hC, hD, hD2, hX, hZ⟩ := h'
  generalize hx : X.1 (x4 + 1).toNatClampNeg = x
  generalize hy : X.1 (x4 + 2).toNatClampNeg = y
  have en : (0 ≤ x ∧ x < I 1 0 ∧ x < 12) ↔ sIn x n := by
    rw [n1]
    constructor
    · rintro ⟨a, b, -⟩
      exact ⟨Int32.not_lt.mpr a, Int32.not_le.mpr b⟩
    · rintro ⟨a, b⟩
      have b' : x < zI n := Int32.not_le.mp b
      have : zI n ≤ 12 := by rw [zIr_le (c := 12) (by decide) (by omega)]; exact n3
      exact ⟨Int32.not_lt.mp a, b', Int32.lt_of_lt_of_le b' this⟩
  -- behind the two
  have tl : ∀ (G' : Nat × Nat) (v : Int32) (J' : Nat → Nat → Int64) (k b : Int32), G'.1 ≤ G.1 + 1 → G'.2 ≤ G.2 + 6 → J' 52 = J 52 → J' 60 = J 60 → k = v → (k = 0 → J' 142 0 = b.toInt64) → sm_wp X 315 1644 [some (.retAddr 1), some (.ref 0), some (.ref 81), some (.ref 142), some (.int x4), some (.int k), none] [.int b] (sM mo G' (up2 I 81 2 v) J') Q := by
    intro G' v J' k b g1 g2 j52 j60 hk hb
    have en := hQ _ (inv_lk v h g1 g2 j52 j60)
    rw [bkx_315_1644, bkx_315_1674]
    exact en
  have j0 : ∀ (v : Int64) d, ¬ d = 142 → up2 J 142 0 v d = J d := fun v d hd => up2_rn _ _ _ _ _ hd
  have jv : ∀ v : Int64, up2 J 142 0 v 142 0 = v := fun v => by rw [up2_ra, va_ap, if_pos rfl]
  have w2 : ∀ a b : Int32, up2 (up2 I 81 2 a) 81 2 b = up2 I 81 2 b := fun a b => by
    funext d j
    by_cases e : d = 81
    · rw [e, up2_ra, up2_ra, up2_ra, va_ap, va_ap, va_ap]
      split <;> rfl
    · rw [up2_rn _ _ _ _ _ e, up2_rn _ _ _ _ _ e, up2_rn _ _ _ _ _ e]
  -- the reference's part
  have rf : ∀ (G' : Nat × Nat) (J' : Nat → Nat → Int64) (k : Int32), G'.1 ≤ G.1 + 1 → G'.2 ≤ G.2 + 6 → J' 52 = J 52 → J' 60 = J 60 → (∀ i, i < n → x = zI i → (y = 0 → k = 0 ∧ J' 142 0 = (I 2 i).toInt64) ∧ (y = 1 → k = 0 ∧ J' 142 0 = (I 4 i).toInt64) ∧ (y = 2 → k = 0 ∧ J' 142 0 = (I 5 i).toInt64) ∧ (¬ y = 0 → ¬ y = 1 → ¬ y = 2 → k = 2)) → (¬ sIn x n → k = 1) → sm_wp X 315 1626 [some (.retAddr 1), some (.ref 0), some (.ref 81), some (.ref 142), some (.int x4), none, none] [.int k] (sM mo G' I J') Q := by
    intro G' J' k g1 g2 j52 j60 hk hn
    rw [bkx_315_1626, hx, hy]
    refine ⟨h1, h2, ?_⟩
    rw [ct_Model_look]
    have ml := mL0 (I := I) n2 n3 x
    by_cases g : sIn x n
    · rw [if_pos (by rw [ml]; exact g)]
      obtain ⟨i, hi, hi31, rfl⟩ := sIn_ex g
      obtain ⟨k0, k1, k2, k3⟩ := hk i hi rfl
      have v12 : vp_in (zI i) 12 := Eq.mpr (zI_vp (a := i) (n := 12) (by omega)) (by omega)
      rw [zI_cn hi31]
      by_cases y0 : y = 0
      · rw [if_neg (fun e => e y0)]
        refine ⟨v12, ?_⟩
        simp only [tl_some]
        exact tl G' 0 J' k _ g1 g2 j52 j60 (k0 y0).1 (fun _ => by rw [(k0 y0).2, e1])
      · rw [if_pos y0]
        by_cases y1 : y = 1
        · rw [if_neg (fun e => e y1)]
          refine ⟨v12, ?_⟩
          simp only [tl_some]
          exact tl G' 0 J' k _ g1 g2 j52 j60 (k1 y1).1 (fun _ => by rw [(k1 y1).2, e2])
        · rw [if_pos y1]
          by_cases y2 : y = 2
          · rw [if_neg (fun e => e y2)]
            refine ⟨v12, ?_⟩
            simp only [tl_some]
            exact tl G' 0 J' k _ g1 g2 j52 j60 (k2 y2).1 (fun _ => by rw [(k2 y2).2, e3])
          · rw [if_pos y2, w2]
            simp only [tl_some]
            exact tl G' 2 J' k _ g1 g2 j52 j60 (k3 y0 y1 y2) (fun e => by rw [k3 y0 y1 y2] at e; exact absurd e (by decide))
    · rw [if_neg (by rw [ml]; exact g), w2]
      simp only [tl_some]
      exact tl G' 1 J' k _ g1 g2 j52 j60 (hn g) (fun e => by rw [hn g] at e; exact absurd e (by decide))
  have ge : (G.1 + 1, G.2 + 6).1 ≤ G.1 + 1 ∧ (G.1 + 1, G.2 + 6).2 ≤ G.2 + 6 := ⟨Nat.le_refl _, Nat.le_refl _⟩
  have lk : ∀ z, (if 0 ≤ x ∧ x < I 1 0 ∧ x < 12 then (if y = 0 then some (((⟨True, inferInstance⟩ : sm_C), some (Value.int 0), ((sK mo, G, I, up2 J 142 0 (I 2 x.toNatClampNeg).toInt64, sR mo) : sm_M))) else if y = 1 then some (⟨True, inferInstance⟩, some (.int 0), (sK mo, G, I, up2 J 142 0 (I 4 x.toNatClampNeg).toInt64, sR mo)) else if y = 2 then some (⟨True, inferInstance⟩, some (.int 0), (sK mo, G, I, up2 J 142 0 (I 5 x.toNatClampNeg).toInt64, sR mo)) else some (⟨True, inferInstance⟩, some (.int 2), (sK mo, (G.1 + 1, G.2 + 6), I, J, sR mo))) else some (⟨True, inferInstance⟩, some (.int 1), (sK mo, (G.1 + 1, G.2 + 6), I, J, sR mo))) = some z → sm_look [.ref 0, .int (X.1 (x4 + 1).toNatClampNeg), .int (X.1 (x4 + 2).toNatClampNeg), .ref 142] (sM mo G I J) = some z := fun z hz => by
    rw [hx, hy]
    exact hz
  by_cases g : sIn x n
  · have g' := en.mpr g
    obtain ⟨i, hi, hi31, ei⟩ := sIn_ex g
    have uq : ∀ k, k < n → x = zI k → k = i := fun k hk e => by
      rw [ei, zI_eq (by omega) (by omega)] at e
      omega
    by_cases y0 : y = 0
    · refine lw_1609 h1 h2 (lk _ (by rw [if_pos g', if_pos y0])) trivial ?_
      refine rf G _ 0 (by omega) (by omega) (j0 _ 52 (by decide)) (j0 _ 60 (by decide)) (fun k hk e => ⟨fun _ => ⟨rfl, ?_⟩, fun e => ?_, fun e => ?_, fun e => absurd y0 e⟩) (fun e => absurd g e)
      · rw [jv, ei, zI_cn hi31, uq k hk e]
      · rw [y0] at e; exact absurd e (by decide)
      · rw [y0] at e; exact absurd e (by decide)
    by_cases y1 : y = 1
    · refine lw_1609 h1 h2 (lk _ (by rw [if_pos g', if_neg y0, if_pos y1])) trivial ?_
      refine rf G _ 0 (by omega) (by omega) (j0 _ 52 (by decide)) (j0 _ 60 (by decide)) (fun k hk e => ⟨fun e => absurd e y0, fun _ => ⟨rfl, ?_⟩, fun e => ?_, fun _ e => absurd y1 e⟩) (fun e => absurd g e)
      · rw [jv, ei, zI_cn hi31, uq k hk e]
      · rw [y1] at e; exact absurd e (by decide)
    by_cases y2 : y = 2
    · refine lw_1609 h1 h2 (lk _ (by rw [if_pos g', if_neg y0, if_neg y1, if_pos y2])) trivial ?_
      refine rf G _ 0 (by omega) (by omega) (j0 _ 52 (by decide)) (j0 _ 60 (by decide)) (fun k hk e => ⟨fun e => absurd e y0, fun e => absurd e y1, fun _ => ⟨rfl, ?_⟩, fun _ _ e => absurd y2 e⟩) (fun e => absurd g e)
      rw [jv, ei, zI_cn hi31, uq k hk e]
    · refine lw_1609 h1 h2 (lk _ (by rw [if_pos g', if_neg y0, if_neg y1, if_neg y2])) trivial ?_
      exact rf _ _ 2 ge.1 ge.2 rfl rfl (fun k hk e => ⟨fun e => absurd e y0, fun e => absurd e y1, fun e => absurd e y2, fun _ _ _ => rfl⟩) (fun e => absurd g e)
  · refine lw_1609 h1 h2 (lk _ (by rw [if_neg (fun e => g (en.mp e))])) trivial ?_
    exact rf _ _ 1 ge.1 ge.2 rfl rfl (fun k hk e => absurd (by rw [e, zI_sIn (by omega) (by omega)]; exact hk) g) (fun _ => rfl)
end K1
end
section
/-! Of any run: the cells that are there stay what they are; what a method gives back. -/
def okO (M : sm_M) : sm_O → Prop
  | .inl (_, _, M') => ∃ l, M'.1 = M.1 ++ l
  | .inr (.inl (_, _, _, M')) => ∃ l, M'.1 = M.1 ++ l
  | _ => True
theorem st_ok {X : (Nat → Int32) × Nat} {r : sm_R} {L : sm_L} {st : sm_S} {M : sm_M} {o : sm_O} (h : sm_step X r L st M = some o) : okO M o := by
  obtain ⟨q, n, a, b, c, k, kl, sw⟩ := r
  cases q
  all_goals simp only [sm_step] at h
  all_goals try (cases h; done)
  all_goals simp only [sm_i2, sm_i1, sm_l2, sm_l1, sm_li, sm_r1, sm_ldi, sm_ldl, sm_lda, sm_sti, sm_stl, sm_sta, sm_get, sm_put, sm_ial, sm_lal, sm_ias, sm_las, sm_aln, sm_new, sm_nwa, sm_inv, sm_go, sm_ck, sm_fk, sm_jp, sm_se, sm_ca, sm_rt, Bool.cond_eq_ite] at h
  all_goals repeat' split at h
  all_goals first | (cases h; done) | (cases h; exact ⟨[], (List.append_nil _).symm⟩) | (cases h; exact ⟨_, rfl⟩) | (cases h; exact trivial)
theorem pr_ok {j : Nat} {as : List Value} {M M' : sm_M} {c : sm_C} {v : Option Value} (h : sm_prim j as M = some (c, v, M')) : M'.1 = M.1 := by
  unfold sm_prim at h
  cases h0 : Nat.beq j 900 with
  | true =>
    rw [h0] at h
    simp only [cond_true] at h
    try simp only [Bool.cond_eq_ite] at h
    repeat' split at h
    all_goals first | (cases h; done) | (cases h; rfl)
  | false =>
  rw [h0] at h
  simp only [cond_false] at h
  cases h1 : Nat.beq j 901 with
  | true =>
    rw [h1] at h
    simp only [cond_true] at h
    try simp only [Bool.cond_eq_ite] at h
    repeat' split at h
    all_goals first | (cases h; done) | (cases h; rfl)
  | false =>
  rw [h1] at h
  simp only [cond_false] at h
  cases h2 : Nat.beq j 903 with
  | true =>
    rw [h2] at h
    simp only [cond_true] at h
    try simp only [Bool.cond_eq_ite] at h
    repeat' split at h
    all_goals first | (cases h; done) | (cases h; rfl)
  | false =>
  rw [h2] at h
  simp only [cond_false] at h
  cases h3 : Nat.beq j 904 with
  | true =>
    rw [h3] at h
    simp only [cond_true] at h
    try simp only [Bool.cond_eq_ite] at h
    repeat' split at h
    all_goals first | (cases h; done) | (cases h; rfl)
  | false =>
  rw [h3] at h
  simp only [cond_false] at h
  cases h4 : Nat.beq j 905 with
  | true =>
    rw [h4] at h
    simp only [cond_true] at h
    try simp only [Bool.cond_eq_ite] at h
    repeat' split at h
    all_goals first | (cases h; done) | (cases h; rfl)
  | false =>
  rw [h4] at h
  simp only [cond_false] at h
  cases h5 : Nat.beq j 902 with
  | true =>
    rw [h5] at h
    simp only [cond_true] at h
    unfold sm_look at h
    simp only [Bool.cond_eq_ite] at h
    repeat' split at h
    all_goals first | (cases h; done) | (cases h; rfl)
  | false =>
  rw [h5] at h
  cases h
theorem sm_kinds {X : (Nat → Int32) × Nat} : ∀ {n i pc : Nat} {L : sm_L} {st : sm_S} {M M' : sm_M} {v : Option Value}, sm_run X n i pc L st M = some (v, M') → ∃ l, M'.1 = M.1 ++ l := by
  intro n
  induction n with
  | zero => intro i pc L st M M' v h; cases h
  | succ n ih =>
    intro i pc L st M M' v h
    have h : sm_body X (sm_run X n) i pc L st M = some (v, M') := h
    unfold sm_body at h
    split at h
    · cases h
    · rename_i p ks r l hc
      split at h
      · cases h
      · rename_i o hs
        have ok := st_ok hs
        rcases o with ⟨L', st', M1⟩ | ⟨c, L', st', M1⟩ | ⟨c, t, L', st'⟩ | ⟨t, L', st'⟩ | ⟨x, l, d, L', st'⟩ | ⟨j, as, L', st'⟩ | ⟨c, w⟩
        · obtain ⟨l1, e1⟩ := ok
          obtain ⟨l2, e2⟩ := ih h
          exact ⟨l1 ++ l2, by rw [e2, e1, List.append_assoc]⟩
        · simp only [sm_act] at h
          split at h
          · obtain ⟨l1, e1⟩ := ok
            obtain ⟨l2, e2⟩ := ih h
            exact ⟨l1 ++ l2, by rw [e2, e1, List.append_assoc]⟩
          · cases h
        · simp only [sm_act] at h
          split at h
          · exact ih h
          · exact ih h
        · exact ih h
        · exact ih h
        · simp only [sm_act] at h
          cases hb : Nat.ble 900 j with
          | true =>
            rw [hb] at h
            simp only [cond_true] at h
            split at h
            · rename_i c w M1 hp
              split at h
              · obtain ⟨l2, e2⟩ := ih h
                exact ⟨l2, by rw [e2, pr_ok hp]⟩
              · cases h
            · cases h
          | false =>
            rw [hb] at h
            simp only [cond_false] at h
            split at h
            · rename_i w M1 hp
              obtain ⟨l1, e1⟩ := ih hp
              obtain ⟨l2, e2⟩ := ih h
              exact ⟨l1 ++ l2, by rw [e2, e1, List.append_assoc]⟩
            · cases h
        · simp only [sm_act] at h
          split at h
          · cases h
            exact ⟨[], (List.append_nil _).symm⟩
          · cases h
/-- of what sort a method's ends are: 1 ints, 2 longs -/
def sm_rs (t : Nat) (q : Instr) : Bool := match q with
  | .ireturn => Nat.beq t 1
  | .lreturn => Nat.beq t 2
  | .return_ => false
  | _ => true
def vS (t : Nat) (v : Option Value) : Prop := (t = 1 → ∃ x, v = some (.int x)) ∧ (t = 2 → ∃ x, v = some (.long x))
theorem st_rt {X : (Nat → Int32) × Nat} {t : Nat} {r : sm_R} {L : sm_L} {st : sm_S} {M : sm_M} {c : sm_C} {v : Option Value} (hr : sm_rs t r.1 = true) (h : sm_step X r L st M = some (.inr (.inr (.inr (.inr (.inr (.inr (c, v)))))))) : vS t v := by
  obtain ⟨q, n, a, b, c, k, kl, sw⟩ := r
  cases q
  all_goals simp only [sm_step] at h
  all_goals try (cases h; done)
  all_goals simp only [sm_i2, sm_i1, sm_l2, sm_l1, sm_li, sm_r1, sm_ldi, sm_ldl, sm_lda, sm_sti, sm_stl, sm_sta, sm_get, sm_put, sm_ial, sm_lal, sm_ias, sm_las, sm_aln, sm_new, sm_nwa, sm_inv, sm_go, sm_ck, sm_fk, sm_jp, sm_se, sm_ca, sm_rt, Bool.cond_eq_ite] at h
  all_goals repeat' split at h
  all_goals try (cases h; done)
  all_goals simp only [sm_rs] at hr
  all_goals try (exact absurd hr (by decide))
  all_goals
    have ht := Nat.eq_of_beq_eq_true hr
    subst ht
    cases h
    refine ⟨fun e => ?_, fun e => ?_⟩
    all_goals first | exact ⟨_, rfl⟩ | exact absurd e (by decide)
theorem sm_ret_s {X : (Nat → Int32) × Nat} {t i : Nat} (hi : ((sm_code i).all fun e => sm_rs t e.2.2.1) = true) : ∀ {n pc : Nat} {L : sm_L} {st : sm_S} {M M' : sm_M} {v : Option Value}, sm_run X n i pc L st M = some (v, M') → vS t v := by
  intro n
  induction n with
  | zero => intro pc L st M M' v h; cases h
  | succ n ih =>
    intro pc L st M M' v h
    have h : sm_body X (sm_run X n) i pc L st M = some (v, M') := h
    unfold sm_body at h
    split at h
    · cases h
    · rename_i p ks r l hc
      split at h
      · cases h
      · rename_i o hs
        have hm : (p, ks, r) ∈ sm_code i := by
          obtain ⟨a, ha⟩ := sm_from_sfx (sm_code i) pc
          rw [ha, hc]
          exact List.mem_append_right _ List.mem_cons_self
        have hr : sm_rs t r.1 = true := List.all_eq_true.mp hi _ hm
        rcases o with ⟨L', st', M1⟩ | ⟨c, L', st', M1⟩ | ⟨c, t, L', st'⟩ | ⟨t, L', st'⟩ | ⟨x, l, d, L', st'⟩ | ⟨j, as, L', st'⟩ | ⟨c, w⟩
        · exact ih h
        · simp only [sm_act] at h
          split at h
          · exact ih h
          · cases h
        · simp only [sm_act] at h
          split at h
          · exact ih h
          · exact ih h
        · exact ih h
        · exact ih h
        · simp only [sm_act] at h
          cases hb : Nat.ble 900 j with
          | true =>
            rw [hb] at h
            simp only [cond_true] at h
            split at h
            · split at h
              · exact ih h
              · cases h
            · cases h
          | false =>
            rw [hb] at h
            simp only [cond_false] at h
            split at h
            · exact ih h
            · cases h
        · simp only [sm_act] at h
          split at h
          · cases h
            exact st_rt hr hs
          · cases h
end
section
/-! The law behind its first call. -/
set_option maxRecDepth 100000 in
theorem bg_315_238 (X : (Nat → Int32) × Nat) (l : List (Nat × Nat)) (G : Nat × Nat) (I : Nat → Nat → Int32) (J : Nat → Nat → Int64) (R : List (List (Option Nat))) (Q : Option Value → sm_M → Prop) (x4 : Int32) (s0 : Int32) :
    sm_wp X 315 238 [some (.retAddr 1), some (.ref 0), some (.ref 81), some (.ref 142), some (.int x4), none, none] [.int s0] (sK0 ++ l, G, I, J, R) Q =
    (vp_in (x4 + 1) X.2 ∧ (vp_in (x4 + 2) X.2 ∧ (vp_in (x4 + 3) X.2 ∧ (vp_in (x4 + 4) X.2 ∧ (vp_in (x4 + 5) X.2 ∧ (sm_wp X 208 0 [some (.ref 81), some (.int (X.1 (x4 + 1).toNatClampNeg)), some (.int (X.1 (x4 + 2).toNatClampNeg)), some (.int (X.1 (x4 + 3).toNatClampNeg)), some (.int (X.1 (x4 + 4).toNatClampNeg)), some (.int (X.1 (x4 + 5).toNatClampNeg)), none, none] [] (sK0 ++ l, G, I, J, R) (fun v M => sm_wp X 315 273 [some (.retAddr 1), some (.ref 0), some (.ref 81), some (.ref 142), some (.int x4), none, none] (v.toList ++ []) M Q))))))) :=
  (sm_blk X 315 238 (tt_lin 315 (by decide)) rfl rfl _ _ _ _).trans rfl
set_option maxRecDepth 100000 in
theorem bg_315_293 (X : (Nat → Int32) × Nat) (l : List (Nat × Nat)) (G : Nat × Nat) (I : Nat → Nat → Int32) (J : Nat → Nat → Int64) (R : List (List (Option Nat))) (Q : Option Value → sm_M → Prop) (x4 : Int32) (s0 : Int32) :
    sm_wp X 315 293 [some (.retAddr 1), some (.ref 0), some (.ref 81), some (.ref 142), some (.int x4), none, none] [.int s0] (sK0 ++ l, G, I, J, R) Q =
    (vp_in (x4 + 1) X.2 ∧ (vp_in (x4 + 2) X.2 ∧ (sm_wp X 225 0 [some (.ref 81), some (.int (X.1 (x4 + 1).toNatClampNeg)), some (.int (X.1 (x4 + 2).toNatClampNeg)), none, none] [] (sK0 ++ l, G, I, J, R) (fun v M => sm_wp X 315 310 [some (.retAddr 1), some (.ref 0), some (.ref 81), some (.ref 142), some (.int x4), none, none] (v.toList ++ []) M Q)))) :=
  (sm_blk X 315 293 (tt_lin 315 (by decide)) rfl rfl _ _ _ _).trans rfl
set_option maxRecDepth 100000 in
theorem bg_315_324 (X : (Nat → Int32) × Nat) (l : List (Nat × Nat)) (G : Nat × Nat) (I : Nat → Nat → Int32) (J : Nat → Nat → Int64) (R : List (List (Option Nat))) (Q : Option Value → sm_M → Prop) (x4 : Int32) (s0 : Int32) :
    sm_wp X 315 324 [some (.retAddr 1), some (.ref 0), some (.ref 81), some (.ref 142), some (.int x4), none, none] [.int s0] (sK0 ++ l, G, I, J, R) Q =
    (vp_in (x4 + 1) X.2 ∧ (sm_wp X 246 0 [some (.ref 81), some (.int (X.1 (x4 + 1).toNatClampNeg))] [] (sK0 ++ l, G, I, J, R) (fun v M => sm_wp X 315 335 [some (.retAddr 1), some (.ref 0), some (.ref 81), some (.ref 142), some (.int x4), none, none] (v.toList ++ []) M Q))) :=
  (sm_blk X 315 324 (tt_lin 315 (by decide)) rfl rfl _ _ _ _).trans rfl
set_option maxRecDepth 100000 in
theorem bg_315_349 (X : (Nat → Int32) × Nat) (l : List (Nat × Nat)) (G : Nat × Nat) (I : Nat → Nat → Int32) (J : Nat → Nat → Int64) (R : List (List (Option Nat))) (Q : Option Value → sm_M → Prop) (x4 : Int32) (s0 : Int32) :
    sm_wp X 315 349 [some (.retAddr 1), some (.ref 0), some (.ref 81), some (.ref 142), some (.int x4), none, none] [.int s0] (sK0 ++ l, G, I, J, R) Q =
    (vp_in (x4 + 1) X.2 ∧ (sm_wp X 209 0 [some (.ref 81), some (.int (X.1 (x4 + 1).toNatClampNeg))] [] (sK0 ++ l, G, I, J, R) (fun v M => sm_wp X 315 360 [some (.retAddr 1), some (.ref 0), some (.ref 81), some (.ref 142), some (.int x4), none, none] (v.toList ++ []) M Q))) :=
  (sm_blk X 315 349 (tt_lin 315 (by decide)) rfl rfl _ _ _ _).trans rfl
set_option maxRecDepth 100000 in
theorem bg_315_380 (X : (Nat → Int32) × Nat) (l : List (Nat × Nat)) (G : Nat × Nat) (I : Nat → Nat → Int32) (J : Nat → Nat → Int64) (R : List (List (Option Nat))) (Q : Option Value → sm_M → Prop) (x4 : Int32) (s0 : Int32) :
    sm_wp X 315 380 [some (.retAddr 1), some (.ref 0), some (.ref 81), some (.ref 142), some (.int x4), none, none] [.int s0] (sK0 ++ l, G, I, J, R) Q =
    (vp_in (x4 + 1) X.2 ∧ (vp_in (x4 + 2) X.2 ∧ (sm_wp X 211 0 [some (.ref 81), some (.int (X.1 (x4 + 1).toNatClampNeg)), some (.int (X.1 (x4 + 2).toNatClampNeg))] [] (sK0 ++ l, G, I, J, R) (fun v M => sm_wp X 315 397 [some (.retAddr 1), some (.ref 0), some (.ref 81), some (.ref 142), some (.int x4), none, none] (v.toList ++ []) M Q)))) :=
  (sm_blk X 315 380 (tt_lin 315 (by decide)) rfl rfl _ _ _ _).trans rfl
set_option maxRecDepth 100000 in
theorem bg_315_417 (X : (Nat → Int32) × Nat) (l : List (Nat × Nat)) (G : Nat × Nat) (I : Nat → Nat → Int32) (J : Nat → Nat → Int64) (R : List (List (Option Nat))) (Q : Option Value → sm_M → Prop) (x4 : Int32) (s0 : Int32) :
    sm_wp X 315 417 [some (.retAddr 1), some (.ref 0), some (.ref 81), some (.ref 142), some (.int x4), none, none] [.int s0] (sK0 ++ l, G, I, J, R) Q =
    (vp_in (x4 + 1) X.2 ∧ (vp_in (x4 + 2) X.2 ∧ (sm_wp X 213 0 [some (.ref 81), some (.int (X.1 (x4 + 1).toNatClampNeg)), some (.int (X.1 (x4 + 2).toNatClampNeg))] [] (sK0 ++ l, G, I, J, R) (fun v M => sm_wp X 315 434 [some (.retAddr 1), some (.ref 0), some (.ref 81), some (.ref 142), some (.int x4), none, none] (v.toList ++ []) M Q)))) :=
  (sm_blk X 315 417 (tt_lin 315 (by decide)) rfl rfl _ _ _ _).trans rfl
set_option maxRecDepth 100000 in
theorem bg_315_454 (X : (Nat → Int32) × Nat) (l : List (Nat × Nat)) (G : Nat × Nat) (I : Nat → Nat → Int32) (J : Nat → Nat → Int64) (R : List (List (Option Nat))) (Q : Option Value → sm_M → Prop) (x4 : Int32) (s0 : Int32) :
    sm_wp X 315 454 [some (.retAddr 1), some (.ref 0), some (.ref 81), some (.ref 142), some (.int x4), none, none] [.int s0] (sK0 ++ l, G, I, J, R) Q =
    (vp_in (x4 + 1) X.2 ∧ (vp_in (x4 + 2) X.2 ∧ (sm_wp X 214 0 [some (.ref 81), some (.int (X.1 (x4 + 1).toNatClampNeg)), some (.int (X.1 (x4 + 2).toNatClampNeg))] [] (sK0 ++ l, G, I, J, R) (fun v M => sm_wp X 315 471 [some (.retAddr 1), some (.ref 0), some (.ref 81), some (.ref 142), some (.int x4), none, none] (v.toList ++ []) M Q)))) :=
  (sm_blk X 315 454 (tt_lin 315 (by decide)) rfl rfl _ _ _ _).trans rfl
set_option maxRecDepth 100000 in
theorem bg_315_505 (X : (Nat → Int32) × Nat) (l : List (Nat × Nat)) (G : Nat × Nat) (I : Nat → Nat → Int32) (J : Nat → Nat → Int64) (R : List (List (Option Nat))) (Q : Option Value → sm_M → Prop) (x4 : Int32) (s0 : Int32) :
    sm_wp X 315 505 [some (.retAddr 1), some (.ref 0), some (.ref 81), some (.ref 142), some (.int x4), none, none] [.int s0] (sK0 ++ l, G, I, J, R) Q =
    (vp_in (x4 + 1) X.2 ∧ (vp_in (x4 + 2) X.2 ∧ (vp_in (x4 + 3) X.2 ∧ (if (X.1 (x4 + 3).toNatClampNeg : Int32) = 0 then sm_wp X 315 532 [some (.retAddr 1), some (.ref 0), some (.ref 81), some (.ref 142), some (.int x4), none, none] [.int (X.1 (x4 + 2).toNatClampNeg), .int (X.1 (x4 + 1).toNatClampNeg), .ref 81] (sK0 ++ l, G, I, J, R) Q else (sm_wp X 315 533 [some (.retAddr 1), some (.ref 0), some (.ref 81), some (.ref 142), some (.int x4), none, none] [.int 1, .int (X.1 (x4 + 2).toNatClampNeg), .int (X.1 (x4 + 1).toNatClampNeg), .ref 81] (sK0 ++ l, G, I, J, R) Q))))) :=
  (sm_blk X 315 505 (tt_lin 315 (by decide)) rfl rfl _ _ _ _).trans rfl
set_option maxRecDepth 100000 in
theorem bg_315_532 (X : (Nat → Int32) × Nat) (l : List (Nat × Nat)) (G : Nat × Nat) (I : Nat → Nat → Int32) (J : Nat → Nat → Int64) (R : List (List (Option Nat))) (Q : Option Value → sm_M → Prop) (x4 : Int32) (s1 : Int32) (s2 : Int32) :
    sm_wp X 315 532 [some (.retAddr 1), some (.ref 0), some (.ref 81), some (.ref 142), some (.int x4), none, none] [.int s2, .int s1, .ref 81] (sK0 ++ l, G, I, J, R) Q =
    (sm_wp X 218 0 [some (.ref 81), some (.int s1), some (.int s2), some (.int 0)] [] (sK0 ++ l, G, I, J, R) (fun v M => sm_wp X 315 536 [some (.retAddr 1), some (.ref 0), some (.ref 81), some (.ref 142), some (.int x4), none, none] (v.toList ++ []) M Q)) :=
  (sm_blk X 315 532 (tt_lin 315 (by decide)) rfl rfl _ _ _ _).trans rfl
set_option maxRecDepth 100000 in
theorem bg_315_533 (X : (Nat → Int32) × Nat) (l : List (Nat × Nat)) (G : Nat × Nat) (I : Nat → Nat → Int32) (J : Nat → Nat → Int64) (R : List (List (Option Nat))) (Q : Option Value → sm_M → Prop) (x4 : Int32) (s1 : Int32) (s2 : Int32) (s3 : Int32) :
    sm_wp X 315 533 [some (.retAddr 1), some (.ref 0), some (.ref 81), some (.ref 142), some (.int x4), none, none] [.int s3, .int s2, .int s1, .ref 81] (sK0 ++ l, G, I, J, R) Q =
    (sm_wp X 218 0 [some (.ref 81), some (.int s1), some (.int s2), some (.int s3)] [] (sK0 ++ l, G, I, J, R) (fun v M => sm_wp X 315 536 [some (.retAddr 1), some (.ref 0), some (.ref 81), some (.ref 142), some (.int x4), none, none] (v.toList ++ []) M Q)) :=
  (sm_blk X 315 533 (tt_lin 315 (by decide)) rfl rfl _ _ _ _).trans rfl
set_option maxRecDepth 100000 in
theorem bg_315_562 (X : (Nat → Int32) × Nat) (l : List (Nat × Nat)) (G : Nat × Nat) (I : Nat → Nat → Int32) (J : Nat → Nat → Int64) (R : List (List (Option Nat))) (Q : Option Value → sm_M → Prop) (x4 : Int32) (s0 : Int32) :
    sm_wp X 315 562 [some (.retAddr 1), some (.ref 0), some (.ref 81), some (.ref 142), some (.int x4), none, none] [.int s0] (sK0 ++ l, G, I, J, R) Q =
    (vp_in (x4 + 1) X.2 ∧ (vp_in (x4 + 2) X.2 ∧ (vp_in (x4 + 3) X.2 ∧ (sm_wp X 220 0 [some (.ref 81), some (.int (X.1 (x4 + 1).toNatClampNeg)), some (.int (X.1 (x4 + 2).toNatClampNeg)), some (.int (X.1 (x4 + 3).toNatClampNeg))] [] (sK0 ++ l, G, I, J, R) (fun v M => sm_wp X 315 585 [some (.retAddr 1), some (.ref 0), some (.ref 81), some (.ref 142), some (.int x4), none, none] (v.toList ++ []) M Q))))) :=
  (sm_blk X 315 562 (tt_lin 315 (by decide)) rfl rfl _ _ _ _).trans rfl
set_option maxRecDepth 100000 in
theorem bg_315_605 (X : (Nat → Int32) × Nat) (l : List (Nat × Nat)) (G : Nat × Nat) (I : Nat → Nat → Int32) (J : Nat → Nat → Int64) (R : List (List (Option Nat))) (Q : Option Value → sm_M → Prop) (x4 : Int32) (s0 : Int32) :
    sm_wp X 315 605 [some (.retAddr 1), some (.ref 0), some (.ref 81), some (.ref 142), some (.int x4), none, none] [.int s0] (sK0 ++ l, G, I, J, R) Q =
    (vp_in (x4 + 1) X.2 ∧ (vp_in (x4 + 2) X.2 ∧ (sm_wp X 221 0 [some (.ref 81), some (.int (X.1 (x4 + 1).toNatClampNeg)), some (.int (X.1 (x4 + 2).toNatClampNeg))] [] (sK0 ++ l, G, I, J, R) (fun v M => sm_wp X 315 622 [some (.retAddr 1), some (.ref 0), some (.ref 81), some (.ref 142), some (.int x4), none, none] (v.toList ++ []) M Q)))) :=
  (sm_blk X 315 605 (tt_lin 315 (by decide)) rfl rfl _ _ _ _).trans rfl
set_option maxRecDepth 100000 in
theorem bg_315_667 (X : (Nat → Int32) × Nat) (l : List (Nat × Nat)) (G : Nat × Nat) (I : Nat → Nat → Int32) (J : Nat → Nat → Int64) (R : List (List (Option Nat))) (Q : Option Value → sm_M → Prop) (x4 : Int32) (s0 : Int32) :
    sm_wp X 315 667 [some (.retAddr 1), some (.ref 0), some (.ref 81), some (.ref 142), some (.int x4), none, none] [.int s0] (sK0 ++ l, G, I, J, R) Q =
    (vp_in (x4 + 1) X.2 ∧ (vp_in (x4 + 2) X.2 ∧ (vp_in (x4 + 3) X.2 ∧ (vp_in (x4 + 4) X.2 ∧ (vp_in (x4 + 5) X.2 ∧ (vp_in (x4 + 6) X.2 ∧ (sm_wp X 247 0 [some (.ref 81), some (.int (X.1 (x4 + 1).toNatClampNeg)), some (.int (X.1 (x4 + 2).toNatClampNeg)), some (.int (X.1 (x4 + 3).toNatClampNeg)), some (.int (X.1 (x4 + 4).toNatClampNeg)), some (.int (X.1 (x4 + 5).toNatClampNeg)), some (.int (X.1 (x4 + 6).toNatClampNeg))] [] (sK0 ++ l, G, I, J, R) (fun v M => sm_wp X 315 709 [some (.retAddr 1), some (.ref 0), some (.ref 81), some (.ref 142), some (.int x4), none, none] (v.toList ++ []) M Q)))))))) :=
  (sm_blk X 315 667 (tt_lin 315 (by decide)) rfl rfl _ _ _ _).trans rfl
set_option maxRecDepth 100000 in
theorem bg_315_735 (X : (Nat → Int32) × Nat) (l : List (Nat × Nat)) (G : Nat × Nat) (I : Nat → Nat → Int32) (J : Nat → Nat → Int64) (R : List (List (Option Nat))) (Q : Option Value → sm_M → Prop) (x4 : Int32) (s0 : Int32) :
    sm_wp X 315 735 [some (.retAddr 1), some (.ref 0), some (.ref 81), some (.ref 142), some (.int x4), none, none] [.int s0] (sK0 ++ l, G, I, J, R) Q =
    (vp_in (x4 + 1) X.2 ∧ (vp_in (x4 + 2) X.2 ∧ (vp_in (x4 + 3) X.2 ∧ (sm_wp X 249 0 [some (.ref 81), some (.int (X.1 (x4 + 1).toNatClampNeg)), some (.int (X.1 (x4 + 2).toNatClampNeg)), some (.int (X.1 (x4 + 3).toNatClampNeg)), none, none] [] (sK0 ++ l, G, I, J, R) (fun v M => sm_wp X 315 758 [some (.retAddr 1), some (.ref 0), some (.ref 81), some (.ref 142), some (.int x4), none, none] (v.toList ++ []) M Q))))) :=
  (sm_blk X 315 735 (tt_lin 315 (by decide)) rfl rfl _ _ _ _).trans rfl
set_option maxRecDepth 100000 in
theorem bg_315_790 (X : (Nat → Int32) × Nat) (l : List (Nat × Nat)) (G : Nat × Nat) (I : Nat → Nat → Int32) (J : Nat → Nat → Int64) (R : List (List (Option Nat))) (Q : Option Value → sm_M → Prop) (x4 : Int32) (s0 : Int32) :
    sm_wp X 315 790 [some (.retAddr 1), some (.ref 0), some (.ref 81), some (.ref 142), some (.int x4), none, none] [.int s0] (sK0 ++ l, G, I, J, R) Q =
    (vp_in (x4 + 1) X.2 ∧ (vp_in (x4 + 2) X.2 ∧ (vp_in (x4 + 3) X.2 ∧ (vp_in (x4 + 4) X.2 ∧ (sm_wp X 250 0 [some (.ref 81), some (.int (X.1 (x4 + 1).toNatClampNeg)), some (.int (X.1 (x4 + 2).toNatClampNeg)), some (.int (X.1 (x4 + 3).toNatClampNeg)), some (.int (X.1 (x4 + 4).toNatClampNeg))] [] (sK0 ++ l, G, I, J, R) (fun v M => sm_wp X 315 819 [some (.retAddr 1), some (.ref 0), some (.ref 81), some (.ref 142), some (.int x4), none, none] (v.toList ++ []) M Q)))))) :=
  (sm_blk X 315 790 (tt_lin 315 (by decide)) rfl rfl _ _ _ _).trans rfl
set_option maxRecDepth 100000 in
theorem bg_315_833 (X : (Nat → Int32) × Nat) (l : List (Nat × Nat)) (G : Nat × Nat) (I : Nat → Nat → Int32) (J : Nat → Nat → Int64) (R : List (List (Option Nat))) (Q : Option Value → sm_M → Prop) (x4 : Int32) (s0 : Int32) :
    sm_wp X 315 833 [some (.retAddr 1), some (.ref 0), some (.ref 81), some (.ref 142), some (.int x4), none, none] [.int s0] (sK0 ++ l, G, I, J, R) Q =
    (vp_in (x4 + 1) X.2 ∧ (sm_wp X 251 0 [some (.ref 81), some (.int (X.1 (x4 + 1).toNatClampNeg)), none, none] [] (sK0 ++ l, G, I, J, R) (fun v M => sm_wp X 315 844 [some (.retAddr 1), some (.ref 0), some (.ref 81), some (.ref 142), some (.int x4), none, none] (v.toList ++ []) M Q))) :=
  (sm_blk X 315 833 (tt_lin 315 (by decide)) rfl rfl _ _ _ _).trans rfl
set_option maxRecDepth 100000 in
theorem bg_315_864 (X : (Nat → Int32) × Nat) (l : List (Nat × Nat)) (G : Nat × Nat) (I : Nat → Nat → Int32) (J : Nat → Nat → Int64) (R : List (List (Option Nat))) (Q : Option Value → sm_M → Prop) (x4 : Int32) (s0 : Int32) :
    sm_wp X 315 864 [some (.retAddr 1), some (.ref 0), some (.ref 81), some (.ref 142), some (.int x4), none, none] [.int s0] (sK0 ++ l, G, I, J, R) Q =
    (vp_in (x4 + 1) X.2 ∧ (vp_in (x4 + 2) X.2 ∧ (sm_wp X 268 0 [some (.ref 81), some (.int (X.1 (x4 + 1).toNatClampNeg)), some (.int (X.1 (x4 + 2).toNatClampNeg))] [] (sK0 ++ l, G, I, J, R) (fun v M => sm_wp X 315 881 [some (.retAddr 1), some (.ref 0), some (.ref 81), some (.ref 142), some (.int x4), none, none] (v.toList ++ []) M Q)))) :=
  (sm_blk X 315 864 (tt_lin 315 (by decide)) rfl rfl _ _ _ _).trans rfl
set_option maxRecDepth 100000 in
theorem bg_315_895 (X : (Nat → Int32) × Nat) (l : List (Nat × Nat)) (G : Nat × Nat) (I : Nat → Nat → Int32) (J : Nat → Nat → Int64) (R : List (List (Option Nat))) (Q : Option Value → sm_M → Prop) (x4 : Int32) (s0 : Int32) :
    sm_wp X 315 895 [some (.retAddr 1), some (.ref 0), some (.ref 81), some (.ref 142), some (.int x4), none, none] [.int s0] (sK0 ++ l, G, I, J, R) Q =
    (vp_in (x4 + 1) X.2 ∧ (sm_wp X 269 0 [some (.ref 81), some (.int (X.1 (x4 + 1).toNatClampNeg))] [] (sK0 ++ l, G, I, J, R) (fun v M => sm_wp X 315 906 [some (.retAddr 1), some (.ref 0), some (.ref 81), some (.ref 142), some (.int x4), none, none] (v.toList ++ []) M Q))) :=
  (sm_blk X 315 895 (tt_lin 315 (by decide)) rfl rfl _ _ _ _).trans rfl
set_option maxRecDepth 100000 in
theorem bg_315_926 (X : (Nat → Int32) × Nat) (l : List (Nat × Nat)) (G : Nat × Nat) (I : Nat → Nat → Int32) (J : Nat → Nat → Int64) (R : List (List (Option Nat))) (Q : Option Value → sm_M → Prop) (x4 : Int32) (s0 : Int64) :
    sm_wp X 315 926 [some (.retAddr 1), some (.ref 0), some (.ref 81), some (.ref 142), some (.int x4), none, none] [.long s0] (sK0 ++ l, G, I, J, R) Q =
    (vp_in (x4 + 1) X.2 ∧ (vp_in (x4 + 2) X.2 ∧ (sm_wp X 270 0 [some (.ref 81), some (.int (X.1 (x4 + 1).toNatClampNeg)), some (.int (X.1 (x4 + 2).toNatClampNeg))] [] (sK0 ++ l, G, I, J, R) (fun v M => sm_wp X 315 943 [some (.retAddr 1), some (.ref 0), some (.ref 81), some (.ref 142), some (.int x4), none, none] (v.toList ++ []) M Q)))) :=
  (sm_blk X 315 926 (tt_lin 315 (by decide)) rfl rfl _ _ _ _).trans rfl
set_option maxRecDepth 100000 in
theorem bg_315_963 (X : (Nat → Int32) × Nat) (l : List (Nat × Nat)) (G : Nat × Nat) (I : Nat → Nat → Int32) (J : Nat → Nat → Int64) (R : List (List (Option Nat))) (Q : Option Value → sm_M → Prop) (x4 : Int32) (s0 : Int32) :
    sm_wp X 315 963 [some (.retAddr 1), some (.ref 0), some (.ref 81), some (.ref 142), some (.int x4), none, none] [.int s0] (sK0 ++ l, G, I, J, R) Q =
    (vp_in (x4 + 1) X.2 ∧ (vp_in (x4 + 2) X.2 ∧ (sm_wp X 271 0 [some (.ref 81), some (.int (X.1 (x4 + 1).toNatClampNeg)), some (.int (X.1 (x4 + 2).toNatClampNeg)), none] [] (sK0 ++ l, G, I, J, R) (fun v M => sm_wp X 315 979 [some (.retAddr 1), some (.ref 0), some (.ref 81), some (.ref 142), some (.int x4), none, none] (v.toList ++ [.int s0]) M Q)))) :=
  (sm_blk X 315 963 (tt_lin 315 (by decide)) rfl rfl _ _ _ _).trans rfl
set_option maxRecDepth 100000 in
theorem bg_315_1006 (X : (Nat → Int32) × Nat) (l : List (Nat × Nat)) (G : Nat × Nat) (I : Nat → Nat → Int32) (J : Nat → Nat → Int64) (R : List (List (Option Nat))) (Q : Option Value → sm_M → Prop) (x4 : Int32) (s0 : Int32) :
    sm_wp X 315 1006 [some (.retAddr 1), some (.ref 0), some (.ref 81), some (.ref 142), some (.int x4), none, none] [.int s0] (sK0 ++ l, G, I, J, R) Q =
    (vp_in (x4 + 1) X.2 ∧ (vp_in (x4 + 2) X.2 ∧ (vp_in (x4 + 3) X.2 ∧ (sm_wp X 273 0 [some (.ref 81), some (.int (X.1 (x4 + 1).toNatClampNeg)), some (.int (X.1 (x4 + 2).toNatClampNeg)), some (.int (X.1 (x4 + 3).toNatClampNeg)), none, none, none] [] (sK0 ++ l, G, I, J, R) (fun v M => sm_wp X 315 1029 [some (.retAddr 1), some (.ref 0), some (.ref 81), some (.ref 142), some (.int x4), none, none] (v.toList ++ []) M Q))))) :=
  (sm_blk X 315 1006 (tt_lin 315 (by decide)) rfl rfl _ _ _ _).trans rfl
set_option maxRecDepth 100000 in
theorem bg_315_1043 (X : (Nat → Int32) × Nat) (l : List (Nat × Nat)) (G : Nat × Nat) (I : Nat → Nat → Int32) (J : Nat → Nat → Int64) (R : List (List (Option Nat))) (Q : Option Value → sm_M → Prop) (x4 : Int32) (s0 : Int32) :
    sm_wp X 315 1043 [some (.retAddr 1), some (.ref 0), some (.ref 81), some (.ref 142), some (.int x4), none, none] [.int s0] (sK0 ++ l, G, I, J, R) Q =
    (vp_in (x4 + 1) X.2 ∧ (sm_wp X 222 0 [some (.ref 81), some (.int (X.1 (x4 + 1).toNatClampNeg))] [] (sK0 ++ l, G, I, J, R) (fun v M => sm_wp X 315 1054 [some (.retAddr 1), some (.ref 0), some (.ref 81), some (.ref 142), some (.int x4), none, none] (v.toList ++ []) M Q))) :=
  (sm_blk X 315 1043 (tt_lin 315 (by decide)) rfl rfl _ _ _ _).trans rfl
set_option maxRecDepth 100000 in
theorem bg_315_1068 (X : (Nat → Int32) × Nat) (l : List (Nat × Nat)) (G : Nat × Nat) (I : Nat → Nat → Int32) (J : Nat → Nat → Int64) (R : List (List (Option Nat))) (Q : Option Value → sm_M → Prop) (x4 : Int32) (s0 : Int32) :
    sm_wp X 315 1068 [some (.retAddr 1), some (.ref 0), some (.ref 81), some (.ref 142), some (.int x4), none, none] [.int s0] (sK0 ++ l, G, I, J, R) Q =
    (vp_in (x4 + 1) X.2 ∧ (sm_wp X 274 0 [some (.ref 81), some (.int (X.1 (x4 + 1).toNatClampNeg)), none, none] [] (sK0 ++ l, G, I, J, R) (fun v M => sm_wp X 315 1079 [some (.retAddr 1), some (.ref 0), some (.ref 81), some (.ref 142), some (.int x4), none, none] (v.toList ++ []) M Q))) :=
  (sm_blk X 315 1068 (tt_lin 315 (by decide)) rfl rfl _ _ _ _).trans rfl
set_option maxRecDepth 100000 in
theorem bg_315_1093 (X : (Nat → Int32) × Nat) (l : List (Nat × Nat)) (G : Nat × Nat) (I : Nat → Nat → Int32) (J : Nat → Nat → Int64) (R : List (List (Option Nat))) (Q : Option Value → sm_M → Prop) (x4 : Int32) (s0 : Int32) :
    sm_wp X 315 1093 [some (.retAddr 1), some (.ref 0), some (.ref 81), some (.ref 142), some (.int x4), none, none] [.int s0] (sK0 ++ l, G, I, J, R) Q =
    (vp_in (x4 + 1) X.2 ∧ (sm_wp X 281 0 [some (.ref 81), some (.int (X.1 (x4 + 1).toNatClampNeg))] [] (sK0 ++ l, G, I, J, R) (fun v M => sm_wp X 315 1104 [some (.retAddr 1), some (.ref 0), some (.ref 81), some (.ref 142), some (.int x4), none, none] (v.toList ++ []) M Q))) :=
  (sm_blk X 315 1093 (tt_lin 315 (by decide)) rfl rfl _ _ _ _).trans rfl
set_option maxRecDepth 100000 in
theorem bg_315_1124 (X : (Nat → Int32) × Nat) (l : List (Nat × Nat)) (G : Nat × Nat) (I : Nat → Nat → Int32) (J : Nat → Nat → Int64) (R : List (List (Option Nat))) (Q : Option Value → sm_M → Prop) (x4 : Int32) (s0 : Int32) :
    sm_wp X 315 1124 [some (.retAddr 1), some (.ref 0), some (.ref 81), some (.ref 142), some (.int x4), none, none] [.int s0] (sK0 ++ l, G, I, J, R) Q =
    (vp_in (x4 + 1) X.2 ∧ (vp_in (x4 + 2) X.2 ∧ (sm_wp X 284 0 [some (.ref 81), some (.int (X.1 (x4 + 1).toNatClampNeg)), some (.int (X.1 (x4 + 2).toNatClampNeg)), none] [] (sK0 ++ l, G, I, J, R) (fun v M => sm_wp X 315 1141 [some (.retAddr 1), some (.ref 0), some (.ref 81), some (.ref 142), some (.int x4), none, none] (v.toList ++ []) M Q)))) :=
  (sm_blk X 315 1124 (tt_lin 315 (by decide)) rfl rfl _ _ _ _).trans rfl
set_option maxRecDepth 100000 in
theorem bg_315_1149 (X : (Nat → Int32) × Nat) (l : List (Nat × Nat)) (G : Nat × Nat) (I : Nat → Nat → Int32) (J : Nat → Nat → Int64) (R : List (List (Option Nat))) (Q : Option Value → sm_M → Prop) (x4 : Int32) (s0 : Int32) :
    sm_wp X 315 1149 [some (.retAddr 1), some (.ref 0), some (.ref 81), some (.ref 142), some (.int x4), none, none] [.int s0] (sK0 ++ l, G, I, J, R) Q =
    (sm_wp X 285 0 [some (.ref 81), none, none, none, none] [] (sK0 ++ l, G, I, J, R) (fun v M => sm_wp X 315 1154 [some (.retAddr 1), some (.ref 0), some (.ref 81), some (.ref 142), some (.int x4), none, none] (v.toList ++ []) M Q)) :=
  (sm_blk X 315 1149 (tt_lin 315 (by decide)) rfl rfl _ _ _ _).trans rfl
set_option maxRecDepth 100000 in
theorem bg_315_1168 (X : (Nat → Int32) × Nat) (l : List (Nat × Nat)) (G : Nat × Nat) (I : Nat → Nat → Int32) (J : Nat → Nat → Int64) (R : List (List (Option Nat))) (Q : Option Value → sm_M → Prop) (x4 : Int32) (s0 : Int32) :
    sm_wp X 315 1168 [some (.retAddr 1), some (.ref 0), some (.ref 81), some (.ref 142), some (.int x4), none, none] [.int s0] (sK0 ++ l, G, I, J, R) Q =
    (vp_in (x4 + 1) X.2 ∧ (sm_wp X 286 0 [some (.ref 81), some (.int (X.1 (x4 + 1).toNatClampNeg)), none, none] [] (sK0 ++ l, G, I, J, R) (fun v M => sm_wp X 315 1179 [some (.retAddr 1), some (.ref 0), some (.ref 81), some (.ref 142), some (.int x4), none, none] (v.toList ++ []) M Q))) :=
  (sm_blk X 315 1168 (tt_lin 315 (by decide)) rfl rfl _ _ _ _).trans rfl
set_option maxRecDepth 100000 in
theorem bg_315_1193 (X : (Nat → Int32) × Nat) (l : List (Nat × Nat)) (G : Nat × Nat) (I : Nat → Nat → Int32) (J : Nat → Nat → Int64) (R : List (List (Option Nat))) (Q : Option Value → sm_M → Prop) (x4 : Int32) (s0 : Int32) :
    sm_wp X 315 1193 [some (.retAddr 1), some (.ref 0), some (.ref 81), some (.ref 142), some (.int x4), none, none] [.int s0] (sK0 ++ l, G, I, J, R) Q =
    (vp_in (x4 + 1) X.2 ∧ (sm_wp X 287 0 [some (.ref 81), some (.int (X.1 (x4 + 1).toNatClampNeg)), none, none] [] (sK0 ++ l, G, I, J, R) (fun v M => sm_wp X 315 1204 [some (.retAddr 1), some (.ref 0), some (.ref 81), some (.ref 142), some (.int x4), none, none] (v.toList ++ []) M Q))) :=
  (sm_blk X 315 1193 (tt_lin 315 (by decide)) rfl rfl _ _ _ _).trans rfl
set_option maxRecDepth 100000 in
theorem bg_315_1212 (X : (Nat → Int32) × Nat) (l : List (Nat × Nat)) (G : Nat × Nat) (I : Nat → Nat → Int32) (J : Nat → Nat → Int64) (R : List (List (Option Nat))) (Q : Option Value → sm_M → Prop) (x4 : Int32) (s0 : Int32) :
    sm_wp X 315 1212 [some (.retAddr 1), some (.ref 0), some (.ref 81), some (.ref 142), some (.int x4), none, none] [.int s0] (sK0 ++ l, G, I, J, R) Q =
    (sm_wp X 291 0 [some (.ref 81)] [] (sK0 ++ l, G, I, J, R) (fun v M => sm_wp X 315 1217 [some (.retAddr 1), some (.ref 0), some (.ref 81), some (.ref 142), some (.int x4), none, none] (v.toList ++ []) M Q)) :=
  (sm_blk X 315 1212 (tt_lin 315 (by decide)) rfl rfl _ _ _ _).trans rfl
set_option maxRecDepth 100000 in
theorem bg_315_1243 (X : (Nat → Int32) × Nat) (l : List (Nat × Nat)) (G : Nat × Nat) (I : Nat → Nat → Int32) (J : Nat → Nat → Int64) (R : List (List (Option Nat))) (Q : Option Value → sm_M → Prop) (x4 : Int32) (s0 : Int32) :
    sm_wp X 315 1243 [some (.retAddr 1), some (.ref 0), some (.ref 81), some (.ref 142), some (.int x4), none, none] [.int s0] (sK0 ++ l, G, I, J, R) Q =
    (vp_in (x4 + 1) X.2 ∧ (vp_in (x4 + 2) X.2 ∧ (vp_in (x4 + 3) X.2 ∧ (sm_wp X 292 0 [some (.ref 81), some (.int (X.1 (x4 + 1).toNatClampNeg)), some (.int (X.1 (x4 + 2).toNatClampNeg)), some (.int (X.1 (x4 + 3).toNatClampNeg)), none] [] (sK0 ++ l, G, I, J, R) (fun v M => sm_wp X 315 1266 [some (.retAddr 1), some (.ref 0), some (.ref 81), some (.ref 142), some (.int x4), none, none] (v.toList ++ []) M Q))))) :=
  (sm_blk X 315 1243 (tt_lin 315 (by decide)) rfl rfl _ _ _ _).trans rfl
set_option maxRecDepth 100000 in
theorem bg_315_1300 (X : (Nat → Int32) × Nat) (l : List (Nat × Nat)) (G : Nat × Nat) (I : Nat → Nat → Int32) (J : Nat → Nat → Int64) (R : List (List (Option Nat))) (Q : Option Value → sm_M → Prop) (x4 : Int32) (s0 : Int32) :
    sm_wp X 315 1300 [some (.retAddr 1), some (.ref 0), some (.ref 81), some (.ref 142), some (.int x4), none, none] [.int s0] (sK0 ++ l, G, I, J, R) Q =
    (vp_in (x4 + 1) X.2 ∧ (vp_in (x4 + 2) X.2 ∧ (vp_in (x4 + 3) X.2 ∧ (if (X.1 (x4 + 3).toNatClampNeg : Int32) = 0 then sm_wp X 315 1327 [some (.retAddr 1), some (.ref 0), some (.ref 81), some (.ref 142), some (.int x4), none, none] [.int (X.1 (x4 + 2).toNatClampNeg), .int (X.1 (x4 + 1).toNatClampNeg), .ref 81] (sK0 ++ l, G, I, J, R) Q else (sm_wp X 315 1328 [some (.retAddr 1), some (.ref 0), some (.ref 81), some (.ref 142), some (.int x4), none, none] [.int 1, .int (X.1 (x4 + 2).toNatClampNeg), .int (X.1 (x4 + 1).toNatClampNeg), .ref 81] (sK0 ++ l, G, I, J, R) Q))))) :=
  (sm_blk X 315 1300 (tt_lin 315 (by decide)) rfl rfl _ _ _ _).trans rfl
set_option maxRecDepth 100000 in
theorem bg_315_1327 (X : (Nat → Int32) × Nat) (l : List (Nat × Nat)) (G : Nat × Nat) (I : Nat → Nat → Int32) (J : Nat → Nat → Int64) (R : List (List (Option Nat))) (Q : Option Value → sm_M → Prop) (x4 : Int32) (s1 : Int32) (s2 : Int32) :
    sm_wp X 315 1327 [some (.retAddr 1), some (.ref 0), some (.ref 81), some (.ref 142), some (.int x4), none, none] [.int s2, .int s1, .ref 81] (sK0 ++ l, G, I, J, R) Q =
    (sm_wp X 294 0 [some (.ref 81), some (.int s1), some (.int s2), some (.int 0)] [] (sK0 ++ l, G, I, J, R) (fun v M => sm_wp X 315 1331 [some (.retAddr 1), some (.ref 0), some (.ref 81), some (.ref 142), some (.int x4), none, none] (v.toList ++ []) M Q)) :=
  (sm_blk X 315 1327 (tt_lin 315 (by decide)) rfl rfl _ _ _ _).trans rfl
set_option maxRecDepth 100000 in
theorem bg_315_1328 (X : (Nat → Int32) × Nat) (l : List (Nat × Nat)) (G : Nat × Nat) (I : Nat → Nat → Int32) (J : Nat → Nat → Int64) (R : List (List (Option Nat))) (Q : Option Value → sm_M → Prop) (x4 : Int32) (s1 : Int32) (s2 : Int32) (s3 : Int32) :
    sm_wp X 315 1328 [some (.retAddr 1), some (.ref 0), some (.ref 81), some (.ref 142), some (.int x4), none, none] [.int s3, .int s2, .int s1, .ref 81] (sK0 ++ l, G, I, J, R) Q =
    (sm_wp X 294 0 [some (.ref 81), some (.int s1), some (.int s2), some (.int s3)] [] (sK0 ++ l, G, I, J, R) (fun v M => sm_wp X 315 1331 [some (.retAddr 1), some (.ref 0), some (.ref 81), some (.ref 142), some (.int x4), none, none] (v.toList ++ []) M Q)) :=
  (sm_blk X 315 1328 (tt_lin 315 (by decide)) rfl rfl _ _ _ _).trans rfl
set_option maxRecDepth 100000 in
theorem bg_315_1365 (X : (Nat → Int32) × Nat) (l : List (Nat × Nat)) (G : Nat × Nat) (I : Nat → Nat → Int32) (J : Nat → Nat → Int64) (R : List (List (Option Nat))) (Q : Option Value → sm_M → Prop) (x4 : Int32) (s0 : Int32) :
    sm_wp X 315 1365 [some (.retAddr 1), some (.ref 0), some (.ref 81), some (.ref 142), some (.int x4), none, none] [.int s0] (sK0 ++ l, G, I, J, R) Q =
    (vp_in (x4 + 1) X.2 ∧ (vp_in (x4 + 2) X.2 ∧ (vp_in (x4 + 3) X.2 ∧ (if (X.1 (x4 + 3).toNatClampNeg : Int32) = 0 then sm_wp X 315 1392 [some (.retAddr 1), some (.ref 0), some (.ref 81), some (.ref 142), some (.int x4), none, none] [.int (X.1 (x4 + 2).toNatClampNeg), .int (X.1 (x4 + 1).toNatClampNeg), .ref 81] (sK0 ++ l, G, I, J, R) Q else (sm_wp X 315 1393 [some (.retAddr 1), some (.ref 0), some (.ref 81), some (.ref 142), some (.int x4), none, none] [.int 1, .int (X.1 (x4 + 2).toNatClampNeg), .int (X.1 (x4 + 1).toNatClampNeg), .ref 81] (sK0 ++ l, G, I, J, R) Q))))) :=
  (sm_blk X 315 1365 (tt_lin 315 (by decide)) rfl rfl _ _ _ _).trans rfl
set_option maxRecDepth 100000 in
theorem bg_315_1392 (X : (Nat → Int32) × Nat) (l : List (Nat × Nat)) (G : Nat × Nat) (I : Nat → Nat → Int32) (J : Nat → Nat → Int64) (R : List (List (Option Nat))) (Q : Option Value → sm_M → Prop) (x4 : Int32) (s1 : Int32) (s2 : Int32) :
    sm_wp X 315 1392 [some (.retAddr 1), some (.ref 0), some (.ref 81), some (.ref 142), some (.int x4), none, none] [.int s2, .int s1, .ref 81] (sK0 ++ l, G, I, J, R) Q =
    (sm_wp X 295 0 [some (.ref 81), some (.int s1), some (.int s2), some (.int 0)] [] (sK0 ++ l, G, I, J, R) (fun v M => sm_wp X 315 1396 [some (.retAddr 1), some (.ref 0), some (.ref 81), some (.ref 142), some (.int x4), none, none] (v.toList ++ []) M Q)) :=
  (sm_blk X 315 1392 (tt_lin 315 (by decide)) rfl rfl _ _ _ _).trans rfl
set_option maxRecDepth 100000 in
theorem bg_315_1393 (X : (Nat → Int32) × Nat) (l : List (Nat × Nat)) (G : Nat × Nat) (I : Nat → Nat → Int32) (J : Nat → Nat → Int64) (R : List (List (Option Nat))) (Q : Option Value → sm_M → Prop) (x4 : Int32) (s1 : Int32) (s2 : Int32) (s3 : Int32) :
    sm_wp X 315 1393 [some (.retAddr 1), some (.ref 0), some (.ref 81), some (.ref 142), some (.int x4), none, none] [.int s3, .int s2, .int s1, .ref 81] (sK0 ++ l, G, I, J, R) Q =
    (sm_wp X 295 0 [some (.ref 81), some (.int s1), some (.int s2), some (.int s3)] [] (sK0 ++ l, G, I, J, R) (fun v M => sm_wp X 315 1396 [some (.retAddr 1), some (.ref 0), some (.ref 81), some (.ref 142), some (.int x4), none, none] (v.toList ++ []) M Q)) :=
  (sm_blk X 315 1393 (tt_lin 315 (by decide)) rfl rfl _ _ _ _).trans rfl
set_option maxRecDepth 100000 in
theorem bg_315_1422 (X : (Nat → Int32) × Nat) (l : List (Nat × Nat)) (G : Nat × Nat) (I : Nat → Nat → Int32) (J : Nat → Nat → Int64) (R : List (List (Option Nat))) (Q : Option Value → sm_M → Prop) (x4 : Int32) (s0 : Int32) :
    sm_wp X 315 1422 [some (.retAddr 1), some (.ref 0), some (.ref 81), some (.ref 142), some (.int x4), none, none] [.int s0] (sK0 ++ l, G, I, J, R) Q =
    (vp_in (x4 + 1) X.2 ∧ (vp_in (x4 + 2) X.2 ∧ (vp_in (x4 + 3) X.2 ∧ (sm_wp X 296 0 [some (.ref 81), some (.int (X.1 (x4 + 1).toNatClampNeg)), some (.int (X.1 (x4 + 2).toNatClampNeg)), some (.int (X.1 (x4 + 3).toNatClampNeg))] [] (sK0 ++ l, G, I, J, R) (fun v M => sm_wp X 315 1445 [some (.retAddr 1), some (.ref 0), some (.ref 81), some (.ref 142), some (.int x4), none, none] (v.toList ++ []) M Q))))) :=
  (sm_blk X 315 1422 (tt_lin 315 (by decide)) rfl rfl _ _ _ _).trans rfl
set_option maxRecDepth 100000 in
theorem bg_315_1465 (X : (Nat → Int32) × Nat) (l : List (Nat × Nat)) (G : Nat × Nat) (I : Nat → Nat → Int32) (J : Nat → Nat → Int64) (R : List (List (Option Nat))) (Q : Option Value → sm_M → Prop) (x4 : Int32) (s0 : Int32) :
    sm_wp X 315 1465 [some (.retAddr 1), some (.ref 0), some (.ref 81), some (.ref 142), some (.int x4), none, none] [.int s0] (sK0 ++ l, G, I, J, R) Q =
    (vp_in (x4 + 1) X.2 ∧ (vp_in (x4 + 2) X.2 ∧ (sm_wp X 298 0 [some (.ref 81), some (.int (X.1 (x4 + 1).toNatClampNeg)), some (.int (X.1 (x4 + 2).toNatClampNeg)), none, none, none] [] (sK0 ++ l, G, I, J, R) (fun v M => sm_wp X 315 1482 [some (.retAddr 1), some (.ref 0), some (.ref 81), some (.ref 142), some (.int x4), none, none] (v.toList ++ []) M Q)))) :=
  (sm_blk X 315 1465 (tt_lin 315 (by decide)) rfl rfl _ _ _ _).trans rfl
set_option maxRecDepth 100000 in
theorem bg_315_1508 (X : (Nat → Int32) × Nat) (l : List (Nat × Nat)) (G : Nat × Nat) (I : Nat → Nat → Int32) (J : Nat → Nat → Int64) (R : List (List (Option Nat))) (Q : Option Value → sm_M → Prop) (x4 : Int32) (s0 : Int32) :
    sm_wp X 315 1508 [some (.retAddr 1), some (.ref 0), some (.ref 81), some (.ref 142), some (.int x4), none, none] [.int s0] (sK0 ++ l, G, I, J, R) Q =
    (vp_in (x4 + 1) X.2 ∧ (vp_in (x4 + 2) X.2 ∧ (vp_in (x4 + 3) X.2 ∧ (sm_wp X 305 0 [some (.ref 81), some (.int (X.1 (x4 + 1).toNatClampNeg)), some (.int (X.1 (x4 + 2).toNatClampNeg)), some (.int (X.1 (x4 + 3).toNatClampNeg)), none] [] (sK0 ++ l, G, I, J, R) (fun v M => sm_wp X 315 1531 [some (.retAddr 1), some (.ref 0), some (.ref 81), some (.ref 142), some (.int x4), none, none] (v.toList ++ []) M Q))))) :=
  (sm_blk X 315 1508 (tt_lin 315 (by decide)) rfl rfl _ _ _ _).trans rfl
set_option maxRecDepth 100000 in
theorem bg_315_1545 (X : (Nat → Int32) × Nat) (l : List (Nat × Nat)) (G : Nat × Nat) (I : Nat → Nat → Int32) (J : Nat → Nat → Int64) (R : List (List (Option Nat))) (Q : Option Value → sm_M → Prop) (x4 : Int32) (s0 : Int32) :
    sm_wp X 315 1545 [some (.retAddr 1), some (.ref 0), some (.ref 81), some (.ref 142), some (.int x4), none, none] [.int s0] (sK0 ++ l, G, I, J, R) Q =
    (vp_in (x4 + 1) X.2 ∧ (sm_wp X 306 0 [some (.ref 81), some (.int (X.1 (x4 + 1).toNatClampNeg)), none, none] [] (sK0 ++ l, G, I, J, R) (fun v M => sm_wp X 315 1556 [some (.retAddr 1), some (.ref 0), some (.ref 81), some (.ref 142), some (.int x4), none, none] (v.toList ++ []) M Q))) :=
  (sm_blk X 315 1545 (tt_lin 315 (by decide)) rfl rfl _ _ _ _).trans rfl
set_option maxRecDepth 100000 in
theorem bg_315_1582 (X : (Nat → Int32) × Nat) (l : List (Nat × Nat)) (G : Nat × Nat) (I : Nat → Nat → Int32) (J : Nat → Nat → Int64) (R : List (List (Option Nat))) (Q : Option Value → sm_M → Prop) (x4 : Int32) (s0 : Int32) :
    sm_wp X 315 1582 [some (.retAddr 1), some (.ref 0), some (.ref 81), some (.ref 142), some (.int x4), none, none] [.int s0] (sK0 ++ l, G, I, J, R) Q =
    (vp_in (x4 + 1) X.2 ∧ (vp_in (x4 + 2) X.2 ∧ (vp_in (x4 + 3) X.2 ∧ (sm_wp X 307 0 [some (.ref 81), some (.int (X.1 (x4 + 1).toNatClampNeg)), some (.int (X.1 (x4 + 2).toNatClampNeg)), some (.int (X.1 (x4 + 3).toNatClampNeg))] [] (sK0 ++ l, G, I, J, R) (fun v M => sm_wp X 315 1605 [some (.retAddr 1), some (.ref 0), some (.ref 81), some (.ref 142), some (.int x4), none, none] (v.toList ++ []) M Q))))) :=
  (sm_blk X 315 1582 (tt_lin 315 (by decide)) rfl rfl _ _ _ _).trans rfl
set_option maxRecDepth 100000 in
theorem bg_315_1659 (X : (Nat → Int32) × Nat) (l : List (Nat × Nat)) (G : Nat × Nat) (I : Nat → Nat → Int32) (J : Nat → Nat → Int64) (R : List (List (Option Nat))) (Q : Option Value → sm_M → Prop) (x4 : Int32) (s0 : Int32) :
    sm_wp X 315 1659 [some (.retAddr 1), some (.ref 0), some (.ref 81), some (.ref 142), some (.int x4), none, none] [.int s0] (sK0 ++ l, G, I, J, R) Q =
    (vp_in (x4 + 1) X.2 ∧ (sm_wp X 310 0 [some (.ref 81), some (.int (X.1 (x4 + 1).toNatClampNeg)), none, none] [] (sK0 ++ l, G, I, J, R) (fun v M => sm_wp X 315 1670 [some (.retAddr 1), some (.ref 0), some (.ref 81), some (.ref 142), some (.int x4), none, none] (v.toList ++ []) M Q))) :=
  (sm_blk X 315 1659 (tt_lin 315 (by decide)) rfl rfl _ _ _ _).trans rfl
end
section
/-! The law, case by case. -/
theorem sm_wp_mono {X : (Nat → Int32) × Nat} {i pc : Nat} {L : sm_L} {st : sm_S} {M : sm_M} {Q Q' : Option Value → sm_M → Prop} (h : sm_wp X i pc L st M Q) (hq : ∀ v M', Q v M' → Q' v M') : sm_wp X i pc L st M Q' := by
  obtain ⟨n, v, M', e, q⟩ := h
  exact ⟨n, v, M', e, hq v M' q⟩
section L2
variable {X : (Nat → Int32) × Nat} {c : Nat} {mo : Bool} {G : Nat × Nat} {I : Nat → Nat → Int32} {J : Nat → Nat → Int64} {Q : Option Value → sm_M → Prop} {x4 : Int32}
theorem lw_two {t h m pc1 : Nat} {La Lb Lw : sm_L} {R : sm_M → Prop} (hA : Agr X h La m Lb (sM mo G I J) R) (ht : ((sm_code h).all fun e => sm_rs t e.2.2.1) = true)
    (hQ : ∀ v l G1 I1 J1 R1, vS t v → sm_wp X m 0 Lb [] (sK0 ++ l, G1, I1, J1, R1) (fun w M2 => w = v ∧ R M2) → sm_wp X 315 pc1 Lw (v.toList ++ []) (sK0 ++ l, G1, I1, J1, R1) Q) : sm_wp X h 0 La [] (sM mo G I J) (fun v M1 => sm_wp X 315 pc1 Lw (v.toList ++ []) M1 Q) := by
  obtain ⟨n, v, M1, e, hw⟩ := hA
  refine ⟨n, v, M1, e, ?_⟩
  obtain ⟨l, hl⟩ := sm_kinds e
  have hv := sm_ret_s ht e
  obtain ⟨K1, G1, I1, J1, R1⟩ := M1
  have hl : K1 = sK0 ++ ((bif mo then [(100, 5955)] else []) ++ l) := by
    rw [← List.append_assoc]
    exact hl
  subst hl
  exact hQ v _ _ _ _ _ hv hw
/-- six places behind the first -/
def vp6 (x4 : Int32) (n : Nat) : Prop := vp_in (x4 + 1) n ∧ vp_in (x4 + 2) n ∧ vp_in (x4 + 3) n ∧ vp_in (x4 + 4) n ∧ vp_in (x4 + 5) n ∧ vp_in (x4 + 6) n
theorem lw_end (hQ : ∀ M', Inv (c + 1) M' → sm_wp X 315 23 [some (.retAddr 1), some (.ref 0), some (.ref 81), some (.ref 142), some (.int (x4 + 7)), none, none] [] M' Q) {M2 : sm_M} (h : Inv (c + 1) M2) : sm_wp X 315 1674 [some (.retAddr 1), some (.ref 0), some (.ref 81), some (.ref 142), some (.int x4), none, none] [] M2 Q := by
  obtain ⟨mo', G', I', J', rfl, hi⟩ := h
  rw [bk_315_1674]
  exact hQ _ ⟨mo', G', I', J', rfl, hi⟩
theorem lw_twoW {t u h m pc1 : Nat} {La Lb Lw : sm_L} {R : sm_M → Prop} (hA : AgW X h La m Lb (sM mo G I J) R) (ht : ((sm_code h).all fun e => sm_rs t e.2.2.1) = true) (hu : ((sm_code m).all fun e => sm_rs u e.2.2.1) = true)
    (hQ : ∀ v l G1 I1 J1 R1, vS t v → sm_wp X m 0 Lb [] (sK0 ++ l, G1, I1, J1, R1) (fun w M2 => vS u w ∧ R M2) → sm_wp X 315 pc1 Lw (v.toList ++ []) (sK0 ++ l, G1, I1, J1, R1) Q) : sm_wp X h 0 La [] (sM mo G I J) (fun v M1 => sm_wp X 315 pc1 Lw (v.toList ++ []) M1 Q) := by
  obtain ⟨n, v, M1, e, hw⟩ := hA
  refine ⟨n, v, M1, e, ?_⟩
  obtain ⟨l, hl⟩ := sm_kinds e
  have hv := sm_ret_s ht e
  obtain ⟨K1, G1, I1, J1, R1⟩ := M1
  have hl : K1 = sK0 ++ ((bif mo then [(100, 5955)] else []) ++ l) := by
    rw [← List.append_assoc]
    exact hl
  subst hl
  obtain ⟨n2, w, M2, e2, hr⟩ := hw
  exact hQ v _ _ _ _ _ hv ⟨n2, w, M2, e2, sm_ret_s hu e2, hr⟩
theorem lc_0 (h : inv c mo G I J) (hc : c ≤ 1000) (v : vp6 x4 X.2) (hQ : ∀ M', Inv (c + 1) M' → sm_wp X 315 23 [some (.retAddr 1), some (.ref 0), some (.ref 81), some (.ref 142), some (.int (x4 + 7)), none, none] [] M' Q) : sm_wp X 315 204 [some (.retAddr 1), some (.ref 0), some (.ref 81), some (.ref 142), some (.int x4), none, none] [] (sM mo G I J) Q := by
  rw [bk_315_204]
  refine ⟨v.1, v.2.1, v.2.2.1, v.2.2.2.1, v.2.2.2.2.1, lw_two (t := 1) (op_feed h _ _ _ _ _) (by decide +kernel) ?_⟩
  intro u l G1 I1 J1 R1 hu hm
  obtain ⟨s, rfl⟩ := hu.1 rfl
  show sm_wp X 315 238 [some (.retAddr 1), some (.ref 0), some (.ref 81), some (.ref 142), some (.int x4), none, none] [.int s] (sK0 ++ l, G1, I1, J1, R1) Q
  rw [bg_315_238]
  refine ⟨v.1, v.2.1, v.2.2.1, v.2.2.2.1, v.2.2.2.2.1, sm_wp_mono hm ?_⟩
  rintro w M2 ⟨rfl, hR⟩
  obtain ⟨mo', G', I', J', rfl, hi⟩ := hR
  show sm_wp X 315 273 [some (.retAddr 1), some (.ref 0), some (.ref 81), some (.ref 142), some (.int x4), none, none] [.int s] (sM mo' G' I' J') Q
  rw [bk_315_273]
  exact lw_end hQ ⟨mo', G', I', J', rfl, hi⟩
theorem lc_1 (h : inv c mo G I J) (hc : c ≤ 1000) (v : vp6 x4 X.2) (hQ : ∀ M', Inv (c + 1) M' → sm_wp X 315 23 [some (.retAddr 1), some (.ref 0), some (.ref 81), some (.ref 142), some (.int (x4 + 7)), none, none] [] M' Q) : sm_wp X 315 277 [some (.retAddr 1), some (.ref 0), some (.ref 81), some (.ref 142), some (.int x4), none, none] [] (sM mo G I J) Q := by
  rw [bk_315_277]
  refine ⟨v.1, v.2.1, lw_two (t := 1) (op_orders h _ _) (by decide +kernel) ?_⟩
  intro u l G1 I1 J1 R1 hu hm
  obtain ⟨s, rfl⟩ := hu.1 rfl
  show sm_wp X 315 293 [some (.retAddr 1), some (.ref 0), some (.ref 81), some (.ref 142), some (.int x4), none, none] [.int s] (sK0 ++ l, G1, I1, J1, R1) Q
  rw [bg_315_293]
  refine ⟨v.1, v.2.1, sm_wp_mono hm ?_⟩
  rintro w M2 ⟨rfl, hR⟩
  obtain ⟨mo', G', I', J', rfl, hi⟩ := hR
  show sm_wp X 315 310 [some (.retAddr 1), some (.ref 0), some (.ref 81), some (.ref 142), some (.int x4), none, none] [.int s] (sM mo' G' I' J') Q
  rw [bk_315_310]
  exact lw_end hQ ⟨mo', G', I', J', rfl, hi⟩
theorem lc_2 (h : inv c mo G I J) (hc : c ≤ 1000) (v : vp6 x4 X.2) (hQ : ∀ M', Inv (c + 1) M' → sm_wp X 315 23 [some (.retAddr 1), some (.ref 0), some (.ref 81), some (.ref 142), some (.int (x4 + 7)), none, none] [] M' Q) : sm_wp X 315 314 [some (.retAddr 1), some (.ref 0), some (.ref 81), some (.ref 142), some (.int x4), none, none] [] (sM mo G I J) Q := by
  rw [bk_315_314]
  refine ⟨v.1, lw_two (t := 1) (op_fault h _) (by decide +kernel) ?_⟩
  intro u l G1 I1 J1 R1 hu hm
  obtain ⟨s, rfl⟩ := hu.1 rfl
  show sm_wp X 315 324 [some (.retAddr 1), some (.ref 0), some (.ref 81), some (.ref 142), some (.int x4), none, none] [.int s] (sK0 ++ l, G1, I1, J1, R1) Q
  rw [bg_315_324]
  refine ⟨v.1, sm_wp_mono hm ?_⟩
  rintro w M2 ⟨rfl, hR⟩
  obtain ⟨mo', G', I', J', rfl, hi⟩ := hR
  show sm_wp X 315 335 [some (.retAddr 1), some (.ref 0), some (.ref 81), some (.ref 142), some (.int x4), none, none] [.int s] (sM mo' G' I' J') Q
  rw [bk_315_335]
  exact lw_end hQ ⟨mo', G', I', J', rfl, hi⟩
theorem lc_3 (h : inv c mo G I J) (hc : c ≤ 1000) (v : vp6 x4 X.2) (hQ : ∀ M', Inv (c + 1) M' → sm_wp X 315 23 [some (.retAddr 1), some (.ref 0), some (.ref 81), some (.ref 142), some (.int (x4 + 7)), none, none] [] M' Q) : sm_wp X 315 339 [some (.retAddr 1), some (.ref 0), some (.ref 81), some (.ref 142), some (.int x4), none, none] [] (sM mo G I J) Q := by
  rw [bk_315_339]
  refine ⟨v.1, lw_two (t := 1) (op_land h _) (by decide +kernel) ?_⟩
  intro u l G1 I1 J1 R1 hu hm
  obtain ⟨s, rfl⟩ := hu.1 rfl
  show sm_wp X 315 349 [some (.retAddr 1), some (.ref 0), some (.ref 81), some (.ref 142), some (.int x4), none, none] [.int s] (sK0 ++ l, G1, I1, J1, R1) Q
  rw [bg_315_349]
  refine ⟨v.1, sm_wp_mono hm ?_⟩
  rintro w M2 ⟨rfl, hR⟩
  obtain ⟨mo', G', I', J', rfl, hi⟩ := hR
  show sm_wp X 315 360 [some (.retAddr 1), some (.ref 0), some (.ref 81), some (.ref 142), some (.int x4), none, none] [.int s] (sM mo' G' I' J') Q
  rw [bk_315_360]
  exact lw_end hQ ⟨mo', G', I', J', rfl, hi⟩
theorem lc_4 (h : inv c mo G I J) (hc : c ≤ 1000) (v : vp6 x4 X.2) (hQ : ∀ M', Inv (c + 1) M' → sm_wp X 315 23 [some (.retAddr 1), some (.ref 0), some (.ref 81), some (.ref 142), some (.int (x4 + 7)), none, none] [] M' Q) : sm_wp X 315 364 [some (.retAddr 1), some (.ref 0), some (.ref 81), some (.ref 142), some (.int x4), none, none] [] (sM mo G I J) Q := by
  rw [bk_315_364]
  refine ⟨v.1, v.2.1, lw_two (t := 1) (op_near h _ _) (by decide +kernel) ?_⟩
  intro u l G1 I1 J1 R1 hu hm
  obtain ⟨s, rfl⟩ := hu.1 rfl
  show sm_wp X 315 380 [some (.retAddr 1), some (.ref 0), some (.ref 81), some (.ref 142), some (.int x4), none, none] [.int s] (sK0 ++ l, G1, I1, J1, R1) Q
  rw [bg_315_380]
  refine ⟨v.1, v.2.1, sm_wp_mono hm ?_⟩
  rintro w M2 ⟨rfl, hR⟩
  obtain ⟨mo', G', I', J', rfl, hi⟩ := hR
  show sm_wp X 315 397 [some (.retAddr 1), some (.ref 0), some (.ref 81), some (.ref 142), some (.int x4), none, none] [.int s] (sM mo' G' I' J') Q
  rw [bk_315_397]
  exact lw_end hQ ⟨mo', G', I', J', rfl, hi⟩
theorem lc_5 (h : inv c mo G I J) (hc : c ≤ 1000) (v : vp6 x4 X.2) (hQ : ∀ M', Inv (c + 1) M' → sm_wp X 315 23 [some (.retAddr 1), some (.ref 0), some (.ref 81), some (.ref 142), some (.int (x4 + 7)), none, none] [] M' Q) : sm_wp X 315 401 [some (.retAddr 1), some (.ref 0), some (.ref 81), some (.ref 142), some (.int x4), none, none] [] (sM mo G I J) Q := by
  rw [bk_315_401]
  refine ⟨v.1, v.2.1, lw_two (t := 1) (op_state h _ _) (by decide +kernel) ?_⟩
  intro u l G1 I1 J1 R1 hu hm
  obtain ⟨s, rfl⟩ := hu.1 rfl
  show sm_wp X 315 417 [some (.retAddr 1), some (.ref 0), some (.ref 81), some (.ref 142), some (.int x4), none, none] [.int s] (sK0 ++ l, G1, I1, J1, R1) Q
  rw [bg_315_417]
  refine ⟨v.1, v.2.1, sm_wp_mono hm ?_⟩
  rintro w M2 ⟨rfl, hR⟩
  obtain ⟨mo', G', I', J', rfl, hi⟩ := hR
  show sm_wp X 315 434 [some (.retAddr 1), some (.ref 0), some (.ref 81), some (.ref 142), some (.int x4), none, none] [.int s] (sM mo' G' I' J') Q
  rw [bk_315_434]
  exact lw_end hQ ⟨mo', G', I', J', rfl, hi⟩
theorem lc_6 (h : inv c mo G I J) (hc : c ≤ 1000) (v : vp6 x4 X.2) (hQ : ∀ M', Inv (c + 1) M' → sm_wp X 315 23 [some (.retAddr 1), some (.ref 0), some (.ref 81), some (.ref 142), some (.int (x4 + 7)), none, none] [] M' Q) : sm_wp X 315 438 [some (.retAddr 1), some (.ref 0), some (.ref 81), some (.ref 142), some (.int x4), none, none] [] (sM mo G I J) Q := by
  rw [bk_315_438]
  refine ⟨v.1, v.2.1, lw_two (t := 1) (op_hold h _ _) (by decide +kernel) ?_⟩
  intro u l G1 I1 J1 R1 hu hm
  obtain ⟨s, rfl⟩ := hu.1 rfl
  show sm_wp X 315 454 [some (.retAddr 1), some (.ref 0), some (.ref 81), some (.ref 142), some (.int x4), none, none] [.int s] (sK0 ++ l, G1, I1, J1, R1) Q
  rw [bg_315_454]
  refine ⟨v.1, v.2.1, sm_wp_mono hm ?_⟩
  rintro w M2 ⟨rfl, hR⟩
  obtain ⟨mo', G', I', J', rfl, hi⟩ := hR
  show sm_wp X 315 471 [some (.retAddr 1), some (.ref 0), some (.ref 81), some (.ref 142), some (.int x4), none, none] [.int s] (sM mo' G' I' J') Q
  rw [bk_315_471]
  exact lw_end hQ ⟨mo', G', I', J', rfl, hi⟩
theorem lc_7 (h : inv c mo G I J) (hc : c ≤ 1000) (v : vp6 x4 X.2) (hQ : ∀ M', Inv (c + 1) M' → sm_wp X 315 23 [some (.retAddr 1), some (.ref 0), some (.ref 81), some (.ref 142), some (.int (x4 + 7)), none, none] [] M' Q) : sm_wp X 315 475 [some (.retAddr 1), some (.ref 0), some (.ref 81), some (.ref 142), some (.int x4), none, none] [] (sM mo G I J) Q := by
  by_cases hz : X.1 (x4 + 3).toNatClampNeg = 0
  · rw [bk_315_475, if_pos hz, bk_315_501]
    refine ⟨v.1, v.2.1, v.2.2.1, lw_two (t := 1) (op_claim h _ _ 0 (Or.inl rfl)) (by decide +kernel) ?_⟩
    intro u l G1 I1 J1 R1 hu hm
    obtain ⟨s, rfl⟩ := hu.1 rfl
    show sm_wp X 315 505 [some (.retAddr 1), some (.ref 0), some (.ref 81), some (.ref 142), some (.int x4), none, none] [.int s] (sK0 ++ l, G1, I1, J1, R1) Q
    rw [bg_315_505, if_pos hz, bg_315_532]
    refine ⟨v.1, v.2.1, v.2.2.1, sm_wp_mono hm ?_⟩
    rintro w M2 ⟨rfl, hR⟩
    obtain ⟨mo', G', I', J', rfl, hi⟩ := hR
    show sm_wp X 315 536 [some (.retAddr 1), some (.ref 0), some (.ref 81), some (.ref 142), some (.int x4), none, none] [.int s] (sM mo' G' I' J') Q
    rw [bk_315_536]
    exact lw_end hQ ⟨mo', G', I', J', rfl, hi⟩
  · rw [bk_315_475, if_neg hz, bk_315_502]
    refine ⟨v.1, v.2.1, v.2.2.1, lw_two (t := 1) (op_claim h _ _ 1 (Or.inr rfl)) (by decide +kernel) ?_⟩
    intro u l G1 I1 J1 R1 hu hm
    obtain ⟨s, rfl⟩ := hu.1 rfl
    show sm_wp X 315 505 [some (.retAddr 1), some (.ref 0), some (.ref 81), some (.ref 142), some (.int x4), none, none] [.int s] (sK0 ++ l, G1, I1, J1, R1) Q
    rw [bg_315_505, if_neg hz, bg_315_533]
    refine ⟨v.1, v.2.1, v.2.2.1, sm_wp_mono hm ?_⟩
    rintro w M2 ⟨rfl, hR⟩
    obtain ⟨mo', G', I', J', rfl, hi⟩ := hR
    show sm_wp X 315 536 [some (.retAddr 1), some (.ref 0), some (.ref 81), some (.ref 142), some (.int x4), none, none] [.int s] (sM mo' G' I' J') Q
    rw [bk_315_536]
    exact lw_end hQ ⟨mo', G', I', J', rfl, hi⟩
theorem lc_8 (h : inv c mo G I J) (hc : c ≤ 1000) (v : vp6 x4 X.2) (hQ : ∀ M', Inv (c + 1) M' → sm_wp X 315 23 [some (.retAddr 1), some (.ref 0), some (.ref 81), some (.ref 142), some (.int (x4 + 7)), none, none] [] M' Q) : sm_wp X 315 540 [some (.retAddr 1), some (.ref 0), some (.ref 81), some (.ref 142), some (.int x4), none, none] [] (sM mo G I J) Q := by
  rw [bk_315_540]
  refine ⟨v.1, v.2.1, v.2.2.1, lw_two (t := 1) (op_worth h _ _ _) (by decide +kernel) ?_⟩
  intro u l G1 I1 J1 R1 hu hm
  obtain ⟨s, rfl⟩ := hu.1 rfl
  show sm_wp X 315 562 [some (.retAddr 1), some (.ref 0), some (.ref 81), some (.ref 142), some (.int x4), none, none] [.int s] (sK0 ++ l, G1, I1, J1, R1) Q
  rw [bg_315_562]
  refine ⟨v.1, v.2.1, v.2.2.1, sm_wp_mono hm ?_⟩
  rintro w M2 ⟨rfl, hR⟩
  obtain ⟨mo', G', I', J', rfl, hi⟩ := hR
  show sm_wp X 315 585 [some (.retAddr 1), some (.ref 0), some (.ref 81), some (.ref 142), some (.int x4), none, none] [.int s] (sM mo' G' I' J') Q
  rw [bk_315_585]
  exact lw_end hQ ⟨mo', G', I', J', rfl, hi⟩
theorem lc_9 (h : inv c mo G I J) (hc : c ≤ 1000) (v : vp6 x4 X.2) (hQ : ∀ M', Inv (c + 1) M' → sm_wp X 315 23 [some (.retAddr 1), some (.ref 0), some (.ref 81), some (.ref 142), some (.int (x4 + 7)), none, none] [] M' Q) : sm_wp X 315 589 [some (.retAddr 1), some (.ref 0), some (.ref 81), some (.ref 142), some (.int x4), none, none] [] (sM mo G I J) Q := by
  rw [bk_315_589]
  refine ⟨v.1, v.2.1, lw_two (t := 1) (op_bound h _ _) (by decide +kernel) ?_⟩
  intro u l G1 I1 J1 R1 hu hm
  obtain ⟨s, rfl⟩ := hu.1 rfl
  show sm_wp X 315 605 [some (.retAddr 1), some (.ref 0), some (.ref 81), some (.ref 142), some (.int x4), none, none] [.int s] (sK0 ++ l, G1, I1, J1, R1) Q
  rw [bg_315_605]
  refine ⟨v.1, v.2.1, sm_wp_mono hm ?_⟩
  rintro w M2 ⟨rfl, hR⟩
  obtain ⟨mo', G', I', J', rfl, hi⟩ := hR
  show sm_wp X 315 622 [some (.retAddr 1), some (.ref 0), some (.ref 81), some (.ref 142), some (.int x4), none, none] [.int s] (sM mo' G' I' J') Q
  rw [bk_315_622]
  exact lw_end hQ ⟨mo', G', I', J', rfl, hi⟩
theorem lc_10 (h : inv c mo G I J) (hc : c ≤ 1000) (v : vp6 x4 X.2) (hQ : ∀ M', Inv (c + 1) M' → sm_wp X 315 23 [some (.retAddr 1), some (.ref 0), some (.ref 81), some (.ref 142), some (.int (x4 + 7)), none, none] [] M' Q) : sm_wp X 315 626 [some (.retAddr 1), some (.ref 0), some (.ref 81), some (.ref 142), some (.int x4), none, none] [] (sM mo G I J) Q := by
  rw [bk_315_626]
  refine ⟨v.1, v.2.1, v.2.2.1, v.2.2.2.1, v.2.2.2.2.1, v.2.2.2.2.2, lw_two (t := 1) (op_offer h _ _ _ _ _ _) (by decide +kernel) ?_⟩
  intro u l G1 I1 J1 R1 hu hm
  obtain ⟨s, rfl⟩ := hu.1 rfl
  show sm_wp X 315 667 [some (.retAddr 1), some (.ref 0), some (.ref 81), some (.ref 142), some (.int x4), none, none] [.int s] (sK0 ++ l, G1, I1, J1, R1) Q
  rw [bg_315_667]
  refine ⟨v.1, v.2.1, v.2.2.1, v.2.2.2.1, v.2.2.2.2.1, v.2.2.2.2.2, sm_wp_mono hm ?_⟩
  rintro w M2 ⟨rfl, hR⟩
  obtain ⟨mo', G', I', J', rfl, hi⟩ := hR
  show sm_wp X 315 709 [some (.retAddr 1), some (.ref 0), some (.ref 81), some (.ref 142), some (.int x4), none, none] [.int s] (sM mo' G' I' J') Q
  rw [bk_315_709]
  exact lw_end hQ ⟨mo', G', I', J', rfl, hi⟩
theorem lc_11 (h : inv c mo G I J) (hc : c ≤ 1000) (v : vp6 x4 X.2) (hQ : ∀ M', Inv (c + 1) M' → sm_wp X 315 23 [some (.retAddr 1), some (.ref 0), some (.ref 81), some (.ref 142), some (.int (x4 + 7)), none, none] [] M' Q) : sm_wp X 315 713 [some (.retAddr 1), some (.ref 0), some (.ref 81), some (.ref 142), some (.int x4), none, none] [] (sM mo G I J) Q := by
  rw [bk_315_713]
  refine ⟨v.1, v.2.1, v.2.2.1, lw_two (t := 1) (op_note h _ _ _) (by decide +kernel) ?_⟩
  intro u l G1 I1 J1 R1 hu hm
  obtain ⟨s, rfl⟩ := hu.1 rfl
  show sm_wp X 315 735 [some (.retAddr 1), some (.ref 0), some (.ref 81), some (.ref 142), some (.int x4), none, none] [.int s] (sK0 ++ l, G1, I1, J1, R1) Q
  rw [bg_315_735]
  refine ⟨v.1, v.2.1, v.2.2.1, sm_wp_mono hm ?_⟩
  rintro w M2 ⟨rfl, hR⟩
  obtain ⟨mo', G', I', J', rfl, hi⟩ := hR
  show sm_wp X 315 758 [some (.retAddr 1), some (.ref 0), some (.ref 81), some (.ref 142), some (.int x4), none, none] [.int s] (sM mo' G' I' J') Q
  rw [bk_315_758]
  exact lw_end hQ ⟨mo', G', I', J', rfl, hi⟩
theorem lc_12 (h : inv c mo G I J) (hc : c ≤ 1000) (v : vp6 x4 X.2) (hQ : ∀ M', Inv (c + 1) M' → sm_wp X 315 23 [some (.retAddr 1), some (.ref 0), some (.ref 81), some (.ref 142), some (.int (x4 + 7)), none, none] [] M' Q) : sm_wp X 315 762 [some (.retAddr 1), some (.ref 0), some (.ref 81), some (.ref 142), some (.int x4), none, none] [] (sM mo G I J) Q := by
  rw [bk_315_762]
  refine ⟨v.1, v.2.1, v.2.2.1, v.2.2.2.1, lw_two (t := 1) (op_spy h _ _ _ _) (by decide +kernel) ?_⟩
  intro u l G1 I1 J1 R1 hu hm
  obtain ⟨s, rfl⟩ := hu.1 rfl
  show sm_wp X 315 790 [some (.retAddr 1), some (.ref 0), some (.ref 81), some (.ref 142), some (.int x4), none, none] [.int s] (sK0 ++ l, G1, I1, J1, R1) Q
  rw [bg_315_790]
  refine ⟨v.1, v.2.1, v.2.2.1, v.2.2.2.1, sm_wp_mono hm ?_⟩
  rintro w M2 ⟨rfl, hR⟩
  obtain ⟨mo', G', I', J', rfl, hi⟩ := hR
  show sm_wp X 315 819 [some (.retAddr 1), some (.ref 0), some (.ref 81), some (.ref 142), some (.int x4), none, none] [.int s] (sM mo' G' I' J') Q
  rw [bk_315_819]
  exact lw_end hQ ⟨mo', G', I', J', rfl, hi⟩
theorem lc_13 (h : inv c mo G I J) (hc : c ≤ 1000) (v : vp6 x4 X.2) (hQ : ∀ M', Inv (c + 1) M' → sm_wp X 315 23 [some (.retAddr 1), some (.ref 0), some (.ref 81), some (.ref 142), some (.int (x4 + 7)), none, none] [] M' Q) : sm_wp X 315 823 [some (.retAddr 1), some (.ref 0), some (.ref 81), some (.ref 142), some (.int x4), none, none] [] (sM mo G I J) Q := by
  rw [bk_315_823]
  refine ⟨v.1, lw_two (t := 1) (op_days h _) (by decide +kernel) ?_⟩
  intro u l G1 I1 J1 R1 hu hm
  obtain ⟨s, rfl⟩ := hu.1 rfl
  show sm_wp X 315 833 [some (.retAddr 1), some (.ref 0), some (.ref 81), some (.ref 142), some (.int x4), none, none] [.int s] (sK0 ++ l, G1, I1, J1, R1) Q
  rw [bg_315_833]
  refine ⟨v.1, sm_wp_mono hm ?_⟩
  rintro w M2 ⟨rfl, hR⟩
  obtain ⟨mo', G', I', J', rfl, hi⟩ := hR
  show sm_wp X 315 844 [some (.retAddr 1), some (.ref 0), some (.ref 81), some (.ref 142), some (.int x4), none, none] [.int s] (sM mo' G' I' J') Q
  rw [bk_315_844]
  exact lw_end hQ ⟨mo', G', I', J', rfl, hi⟩
theorem lc_14 (h : inv c mo G I J) (hc : c ≤ 1000) (v : vp6 x4 X.2) (hQ : ∀ M', Inv (c + 1) M' → sm_wp X 315 23 [some (.retAddr 1), some (.ref 0), some (.ref 81), some (.ref 142), some (.int (x4 + 7)), none, none] [] M' Q) : sm_wp X 315 848 [some (.retAddr 1), some (.ref 0), some (.ref 81), some (.ref 142), some (.int x4), none, none] [] (sM mo G I J) Q := by
  rw [bk_315_848]
  refine ⟨v.1, v.2.1, lw_twoW (u := 1) (t := 1) (op_paperW h _ _) (by decide +kernel) (by decide +kernel) ?_⟩
  intro u l G1 I1 J1 R1 hu hm
  obtain ⟨s, rfl⟩ := hu.1 rfl
  show sm_wp X 315 864 [some (.retAddr 1), some (.ref 0), some (.ref 81), some (.ref 142), some (.int x4), none, none] [.int s] (sK0 ++ l, G1, I1, J1, R1) Q
  rw [bg_315_864]
  refine ⟨v.1, v.2.1, sm_wp_mono hm ?_⟩
  rintro w M2 ⟨hw, hR⟩
  obtain ⟨z, rfl⟩ := hw.1 rfl
  obtain ⟨mo', G', I', J', rfl, hi⟩ := hR
  show sm_wp X 315 881 [some (.retAddr 1), some (.ref 0), some (.ref 81), some (.ref 142), some (.int x4), none, none] [.int z] (sM mo' G' I' J') Q
  rw [bk_315_881]
  exact lw_end hQ ⟨mo', G', I', J', rfl, hi⟩
theorem lc_15 (h : inv c mo G I J) (hc : c ≤ 1000) (v : vp6 x4 X.2) (hQ : ∀ M', Inv (c + 1) M' → sm_wp X 315 23 [some (.retAddr 1), some (.ref 0), some (.ref 81), some (.ref 142), some (.int (x4 + 7)), none, none] [] M' Q) : sm_wp X 315 885 [some (.retAddr 1), some (.ref 0), some (.ref 81), some (.ref 142), some (.int x4), none, none] [] (sM mo G I J) Q := by
  rw [bk_315_885]
  refine ⟨v.1, lw_two (t := 1) (op_why h _) (by decide +kernel) ?_⟩
  intro u l G1 I1 J1 R1 hu hm
  obtain ⟨s, rfl⟩ := hu.1 rfl
  show sm_wp X 315 895 [some (.retAddr 1), some (.ref 0), some (.ref 81), some (.ref 142), some (.int x4), none, none] [.int s] (sK0 ++ l, G1, I1, J1, R1) Q
  rw [bg_315_895]
  refine ⟨v.1, sm_wp_mono hm ?_⟩
  rintro w M2 ⟨rfl, hR⟩
  obtain ⟨mo', G', I', J', rfl, hi⟩ := hR
  show sm_wp X 315 906 [some (.retAddr 1), some (.ref 0), some (.ref 81), some (.ref 142), some (.int x4), none, none] [.int s] (sM mo' G' I' J') Q
  rw [bk_315_906]
  exact lw_end hQ ⟨mo', G', I', J', rfl, hi⟩
theorem lc_16 (h : inv c mo G I J) (hc : c ≤ 1000) (v : vp6 x4 X.2) (hQ : ∀ M', Inv (c + 1) M' → sm_wp X 315 23 [some (.retAddr 1), some (.ref 0), some (.ref 81), some (.ref 142), some (.int (x4 + 7)), none, none] [] M' Q) : sm_wp X 315 910 [some (.retAddr 1), some (.ref 0), some (.ref 81), some (.ref 142), some (.int x4), none, none] [] (sM mo G I J) Q := by
  rw [bk_315_910]
  refine ⟨v.1, v.2.1, lw_two (t := 2) (op_tries h _ _) (by decide +kernel) ?_⟩
  intro u l G1 I1 J1 R1 hu hm
  obtain ⟨s, rfl⟩ := hu.2 rfl
  show sm_wp X 315 926 [some (.retAddr 1), some (.ref 0), some (.ref 81), some (.ref 142), some (.int x4), none, none] [.long s] (sK0 ++ l, G1, I1, J1, R1) Q
  rw [bg_315_926]
  refine ⟨v.1, v.2.1, sm_wp_mono hm ?_⟩
  rintro w M2 ⟨rfl, hR⟩
  obtain ⟨mo', G', I', J', rfl, hi⟩ := hR
  show sm_wp X 315 943 [some (.retAddr 1), some (.ref 0), some (.ref 81), some (.ref 142), some (.int x4), none, none] [.long s] (sM mo' G' I' J') Q
  rw [bk_315_943]
  exact lw_end hQ ⟨mo', G', I', J', rfl, hi⟩
theorem lc_17 (h : inv c mo G I J) (hc : c ≤ 1000) (v : vp6 x4 X.2) (hQ : ∀ M', Inv (c + 1) M' → sm_wp X 315 23 [some (.retAddr 1), some (.ref 0), some (.ref 81), some (.ref 142), some (.int (x4 + 7)), none, none] [] M' Q) : sm_wp X 315 947 [some (.retAddr 1), some (.ref 0), some (.ref 81), some (.ref 142), some (.int x4), none, none] [] (sM mo G I J) Q := by
  rw [bk_315_947]
  refine ⟨v.1, v.2.1, lw_two (t := 1) (op_known h _ _) (by decide +kernel) ?_⟩
  intro u l G1 I1 J1 R1 hu hm
  obtain ⟨s, rfl⟩ := hu.1 rfl
  show sm_wp X 315 963 [some (.retAddr 1), some (.ref 0), some (.ref 81), some (.ref 142), some (.int x4), none, none] [.int s] (sK0 ++ l, G1, I1, J1, R1) Q
  rw [bg_315_963]
  refine ⟨v.1, v.2.1, sm_wp_mono hm ?_⟩
  rintro w M2 ⟨rfl, hR⟩
  obtain ⟨mo', G', I', J', rfl, hi⟩ := hR
  show sm_wp X 315 979 [some (.retAddr 1), some (.ref 0), some (.ref 81), some (.ref 142), some (.int x4), none, none] [.int s, .int s] (sM mo' G' I' J') Q
  rw [bk_315_979, if_pos rfl]
  exact lw_end hQ ⟨mo', G', I', J', rfl, hi⟩
theorem lc_18 (h : inv c mo G I J) (hc : c ≤ 1000) (v : vp6 x4 X.2) (hQ : ∀ M', Inv (c + 1) M' → sm_wp X 315 23 [some (.retAddr 1), some (.ref 0), some (.ref 81), some (.ref 142), some (.int (x4 + 7)), none, none] [] M' Q) : sm_wp X 315 984 [some (.retAddr 1), some (.ref 0), some (.ref 81), some (.ref 142), some (.int x4), none, none] [] (sM mo G I J) Q := by
  rw [bk_315_984]
  refine ⟨v.1, v.2.1, v.2.2.1, lw_two (t := 1) (op_heard h _ _ _) (by decide +kernel) ?_⟩
  intro u l G1 I1 J1 R1 hu hm
  obtain ⟨s, rfl⟩ := hu.1 rfl
  show sm_wp X 315 1006 [some (.retAddr 1), some (.ref 0), some (.ref 81), some (.ref 142), some (.int x4), none, none] [.int s] (sK0 ++ l, G1, I1, J1, R1) Q
  rw [bg_315_1006]
  refine ⟨v.1, v.2.1, v.2.2.1, sm_wp_mono hm ?_⟩
  rintro w M2 ⟨rfl, hR⟩
  obtain ⟨mo', G', I', J', rfl, hi⟩ := hR
  show sm_wp X 315 1029 [some (.retAddr 1), some (.ref 0), some (.ref 81), some (.ref 142), some (.int x4), none, none] [.int s] (sM mo' G' I' J') Q
  rw [bk_315_1029]
  exact lw_end hQ ⟨mo', G', I', J', rfl, hi⟩
theorem lc_19 (h : inv c mo G I J) (hc : c ≤ 1000) (v : vp6 x4 X.2) (hQ : ∀ M', Inv (c + 1) M' → sm_wp X 315 23 [some (.retAddr 1), some (.ref 0), some (.ref 81), some (.ref 142), some (.int (x4 + 7)), none, none] [] M' Q) : sm_wp X 315 1033 [some (.retAddr 1), some (.ref 0), some (.ref 81), some (.ref 142), some (.int x4), none, none] [] (sM mo G I J) Q := by
  rw [bk_315_1033]
  refine ⟨v.1, lw_two (t := 1) (op_has h _) (by decide +kernel) ?_⟩
  intro u l G1 I1 J1 R1 hu hm
  obtain ⟨s, rfl⟩ := hu.1 rfl
  show sm_wp X 315 1043 [some (.retAddr 1), some (.ref 0), some (.ref 81), some (.ref 142), some (.int x4), none, none] [.int s] (sK0 ++ l, G1, I1, J1, R1) Q
  rw [bg_315_1043]
  refine ⟨v.1, sm_wp_mono hm ?_⟩
  rintro w M2 ⟨rfl, hR⟩
  obtain ⟨mo', G', I', J', rfl, hi⟩ := hR
  show sm_wp X 315 1054 [some (.retAddr 1), some (.ref 0), some (.ref 81), some (.ref 142), some (.int x4), none, none] [.int s] (sM mo' G' I' J') Q
  rw [bk_315_1054]
  exact lw_end hQ ⟨mo', G', I', J', rfl, hi⟩
theorem lc_20 (h : inv c mo G I J) (hc : c ≤ 1000) (v : vp6 x4 X.2) (hQ : ∀ M', Inv (c + 1) M' → sm_wp X 315 23 [some (.retAddr 1), some (.ref 0), some (.ref 81), some (.ref 142), some (.int (x4 + 7)), none, none] [] M' Q) : sm_wp X 315 1058 [some (.retAddr 1), some (.ref 0), some (.ref 81), some (.ref 142), some (.int x4), none, none] [] (sM mo G I J) Q := by
  rw [bk_315_1058]
  refine ⟨v.1, lw_two (t := 1) (op_settle h hc _) (by decide +kernel) ?_⟩
  intro u l G1 I1 J1 R1 hu hm
  obtain ⟨s, rfl⟩ := hu.1 rfl
  show sm_wp X 315 1068 [some (.retAddr 1), some (.ref 0), some (.ref 81), some (.ref 142), some (.int x4), none, none] [.int s] (sK0 ++ l, G1, I1, J1, R1) Q
  rw [bg_315_1068]
  refine ⟨v.1, sm_wp_mono hm ?_⟩
  rintro w M2 ⟨rfl, hR⟩
  obtain ⟨mo', G', I', J', rfl, hi⟩ := hR
  show sm_wp X 315 1079 [some (.retAddr 1), some (.ref 0), some (.ref 81), some (.ref 142), some (.int x4), none, none] [.int s] (sM mo' G' I' J') Q
  rw [bk_315_1079]
  exact lw_end hQ ⟨mo', G', I', J', rfl, hi⟩
theorem lc_21 (h : inv c mo G I J) (hc : c ≤ 1000) (v : vp6 x4 X.2) (hQ : ∀ M', Inv (c + 1) M' → sm_wp X 315 23 [some (.retAddr 1), some (.ref 0), some (.ref 81), some (.ref 142), some (.int (x4 + 7)), none, none] [] M' Q) : sm_wp X 315 1083 [some (.retAddr 1), some (.ref 0), some (.ref 81), some (.ref 142), some (.int x4), none, none] [] (sM mo G I J) Q := by
  rw [bk_315_1083]
  refine ⟨v.1, lw_two (t := 1) (op_best h hc _) (by decide +kernel) ?_⟩
  intro u l G1 I1 J1 R1 hu hm
  obtain ⟨s, rfl⟩ := hu.1 rfl
  show sm_wp X 315 1093 [some (.retAddr 1), some (.ref 0), some (.ref 81), some (.ref 142), some (.int x4), none, none] [.int s] (sK0 ++ l, G1, I1, J1, R1) Q
  rw [bg_315_1093]
  refine ⟨v.1, sm_wp_mono hm ?_⟩
  rintro w M2 ⟨rfl, hR⟩
  obtain ⟨mo', G', I', J', rfl, hi⟩ := hR
  show sm_wp X 315 1104 [some (.retAddr 1), some (.ref 0), some (.ref 81), some (.ref 142), some (.int x4), none, none] [.int s] (sM mo' G' I' J') Q
  rw [bk_315_1104]
  exact lw_end hQ ⟨mo', G', I', J', rfl, hi⟩
theorem lc_22 (h : inv c mo G I J) (hc : c ≤ 1000) (v : vp6 x4 X.2) (hQ : ∀ M', Inv (c + 1) M' → sm_wp X 315 23 [some (.retAddr 1), some (.ref 0), some (.ref 81), some (.ref 142), some (.int (x4 + 7)), none, none] [] M' Q) : sm_wp X 315 1108 [some (.retAddr 1), some (.ref 0), some (.ref 81), some (.ref 142), some (.int x4), none, none] [] (sM mo G I J) Q := by
  rw [bk_315_1108]
  refine ⟨v.1, v.2.1, lw_two (t := 1) (op_without h hc _ _) (by decide +kernel) ?_⟩
  intro u l G1 I1 J1 R1 hu hm
  obtain ⟨s, rfl⟩ := hu.1 rfl
  show sm_wp X 315 1124 [some (.retAddr 1), some (.ref 0), some (.ref 81), some (.ref 142), some (.int x4), none, none] [.int s] (sK0 ++ l, G1, I1, J1, R1) Q
  rw [bg_315_1124]
  refine ⟨v.1, v.2.1, sm_wp_mono hm ?_⟩
  rintro w M2 ⟨rfl, hR⟩
  obtain ⟨mo', G', I', J', rfl, hi⟩ := hR
  show sm_wp X 315 1141 [some (.retAddr 1), some (.ref 0), some (.ref 81), some (.ref 142), some (.int x4), none, none] [.int s] (sM mo' G' I' J') Q
  rw [bk_315_1141]
  exact lw_end hQ ⟨mo', G', I', J', rfl, hi⟩
theorem lc_23 (h : inv c mo G I J) (hc : c ≤ 1000) (v : vp6 x4 X.2) (hQ : ∀ M', Inv (c + 1) M' → sm_wp X 315 23 [some (.retAddr 1), some (.ref 0), some (.ref 81), some (.ref 142), some (.int (x4 + 7)), none, none] [] M' Q) : sm_wp X 315 1145 [some (.retAddr 1), some (.ref 0), some (.ref 81), some (.ref 142), some (.int x4), none, none] [] (sM mo G I J) Q := by
  rw [bk_315_1145]
  refine lw_two (t := 1) (op_core h hc) (by decide +kernel) ?_
  intro u l G1 I1 J1 R1 hu hm
  obtain ⟨s, rfl⟩ := hu.1 rfl
  show sm_wp X 315 1149 [some (.retAddr 1), some (.ref 0), some (.ref 81), some (.ref 142), some (.int x4), none, none] [.int s] (sK0 ++ l, G1, I1, J1, R1) Q
  rw [bg_315_1149]
  refine sm_wp_mono hm ?_
  rintro w M2 ⟨rfl, hR⟩
  obtain ⟨mo', G', I', J', rfl, hi⟩ := hR
  show sm_wp X 315 1154 [some (.retAddr 1), some (.ref 0), some (.ref 81), some (.ref 142), some (.int x4), none, none] [.int s] (sM mo' G' I' J') Q
  rw [bk_315_1154]
  exact lw_end hQ ⟨mo', G', I', J', rfl, hi⟩
theorem lc_24 (h : inv c mo G I J) (hc : c ≤ 1000) (v : vp6 x4 X.2) (hQ : ∀ M', Inv (c + 1) M' → sm_wp X 315 23 [some (.retAddr 1), some (.ref 0), some (.ref 81), some (.ref 142), some (.int (x4 + 7)), none, none] [] M' Q) : sm_wp X 315 1158 [some (.retAddr 1), some (.ref 0), some (.ref 81), some (.ref 142), some (.int x4), none, none] [] (sM mo G I J) Q := by
  rw [bk_315_1158]
  refine ⟨v.1, lw_two (t := 1) (op_judge h hc _) (by decide +kernel) ?_⟩
  intro u l G1 I1 J1 R1 hu hm
  obtain ⟨s, rfl⟩ := hu.1 rfl
  show sm_wp X 315 1168 [some (.retAddr 1), some (.ref 0), some (.ref 81), some (.ref 142), some (.int x4), none, none] [.int s] (sK0 ++ l, G1, I1, J1, R1) Q
  rw [bg_315_1168]
  refine ⟨v.1, sm_wp_mono hm ?_⟩
  rintro w M2 ⟨rfl, hR⟩
  obtain ⟨mo', G', I', J', rfl, hi⟩ := hR
  show sm_wp X 315 1179 [some (.retAddr 1), some (.ref 0), some (.ref 81), some (.ref 142), some (.int x4), none, none] [.int s] (sM mo' G' I' J') Q
  rw [bk_315_1179]
  exact lw_end hQ ⟨mo', G', I', J', rfl, hi⟩
theorem lc_25 (h : inv c mo G I J) (hc : c ≤ 1000) (v : vp6 x4 X.2) (hQ : ∀ M', Inv (c + 1) M' → sm_wp X 315 23 [some (.retAddr 1), some (.ref 0), some (.ref 81), some (.ref 142), some (.int (x4 + 7)), none, none] [] M' Q) : sm_wp X 315 1183 [some (.retAddr 1), some (.ref 0), some (.ref 81), some (.ref 142), some (.int x4), none, none] [] (sM mo G I J) Q := by
  rw [bk_315_1183]
  refine ⟨v.1, lw_two (t := 1) (op_swap h hc _) (by decide +kernel) ?_⟩
  intro u l G1 I1 J1 R1 hu hm
  obtain ⟨s, rfl⟩ := hu.1 rfl
  show sm_wp X 315 1193 [some (.retAddr 1), some (.ref 0), some (.ref 81), some (.ref 142), some (.int x4), none, none] [.int s] (sK0 ++ l, G1, I1, J1, R1) Q
  rw [bg_315_1193]
  refine ⟨v.1, sm_wp_mono hm ?_⟩
  rintro w M2 ⟨rfl, hR⟩
  obtain ⟨mo', G', I', J', rfl, hi⟩ := hR
  show sm_wp X 315 1204 [some (.retAddr 1), some (.ref 0), some (.ref 81), some (.ref 142), some (.int x4), none, none] [.int s] (sM mo' G' I' J') Q
  rw [bk_315_1204]
  exact lw_end hQ ⟨mo', G', I', J', rfl, hi⟩
theorem lc_26 (h : inv c mo G I J) (hc : c ≤ 1000) (v : vp6 x4 X.2) (hQ : ∀ M', Inv (c + 1) M' → sm_wp X 315 23 [some (.retAddr 1), some (.ref 0), some (.ref 81), some (.ref 142), some (.int (x4 + 7)), none, none] [] M' Q) : sm_wp X 315 1208 [some (.retAddr 1), some (.ref 0), some (.ref 81), some (.ref 142), some (.int x4), none, none] [] (sM mo G I J) Q := by
  rw [bk_315_1208]
  refine lw_two (t := 1) (op_article h) (by decide +kernel) ?_
  intro u l G1 I1 J1 R1 hu hm
  obtain ⟨s, rfl⟩ := hu.1 rfl
  show sm_wp X 315 1212 [some (.retAddr 1), some (.ref 0), some (.ref 81), some (.ref 142), some (.int x4), none, none] [.int s] (sK0 ++ l, G1, I1, J1, R1) Q
  rw [bg_315_1212]
  refine sm_wp_mono hm ?_
  rintro w M2 ⟨rfl, hR⟩
  obtain ⟨mo', G', I', J', rfl, hi⟩ := hR
  show sm_wp X 315 1217 [some (.retAddr 1), some (.ref 0), some (.ref 81), some (.ref 142), some (.int x4), none, none] [.int s] (sM mo' G' I' J') Q
  rw [bk_315_1217]
  exact lw_end hQ ⟨mo', G', I', J', rfl, hi⟩
theorem lc_27 (h : inv c mo G I J) (hc : c ≤ 1000) (v : vp6 x4 X.2) (hQ : ∀ M', Inv (c + 1) M' → sm_wp X 315 23 [some (.retAddr 1), some (.ref 0), some (.ref 81), some (.ref 142), some (.int (x4 + 7)), none, none] [] M' Q) : sm_wp X 315 1221 [some (.retAddr 1), some (.ref 0), some (.ref 81), some (.ref 142), some (.int x4), none, none] [] (sM mo G I J) Q := by
  rw [bk_315_1221]
  refine ⟨v.1, v.2.1, v.2.2.1, lw_two (t := 1) (op_draft h _ _ _) (by decide +kernel) ?_⟩
  intro u l G1 I1 J1 R1 hu hm
  obtain ⟨s, rfl⟩ := hu.1 rfl
  show sm_wp X 315 1243 [some (.retAddr 1), some (.ref 0), some (.ref 81), some (.ref 142), some (.int x4), none, none] [.int s] (sK0 ++ l, G1, I1, J1, R1) Q
  rw [bg_315_1243]
  refine ⟨v.1, v.2.1, v.2.2.1, sm_wp_mono hm ?_⟩
  rintro w M2 ⟨rfl, hR⟩
  obtain ⟨mo', G', I', J', rfl, hi⟩ := hR
  show sm_wp X 315 1266 [some (.retAddr 1), some (.ref 0), some (.ref 81), some (.ref 142), some (.int x4), none, none] [.int s] (sM mo' G' I' J') Q
  rw [bk_315_1266]
  exact lw_end hQ ⟨mo', G', I', J', rfl, hi⟩
theorem lc_28 (h : inv c mo G I J) (hc : c ≤ 1000) (v : vp6 x4 X.2) (hQ : ∀ M', Inv (c + 1) M' → sm_wp X 315 23 [some (.retAddr 1), some (.ref 0), some (.ref 81), some (.ref 142), some (.int (x4 + 7)), none, none] [] M' Q) : sm_wp X 315 1270 [some (.retAddr 1), some (.ref 0), some (.ref 81), some (.ref 142), some (.int x4), none, none] [] (sM mo G I J) Q := by
  by_cases hz : X.1 (x4 + 3).toNatClampNeg = 0
  · rw [bk_315_1270, if_pos hz, bk_315_1296]
    refine ⟨v.1, v.2.1, v.2.2.1, lw_two (t := 1) (op_hang h _ _ 0 (Or.inl rfl)) (by decide +kernel) ?_⟩
    intro u l G1 I1 J1 R1 hu hm
    obtain ⟨s, rfl⟩ := hu.1 rfl
    show sm_wp X 315 1300 [some (.retAddr 1), some (.ref 0), some (.ref 81), some (.ref 142), some (.int x4), none, none] [.int s] (sK0 ++ l, G1, I1, J1, R1) Q
    rw [bg_315_1300, if_pos hz, bg_315_1327]
    refine ⟨v.1, v.2.1, v.2.2.1, sm_wp_mono hm ?_⟩
    rintro w M2 ⟨rfl, hR⟩
    obtain ⟨mo', G', I', J', rfl, hi⟩ := hR
    show sm_wp X 315 1331 [some (.retAddr 1), some (.ref 0), some (.ref 81), some (.ref 142), some (.int x4), none, none] [.int s] (sM mo' G' I' J') Q
    rw [bk_315_1331]
    exact lw_end hQ ⟨mo', G', I', J', rfl, hi⟩
  · rw [bk_315_1270, if_neg hz, bk_315_1297]
    refine ⟨v.1, v.2.1, v.2.2.1, lw_two (t := 1) (op_hang h _ _ 1 (Or.inr rfl)) (by decide +kernel) ?_⟩
    intro u l G1 I1 J1 R1 hu hm
    obtain ⟨s, rfl⟩ := hu.1 rfl
    show sm_wp X 315 1300 [some (.retAddr 1), some (.ref 0), some (.ref 81), some (.ref 142), some (.int x4), none, none] [.int s] (sK0 ++ l, G1, I1, J1, R1) Q
    rw [bg_315_1300, if_neg hz, bg_315_1328]
    refine ⟨v.1, v.2.1, v.2.2.1, sm_wp_mono hm ?_⟩
    rintro w M2 ⟨rfl, hR⟩
    obtain ⟨mo', G', I', J', rfl, hi⟩ := hR
    show sm_wp X 315 1331 [some (.retAddr 1), some (.ref 0), some (.ref 81), some (.ref 142), some (.int x4), none, none] [.int s] (sM mo' G' I' J') Q
    rw [bk_315_1331]
    exact lw_end hQ ⟨mo', G', I', J', rfl, hi⟩
theorem lc_29 (h : inv c mo G I J) (hc : c ≤ 1000) (v : vp6 x4 X.2) (hQ : ∀ M', Inv (c + 1) M' → sm_wp X 315 23 [some (.retAddr 1), some (.ref 0), some (.ref 81), some (.ref 142), some (.int (x4 + 7)), none, none] [] M' Q) : sm_wp X 315 1335 [some (.retAddr 1), some (.ref 0), some (.ref 81), some (.ref 142), some (.int x4), none, none] [] (sM mo G I J) Q := by
  by_cases hz : X.1 (x4 + 3).toNatClampNeg = 0
  · rw [bk_315_1335, if_pos hz, bk_315_1361]
    refine ⟨v.1, v.2.1, v.2.2.1, lw_two (t := 1) (op_reserve h _ _ 0 (Or.inl rfl)) (by decide +kernel) ?_⟩
    intro u l G1 I1 J1 R1 hu hm
    obtain ⟨s, rfl⟩ := hu.1 rfl
    show sm_wp X 315 1365 [some (.retAddr 1), some (.ref 0), some (.ref 81), some (.ref 142), some (.int x4), none, none] [.int s] (sK0 ++ l, G1, I1, J1, R1) Q
    rw [bg_315_1365, if_pos hz, bg_315_1392]
    refine ⟨v.1, v.2.1, v.2.2.1, sm_wp_mono hm ?_⟩
    rintro w M2 ⟨rfl, hR⟩
    obtain ⟨mo', G', I', J', rfl, hi⟩ := hR
    show sm_wp X 315 1396 [some (.retAddr 1), some (.ref 0), some (.ref 81), some (.ref 142), some (.int x4), none, none] [.int s] (sM mo' G' I' J') Q
    rw [bk_315_1396]
    exact lw_end hQ ⟨mo', G', I', J', rfl, hi⟩
  · rw [bk_315_1335, if_neg hz, bk_315_1362]
    refine ⟨v.1, v.2.1, v.2.2.1, lw_two (t := 1) (op_reserve h _ _ 1 (Or.inr rfl)) (by decide +kernel) ?_⟩
    intro u l G1 I1 J1 R1 hu hm
    obtain ⟨s, rfl⟩ := hu.1 rfl
    show sm_wp X 315 1365 [some (.retAddr 1), some (.ref 0), some (.ref 81), some (.ref 142), some (.int x4), none, none] [.int s] (sK0 ++ l, G1, I1, J1, R1) Q
    rw [bg_315_1365, if_neg hz, bg_315_1393]
    refine ⟨v.1, v.2.1, v.2.2.1, sm_wp_mono hm ?_⟩
    rintro w M2 ⟨rfl, hR⟩
    obtain ⟨mo', G', I', J', rfl, hi⟩ := hR
    show sm_wp X 315 1396 [some (.retAddr 1), some (.ref 0), some (.ref 81), some (.ref 142), some (.int x4), none, none] [.int s] (sM mo' G' I' J') Q
    rw [bk_315_1396]
    exact lw_end hQ ⟨mo', G', I', J', rfl, hi⟩
theorem lc_30 (h : inv c mo G I J) (hc : c ≤ 1000) (v : vp6 x4 X.2) (hQ : ∀ M', Inv (c + 1) M' → sm_wp X 315 23 [some (.retAddr 1), some (.ref 0), some (.ref 81), some (.ref 142), some (.int (x4 + 7)), none, none] [] M' Q) : sm_wp X 315 1400 [some (.retAddr 1), some (.ref 0), some (.ref 81), some (.ref 142), some (.int x4), none, none] [] (sM mo G I J) Q := by
  rw [bk_315_1400]
  refine ⟨v.1, v.2.1, v.2.2.1, lw_two (t := 1) (op_distance h _ _ _) (by decide +kernel) ?_⟩
  intro u l G1 I1 J1 R1 hu hm
  obtain ⟨s, rfl⟩ := hu.1 rfl
  show sm_wp X 315 1422 [some (.retAddr 1), some (.ref 0), some (.ref 81), some (.ref 142), some (.int x4), none, none] [.int s] (sK0 ++ l, G1, I1, J1, R1) Q
  rw [bg_315_1422]
  refine ⟨v.1, v.2.1, v.2.2.1, sm_wp_mono hm ?_⟩
  rintro w M2 ⟨rfl, hR⟩
  obtain ⟨mo', G', I', J', rfl, hi⟩ := hR
  show sm_wp X 315 1445 [some (.retAddr 1), some (.ref 0), some (.ref 81), some (.ref 142), some (.int x4), none, none] [.int s] (sM mo' G' I' J') Q
  rw [bk_315_1445]
  exact lw_end hQ ⟨mo', G', I', J', rfl, hi⟩
theorem lc_31 (h : inv c mo G I J) (hc : c ≤ 1000) (v : vp6 x4 X.2) (hQ : ∀ M', Inv (c + 1) M' → sm_wp X 315 23 [some (.retAddr 1), some (.ref 0), some (.ref 81), some (.ref 142), some (.int (x4 + 7)), none, none] [] M' Q) : sm_wp X 315 1449 [some (.retAddr 1), some (.ref 0), some (.ref 81), some (.ref 142), some (.int x4), none, none] [] (sM mo G I J) Q := by
  rw [bk_315_1449]
  refine ⟨v.1, v.2.1, lw_two (t := 1) (op_laid h _ _) (by decide +kernel) ?_⟩
  intro u l G1 I1 J1 R1 hu hm
  obtain ⟨s, rfl⟩ := hu.1 rfl
  show sm_wp X 315 1465 [some (.retAddr 1), some (.ref 0), some (.ref 81), some (.ref 142), some (.int x4), none, none] [.int s] (sK0 ++ l, G1, I1, J1, R1) Q
  rw [bg_315_1465]
  refine ⟨v.1, v.2.1, sm_wp_mono hm ?_⟩
  rintro w M2 ⟨rfl, hR⟩
  obtain ⟨mo', G', I', J', rfl, hi⟩ := hR
  show sm_wp X 315 1482 [some (.retAddr 1), some (.ref 0), some (.ref 81), some (.ref 142), some (.int x4), none, none] [.int s] (sM mo' G' I' J') Q
  rw [bk_315_1482]
  exact lw_end hQ ⟨mo', G', I', J', rfl, hi⟩
theorem lc_32 (h : inv c mo G I J) (hc : c ≤ 1000) (v : vp6 x4 X.2) (hQ : ∀ M', Inv (c + 1) M' → sm_wp X 315 23 [some (.retAddr 1), some (.ref 0), some (.ref 81), some (.ref 142), some (.int (x4 + 7)), none, none] [] M' Q) : sm_wp X 315 1486 [some (.retAddr 1), some (.ref 0), some (.ref 81), some (.ref 142), some (.int x4), none, none] [] (sM mo G I J) Q := by
  rw [bk_315_1486]
  refine ⟨v.1, v.2.1, v.2.2.1, lw_two (t := 1) (op_word h _ _ _) (by decide +kernel) ?_⟩
  intro u l G1 I1 J1 R1 hu hm
  obtain ⟨s, rfl⟩ := hu.1 rfl
  show sm_wp X 315 1508 [some (.retAddr 1), some (.ref 0), some (.ref 81), some (.ref 142), some (.int x4), none, none] [.int s] (sK0 ++ l, G1, I1, J1, R1) Q
  rw [bg_315_1508]
  refine ⟨v.1, v.2.1, v.2.2.1, sm_wp_mono hm ?_⟩
  rintro w M2 ⟨rfl, hR⟩
  obtain ⟨mo', G', I', J', rfl, hi⟩ := hR
  show sm_wp X 315 1531 [some (.retAddr 1), some (.ref 0), some (.ref 81), some (.ref 142), some (.int x4), none, none] [.int s] (sM mo' G' I' J') Q
  rw [bk_315_1531]
  exact lw_end hQ ⟨mo', G', I', J', rfl, hi⟩
theorem lc_33 (h : inv c mo G I J) (hc : c ≤ 1000) (v : vp6 x4 X.2) (hQ : ∀ M', Inv (c + 1) M' → sm_wp X 315 23 [some (.retAddr 1), some (.ref 0), some (.ref 81), some (.ref 142), some (.int (x4 + 7)), none, none] [] M' Q) : sm_wp X 315 1535 [some (.retAddr 1), some (.ref 0), some (.ref 81), some (.ref 142), some (.int x4), none, none] [] (sM mo G I J) Q := by
  rw [bk_315_1535]
  refine ⟨v.1, lw_two (t := 1) (op_leave h _) (by decide +kernel) ?_⟩
  intro u l G1 I1 J1 R1 hu hm
  obtain ⟨s, rfl⟩ := hu.1 rfl
  show sm_wp X 315 1545 [some (.retAddr 1), some (.ref 0), some (.ref 81), some (.ref 142), some (.int x4), none, none] [.int s] (sK0 ++ l, G1, I1, J1, R1) Q
  rw [bg_315_1545]
  refine ⟨v.1, sm_wp_mono hm ?_⟩
  rintro w M2 ⟨rfl, hR⟩
  obtain ⟨mo', G', I', J', rfl, hi⟩ := hR
  show sm_wp X 315 1556 [some (.retAddr 1), some (.ref 0), some (.ref 81), some (.ref 142), some (.int x4), none, none] [.int s] (sM mo' G' I' J') Q
  rw [bk_315_1556]
  exact lw_end hQ ⟨mo', G', I', J', rfl, hi⟩
theorem lc_34 (h : inv c mo G I J) (hc : c ≤ 1000) (v : vp6 x4 X.2) (hQ : ∀ M', Inv (c + 1) M' → sm_wp X 315 23 [some (.retAddr 1), some (.ref 0), some (.ref 81), some (.ref 142), some (.int (x4 + 7)), none, none] [] M' Q) : sm_wp X 315 1560 [some (.retAddr 1), some (.ref 0), some (.ref 81), some (.ref 142), some (.int x4), none, none] [] (sM mo G I J) Q := by
  rw [bk_315_1560]
  refine ⟨v.1, v.2.1, v.2.2.1, lw_two (t := 1) (op_way h _ _ _) (by decide +kernel) ?_⟩
  intro u l G1 I1 J1 R1 hu hm
  obtain ⟨s, rfl⟩ := hu.1 rfl
  show sm_wp X 315 1582 [some (.retAddr 1), some (.ref 0), some (.ref 81), some (.ref 142), some (.int x4), none, none] [.int s] (sK0 ++ l, G1, I1, J1, R1) Q
  rw [bg_315_1582]
  refine ⟨v.1, v.2.1, v.2.2.1, sm_wp_mono hm ?_⟩
  rintro w M2 ⟨rfl, hR⟩
  obtain ⟨mo', G', I', J', rfl, hi⟩ := hR
  show sm_wp X 315 1605 [some (.retAddr 1), some (.ref 0), some (.ref 81), some (.ref 142), some (.int x4), none, none] [.int s] (sM mo' G' I' J') Q
  rw [bk_315_1605]
  exact lw_end hQ ⟨mo', G', I', J', rfl, hi⟩
theorem lc_36 (h : inv c mo G I J) (hc : c ≤ 1000) (v : vp6 x4 X.2) (hQ : ∀ M', Inv (c + 1) M' → sm_wp X 315 23 [some (.retAddr 1), some (.ref 0), some (.ref 81), some (.ref 142), some (.int (x4 + 7)), none, none] [] M' Q) : sm_wp X 315 1649 [some (.retAddr 1), some (.ref 0), some (.ref 81), some (.ref 142), some (.int x4), none, none] [] (sM mo G I J) Q := by
  rw [bk_315_1649]
  refine ⟨v.1, lw_two (t := 1) (op_count h _) (by decide +kernel) ?_⟩
  intro u l G1 I1 J1 R1 hu hm
  obtain ⟨s, rfl⟩ := hu.1 rfl
  show sm_wp X 315 1659 [some (.retAddr 1), some (.ref 0), some (.ref 81), some (.ref 142), some (.int x4), none, none] [.int s] (sK0 ++ l, G1, I1, J1, R1) Q
  rw [bg_315_1659]
  refine ⟨v.1, sm_wp_mono hm ?_⟩
  rintro w M2 ⟨rfl, hR⟩
  obtain ⟨mo', G', I', J', rfl, hi⟩ := hR
  show sm_wp X 315 1670 [some (.retAddr 1), some (.ref 0), some (.ref 81), some (.ref 142), some (.int x4), none, none] [.int s] (sM mo' G' I' J') Q
  rw [bk_315_1670]
  exact lw_end hQ ⟨mo', G', I', J', rfl, hi⟩
end L2
end
section
/-! The law: one call of the script; the end; a script of one call. -/
theorem inv_s {c : Nat} {mo : Bool} {G : Nat × Nat} {I : Nat → Nat → Int32} {J : Nat → Nat → Int64} (h : inv c mo G I J) : inv (c + 1) mo G I J := inv_e h (fun _ _ _ => rfl) (fun _ _ _ => rfl) rfl rfl
section L3
variable {X : (Nat → Int32) × Nat} {c : Nat} {mo : Bool} {G : Nat × Nat} {I : Nat → Nat → Int32} {J : Nat → Nat → Int64} {Q : Option Value → sm_M → Prop}
theorem vp_z {a n : Nat} (ha : a < 2147483648) (h : a < n) : vp_in (zI a) n := Eq.mpr (zI_vp (a := a) (n := n) ha) h
theorem lw_case (h : inv c mo G I J) (hc : c ≤ 1000) {i : Nat} (h7 : i + 7 ≤ X.2) (hX : X.2 < 1000000) (hQ : ∀ M', Inv (c + 1) M' → sm_wp X 315 23 [some (.retAddr 1), some (.ref 0), some (.ref 81), some (.ref 142), some (.int (zI (i + 7))), none, none] [] M' Q) : sm_wp X 315 23 [some (.retAddr 1), some (.ref 0), some (.ref 81), some (.ref 142), some (.int (zI i)), none, none] [] (sM mo G I J) Q := by
  have e : ∀ k : Nat, zI i + zI k = zI (i + k) := fun k => zI_add i k
  have v : vp6 (zI i) X.2 := ⟨by rw [show (1 : Int32) = zI 1 from rfl, e]; exact vp_z (by omega) (by omega), by rw [show (2 : Int32) = zI 2 from rfl, e]; exact vp_z (by omega) (by omega), by rw [show (3 : Int32) = zI 3 from rfl, e]; exact vp_z (by omega) (by omega), by rw [show (4 : Int32) = zI 4 from rfl, e]; exact vp_z (by omega) (by omega), by rw [show (5 : Int32) = zI 5 from rfl, e]; exact vp_z (by omega) (by omega), by rw [show (6 : Int32) = zI 6 from rfl, e]; exact vp_z (by omega) (by omega)⟩
  have hQ' : ∀ M', Inv (c + 1) M' → sm_wp X 315 23 [some (.retAddr 1), some (.ref 0), some (.ref 81), some (.ref 142), some (.int (zI i + 7)), none, none] [] M' Q := fun M' hM => by
    rw [show (7 : Int32) = zI 7 from rfl, e]
    exact hQ M' hM
  rw [bk_315_23, if_neg (by
    show ¬ zI X.2 - zI 7 < zI i
    rw [zI_sub (by omega), zI_lt (by omega) (by omega)]
    omega)]
  refine ⟨vp_z (by omega) (by omega), ?_⟩
  by_cases h0 : X.1 (zI i).toNatClampNeg &&& 63 = 0
  · rw [if_pos h0]; exact lc_0 h hc v hQ'
  rw [if_neg h0]
  by_cases h1 : X.1 (zI i).toNatClampNeg &&& 63 = 1
  · rw [if_pos h1]; exact lc_1 h hc v hQ'
  rw [if_neg h1]
  by_cases h2 : X.1 (zI i).toNatClampNeg &&& 63 = 2
  · rw [if_pos h2]; exact lc_2 h hc v hQ'
  rw [if_neg h2]
  by_cases h3 : X.1 (zI i).toNatClampNeg &&& 63 = 3
  · rw [if_pos h3]; exact lc_3 h hc v hQ'
  rw [if_neg h3]
  by_cases h4 : X.1 (zI i).toNatClampNeg &&& 63 = 4
  · rw [if_pos h4]; exact lc_4 h hc v hQ'
  rw [if_neg h4]
  by_cases h5 : X.1 (zI i).toNatClampNeg &&& 63 = 5
  · rw [if_pos h5]; exact lc_5 h hc v hQ'
  rw [if_neg h5]
  by_cases h6 : X.1 (zI i).toNatClampNeg &&& 63 = 6
  · rw [if_pos h6]; exact lc_6 h hc v hQ'
  rw [if_neg h6]
  by_cases h7 : X.1 (zI i).toNatClampNeg &&& 63 = 7
  · rw [if_pos h7]; exact lc_7 h hc v hQ'
  rw [if_neg h7]
  by_cases h8 : X.1 (zI i).toNatClampNeg &&& 63 = 8
  · rw [if_pos h8]; exact lc_8 h hc v hQ'
  rw [if_neg h8]
  by_cases h9 : X.1 (zI i).toNatClampNeg &&& 63 = 9
  · rw [if_pos h9]; exact lc_9 h hc v hQ'
  rw [if_neg h9]
  by_cases h10 : X.1 (zI i).toNatClampNeg &&& 63 = 10
  · rw [if_pos h10]; exact lc_10 h hc v hQ'
  rw [if_neg h10]
  by_cases h11 : X.1 (zI i).toNatClampNeg &&& 63 = 11
  · rw [if_pos h11]; exact lc_11 h hc v hQ'
  rw [if_neg h11]
  by_cases h12 : X.1 (zI i).toNatClampNeg &&& 63 = 12
  · rw [if_pos h12]; exact lc_12 h hc v hQ'
  rw [if_neg h12]
  by_cases h13 : X.1 (zI i).toNatClampNeg &&& 63 = 13
  · rw [if_pos h13]; exact lc_13 h hc v hQ'
  rw [if_neg h13]
  by_cases h14 : X.1 (zI i).toNatClampNeg &&& 63 = 14
  · rw [if_pos h14]; exact lc_14 h hc v hQ'
  rw [if_neg h14]
  by_cases h15 : X.1 (zI i).toNatClampNeg &&& 63 = 15
  · rw [if_pos h15]; exact lc_15 h hc v hQ'
  rw [if_neg h15]
  by_cases h16 : X.1 (zI i).toNatClampNeg &&& 63 = 16
  · rw [if_pos h16]; exact lc_16 h hc v hQ'
  rw [if_neg h16]
  by_cases h17 : X.1 (zI i).toNatClampNeg &&& 63 = 17
  · rw [if_pos h17]; exact lc_17 h hc v hQ'
  rw [if_neg h17]
  by_cases h18 : X.1 (zI i).toNatClampNeg &&& 63 = 18
  · rw [if_pos h18]; exact lc_18 h hc v hQ'
  rw [if_neg h18]
  by_cases h19 : X.1 (zI i).toNatClampNeg &&& 63 = 19
  · rw [if_pos h19]; exact lc_19 h hc v hQ'
  rw [if_neg h19]
  by_cases h20 : X.1 (zI i).toNatClampNeg &&& 63 = 20
  · rw [if_pos h20]; exact lc_20 h hc v hQ'
  rw [if_neg h20]
  by_cases h21 : X.1 (zI i).toNatClampNeg &&& 63 = 21
  · rw [if_pos h21]; exact lc_21 h hc v hQ'
  rw [if_neg h21]
  by_cases h22 : X.1 (zI i).toNatClampNeg &&& 63 = 22
  · rw [if_pos h22]; exact lc_22 h hc v hQ'
  rw [if_neg h22]
  by_cases h23 : X.1 (zI i).toNatClampNeg &&& 63 = 23
  · rw [if_pos h23]; exact lc_23 h hc v hQ'
  rw [if_neg h23]
  by_cases h24 : X.1 (zI i).toNatClampNeg &&& 63 = 24
  · rw [if_pos h24]; exact lc_24 h hc v hQ'
  rw [if_neg h24]
  by_cases h25 : X.1 (zI i).toNatClampNeg &&& 63 = 25
  · rw [if_pos h25]; exact lc_25 h hc v hQ'
  rw [if_neg h25]
  by_cases h26 : X.1 (zI i).toNatClampNeg &&& 63 = 26
  · rw [if_pos h26]; exact lc_26 h hc v hQ'
  rw [if_neg h26]
  by_cases h27 : X.1 (zI i).toNatClampNeg &&& 63 = 27
  · rw [if_pos h27]; exact lc_27 h hc v hQ'
  rw [if_neg h27]
  by_cases h28 : X.1 (zI i).toNatClampNeg &&& 63 = 28
  · rw [if_pos h28]; exact lc_28 h hc v hQ'
  rw [if_neg h28]
  by_cases h29 : X.1 (zI i).toNatClampNeg &&& 63 = 29
  · rw [if_pos h29]; exact lc_29 h hc v hQ'
  rw [if_neg h29]
  by_cases h30 : X.1 (zI i).toNatClampNeg &&& 63 = 30
  · rw [if_pos h30]; exact lc_30 h hc v hQ'
  rw [if_neg h30]
  by_cases h31 : X.1 (zI i).toNatClampNeg &&& 63 = 31
  · rw [if_pos h31]; exact lc_31 h hc v hQ'
  rw [if_neg h31]
  by_cases h32 : X.1 (zI i).toNatClampNeg &&& 63 = 32
  · rw [if_pos h32]; exact lc_32 h hc v hQ'
  rw [if_neg h32]
  by_cases h33 : X.1 (zI i).toNatClampNeg &&& 63 = 33
  · rw [if_pos h33]; exact lc_33 h hc v hQ'
  rw [if_neg h33]
  by_cases h34 : X.1 (zI i).toNatClampNeg &&& 63 = 34
  · rw [if_pos h34]; exact lc_34 h hc v hQ'
  rw [if_neg h34]
  by_cases h35 : X.1 (zI i).toNatClampNeg &&& 63 = 35
  · rw [if_pos h35]; exact op_lookL h v.1 v.2.1 hQ'
  rw [if_neg h35]
  by_cases h36 : X.1 (zI i).toNatClampNeg &&& 63 = 36
  · rw [if_pos h36]; exact lc_36 h hc v hQ'
  rw [if_neg h36]
  exact lw_end hQ' ⟨mo, G, I, J, rfl, inv_s h⟩
theorem lw_over {M : sm_M} (h : Inv c M) {i : Nat} (h7 : X.2 < i + 7) (hi : i ≤ X.2) (hX : X.2 < 1000000) (hQ : Q (some (.int 1)) M) : sm_wp X 315 23 [some (.retAddr 1), some (.ref 0), some (.ref 81), some (.ref 142), some (.int (zI i)), none, none] [] M Q := by
  obtain ⟨mo, G, I, J, rfl, hI⟩ := h
  rw [bk_315_23, if_pos (by
    show zI X.2 - zI 7 < zI i
    by_cases g : 7 ≤ X.2
    · rw [zI_sub g, zI_lt (by omega) (by omega)]
      omega
    · have : X.2 = 0 ∨ X.2 = 1 ∨ X.2 = 2 ∨ X.2 = 3 ∨ X.2 = 4 ∨ X.2 = 5 ∨ X.2 = 6 := by omega
      have ng : zI X.2 - zI 7 < 0 := by
        rcases this with e | e | e | e | e | e | e <;> rw [e] <;> decide
      exact Int32.lt_of_lt_of_le ng (by rw [show (0 : Int32) = zI 0 from rfl, zI_le (by omega) (by omega)]; exact Nat.zero_le _)), bk_315_1680]
  exact ⟨Or.inr rfl, hQ⟩
theorem lw_loop (hX : X.2 ≤ 3584) (hQ : ∀ M' k, k ≤ 512 → Inv k M' → Q (some (.int 1)) M') : ∀ (d c i : Nat) (M : sm_M), Inv c M → 7 * c ≤ i → i ≤ X.2 → X.2 ≤ i + d → sm_wp X 315 23 [some (.retAddr 1), some (.ref 0), some (.ref 81), some (.ref 142), some (.int (zI i)), none, none] [] M Q := by
  intro d
  induction d with
  | zero => intro c i M hM h1 h2 h3; exact lw_over hM (by omega) h2 (by omega) (hQ _ c (by omega) hM)
  | succ d ih =>
    intro c i M hM h1 h2 h3
    by_cases g : X.2 < i + 7
    · exact lw_over hM g h2 (by omega) (hQ _ c (by omega) hM)
    · obtain ⟨mo, G, I, J, rfl, hI⟩ := hM
      refine lw_case hI (by omega) (by omega) (by omega) ?_
      intro M' hM'
      exact ih (c + 1) (i + 7) M' hM' (by omega) (by omega) (by omega)
/-- every script -/
theorem law_all (hX : X.2 ≤ 3584) (hQ : ∀ M' k, k ≤ 512 → Inv k M' → Q (some (.int 1)) M') : sm_wp X 315 0 [some (.retAddr 1), none, none, none, none, none, none] [] ([], (0, 0), fun _ _ => 0, fun _ _ => 0, []) Q := by
  refine cn_15 X _ _ _ ?_
  have I0 : Inv 0 (sM false (0, 0) I00 J00) := ⟨false, (0, 0), I00, J00, rfl, inv_0⟩
  rw [kk_end, rr_end]
  show sm_wp X 315 23 [some (.retAddr 1), some (.ref 0), some (.ref 81), some (.ref 142), some (.int (zI 0)), none, none] [] (sM false (0, 0) I00 J00) Q
  exact lw_loop hX hQ X.2 0 0 _ I0 (by omega) (by omega) (by omega)
end L3
end
section
/-! look: the memory that it wants, and the runs of the Realm's four methods there. -/
theorem lk_and {a b : Bool} (h : (a && b) = true) : a = true ∧ b = true := by simpa using h
theorem lk_ik {K : List (Nat × Nat)} {o t n : Nat} (h : sm_ik K o t n = true) : sm_kd K o = (t, n) := by
  have h2 := lk_and h
  exact Prod.ext (Nat.eq_of_beq_eq_true h2.1) (Nat.eq_of_beq_eq_true h2.2)
theorem lk_is {R : List (List (Option Nat))} {o j r : Nat} (h : sm_is R o j r = true) : sm_on (sm_rw R o) j = some r := by
  unfold sm_is at h
  split at h
  · rename_i a e
    rw [e, Nat.eq_of_beq_eq_true h]
  · cases h
theorem lk_shp {M : sm_M} (h : sm_shp M = true) : sm_kd M.1 0 = (11, 11) ∧ sm_kd M.1 1 = (5, 17) ∧ sm_kd M.1 2 = (100, 12) ∧ sm_kd M.1 4 = (100, 12) ∧ sm_kd M.1 5 = (100, 12) ∧ sm_kd M.1 142 = (103, 1) ∧ sm_on (sm_rw M.2.2.2.2 0) 0 = some 1 ∧ sm_on (sm_rw M.2.2.2.2 1) 5 = some 2 ∧ sm_on (sm_rw M.2.2.2.2 1) 7 = some 4 ∧ sm_on (sm_rw M.2.2.2.2 1) 8 = some 5 := by
  have a := lk_and h
  have b := lk_and a.2
  have c := lk_and b.2
  have d := lk_and c.2
  have e := lk_and d.2
  have f := lk_and e.2
  have g := lk_and f.2
  have i := lk_and g.2
  have j := lk_and i.2
  exact ⟨lk_ik a.1, lk_ik b.1, lk_ik c.1, lk_ik d.1, lk_ik e.1, lk_ik f.1, lk_is g.1, lk_is i.1, lk_is j.1, lk_is j.2⟩
theorem lk_kd0 {K : List (Nat × Nat)} {q : Nat × Nat} (h : sm_kd K 0 = q) (hq : q ≠ (99, 0)) : ∃ l, K = q :: l := by
  cases K with
  | nil => exact absurd h.symm hq
  | cons x l => exact ⟨l, by rw [show x = q from h]⟩
theorem lk_kdS {K : List (Nat × Nat)} {n : Nat} {q : Nat × Nat} (h : sm_kd K (n + 1) = q) (hq : q ≠ (99, 0)) : ∃ x l, K = x :: l ∧ sm_kd l n = q := by
  cases K with
  | nil => exact absurd h.symm hq
  | cons x l => exact ⟨x, l, rfl, h⟩
theorem lk_on0 {r : List (Option Nat)} {v : Nat} (h : sm_on r 0 = some v) : ∃ l, r = some v :: l := by
  cases r with
  | nil => cases h
  | cons x l => exact ⟨l, by rw [show x = some v from h]⟩
theorem lk_onS {r : List (Option Nat)} {n v : Nat} (h : sm_on r (n + 1) = some v) : ∃ x l, r = x :: l ∧ sm_on l n = some v := by
  cases r with
  | nil => cases h
  | cons x l => exact ⟨x, l, rfl, h⟩
theorem lk_rw {R : List (List (Option Nat))} {o j v : Nat} (h : sm_on (sm_rw R o) j = some v) : ∃ x l, R = x :: l := by
  cases R with
  | nil => cases j <;> cases h
  | cons x l => exact ⟨x, l, rfl⟩
/-- such a memory, its first cells laid open -/
def lkM (k3 : Nat × Nat) (K : List (Nat × Nat)) (G : Nat × Nat) (I : Nat → Nat → Int32) (J : Nat → Nat → Int64) (r0 : List (Option Nat)) (a0 a1 a2 a3 a4 a6 : Option Nat) (r1 : List (Option Nat)) (R : List (List (Option Nat))) : sm_M :=
  ((11, 11) :: (5, 17) :: (100, 12) :: k3 :: (100, 12) :: (100, 12) :: K, G, I, J, (some 1 :: r0) :: (a0 :: a1 :: a2 :: a3 :: a4 :: some 2 :: a6 :: some 4 :: some 5 :: r1) :: R)
theorem lk_opn {M : sm_M} (h : sm_shp M = true) : ∃ k3 K G I J r0 a0 a1 a2 a3 a4 a6 r1 R, M = lkM k3 K G I J r0 a0 a1 a2 a3 a4 a6 r1 R := by
  obtain ⟨h0, h1, h2, h4, h5, -, g0, g1, g2, g3⟩ := lk_shp h
  obtain ⟨K, G, I, J, R⟩ := M
  dsimp only at h0 h1 h2 h4 h5 g0 g1 g2 g3
  obtain ⟨K, rfl⟩ := lk_kd0 h0 (by decide)
  obtain ⟨K, rfl⟩ := lk_kd0 (K := K) h1 (by decide)
  obtain ⟨K, rfl⟩ := lk_kd0 (K := K) h2 (by decide)
  obtain ⟨k3, K, rfl, h4⟩ := lk_kdS (K := K) (n := 0) h4 (by decide)
  obtain ⟨K, rfl⟩ := lk_kd0 h4 (by decide)
  obtain ⟨K, rfl⟩ := lk_kd0 (K := K) h5 (by decide)
  obtain ⟨x0, R, rfl⟩ := lk_rw g0
  obtain ⟨r0, rfl⟩ := lk_on0 (r := x0) g0
  obtain ⟨x1, R, rfl⟩ := lk_rw (R := R) (o := 0) g1
  have g1 : sm_on x1 5 = some 2 := g1
  have g2 : sm_on x1 7 = some 4 := g2
  have g3 : sm_on x1 8 = some 5 := g3
  obtain ⟨a0, x2, e1, p1⟩ := lk_onS g1
  obtain ⟨a1, x3, e2, p2⟩ := lk_onS p1
  obtain ⟨a2, x4, e3, p3⟩ := lk_onS p2
  obtain ⟨a3, x5, e4, p4⟩ := lk_onS p3
  obtain ⟨a4, x6, e5, p5⟩ := lk_onS p4
  obtain ⟨x7, e6⟩ := lk_on0 p5
  rw [e1, e2, e3, e4, e5, e6] at g2 g3
  obtain ⟨a6, x8, e7, q1⟩ := lk_onS (r := x7) (n := 0) g2
  obtain ⟨x9, e8⟩ := lk_on0 q1
  rw [e7, e8] at g3
  obtain ⟨x1b, e9⟩ := lk_on0 (r := x9) g3
  rw [e1, e2, e3, e4, e5, e6, e7, e8, e9]
  exact ⟨k3, K, G, I, J, r0, a0, a1, a2, a3, a4, a6, x1b, R, rfl⟩
def lk_in (M : sm_M) (l : Int32) : Prop := 0 ≤ l ∧ l < M.2.2.1 1 0 ∧ l < 12
theorem lk_vp {M : sm_M} {l : Int32} (h : lk_in M l) : vp_in l 12 := by
  obtain ⟨h1, -, h3⟩ := h
  rintro (z | z)
  · exact absurd h1 (Int32.not_le.mpr z)
  · have e1 : l.toInt < 12 := Int32.lt_iff_toInt_lt.mp h3
    have e2 : (12 : Nat) ≤ l.toInt.toNat := z
    omega
section LKR
variable {X : (Nat → Int32) × Nat} {k3 : Nat × Nat} {K : List (Nat × Nat)} {G : Nat × Nat} {I : Nat → Nat → Int32} {J : Nat → Nat → Int64} {r0 : List (Option Nat)} {a0 a1 a2 a3 a4 a6 : Option Nat} {r1 : List (Option Nat)} {R : List (List (Option Nat))} {Q : Option Value → sm_M → Prop} {x1 : Int32}
set_option maxRecDepth 100000 in
theorem lk_90a : sm_wp X 90 0 [some (.ref 1), some (.int x1)] [] (lkM k3 K G I J r0 a0 a1 a2 a3 a4 a6 r1 R) Q =
    (if (x1 : Int32) < 0 then sm_wp X 90 22 [some (.ref 1), some (.int x1)] [] (lkM k3 K G I J r0 a0 a1 a2 a3 a4 a6 r1 R) Q else (if (I 1 0 : Int32) ≤ (x1 : Int32) then sm_wp X 90 22 [some (.ref 1), some (.int x1)] [] (lkM k3 K G I J r0 a0 a1 a2 a3 a4 a6 r1 R) Q else (if (12 : Int32) ≤ (x1 : Int32) then sm_wp X 90 22 [some (.ref 1), some (.int x1)] [] (lkM k3 K G I J r0 a0 a1 a2 a3 a4 a6 r1 R) Q else (sm_wp X 90 23 [some (.ref 1), some (.int x1)] [.int 1] (lkM k3 K G I J r0 a0 a1 a2 a3 a4 a6 r1 R) Q)))) :=
  (sm_blk X 90 0 (tt_lin 90 (by decide)) rfl rfl _ _ _ _).trans rfl
set_option maxRecDepth 100000 in
theorem lk_90b : sm_wp X 90 22 [some (.ref 1), some (.int x1)] [] (lkM k3 K G I J r0 a0 a1 a2 a3 a4 a6 r1 R) Q =
    (sm_zb 0 ∧ Q (some (.int 0)) (lkM k3 K G I J r0 a0 a1 a2 a3 a4 a6 r1 R)) :=
  (sm_blk X 90 22 (tt_lin 90 (by decide)) rfl rfl _ _ _ _).trans rfl
set_option maxRecDepth 100000 in
theorem lk_90c {s0 : Int32} : sm_wp X 90 23 [some (.ref 1), some (.int x1)] [.int s0] (lkM k3 K G I J r0 a0 a1 a2 a3 a4 a6 r1 R) Q =
    (sm_zb s0 ∧ Q (some (.int s0)) (lkM k3 K G I J r0 a0 a1 a2 a3 a4 a6 r1 R)) :=
  (sm_blk X 90 23 (tt_lin 90 (by decide)) rfl rfl _ _ _ _).trans rfl
theorem lk_90 (h1 : lk_in (lkM k3 K G I J r0 a0 a1 a2 a3 a4 a6 r1 R) x1 → Q (some (.int 1)) (lkM k3 K G I J r0 a0 a1 a2 a3 a4 a6 r1 R)) (h0 : ¬ lk_in (lkM k3 K G I J r0 a0 a1 a2 a3 a4 a6 r1 R) x1 → Q (some (.int 0)) (lkM k3 K G I J r0 a0 a1 a2 a3 a4 a6 r1 R)) :
    sm_wp X 90 0 [some (.ref 1), some (.int x1)] [] (lkM k3 K G I J r0 a0 a1 a2 a3 a4 a6 r1 R) Q := by
  rw [lk_90a]
  split
  · rename_i g
    rw [lk_90b]
    exact ⟨Or.inl rfl, h0 fun z => absurd z.1 (Int32.not_le.mpr g)⟩
  · rename_i g
    split
    · rename_i g2
      rw [lk_90b]
      exact ⟨Or.inl rfl, h0 fun z => absurd z.2.1 (Int32.not_lt.mpr g2)⟩
    · rename_i g2
      split
      · rename_i g3
        rw [lk_90b]
        exact ⟨Or.inl rfl, h0 fun z => absurd z.2.2 (Int32.not_lt.mpr g3)⟩
      · rename_i g3
        rw [lk_90c]
        exact ⟨Or.inr rfl, h1 ⟨Int32.not_lt.mp g, Int32.not_le.mp g2, Int32.not_le.mp g3⟩⟩
set_option maxRecDepth 100000 in
theorem lk_117a : sm_wp X 117 0 [some (.ref 1), some (.int x1)] [] (lkM k3 K G I J r0 a0 a1 a2 a3 a4 a6 r1 R) Q =
    (sm_wp X 90 0 [some (.ref 1), some (.int x1)] [] (lkM k3 K G I J r0 a0 a1 a2 a3 a4 a6 r1 R) (fun v M => sm_wp X 117 5 [some (.ref 1), some (.int x1)] (v.toList ++ []) M Q)) :=
  (sm_blk X 117 0 (tt_lin 117 (by decide)) rfl rfl _ _ _ _).trans rfl
set_option maxRecDepth 100000 in
theorem lk_117b : sm_wp X 117 5 [some (.ref 1), some (.int x1)] [.int 1] (lkM k3 K G I J r0 a0 a1 a2 a3 a4 a6 r1 R) Q =
    (if (1 : Int32) = 0 then sm_wp X 117 17 [some (.ref 1), some (.int x1)] [] (lkM k3 K G I J r0 a0 a1 a2 a3 a4 a6 r1 R) Q else (vp_in x1 12 ∧ (sm_wp X 117 18 [some (.ref 1), some (.int x1)] [.int (I 2 (x1.toNatClampNeg))] (lkM k3 K G I J r0 a0 a1 a2 a3 a4 a6 r1 R) Q))) :=
  (sm_blk X 117 5 (tt_lin 117 (by decide)) rfl rfl _ _ _ _).trans rfl
set_option maxRecDepth 100000 in
theorem lk_117c {s0 : Int32} : sm_wp X 117 18 [some (.ref 1), some (.int x1)] [.int s0] (lkM k3 K G I J r0 a0 a1 a2 a3 a4 a6 r1 R) Q =
    (True ∧ Q (some (.int s0)) (lkM k3 K G I J r0 a0 a1 a2 a3 a4 a6 r1 R)) :=
  (sm_blk X 117 18 (tt_lin 117 (by decide)) rfl rfl _ _ _ _).trans rfl
theorem lk_117 (h : lk_in (lkM k3 K G I J r0 a0 a1 a2 a3 a4 a6 r1 R) x1) (hQ : Q (some (.int (I 2 x1.toNatClampNeg))) (lkM k3 K G I J r0 a0 a1 a2 a3 a4 a6 r1 R)) : sm_wp X 117 0 [some (.ref 1), some (.int x1)] [] (lkM k3 K G I J r0 a0 a1 a2 a3 a4 a6 r1 R) Q := by
  rw [lk_117a]
  refine lk_90 (fun _ => ?_) (fun z => absurd h z)
  show sm_wp X 117 5 [some (.ref 1), some (.int x1)] [.int 1] (lkM k3 K G I J r0 a0 a1 a2 a3 a4 a6 r1 R) Q
  rw [lk_117b, if_neg (by decide), lk_117c]
  exact ⟨lk_vp h, trivial, hQ⟩
set_option maxRecDepth 100000 in
theorem lk_95a : sm_wp X 95 0 [some (.ref 1), some (.int x1)] [] (lkM k3 K G I J r0 a0 a1 a2 a3 a4 a6 r1 R) Q =
    (sm_wp X 90 0 [some (.ref 1), some (.int x1)] [] (lkM k3 K G I J r0 a0 a1 a2 a3 a4 a6 r1 R) (fun v M => sm_wp X 95 5 [some (.ref 1), some (.int x1)] (v.toList ++ []) M Q)) :=
  (sm_blk X 95 0 (tt_lin 95 (by decide)) rfl rfl _ _ _ _).trans rfl
set_option maxRecDepth 100000 in
theorem lk_95b : sm_wp X 95 5 [some (.ref 1), some (.int x1)] [.int 1] (lkM k3 K G I J r0 a0 a1 a2 a3 a4 a6 r1 R) Q =
    (if (1 : Int32) = 0 then sm_wp X 95 17 [some (.ref 1), some (.int x1)] [] (lkM k3 K G I J r0 a0 a1 a2 a3 a4 a6 r1 R) Q else (vp_in x1 12 ∧ (sm_wp X 95 18 [some (.ref 1), some (.int x1)] [.int (I 4 (x1.toNatClampNeg))] (lkM k3 K G I J r0 a0 a1 a2 a3 a4 a6 r1 R) Q))) :=
  (sm_blk X 95 5 (tt_lin 95 (by decide)) rfl rfl _ _ _ _).trans rfl
set_option maxRecDepth 100000 in
theorem lk_95c {s0 : Int32} : sm_wp X 95 18 [some (.ref 1), some (.int x1)] [.int s0] (lkM k3 K G I J r0 a0 a1 a2 a3 a4 a6 r1 R) Q =
    (True ∧ Q (some (.int s0)) (lkM k3 K G I J r0 a0 a1 a2 a3 a4 a6 r1 R)) :=
  (sm_blk X 95 18 (tt_lin 95 (by decide)) rfl rfl _ _ _ _).trans rfl
theorem lk_95 (h : lk_in (lkM k3 K G I J r0 a0 a1 a2 a3 a4 a6 r1 R) x1) (hQ : Q (some (.int (I 4 x1.toNatClampNeg))) (lkM k3 K G I J r0 a0 a1 a2 a3 a4 a6 r1 R)) : sm_wp X 95 0 [some (.ref 1), some (.int x1)] [] (lkM k3 K G I J r0 a0 a1 a2 a3 a4 a6 r1 R) Q := by
  rw [lk_95a]
  refine lk_90 (fun _ => ?_) (fun z => absurd h z)
  show sm_wp X 95 5 [some (.ref 1), some (.int x1)] [.int 1] (lkM k3 K G I J r0 a0 a1 a2 a3 a4 a6 r1 R) Q
  rw [lk_95b, if_neg (by decide), lk_95c]
  exact ⟨lk_vp h, trivial, hQ⟩
set_option maxRecDepth 100000 in
theorem lk_98a : sm_wp X 98 0 [some (.ref 1), some (.int x1)] [] (lkM k3 K G I J r0 a0 a1 a2 a3 a4 a6 r1 R) Q =
    (sm_wp X 90 0 [some (.ref 1), some (.int x1)] [] (lkM k3 K G I J r0 a0 a1 a2 a3 a4 a6 r1 R) (fun v M => sm_wp X 98 5 [some (.ref 1), some (.int x1)] (v.toList ++ []) M Q)) :=
  (sm_blk X 98 0 (tt_lin 98 (by decide)) rfl rfl _ _ _ _).trans rfl
set_option maxRecDepth 100000 in
theorem lk_98b : sm_wp X 98 5 [some (.ref 1), some (.int x1)] [.int 1] (lkM k3 K G I J r0 a0 a1 a2 a3 a4 a6 r1 R) Q =
    (if (1 : Int32) = 0 then sm_wp X 98 17 [some (.ref 1), some (.int x1)] [] (lkM k3 K G I J r0 a0 a1 a2 a3 a4 a6 r1 R) Q else (vp_in x1 12 ∧ (sm_wp X 98 18 [some (.ref 1), some (.int x1)] [.int (I 5 (x1.toNatClampNeg))] (lkM k3 K G I J r0 a0 a1 a2 a3 a4 a6 r1 R) Q))) :=
  (sm_blk X 98 5 (tt_lin 98 (by decide)) rfl rfl _ _ _ _).trans rfl
set_option maxRecDepth 100000 in
theorem lk_98c {s0 : Int32} : sm_wp X 98 18 [some (.ref 1), some (.int x1)] [.int s0] (lkM k3 K G I J r0 a0 a1 a2 a3 a4 a6 r1 R) Q =
    (True ∧ Q (some (.int s0)) (lkM k3 K G I J r0 a0 a1 a2 a3 a4 a6 r1 R)) :=
  (sm_blk X 98 18 (tt_lin 98 (by decide)) rfl rfl _ _ _ _).trans rfl
theorem lk_98 (h : lk_in (lkM k3 K G I J r0 a0 a1 a2 a3 a4 a6 r1 R) x1) (hQ : Q (some (.int (I 5 x1.toNatClampNeg))) (lkM k3 K G I J r0 a0 a1 a2 a3 a4 a6 r1 R)) : sm_wp X 98 0 [some (.ref 1), some (.int x1)] [] (lkM k3 K G I J r0 a0 a1 a2 a3 a4 a6 r1 R) Q := by
  rw [lk_98a]
  refine lk_90 (fun _ => ?_) (fun z => absurd h z)
  show sm_wp X 98 5 [some (.ref 1), some (.int x1)] [.int 1] (lkM k3 K G I J r0 a0 a1 a2 a3 a4 a6 r1 R) Q
  rw [lk_98b, if_neg (by decide), lk_98c]
  exact ⟨lk_vp h, trivial, hQ⟩
end LKR
theorem lk_r117 {X : (Nat → Int32) × Nat} {M : sm_M} {x : Int32} (h : sm_shp M = true) (hi : lk_in M x) : ∃ n, sm_run X n 117 0 (sm_en 117 [.ref 1, .int x]) [] M = some (some (.int (M.2.2.1 2 x.toNatClampNeg)), M) := by
  obtain ⟨k3, K, G, I, J, r0, a0, a1, a2, a3, a4, a6, r1, R, rfl⟩ := lk_opn h
  obtain ⟨n, v, M', e, rfl, rfl⟩ := lk_117 (X := X) (Q := fun v M' => v = some (.int (I 2 x.toNatClampNeg)) ∧ M' = lkM k3 K G I J r0 a0 a1 a2 a3 a4 a6 r1 R) hi ⟨rfl, rfl⟩
  exact ⟨n, e⟩
theorem lk_r95 {X : (Nat → Int32) × Nat} {M : sm_M} {x : Int32} (h : sm_shp M = true) (hi : lk_in M x) : ∃ n, sm_run X n 95 0 (sm_en 95 [.ref 1, .int x]) [] M = some (some (.int (M.2.2.1 4 x.toNatClampNeg)), M) := by
  obtain ⟨k3, K, G, I, J, r0, a0, a1, a2, a3, a4, a6, r1, R, rfl⟩ := lk_opn h
  obtain ⟨n, v, M', e, rfl, rfl⟩ := lk_95 (X := X) (Q := fun v M' => v = some (.int (I 4 x.toNatClampNeg)) ∧ M' = lkM k3 K G I J r0 a0 a1 a2 a3 a4 a6 r1 R) hi ⟨rfl, rfl⟩
  exact ⟨n, e⟩
theorem lk_r98 {X : (Nat → Int32) × Nat} {M : sm_M} {x : Int32} (h : sm_shp M = true) (hi : lk_in M x) : ∃ n, sm_run X n 98 0 (sm_en 98 [.ref 1, .int x]) [] M = some (some (.int (M.2.2.1 5 x.toNatClampNeg)), M) := by
  obtain ⟨k3, K, G, I, J, r0, a0, a1, a2, a3, a4, a6, r1, R, rfl⟩ := lk_opn h
  obtain ⟨n, v, M', e, rfl, rfl⟩ := lk_98 (X := X) (Q := fun v M' => v = some (.int (I 5 x.toNatClampNeg)) ∧ M' = lkM k3 K G I J r0 a0 a1 a2 a3 a4 a6 r1 R) hi ⟨rfl, rfl⟩
  exact ⟨n, e⟩
theorem lk_r90 {X : (Nat → Int32) × Nat} {M : sm_M} {x : Int32} (h : sm_shp M = true) : ∃ n k, sm_run X n 90 0 (sm_en 90 [.ref 1, .int x]) [] M = some (some (.int k), M) ∧ ((lk_in M x ∧ k = 1) ∨ (¬ lk_in M x ∧ k = 0)) := by
  obtain ⟨k3, K, G, I, J, r0, a0, a1, a2, a3, a4, a6, r1, R, rfl⟩ := lk_opn h
  obtain ⟨n, v, M', e, k, rfl, rfl, hk⟩ := lk_90 (X := X) (x1 := x) (Q := fun v M' => ∃ k, v = some (.int k) ∧ M' = lkM k3 K G I J r0 a0 a1 a2 a3 a4 a6 r1 R ∧ ((lk_in (lkM k3 K G I J r0 a0 a1 a2 a3 a4 a6 r1 R) x ∧ k = 1) ∨ (¬ lk_in (lkM k3 K G I J r0 a0 a1 a2 a3 a4 a6 r1 R) x ∧ k = 0))) (fun z => ⟨1, rfl, rfl, Or.inl ⟨z, rfl⟩⟩) (fun z => ⟨0, rfl, rfl, Or.inr ⟨z, rfl⟩⟩)
  exact ⟨n, k, e, hk⟩
end
section
/-! A throw whose constructor hands its text on by a number of its own (JDK 17's NoSuchElementException: 13). The law follows the library's proof for the number 7. -/
def lk_oa (own : String) (ic : Nat) (X : String) (ix : Nat) (rx : ByteArray) (Y : String) (names : List String) : List Cond :=
  Bundle.throwableAtoms ++ Bundle.throwableSAtoms ++ (Bundle.passSAtoms X Y ix rx ++ Bundle.chainSAtoms Y names) ++
  [.methodLink own ic (Bundle.initS X), .instantiable X 6, .castable X X, .selects X Bundle.tFill0 Bundle.tFill0, .selects X Bundle.tFill Bundle.tFill,
   .lays X Bundle.tN "cause" "Ljava/lang/Throwable;", .lays X Bundle.tN "stackTrace" Bundle.steD, .lays X Bundle.tN "suppressedExceptions" Bundle.listD, .lays X Bundle.tN "detailMessage" "Ljava/lang/String;",
   .isRef (.static Bundle.tN "UNASSIGNED_STACK" Bundle.steD), .isRef (.static Bundle.tN "SUPPRESSED_SENTINEL" Bundle.listD),
   .fieldLink Bundle.tN 198 Bundle.tN "backtrace" "Ljava/lang/Object;", .lays Bundle.tN Bundle.tN "backtrace" "Ljava/lang/Object;", .lays X Bundle.tN "backtrace" "Ljava/lang/Object;"]
section LKT
variable {p : Program} {l : Launch} {e : Env} {R : Room} {s : State} {m₀ : MethodId} {args : Array Value} {below : List Frame} {meth : Method} {c : Code} {W : State} {locs : List Loc} {cells slots : Nat}
set_option maxHeartbeats 1000000 in
theorem lk_ctor (X : Stand p l e R s m₀ args below meth c W locs cells slots) (hexec : p.tables.exec = Jvm.exec) (htr : e.platform.stackTraces = false) {own cls Y9 : String} {names : List String} {ic ix : Nat} {rx : ByteArray} (x0 : decode rx 0 = .ok (.aload_n 0, 1)) (x1 : decode rx 1 = .ok (.aload_n 1, 1)) (x2 : decode rx 2 = .ok (.invokespecial ix, 3)) (x5 : decode rx 5 = .ok (.return_, 1))
    (hown : s.vm.findClass own = some m₀.cls) (hcls : Bundle.fit cls = true) (hY9 : Bundle.fit Y9 = true) (hnames : ∀ n ∈ names, Bundle.fit n = true)
    (h : ∀ a ∈ lk_oa own ic cls ix rx Y9 names, a.before args s = true)
    (hlocs : ∀ x ∈ locs, ∀ cell, s.heap[x.base]? = some cell → cell.vm.isStatics = false)
    {a : Addr} {cX : ClassId} {kX : Class} (hfoundX : s.vm.findClass cls = some cX) (hkX : s.vm.classes[cX]? = some kX) (hcell : W.heap[a]? = some (freshCell cX kX)) (hnew : s.heap.size ≤ a)
    {msg : Value} (hmsg : msg.isRef = true)
    {g : JFrame} (hg : g.method = m₀) (hsize : g.locals.size = c.maxLocals) (hlocked : g.locked = none) (hentered : g.entered = []) {rest : List Value} (hstack : g.stack = msg :: .ref a :: .ref a :: rest)
    (hd6 : decode c.code g.pc = .ok (.invokespecial ic, 3)) (hd9 : decode c.code (g.pc + 3) = .ok (.athrow, 1)) (hout : ∀ x ∈ c.exceptionTable.toList, covers x (g.pc + 3) = false)
    (hRframes : names.length + 4 < R.frames) (hRlocals : 2 * g.monitorRoom + ((Value.ref a :: rest).map fun v => v.category).sum + (13 * (names.length + 2) + 42) ≤ R.locals) (hlocks : meth.locks = false := by first | assumption | exact BodyLoose.notSynchronized (by assumption) | exact Body.notSynchronized (by assumption)) :
    ∃ U : State, Steps p.tables e below (W.setTop g) U ∧ U.status = .running ∧ Ended U below (.threw a) ∧ s.WarmedH U.vm ∧ s.sameButNew ({ U with vm := s.vm } : State) locs cells slots ∧
      ∃ ce, U.heap[a]? = some ce ∧ ce.vm = .none ∧ s.vm.findClass cls = some ce.cls := by
  have howns : e.platform.frameOwnsMonitors = true := by rw [X.admits.platform]
  have hfin : e.platform.finalization = false := by rw [X.admits.platform]
  have hpl : e.platform.magicAccessors = ({} : Platform).magicAccessors := by rw [X.admits.platform]
  have a' : ∀ x, x ∈ lk_oa own ic cls ix rx Y9 names → x.holds args s none s [] = true := fun x hx => h x hx
  obtain ⟨T, Z0, L, -, Y⟩ := ThrowableC.of_atoms (args := args) howns hfin hpl (fun x hx => h x (by simp [lk_oa, hx]))
  obtain ⟨Z, M, LZ, LM, hnZ⟩ := Init0T.ofS_atoms (args := args) hpl L Y (fun x hx => h x (by simp [lk_oa, hx]))
  obtain ⟨P1, LP, hP1m, hsY⟩ := PassC.ofS_atoms (args := args) (s := s) hpl (X := cls) (Y := Y9) (Bundle.fit_spec hcls).1 (Bundle.fit_spec hY9).2 x0 x1 x2 x5 (fun x hx => h x (by simp [lk_oa, hx]))
  obtain ⟨P2, Qs, hlen2, L2, hL2, hm2, hsup2, hpass2⟩ := Bundle.chainS (args := args) hpl hnZ names Y9 hY9 hnames (fun x hx => h x (by simp [lk_oa, hx]))
  have L1 := LP
  have hlink1 : P1.sup = P2.m := Option.some.inj (hsY.symm.trans hm2)
  have hfound : s.vm.findClass cls = some P1.m.cls := findClass_of_methodNamed hP1m
  cases Option.some.inj (hfoundX.symm.trans hfound)
  obtain ⟨c1, kX', hc1, hk, hord, -, -, hn6⟩ := Cond.instantiable_spec (a' (.instantiable cls 6) (by simp [lk_oa]))
  cases Option.some.inj (hc1.symm.trans hfound)
  cases Option.some.inj (hkX.symm.trans hk)
  have hsel0 : selectMethod e.platform s.vm P1.m.cls T.fill0 = .method T.fill0 := by
    obtain ⟨c2, r2, m2, q1, q2, q3, q4, -⟩ := Cond.selects_spec (a' (.selects cls Bundle.tFill0 Bundle.tFill0) (by simp [lk_oa]))
    cases Option.some.inj (q1.symm.trans hfound)
    cases Option.some.inj (q2.symm.trans (State.methodFound?_of_named Y.fill0 (by decide)))
    cases Option.some.inj (q3.symm.trans Y.fill0)
    rw [Launch.admits_selectMethod X.admits]; exact q4
  have hselF : selectMethod e.platform s.vm P1.m.cls T.fill = .method T.fill := by
    obtain ⟨c2, r2, m2, q1, q2, q3, q4, -⟩ := Cond.selects_spec (a' (.selects cls Bundle.tFill Bundle.tFill) (by simp [lk_oa]))
    cases Option.some.inj (q1.symm.trans hfound)
    cases Option.some.inj (q2.symm.trans (State.methodFound?_of_named Y.fill (by decide)))
    cases Option.some.inj (q3.symm.trans Y.fill)
    rw [Launch.admits_selectMethod X.admits]; exact q4
  obtain ⟨cellS0, hcS0, hiss⟩ := Y.statics
  obtain ⟨u0, hu0⟩ := Cond.staticRefV Y.unassigned L.unassignedStatic L.statics hcS0 hiss (a' (.isRef (.static Bundle.tN "UNASSIGNED_STACK" Bundle.steD)) (by simp [lk_oa]))
  obtain ⟨sen, hsen⟩ := Cond.staticRefV Y.sentinel L.sentinelStatic L.statics hcS0 hiss (a' (.isRef (.static Bundle.tN "SUPPRESSED_SENTINEL" Bundle.listD)) (by simp [lk_oa]))
  obtain ⟨ci198, i198, fB, hk198, hg198, ha198, hsB, -, hnB, htB, hffB⟩ := Cond.ownField (t := .object "java/lang/Object") Y.found L.cls (by decide +kernel) (a' (.fieldLink Bundle.tN 198 Bundle.tN "backtrace" "Ljava/lang/Object;") (by simp [lk_oa])) (a' (.lays Bundle.tN Bundle.tN "backtrace" "Ljava/lang/Object;") (by simp [lk_oa])) e.platform hpl
  obtain ⟨cellS, hcS', heS, -, hkeep⟩ := X.same.2.2.2.2.2 T.aS cellS0 hcS0
  have hcellS : W.heap[T.aS]? = some cellS := hcS'
  have hout' : ∀ i, (⟨T.aS, i⟩ : Loc) ∉ locs := fun i hmem => by
    have := hlocs _ hmem cellS0 hcS0
    rw [hiss] at this; cases this
  have hknownS : cellS.vm ≠ .unknown := by
    rw [heS]; intro hu
    rw [show cellS0.vm = .unknown from hu] at hiss
    cases hiss
  have hneS : T.aS ≠ a := Nat.ne_of_lt (Nat.lt_of_lt_of_le (Array.getElem?_eq_some_iff.mp hcS0).1 hnew)
  obtain ⟨iM, hffM⟩ := Y.msg
  obtain ⟨tyC, dC, hdC, hdnC⟩ := Cond.laysAt hfound hk Y.cause (a' (.lays cls Bundle.tN "cause" "Ljava/lang/Throwable;") (by simp [lk_oa]))
  obtain ⟨tyS, dS, hdS, hdnS⟩ := Cond.laysAt hfound hk Y.stack (a' (.lays cls Bundle.tN "stackTrace" Bundle.steD) (by simp [lk_oa]))
  obtain ⟨tyP, dP, hdP, hdnP⟩ := Cond.laysAt hfound hk Y.supp (a' (.lays cls Bundle.tN "suppressedExceptions" Bundle.listD) (by simp [lk_oa]))
  obtain ⟨tyM, dM, hdM, hdnM⟩ := Cond.laysAt hfound hk hffM (a' (.lays cls Bundle.tN "detailMessage" "Ljava/lang/String;") (by simp [lk_oa]))
  obtain ⟨tyB, dB, hdB, hdnB⟩ := Cond.laysAt hfound hk hffB (a' (.lays cls Bundle.tN "backtrace" "Ljava/lang/Object;") (by simp [lk_oa]))
  have bC := Cond.laysApart hdB hdC hdnB hdnC (by rw [hnB, Y.causeName]; decide)
  have bS := Cond.laysApart hdB hdS hdnB hdnS (by rw [hnB, Y.stackName]; decide)
  have bP := Cond.laysApart hdB hdP hdnB hdnP (by rw [hnB, Y.suppName]; decide)
  have hskip : SkipFacts T e.platform s (fun u => u) u0 ((preparedCellV T.toThrowableT (freshCell P1.m.cls kX) a u0 sen).withEntry W.cur) :=
    ⟨{ ci198 := ci198, i198 := i198, fBack := fB }, ⟨hk198, hg198, ha198, hsB⟩, by
      have := fresh_default (c := P1.m.cls) tyB
      rw [htB] at this
      simpa [preparedCellV, Cell.setSlot, Cell.withEntry, Array.getElem?_setIfInBounds, bC, bS, bP, bC.symm, bS.symm, bP.symm, defaultValue] using this, fun _ _ => rfl⟩
  obtain ⟨tm, methC, cdC, kC, vm₁, hnC, -, -, -, -, -, -, -, hW₁, st1⟩ := Steps.initColdS (tb := p.tables) (e := e) (below := below) (s := s) (U := W) X.here hexec X.warmed hpl hown (t := Bundle.initS cls) rfl rfl (Bundle.fit_spec hcls).2
    (a' (.methodLink own ic (Bundle.initS cls)) (by simp [lk_oa])) (h (.instanceMethod (Bundle.initS cls)) (by simp [lk_oa, Bundle.passSAtoms])) (bytes := rx) (maxL := 2) (h (.code (Bundle.initS cls) rx 2 none) (by simp [lk_oa, Bundle.passSAtoms]))
    (f := g) hg (a := a) (msg := msg) (rest := .ref a :: rest) hstack hd6
  cases Option.some.inj (hnC.symm.trans hP1m)
  have X₁ := X.noted hW₁
  obtain ⟨vm₂, X₂, st2⟩ := X₁.ctorMessageOffV hexec (g := { g with stack := .ref a :: rest }) hg hsize T L Z LZ M LM (P1 :: P2 :: Qs)
    (fun P hP => by
      rcases List.mem_cons.mp hP with rfl | hP
      · exact L1
      · rcases List.mem_cons.mp hP with rfl | hP
        · exact L2
        · exact hL2 P hP) ⟨hlink1, hsup2, hpass2⟩ (u0 := u0) (sen := sen) (self := a) hmsg (cell := freshCell P1.m.cls kX) (cellS := cellS)
    hcell (fun _ => by simp) (by simp) rfl rfl hsel0 hselF hcellS hneS hknownS (by rw [hkeep _ (hout' _)]; exact hu0) (by rw [hkeep _ (hout' _)]; exact hsen)
    (Takes.of_laid hk hord tyC (by rw [Y.causeType]; rfl)) (Takes.of_laid hk hord tyS (by rw [Y.stackType]; exact fits_refV_array _ u0)) (Takes.of_laid hk hord tyP (by rw [Y.suppType]; exact fits_refV_object _ sen))
    (Takes.of_laid hk hord tyM (by rw [Y.msgType]; exact fits_refV_object _ ⟨msg, hmsg⟩)) Y.objLocals hskip htr [] hd6
    (by simp only [List.length_cons, hlen2]; omega) (by simp only [List.length_cons, hlen2]; exact hRlocals)
  obtain ⟨hwalk, hrun, hended, hWU, hsame⟩ := X₂.athrowLeaves hexec (g := { g with stack := .ref a :: rest, pc := g.pc + 3 }) hg hlocked hentered hout (a := a) (rest := rest) rfl hd9
  have hlt : a < ((W.setVm vm₁).setVm vm₂).heap.size := (Array.getElem?_eq_some_iff.mp hcell).1
  have hU := heapAt_setCell_self (s := (W.setVm vm₁).setVm vm₂) (plainBareV T.toThrowableT (freshCell P1.m.cls kX) a u0 sen msg) hlt
  refine ⟨_, st1 _ (fun acts => ?_), hrun, hended, hWU, hsame.weaken (fun y hy hlt' => ?_) (Nat.le_refl _) (Nat.le_refl _), _, hU, rfl, hfound⟩
  · rw [doInvoke_state]
    exact st2 _ hwalk
  · rcases List.mem_append.mp hy with h1 | h1
    · exact h1
    · exfalso
      have hb : y.base = a := by
        simp only [List.mem_cons, List.not_mem_nil, or_false] at h1
        rcases h1 with rfl | rfl | rfl | rfl | rfl <;> rfl
      rw [hb] at hlt'
      exact Nat.not_lt.mpr hnew hlt'
end LKT
def lk_oat (own : String) (ic : Nat) (X : String) (ix : Nat) (rx : ByteArray) (Y : String) (names : List String) : List Cond := (lk_oa own ic X ix rx Y names).filter vx_no
section LKU
variable {p : Program} {l : Launch} {e : Env} {R : Room} {s : State} {m : MethodId} {args : Array Value} {below : List Frame} {meth : Method} {c : Code} {H : Heap} {locs : List Loc} {cells slots : Nat} {Q : State → Prop}
variable {free : Addr → Prop} {ls : Array Slot} {rest : List Value}
variable {Qc : Array Value → State → Outcome → State → Prop} {XC : String → State → State → Prop}
theorem lk_throwW {cc : ByteArray} {pc : Nat} (hexec : p.tables.exec = Jvm.exec) (hb : c.code = cc) (hl : l.stackTraces = false) {own cls Y9 text : String} {names : List String} {ik is ic ix mc ms sa : Nat} {rx : ByteArray} (x0 : decode rx 0 = .ok (.aload_n 0, 1)) (x1 : decode rx 1 = .ok (.aload_n 1, 1)) (x2 : decode rx 2 = .ok (.invokespecial ix, 3)) (x5 : decode rx 5 = .ok (.return_, 1)) {A : Nat → Prop}
    (hown : s.vm.findClass own = some m.cls) (hcls : Bundle.fit cls = true) (hY9 : Bundle.fit Y9 = true) (hnames : ∀ n ∈ names, Bundle.fit n = true)
    (hk : (Cond.classLink own ik cls).before args s = true) (hini : (Cond.initialized cls).before args s = true) (hstr : vk_R own is text sa s) (hat : ∀ w ∈ lk_oat own ic cls ix rx Y9 names, w.before args s = true)
    (hgood : ∀ w ∈ Cond.classLink own ik cls :: Cond.initialized cls :: lk_oat own ic cls ix rx Y9 names, vx_ot w = true)
    (hU : vx_Zq Bundle.tN "UNASSIGNED_STACK" Bundle.steD A s s.heap) (hN : vx_Zq Bundle.tN "SUPPRESSED_SENTINEL" Bundle.listD A s s.heap) (hS : va_S A s.heap H locs) (hsize : ls.size = c.maxLocals)
    (d0 : decode cc pc = .ok (.new ik, 3)) (d3 : decode cc (pc + 3) = .ok (.dup, 1)) (d4 : decode cc (pc + 4) = .ok (.ldc_w is, 3)) (d7 : decode cc (pc + 7) = .ok (.invokespecial ic, 3)) (d10 : decode cc (pc + 10) = .ok (.athrow, 1))
    (hout : ∀ x ∈ c.exceptionTable.toList, covers x (pc + 10) = false)
    (hRframes : names.length + 4 < R.frames) (hRlocals : (rest.map fun v => v.category).sum + (13 * (names.length + 2) + 43) ≤ R.locals) (hRcells : cells + 1 ≤ R.cells) (hRslots : slots + 6 ≤ R.slots) (hlocks : meth.locks = false)
    (hx : ∀ t : State, s.vm.Alike t.vm → H.size ≤ t.heap.size → (∀ q : Nat, q < H.size → t.heap[q]? = H[q]?) → XC cls s t)
    (hf : ∀ z ∈ locs, free z.base) (hc : cells + 1 ≤ mc) (hs : slots + 6 ≤ ms) :
    W p l e R s m args below meth c H locs cells slots (vx_MQ below Qc XC args s mc ms free) (F0 m pc ls rest) := by
  intro T hT X
  have htr : e.platform.stackTraces = false := (show e.platform.stackTraces = l.stackTraces by rw [X.admits.platform]).trans hl
  have Y := vx_rebase X (R' := { frames := R.frames, locals := R.locals, cells := 1, slots := 6 }) (Nat.le_refl _) (Nat.le_refl _) hRcells hRslots
  obtain ⟨s', hA⟩ : ∃ z, z = (T.setVm s.vm).setFrames (.invoking m args :: below) := ⟨_, rfl⟩
  rw [← hA] at Y
  have hvm : s'.vm = s.vm := by rw [hA]; rfl
  have hhp : s'.heap = H := by rw [hA]; exact hT
  have hW0 : s.WarmedH s'.vm := by rw [hvm]; exact State.WarmedH.refl s
  have hat' : ∀ w ∈ lk_oat own ic cls ix rx Y9 names, w.before args s' = true := fun w hw => vx_ot_at hW0 hvm.symm (hgood w (List.mem_cons_of_mem _ (List.mem_cons_of_mem _ hw))) (hat w hw)
  have hk' : (Cond.classLink own ik cls).before args s' = true := vx_ot_at hW0 hvm.symm (hgood _ List.mem_cons_self) hk
  have hini' : (Cond.initialized cls).before args s' = true := vx_ot_at hW0 hvm.symm (hgood _ (List.mem_cons_of_mem _ List.mem_cons_self)) hini
  have hU' : vx_Zq Bundle.tN "UNASSIGNED_STACK" Bundle.steD A s' s'.heap := by rw [hhp]; exact vx_Zq.moved hW0.alike (hU.kept hS.2.1)
  have hN' : vx_Zq Bundle.tN "SUPPRESSED_SENTINEL" Bundle.listD A s' s'.heap := by rw [hhp]; exact vx_Zq.moved hW0.alike (hN.kept hS.2.1)
  have h : ∀ w ∈ lk_oa own ic cls ix rx Y9 names, w.before args s' = true := vx_own hat' (vx_isRefq hU'.1) (vx_isRefq hN'.1) hU'.2.word hN'.2.word
  have hown' : s'.vm.findClass own = some m.cls := by rw [hvm]; exact hown
  have hins : (Cond.instantiable cls 6).before args s' = true := h _ (by simp [lk_oa])
  obtain ⟨vm₁, cX, kX, hfX, hkX, -, -, X₁, st1⟩ := Y.newCold hexec (own := own) (C := cls) (index := ik) (n := 6) hown' hk' hins hini'
    (g := F0 m pc ls rest) rfl (by rw [hb]; exact d0) (Nat.le_refl _) (Nat.le_refl _)
  generalize hT1 : (T.setVm vm₁).pushCell { cls := cX, slots := kX.instanceTypes.map defaultValue, vm := .none } = T1 at X₁ st1
  have hcat : (Value.ref T.heap.size).category = 1 := rfl
  have hcellA : T1.heap[T.heap.size]? = some (freshCell cX kX) := by rw [← hT1]; exact State.heap_pushCell_size _ _
  have d3' : decode c.code (pc + 3) = .ok (.dup, 1) := by rw [hb]; exact d3
  have d4' : decode c.code (pc + 4) = .ok (.ldc_w is, 3) := by rw [hb]; exact d4
  have hstr' : vk_R own is text sa s' := vk_R.warm hW0 hstr
  obtain ⟨U, hsteps, hrun, hend, hW, hsame, ce, hce, hOv, hOc⟩ := lk_ctor X₁ hexec htr x0 x1 x2 x5 (own := own) (cls := cls) (names := names) (ic := ic) hown' hcls hY9 hnames h (fun x hx => nomatch hx) hfX hkX hcellA (by rw [hhp, hT]; exact Nat.le_refl _) (msg := .ref sa) rfl
    (g := { method := m, pc := pc + 7, locals := ls, stack := .ref sa :: .ref T.heap.size :: .ref T.heap.size :: rest, locked := none }) rfl hsize rfl rfl (rest := rest) rfl
    (by rw [hb]; exact d7) (by rw [hb]; exact d10) hout hRframes (by simp only [List.map_cons, List.sum_cons, hcat]; omega) hlocks
  obtain ⟨f1, f2⟩ := vx_frame hsame
  rw [hhp] at f1 f2
  have hWs : s.WarmedH U.vm := State.WarmedH.trans hW0 hW
  have hcl : s.vm.findClass cls = some ce.cls := by
    have h9 := hOc
    rw [hvm] at h9
    exact h9
  have hall : s.sameButNew ({ U with vm := s.vm } : State) locs mc ms := by
    subst hA
    obtain ⟨e1, e2⟩ := hsame
    rw [State.setFrames_setFrames] at e1
    have h2 : (T.setVm s.vm).sameButNew ({ U with vm := s.vm } : State) [] (0 + 1) (0 + 6) := ⟨e1, e2⟩
    have h3 := X.same.trans h2
    rw [List.append_nil] at h3
    exact h3.mono hc hs
  refine ⟨U, ?_, .threw T.heap.size, hrun, hend, Or.inr ⟨T.heap.size, rfl, cls, ce, locs, hx U hWs.alike f1 (fun q hq => f2 q hq (fun z hz => nomatch hz)), hce, hOv, hcl, hWs, hall, hf⟩⟩
  refine st1 _ ?_
  show Steps p.tables e below (T1.setTop { method := m, pc := pc + 3, locals := ls, stack := .ref T.heap.size :: rest, locked := none }) _
  jvm_step X₁.here [X₁.here.top, hexec, d3', Value.category]
  exact X₁.ldcStringW hexec (own := own) (text := text) (index := is) (a := sa) hown' hstr'.1 hstr'.2
    (g := { method := m, pc := pc + 4, locals := ls, stack := .ref T.heap.size :: .ref T.heap.size :: rest, locked := none }) rfl d4' _ hsteps
end LKU
end
section
/-! PowersHouse.look: it returns or throws. -/
def lkE1 : String := "java/lang/IndexOutOfBoundsException"
def lkE2 : String := "java/util/NoSuchElementException"
theorem sn_W_ext {cA : Nat → ClassId} {ad ad' : Nat → Nat} {b sa : Nat} {M : sm_M} (h : sn_ok M) (he : ∀ k, k < M.1.length → ad' k = ad k) : sn_W cA ad' b sa M = sn_W cA ad b sa M := by
  unfold sn_W
  refine List.map_congr_left fun k hk => ?_
  have hk : k < M.1.length := List.mem_range.mp hk
  refine Prod.ext (he k hk) ?_
  show sn_e cA ad' b sa M k (sm_kd M.1 k) = sn_e cA ad b sa M k (sm_kd M.1 k)
  unfold sn_e
  cases Nat.ble 100 (sm_kd M.1 k).1 with
  | true => rfl
  | false =>
    simp only [cond_false]
    congr 2
    refine List.map_congr_left fun j _ => ?_
    exact cv_ext (sn_fv_ok h _ k j) he
def lk_ans (M : sm_M) (l w r : Int32) : Prop := lk_in M l ∧ ((w = 0 ∧ r = M.2.2.1 2 l.toNatClampNeg) ∨ (w = 1 ∧ r = M.2.2.1 4 l.toNatClampNeg) ∨ (w = 2 ∧ r = M.2.2.1 5 l.toNatClampNeg))
def lk_thr (M : sm_M) (l w : Int32) (E : String) : Prop := (¬ lk_in M l ∧ E = lkE1) ∨ (lk_in M l ∧ w ≠ 0 ∧ w ≠ 1 ∧ w ≠ 2 ∧ E = lkE2)
/-- words that a call may not carry as they are -/
def lkB : List Cond := [.castable lkE1 lkE1, .castable lkE2 lkE2, .declares (Bundle.initS "java/lang/RuntimeException"), .declares (Bundle.initS "java/lang/Exception"), .declares (Bundle.initS Bundle.tN)]
theorem lkB_ot : ∀ w ∈ lkB, w.onTables = true := by
  intro w hw
  simp only [lkB, List.mem_cons, List.not_mem_nil, or_false] at hw
  rcases hw with rfl | rfl | rfl | rfl | rfl <;> rfl
theorem lkB_next {s U : State} (hv : U.vm = s.vm ∨ s.WarmedH U.vm) (h : ∀ w ∈ lkB, va_Nw w s) : ∀ w ∈ lkB, va_Nw w U := by
  intro w hw
  have h1 := h w hw
  rcases hv with e | e
  · exact va_Nw.same (lkB_ot w hw) e.symm h1
  · simp only [lkB, List.mem_cons, List.not_mem_nil, or_false] at hw
    rcases hw with rfl | rfl | rfl | rfl | rfl
    · exact va_Nw.warmC e h1
    · exact va_Nw.warmC e h1
    · exact va_Nw.warmD e h1
    · exact va_Nw.warmD e h1
    · exact va_Nw.warmD e h1
/-- what the throws want besides -/
def lk_EX (t1 t2 : Nat) (A : Nat → Prop) (U : State) : Prop :=
  vx_Zq Bundle.tN "UNASSIGNED_STACK" Bundle.steD A U U.heap ∧ vx_Zq Bundle.tN "SUPPRESSED_SENTINEL" Bundle.listD A U U.heap ∧ vk_R "PowersHouse" 321 "no such land" t1 U ∧ vk_R "PowersHouse" 331 "no such what" t2 U ∧ va_Nc lkE2 lkE1 U ∧ ∀ w ∈ lkB, va_Nw w U
theorem lk_EX.next {t1 t2 : Nat} {A A' : Nat → Prop} {s U : State} (h : lk_EX t1 t2 A s) (hA : ∀ q, A' q → A q) (hh : ∀ q : Nat, q < s.heap.size → ¬ A q → U.heap[q]? = s.heap[q]?) (hv : U.vm = s.vm ∨ s.WarmedH U.vm) : lk_EX t1 t2 A' U := by
  obtain ⟨h1, h2, h3, h4, h5, h6⟩ := h
  have hal : s.vm.Alike U.vm := by
    rcases hv with e | e
    · rw [e]; exact Vm.Alike.refl _
    · exact e.alike
  refine ⟨((h1.moved hal).kept hh).narrow hA, ((h2.moved hal).kept hh).narrow hA, ?_, ?_, h5.moved hal, lkB_next hv h6⟩
  · rcases hv with e | e
    · exact h3.same e
    · exact h3.warm e
  · rcases hv with e | e
    · exact h4.same e
    · exact h4.warm e
/-- the law's own part left out -/
abbrev zs0 (sa sv : Nat) : Nat → (Nat → Prop) → State → Prop := zs sa sv (fun _ _ => False)
theorem lk_ih (l : Launch) (X : (Nat → Int32) × Nat) (D : va_G) (cA : Nat → ClassId) (b sa sv : Nat) : ∀ n, sn_IH l X D cA b sa (zs0 sa sv) n :=
  snd (zs_cl sa sv _) (zs_ldc l X D cA b sa sv _) (zs_prims fun p e R s m args below meth c Q A z0 w0 ad0 n0 pc L M M1 as rest c0 v C => absurd (C.2.2.2.2.2.2.2.2.2.2.1.2.2.2.2.2 rfl) (fun h => h))
theorem lk_in_uw {w : Cond} (h : (decide (w ∈ lw_tbl) && goodWord w) = true) : w ∈ uw := by
  have h := lk_and h
  exact List.mem_filter.mpr ⟨of_decide_eq_true h.1, h.2⟩
theorem lk_all_uw {l : List Cond} (h : l.all (fun w => decide (w ∈ lw_tbl) && goodWord w) = true) : ∀ w ∈ l, w ∈ uw := fun w hw => lk_in_uw (List.all_eq_true.mp h w hw)
theorem lk_c1 : Cond.classLink "PowersHouse" 319 lkE1 ∈ uw := wi_in (p := 1518) (by decide +kernel)
theorem lk_c2 : Cond.classLink "PowersHouse" 329 lkE2 ∈ uw := wi_in (p := 1588) (by decide +kernel)
theorem lk_i1 : Cond.initialized lkE1 ∈ uw := wi_in (p := 142) (by decide +kernel)
theorem lk_i2 : Cond.initialized lkE2 ∈ uw := wi_in (p := 143) (by decide +kernel)
def lkN : List String := ["java/lang/RuntimeException", "java/lang/Exception"]
theorem lk_orB {l : List Cond} (h : l.all (fun w => (decide (w ∈ lw_tbl) && goodWord w) || decide (w ∈ lkB)) = true) : ∀ w ∈ l, w ∈ uw ∨ w ∈ lkB := fun w hw => by
  have h1 := List.all_eq_true.mp h w hw
  rw [Bool.or_eq_true] at h1
  exact h1.imp lk_in_uw of_decide_eq_true
theorem lk_zipB {l : List Cond} (ps : List Nat) (h : (Nat.beq l.length ps.length && (l.zip ps).all (fun e => bif Nat.beq e.2 9999 then decide (e.1 ∈ lkB) else wi e.2 e.1)) = true) : ∀ w ∈ l, w ∈ uw ∨ w ∈ lkB := fun w hw => by
  have h := lk_and h
  obtain ⟨k, hk⟩ := List.getElem?_of_mem hw
  have hkl : k < l.length := (List.getElem?_eq_some_iff.mp hk).1
  have hl : l.length = ps.length := Nat.eq_of_beq_eq_true h.1
  obtain ⟨q, hq⟩ : ∃ q, ps[k]? = some q := ⟨_, List.getElem?_eq_getElem (by rw [← hl]; exact hkl)⟩
  have hz : (w, q) ∈ l.zip ps := List.mem_of_getElem? (i := k) (by rw [List.getElem?_zip_eq_some]; exact ⟨hk, hq⟩)
  have g := List.all_eq_true.mp h.2 _ hz
  cases hb : Nat.beq q 9999 with
  | true => simp only [hb, cond_true] at g; exact Or.inr (of_decide_eq_true g)
  | false => simp only [hb, cond_false] at g; exact Or.inl (wi_in g)
theorem lk_a1 : ∀ w ∈ vx_atS "PowersHouse" 323 lkE1 lkN, w ∈ uw ∨ w ∈ lkB := lk_zipB [139, 1540, 1549, 1552, 1555, 1557, 1541, 1542, 150, 151, 1543, 1548, 1553, 1573, 1530, 1574, 1532, 1575, 1534, 1544, 1546, 1536, 1569, 1570, 1572, 1536, 1560, 1561, 1562, 1563, 9999, 1563, 1564, 1565, 1566, 9999, 1566, 1567, 1568, 1569, 9999, 1559, 1519, 9999, 1527, 1528, 1529, 1531, 1533, 1535, 1539, 1538, 1537] (by decide +kernel)
abbrev lkrx : ByteArray := prog_24_method_4_code
theorem lkrx_0 : decode lkrx 0 = .ok (.aload_n 0, 1) := by decide +kernel
theorem lkrx_1 : decode lkrx 1 = .ok (.aload_n 1, 1) := by decide +kernel
theorem lkrx_2 : decode lkrx 2 = .ok (.invokespecial 13, 3) := by decide +kernel
theorem lkrx_5 : decode lkrx 5 = .ok (.return_, 1) := by decide +kernel
def lkY : String := "java/lang/RuntimeException"
def lkN2 : List String := ["java/lang/Exception"]
theorem lk_a2 : ∀ w ∈ lk_oat "PowersHouse" 333 lkE2 13 lkrx lkY lkN2, w ∈ uw ∨ w ∈ lkB := lk_zipB [139, 1540, 1549, 1552, 1555, 1557, 1541, 1542, 150, 151, 1543, 1548, 1553, 1573, 1530, 1574, 1532, 1575, 1534, 1544, 1546, 1536, 1569, 1570, 1572, 1536, 1599, 1600, 1601, 1563, 9999, 1563, 1564, 1565, 1566, 9999, 1566, 1567, 1568, 1569, 9999, 1598, 1589, 9999, 1591, 1551, 1592, 1593, 1594, 1595, 1539, 1538, 1596] (by decide +kernel)
theorem lk_otu {w : Cond} (h : w ∈ uw ∨ w ∈ lkB) : vx_ot w = true := by
  unfold vx_ot
  rcases h with h | h
  · rw [(List.mem_filter.mp h).2, Bool.or_true]
  · rw [lkB_ot w h, Bool.true_or]
theorem lk_g1 : ∀ w ∈ Cond.classLink "PowersHouse" 319 lkE1 :: Cond.initialized lkE1 :: vx_atS "PowersHouse" 323 lkE1 lkN, vx_ot w = true := by
  intro w hw
  rcases List.mem_cons.mp hw with rfl | hw
  · exact lk_otu (Or.inl lk_c1)
  · rcases List.mem_cons.mp hw with rfl | hw
    · exact lk_otu (Or.inl lk_i1)
    · exact lk_otu (lk_a1 w hw)
theorem lk_g2 : ∀ w ∈ Cond.classLink "PowersHouse" 329 lkE2 :: Cond.initialized lkE2 :: lk_oat "PowersHouse" 333 lkE2 13 lkrx lkY lkN2, vx_ot w = true := by
  intro w hw
  rcases List.mem_cons.mp hw with rfl | hw
  · exact lk_otu (Or.inl lk_c2)
  · rcases List.mem_cons.mp hw with rfl | hw
    · exact lk_otu (Or.inl lk_i2)
    · exact lk_otu (lk_a2 w hw)
theorem lk_fit : ∀ n ∈ lkN, Bundle.fit n = true := by decide +kernel
theorem lk_fitY : Bundle.fit lkY = true := by decide +kernel
theorem lk_fitN : ∀ n ∈ lkN2, Bundle.fit n = true := by decide +kernel
theorem lk_fit1 : Bundle.fit lkE1 = true := by decide +kernel
theorem lk_fit2 : Bundle.fit lkE2 = true := by decide +kernel
theorem lkd_0 : decode (mb 205) 0 = .ok (.aload_n 0, 1) := by decide +kernel
theorem lkd_1 : decode (mb 205) 1 = .ok (.getfield 14, 3) := by decide +kernel
theorem lkd_4 : decode (mb 205) 4 = .ok (.iload_n 1, 1) := by decide +kernel
theorem lkd_5 : decode (mb 205) 5 = .ok (.invokevirtual 127, 3) := by decide +kernel
theorem lkd_8 : decode (mb 205) 8 = .ok (.ifCond .ne 14, 3) := by decide +kernel
theorem lkd_11 : decode (mb 205) 11 = .ok (.new 319, 3) := by decide +kernel
theorem lkd_14 : decode (mb 205) 14 = .ok (.dup, 1) := by decide +kernel
theorem lkd_15 : decode (mb 205) 15 = .ok (.ldc_w 321, 3) := by decide +kernel
theorem lkd_18 : decode (mb 205) 18 = .ok (.invokespecial 323, 3) := by decide +kernel
theorem lkd_21 : decode (mb 205) 21 = .ok (.athrow, 1) := by decide +kernel
theorem lkd_22 : decode (mb 205) 22 = .ok (.iload_n 2, 1) := by decide +kernel
theorem lkd_23 : decode (mb 205) 23 = .ok (.tableswitch 52 0 2 #[25, 34, 43], 25) := by decide +kernel
theorem lkd_48 : decode (mb 205) 48 = .ok (.aload_n 0, 1) := by decide +kernel
theorem lkd_49 : decode (mb 205) 49 = .ok (.getfield 14, 3) := by decide +kernel
theorem lkd_52 : decode (mb 205) 52 = .ok (.iload_n 1, 1) := by decide +kernel
theorem lkd_53 : decode (mb 205) 53 = .ok (.invokevirtual 326, 3) := by decide +kernel
theorem lkd_56 : decode (mb 205) 56 = .ok (.ireturn, 1) := by decide +kernel
theorem lkd_57 : decode (mb 205) 57 = .ok (.aload_n 0, 1) := by decide +kernel
theorem lkd_58 : decode (mb 205) 58 = .ok (.getfield 14, 3) := by decide +kernel
theorem lkd_61 : decode (mb 205) 61 = .ok (.iload_n 1, 1) := by decide +kernel
theorem lkd_62 : decode (mb 205) 62 = .ok (.invokevirtual 145, 3) := by decide +kernel
theorem lkd_65 : decode (mb 205) 65 = .ok (.ireturn, 1) := by decide +kernel
theorem lkd_66 : decode (mb 205) 66 = .ok (.aload_n 0, 1) := by decide +kernel
theorem lkd_67 : decode (mb 205) 67 = .ok (.getfield 14, 3) := by decide +kernel
theorem lkd_70 : decode (mb 205) 70 = .ok (.iload_n 1, 1) := by decide +kernel
theorem lkd_71 : decode (mb 205) 71 = .ok (.invokevirtual 155, 3) := by decide +kernel
theorem lkd_74 : decode (mb 205) 74 = .ok (.ireturn, 1) := by decide +kernel
theorem lkd_75 : decode (mb 205) 75 = .ok (.new 329, 3) := by decide +kernel
theorem lkd_78 : decode (mb 205) 78 = .ok (.dup, 1) := by decide +kernel
theorem lkd_79 : decode (mb 205) 79 = .ok (.ldc_w 331, 3) := by decide +kernel
theorem lkd_82 : decode (mb 205) 82 = .ok (.invokespecial 333, 3) := by decide +kernel
theorem lkd_85 : decode (mb 205) 85 = .ok (.athrow, 1) := by decide +kernel
theorem lk_hf : kf 205 11 0 3 582 14 = true := by decide +kernel
theorem lk_k90 : kc 205 90 1 = true := by decide +kernel
theorem lk_k117 : kc 205 117 1 = true := by decide +kernel
theorem lk_k95 : kc 205 95 1 = true := by decide +kernel
theorem lk_k98 : kc 205 98 1 = true := by decide +kernel
theorem lk_l90 : Cond.methodLink (my 205).cls 127 (my 90) ∈ uw := wi_in (p := 818) (by decide +kernel)
theorem lk_l117 : Cond.methodLink (my 205).cls 326 (my 117) ∈ uw := wi_in (p := 1584) (by decide +kernel)
theorem lk_l95 : Cond.methodLink (my 205).cls 145 (my 95) ∈ uw := wi_in (p := 849) (by decide +kernel)
theorem lk_l98 : Cond.methodLink (my 205).cls 155 (my 98) ∈ uw := wi_in (p := 865) (by decide +kernel)
section LKH
variable {p : Program} {l : Launch} {e : Env} {R : Room} {s : State} {m : MethodId} {args : Array Value} {below : List Frame} {meth : Method} {c : Code} {Q : State → Prop} {D : va_G} {cA : Nat → ClassId} {b sa sv : Nat} {A : Nat → Prop} {z0 w0 : Nat} {ad0 : Nat → Nat} {n0 : Nat} {pc : Nat} {X : (Nat → Int32) × Nat} {L : sm_L} {st : sm_S} {M : sm_M}
/-- a call of one of the Realm's four, from look -/
theorem lk_call (C : sn_C p R s m args meth c D cA A X b (zs0 sa sv) 205) {j ix : Nat} {x r : Int32} (hrun : ∃ n, sm_run X n j 0 (sm_en j [.ref 1, .int x]) [] M = some (some (.int r), M)) (hfc : cz M ≤ z0 + R.cells) (hfs : sz M ≤ w0 + R.slots) (hj : j < 311) (hj5 : j ≠ 205)
    (h1 : sm_kd M.1 1 = (5, 17)) (hd : decode (mb 205) pc = .ok (.invokevirtual ix, 3)) (hkc : kc 205 j 1 = true) (hq : (mq j).1 = 0) (hl : Cond.methodLink (my 205).cls ix (my j) ∈ uw) (hmi : (sm_mi j).1 = 5) (hmi2 : 2 ≤ (sm_mi j).2) (hcl : (cl_at 5).1 = (my j).cls)
    (k : sn_J p l e R s m args below meth c Q D cA b sa A z0 w0 ad0 n0 205 (pc + 3) L [.int r] M) : sn_J p l e R s m args below meth c Q D cA b sa A z0 w0 ad0 n0 205 pc L [.int x, .ref 1] M := by
  obtain ⟨n, hrun⟩ := hrun
  exact sj_call (nn := 2) (cd := 0) (pp := 0) (as := [.ref 1, .int x]) (rest := []) (zs_cl sa sv _) C (lk_ih l X D cA b sa sv n) hrun (Nat.le_refl _) (Nat.le_refl _) hfc hfs (Or.inl hj) hj5 (lkw_all j (by omega) (Or.inl hj)) (cw_all j (by omega)) (by decide) hmi2 rfl hkc
    (Or.inl ⟨rfl, hd, hq, hl, by rw [hmi]; decide, by rw [hmi]; exact hcl, 1, [.int x], rfl, by rw [h1, hmi]; rfl⟩) k
end LKH
end
section
/-! PowersHouse.look's contract. -/
theorem lk_lt {K : List (Nat × Nat)} {n : Nat} {q : Nat × Nat} (h : sm_kd K n = q) (hq : q ≠ (99, 0)) : n < K.length := by
  rcases Nat.lt_or_ge n K.length with g | g
  · exact g
  · rw [sm_kd_out K n g] at h
    exact absurd h.symm hq
theorem lk_no {M : sm_M} {x y r : Int32} {E : String} (h : lk_thr M x y E) (g : lk_ans M x y r) : False := by
  obtain ⟨gi, g⟩ := g
  rcases h with ⟨h, -⟩ | ⟨-, h0, h1, h2, -⟩
  · exact h gi
  · rcases g with ⟨e, -⟩ | ⟨e, -⟩ | ⟨e, -⟩
    · exact h0 e
    · exact h1 e
    · exact h2 e
abbrev lkPc (X : (Nat → Int32) × Nat) (D : va_G) (cA : Nat → ClassId) (b sa sv t1 t2 : Nat) (ad : Nat → Nat) (M : sm_M) (hz : Nat) : State → Prop := fun U => sn_Pc X D cA b sa (zs0 sa sv 205) ad M hz U ∧ lk_EX t1 t2 (va_A (sn_W cA ad b sa M) hz) U
abbrev lkQi (D : va_G) (cA : Nat → ClassId) (b sa : Nat) (ad : Nat → Nat) (M : sm_M) (hz : Nat) (x y : Int32) : Array Value → State → Outcome → State → Prop := va_Qi (fun r (_ : Unit) => lk_ans M x y r) (fun _ t => va_P D cl_all (sn_W cA ad b sa M) t.heap) (va_A (sn_W cA ad b sa M) hz)
abbrev lkXC (D : va_G) (cA : Nat → ClassId) (b sa : Nat) (ad : Nat → Nat) (M : sm_M) (hz : Nat) (x y : Int32) : String → State → State → Prop := vx_X (fun (_ : Unit) => True) (fun E _ t => lk_thr M x y E ∧ va_P D cl_all (sn_W cA ad b sa M) t.heap) (va_A (sn_W cA ad b sa M) hz)
set_option maxRecDepth 100000 in
set_option maxHeartbeats 4000000 in
theorem lk_met {l : Launch} (hl : l.stackTraces = false) {X : (Nat → Int32) × Nat} {D : va_G} {cA : Nat → ClassId} {b sa sv t1 t2 : Nat} {M : sm_M} (hok : sn_ok M) (hsh : sm_shp M = true) {x y : Int32} {mc ms : Nat} (hm : ((∃ r, lk_ans M x y r) ∧ mc = 0 ∧ ms = 0) ∨ (mc = 1 ∧ ms = 6)) (ad : Nat → Nat) (hz : Nat) :
    vx_Met l (my 205) (Cond.code (my 205) (mb 205) (sm_mi 205).2 (mr 205) :: uw) ({ frames := 6, cells := mc, slots := ms, locals := 90 } : Room) (va_Pc [.ref (ad 0), .int x, .int y] (lkPc X D cA b sa sv t1 t2 ad M hz)) (lkQi D cA b sa ad M hz x y) (lkXC D cA b sa ad M hz x y) mc ms (va_A (sn_W cA ad b sa M) hz) := by
  obtain ⟨k0, k1, k2, k4, k5, -, g0, -, -, -⟩ := lk_shp hsh
  refine vx_ofW (cc := mb 205) (maxL := (sm_mi 205).2) (ret := mr 205) (by decide +kernel) rfl ?_
  intro p e s m args below meth c s₁ B hml hno hv
  obtain ⟨rfl, ⟨hsz, hP, hK, hD0, hZ⟩, hE⟩ := hv
  subst hsz
  have hts := atoms_spec (ws := (Cond.code (my 205) (mb 205) (sm_mi 205).2 (mr 205) :: uw)) B.pre
  have htu : ∀ w ∈ uw, w.before _ s = true := fun w hw => hts w (List.mem_cons_of_mem _ hw)
  have hown : s.vm.findClass "PowersHouse" = some m.cls := findClass_of_methodNamed B.named
  rw [lg_entry_eq]
  have hlv := lv_entry [.ref (ad 0), .int x, .int y] (n := (sm_mi 205).2) (Nat.le_of_ble_eq_true rfl)
  generalize (lg_sl [.ref (ad 0), .int x, .int y] ++ List.replicate ((sm_mi 205).2 - (lg_sl [.ref (ad 0), .int x, .int y]).length) Slot.unset).toArray = ls0 at hlv ⊢
  have hC : sn_C p (headSpec (Cond.code (my 205) (mb 205) (sm_mi 205).2 (mr 205) :: uw) ({ frames := 6, cells := mc, slots := ms, locals := 90 } : Room)).room s m (([.ref (ad 0), .int x, .int y] : List Value).toArray) meth c D cA (va_A (sn_W cA ad b sa M) s.heap.size) X b (zs0 sa sv) 205 :=
    ⟨B.exec, B.bytes, B.returns, B.notSynchronized, hml, findClass_of_methodNamed B.named, (name_of_methodNamed B.named B.method).1, htu, hK, fun q h => Or.inr h, hZ, (show 2 ≤ 6 by omega), (show 42 ≤ 90 by omega)⟩
  have hst : sm_fv 3 M 0 0 = .ref 1 := by
    show sm_ro (sm_on (sm_rw M.2.2.2.2 0) 0) = _
    rw [g0]
  have hkd : Nat.beq (sm_kd M.1 0).1 11 = true := by rw [k0]; rfl
  have hret : ∀ (pc : Nat) (r : Int32), decode (mb 205) pc = .ok (.ireturn, 1) → lk_ans M x y r → sn_J p l e (headSpec (Cond.code (my 205) (mb 205) (sm_mi 205).2 (mr 205) :: uw) ({ frames := 6, cells := mc, slots := ms, locals := 90 } : Room)).room s m (([.ref (ad 0), .int x, .int y] : List Value).toArray) below meth c (vx_MQ below (lkQi D cA b sa ad M s.heap.size x y) (lkXC D cA b sa ad M s.heap.size x y) (([.ref (ad 0), .int x, .int y] : List Value).toArray) s mc ms (va_A (sn_W cA ad b sa M) s.heap.size)) D cA b sa (va_A (sn_W cA ad b sa M) s.heap.size) (cz M) (sz M) ad M.1.length 205 pc [some (.ref 0), some (.int x), some (.int y)] [.int r] M := by
    intro pc r hd hans ad' ls H locs cells slots h1 h2 hr
    have e1 : cells = 0 := by have := h1.1; omega
    have e2 : slots = 0 := by omega
    subst e1; subst e2
    refine vx_ret ?_
    refine W.widen (k := mc) (n := ms) (Nat.zero_le _) (Nat.zero_le _) ?_
    have hP2 : va_P D cl_all (sn_W cA ad b sa M) H := by rw [← sn_W_ext (b := b) (sa := sa) (cA := cA) hok h1.2.2]; exact hr.2.2.2.2.1
    exact W.iret B.exec B.bytes B.returns (fun t ht _ => ⟨⟨r, (), rfl, hans, by show va_P D cl_all (sn_W cA ad b sa M) t.heap; rw [ht]; exact hP2⟩, hr.2.2.2.2.2.2.F ht⟩) hr.2.2.2.2.2.2.2.2 hd B.notSynchronized
  have hthr1 : lk_thr M x y lkE1 → sn_J p l e (headSpec (Cond.code (my 205) (mb 205) (sm_mi 205).2 (mr 205) :: uw) ({ frames := 6, cells := mc, slots := ms, locals := 90 } : Room)).room s m (([.ref (ad 0), .int x, .int y] : List Value).toArray) below meth c (vx_MQ below (lkQi D cA b sa ad M s.heap.size x y) (lkXC D cA b sa ad M s.heap.size x y) (([.ref (ad 0), .int x, .int y] : List Value).toArray) s mc ms (va_A (sn_W cA ad b sa M) s.heap.size)) D cA b sa (va_A (sn_W cA ad b sa M) s.heap.size) (cz M) (sz M) ad M.1.length 205 11 [some (.ref 0), some (.int x), some (.int y)] [] M := by
    intro hth ad' ls H locs cells slots h1 h2 hr
    have e1 : cells = 0 := by have := h1.1; omega
    have e2 : slots = 0 := by omega
    subst e1; subst e2
    have hmc : mc = 1 ∧ ms = 6 := by
      rcases hm with ⟨⟨r, g⟩, -⟩ | h
      · exact (lk_no hth g).elim
      · exact h
    obtain ⟨hmc, hms⟩ := hmc
    have hS := hr.2.2.2.2.2.2
    have hP2 : va_P D cl_all (sn_W cA ad b sa M) H := by rw [← sn_W_ext (b := b) (sa := sa) (cA := cA) hok h1.2.2]; exact hr.2.2.2.2.1
    refine vx_throwSW (names := lkN) (cls := lkE1) (own := "PowersHouse") (A := va_A (sn_W cA ad b sa M) s.heap.size) B.exec B.bytes hl hown lk_fit1 lk_fit (htu _ lk_c1) (htu _ lk_i1) hE.2.2.1 (fun w hw => (lk_a1 w hw).elim (htu w) (fun g => va_Nw.use (lkB_ot w g) (hE.2.2.2.2.2 w g))) lk_g1 hE.1 hE.2.1 hS (hr.1.1.trans hml.symm) lkd_11 lkd_14 lkd_15 lkd_18 lkd_21 (fun x hx => (hno x hx).elim) (show 2 + 3 < 6 by omega) (show 0 + (13 * (2 + 1) + 43) ≤ 90 by omega) (show 0 + 1 ≤ mc by omega) (show 0 + 6 ≤ ms by omega) B.notSynchronized (fun t hal hsz hq => ?_) hS.2.2 (by omega) (by omega)
    refine ⟨(), trivial, ⟨hth, va_P.kept hP2 fun k q hk => hq _ (vx_lt hP2 hk)⟩, Nat.le_trans hS.1 hsz, fun q q1 q2 => ?_⟩
    rw [hq q (Nat.lt_of_lt_of_le q1 hS.1)]
    exact hS.2.1 q q1 q2
  have hthr2 : lk_thr M x y lkE2 → sn_J p l e (headSpec (Cond.code (my 205) (mb 205) (sm_mi 205).2 (mr 205) :: uw) ({ frames := 6, cells := mc, slots := ms, locals := 90 } : Room)).room s m (([.ref (ad 0), .int x, .int y] : List Value).toArray) below meth c (vx_MQ below (lkQi D cA b sa ad M s.heap.size x y) (lkXC D cA b sa ad M s.heap.size x y) (([.ref (ad 0), .int x, .int y] : List Value).toArray) s mc ms (va_A (sn_W cA ad b sa M) s.heap.size)) D cA b sa (va_A (sn_W cA ad b sa M) s.heap.size) (cz M) (sz M) ad M.1.length 205 75 [some (.ref 0), some (.int x), some (.int y)] [] M := by
    intro hth ad' ls H locs cells slots h1 h2 hr
    have e1 : cells = 0 := by have := h1.1; omega
    have e2 : slots = 0 := by omega
    subst e1; subst e2
    have hmc : mc = 1 ∧ ms = 6 := by
      rcases hm with ⟨⟨r, g⟩, -⟩ | h
      · exact (lk_no hth g).elim
      · exact h
    obtain ⟨hmc, hms⟩ := hmc
    have hS := hr.2.2.2.2.2.2
    have hP2 : va_P D cl_all (sn_W cA ad b sa M) H := by rw [← sn_W_ext (b := b) (sa := sa) (cA := cA) hok h1.2.2]; exact hr.2.2.2.2.1
    refine lk_throwW (Y9 := lkY) (names := lkN2) (cls := lkE2) (own := "PowersHouse") (A := va_A (sn_W cA ad b sa M) s.heap.size) B.exec B.bytes hl lkrx_0 lkrx_1 lkrx_2 lkrx_5 hown lk_fit2 lk_fitY lk_fitN (htu _ lk_c2) (htu _ lk_i2) hE.2.2.2.1 (fun w hw => (lk_a2 w hw).elim (htu w) (fun g => va_Nw.use (lkB_ot w g) (hE.2.2.2.2.2 w g))) lk_g2 hE.1 hE.2.1 hS (hr.1.1.trans hml.symm) lkd_75 lkd_78 lkd_79 lkd_82 lkd_85 (fun x hx => (hno x hx).elim) (show 1 + 4 < 6 by omega) (show 0 + (13 * (1 + 2) + 43) ≤ 90 by omega) (show 0 + 1 ≤ mc by omega) (show 0 + 6 ≤ ms by omega) B.notSynchronized (fun t hal hsz hq => ?_) hS.2.2 (by omega) (by omega)
    refine ⟨(), trivial, ⟨hth, va_P.kept hP2 fun k q hk => hq _ (vx_lt hP2 hk)⟩, Nat.le_trans hS.1 hsz, fun q q1 q2 => ?_⟩
    rw [hq q (Nat.lt_of_lt_of_le q1 hS.1)]
    exact hS.2.1 q q1 q2
  have hfc : cz M ≤ cz M + (headSpec (Cond.code (my 205) (mb 205) (sm_mi 205).2 (mr 205) :: uw) ({ frames := 6, cells := mc, slots := ms, locals := 90 } : Room)).room.cells := Nat.le_add_right _ _
  have hfs : sz M ≤ sz M + (headSpec (Cond.code (my 205) (mb 205) (sm_mi 205).2 (mr 205) :: uw) ({ frames := 6, cells := mc, slots := ms, locals := 90 } : Room)).room.slots := Nat.le_add_right _ _
  have J : sn_J p l e (headSpec (Cond.code (my 205) (mb 205) (sm_mi 205).2 (mr 205) :: uw) ({ frames := 6, cells := mc, slots := ms, locals := 90 } : Room)).room s m (([.ref (ad 0), .int x, .int y] : List Value).toArray) below meth c (vx_MQ below (lkQi D cA b sa ad M s.heap.size x y) (lkXC D cA b sa ad M s.heap.size x y) (([.ref (ad 0), .int x, .int y] : List Value).toArray) s mc ms (va_A (sn_W cA ad b sa M) s.heap.size)) D cA b sa (va_A (sn_W cA ad b sa M) s.heap.size) (cz M) (sz M) ad M.1.length 205 0 [some (.ref 0), some (.int x), some (.int y)] [] M := by
    refine sj_aload_n hC lkd_0 rfl ?_
    refine sj_get hC lkd_1 lk_hf hkd ?_
    rw [hst]
    refine sj_iload_n hC lkd_4 rfl ?_
    obtain ⟨n, k, hrun, hk⟩ := lk_r90 (X := X) (x := x) hsh
    refine lk_call hC ⟨n, hrun⟩ hfc hfs (by decide) (by decide) k1 lkd_5 lk_k90 rfl lk_l90 rfl (by decide) rfl ?_
    refine sj_if_ne hC lkd_8 (t := 22) (by decide) (fun hne => ?_) (fun heq => ?_)
    · have hi : lk_in M x := hk.elim And.left (fun z => absurd z.2 hne)
      refine sj_iload_n hC lkd_22 rfl ?_
      refine sj_switch hC lkd_23 (a := 75) (sw := [(0, 48), (1, 57), (2, 66)]) (by decide) (by decide) (by decide) (by decide) ?_
      simp only [sm_sw]
      split
      · rename_i hy
        refine sj_aload_n hC lkd_48 rfl ?_
        refine sj_get hC lkd_49 lk_hf hkd ?_
        rw [hst]
        refine sj_iload_n hC lkd_52 rfl ?_
        refine lk_call hC (lk_r117 hsh hi) hfc hfs (by decide) (by decide) k1 lkd_53 lk_k117 rfl lk_l117 rfl (by decide) rfl ?_
        exact hret 56 _ lkd_56 ⟨hi, Or.inl ⟨hy, rfl⟩⟩
      · rename_i hy0
        split
        · rename_i hy
          refine sj_aload_n hC lkd_57 rfl ?_
          refine sj_get hC lkd_58 lk_hf hkd ?_
          rw [hst]
          refine sj_iload_n hC lkd_61 rfl ?_
          refine lk_call hC (lk_r95 hsh hi) hfc hfs (by decide) (by decide) k1 lkd_62 lk_k95 rfl lk_l95 rfl (by decide) rfl ?_
          exact hret 65 _ lkd_65 ⟨hi, Or.inr (Or.inl ⟨hy, rfl⟩)⟩
        · rename_i hy1
          split
          · rename_i hy
            refine sj_aload_n hC lkd_66 rfl ?_
            refine sj_get hC lkd_67 lk_hf hkd ?_
            rw [hst]
            refine sj_iload_n hC lkd_70 rfl ?_
            refine lk_call hC (lk_r98 hsh hi) hfc hfs (by decide) (by decide) k1 lkd_71 lk_k98 rfl lk_l98 rfl (by decide) rfl ?_
            exact hret 74 _ lkd_74 ⟨hi, Or.inr (Or.inr ⟨hy, rfl⟩)⟩
          · rename_i hy2
            exact hthr2 (Or.inr ⟨hi, hy0, hy1, hy2, rfl⟩)
    · have hi : ¬ lk_in M x := hk.elim (fun z => absurd (by rw [z.2]; decide) heq) And.left
      exact hthr1 (Or.inl ⟨hi, rfl⟩)
  refine J ad ls0 s.heap [] 0 0 ⟨by omega, Nat.le_refl _, fun _ _ => rfl⟩ (by omega) ⟨hlv, ?_, vs_nil, hok, hP, hD0.self, va_S.rf⟩
  intro k w hk
  match k, hk with
  | 0, hk => cases hk; exact vv_ref (lk_lt k0 (by decide))
  | 1, hk => cases hk; exact vv_int
  | 2, hk => cases hk; exact vv_int
  | k + 3, hk => cases hk
end
section
/-! The law's look: it catches. -/
theorem lk_ofWH {l : Launch} {y : MethodName} {ws ws' : List Cond} {rm : Room} {Pc : Array Value → State → Prop} {Qc : Array Value → State → Outcome → State → Prop} {mc ms : Nat} {free : Addr → Prop} {cc : ByteArray} {maxL : Nat} {ret : Option FieldType} {hh : List (Nat × Nat × Nat × Nat)}
    (hy : plainName y.cls = true) (hw : ws = Cond.codeWith y cc maxL ret hh :: ws')
    (body : ∀ p e s m args below meth c s₁, BodyLoose p l y (headSpec ws rm) cc maxL ret e s m args below meth c s₁ → c.maxLocals = maxL → Pc args s →
      W p l e (headSpec ws rm).room s m args below meth c s.heap [] 0 0 (MQ below Qc args s mc ms free) (entryFrame m args maxL)) : Met l y ws rm Pc Qc mc ms free := by
  refine MetFree.of_bodyS (code := cc) (maxLocals := maxL) (ret := ret) hy ?_ ?_
  · intro args s m h hn
    obtain ⟨m9, meth, c, hn9, h1, h2, h3, h4, -, h5, h6, -⟩ := Cond.codeWith_spec (atoms_spec (ws := ws) h _ (by rw [hw]; exact List.mem_cons_self))
    cases hn.symm.trans hn9
    exact ⟨meth, c, h1, h2, h3, h4, h5, h6⟩
  · intro p e s m args below meth c s₁ B hml hP _
    have hh0 : s₁.heap = s.heap := by rw [B.state]; rfl
    obtain ⟨t, a1, o, b1, b2, b3⟩ := body p e s m args below meth c s₁ B hml hP s₁ hh0 (Stand.of_body B)
    exact ⟨t, o, a1, b1, b2, ⟨b3.1, b3.2⟩⟩
def yLk : MethodName := ⟨"PowersHouseLaw", "look", "(LPowersHouse;II[J)I"⟩
def lkH : List (Nat × Nat × Nat × Nat) := [(0, 10, 13, 13), (0, 10, 17, 15)]
theorem lk_cw : Cond.codeWith yLk method_3_code 5 (some .int) lkH ∈ uw := wi_in (p := 1511) (by decide +kernel)
theorem lk_l13 : Cond.classLink "PowersHouseLaw" 13 lkE1 ∈ uw := wi_in (p := 1512) (by decide +kernel)
theorem lk_l15 : Cond.classLink "PowersHouseLaw" 15 lkE2 ∈ uw := wi_in (p := 1513) (by decide +kernel)
theorem lk_t1 : Cond.castable lkE1 lkE1 ∈ lkB := List.mem_cons_self
theorem lk_t2 : Cond.castable lkE2 lkE2 ∈ lkB := List.mem_cons_of_mem _ List.mem_cons_self
theorem lk_ml : Cond.methodLink "PowersHouseLaw" 7 (my 205) ∈ uw := wi_in (p := 1514) (by decide +kernel)
theorem lk_im : Cond.instanceMethod (my 205) ∈ uw := wi_in (p := 1515) (by decide +kernel)
theorem lk_se : Cond.selects "PowersHouse" (my 205) (my 205) ∈ uw := wi_in (p := 1516) (by decide +kernel)
theorem lk_in0 : Cond.initialized "PowersHouse" ∈ uw := wi_in (p := 120) (by decide +kernel)
theorem lk_co : Cond.code (my 205) (mb 205) (sm_mi 205).2 (mr 205) ∈ uw := wi_in (p := 1517) (by decide +kernel)
theorem lk_ml2 : Cond.methodLink "PowersHouseLaw" 171 yLk ∈ uw := wi_in (p := 1509) (by decide +kernel)
theorem lk_st2 : Cond.static yLk ∈ uw := wi_in (p := 1510) (by decide +kernel)
theorem lk_in2 : Cond.initialized "PowersHouseLaw" ∈ uw := wi_in (p := 119) (by decide +kernel)
theorem lkl_0 : decode method_3_code 0 = .ok (.aload_n 3, 1) := by decide +kernel
theorem lkl_1 : decode method_3_code 1 = .ok (.iconst 0, 1) := by decide +kernel
theorem lkl_2 : decode method_3_code 2 = .ok (.aload_n 0, 1) := by decide +kernel
theorem lkl_3 : decode method_3_code 3 = .ok (.iload_n 1, 1) := by decide +kernel
theorem lkl_4 : decode method_3_code 4 = .ok (.iload_n 2, 1) := by decide +kernel
theorem lkl_5 : decode method_3_code 5 = .ok (.invokevirtual 7, 3) := by decide +kernel
theorem lkl_8 : decode method_3_code 8 = .ok (.i2l, 1) := by decide +kernel
theorem lkl_9 : decode method_3_code 9 = .ok (.lastore, 1) := by decide +kernel
theorem lkl_10 : decode method_3_code 10 = .ok (.goto 11, 3) := by decide +kernel
theorem lkl_13 : decode method_3_code 13 = .ok (.astore 4, 2) := by decide +kernel
theorem lkl_15 : decode method_3_code 15 = .ok (.iconst 1, 1) := by decide +kernel
theorem lkl_16 : decode method_3_code 16 = .ok (.ireturn, 1) := by decide +kernel
theorem lkl_17 : decode method_3_code 17 = .ok (.astore 4, 2) := by decide +kernel
theorem lkl_19 : decode method_3_code 19 = .ok (.iconst 2, 1) := by decide +kernel
theorem lkl_20 : decode method_3_code 20 = .ok (.ireturn, 1) := by decide +kernel
theorem lkl_21 : decode method_3_code 21 = .ok (.iconst 0, 1) := by decide +kernel
theorem lkl_22 : decode method_3_code 22 = .ok (.ireturn, 1) := by decide +kernel
/-- what the shadow's look comes to -/
theorem lk_cases {M M1 : sm_M} {x y : Int32} {c0 : sm_C} {v : Option Value} (h : sm_look [.ref 0, .int x, .int y, .ref 142] M = some (c0, v, M1)) : sm_shp M = true ∧
    ((∃ r, lk_ans M x y r ∧ v = some (.int 0) ∧ M1 = (M.1, M.2.1, M.2.2.1, up2 M.2.2.2.1 142 0 r.toInt64, M.2.2.2.2)) ∨
    ∃ E k, lk_thr M x y E ∧ ((E = lkE1 ∧ k = 1) ∨ (E = lkE2 ∧ k = 2)) ∧ v = some (.int k) ∧ M1 = (M.1, (M.2.1.1 + 1, M.2.1.2 + 6), M.2.2.1, M.2.2.2.1, M.2.2.2.2)) := by
  unfold sm_look at h
  simp only [show Nat.beq 0 0 = true from rfl, show Nat.beq 142 142 = true from rfl, Bool.true_and] at h
  cases hs : sm_shp M with
  | false => rw [hs] at h; cases h
  | true =>
    rw [hs] at h
    simp only [cond_true] at h
    refine ⟨rfl, ?_⟩
    split at h
    · rename_i hi
      split at h
      · rename_i hy; cases h; exact Or.inl ⟨_, ⟨hi, Or.inl ⟨hy, rfl⟩⟩, rfl, rfl⟩
      · rename_i h0
        split at h
        · rename_i hy; cases h; exact Or.inl ⟨_, ⟨hi, Or.inr (Or.inl ⟨hy, rfl⟩)⟩, rfl, rfl⟩
        · rename_i h1
          split at h
          · rename_i hy; cases h; exact Or.inl ⟨_, ⟨hi, Or.inr (Or.inr ⟨hy, rfl⟩)⟩, rfl, rfl⟩
          · rename_i h2; cases h; exact Or.inr ⟨lkE2, 2, Or.inr ⟨hi, h0, h1, h2, rfl⟩, Or.inr ⟨rfl, rfl⟩, rfl, rfl⟩
    · rename_i hi
      cases h
      exact Or.inr ⟨lkE1, 1, Or.inl ⟨hi, rfl⟩, Or.inl ⟨rfl, rfl⟩, rfl, rfl⟩
theorem lk_fun {M : sm_M} {x y r r' : Int32} (h : lk_ans M x y r) (g : lk_ans M x y r') : r = r' := by
  obtain ⟨-, h⟩ := h
  obtain ⟨-, g⟩ := g
  rcases h with ⟨rfl, rfl⟩ | ⟨rfl, rfl⟩ | ⟨rfl, rfl⟩ <;> rcases g with ⟨e, rfl⟩ | ⟨e, rfl⟩ | ⟨e, rfl⟩ <;> first | rfl | exact absurd e (by decide)
theorem lk_thf {M : sm_M} {x y : Int32} {E E' : String} (h : lk_thr M x y E) (g : lk_thr M x y E') : E = E' := by
  rcases h with ⟨a, rfl⟩ | ⟨a, -, -, -, rfl⟩ <;> rcases g with ⟨e, rfl⟩ | ⟨e, -, -, -, rfl⟩ <;> first | rfl | exact absurd e a | exact absurd a e
theorem lk_E12 : ¬ lkE1 = lkE2 := by decide
set_option maxRecDepth 100000 in
set_option maxHeartbeats 4000000 in
theorem lk_law {l : Launch} (hl : l.stackTraces = false) {X : (Nat → Int32) × Nat} {D : va_G} {cA : Nat → ClassId} {b sa sv t1 t2 : Nat} {M M1 : sm_M} (hok : sn_ok M) {x y : Int32} {c0 : sm_C} {v : Option Value} (hlk : sm_look [.ref 0, .int x, .int y, .ref 142] M = some (c0, v, M1)) (ad : Nat → Nat) (hz : Nat) :
    Met l yLk (Cond.codeWith yLk method_3_code 5 (some .int) lkH :: uw) ({ frames := 7, cells := cz M1 - cz M, slots := sz M1 - sz M, locals := 130 } : Room) (va_Pc [.ref (ad 0), .int x, .int y, .ref (ad 142)] (lkPc X D cA b sa sv t1 t2 ad M hz)) (sn_Qc D cA b sa ad M hz v M1) (cz M1 - cz M) (sz M1 - sz M) (va_A (sn_W cA ad b sa M) hz) := by
  obtain ⟨hsh, hcs⟩ := lk_cases hlk
  have hm : ((∃ r, lk_ans M x y r) ∧ cz M1 - cz M = 0 ∧ sz M1 - sz M = 0) ∨ (cz M1 - cz M = 1 ∧ sz M1 - sz M = 6) := by
    rcases hcs with ⟨r, ha, -, rfl⟩ | ⟨E, k, -, -, -, rfl⟩
    · exact Or.inl ⟨⟨r, ha⟩, Nat.sub_self _, Nat.sub_self _⟩
    · refine Or.inr ⟨?_, ?_⟩
      · show M.1.length + (M.2.1.1 + 1) - (M.1.length + M.2.1.1) = 1
        omega
      · show (M.1.map (fun q => q.2)).sum + (M.2.1.2 + 6) - ((M.1.map (fun q => q.2)).sum + M.2.1.2) = 6
        omega
  obtain ⟨k0, k1, k2, k4, k5, k142, g0, -, -, -⟩ := lk_shp hsh
  refine lk_ofWH (cc := method_3_code) (maxL := 5) (ret := some .int) (hh := lkH) (by decide +kernel) rfl ?_
  intro p e s m args below meth c s₁ B hml hv
  obtain ⟨rfl, ⟨hsz, hP, hK, hD0, hZ⟩, hE⟩ := hv
  subst hsz
  have hts := atoms_spec (ws := (Cond.codeWith yLk method_3_code 5 (some .int) lkH :: uw)) B.pre
  have htu : ∀ w ∈ uw, w.before _ s = true := fun w hw => hts w (List.mem_cons_of_mem _ hw)
  have hx := B.exec
  have hb := B.bytes
  have hr := B.returns
  have hlocks := B.notSynchronized
  have hown : s.vm.findClass "PowersHouseLaw" = some m.cls := findClass_of_methodNamed B.named
  have htab : c.exceptionTable.toList = tableOf lkH := vx_table (x := yLk) B (hts _ List.mem_cons_self)
  have hD : va_D (va_A (sn_W cA ad b sa M) s.heap.size) (sn_W cA ad b sa M) := hD0.self
  have hS : va_S (va_A (sn_W cA ad b sa M) s.heap.size) s.heap s.heap [] := va_S.rf
  obtain ⟨-, -, -, hat⟩ := sn_obj (cA := cA) (ad := ad) (b := b) (sa := sa) hok (a := 11) (o := 0) (by decide) (by rw [k0]; rfl)
  rw [lg_entry_eq]
  have hlv := lv_entry [.ref (ad 0), .int x, .int y, .ref (ad 142)] (n := 5) (Nat.le_of_ble_eq_true rfl)
  generalize (lg_sl [.ref (ad 0), .int x, .int y, .ref (ad 142)] ++ List.replicate (5 - (lg_sl [.ref (ad 0), .int x, .int y, .ref (ad 142)]).length) Slot.unset).toArray = ls at hlv ⊢
  refine lv_aload_n hx hb lkl_0 rfl (lv_at hlv 3 rfl) ?_
  refine lv_iconst (v := 0) hx hb lkl_1 (by decide) ?_
  refine lv_aload_n hx hb lkl_2 rfl (lv_at hlv 0 rfl) ?_
  refine lv_iload_n hx hb lkl_3 rfl (lv_at hlv 1 rfl) ?_
  refine lv_iload_n hx hb lkl_4 rfl (lv_at hlv 2 rfl) ?_
  have hcw : CallW (headSpec (Cond.codeWith yLk method_3_code 5 (some .int) lkH :: uw) ({ frames := 7, cells := cz M1 - cz M, slots := sz M1 - sz M, locals := 130 } : Room)).room s (([.ref (ad 0), .int x, .int y, .ref (ad 142)] : List Value).toArray) "PowersHouseLaw" "PowersHouse" 7 (my 205) (mb 205) (sm_mi 205).2 (mr 205) (Cond.code (my 205) (mb 205) (sm_mi 205).2 (mr 205) :: uw) ({ frames := 6, cells := cz M1 - cz M, slots := sz M1 - sz M, locals := 90 } : Room) (cz M1 - cz M) (sz M1 - sz M) 2 := by
    refine cwV (ws' := uw) 2 htu (uw_good fun w hw => ?_) rfl rfl rfl (by decide +kernel) ⟨(show 6 + 1 ≤ 7 by omega), (show 8 + (3 + 11) + 90 ≤ 130 by omega)⟩
    rcases List.mem_append.mp hw with h | h
    · simp only [List.mem_cons, List.not_mem_nil, or_false] at h
      rcases h with rfl | rfl | rfl | rfl
      · exact lk_ml
      · exact lk_im
      · exact lk_se
      · exact lk_in0
    · rcases List.mem_cons.mp h with rfl | h
      · exact lk_co
      · exact h
  have hpv : PreV s s.heap "PowersHouse" (ad 0) (va_Pc [.ref (ad 0), .int x, .int y] (lkPc X D cA b sa sv t1 t2 ad M s.heap.size)) [.int x, .int y] := by
    refine ⟨?_, va_recv (q := ((cl_at 11).1, (cl_at 11).2.1, (cl_at 11).2.2)) hK hP (cl_get (by decide)) hat, fun U hU hW => ?_⟩
    · intro a U g mk q
      obtain ⟨q0, qs, qE⟩ := q
      exact ⟨q0, (sn_blind (X := X) (D := D) (cA := cA) (b := b) (sa := sa) (M := M) (zs_cl sa sv _) (j := 205) (by decide) (ad := ad) (hz := s.heap.size) a U g mk ⟨q0, qs⟩).2, qE.next (fun _ h => h) (fun _ _ _ => rfl) (Or.inl rfl)⟩
    · exact ⟨rfl, ⟨by rw [hU], by rw [hU]; exact hP, va_K.moved hW.alike hK, hD0, hZ.next (zs_cl sa sv _) (j := 205) (by decide) (fun _ h => h) (fun q _ _ => by rw [hU]) (by rw [hU]; exact Nat.le_refl _) (Or.inr hW)⟩, hE.next (fun _ h => h) (fun q _ _ => by rw [hU]) (Or.inr hW)⟩
  have hrun := vx_runV (rest := [.int 0, .ref (ad 142)]) (nL := 5) (g := F0 m 5 ls [.int y, .int x, .ref (ad 0), .int 0, .ref (ad 142)]) (below := below) (meth := meth) (locs := []) (cells := 0) (slots := 0) (e := e) (⟨hx, hb, hml, hown, htu⟩ : CallFix p m c method_3_code 5 s _ uw "PowersHouseLaw") (lk_met hl hok hsh hm ad s.heap.size) hcw hpv rfl rfl hlv.1 rfl (lv_room (Nat.le_of_ble_eq_true rfl)) lkl_5 ⟨(show 0 + (cz M1 - cz M) ≤ cz M1 - cz M by omega), (show 0 + (sz M1 - sz M) ≤ sz M1 - sz M by omega)⟩
  refine vx_calli hrun hS (fun _ _ h => h) (fun _ h => h) (fun _ _ h => h) ?_ ?_
  · intro E ce q9 u t H1 locs1 ht hal _ hth hsz1 hk1 hS1 hcell hvm hcl
    obtain ⟨hth, hPt⟩ := hth
    have hP1 : va_P D cl_all (sn_W cA ad b sa M) H1 := ht ▸ hPt
    rcases hcs with ⟨r, ha, -, -⟩ | ⟨E', k, hth', hEk, rfl, hM1⟩
    · exact (lk_no hth ha).elim
    have hE' := lk_thf hth hth'
    subst hE'
    have hfin : ∀ t : State, t.heap = H1 → sn_Qc D cA b sa ad M s.heap.size (some (.int k)) M1 (([.ref (ad 0), .int x, .int y, .ref (ad 142)] : List Value).toArray) s (.returned (some (.int k))) t := by
      intro t' ht'
      subst hM1
      exact ⟨⟨ad, fun _ _ => rfl, Nat.le_refl _, rfl, Or.inr (Or.inl ⟨_, rfl⟩), hok, by rw [ht']; exact hP1, hD⟩, hS1.F ht'⟩
    rcases hEk with ⟨rfl, rfl⟩ | ⟨rfl, rfl⟩
    · refine vx_catch (name := lkE1) hown [] ⟨0, 10, 13, 13⟩ [⟨0, 10, 17, 15⟩] (htab.trans rfl) (fun z hz => absurd hz List.not_mem_nil) (by decide) (by decide) (htu _ lk_l13) (va_Nw.use rfl (hE.2.2.2.2.2 _ lk_t1)) hcell hvm hcl ?_
      refine lv_astore hx hb lkl_13 hlv (by decide) rfl fun ls2 hl2 => ?_
      refine lv_iconst (v := 1) hx hb lkl_15 (by decide) ?_
      refine W.widen (k := cz M1 - cz M) (n := sz M1 - sz M) (by omega) (by omega) ?_
      exact W.iret hx hb hr (fun t ht _ => hfin t ht) hS1.2.2 lkl_16 hlocks
    · refine vx_catch (name := lkE2) hown [⟨0, 10, 13, 13⟩] ⟨0, 10, 17, 15⟩ [] (htab.trans rfl) (fun z hz => ?_) (by decide) (by decide) (htu _ lk_l15) (va_Nw.use rfl (hE.2.2.2.2.2 _ lk_t2)) hcell hvm hcl ?_
      · rw [List.mem_singleton.mp hz]
        exact Or.inr ⟨by decide, lkE1, htu _ lk_l13, hE.2.2.2.2.1⟩
      refine lv_astore hx hb lkl_17 hlv (by decide) rfl fun ls2 hl2 => ?_
      refine lv_iconst (v := 2) hx hb lkl_19 (by decide) ?_
      refine W.widen (k := cz M1 - cz M) (n := sz M1 - sz M) (by omega) (by omega) ?_
      exact W.iret hx hb hr (fun t ht _ => hfin t ht) hS1.2.2 lkl_20 hlocks
  · intro r u t H1 locs1 ht hal hans hPt hsz1 hk1 hS1
    have hP1 : va_P D cl_all (sn_W cA ad b sa M) H1 := ht ▸ hPt
    rcases hcs with ⟨r', ha, rfl, hM1⟩ | ⟨E', k, hth', -, -, -⟩
    rotate_left
    · exact (lk_no hth' hans).elim
    have hrr := lk_fun hans ha
    subst hrr
    have ho : 142 < M.1.length := lk_lt k142 (by decide)
    have hWs : sn_W cA ad b sa M1 = (sn_W cA ad b sa M).set 142 (ad 142, .inl (cA 103, (sm_kd M.1 142).2, .inr (.inl (vp_updL (M.2.2.2.1 142) (0 : Int32).toNatClampNeg r.toInt64)))) := by
      subst hM1
      refine sn_W_set rfl (fun z _ hz => ?_) ?_
      · unfold sn_e sm_fv
        simp only [up2_ne hz]
      · unfold sn_e
        rw [k142]
        simp only [show Nat.ble 100 103 = true from rfl, show Nat.beq 103 103 = true from rfl, cond_true]
        rw [up2_self]
        rfl
    refine lv_i2l (v := r.toInt64) hx hb lkl_8 rfl ?_
    refine va_last hx hb hK hP1 hD hS1 142 3 (sn_arrL ho (by rw [k142])) rfl (show vp_in 0 (sm_kd M.1 142).2 by rw [k142]; exact (show ¬ ((0 : Int32) < 0 ∨ (1 : Nat) ≤ (0 : Int32).toNatClampNeg) by decide)) lkl_9 fun H2 locs2 hP2 hD2 hS2 => ?_
    rw [← hWs] at hP2 hD2
    refine lv_goto (tgt := 21) hx hb lkl_10 (by decide) ?_
    refine lv_iconst (v := 0) hx hb lkl_21 (by decide) ?_
    refine W.widen (k := cz M1 - cz M) (n := sz M1 - sz M) (by omega) (by omega) ?_
    refine W.iret hx hb hr (fun t' ht' _ => ?_) hS2.2.2 lkl_22 hlocks
    have hok1 : sn_ok M1 := by
      subst hM1
      exact sn_ok_J hok ho
    have hlen : M.1.length ≤ M1.1.length := by subst hM1; exact Nat.le_refl _
    exact ⟨⟨ad, fun _ _ => rfl, hlen, rfl, Or.inr (Or.inl ⟨_, rfl⟩), hok1, by rw [ht']; exact hP2, hD2⟩, hS2.F ht'⟩
end
section
/-! The law's look as a rule. -/
theorem lkB_tbl : (lkB.all fun w => decide (w ∈ lw_tbl)) = true := by decide +kernel
theorem law_EX {b : Nat} {A : Nat → Prop} {s : State} (h : law_F b A s) : ∃ t1 t2, lk_EX t1 t2 A s := by
  obtain ⟨rfl, hts, hgv⟩ := h
  have hs := flat_of_before _ hgv
  have hA : ∀ a : Nat, a < s.heap.size → ¬ s.heap.size ≤ a := fun a h => Nat.not_le.mpr h
  obtain ⟨a1, c1, cA1, kA1, q1, -⟩ := Cond.exactly_spec (args := #[Value.ref b]) (first := s) (o := none) (s := s) (idx := []) (t := .string "PowersHouse" 321) (cls := "java/lang/String") (hs (.exactly (.string "PowersHouse" 321) "java/lang/String") (by decide +kernel))
  obtain ⟨a2, c2, cA2, kA2, q2, -⟩ := Cond.exactly_spec (args := #[Value.ref b]) (first := s) (o := none) (s := s) (idx := []) (t := .string "PowersHouse" 331) (cls := "java/lang/String") (hs (.exactly (.string "PowersHouse" 331) "java/lang/String") (by decide +kernel))
  exact ⟨a1, a2, vx_Zqof (hts _ (by decide +kernel)) (hts _ (by decide +kernel)) (hs _ (by decide +kernel)) hA, vx_Zqof (hts _ (by decide +kernel)) (hts _ (by decide +kernel)) (hs _ (by decide +kernel)) hA, vk_R.of (hts _ (by decide +kernel)) q1, vk_R.of (hts _ (by decide +kernel)) q2, va_Nc.of (hs _ (by decide +kernel)), fun w hw => va_Nw.of (lkB_ot w hw) (hts w (of_decide_eq_true (List.all_eq_true.mp lkB_tbl w hw)))⟩
set_option maxRecDepth 100000 in
set_option maxHeartbeats 4000000 in
theorem lk_lookr {l : Launch} (hl : l.stackTraces = false) {X : (Nat → Int32) × Nat} {D : va_G} {cA : Nat → ClassId} {b sa sv : Nat} : sn_lookr l X D cA b sa (zs sa sv (law_F b)) := by
  intro p e R s m args below meth c Q A z0 w0 ad0 n0 pc L M M1 as rest c0 v C hd hcat hlk hcc hss k
  obtain ⟨x, y, rfl⟩ : ∃ x y, as = [.ref 0, .int x, .int y, .ref 142] := by
    have h := hlk
    unfold sm_look at h
    split at h
    · rename_i a q w o
      cases hb : (Nat.beq a 0 && Nat.beq o 142) with
      | false => rw [hb] at h; cases h
      | true =>
        have g := lk_and hb
        exact ⟨q, w, by rw [Nat.eq_of_beq_eq_true g.1, Nat.eq_of_beq_eq_true g.2]⟩
    · cases h
  have hgr := sm_look_gr hlk
  obtain ⟨hx, hb, hr0, hlks, hml, hown, hmn, hts, hK, hA, hZ, hfr, hlo⟩ := C
  have hF : law_F b A s := hZ.2.2.2.2.2 rfl
  obtain ⟨t1, t2, hE⟩ := law_EX hF
  have hfr : 8 ≤ R.frames := hfr
  have hlo : 193 ≤ R.locals := hlo
  have hZ0 : sn_Z X b (zs0 sa sv 205) A s := ⟨hZ.1, hZ.2.1, hZ.2.2.1, hZ.2.2.2.1, hZ.2.2.2.2.1, fun h => absurd h (by decide)⟩
  intro ad ls H locs cells slots h1 h2 hr
  have h1' := h1.1
  have hok := hr.2.2.2.1
  have hrest : ∀ w ∈ rest, vv M.1.length w := fun w hw => hr.2.2.1 w (List.mem_append_right _ hw)
  have hrr := hr.stk hrest
  have hP := hr.2.2.2.2.1
  have hD := hr.2.2.2.2.2.1
  have hS := hr.2.2.2.2.2.2
  have hAA := sn_AA hD hS hA
  have h8 : ((rest.map (cv ad b sa)).map fun v => v.category).sum ≤ 8 := by rw [cat_sum]; exact hcat
  have hpre : PreS s H (va_Pc [.ref (ad 0), .int x, .int y, .ref (ad 142)] (lkPc X D cA b sa sv t1 t2 ad M H.size)) [.ref (ad 0), .int x, .int y, .ref (ad 142)] := by
    refine ⟨?_, fun U hU hW => ?_⟩
    · intro a U g mk q
      obtain ⟨q0, qs, qE⟩ := q
      exact ⟨q0, (sn_blind (X := X) (D := D) (cA := cA) (b := b) (sa := sa) (M := M) (zs_cl sa sv _) (j := 205) (by decide) (ad := ad) (hz := H.size) a U g mk ⟨q0, qs⟩).2, qE.next (fun _ h => h) (fun _ _ _ => rfl) (Or.inl rfl)⟩
    · exact ⟨rfl, ⟨by rw [hU], by rw [hU]; exact hP, va_K.moved hW.alike hK, hD.weaken (fun _ _ _ _ => trivial), hZ0.next (zs_cl sa sv _) (j := 205) (by decide) hAA (fun q q1 q2 => by rw [hU]; exact hS.2.1 q q1 q2) (by rw [hU]; exact hS.1) (Or.inr hW)⟩, hE.next hAA (fun q q1 q2 => by rw [hU]; exact hS.2.1 q q1 q2) (Or.inr hW)⟩
  have hcw : vx_CSW R s args "PowersHouseLaw" 171 yLk method_3_code 5 (some .int) lkH (Cond.codeWith yLk method_3_code 5 (some .int) lkH :: uw) ({ frames := 7, cells := cz M1 - cz M, slots := sz M1 - sz M, locals := 130 } : Room) (cz M1 - cz M) (sz M1 - sz M) 4 := by
    refine vx_cwSW (ws' := uw) 4 hts (uw_good fun w hw => ?_) rfl rfl rfl (by decide +kernel) ⟨(show 7 + 1 ≤ R.frames by omega), (show 8 + (5 + 11) + 130 ≤ R.locals by omega)⟩
    rcases List.mem_append.mp hw with h | h
    · simp only [List.mem_cons, List.not_mem_nil, or_false] at h
      rcases h with rfl | rfl | rfl
      · exact lk_ml2
      · exact lk_st2
      · exact lk_in2
    · rcases List.mem_cons.mp h with rfl | h
      · exact lk_cw
      · exact h
  exact sj_after hA h1 h2 hrr hgr.1 hgr.2 (vx_runSW (nL := (sm_mi 315).2) (As := [.ref (ad 0), .int x, .int y, .ref (ad 142)]) (Ts := uw) ⟨hx, hb, hml, hown, hts⟩ (lk_law hl hok hlk ad H.size) hcw hpre rfl rfl hr.1.1 (by simp [cv]) (lv_room h8) hd ⟨by omega, by omega⟩) k
end
section
/-! The law on a script of one call, with its room. -/
theorem room_k (mo : Bool) : (sK mo).length ≤ 144 ∧ ((sK mo).map (fun q => q.2)).sum ≤ 100000 := by
  cases mo <;> decide +kernel
theorem law_room {k : Nat} {M : sm_M} (hk : k ≤ 512) (h : Inv k M) : cz M ≤ 601024 ∧ sz M ≤ 7293034 := by
  obtain ⟨mo, G, I, J, rfl, n, m, t, p, q, r, ch, ln, -, -, -, -, -, -, -, -, -, -, -, -, -, -, -, -, hZ⟩ := h
  have h1 := room_k mo
  refine ⟨?_, ?_⟩
  · show (sK mo).length + G.1 ≤ 601024
    have := hZ.1
    omega
  · show ((sK mo).map (fun q => q.2)).sum + G.2 ≤ 7293034
    have := hZ.2
    omega
theorem law_wpX {X : (Nat → Int32) × Nat} (hX : X.2 ≤ 3584) : law_wp X := law_all hX (fun _ _ hk hI => ⟨rfl, law_room hk hI⟩)
end
