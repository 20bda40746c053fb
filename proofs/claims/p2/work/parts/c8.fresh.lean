/-! The fresh memory: what holds before the first call. -/
def wI0 : List (Nat × Nat × Int32) := [(1, 0, 0), (1, 1, 0), (1, 2, 0), (1, 3, 0), (1, 4, 0), (14, 0, 0), (14, 1, 0), (14, 2, 0), (14, 4, 0), (14, 5, 0), (16, 0, 0), (16, 1, (-1)), (16, 2, 0), (16, 3, 0), (16, 9, 0), (16, 10, 0), (16, 11, 0), (16, 12, 0), (16, 13, 0), (26, 0, 0), (31, 0, 0), (45, 5, 0), (48, 1, (-1)), (48, 2, 0), (52, 2, 0), (52, 3, (-1)), (52, 4, (-1)), (52, 5, 0), (52, 12, 0), (52, 13, 0), (52, 14, 0), (52, 15, 0), (52, 17, (-1)), (52, 18, 0), (60, 2, 0), (60, 3, (-1)), (60, 4, (-1)), (60, 5, 0), (60, 12, 0), (60, 13, 0), (60, 14, 0), (60, 15, 0), (60, 17, (-1)), (60, 18, 0), (68, 3, 0), (68, 4, (-1)), (71, 0, 0), (93, 0, 116), (93, 1, 97), (93, 2, 107), (93, 3, 101), (93, 4, 32), (93, 5, 114), (93, 6, 101), (93, 7, 102), (93, 8, 117), (93, 9, 115), (93, 10, 101), (93, 11, 32), (93, 12, 97), (93, 13, 115), (93, 14, 107), (93, 15, 32), (93, 16, 104), (93, 17, 111), (93, 18, 109), (93, 19, 101), (93, 20, 32), (93, 21, 111), (93, 22, 114), (93, 23, 32), (93, 24, 97), (93, 25, 110), (93, 26, 100), (93, 27, 32), (93, 28, 110), (93, 29, 111), (93, 30, 116), (93, 31, 32), (93, 32, 103), (93, 33, 97), (93, 34, 105), (93, 35, 110), (93, 36, 32), (93, 37, 103), (93, 38, 111), (93, 39, 116), (93, 40, 32), (93, 41, 108), (93, 42, 111), (93, 43, 115), (93, 44, 116), (93, 45, 32), (93, 46, 115), (93, 47, 111), (93, 48, 117), (93, 49, 108), (93, 50, 115), (93, 51, 32), (93, 52, 110), (93, 53, 101), (93, 54, 97), (93, 55, 114), (93, 56, 32), (93, 57, 109), (93, 58, 105), (93, 59, 110), (93, 60, 101), (93, 61, 32), (93, 62, 98), (93, 63, 111), (93, 64, 117), (93, 65, 110), (93, 66, 100), (93, 67, 32), (93, 68, 114), (93, 69, 97), (93, 70, 110), (93, 71, 107), (93, 72, 32), (93, 73, 111), (93, 74, 116), (93, 75, 104), (93, 76, 101), (93, 77, 114), (93, 78, 32), (93, 79, 100), (93, 80, 97), (93, 81, 121), (93, 82, 32), (93, 83, 108), (93, 84, 101), (93, 85, 102), (93, 86, 116), (93, 87, 32), (93, 88, 108), (93, 89, 105), (93, 90, 110), (93, 91, 107), (93, 92, 101), (93, 93, 100), (93, 94, 32), (81, 19, (-1))]
def wrs (w : List (Nat × Nat × Int32)) (I : Nat → Nat → Int32) : Nat → Nat → Int32 := w.foldl (fun I x => up2 I x.1 x.2.1 x.2.2) I
def wlk (d k : Nat) (w : List (Nat × Nat × Int32)) (v : Int32) : Int32 := w.foldl (fun v x => if x.1 = d ∧ x.2.1 = k then x.2.2 else v) v
theorem wrs_0 {d : Nat} : ∀ (w : List (Nat × Nat × Int32)) (I : Nat → Nat → Int32), I d = (fun _ => 0) → (∀ x ∈ w, x.1 = d → x.2.2 = 0) → wrs w I d = fun _ => 0 := by
  intro w
  induction w with
  | nil => intro I h _; exact h
  | cons x w ih =>
    intro I h hw
    refine ih (up2 I x.1 x.2.1 x.2.2) ?_ (fun y hy => hw y (List.mem_cons_of_mem _ hy))
    by_cases e : d = x.1
    · funext j
      rw [e, up2_ra, va_ap, hw x List.mem_cons_self e.symm, ← e, h]
      split <;> rfl
    · rw [up2_rn _ _ _ _ _ e]; exact h
theorem wrs_v {d k : Nat} : ∀ (w : List (Nat × Nat × Int32)) (I : Nat → Nat → Int32), wrs w I d k = wlk d k w (I d k) := by
  intro w
  induction w with
  | nil => intro I; rfl
  | cons x w ih =>
    intro I
    show wrs w (up2 I x.1 x.2.1 x.2.2) d k = wlk d k w (if x.1 = d ∧ x.2.1 = k then x.2.2 else I d k)
    rw [ih]
    congr 1
    by_cases e : d = x.1
    · rw [e, up2_ra, va_ap]
      by_cases g : k = x.2.1
      · rw [if_pos g, if_pos ⟨rfl, g.symm⟩]
      · rw [if_neg g, if_neg (fun h => g h.2.symm)]
    · rw [up2_rn _ _ _ _ _ e, if_neg (fun h => e h.1.symm)]
def I00 : Nat → Nat → Int32 := wrs wI0 (fun _ _ => 0)
def J00 : Nat → Nat → Int64 := up2 (up2 (fun _ _ => 0) 52 16 0) 60 16 0
set_option maxRecDepth 100000 in
theorem i00_e : up2 (up2 (up2 (up2 (up2 (up2 (up2 (up2 (up2 (up2 (up2 (up2 (up2 (up2 (up2 (up2 (up2 (up2 (up2 (up2 (up2 (up2 (up2 (up2 (up2 (up2 (up2 (up2 (up2 (up2 (up2 (up2 (up2 (up2 (up2 (up2 (up2 (up2 (up2 (up2 (up2 (up2 (up2 (up2 (up2 (up2 (up2 (up2 (up2 (up2 (up2 (up2 (up2 (up2 (up2 (up2 (up2 (up2 (up2 (up2 (up2 (up2 (up2 (up2 (up2 (up2 (up2 (up2 (up2 (up2 (up2 (up2 (up2 (up2 (up2 (up2 (up2 (up2 (up2 (up2 (up2 (up2 (up2 (up2 (up2 (up2 (up2 (up2 (up2 (up2 (up2 (up2 (up2 (up2 (up2 (up2 (up2 (up2 (up2 (up2 (up2 (up2 (up2 (up2 (up2 (up2 (up2 (up2 (up2 (up2 (up2 (up2 (up2 (up2 (up2 (up2 (up2 (up2 (up2 (up2 (up2 (up2 (up2 (up2 (up2 (up2 (up2 (up2 (up2 (up2 (up2 (up2 (up2 (up2 (up2 (up2 (up2 (up2 (up2 (up2 (up2 (up2 (up2 ((fun _ _ => (0 : Int32))) 1 0 0) 1 1 0) 1 2 0) 1 3 0) 1 4 0) 14 0 0) 14 1 0) 14 2 0) 14 4 0) 14 5 0) 16 0 0) 16 1 (-1)) 16 2 0) 16 3 0) 16 9 0) 16 10 0) 16 11 0) 16 12 0) 16 13 0) 26 0 0) 31 0 0) 45 5 0) 48 1 (-1)) 48 2 0) 52 2 0) 52 3 (-1)) 52 4 (-1)) 52 5 0) 52 12 0) 52 13 0) 52 14 0) 52 15 0) 52 17 (-1)) 52 18 0) 60 2 0) 60 3 (-1)) 60 4 (-1)) 60 5 0) 60 12 0) 60 13 0) 60 14 0) 60 15 0) 60 17 (-1)) 60 18 0) 68 3 0) 68 4 (-1)) 71 0 0) 93 0 116) 93 1 97) 93 2 107) 93 3 101) 93 4 32) 93 5 114) 93 6 101) 93 7 102) 93 8 117) 93 9 115) 93 10 101) 93 11 32) 93 12 97) 93 13 115) 93 14 107) 93 15 32) 93 16 104) 93 17 111) 93 18 109) 93 19 101) 93 20 32) 93 21 111) 93 22 114) 93 23 32) 93 24 97) 93 25 110) 93 26 100) 93 27 32) 93 28 110) 93 29 111) 93 30 116) 93 31 32) 93 32 103) 93 33 97) 93 34 105) 93 35 110) 93 36 32) 93 37 103) 93 38 111) 93 39 116) 93 40 32) 93 41 108) 93 42 111) 93 43 115) 93 44 116) 93 45 32) 93 46 115) 93 47 111) 93 48 117) 93 49 108) 93 50 115) 93 51 32) 93 52 110) 93 53 101) 93 54 97) 93 55 114) 93 56 32) 93 57 109) 93 58 105) 93 59 110) 93 60 101) 93 61 32) 93 62 98) 93 63 111) 93 64 117) 93 65 110) 93 66 100) 93 67 32) 93 68 114) 93 69 97) 93 70 110) 93 71 107) 93 72 32) 93 73 111) 93 74 116) 93 75 104) 93 76 101) 93 77 114) 93 78 32) 93 79 100) 93 80 97) 93 81 121) 93 82 32) 93 83 108) 93 84 101) 93 85 102) 93 86 116) 93 87 32) 93 88 108) 93 89 105) 93 90 110) 93 91 107) 93 92 101) 93 93 100) 93 94 32) 81 19 (-1) = I00 := rfl
theorem i00_c : (wI0.all fun x => decide (x.1 = 16 ∨ x.1 = 48 ∨ x.1 = 52 ∨ x.1 = 60 ∨ x.1 = 68 ∨ x.1 = 81 ∨ x.1 = 93 ∨ x.2.2 = 0)) = true := by decide +kernel
theorem i00_z {d : Nat} (a : ¬ d = 16) (b : ¬ d = 48) (c : ¬ d = 52) (e : ¬ d = 60) (f : ¬ d = 68) (g : ¬ d = 81) (h : ¬ d = 93) : I00 d = fun _ => 0 := by
  refine wrs_0 wI0 _ rfl fun x hx hd => ?_
  rcases of_decide_eq_true (List.all_eq_true.mp i00_c x hx) with q | q | q | q | q | q | q | q
  all_goals first | exact q | omega
theorem i00_v (d k : Nat) : I00 d k = wlk d k wI0 0 := wrs_v wI0 _
theorem i00_w : ∀ j : Fin 95, I00 93 j.val = rf_words.getD j.val 0 := by
  intro j
  rw [i00_v]
  exact (by decide +kernel : ∀ j : Fin 95, wlk 93 j.val wI0 0 = rf_words.getD j.val 0) j
theorem kk_end : kk_69 = sK false := by decide +kernel
theorem rr_end : rr_75 = sR false := by decide +kernel
theorem bt_z0 (k : Nat) : bt 0 k = false := by
  cases h : bt 0 k with
  | false => rfl
  | true => exact absurd h (by simp [bt])
theorem pc6_z0 : pc6 0 ≤ 3 := by decide +kernel
theorem bt_z01 (k : Nat) : bt 0 k = true ↔ (0 : Int32) = 1 := by
  rw [bt_z0]
  decide
theorem b8_z0 : (0 : Int32) = (0 : Int32).toInt8.toInt32 := by decide
theorem inv_0 : inv 0 false (0, 0) I00 J00 := by
  have z0 : (0 : Int32) = zI 0 := rfl
  have z : ∀ d : Nat, ¬ d = 16 → ¬ d = 48 → ¬ d = 52 → ¬ d = 60 → ¬ d = 68 → ¬ d = 81 → ¬ d = 93 → I00 d = fun _ => 0 := fun d a b c e f g h => i00_z a b c e f g h
  have v81 : ∀ j, ¬ j = 19 → I00 81 j = 0 := fun j hj => by
    rw [i00_v]
    have : ∀ (w : List (Nat × Nat × Int32)), (∀ x ∈ w, x.1 = 81 → x.2.1 = 19) → ∀ v, wlk 81 j w v = v := by
      intro w
      induction w with
      | nil => intro _ v; rfl
      | cons x w ih =>
        intro h v
        show wlk 81 j w (if x.1 = 81 ∧ x.2.1 = j then x.2.2 else v) = v
        rw [ih (fun y hy => h y (List.mem_cons_of_mem _ hy)), if_neg (fun e => hj (by rw [← e.2]; exact h x List.mem_cons_self e.1))]
    exact this wI0 (fun x hx he => by
      have q := of_decide_eq_true (List.all_eq_true.mp (by decide +kernel : (wI0.all fun x => decide (x.1 = 81 → x.2.1 = 19)) = true) x hx)
      exact q he) 0
  have stm : stp 0 (-1) := Or.inl rfl
  have nst : ∀ a : Int32, a = -1 → ¬ a = zI 0 := fun a e h => by rw [e] at h; exact absurd h (by decide)
  have e481 : I00 48 1 = -1 := by rw [i00_v]; decide +kernel
  have e684 : I00 68 4 = -1 := by rw [i00_v]; decide +kernel
  have e524 : I00 52 4 = -1 := by rw [i00_v]; decide +kernel
  have e604 : I00 60 4 = -1 := by rw [i00_v]; decide +kernel
  have e16 : I00 16 0 = 0 ∧ I00 16 1 = -1 ∧ I00 81 19 = -1 := by
    rw [i00_v, i00_v, i00_v]; decide +kernel
  refine ⟨0, 0, 0, 0, 0, 0, 0, 0, ?_, ?_, ?_, ?_, ?_, ?_, ?_, ?_, ?_, ?_, ?_, ?_, ?_, ?_, ?_, ?_, ?_⟩
  · rw [v81 3 (by decide), v81 10 (by decide), v81 15 (by decide), v81 16 (by decide), z 1 (by decide) (by decide) (by decide) (by decide) (by decide) (by decide) (by decide)]
    exact ⟨rfl, rfl, by decide, rfl, rfl, by decide, rfl, fun k _ => bt_z0 k, rfl, rfl, by decide⟩
  · simp (decide := true) only [i00_z]
    exact ⟨rfl, rfl, rfl, rfl, rfl, rfl, rfl, rfl⟩
  · simp (decide := true) only [i00_z]
    exact ⟨fun l hl => absurd hl (Nat.not_lt_zero _), fun _ k _ => bt_z0 k, fun _ => pc6_z0, fun _ _ => rfl, fun _ => ⟨0, by decide, rfl⟩, fun _ => ⟨0, by decide, rfl⟩, fun _ => ⟨0, by decide, rfl⟩, fun _ => ⟨0, by decide, rfl⟩, fun _ => ⟨0, by decide, rfl⟩⟩
  · simp (decide := true) only [i00_z]
    exact ⟨fun _ _ => rfl, fun _ => ⟨0, rfl, Nat.zero_le _⟩, fun _ _ _ _ => ⟨rfl, rfl, rfl⟩⟩
  · simp (decide := true) only [i00_z]
    exact ⟨fun _ => Or.inl rfl, fun a _ b _ => bt_z01 b⟩
  · simp (decide := true) only [i00_z]
    exact ⟨rfl, by decide⟩
  · rw [v81 46 (by decide)]
    simp (decide := true) only [i00_z]
    exact ⟨rfl, rfl, by decide, ⟨rfl, rfl, rfl, rfl, rfl, rfl, rfl, rfl, rfl, trivial, rfl⟩, fun _ _ => ⟨rfl, rfl, rfl⟩, fun k hk => absurd hk (Nat.not_lt_zero _), fun k hk => absurd hk (Nat.not_lt_zero _)⟩
  · rw [v81 60 (by decide)]
    simp (decide := true) only [i00_z]
    exact ⟨rfl, rfl, by decide, fun _ _ => ⟨rfl, rfl, rfl, rfl⟩⟩
  · rw [v81 81 (by decide)]
    simp (decide := true) only [i00_z]
    exact ⟨rfl, rfl, by decide, rfl, rfl, rfl, fun _ => ⟨0, by decide, rfl⟩, fun _ => Or.inl rfl, fun a _ b _ => bt_z01 b, fun a b _ => bt_z0 b⟩
  · rw [v81 1 (by decide)]
    simp (decide := true) only [i00_z]
    exact ⟨rfl, rfl, by decide, fun _ => ⟨⟨0, by decide, rfl⟩, b8_z0⟩⟩
  · exact ⟨by rw [v81 18 (by decide), e16.1], by rw [e16.2.2, e16.2.1]⟩
  · simp (decide := true) only [i00_z]
    intro s hs
    exact ⟨0, fun _ => 0, fun _ => 0, fun _ => 0, fun _ => 0, rfl, rfl, by decide, ⟨by decide, fun i hi => absurd hi (Nat.not_lt_zero _), fun i k hi => absurd hi (Nat.not_lt_zero _)⟩, fun i hi => absurd hi (Nat.not_lt_zero _)⟩
  · exact ⟨by rw [e481]; exact stm, by rw [e684]; exact stm, fun _ e => absurd e (nst _ e481), fun _ e => absurd e (nst _ e684)⟩
  · exact ⟨by rw [e524]; exact stm, fun _ e => absurd e (nst _ e524), fun _ _ e => absurd e (nst _ e524)⟩
  · exact ⟨by rw [e604]; exact stm, fun _ e => absurd e (nst _ e604), fun _ _ e => absurd e (nst _ e604)⟩
  · exact fun j hj => i00_w ⟨j, hj⟩
  · exact ⟨Nat.le_refl _, Nat.le_refl _⟩
theorem fresh_43 : I00 118 = I00 43 := by
  rw [i00_z (d := 118) (by decide) (by decide) (by decide) (by decide) (by decide) (by decide) (by decide), i00_z (d := 43) (by decide) (by decide) (by decide) (by decide) (by decide) (by decide) (by decide)]
