def nkf (i a b c p ix : Nat) : Bool := Nat.blt a 13 && (Nat.blt b (cl_at a).2.2 && (wc p [0, mc i, ix, a, b] && Nat.beq (fcn a b) c))
def nkc (i a n : Nat) : Bool := (Nat.blt a 311 || Nat.beq a 314) && (Bool.not (Nat.beq a 205) && (Nat.ble ((mrm a).1 + 1) (mrm i).1 && (Nat.ble (8 + ((sm_mi a).2 + 11) + (mrm a).2) (mrm i).2 && Nat.beq (npr a) n)))
def nkb (i pc : Nat) (r : sm_R) (p : Nat) : Bool := match r with
  | (q, len, a, b, c, k, kl, sw) => match q with
    | .getfield ix => decide (decode (mb i) pc = .ok (q, len)) && (nkf i a b c p ix && decide (len = 3))
    | .putfield ix => decide (decode (mb i) pc = .ok (q, len)) && (nkf i a b c p ix && (decide (len = 3) && (!((cl_at a).2.1 b).2.2.2 || (decide ((my i).name = "<init>") && decide (((cl_at a).2.1 b).1 = (my i).cls)))))
    | .new ix => decide (decode (mb i) pc = .ok (q, len)) && (Nat.blt a 13 && (decide (b = (cl_at a).2.2) && (wc p [3, mc i, ix, a] && decide (len = 3))))
    | .invokevirtual ix => decide (decode (mb i) pc = .ok (q, len)) && (decide (len = 3) && (bif Nat.beq c 0 then nkc i a (b - 1) && (Nat.ble 1 b && (Nat.beq (mq a).1 0 && (wc p [1, mc i, ix, a] && (Nat.blt (sm_mi a).1 13 && Nat.beq (mc a) (sm_mi a).1)))) else decide (a ≤ 901) && kp i a b c p ix))
    | .invokestatic ix => decide (decode (mb i) pc = .ok (q, len)) && (decide (len = 3) && (bif Nat.beq c 1 then nkc i a b && (Nat.beq (mq a).1 1 && wc p [1, mc i, ix, a]) else bif Nat.beq c 2 then nkc i a b && (Nat.beq (mq a).1 1 && wc p [2, mc i, ix, a]) else decide (902 ≤ a) && kp i a b c p ix))
    | .invokespecial ix => decide (decode (mb i) pc = .ok (q, len)) && (decide (len = 3) && (bif Nat.beq c 3 then nkc i a (b - 1) && (Nat.ble 1 b && (Nat.beq (mq a).1 2 && (wc p [1, mc i, ix, a] && decide ((my a).name = "<init>")))) else decide (c = 4) && decide (b = 1) && wi p (.methodLink (my i).cls ix Lib.objectInit) && decide (1 ≤ (mrm i).1) && decide (20 ≤ (mrm i).2)))
    | _ => lkb i pc r p
theorem nlt {a b : Nat} (h : Nat.blt a b = true) : a < b := Nat.lt_of_lt_of_le (Nat.lt_succ_self a) (Nat.le_of_ble_eq_true h)
theorem nle {a b : Nat} (h : Nat.ble a b = true) : a ≤ b := Nat.le_of_ble_eq_true h
theorem neq {a b : Nat} (h : Nat.beq a b = true) : a = b := Nat.eq_of_beq_eq_true h
theorem nkf_ok {i a b c p ix : Nat} (hi : i < 316) (h : nkf i a b c p ix = true) : kf i a b c p ix = true := by
  have h1 := ba h
  have h2 := ba h1.2
  have h3 := ba h2.2
  have ha := nlt h1.1
  have hb := nlt h2.1
  unfold kf
  rw [decide_eq_true ha, decide_eq_true hb, wc_wi h3.1 (w := .fieldLink (my i).cls ix ((cl_at a).2.1 b).1 ((cl_at a).2.1 b).2.1 ((cl_at a).2.1 b).2.2.1) (by rw [mc_ok hi]; rfl) rfl, decide_eq_true ((fcn_ok ha hb).trans (neq h3.2))]
  rfl
theorem nkc_lt {i a n : Nat} (h : nkc i a n = true) : a < 315 := by
  have h1 := (ba h).1
  rw [Bool.or_eq_true] at h1
  rcases h1 with h1 | h1
  · have := nlt h1; omega
  · have := neq h1; omega
theorem nkc_ok {i a n : Nat} (h : nkc i a n = true) : kc i a n = true := by
  have hlt := nkc_lt h
  have h1 := ba h
  have h2 := ba h1.2
  have h3 := ba h2.2
  have h4 := ba h3.2
  have e1 : (decide (a < 311) || decide (a = 314)) = true := by
    have g := h1.1
    rw [Bool.or_eq_true] at g ⊢
    exact g.imp (fun z => decide_eq_true (nlt z)) (fun z => decide_eq_true (neq z))
  have e2 : a ≠ 205 := fun z => by
    have g := h2.1
    rw [z] at g
    cases g
  unfold kc
  rw [e1, decide_eq_true e2, decide_eq_true (nle h3.1), decide_eq_true (nle h4.1), decide_eq_true ((npr_ok (by omega)).trans (congrArg some (neq h4.2)))]
  rfl
theorem nkb_ok {i pc p : Nat} {r : sm_R} (hi : i < 316) (h : nkb i pc r p = true) : lkb i pc r p = true := by
  obtain ⟨q, len, a, b, c, k, kl, sw⟩ := r
  have hc := mc_ok hi
  cases q
  case getfield ix =>
    have h1 := ba h
    have h2 := ba h1.2
    show (decide (decode (mb i) pc = .ok (.getfield ix, len)) && (kf i a b c p ix && decide (len = 3))) = true
    rw [h1.1, nkf_ok hi h2.1, h2.2]
    rfl
  case putfield ix =>
    have h1 := ba h
    have h2 := ba h1.2
    have h3 := ba h2.2
    show (decide (decode (mb i) pc = .ok (.putfield ix, len)) && (kf i a b c p ix && decide (len = 3) && (!((cl_at a).2.1 b).2.2.2 || (decide ((my i).name = "<init>") && decide (((cl_at a).2.1 b).1 = (my i).cls))))) = true
    rw [h1.1, nkf_ok hi h2.1, h3.1, h3.2]
    rfl
  case new ix =>
    have h1 := ba h
    have h2 := ba h1.2
    have h3 := ba h2.2
    have h4 := ba h3.2
    show (decide (decode (mb i) pc = .ok (.new ix, len)) && (decide (a < 13) && decide (b = (cl_at a).2.2) && wi p (.classLink (my i).cls ix (cl_at a).1) && decide (len = 3))) = true
    rw [h1.1, decide_eq_true (nlt h2.1), h3.1, wc_wi h4.1 (w := .classLink (my i).cls ix (cl_at a).1) (by rw [hc]; rfl) rfl, h4.2]
    rfl
  case invokevirtual ix =>
    have h1 := ba h
    have h2 := ba h1.2
    show (decide (decode (mb i) pc = .ok (.invokevirtual ix, len)) && (decide (len = 3) && (bif Nat.beq c 0 then kc i a (b - 1) && decide (1 ≤ b) && decide ((mq a).1 = 0) && wi p (.methodLink (my i).cls ix (my a)) && decide ((sm_mi a).1 < 13) && decide ((cl_at (sm_mi a).1).1 = (my a).cls) else decide (a ≤ 901) && kp i a b c p ix))) = true
    rw [h1.1, h2.1]
    have h3 := h2.2
    cases hb : Nat.beq c 0 with
    | true =>
      rw [hb] at h3
      have h3 := ba h3
      have h4 := ba h3.2
      have h5 := ba h4.2
      have h6 := ba h5.2
      have h7 := ba h6.2
      have hlt := nkc_lt h3.1
      have e : (cl_at (sm_mi a).1).1 = (my a).cls := by rw [mc_ok (i := a) (by omega), neq h7.2]; exact cn_ok (nlt h7.1)
      simp only [cond_true]
      rw [nkc_ok h3.1, decide_eq_true (nle h4.1), decide_eq_true (neq h5.1), wc_wi h6.1 (w := .methodLink (my i).cls ix (my a)) (by rw [hc]; rfl) rfl, decide_eq_true (nlt h7.1), decide_eq_true e]
      rfl
    | false =>
      rw [hb] at h3
      have h3 := ba h3
      simp only [cond_false]
      rw [h3.1, h3.2]
      rfl
  case invokestatic ix =>
    have h1 := ba h
    have h2 := ba h1.2
    show (decide (decode (mb i) pc = .ok (.invokestatic ix, len)) && (decide (len = 3) && (bif Nat.beq c 1 then kc i a b && decide ((mq a).1 = 1) && wi p (.methodLink (my i).cls ix (my a)) else bif Nat.beq c 2 then kc i a b && decide ((mq a).1 = 1) && wn p (.methodLinkNest (my i).cls ix (my a) "PowersHouse") else decide (902 ≤ a) && kp i a b c p ix))) = true
    rw [h1.1, h2.1]
    have h3 := h2.2
    cases hb : Nat.beq c 1 with
    | true =>
      rw [hb] at h3
      have h3 := ba h3
      have h4 := ba h3.2
      simp only [cond_true]
      rw [nkc_ok h3.1, decide_eq_true (neq h4.1), wc_wi h4.2 (w := .methodLink (my i).cls ix (my a)) (by rw [hc]; rfl) rfl]
      rfl
    | false =>
      rw [hb] at h3
      simp only [cond_false] at h3 ⊢
      cases hb2 : Nat.beq c 2 with
      | true =>
        rw [hb2] at h3
        have h3 := ba h3
        have h4 := ba h3.2
        simp only [cond_true]
        rw [nkc_ok h3.1, decide_eq_true (neq h4.1), wc_wn h4.2 (w := .methodLinkNest (my i).cls ix (my a) "PowersHouse") (by rw [hc]; rfl)]
        rfl
      | false =>
        rw [hb2] at h3
        have h3 := ba h3
        simp only [cond_false]
        rw [h3.1, h3.2]
        rfl
  case invokespecial ix =>
    have h1 := ba h
    have h2 := ba h1.2
    show (decide (decode (mb i) pc = .ok (.invokespecial ix, len)) && (decide (len = 3) && (bif Nat.beq c 3 then kc i a (b - 1) && decide (1 ≤ b) && decide ((mq a).1 = 2) && wi p (.methodLink (my i).cls ix (my a)) && decide ((my a).name = "<init>") else decide (c = 4) && decide (b = 1) && wi p (.methodLink (my i).cls ix Lib.objectInit) && decide (1 ≤ (mrm i).1) && decide (20 ≤ (mrm i).2)))) = true
    rw [h1.1, h2.1]
    have h3 := h2.2
    cases hb : Nat.beq c 3 with
    | true =>
      rw [hb] at h3
      have h3 := ba h3
      have h4 := ba h3.2
      have h5 := ba h4.2
      have h6 := ba h5.2
      simp only [cond_true]
      rw [nkc_ok h3.1, decide_eq_true (nle h4.1), decide_eq_true (neq h5.1), wc_wi h6.1 (w := .methodLink (my i).cls ix (my a)) (by rw [hc]; rfl) rfl, h6.2]
      rfl
    | false =>
      rw [hb] at h3
      simp only [cond_false] at h3 ⊢
      rw [h3]
      rfl
  all_goals exact h
def nkm (i : Nat) : Bool := decide ((sm_pos i).length = (sm_code i).length) && ((sm_code i).zip (sm_pos i)).all (fun e => nkb i e.1.1 e.1.2.2 e.2)
theorem all_mono {α : Type} {l : List α} {f g : α → Bool} (h : ∀ x, f x = true → g x = true) (hf : l.all f = true) : l.all g = true := List.all_eq_true.mpr fun x hx => h x (List.all_eq_true.mp hf x hx)
theorem nkm_ok {i : Nat} (hi : i < 316) (h : nkm i = true) : lkm i = true := by
  have h1 := ba h
  unfold lkm
  rw [h1.1, all_mono (fun e he => nkb_ok hi he) h1.2]
  rfl
def nlw (i : Nat) : Bool := Bool.not (Nat.beq (mc i) 14) && (wc (mq i).2.2.2.2 [8, mc i] && (match (mq i).1 with
  | 0 => wc (mq i).2.2.1 [6, i] && wc (mq i).2.2.2.1 [9, i]
  | 1 => wc (mq i).2.2.1 [7, i]
  | _ => wc (mq i).2.2.1 [6, i]))
theorem nlw_ok {i : Nat} (hi : i < 316) (h : nlw i = true) : lkw i = true := by
  have h0 := ba h
  have h1 := ba h0.2
  have hc := mc_ok hi
  have hp := List.all_eq_true.mp cp_all (mc i) (List.mem_range.mpr (nlt (List.all_eq_true.mp mc_lt_all i (List.mem_range.mpr hi))))
  have hp : (decide (cn (mc i) ≠ "java/lang/invoke/MethodHandle") && decide (cn (mc i) ≠ "java/lang/invoke/VarHandle") && plainName (cn (mc i))) = true := by
    have g := h0.1
    cases hb : Nat.beq (mc i) 14 with
    | true => rw [hb] at g; cases g
    | false => rw [hb] at hp; exact hp
  have hp1 := ba hp
  have hp2 := ba hp1.1
  unfold lkw
  rw [wc_wi h1.1 (w := .initialized (my i).cls) (by rw [hc]; rfl) rfl, hc, hp2.1, hp2.2, hp1.2]
  simp only [Bool.true_and]
  have h2 := h1.2
  generalize (mq i).1 = z at h2 ⊢
  match z, h2 with
  | 0, h2 =>
    have h3 := ba h2
    show (wi (mq i).2.2.1 (.instanceMethod (my i)) && wi (mq i).2.2.2.1 (.selects (cn (mc i)) (my i) (my i))) = true
    rw [wc_wi h3.1 (w := .instanceMethod (my i)) rfl rfl, wc_wi h3.2 (w := .selects (cn (mc i)) (my i) (my i)) (by rw [← hc]; rfl) rfl]
    rfl
  | 1, h2 => exact wc_wi h2 (w := .static (my i)) rfl rfl
  | z + 2, h2 => exact wc_wi h2 (w := .instanceMethod (my i)) rfl rfl
