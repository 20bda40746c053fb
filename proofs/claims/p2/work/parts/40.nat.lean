/-! Small numbers, counted loops, bits. -/
def zI (n : Nat) : Int32 := Int32.ofNat n
theorem zI_ti {a : Nat} (h : a < 2147483648) : (zI a).toInt = a := Int32.toInt_ofNat_of_lt h
theorem zI_lt {a b : Nat} (ha : a < 2147483648) (hb : b < 2147483648) : (zI a < zI b) = (a < b) := propext (Int32.ofNat_lt_iff_lt ha hb)
theorem zI_le {a b : Nat} (ha : a < 2147483648) (hb : b < 2147483648) : (zI a ≤ zI b) = (a ≤ b) := propext (Int32.ofNat_le_iff_le ha hb)
theorem zI_eq {a b : Nat} (ha : a < 2147483648) (hb : b < 2147483648) : (zI a = zI b) = (a = b) := propext ⟨fun h => by
  have h2 := congrArg Int32.toInt h
  rw [zI_ti ha, zI_ti hb] at h2
  omega, fun h => by rw [h]⟩
theorem zI_cn {a : Nat} (ha : a < 2147483648) : (zI a).toNatClampNeg = a := Int32.toNatClampNeg_ofNat_of_lt ha
theorem zI_vp {a n : Nat} (ha : a < 2147483648) : vp_in (zI a) n = (a < n) := propext (by rw [vp_in_iff, zI_ti ha]; omega)
theorem zI_add (a b : Nat) : zI a + zI b = zI (a + b) := (Int32.ofNat_add a b).symm
theorem zI_mul (a b : Nat) : zI a * zI b = zI (a * b) := (Int32.ofNat_mul a b).symm
theorem zI_sub {a b : Nat} (h : b ≤ a) : zI a - zI b = zI (a - b) := (Int32.ofNat_sub a b h).symm
theorem zI_lit (c : Nat) : (no_index (OfNat.ofNat c) : Int32) = zI c := rfl
theorem zIl_add (c a : Nat) : (no_index (OfNat.ofNat c) : Int32) + zI a = zI ((OfNat.ofNat c : Nat) + a) := zI_add c a
theorem zIr_add (c a : Nat) : zI a + (no_index (OfNat.ofNat c) : Int32) = zI (a + (OfNat.ofNat c : Nat)) := zI_add a c
theorem zIl_mul (c a : Nat) : (no_index (OfNat.ofNat c) : Int32) * zI a = zI ((OfNat.ofNat c : Nat) * a) := zI_mul c a
theorem zIr_mul (c a : Nat) : zI a * (no_index (OfNat.ofNat c) : Int32) = zI (a * (OfNat.ofNat c : Nat)) := zI_mul a c
theorem zIr_sub {c a : Nat} (h : (OfNat.ofNat c : Nat) ≤ a) : zI a - (no_index (OfNat.ofNat c) : Int32) = zI (a - (OfNat.ofNat c : Nat)) := zI_sub h
theorem zIl_sub {c a : Nat} (h : a ≤ (OfNat.ofNat c : Nat)) : (no_index (OfNat.ofNat c) : Int32) - zI a = zI ((OfNat.ofNat c : Nat) - a) := zI_sub h
theorem zIl_lt {c a : Nat} (hc : (OfNat.ofNat c : Nat) < 2147483648) (ha : a < 2147483648) : ((no_index (OfNat.ofNat c) : Int32) < zI a) = ((OfNat.ofNat c : Nat) < a) := zI_lt hc ha
theorem zIr_lt {c a : Nat} (hc : (OfNat.ofNat c : Nat) < 2147483648) (ha : a < 2147483648) : (zI a < (no_index (OfNat.ofNat c) : Int32)) = (a < (OfNat.ofNat c : Nat)) := zI_lt ha hc
theorem zIl_le {c a : Nat} (hc : (OfNat.ofNat c : Nat) < 2147483648) (ha : a < 2147483648) : ((no_index (OfNat.ofNat c) : Int32) ≤ zI a) = ((OfNat.ofNat c : Nat) ≤ a) := zI_le hc ha
theorem zIr_le {c a : Nat} (hc : (OfNat.ofNat c : Nat) < 2147483648) (ha : a < 2147483648) : (zI a ≤ (no_index (OfNat.ofNat c) : Int32)) = (a ≤ (OfNat.ofNat c : Nat)) := zI_le ha hc
theorem zIl_eq {c a : Nat} (hc : (OfNat.ofNat c : Nat) < 2147483648) (ha : a < 2147483648) : ((no_index (OfNat.ofNat c) : Int32) = zI a) = ((OfNat.ofNat c : Nat) = a) := zI_eq hc ha
theorem zIr_eq {c a : Nat} (hc : (OfNat.ofNat c : Nat) < 2147483648) (ha : a < 2147483648) : (zI a = (no_index (OfNat.ofNat c) : Int32)) = (a = (OfNat.ofNat c : Nat)) := zI_eq ha hc
theorem zI_m1 {a : Nat} (ha : a < 2147483648) : (zI a = -1) = False := eq_false (fun h => by
  have h2 := congrArg Int32.toInt h
  rw [zI_ti ha] at h2
  have e : (-1 : Int32).toInt = -1 := by decide
  omega)
theorem zI_m1' {a : Nat} (ha : a < 2147483648) : (-1 = zI a) = False := by
  rw [show (-1 = zI a) = (zI a = -1) from propext ⟨Eq.symm, Eq.symm⟩]
  exact zI_m1 ha
theorem zI_ltm1 {a : Nat} (ha : a < 2147483648) : (zI a < -1) = False := eq_false (fun h => by
  rw [Int32.lt_iff_toInt_lt, zI_ti ha] at h
  have e : (-1 : Int32).toInt = -1 := by decide
  omega)
/-- a number that isn't negative is one of these -/
theorem zI_of {x : Int32} (h : ¬ x < 0) : ∃ a, a < 2147483648 ∧ x = zI a := by
  refine ⟨x.toNatClampNeg, Int32.toNatClampNeg_lt x, (Int32.ofNat_toNatClampNeg x ?_).symm⟩
  rw [Int32.lt_iff_toInt_lt] at h
  rw [Int32.le_iff_toInt_le]
  omega
/-- n turns of a counted loop -/
def up {α : Type} (f : Nat → α → α) : Nat → α → α
  | 0, a => a
  | n + 1, a => f n (up f n a)
theorem up_0 {α : Type} (f : Nat → α → α) (a : α) : up f 0 a = a := rfl
theorem up_s {α : Type} (f : Nat → α → α) (n : Nat) (a : α) : up f (n + 1) a = f n (up f n a) := rfl
theorem cnt {α : Type} (P : Nat → α → Prop) (f : Nat → α → α) (a : α) (N : Nat) (h : ∀ k, k < N → P k (up f k a) = P (k + 1) (f k (up f k a))) : P 0 a = P N (up f N a) := by
  induction N with
  | zero => rfl
  | succ n ih => rw [ih (fun k hk => h k (by omega)), h n (by omega)]; rfl
theorem up_ind {α : Type} {f : Nat → α → α} {a : α} {N : Nat} (R : Nat → α → Prop) (h0 : R 0 a) (hs : ∀ k, k < N → ∀ x, R k x → R (k + 1) (f k x)) : ∀ k, k ≤ N → R k (up f k a) := by
  intro k
  induction k with
  | zero => exact fun _ => h0
  | succ k ih => exact fun hk => hs k (by omega) _ (ih (by omega))
theorem up_rel {α β : Type} {f : Nat → α → α} {g : Nat → β → β} {a : α} {b : β} {N : Nat} (R : Nat → α → β → Prop) (h0 : R 0 a b) (hs : ∀ k, k < N → ∀ x y, R k x y → R (k + 1) (f k x) (g k y)) : ∀ k, k ≤ N → R k (up f k a) (up g k b) := by
  intro k
  induction k with
  | zero => exact fun _ => h0
  | succ k ih => exact fun hk => hs k (by omega) _ _ (ih (by omega))
theorem up_congr {α : Type} {f g : Nat → α → α} {a : α} {N : Nat} (h : ∀ k, k < N → ∀ x, f k x = g k x) : up f N a = up g N a := by
  induction N with
  | zero => rfl
  | succ n ih => rw [up_s, up_s, ih (fun k hk => h k (by omega)), h n (by omega)]
/-- rows over writes -/
theorem up2_ra {α : Type} (I : Nat → Nat → α) (a k : Nat) (v : α) : up2 I a k v a = va_up (I a) k v := by
  funext j
  rw [up2_ap, if_pos rfl]
  unfold va_up
  rfl
theorem up2_rn {α : Type} (I : Nat → Nat → α) (a k : Nat) (v : α) (c : Nat) (h : c ≠ a) : up2 I a k v c = I c := by
  funext j
  rw [up2_ap, if_neg h]
theorem va_ap {α : Type} (f : Nat → α) (k : Nat) (v : α) (j : Nat) : va_up f k v j = if j = k then v else f j := rfl
/-- bits -/
def bt (b : Int32) (k : Nat) : Bool := b.toBitVec.getLsbD k
def b1 (k : Nat) : Int32 := (1 : Int32) <<< (zI k &&& 31)
theorem bt_ext {a b : Int32} (h : ∀ k, k < 32 → bt a k = bt b k) : a = b := Int32.toBitVec_inj.mp (BitVec.eq_of_getLsbD_eq fun i hi => h i hi)
theorem bt_or (a b : Int32) (k : Nat) : bt (a ||| b) k = (bt a k || bt b k) := by simp [bt]
theorem bt_and (a b : Int32) (k : Nat) : bt (a &&& b) k = (bt a k && bt b k) := by simp [bt]
theorem bt_xor (a b : Int32) (k : Nat) : bt (a ^^^ b) k = (bt a k ^^ bt b k) := by simp [bt]
theorem bt_not (a : Int32) (k : Nat) (h : k < 32) : bt (~~~ a) k = !(bt a k) := by simp [bt, h]
theorem bt_0 (k : Nat) : bt 0 k = false := by simp [bt]
theorem bt_big (a : Int32) (k : Nat) (h : 32 ≤ k) : bt a k = false := BitVec.getLsbD_of_ge _ _ h
theorem bt_eq0 (a : Int32) : a = 0 ↔ ∀ k, k < 32 → bt a k = false := ⟨fun h k _ => by rw [h]; exact bt_0 k, fun h => bt_ext fun k hk => by rw [h k hk, bt_0]⟩
theorem sh_k : ∀ k : Fin 32, ((zI k.val &&& 31).toBitVec.smod 32) = BitVec.ofNat 32 k.val := by decide
theorem bt_b1 (k j : Nat) (hk : k < 32) (hj : j < 32) : bt (b1 k) j = decide (j = k) := by
  have h := (by decide : ∀ k j : Fin 32, bt (b1 k.val) j.val = decide (j.val = k.val))
  exact h ⟨k, hk⟩ ⟨j, hj⟩
theorem shr_bt (b : Int32) (k : Nat) (h : k < 32) : (b >>> (zI k &&& 31)) &&& 1 = if bt b k = true then 1 else 0 := by
  apply bt_ext
  intro i hi
  rw [bt_and]
  have e1 : bt (b >>> (zI k &&& 31)) i = if k + i < 32 then bt b (k + i) else b.toBitVec.msb := by
    unfold bt
    rw [Int32.toBitVec_shiftRight, sh_k ⟨k, h⟩]
    simp only [BitVec.sshiftRight', BitVec.toNat_ofNat, BitVec.getLsbD_sshiftRight]
    have : k % 2 ^ 32 = k := Nat.mod_eq_of_lt (by omega)
    rw [this]
    simp [hi]
  have e2 : bt 1 i = decide (i = 0) := by
    have h := (by decide : ∀ i : Fin 32, bt 1 i.val = decide (i.val = 0))
    exact h ⟨i, hi⟩
  rw [e1, e2]
  by_cases h0 : i = 0
  · subst h0
    simp only [Nat.add_zero, h, if_true, decide_true, Bool.and_true]
    cases bt b k with
    | true => rfl
    | false => rfl
  · simp only [h0, decide_false, Bool.and_false]
    split
    · rw [e2]; simp [h0]
    · rw [bt_0]
theorem sb_1 (b : Int32) (k : Nat) (h : k < 32) : ((b >>> (zI k &&& 31)) &&& 1 = 1) = (bt b k = true) := by
  rw [shr_bt b k h]
  cases bt b k with
  | true => simp
  | false => exact propext ⟨fun h => absurd h (by decide), fun h => by cases h⟩
theorem sb_0 (b : Int32) (k : Nat) (h : k < 32) : ((b >>> (zI k &&& 31)) &&& 1 = 0) = (bt b k = false) := by
  rw [shr_bt b k h]
  cases bt b k with
  | true => exact propext ⟨fun h => absurd h (by decide), fun h => by cases h⟩
  | false => simp
theorem hb_bt (b : Int32) (k : Nat) (h : k < 31) : hBit b (zI k) = (bt b k = true) := by
  unfold hBit
  rw [sb_0 b k (by omega)]
  rw [zIr_lt (c := 0) (a := k) (by decide) (by omega), zIl_le (c := 31) (a := k) (by decide) (by omega)]
  show (¬ k < 0 ∧ ¬ 31 ≤ k ∧ _) = _
  cases bt b k <;> simp <;> omega
/-- a memory with one row changed -/
def rw2 {α : Type} (I : Nat → Nat → α) (c : Nat) (r : Nat → α) : Nat → Nat → α := fun d => if d = c then r else I d
theorem rw2_a {α : Type} (I : Nat → Nat → α) (c : Nat) (r : Nat → α) : rw2 I c r c = r := if_pos rfl
theorem rw2_n {α : Type} (I : Nat → Nat → α) (c : Nat) (r : Nat → α) (d : Nat) (h : d ≠ c) : rw2 I c r d = I d := if_neg h
theorem up2_rw {α : Type} (I : Nat → Nat → α) (c k : Nat) (v : α) : up2 I c k v = rw2 I c (va_up (I c) k v) := by
  funext d
  by_cases h : d = c
  · subst h; rw [up2_ra, rw2_a]
  · rw [up2_rn _ _ _ _ _ h, rw2_n _ _ _ _ h]
theorem rw2_rw {α : Type} (I : Nat → Nat → α) (c : Nat) (r q : Nat → α) : rw2 (rw2 I c r) c q = rw2 I c q := by
  funext d
  by_cases h : d = c
  · subst h; rw [rw2_a, rw2_a]
  · rw [rw2_n _ _ _ _ h, rw2_n _ _ _ _ h, rw2_n _ _ _ _ h]
theorem rw2_self {α : Type} (I : Nat → Nat → α) (c : Nat) : rw2 I c (I c) = I := by
  funext d
  by_cases h : d = c
  · subst h; rw [rw2_a]
  · rw [rw2_n _ _ _ _ h]
abbrev sIn (x : Int32) (n : Nat) : Prop := ¬ x < 0 ∧ ¬ zI n ≤ x
theorem sIn_ti {x : Int32} {n : Nat} (hn : n < 2147483648) : sIn x n ↔ 0 ≤ x.toInt ∧ x.toInt < n := by
  unfold sIn
  rw [Int32.lt_iff_toInt_lt, Int32.le_iff_toInt_le, zI_ti hn]
  have e : (0 : Int32).toInt = 0 := by decide
  omega
theorem zI_sIn {a n : Nat} (ha : a < 2147483648) (hn : n < 2147483648) : sIn (zI a) n = (a < n) := by
  apply propext
  rw [sIn_ti hn, zI_ti ha]
  omega
theorem sIn_vp {x : Int32} {n c : Nat} (hn : n < 2147483648) (h : n ≤ c) (hx : sIn x n) : vp_in x c := by
  rw [sIn_ti hn] at hx
  rw [vp_in_iff]
  omega
theorem sIn_ex {x : Int32} {n : Nat} (h : sIn x n) : ∃ k, k < n ∧ k < 2147483648 ∧ x = zI k := by
  obtain ⟨k, hk, rfl⟩ := zI_of h.1
  refine ⟨k, ?_, hk, rfl⟩
  by_cases hn : n < 2147483648
  · rw [zI_sIn hk hn] at h
    exact h
  · omega
theorem vp_lt {x : Int32} {n : Nat} (hn : n < 2147483648) : (¬ x < 0 ∧ ¬ zI n ≤ x) = sIn x n := rfl
theorem vp_lt2 {x : Int32} {n c : Nat} (hn : n ≤ c) (hc : c < 2147483648) : (¬ x < 0 ∧ ¬ zI n ≤ x ∧ ¬ (no_index (OfNat.ofNat c) : Int32) ≤ x) = sIn x n := by
  rw [show (OfNat.ofNat c : Int32) = zI c from rfl]
  apply propext
  rw [sIn_ti (by omega), Int32.lt_iff_toInt_lt, Int32.le_iff_toInt_le, Int32.le_iff_toInt_le, zI_ti (show n < 2147483648 by omega), zI_ti hc]
  have e : (0 : Int32).toInt = 0 := by decide
  omega
