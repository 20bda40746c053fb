/-! What is meant: shares, settlements, rings. -/
/-- how many of the first six bits -/
def pc6 (x : Int32) : Nat := up (fun k a => if bt x k = true then a + 1 else a) 6 0
def ww (W : Nat → Int32) (s l : Nat) : Nat := (W (12 * s + l)).toNatClampNeg
def wA (W : Nat → Int32) (s : Nat) (A : Int32) (k : Nat) : Nat := up (fun l a => if bt A l = true then a + ww W s l else a) k 0
def okW (W : Nat → Int32) : Prop := ∀ j, ∃ w, w ≤ 99 ∧ W j = zI w
def rst (S A : Int32) : Int32 := S &&& (A ^^^ (-1))
def rv (B : Nat) (P : Nat → Prop) (x : Int32) : Prop := (x = -1 ∧ ∀ y, ¬ P y) ∨ ∃ z, z ≤ B ∧ x = zI z ∧ ∀ y, P y ↔ y ≤ z
def rch (W : Nat → Int32) (S : Int32) (a b k v y : Nat) : Prop := ∃ A : Int32, (∀ l, bt A l = true → bt S l = true) ∧ wA W a A k = v ∧ y ≤ wA W b (rst S A) k
def pr2 (a b : Nat) : Nat := b * (b - 1) / 2 + a
def sfp (W : Nat → Int32) (S : Int32) (a b v y : Nat) : Prop := ∃ u, v ≤ u ∧ rch W S a b 12 u y
def bth (r4 : Nat → Int32) (n a b : Nat) : Int32 := hlds r4 (zI a) n ||| hlds r4 (zI b) n
def cB (r4 W : Nat → Int32) (n a b x y : Nat) : Prop := ∃ A : Int32, (∀ l, bt A l = true → bt (bth r4 n a b) l = true) ∧ x < wA W a A 12 ∧ y < wA W b (rst (bth r4 n a b) A) 12
def nowN (r4 W : Nat → Int32) (n s : Nat) : Nat := wA W s (hlds r4 (zI s) n) n
def shP (r4 W r49 r50 r143 : Nat → Int32) (n a b T : Nat) : Prop := ∃ F, r49 (pr2 a b) = zI F ∧ r50 (pr2 a b) = zI (wA W a (bth r4 n a b) n) ∧ F + wA W a (bth r4 n a b) n < T ∧ ∀ v, v ≤ wA W a (bth r4 n a b) n → rv 1188 (sfp W (bth r4 n a b) a b v) (r143 (F + v))
def shT (r4 W : Nat → Int32) (v : Int32) (r49 r50 r143 : Nat → Int32) (n m : Nat) : Prop := (∀ c d, c < d → d < m → shP r4 W r49 r50 r143 n c d 5955) ∧ ∀ c d, c < d → d < 6 → (bt v (pr2 c d) = true ↔ d < m ∧ cB r4 W n c d (nowN r4 W n c) (nowN r4 W n d))
def cN (P : Nat → Bool) (k : Nat) : Nat := up (fun l a => if P l = true then a + 1 else a) k 0
def nt (P : Nat → Bool) (n j : Nat) : Nat := up (fun l a => if P l = true ∧ cN P l = j then l else a) n 0
def rp (c : Nat → Nat) (K k : Nat) : Nat := up (fun i a => a * c (K - 1 - i)) (K - k) 1
def dg (c : Nat → Nat) (K v k : Nat) : Nat := v / rp c K (k + 1) % c k
noncomputable def pB (p : Prop) : Bool := @decide p (Classical.propDecidable p)
def stD (r5 : Nat → Int32) (pr : Int32) (l : Nat) : Bool := decide (2 ≤ pc6 (r5 l &&& pr))
def dK (n : Nat) (r5 : Nat → Int32) (pr : Int32) : Nat := cN (stD r5 pr) n
def dl (n : Nat) (r5 : Nat → Int32) (pr : Int32) (j : Nat) : Nat := nt (stD r5 pr) n j
def clB (n : Nat) (r5 : Nat → Int32) (pr : Int32) (j : Nat) : Int32 := r5 (dl n r5 pr j) &&& pr
def rd (n : Nat) (r5 : Nat → Int32) (pr : Int32) (j : Nat) : Nat := cN (bt (clB n r5 pr j)) 6
def bdN (m : Nat) (r12 : Nat → Int32) (s : Nat) : Nat := if s < m then (r12 s).toNatClampNeg else 0
def fxd (r5 : Nat → Int32) (pr : Int32) (n : Nat) : Int32 := up (fun l b => if stD r5 pr l = true then b else b ||| b1 l) n 0
def sur (n : Nat) (r4 r5 W : Nat → Int32) (pr : Int32) (s : Nat) : Nat := wA W s (hlds r4 (zI s) n &&& fxd r5 pr n) n
def gsm (n : Nat) (r5 W : Nat → Int32) (pr : Int32) (ch : Nat → Int32) (K s : Nat) : Nat := up (fun k a => if ch k = zI s then a + ww W s (dl n r5 pr k) else a) K 0
def gtC (n : Nat) (r4 r5 W : Nat → Int32) (pr : Int32) (ch : Nat → Int32) (s : Nat) : Nat := sur n r4 r5 W pr s + gsm n r5 W pr ch (min 8 (dK n r5 pr)) s
def sv (n : Nat) (r5 : Nat → Int32) (pr : Int32) (v k : Nat) : Nat := nt (bt (clB n r5 pr k)) 6 (dg (rd n r5 pr) (dK n r5 pr) v k)
def svC (n : Nat) (r5 : Nat → Int32) (pr : Int32) (v : Nat) : Nat → Int32 := fun k => zI (sv n r5 pr v k)
def gv (n : Nat) (r4 r5 W : Nat → Int32) (pr : Int32) (v : Nat) : Nat → Nat := gtC n r4 r5 W pr (svC n r5 pr v)
def rws (n : Nat) (r5 : Nat → Int32) (pr : Int32) : Nat := rp (rd n r5 pr) (dK n r5 pr) 0
def frC (m : Nat) (r12 : Nat → Int32) (pr : Int32) (g : Nat → Nat) : Prop := ∀ s, s < 6 → bt pr s = true → bdN m r12 s ≤ g s
def stbC (n : Nat) (r4 W : Nat → Int32) (pr : Int32) (g : Nat → Nat) : Prop := (∀ s, s < 6 → bt pr s = true → nowN r4 W n s ≤ g s) ∧ ∀ a b, a < b → b < 6 → bt pr a = true → bt pr b = true → ¬ cB r4 W n a b (g a) (g b)
def lsG (m : Nat) (r12 : Nat → Int32) (pr : Int32) (g : Nat → Nat) (k : Nat) : Nat := up (fun s a => if bt pr s = true then (if g s - bdN m r12 s < a then g s - bdN m r12 s else a) else a) k 1188
def smG (pr : Int32) (g : Nat → Nat) (k : Nat) : Nat := up (fun s a => if bt pr s = true then a + g s else a) k 0
def kpI (pr : Int32) (bd g : Nat → Nat) (k : Nat) : Int32 := up (fun s b => if bt pr s = true ∧ bd s ≤ g s then b ||| b1 s else b) k 0
def bttr (ls sm : Nat → Nat) (o : Option Nat) (v : Nat) : Prop := match o with
  | none => True
  | some u => ls u < ls v ∨ (ls v = ls u ∧ sm u < sm v)
noncomputable def bst (P : Nat → Prop) (ls sm : Nat → Nat) : Nat → Option Nat
  | 0 => none
  | v + 1 => if pB (P v ∧ bttr ls sm (bst P ls sm v) v) = true then some v else bst P ls sm v
def lb (x : Int64) (k : Nat) : Bool := x.toBitVec.getLsbD k
def bsI (n m : Nat) (r4 r5 r12 W : Nat → Int32) (pr : Int32) (o : Option Nat) (a b : Int32) (r59 : Nat → Int32) : Prop := match o with
  | none => a = -1
  | some u => a = zI (lsG m r12 pr (gv n r4 r5 W pr u) 6) ∧ b = zI (smG pr (gv n r4 r5 W pr u) 6) ∧ ∀ j, j < dK n r5 pr → r59 j = svC n r5 pr u j
def isB (n m : Nat) (r4 r5 r12 W : Nat → Int32) (pr : Int32) (u : Nat) : Prop := ¬ pr = 0 ∧ frC m r12 pr (gv n r4 r5 W pr u) ∧ stbC n r4 W pr (gv n r4 r5 W pr u)
noncomputable def bstS (n m : Nat) (r4 r5 r12 W : Nat → Int32) (pr : Int32) (v : Nat) : Option Nat := bst (isB n m r4 r5 r12 W pr) (fun u => lsG m r12 pr (gv n r4 r5 W pr u) 6) (fun u => smG pr (gv n r4 r5 W pr u) 6) v
noncomputable def nFr (n m : Nat) (r4 r5 r12 W : Nat → Int32) (pr : Int32) (v : Nat) : Nat := cN (fun u => pB (frC m r12 pr (gv n r4 r5 W pr u))) v
noncomputable def nSt (n m : Nat) (r4 r5 r12 W : Nat → Int32) (pr : Int32) (v : Nat) : Nat := cN (fun u => pB (frC m r12 pr (gv n r4 r5 W pr u) ∧ stbC n r4 W pr (gv n r4 r5 W pr u))) v
def RI (n m : Nat) (r4 r5 r12 W : Nat → Int32) (pr : Int32) (v : Nat) (r52 r59 : Nat → Int32) (j : Int64) : Prop := r52 13 = zI v ∧ r52 14 = zI (nFr n m r4 r5 r12 W pr v) ∧ r52 15 = zI (nSt n m r4 r5 r12 W pr v) ∧
  (∀ k, k < 64 → (lb j k = true ↔ ∃ u, u < v ∧ kpI pr (bdN m r12) (gv n r4 r5 W pr u) 6 = zI k)) ∧ bsI n m r4 r5 r12 W pr (bstS n m r4 r5 r12 W pr v) (r52 17) (r52 18) r59
def srD (n m : Nat) (r4 r5 r12 W : Nat → Int32) (pr : Int32) (r52 r53 r59 : Nat → Int32) (j : Int64) : Prop := r52 2 = pr ∧ r52 5 = zI (dK n r5 pr) ∧ (∀ k, k < 8 → k < dK n r5 pr → r53 k = zI (dl n r5 pr k)) ∧ (8 < dK n r5 pr → r52 14 = 0 ∧ r52 17 = -1) ∧ (dK n r5 pr ≤ 8 → RI n m r4 r5 r12 W pr (rws n r5 pr) r52 r59 j)
/-- the first of two rows by its places -/
def lxL (N : Nat) (x y : Nat → Nat) : Prop := ∃ i, i < N ∧ (∀ j, j < i → x j = y j) ∧ x i < y i
def rgM (pr : Int32) (N : Nat) (M : Nat → Nat) : Prop := (∀ i, i < N → M i < 6 ∧ bt pr (M i) = true) ∧ (∀ i, i < N → 0 < i → M 0 < M i) ∧ ∀ i j, i < N → j < i → ¬ M i = M j
def rgL (n : Nat) (r4 W : Nat → Int32) (N : Nat) (M L : Nat → Nat) : Prop := (∀ i, i < N → L i < n ∧ r4 (L i) = zI (M i)) ∧ (∀ i, i < N → 0 < i → ww W (M i) (L i) < ww W (M i) (L (i - 1))) ∧ ww W (M 0) (L 0) < ww W (M 0) (L (N - 1))
/-- the first ring of a length -/
def rgF (n : Nat) (r4 W : Nat → Int32) (pr : Int32) (N : Nat) (M L : Nat → Nat) : Prop := rgM pr N M ∧ rgL n r4 W N M L ∧ (∀ M' L', rgM pr N M' → rgL n r4 W N M' L' → ¬ lxL N M' M) ∧ ∀ L', rgL n r4 W N M L' → ¬ lxL N L' L
def rgN (n : Nat) (r4 W : Nat → Int32) (pr : Int32) (N : Nat) : Prop := ∀ M L, rgM pr N M → ¬ rgL n r4 W N M L
def rgR (n : Nat) (r4 W : Nat → Int32) (pr : Int32) (len : Nat) (M L : Nat → Nat) : Prop := (len = 0 ∧ ∀ N, 2 ≤ N → N ≤ 4 → rgN n r4 W pr N) ∨ (2 ≤ len ∧ len ≤ 4 ∧ (∀ N, 2 ≤ N → N < len → rgN n r4 W pr N) ∧ rgF n r4 W pr len M L)
/-! What is meant: orders, as codes behind what they work on. -/
/-- how much a code works on -/
def ar (c : Nat) : Nat := if 100 ≤ c ∨ (7 ≤ c ∧ c < 19) then 0 else if c = 4 ∨ c = 33 then 1 else 2
/-- how high the stack is after k codes from place f; which nodes stand there -/
def hg (c : Nat → Nat) (f : Nat) : Nat → Nat
  | 0 => 0
  | k + 1 => hg c f k - ar (c (f + k)) + 1
def hs (c gb : Nat → Nat) (f : Nat) : Nat → Nat → Nat
  | 0 => fun _ => 0
  | k + 1 => va_up (hs c gb f k) (hg c f k - ar (c (f + k))) (gb (f + k))
/-- there is enough for each code -/
def pL (c : Nat → Nat) (f e : Nat) : Prop := ∀ k, f + k < e → ar (c (f + k)) ≤ hg c f k
/-- where a line starts -/
def ls (le : Nat → Nat) (i : Nat) : Nat := if i = 0 then 0 else le (i - 1)
def vcd (c : Nat) : Prop := (100 ≤ c ∧ c ≤ 100099) ∨ (7 ≤ c ∧ c < 19) ∨ c = 33 ∨ c = 4 ∨ c = 5 ∨ c = 6 ∨ (19 ≤ c ∧ c ≤ 29)
/-- a code as the reference has it -/
def kdc (c : Nat) : Nat := if 100 ≤ c then 0 else if 7 ≤ c ∧ c < 19 then 16 else if c = 33 then 12 else if c = 4 then 13 else if c = 5 then 14 else if c = 6 then 15 else if c < 24 then c - 12 else c - 23
def amc (c : Nat) : Nat := if 100 ≤ c then c - 100 else if 7 ≤ c ∧ c < 19 then c - 7 else 0
/-- the links of the nodes, b behind the rows' start -/
def rL (b f e : Nat) (c gb : Nat → Nat) (r95 r96 : Nat → Int32) : Prop := ∀ k, f + k < e → (ar (c (f + k)) = 1 → r95 (b + gb (f + k)) = zI (b + hs c gb f k (hg c f k - 1))) ∧
  (ar (c (f + k)) = 2 → r96 (b + gb (f + k)) = zI (b + hs c gb f k (hg c f k - 1)) ∧ r95 (b + gb (f + k)) = zI (b + hs c gb f k (hg c f k - 2)))
def bkL (s : Nat) (c gb vb le : Nat → Nat) (T : Nat) (r24 r25 q95 q96 q99 q100 q101 : Nat → Int32) (i : Nat) : Prop := r24 (16 * s + i) = zI (vb i) ∧ q99 (16 * s + i) = zI (vb i) ∧ vb i ≤ 3 ∧ r25 (16 * s + i) = zI (le i) ∧ q100 (16 * s + i) = zI (ls le i) ∧ q101 (16 * s + i) = zI (le i - ls le i) ∧
  ls le i ≤ le i ∧ le i ≤ T ∧ pL c (ls le i) (le i) ∧ hg c (ls le i) (le i - ls le i) = 1 ∧ rL (64 * s) (ls le i) (le i) c gb q95 q96
def bkC (s T : Nat) (c gb : Nat → Nat) (r23 q94 q97 q98 : Nat → Int32) : Prop := T ≤ 64 ∧ (∀ i, i < T → r23 (64 * s + i) = zI (c i) ∧ vcd (c i) ∧ q98 (64 * s + i) = zI (64 * s + gb i) ∧ gb i < 64 ∧ q94 (64 * s + gb i) = zI (kdc (c i)) ∧ q97 (64 * s + gb i) = zI (amc (c i))) ∧ ∀ i k, i < T → k < T → gb i = gb k → i = k
/-- the book of one state -/
def bkS (s : Nat) (r22 r23 r24 r25 q94 q95 q96 q97 q98 q99 q100 q101 q102 : Nat → Int32) : Prop := ∃ (m : Nat) (c gb vb le : Nat → Nat), r22 s = zI m ∧ q102 s = zI m ∧ m ≤ 16 ∧ bkC s (ls le m) c gb r23 q94 q97 q98 ∧ ∀ i, i < m → bkL s c gb vb le (ls le m) r24 r25 q95 q96 q99 q100 q101 i
