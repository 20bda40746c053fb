/-! Chains: whether all can be carried out; broken, waiting. -/
def memC (I K : Nat → Nat → Int32) (p k : Nat) : Prop := chn I p k ∧ K 42 k = 2
noncomputable def gvn (I K : Nat → Nat → Int32) (p : Nat) (j : Nat) : Int32 := up (fun i a => if pB (memC I K p i) = true then a ||| (I 37 i ||| I 38 i) else a) j 0
theorem gvn_y {I K : Nat → Nat → Int32} {p j : Nat} (h : memC I K p j) : gvn I K p (j + 1) = gvn I K p j ||| (I 37 j ||| I 38 j) := by
  show (if pB (memC I K p j) = true then gvn I K p j ||| (I 37 j ||| I 38 j) else gvn I K p j) = _
  rw [if_pos (pB_t.mpr h)]
theorem gvn_n {I K : Nat → Nat → Int32} {p j : Nat} (h : ¬ memC I K p j) : gvn I K p (j + 1) = gvn I K p j := by
  show (if pB (memC I K p j) = true then gvn I K p j ||| (I 37 j ||| I 38 j) else gvn I K p j) = _
  rw [if_neg (fun e => h (pB_t.mp e))]
def okM (n : Nat) (I K : Nat → Nat → Int32) (p i : Nat) : Prop := gvn I K p i &&& (I 37 i ||| I 38 i) = 0 ∧ I 37 i &&& (hlds (K 4) (I 32 i) n ^^^ (-1)) = 0 ∧ I 38 i &&& (hlds (K 4) (I 33 i) n ^^^ (-1)) = 0
def canP (n : Nat) (I K : Nat → Nat → Int32) (p j : Nat) : Prop := ∀ i, i < j → memC I K p i → okM n I K p i
theorem canP_s {n p j : Nat} {I K : Nat → Nat → Int32} (h : canP n I K p j) (g : memC I K p j → okM n I K p j) : canP n I K p (j + 1) := fun i hi hm => by
  by_cases e : i = j
  · rw [e] at hm ⊢; exact g hm
  · exact h i (by omega) hm
section C3
variable {X : (Nat → Int32) × Nat} {mo : Bool} {G : Nat × Nat} {I A K : Nat → Nat → Int32} {J : Nat → Nat → Int64} {Q : Option Value → sm_M → Prop}
theorem c_37 {n m np p : Nat} (hp : ppS n m np I) (hf : fixC I K) (hpn : p < np) (hpo : ¬ I 42 p = -1) {L : Nat → Nat → Int32} (hL : eqC K L) (hY : canP n I K p np → Q (some (.int 1)) (sM mo G L J)) (hN : ¬ canP n I K p np → Q (some (.int 0)) (sM mo G L J)) : sm_wp X 37 0 [some (.ref 45), some (.int (zI p)), none, none, none, none] [] (sM mo G L J) Q := by
  have np60 := hp.2.2.1.2.2
  have kf : ∀ d, d = 31 ∨ d = 32 ∨ d = 33 ∨ d = 37 ∨ d = 38 → L d = I d := fun d h => by rw [hL d (by omega)]; exact hf.1 d (by omega) (by omega) (by omega) (by omega) (by omega) (by omega) (by omega) (by omega) (by omega)
  have e31 : L 31 0 = zI np := by rw [kf 31 (by decide)]; exact hp.2.2.1.1
  have en : L 1 0 = zI n := by rw [hL 1 (by decide), hf.2 0 (by decide) (by decide)]; exact hp.1.1
  have n12 := hp.1.2.2
  have e4 : L 4 = K 4 := hL 4 (by decide)
  have loop : ∀ d j, j + d = np → canP n I K p j → sm_wp X 37 4 [some (.ref 45), some (.int (zI p)), some (.int (gvn I K p j)), some (.int (zI j)), none, none] [] (sM mo G L J) Q := by
    intro d
    induction d with
    | zero =>
      intro j hj hc
      rw [lp_37_4, if_pos (by rw [e31, zI_le (by omega) (by omega)]; omega)]
      have : j = np := by omega
      rw [this] at hc
      exact hY hc
    | succ d ih =>
      intro j hj hc
      have ic := ioc hp hf hL hpn hpo (show j < np by omega)
      have hpj : hPap L (zI j) := by rw [hPap_vp e31 np60, zI_sIn (by omega) (by omega)]; omega
      have ap : ∀ (c : Nat) (d : Int32), aPap L c d (zI j) = L c j := fun c d => by
        unfold aPap
        rw [if_pos hpj, zI_cn (by omega)]
      rw [lp_37_4, if_neg (by rw [e31, zI_le (by omega) (by omega)]; omega), ap 42, ap 37, ap 38, ap 32, hL 42 (by decide), kf 37 (by decide), kf 38 (by decide), kf 32 (by decide), show zI j + 1 = zI (j + 1) from zIr_add 1 j]
      by_cases g : chn I p j
      · rw [if_neg (fun e => e (ic.mpr g))]
        by_cases g2 : K 42 j = 2
        · have mj : memC I K p j := ⟨g, g2⟩
          rw [if_neg (fun e => e g2)]
          have bad : ¬ okM n I K p j → Q (some (.int 0)) (sM mo G L J) := fun h => hN (fun e => h (e j (by omega) mj))
          by_cases o1 : gvn I K p j &&& (I 37 j ||| I 38 j) = 0
          · rw [if_neg (fun e => e o1), ct_landsHeld _ _ _ _ _ _ en n12, e4]
            simp only [tl_some]
            rw [lp_37_86, ap 33, kf 33 (by decide)]
            by_cases o2 : I 37 j &&& (hlds (K 4) (I 32 j) n ^^^ (-1)) = 0
            · rw [if_neg (fun e => e o2), ct_landsHeld _ _ _ _ _ _ en n12, e4]
              simp only [tl_some]
              rw [lp_37_109, show zI j + 1 = zI (j + 1) from zIr_add 1 j]
              by_cases o3 : I 38 j &&& (hlds (K 4) (I 33 j) n ^^^ (-1)) = 0
              · rw [if_pos o3, ← gvn_y mj]
                exact ih (j + 1) (by omega) (canP_s hc (fun _ => ⟨o1, o2, o3⟩))
              · rw [if_neg o3]
                exact bad (fun e => o3 e.2.2)
            · rw [if_pos o2]
              exact bad (fun e => o2 e.2.1)
          · rw [if_pos o1]
            exact bad (fun e => o1 e.1)
        · rw [if_pos g2]
          have nm : ¬ memC I K p j := fun e => g2 e.2
          rw [← gvn_n nm]
          exact ih (j + 1) (by omega) (canP_s hc (fun e => absurd e nm))
      · rw [if_pos (fun e => g (ic.mp e))]
        have nm : ¬ memC I K p j := fun e => g e.1
        rw [← gvn_n nm]
        exact ih (j + 1) (by omega) (canP_s hc (fun e => absurd e nm))
  rw [lp_37_0]
  exact loop np 0 (by omega) (fun i h => absurd h (Nat.not_lt_zero _))
theorem r_267 {n m np p : Nat} (hp : ppS n m np I) {T : Nat → Nat → Int32} (hT : cplR I A K T) (hc : cRw np p I T) (hY : canP n I K p np → Q (some (.int 1)) (sM mo G T J)) (hN : ¬ canP n I K p np → Q (some (.int 0)) (sM mo G T J)) : sm_wp X 267 0 [some (.ref 81), none, none, none] [] (sM mo G T J) Q := by
  have np60 := hp.2.2.1.2.2
  have q := hp.2.2.2.2.2.1
  have rf : ∀ d, d = 108 ∨ d = 109 ∨ d = 111 ∨ d = 112 → T d = I d := fun d h => hT.2.1 d (by omega) (by omega) (by omega) (by omega) (by omega) (by omega) (by omega) (by omega) (by omega)
  have e46 : T 81 46 = zI np := by rw [hT.2.2.1 46 (by decide) (by decide) (by decide)]; exact hp.2.2.1.2.1
  have en : T 81 3 = zI n := by rw [hT.2.2.1 3 (by decide) (by decide) (by decide)]; exact hp.1.2.1
  have n12 := hp.1.2.2
  have e85 : T 85 = K 4 := hT.2.2.2.2.1
  have e117 : T 117 = K 42 := hT.2.2.2.2.2.2.1
  have e108 : T 108 = I 32 := by rw [rf 108 (by decide)]; exact q.2.1
  have e109 : T 109 = I 33 := by rw [rf 109 (by decide)]; exact q.1
  have e111 : T 111 = I 37 := by rw [rf 111 (by decide)]; exact q.2.2.1
  have e112 : T 112 = I 38 := by rw [rf 112 (by decide)]; exact q.2.2.2.1
  have loop : ∀ d j, j + d = np → canP n I K p j → sm_wp X 267 4 [some (.ref 81), some (.int (gvn I K p j)), some (.int (zI j)), none] [] (sM mo G T J) Q := by
    intro d
    induction d with
    | zero =>
      intro j hj hca
      rw [lp_267_4, if_pos (by rw [e46, zI_le (by omega) (by omega)]; omega)]
      have : j = np := by omega
      rw [this] at hca
      exact hY hca
    | succ d ih =>
      intro j hj hca
      have v60 : vp_in (zI j) 60 := Eq.mpr (zI_vp (a := j) (n := 60) (by omega)) (by omega)
      have cj := hc.2 j (by omega)
      rw [lp_267_4, if_neg (by rw [e46, zI_le (by omega) (by omega)]; omega), zI_cn (by omega), e117, e111, e112, e108, show zI j + 1 = zI (j + 1) from zIr_add 1 j]
      refine ⟨v60, ?_⟩
      by_cases z : T 122 j = 0
      · rw [if_pos z]
        have nm : ¬ memC I K p j := fun e => by have := cj.mpr e.1; rw [z] at this; exact absurd this (by decide)
        rw [← gvn_n nm]
        exact ih (j + 1) (by omega) (canP_s hca (fun e => absurd e nm))
      · rw [if_neg z]
        have g := cj.mp ((hc.1 j (by omega)).resolve_left z)
        by_cases g2 : K 42 j = 2
        · have mj : memC I K p j := ⟨g, g2⟩
          rw [if_pos g2]
          have bad : ¬ okM n I K p j → Q (some (.int 0)) (sM mo G T J) := fun h => hN (fun e => h (e j (by omega) mj))
          by_cases o1 : gvn I K p j &&& (I 37 j ||| I 38 j) = 0
          · rw [if_pos o1, ct_Mholdings _ _ _ _ _ _ en n12, e85]
            simp only [tl_some]
            rw [lp_267_76, zI_cn (by omega), e109, e112]
            by_cases o2 : I 37 j &&& (hlds (K 4) (I 32 j) n ^^^ (-1)) = 0
            · rw [if_neg (fun e => e o2), ct_Mholdings _ _ _ _ _ _ en n12, e85]
              refine ⟨v60, ?_⟩
              simp only [tl_some]
              rw [lp_267_98, show zI j + 1 = zI (j + 1) from zIr_add 1 j]
              by_cases o3 : I 38 j &&& (hlds (K 4) (I 33 j) n ^^^ (-1)) = 0
              · rw [if_pos o3, ← gvn_y mj]
                exact ih (j + 1) (by omega) (canP_s hca (fun _ => ⟨o1, o2, o3⟩))
              · rw [if_neg o3]
                exact bad (fun e => o3 e.2.2)
            · rw [if_pos o2]
              exact bad (fun e => o2 e.2.1)
          · rw [if_neg o1]
            exact bad (fun e => o1 e.1)
        · rw [if_neg g2]
          have nm : ¬ memC I K p j := fun e => g2 e.2
          rw [← gvn_n nm]
          exact ih (j + 1) (by omega) (canP_s hca (fun e => absurd e nm))
  rw [lp_267_0]
  exact loop np 0 (by omega) (fun i h => absurd h (Nat.not_lt_zero _))
/-- broken; waiting -/
def brk (I K : Nat → Nat → Int32) (p k : Nat) : Prop := chn I p k ∧ (K 42 k = 3 ∨ K 42 k = 4 ∨ K 42 k = 6)
def wai (I K : Nat → Nat → Int32) (p k : Nat) : Prop := chn I p k ∧ (K 42 k = 0 ∨ K 42 k = 1)
theorem c_34f {n m np p : Nat} (hp : ppS n m np I) (hf : fixC I K) (hst : sta I K np) (hpn : p < np) (hpo : ¬ I 42 p = -1) {L : Nat → Nat → Int32} (hL : eqC K L)
    (hQ : ∀ x y : Int32, flg (brk I K p) np x → flg (wai I K p) np y → (if x = 0 then (if ¬ y = 0 then (Q none (sM mo G L J)) else (sm_wp X 36 0 [some (.ref 45), some (.int (zI p)), none] [] (sM mo G L J) (fun v M => sm_wp X 34 122 [some (.ref 45), some (.int (zI p)), some (.int x), some (.int y), some (.int (zI np)), none] (v.toList ++ []) M Q))) else (sm_wp X 35 0 [some (.ref 45), some (.int (zI p)), some (.int 6), none] [] (sM mo G L J) (fun v M => sm_wp X 34 110 [some (.ref 45), some (.int (zI p)), some (.int x), some (.int y), some (.int (zI np)), none] (v.toList ++ []) M Q)))) :
    sm_wp X 34 0 [some (.ref 45), some (.int (zI p)), none, none, none, none] [] (sM mo G L J) Q := by
  have np60 := hp.2.2.1.2.2
  have e31 : L 31 0 = zI np := by rw [hL 31 (by decide), hf.1 31 (by decide) (by decide) (by decide) (by decide) (by decide) (by decide) (by decide) (by decide) (by decide)]; exact hp.2.2.1.1
  have loop : ∀ d j (x y : Int32), j + d = np → flg (brk I K p) j x → flg (wai I K p) j y → sm_wp X 34 7 [some (.ref 45), some (.int (zI p)), some (.int x), some (.int y), some (.int (zI j)), none] [] (sM mo G L J) Q := by
    intro d
    induction d with
    | zero =>
      intro j x y hj hx hy
      have : j = np := by omega
      subst this
      rw [lp_34_7, if_pos (by rw [e31, zI_le (by omega) (by omega)]; exact Nat.le_refl _)]
      exact hQ x y hx hy
    | succ d ih =>
      intro j x y hj hx hy
      have ic := ioc hp hf hL hpn hpo (show j < np by omega)
      have hpj : hPap L (zI j) := by rw [hPap_vp e31 np60, zI_sIn (by omega) (by omega)]; omega
      have e42 : aPap L 42 (-1) (zI j) = K 42 j := by
        unfold aPap
        rw [if_pos hpj, zI_cn (by omega), hL 42 (by decide)]
      rw [lp_34_7, if_neg (by rw [e31, zI_le (by omega) (by omega)]; omega), e42, show zI j + 1 = zI (j + 1) from zIr_add 1 j]
      by_cases g : chn I p j
      · rw [if_neg (fun e => e (ic.mpr g))]
        obtain ⟨f, hf6, ef⟩ := ((hst j (by omega)).resolve_left (fun e => g.1 e.1)).2
        have fc : f = 0 ∨ f = 1 ∨ f = 2 ∨ f = 3 ∨ f = 4 ∨ f = 5 ∨ f = 6 := by omega
        have bn : ∀ z : Int32, K 42 j = z → ¬ (z = 3 ∨ z = 4 ∨ z = 6) → ∀ x, flg (brk I K p) j x → flg (brk I K p) (j + 1) x := fun z hz hn x h => flg_k h (fun e => hn (by rw [← hz]; exact e.2))
        have wn : ∀ z : Int32, K 42 j = z → ¬ (z = 0 ∨ z = 1) → ∀ x, flg (wai I K p) j x → flg (wai I K p) (j + 1) x := fun z hz hn x h => flg_k h (fun e => hn (by rw [← hz]; exact e.2))
        have by' : ∀ z : Int32, K 42 j = z → (z = 3 ∨ z = 4 ∨ z = 6) → flg (brk I K p) (j + 1) 1 := fun z hz hn => flg_s ⟨g, by rw [hz]; exact hn⟩
        have wy : ∀ z : Int32, K 42 j = z → (z = 0 ∨ z = 1) → flg (wai I K p) (j + 1) 1 := fun z hz hn => flg_s ⟨g, by rw [hz]; exact hn⟩
        have xx : x = 1 ∨ x = 0 := by rcases hx with h | h; exact Or.inl h.1; exact Or.inr h.1
        have yy : y = 1 ∨ y = 0 := by rcases hy with h | h; exact Or.inl h.1; exact Or.inr h.1
        rcases fc with rfl | rfl | rfl | rfl | rfl | rfl | rfl
        · rcases xx with rfl | rfl <;> rcases yy with rfl | rfl <;> rw [ef] <;> simp (decide := true) only [if_true, if_false] <;> exact ih (j + 1) _ _ (by omega) (bn _ ef (by decide) _ hx) (wy _ ef (by decide))
        · rcases xx with rfl | rfl <;> rcases yy with rfl | rfl <;> rw [ef] <;> simp (decide := true) only [if_true, if_false] <;> exact ih (j + 1) _ _ (by omega) (bn _ ef (by decide) _ hx) (wy _ ef (by decide))
        · rcases xx with rfl | rfl <;> rcases yy with rfl | rfl <;> rw [ef] <;> simp (decide := true) only [if_true, if_false] <;> exact ih (j + 1) _ _ (by omega) (bn _ ef (by decide) _ hx) (wn _ ef (by decide) _ hy)
        · rcases xx with rfl | rfl <;> rcases yy with rfl | rfl <;> rw [ef] <;> simp (decide := true) only [if_true, if_false] <;> exact ih (j + 1) _ _ (by omega) (by' _ ef (by decide)) (wn _ ef (by decide) _ hy)
        · rcases xx with rfl | rfl <;> rcases yy with rfl | rfl <;> rw [ef] <;> simp (decide := true) only [if_true, if_false] <;> exact ih (j + 1) _ _ (by omega) (by' _ ef (by decide)) (wn _ ef (by decide) _ hy)
        · rcases xx with rfl | rfl <;> rcases yy with rfl | rfl <;> rw [ef] <;> simp (decide := true) only [if_true, if_false] <;> exact ih (j + 1) _ _ (by omega) (bn _ ef (by decide) _ hx) (wn _ ef (by decide) _ hy)
        · rcases xx with rfl | rfl <;> rcases yy with rfl | rfl <;> rw [ef] <;> simp (decide := true) only [if_true, if_false] <;> exact ih (j + 1) _ _ (by omega) (by' _ ef (by decide)) (wn _ ef (by decide) _ hy)
      · rw [if_pos (fun e => g (ic.mp e))]
        exact ih (j + 1) x y (by omega) (flg_k hx (fun e => g e.1)) (flg_k hy (fun e => g e.1))
  rw [lp_34_0]
  exact loop np 0 0 0 (by omega) (flg_0 _) (flg_0 _)
theorem r_264f {n m np p : Nat} (hp : ppS n m np I) (hst : sta I K np) {T : Nat → Nat → Int32} (hT : cplR I A K T) (hc : cRw np p I T)
    (hQ : ∀ x y : Int32, flg (brk I K p) np x → flg (wai I K p) np y → (if x = 0 then (if y = 0 then (sm_wp X 267 0 [some (.ref 81), none, none, none] [] (sM mo G T J) (fun v M => sm_wp X 264 127 [some (.ref 81), none, some (.int x), some (.int y), some (.int (zI np)), none] (v.toList ++ []) M Q)) else (Q none (sM mo G T J))) else (sm_wp X 266 0 [some (.ref 81), some (.int 0), some (.int 2), some (.int 6), none] [] (sM mo G T J) (fun v M => sm_wp X 264 117 [some (.ref 81), none, some (.int x), some (.int y), some (.int (zI np)), none] (v.toList ++ []) M Q)))) :
    sm_wp X 264 12 [some (.ref 81), none, some (.int 0), some (.int 0), some (.int 0), none] [] (sM mo G T J) Q := by
  have np60 := hp.2.2.1.2.2
  have e46 : T 81 46 = zI np := by rw [hT.2.2.1 46 (by decide) (by decide) (by decide)]; exact hp.2.2.1.2.1
  have e117 : T 117 = K 42 := hT.2.2.2.2.2.2.1
  have loop : ∀ d j (x y : Int32), j + d = np → flg (brk I K p) j x → flg (wai I K p) j y → sm_wp X 264 12 [some (.ref 81), none, some (.int x), some (.int y), some (.int (zI j)), none] [] (sM mo G T J) Q := by
    intro d
    induction d with
    | zero =>
      intro j x y hj hx hy
      have : j = np := by omega
      subst this
      rw [lp_264_12, if_pos (by rw [e46, zI_le (by omega) (by omega)]; exact Nat.le_refl _)]
      exact hQ x y hx hy
    | succ d ih =>
      intro j x y hj hx hy
      have v60 : vp_in (zI j) 60 := Eq.mpr (zI_vp (a := j) (n := 60) (by omega)) (by omega)
      have cj := hc.2 j (by omega)
      rw [lp_264_12, if_neg (by rw [e46, zI_le (by omega) (by omega)]; omega), zI_cn (by omega), e117, show zI j + 1 = zI (j + 1) from zIr_add 1 j]
      refine ⟨v60, ?_⟩
      by_cases z : T 122 j = 0
      · have g : ¬ chn I p j := fun e => by have := cj.mpr e; rw [z] at this; exact absurd this (by decide)
        rw [if_neg (fun e => e z)]
        exact ih (j + 1) x y (by omega) (flg_k hx (fun e => g e.1)) (flg_k hy (fun e => g e.1))
      · have g := cj.mp ((hc.1 j (by omega)).resolve_left z)
        rw [if_pos z]
        obtain ⟨f, hf6, ef⟩ := ((hst j (by omega)).resolve_left (fun e => g.1 e.1)).2
        have fc : f = 0 ∨ f = 1 ∨ f = 2 ∨ f = 3 ∨ f = 4 ∨ f = 5 ∨ f = 6 := by omega
        have bn : ∀ z : Int32, K 42 j = z → ¬ (z = 3 ∨ z = 4 ∨ z = 6) → ∀ x, flg (brk I K p) j x → flg (brk I K p) (j + 1) x := fun z hz hn x h => flg_k h (fun e => hn (by rw [← hz]; exact e.2))
        have wn : ∀ z : Int32, K 42 j = z → ¬ (z = 0 ∨ z = 1) → ∀ x, flg (wai I K p) j x → flg (wai I K p) (j + 1) x := fun z hz hn x h => flg_k h (fun e => hn (by rw [← hz]; exact e.2))
        have by' : ∀ z : Int32, K 42 j = z → (z = 3 ∨ z = 4 ∨ z = 6) → flg (brk I K p) (j + 1) 1 := fun z hz hn => flg_s ⟨g, by rw [hz]; exact hn⟩
        have wy : ∀ z : Int32, K 42 j = z → (z = 0 ∨ z = 1) → flg (wai I K p) (j + 1) 1 := fun z hz hn => flg_s ⟨g, by rw [hz]; exact hn⟩
        have xx : x = 1 ∨ x = 0 := by rcases hx with h | h; exact Or.inl h.1; exact Or.inr h.1
        have yy : y = 1 ∨ y = 0 := by rcases hy with h | h; exact Or.inl h.1; exact Or.inr h.1
        rcases fc with rfl | rfl | rfl | rfl | rfl | rfl | rfl
        · rcases xx with rfl | rfl <;> rcases yy with rfl | rfl <;> rw [ef] <;> simp (decide := true) only [if_true, if_false] <;> exact ih (j + 1) _ _ (by omega) (bn _ ef (by decide) _ hx) (wy _ ef (by decide))
        · rcases xx with rfl | rfl <;> rcases yy with rfl | rfl <;> rw [ef] <;> simp (decide := true) only [if_true, if_false] <;> exact ih (j + 1) _ _ (by omega) (bn _ ef (by decide) _ hx) (wy _ ef (by decide))
        · rcases xx with rfl | rfl <;> rcases yy with rfl | rfl <;> rw [ef] <;> simp (decide := true) only [if_true, if_false] <;> exact ih (j + 1) _ _ (by omega) (bn _ ef (by decide) _ hx) (wn _ ef (by decide) _ hy)
        · rcases xx with rfl | rfl <;> rcases yy with rfl | rfl <;> rw [ef] <;> simp (decide := true) only [if_true, if_false] <;> exact ih (j + 1) _ _ (by omega) (by' _ ef (by decide)) (wn _ ef (by decide) _ hy)
        · rcases xx with rfl | rfl <;> rcases yy with rfl | rfl <;> rw [ef] <;> simp (decide := true) only [if_true, if_false] <;> exact ih (j + 1) _ _ (by omega) (by' _ ef (by decide)) (wn _ ef (by decide) _ hy)
        · rcases xx with rfl | rfl <;> rcases yy with rfl | rfl <;> rw [ef] <;> simp (decide := true) only [if_true, if_false] <;> exact ih (j + 1) _ _ (by omega) (bn _ ef (by decide) _ hx) (wn _ ef (by decide) _ hy)
        · rcases xx with rfl | rfl <;> rcases yy with rfl | rfl <;> rw [ef] <;> simp (decide := true) only [if_true, if_false] <;> exact ih (j + 1) _ _ (by omega) (by' _ ef (by decide)) (wn _ ef (by decide) _ hy)
  exact loop np 0 0 0 (by omega) (flg_0 _) (flg_0 _)
end C3
