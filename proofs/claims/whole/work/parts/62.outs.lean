/-! ===== what each call leaves as it was ===== -/
theorem inV_hi {N q : Nat} {h : Int32} (hq : 123 ≤ q) : ∀ m i V, i + m ≤ 8 → inV N h m i V q = V q := by
  intro m
  induction m with
  | zero => intro i V _; rfl
  | succ m ih =>
    intro i V hi
    show inV N h m (i + 1) _ q = _
    rw [ih _ _ (by omega), phV_out (by unfold Rout; omega)]
theorem ouV_hi {N R q : Nat} (hq : 123 ≤ q) (hR : R ≤ 8) : ∀ m V, ouV N R m V q = V q := by
  intro m
  induction m with
  | zero => intro V; rfl
  | succ m ih =>
    intro V
    show ouV N R m _ q = _
    rw [ih]
    unfold alV
    rw [jv_U_other (by omega), inV_hi hq _ _ _ (by omega)]
theorem shuV_hi {V : Nat → Nat → Int32} {N K f q : Nat} {b : Int32} (hq : 123 ≤ q) (hN : N ≤ 12) : shuV V N K f b q = V q := by
  unfold shuV
  rw [layV_out (by omega), jv_U_other (by omega)]
theorem bsL_hi {N K j q : Nat} (hq : 123 ≤ q) (hN : N ≤ 12) : ∀ m i V b l, (bsL N K j m i V b l).1 q = V q := by
  intro m
  induction m with
  | zero => intro i V b l; rfl
  | succ m ih =>
    intro i V b l
    have o : shoV V N K j i q = V q := by
      unfold shoV shtV
      rw [shuV_hi hq hN, triV_out (by omega), shuV_hi hq hN]
    unfold bsL
    split
    · exact ih _ _ _ _
    · split
      · rw [ih, o]
      · rw [ih, o]
theorem letL_hi {V : Nat → Nat → Int32} {N K l q : Nat} {b : Int32} (hq : 123 ≤ q) (hN : N ≤ 12) (hl : l < 4) : letL V N K l b q = V q := by
  unfold letL
  rw [layV_out (by omega), jv_U_other (by omega)]
theorem gbV_hi {V : Nat → Nat → Int32} {N K l f q : Nat} (hq : 123 ≤ q) (hN : N ≤ 12) (hl : l < 4) : gbV V N K l f q = V q := by
  unfold gbV gb2 gb1
  rw [letL_hi hq hN hl, fndC_out (by omega), letL_hi hq hN hl, fndC_out (by omega), letL_hi hq hN hl]
theorem gm2_lo {W : Nat → Nat → Int32} {N K l f q : Nat} (hq : q ≤ 123) : gm2 W N K l f q = t0 W q := by
  unfold gm2 wwV wwM gm1 wwV wwM
  rw [jv_U_other (by omega), wayM_out (by omega), jv_U_other (by omega), jv_U_other (by omega), wayM_out (by omega), jv_U_other (by omega)]
theorem wrX_hi {V : Nat → Nat → Int32} {N K j q : Nat} (hq : 123 ≤ q) (hN : N ≤ 12) : (wrX V N K j).1 q = V q := by
  unfold wrX
  rw [bsL_hi hq hN, triV_out (by omega)]
  unfold wr3
  rw [bdV_out (by omega), triD_out (by omega)]
  unfold wr2 wr1
  rw [triV_out (by omega), triV_out (by omega)]
theorem dgR_hi {N K q : Nat} (hq : 123 ≤ q) (hN : N ≤ 12) : ∀ m i V d, (dgR N K m i V d).1 q = V q := by
  intro m
  induction m with
  | zero => intro i V d; rfl
  | succ m ih =>
    intro i V d
    unfold dgR
    rw [ih, wrX_hi hq hN]
theorem dgX_hi {V : Nat → Nat → Int32} {N K R q : Nat} (hq : 123 ≤ q) (hN : N ≤ 12) : (dgX V N K R).1 q = V q := by
  unfold dgX
  rw [dgR_hi hq hN, dgG_out (by omega)]
theorem rmL_lo {W : Nat → Nat → Int32} {N K n r q : Nat} (hq : q ≤ 123) (hn : 140 < n) : rmL W N K n r q = W q := by
  have f : rmF W N K n r q = W q := by
    unfold rmF qtM
    rw [jv_U_other (by omega), bbM_out (by omega), qtL_o (by omega), kpM_out (by omega)]
    unfold rmD rmC rmB rmA
    rw [jv_U_other (by omega), jv_U_other (by omega), jv_U_other (by omega), jv_U_other (by omega), jv_U_other (by omega), NV_o (by omega)]
  unfold rmL
  rw [jv_U_other (by omega), shX_o (by omega) (by omega) (by omega)]
  unfold rmJ
  rw [jv_U_other (by omega), dnX_o (by omega) (by omega)]
  unfold rmH
  rw [jv_U_other (by omega), bbM_out (by omega), ieM_out (by omega), f]
theorem fmF_lo {W : Nat → Nat → Int32} {N K n i q : Nat} (hq : q ≤ 123) (hn : 140 < n) : fmF W N K n i q = W q := by
  unfold fmF fmE fmD fmC fmB fmA
  rw [jv_U_other (by omega), wayM_out (by omega), jv_U_other (by omega), wayM_out (by omega), jv_U_other (by omega), jv_U_other (by omega), jv_U_other (by omega), NV_o (by omega)]
theorem dmF_lo {N K q : Nat} (hq : q ≤ 123) : ∀ m i n W d, 140 < n → (dmF N K m i n W d).1 q = W q := by
  intro m
  induction m with
  | zero => intro i n W d _; rfl
  | succ m ih =>
    intro i n W d hn
    unfold dmF
    rw [ih _ _ _ _ (by omega), fmF_lo hq hn]
theorem dmR_lo {N K q : Nat} (hq : q ≤ 123) : ∀ m i n W d, 140 < n → (dmR N K m i n W d).1 q = W q := by
  intro m
  induction m with
  | zero => intro i n W d _; rfl
  | succ m ih =>
    intro i n W d hn
    unfold dmR
    rw [ih _ _ _ _ (by omega), rmL_lo hq hn]
theorem daX_lo {W : Nat → Nat → Int32} {N K R n q : Nat} (hq : q ≤ 123) (hn : 140 < n) : (daX W N K R n).1 q = t0 W q := by
  unfold daX
  rw [dmR_lo hq _ _ _ _ _ (by omega)]
  unfold daF
  rw [dmF_lo hq _ _ _ _ _ (by omega)]
  unfold da3 da2
  rw [jv_U_other (by omega), pnL_out (by omega), jv_U_other (by omega), mdL_out (by omega)]
  unfold da1
  rw [jv_U_other (by omega), jv_U_other (by omega), jv_U_other (by omega), jv_U_other (by omega), NV_o (by omega)]
theorem anM_0 {V : Nat → Nat → Int32} {m : Nat} : anM V m 123 0 = V 123 0 := by
  unfold anM
  rw [anI_o (by omega), jv_Unj (by omega), jv_Unj (by omega), jv_Unj (by omega)]
theorem adM_0 {V : Nat → Nat → Int32} {K lo hi ev : Nat} {w : Int32} : adM V K lo hi ev w 123 0 = V 123 0 := by
  unfold adM
  rw [jv_Unj (by omega), jv_U_other (by omega), jv_U_other (by omega), jv_U_other (by omega), jv_U_other (by omega), jv_U_other (by omega)]
theorem srM_0 {V : Nat → Nat → Int32} {R f : Nat} {y : Int32} : srM V R f y 123 0 = V 123 0 := by
  unfold srM
  rw [heM_out (by omega), clL_o (by omega), jv_U_other (by omega), jv_U_other (by omega), jv_Unj (by omega)]
theorem t0_0 {V : Nat → Nat → Int32} : t0 V 123 0 = nI 0 := jv_Ueq
theorem UL_eq {L : Nat → Nat → Int64} {p i : Nat} {x : Int64} : jv_UL L p i x p i = x := by
  unfold jv_UL
  rw [if_pos rfl, if_pos rfl]
/-- what a lift serves -/
theorem INV.sv {V W : Nat → Nat → Int32} {N K R t l f : Nat} (H : INV V W N K R t) (hl : l < K) (hf : f < N) : (V (20 + 2 * l + 1) f = 0 ∨ V (20 + 2 * l + 1) f = 1) ∧ svB W l (nI f) = decide (¬ V (20 + 2 * l + 1) f = 0) := by
  have hN := H.N12
  have hK := H.K4
  obtain ⟨lo, hi, ev, wt, e1, e2, e3, e4, c1, c2, c3, c4, c5, c6, c7, -⟩ := H.2.2.2.2.1.1 l hl
  rw [mg_hi (by omega)] at e1 e2 e3
  have c := c7 f (by omega)
  rw [mg_lo (by omega)] at c
  refine ⟨?_, ?_⟩
  · rw [c]
    unfold stp
    split
    · exact Or.inr nI1_1
    · exact Or.inl nI_0
  · rw [c]
    exact svB_stp e1 e2 e3 c1 c2 c3 (by omega) (by omega)
theorem smL_alike {V W : Nat → Nat → Int32} (h : ∀ f, f < 12 → V 2 f = W 124 f ∧ ∃ a, W 124 f = nI a ∧ a ≤ 99) : ∀ m i s, i + m ≤ 12 → s ≤ 99 * i → smL V m i (nI s) = smM W m i (nI s) ∧ ∃ s', smM W m i (nI s) = nI s' ∧ s' ≤ 99 * (i + m) := by
  intro m
  induction m with
  | zero => intro i s _ hs; exact ⟨rfl, s, rfl, hs⟩
  | succ m ih =>
    intro i s hi hs
    obtain ⟨h1, a, h2, h3⟩ := h i (by omega)
    unfold smL smM
    rw [h1, h2, nI_add]
    obtain ⟨k1, s', k2, k3⟩ := ih (i + 1) (s + a) (by omega) (by omega)
    exact ⟨k1, s', k2, by omega⟩
theorem j_wk {g : jv_G} {X : jv_X} {I : jv_I} {pc n : Nat} {ls : List (Option Value)} {st : List Value} {sh : Nat → jv_S} {V : Nat → Nat → Int32} {L : Nat → Nat → Int64} {k z k' z' : Nat} (hk : k' ≤ k) (hz : z' ≤ z) (kk : jv_J g X I pc ls st n sh V L k' z') : jv_J g X I pc ls st n sh V L k z := by
  obtain ⟨p, l, e, R, s, m, args, below, meth, c, Q⟩ := X
  intro hC lsA H locs cells slots hP hS hl hc hs
  exact kk hC lsA H locs cells slots hP hS hl (by omega) (by omega)
theorem fl (x : Int32) {n : Nat} (hn : n < 2 ^ 31) : (x < 0 ∨ nI n ≤ x) ∨ ∃ j, j < n ∧ x = nI j := by
  rcases pk_ix x hn with h | h | h
  · exact Or.inl (Or.inl h)
  · exact Or.inl (Or.inr h)
  · exact Or.inr h
theorem rg (x : Int32) (lo hi : Nat) (hh : hi < 2 ^ 31) (hl : lo ≤ hi) : (x < nI lo ∨ nI hi < x) ∨ (¬ x < nI lo ∧ x ≤ nI hi ∧ ∃ a, x = nI a ∧ lo ≤ a ∧ a ≤ hi) := by
  by_cases h1 : x < nI lo
  · exact Or.inl (Or.inl h1)
  · by_cases h2 : nI hi < x
    · exact Or.inl (Or.inr h2)
    · refine Or.inr ⟨h1, Int32.not_lt.mp h2, ?_⟩
      have h0 : ¬ x < 0 := fun h => h1 (Int32.lt_of_lt_of_le h (nI_pos' (by omega)))
      obtain ⟨a, ha, rfl⟩ := nI_of h0
      rw [nI_ltI ha (by omega)] at h1
      rw [nI_ltI (by omega) ha] at h2
      exact ⟨a, rfl, by omega, by omega⟩
theorem INV.no {V : Nat → Nat → Int32} {N K R t c : Nat} (H : INV V V N K R t) : INV (t1 V c) (t1 V c) N K R t :=
  (H.to (EqV.refl V) EqW_t1).self (fun q hq => by unfold t1 t0; rw [jv_U_other (by omega), jv_U_other (by omega)])
