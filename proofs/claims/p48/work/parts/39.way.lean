/-! ===== what the rows under way say: sending, taking ===== -/
theorem nd_len : ∀ (m : Nat) (l : List Nat), (∀ x ∈ l, x < m) → l.Nodup → l.length ≤ m := by
  intro m
  induction m with
  | zero =>
    intro l h _
    cases l with
    | nil => exact Nat.le_refl _
    | cons x t => exact absurd (h x List.mem_cons_self) (Nat.not_lt_zero _)
  | succ m ih =>
    intro l h hn
    by_cases hm : m ∈ l
    · have h1 := ih (l.erase m) (fun x hx => by
        have h2 := (hn.mem_erase_iff).mp hx
        have := h x h2.2
        have := h2.1
        omega) (hn.erase m)
      rw [List.length_erase_of_mem hm] at h1
      omega
    · have := ih l (fun x hx => by
        have h1 := h x hx
        have h2 : x ≠ m := fun c => hm (c ▸ hx)
        omega) hn
      omega
theorem WT.len {l : List WE} {C : Nat → Nat → Int32} {r N : Nat} (h : WT l C r N) (hN : N ≤ 12) : l.length ≤ 24 := by
  obtain ⟨a, b, -, -⟩ := h
  have h1 := nd_len 24 (l.map (fun x => x.1.toNatClampNeg + 12 * x.2.2.1.toNatClampNeg)) (fun y hy => by
    obtain ⟨x, hx, rfl⟩ := List.mem_map.mp hy
    obtain ⟨f, hf, e1, e2⟩ := a x hx
    show x.1.toNatClampNeg + 12 * x.2.2.1.toNatClampNeg < 24
    rw [e1, nI_clamp (by omega)]
    rcases e2 with e2 | e2 <;> rw [e2, nI_clamp (by omega)] <;> omega) (by
    rw [List.Nodup, List.pairwise_map]
    refine List.Pairwise.imp_of_mem (fun {x y} hx hy hxy => ?_) b
    obtain ⟨f, hf, e1, e2⟩ := a x hx
    obtain ⟨f', hf', e1', e2'⟩ := a y hy
    intro c
    apply hxy
    have c' : x.1.toNatClampNeg + 12 * x.2.2.1.toNatClampNeg = y.1.toNatClampNeg + 12 * y.2.2.1.toNatClampNeg := c
    rw [e1, e1', nI_clamp (by omega), nI_clamp (by omega)] at c'
    rcases e2 with e2 | e2 <;> rcases e2' with e2' | e2' <;> rw [e2, e2'] at c' ⊢ <;> rw [nI_clamp (by omega)] at c' <;> try rw [nI_clamp (by omega)] at c'
    · exact ⟨by rw [e1, e1', show f = f' by omega], rfl⟩
    · omega
    · omega
    · exact ⟨by rw [e1, e1', show f = f' by omega], rfl⟩)
  rw [List.length_map] at h1
  exact h1
def s7 (C : Nat → Nat → Int32) (r o : Nat) (h m : Int32) : Nat → Nat → Int32 := if C (r + 7) o = -1 ∨ h < C (r + 7) o ∨ (h = C (r + 7) o ∧ m < C (r + 8) o) then jv_U (jv_U C (r + 7) o h) (r + 8) o m else C
def s9 (C : Nat → Nat → Int32) (r o : Nat) (h : Int32) : Nat → Nat → Int32 := if C (r + 9) o = -1 ∨ h < C (r + 9) o then jv_U C (r + 9) o h else C
theorem n01 : ¬ nI 0 = nI 1 := by decide +kernel
theorem n10 : ¬ nI 1 = nI 0 := by decide +kernel
theorem nIne {a b : Nat} (h : a ≠ b) (ha : a < 12) (hb : b < 12) : ¬ nI a = nI b := fun c => h ((nI_eq (by omega) (by omega)).mp c)
theorem WT.send0 {l : List WE} {C : Nat → Nat → Int32} {r N o : Nat} {h m : Int32} (H : WT l C r N) (hN : N ≤ 12) (ho : o < N) (hh : ¬ h = -1) : WT (sendL l (nI o) h (nI 0) m) (s7 C r o h m) r N := by
  obtain ⟨a, b, c, d⟩ := H
  unfold sendL
  by_cases hany : l.any (stE (nI o) h (nI 0) m) = true
  · rw [if_pos hany]
    obtain ⟨x, hx, hst⟩ := List.any_eq_true.mp hany
    unfold stE smE at hst
    simp only [Bool.and_eq_true, Bool.or_eq_true, decide_eq_true_eq] at hst
    obtain ⟨⟨e1, e2⟩, e3⟩ := hst
    have e0 : x = (nI o, x.2.1, nI 0, x.2.2.2) := by rw [← e1, ← e2]
    rw [e0] at hx
    obtain ⟨c1, c2, c3⟩ := (c o ho _ _).mp hx
    have : s7 C r o h m = C := by
      unfold s7
      rw [if_neg]
      rw [c1, c3]
      intro q
      rcases q with q | q | q
      · exact c2 q
      · rcases e3 with e3 | e3
        · simp only [Int32.lt_iff_toInt_lt] at q e3
          omega
        · rw [e3.1] at q
          exact Int32.lt_irrefl q
      · rcases e3 with e3 | e3
        · rw [q.1] at e3
          exact Int32.lt_irrefl e3
        · have q2 := q.2
          have e4 := e3.2
          simp only [Int32.lt_iff_toInt_lt, Int32.le_iff_toInt_le] at q2 e4
          omega
    rw [this]
    exact ⟨a, b, c, d⟩
  · rw [if_neg hany]
    have hno : ∀ x ∈ l, ¬ stE (nI o) h (nI 0) m x = true := fun x hx c => hany (List.any_eq_true.mpr ⟨x, hx, c⟩)
    have hs : s7 C r o h m = jv_U (jv_U C (r + 7) o h) (r + 8) o m := by
      unfold s7
      rw [if_pos]
      by_cases e : C (r + 7) o = -1
      · exact Or.inl e
      · have hx := (c o ho _ _).mpr ⟨rfl, e, rfl⟩
        have h1 := hno _ hx
        unfold stE smE at h1
        simp only [Bool.and_eq_true, Bool.or_eq_true, decide_eq_true_eq, true_and, and_self, not_or, not_and] at h1
        obtain ⟨h2, h3⟩ := h1
        by_cases e2 : C (r + 7) o = h
        · have h4 := h3 e2
          refine Or.inr (Or.inr ⟨e2.symm, ?_⟩)
          simp only [Int32.lt_iff_toInt_lt, Int32.le_iff_toInt_le] at h4 ⊢
          omega
        · refine Or.inr (Or.inl ?_)
          simp only [Int32.lt_iff_toInt_lt, ← Int32.toInt_inj] at h2 e2 ⊢
          omega
    rw [hs]
    have hf : ∀ x, x ∈ l.filter (nsm (nI o) (nI 0)) ↔ x ∈ l ∧ ¬ (x.1 = nI o ∧ x.2.2.1 = nI 0) := fun x => by
      rw [List.mem_filter]
      refine and_congr_right (fun _ => ?_)
      unfold nsm smE
      rw [Bool.not_eq_true', decide_eq_false_iff_not]
    refine ⟨fun x hx => ?_, ?_, fun f hf' h' m' => ?_, fun f hf' h' m' => ?_⟩
    · rcases List.mem_append.mp hx with hx | hx
      · exact a x ((hf x).mp hx).1
      · rw [List.mem_singleton.mp hx]
        exact ⟨o, ho, rfl, Or.inl rfl⟩
    · refine List.pairwise_append.mpr ⟨b.filter _, List.pairwise_singleton _ _, fun x hx y hy => ?_⟩
      rw [List.mem_singleton.mp hy]
      exact ((hf x).mp hx).2
    · rw [List.mem_append, List.mem_singleton, hf]
      by_cases e : f = o
      · subst e
        rw [jv_Une (by omega), jv_Ueq, jv_Ueq]
        constructor
        · rintro (⟨-, q⟩ | q)
          · exact absurd ⟨rfl, rfl⟩ q
          · simp only [Prod.mk.injEq] at q
            obtain ⟨-, q1, -, q2⟩ := q
            exact ⟨q1.symm, by rw [q1]; exact hh, q2.symm⟩
        · rintro ⟨q1, -, q2⟩
          right
          rw [q1, q2]
      · have ne := nIne e (by omega) (by omega)
        rw [jv_Unj e, jv_Unj e, jv_Unj e, jv_Unj e]
        rw [← c f hf' h' m']
        constructor
        · rintro (⟨q, -⟩ | q)
          · exact q
          · simp only [Prod.mk.injEq] at q
            exact absurd q.1 ne
        · exact fun q => Or.inl ⟨q, fun e => ne e.1⟩
    · rw [List.mem_append, List.mem_singleton, hf, jv_Une (by omega), jv_Une (by omega), ← d f hf' h' m']
      constructor
      · rintro (⟨q, -⟩ | q)
        · exact q
        · simp only [Prod.mk.injEq] at q
          exact absurd q.2.2.1 n10
      · exact fun q => Or.inl ⟨q, fun e => n10 e.2⟩
theorem WT.send1 {l : List WE} {C : Nat → Nat → Int32} {r N o : Nat} {h : Int32} (H : WT l C r N) (hN : N ≤ 12) (ho : o < N) (hh : ¬ h = -1) : WT (sendL l (nI o) h (nI 1) (nI 0)) (s9 C r o h) r N := by
  obtain ⟨a, b, c, d⟩ := H
  unfold sendL
  by_cases hany : l.any (stE (nI o) h (nI 1) (nI 0)) = true
  · rw [if_pos hany]
    obtain ⟨x, hx, hst⟩ := List.any_eq_true.mp hany
    unfold stE smE at hst
    simp only [Bool.and_eq_true, Bool.or_eq_true, decide_eq_true_eq] at hst
    obtain ⟨⟨e1, e2⟩, e3⟩ := hst
    have e0 : x = (nI o, x.2.1, nI 1, x.2.2.2) := by rw [← e1, ← e2]
    rw [e0] at hx
    obtain ⟨c1, c2, c3⟩ := (d o ho _ _).mp hx
    have : s9 C r o h = C := by
      unfold s9
      rw [if_neg]
      rw [c1]
      intro q
      rcases q with q | q
      · exact c2 q
      · rcases e3 with e3 | e3
        · simp only [Int32.lt_iff_toInt_lt] at q e3
          omega
        · rw [e3.1] at q
          exact Int32.lt_irrefl q
    rw [this]
    exact ⟨a, b, c, d⟩
  · rw [if_neg hany]
    have hno : ∀ x ∈ l, ¬ stE (nI o) h (nI 1) (nI 0) x = true := fun x hx c => hany (List.any_eq_true.mpr ⟨x, hx, c⟩)
    have hs : s9 C r o h = jv_U C (r + 9) o h := by
      unfold s9
      rw [if_pos]
      by_cases e : C (r + 9) o = -1
      · exact Or.inl e
      · have hx := (d o ho _ _).mpr ⟨rfl, e, rfl⟩
        have h1 := hno _ hx
        unfold stE smE at h1
        simp only [Bool.and_eq_true, Bool.or_eq_true, decide_eq_true_eq, true_and, and_self, not_or, not_and] at h1
        obtain ⟨h2, h3⟩ := h1
        refine Or.inr ?_
        by_cases e2 : C (r + 9) o = h
        · exact absurd (Int32.le_refl _) (h3 e2)
        · simp only [Int32.lt_iff_toInt_lt, ← Int32.toInt_inj] at h2 e2 ⊢
          omega
    rw [hs]
    have hf : ∀ x, x ∈ l.filter (nsm (nI o) (nI 1)) ↔ x ∈ l ∧ ¬ (x.1 = nI o ∧ x.2.2.1 = nI 1) := fun x => by
      rw [List.mem_filter]
      refine and_congr_right (fun _ => ?_)
      unfold nsm smE
      rw [Bool.not_eq_true', decide_eq_false_iff_not]
    refine ⟨fun x hx => ?_, ?_, fun f hf' h' m' => ?_, fun f hf' h' m' => ?_⟩
    · rcases List.mem_append.mp hx with hx | hx
      · exact a x ((hf x).mp hx).1
      · rw [List.mem_singleton.mp hx]
        exact ⟨o, ho, rfl, Or.inr rfl⟩
    · refine List.pairwise_append.mpr ⟨b.filter _, List.pairwise_singleton _ _, fun x hx y hy => ?_⟩
      rw [List.mem_singleton.mp hy]
      exact ((hf x).mp hx).2
    · rw [List.mem_append, List.mem_singleton, hf, jv_Une (by omega), jv_Une (by omega), ← c f hf' h' m']
      constructor
      · rintro (⟨q, -⟩ | q)
        · exact q
        · simp only [Prod.mk.injEq] at q
          exact absurd q.2.2.1 n01
      · exact fun q => Or.inl ⟨q, fun e => n01 e.2⟩
    · rw [List.mem_append, List.mem_singleton, hf]
      by_cases e : f = o
      · subst e
        rw [jv_Ueq]
        constructor
        · rintro (⟨-, q⟩ | q)
          · exact absurd ⟨rfl, rfl⟩ q
          · simp only [Prod.mk.injEq] at q
            obtain ⟨-, q1, -, q2⟩ := q
            exact ⟨q1.symm, by rw [q1]; exact hh, q2⟩
        · rintro ⟨q1, -, q2⟩
          right
          rw [q1, q2]
      · have ne := nIne e (by omega) (by omega)
        rw [jv_Unj e]
        rw [← d f hf' h' m']
        constructor
        · rintro (⟨q, -⟩ | q)
          · exact q
          · simp only [Prod.mk.injEq] at q
            exact absurd q.1 ne
        · exact fun q => Or.inl ⟨q, fun e => ne e.1⟩
/-- the arrivals of hour h at floors i .. are put away -/
def T7 (C : Nat → Nat → Int32) (r : Nat) (h : Int32) (i N : Nat) : Nat → Nat → Int32 := fun q c => if q = r + 7 ∧ i ≤ c ∧ c < N ∧ C (r + 7) c = h then -1 else C q c
def T9 (C : Nat → Nat → Int32) (r : Nat) (h : Int32) (i N : Nat) : Nat → Nat → Int32 := fun q c => if q = r + 9 ∧ i ≤ c ∧ c < N ∧ C (r + 9) c = h then -1 else C q c
theorem T7_at {C : Nat → Nat → Int32} {r i N f : Nat} {h : Int32} : T7 C r h i N (r + 7) f = if i ≤ f ∧ f < N ∧ C (r + 7) f = h then -1 else C (r + 7) f := by
  unfold T7
  simp
theorem T7_o {C : Nat → Nat → Int32} {r i N q : Nat} {h : Int32} (hq : q ≠ r + 7) : T7 C r h i N q = C q := by
  funext c
  unfold T7
  rw [if_neg (fun e => hq e.1)]
theorem T9_at {C : Nat → Nat → Int32} {r i N f : Nat} {h : Int32} : T9 C r h i N (r + 9) f = if i ≤ f ∧ f < N ∧ C (r + 9) f = h then -1 else C (r + 9) f := by
  unfold T9
  simp
theorem T9_o {C : Nat → Nat → Int32} {r i N q : Nat} {h : Int32} (hq : q ≠ r + 9) : T9 C r h i N q = C q := by
  funext c
  unfold T9
  rw [if_neg (fun e => hq e.1)]
theorem WT.take0 {l : List WE} {C : Nat → Nat → Int32} {r N : Nat} {h : Int32} (H : WT l C r N) : WT (l.filter (nmt h (nI 0))) (T7 C r h 0 N) r N := by
  obtain ⟨a, b, c, d⟩ := H
  have hf : ∀ x, x ∈ l.filter (nmt h (nI 0)) ↔ x ∈ l ∧ ¬ (x.2.1 = h ∧ x.2.2.1 = nI 0) := fun x => by
    rw [List.mem_filter]
    refine and_congr_right (fun _ => ?_)
    unfold nmt mt
    rw [Bool.not_eq_true', decide_eq_false_iff_not]
  refine ⟨fun x hx => a x ((hf x).mp hx).1, b.filter _, fun f hf' h' m' => ?_, fun f hf' h' m' => ?_⟩
  · rw [hf, c f hf' h' m', T7_at, T7_o (by omega)]
    by_cases e : C (r + 7) f = h
    · rw [if_pos ⟨by omega, hf', e⟩]
      constructor
      · rintro ⟨⟨q1, -⟩, q2⟩
        exact absurd ⟨q1.symm.trans e, rfl⟩ q2
      · rintro ⟨q1, q2, -⟩
        exact absurd q1.symm q2
    · rw [if_neg (fun q => e q.2.2)]
      constructor
      · exact fun q => q.1
      · exact fun q => ⟨q, fun z => e (q.1.trans z.1)⟩
  · rw [hf, d f hf' h' m', T7_o (by omega)]
    constructor
    · exact fun q => q.1
    · exact fun q => ⟨q, fun z => n10 z.2⟩
theorem WT.take1 {l : List WE} {C : Nat → Nat → Int32} {r N : Nat} {h : Int32} (H : WT l C r N) : WT (l.filter (nmt h (nI 1))) (T9 C r h 0 N) r N := by
  obtain ⟨a, b, c, d⟩ := H
  have hf : ∀ x, x ∈ l.filter (nmt h (nI 1)) ↔ x ∈ l ∧ ¬ (x.2.1 = h ∧ x.2.2.1 = nI 1) := fun x => by
    rw [List.mem_filter]
    refine and_congr_right (fun _ => ?_)
    unfold nmt mt
    rw [Bool.not_eq_true', decide_eq_false_iff_not]
  refine ⟨fun x hx => a x ((hf x).mp hx).1, b.filter _, fun f hf' h' m' => ?_, fun f hf' h' m' => ?_⟩
  · rw [hf, c f hf' h' m', T9_o (by omega), T9_o (by omega)]
    constructor
    · exact fun q => q.1
    · exact fun q => ⟨q, fun z => n01 z.2⟩
  · rw [hf, d f hf' h' m', T9_at]
    by_cases e : C (r + 9) f = h
    · rw [if_pos ⟨by omega, hf', e⟩]
      constructor
      · rintro ⟨⟨q1, -⟩, q2⟩
        exact absurd ⟨q1.symm.trans e, rfl⟩ q2
      · rintro ⟨q1, q2, -⟩
        exact absurd q1.symm q2
    · rw [if_neg (fun q => e q.2.2)]
      constructor
      · exact fun q => q.1
      · exact fun q => ⟨q, fun z => e (q.1.trans z.1)⟩
/-- what a floor gets of a list, when its key stands there once or not at all -/
theorem tkL_no {h κ : Int32} {f : Nat} : ∀ (l : List WE) (v : Nat → Int32), (∀ x ∈ l, mt h κ x = true → ¬ x.1.toNatClampNeg = f) → tkL h κ l v f = v f := by
  intro l
  induction l with
  | nil => intro v _; rfl
  | cons x l ih =>
    intro v hx
    show tkL h κ l (tk1 h κ x v) f = v f
    rw [ih _ (fun y hy => hx y (List.mem_cons_of_mem _ hy))]
    unfold tk1
    by_cases e : mt h κ x = true
    · rw [if_pos e]
      exact if_neg (fun c => hx x List.mem_cons_self e c.symm)
    · rw [if_neg e]
theorem tkL_one {h κ y : Int32} {f : Nat} : ∀ (l : List WE) (v : Nat → Int32), (∃ x ∈ l, mt h κ x = true ∧ x.1.toNatClampNeg = f) → (∀ x ∈ l, mt h κ x = true → x.1.toNatClampNeg = f → x.2.2.2 = y) → tkL h κ l v f = y := by
  intro l
  induction l with
  | nil => intro v h1 _; obtain ⟨x, hx, -⟩ := h1; cases hx
  | cons x l ih =>
    intro v h1 h2
    show tkL h κ l (tk1 h κ x v) f = y
    by_cases e : ∃ x ∈ l, mt h κ x = true ∧ x.1.toNatClampNeg = f
    · exact ih _ e (fun y hy => h2 y (List.mem_cons_of_mem _ hy))
    · rw [tkL_no l _ (fun x hx c d => e ⟨x, hx, c, d⟩)]
      obtain ⟨z, hz, c1, c2⟩ := h1
      have hzx : z = x := by
        rcases List.mem_cons.mp hz with q | q
        · exact q
        · exact absurd ⟨z, q, c1, c2⟩ e
      subst hzx
      unfold tk1
      rw [if_pos c1]
      exact (if_pos c2.symm).trans (h2 z List.mem_cons_self c1 c2)
theorem WT.come0 {l : List WE} {C : Nat → Nat → Int32} {r N f : Nat} {h : Int32} (H : WT l C r N) (hN : N ≤ 12) (hf : f < N) (hh : ¬ h = -1) : tkL h (nI 0) l (fun j => if j < N then -1 else 0) f = if C (r + 7) f = h then C (r + 8) f else -1 := by
  obtain ⟨a, b, c, d⟩ := H
  have key : ∀ x ∈ l, mt h (nI 0) x = true → x.1.toNatClampNeg = f → C (r + 7) f = h ∧ x.2.2.2 = C (r + 8) f := fun x hx h1 h2 => by
    unfold mt at h1
    have h1 := of_decide_eq_true h1
    obtain ⟨f', hf', e1, -⟩ := a x hx
    rw [e1, nI_clamp (by omega)] at h2
    subst h2
    have e0 : x = (nI f', h, nI 0, x.2.2.2) := by rw [← e1, ← h1.1, ← h1.2]
    rw [e0] at hx
    obtain ⟨q1, -, q2⟩ := (c f' hf' _ _).mp hx
    exact ⟨q1, q2.symm⟩
  by_cases e : C (r + 7) f = h
  · rw [if_pos e]
    exact tkL_one l _ ⟨_, (c f hf h _).mpr ⟨e, hh, rfl⟩, decide_eq_true ⟨rfl, rfl⟩, nI_clamp (by omega)⟩ (fun x hx h1 h2 => (key x hx h1 h2).2)
  · rw [if_neg e, tkL_no l _ (fun x hx h1 h2 => e (key x hx h1 h2).1)]
    exact if_pos hf
theorem WT.come1 {l : List WE} {C : Nat → Nat → Int32} {r N f : Nat} {h : Int32} (H : WT l C r N) (hN : N ≤ 12) (hf : f < N) (hh : ¬ h = -1) : tkL h (nI 1) l (fun j => if j < N then -1 else 0) f = if C (r + 9) f = h then nI 0 else -1 := by
  obtain ⟨a, b, c, d⟩ := H
  have key : ∀ x ∈ l, mt h (nI 1) x = true → x.1.toNatClampNeg = f → C (r + 9) f = h ∧ x.2.2.2 = nI 0 := fun x hx h1 h2 => by
    unfold mt at h1
    have h1 := of_decide_eq_true h1
    obtain ⟨f', hf', e1, -⟩ := a x hx
    rw [e1, nI_clamp (by omega)] at h2
    subst h2
    have e0 : x = (nI f', h, nI 1, x.2.2.2) := by rw [← e1, ← h1.1, ← h1.2]
    rw [e0] at hx
    obtain ⟨q1, -, q2⟩ := (d f' hf' _ _).mp hx
    exact ⟨q1, q2⟩
  by_cases e : C (r + 9) f = h
  · rw [if_pos e]
    exact tkL_one l _ ⟨_, (d f hf h _).mpr ⟨e, hh, rfl⟩, decide_eq_true ⟨rfl, rfl⟩, nI_clamp (by omega)⟩ (fun x hx h1 h2 => (key x hx h1 h2).2)
  · rw [if_neg e, tkL_no l _ (fun x hx h1 h2 => e (key x hx h1 h2).1)]
    exact if_pos hf
theorem WT.key {l : List WE} {C : Nat → Nat → Int32} {r N : Nat} (H : WT l C r N) : ∀ x ∈ l, ∃ f, f < N ∧ x.1 = nI f := fun x hx => by
  obtain ⟨f, a, b, -⟩ := H.1 x hx
  exact ⟨f, a, b⟩
theorem WT.any0 {l : List WE} {C : Nat → Nat → Int32} {r N : Nat} {h : Int32} (H : WT l C r N) (hh : ¬ h = -1) : l.any (mt h (nI 0)) = true ↔ ∃ f, f < N ∧ C (r + 7) f = h := by
  obtain ⟨a, b, c, d⟩ := H
  rw [List.any_eq_true]
  constructor
  · rintro ⟨x, hx, h1⟩
    have h1 := of_decide_eq_true h1
    obtain ⟨f', hf', e1, -⟩ := a x hx
    have e0 : x = (nI f', h, nI 0, x.2.2.2) := by rw [← e1, ← h1.1, ← h1.2]
    rw [e0] at hx
    exact ⟨f', hf', ((c f' hf' _ _).mp hx).1⟩
  · rintro ⟨f, hf, e⟩
    exact ⟨_, (c f hf h _).mpr ⟨e, hh, rfl⟩, decide_eq_true ⟨rfl, rfl⟩⟩
theorem WT.any1 {l : List WE} {C : Nat → Nat → Int32} {r N : Nat} {h : Int32} (H : WT l C r N) (hh : ¬ h = -1) : l.any (mt h (nI 1)) = true ↔ ∃ f, f < N ∧ C (r + 9) f = h := by
  obtain ⟨a, b, c, d⟩ := H
  rw [List.any_eq_true]
  constructor
  · rintro ⟨x, hx, h1⟩
    have h1 := of_decide_eq_true h1
    obtain ⟨f', hf', e1, -⟩ := a x hx
    have e0 : x = (nI f', h, nI 1, x.2.2.2) := by rw [← e1, ← h1.1, ← h1.2]
    rw [e0] at hx
    exact ⟨f', hf', ((d f' hf' _ _).mp hx).1⟩
  · rintro ⟨f, hf, e⟩
    exact ⟨_, (d f hf h _).mpr ⟨e, hh, rfl⟩, decide_eq_true ⟨rfl, rfl⟩⟩
theorem WT.und {l : List WE} {C : Nat → Nat → Int32} {r N f : Nat} (H : WT l C r N) (hN : N ≤ 12) (hf : f < N) : l.any (atF f) = uwB C r f := by
  obtain ⟨a, b, c, d⟩ := H
  rw [Bool.eq_iff_iff, List.any_eq_true]
  unfold uwB atF
  rw [decide_eq_true_eq]
  constructor
  · rintro ⟨x, hx, h1⟩
    have h1 := of_decide_eq_true h1
    obtain ⟨f', hf', e1, e2⟩ := a x hx
    have ef : f' = f := (nI_eq (by omega) (by omega)).mp (e1.symm.trans h1)
    subst ef
    rcases e2 with e2 | e2
    · have e0 : x = (nI f', x.2.1, nI 0, x.2.2.2) := by rw [← e1, ← e2]
      rw [e0] at hx
      obtain ⟨q1, q2, -⟩ := (c f' hf' _ _).mp hx
      exact Or.inl (by rw [q1]; exact q2)
    · have e0 : x = (nI f', x.2.1, nI 1, x.2.2.2) := by rw [← e1, ← e2]
      rw [e0] at hx
      obtain ⟨q1, q2, -⟩ := (d f' hf' _ _).mp hx
      exact Or.inr (by rw [q1]; exact q2)
  · rintro (e | e)
    · exact ⟨_, (c f hf _ _).mpr ⟨rfl, e, rfl⟩, decide_eq_true rfl⟩
    · exact ⟨_, (d f hf _ _).mpr ⟨rfl, e, rfl⟩, decide_eq_true rfl⟩
def wyT (tg : Nat → Nat) (n w1 ρ0 : Nat) : Nat → Nat := fun q => if n ≤ q then (if q = w1 then ρ0 else 1) else tg q
def wyP (pl : Nat → Nat) (w1 ρ0 : Nat) : Nat → Nat := fun ρ => if ρ = ρ0 then w1 else pl ρ
theorem wyP_e {pl : Nat → Nat} {w1 ρ0 : Nat} : wyP pl w1 ρ0 ρ0 = w1 := if_pos rfl
theorem wyP_n {pl : Nat → Nat} {w1 ρ0 ρ : Nat} (h : ρ ≠ ρ0) : wyP pl w1 ρ0 ρ = pl ρ := if_neg h
theorem wyT_lo {tg : Nat → Nat} {n w1 ρ0 q : Nat} (h : q < n) : wyT tg n w1 ρ0 q = tg q := if_neg (by omega)
theorem wyT_w {tg : Nat → Nat} {n w1 ρ0 : Nat} (h : n ≤ w1) : wyT tg n w1 ρ0 w1 = ρ0 := by
  unfold wyT
  rw [if_pos h, if_pos rfl]
theorem wyT_1 {tg : Nat → Nat} {n w1 ρ0 q : Nat} (h : n ≤ q) (h1 : q ≠ w1) : wyT tg n w1 ρ0 q = 1 := by
  unfold wyT
  rw [if_pos h, if_neg h1]
/-- the way of one rumour anew -/
theorem REP.way {tg pl : Nat → Nat} {n n1 j w1 : Nat} {sh s1 : Nat → jv_S} {V V1 C C1 : Nat → Nat → Int32} {N K R : Nat} {l1 : List WE} (H : REP tg pl n sh V C N K R) (hj : j < R) (hn : n ≤ n1) (hs : ∀ q, q < n → q ≠ pl (20 + 10 * j) → s1 q = sh q) (hV : ∀ q, q < n → V1 q = V q) (hk : (s1 (pl (20 + 10 * j))).1 = 6) (hr : ∀ i, i ≠ 8 → (s1 (pl (20 + 10 * j))).2.2 i = (sh (pl (20 + 10 * j))).2.2 i) (h8 : (s1 (pl (20 + 10 * j))).2.2 8 = some w1)
    (hW : WL (fun e => tg e = 1 ∨ n ≤ e) n1 s1 V1 w1 l1) (hw : w1 = pl (20 + 10 * j + 7) ∨ n ≤ w1) (hT : WT l1 C1 (43 + 10 * j) N) (hC : ∀ q, ¬ (43 + 10 * j + 7 ≤ q ∧ q ≤ 43 + 10 * j + 9) → C1 q = C q) :
    REP (wyT tg n w1 (20 + 10 * j + 7)) (wyP pl w1 (20 + 10 * j + 7)) n1 s1 V1 C1 N K R := by
  have hu7 : used K R (20 + 10 * j + 7) := used.o hj (by omega)
  have hu0 : used K R (20 + 10 * j) := used.o (o := 0) hj (by omega)
  have hn124 := H.n124
  have h123 : s1 123 = sh 123 ∧ V1 123 = V 123 := ⟨hs 123 (by omega) (by have := H.ge hu0; omega), hV 123 (by omega)⟩
  have hpl : ∀ ρ, ρ ≠ 20 + 10 * j + 7 → wyP pl w1 (20 + 10 * j + 7) ρ = pl ρ := fun ρ h => wyP_n h
  refine ⟨⟨H.1.1, H.1.2.1, H.1.2.2.1, H.1.2.2.2.1, by omega, fun e he => ?_⟩, fun ρ hu => ?_, ?_, fun ρ hu => ?_⟩
  · by_cases c : n ≤ e
    · omega
    · exact H.e124 (by rw [wyT_lo (by omega)] at he; exact he)
  · by_cases c : ρ = 20 + 10 * j + 7
    · subst c
      rw [wyP_e]
      rcases hw with e | e
      · rw [wyT_lo (by have := H.lt hu7; omega), e]
        exact ⟨(H.2.1 _ hu7).1, H.ge hu7, by have := H.lt hu7; omega⟩
      · rw [wyT_w e]
        exact ⟨rfl, by omega, hW.2.2.1⟩
    · rw [wyP_n c, wyT_lo (H.lt hu)]
      exact ⟨(H.2.1 _ hu).1, H.ge hu, by have := H.lt hu; omega⟩
  · unfold RS
    rw [h123.1, h123.2, hC 0 (by omega)]
    refine ⟨H.s, fun i h1 h2 => ?_, ?_, ?_, H.hr⟩
    · rw [hpl i (by omega)]; exact H.2.2.1.2.1 i h1 h2
    · rw [hpl 7 (by omega)]; exact H.s5
    · rw [hpl 8 (by omega)]; exact H.s6
  · by_cases c : ρ = 20 + 10 * j + 7
    · subst c
      refine ⟨fun _ h => by omega, fun h => by omega, fun h => by omega, fun k hk h => by have := H.K4; omega, fun j' _ h => by omega, fun j' o' hj' h1' h6' h => by omega, fun j' hj' h => ?_⟩
      have ej : j' = j := by omega
      subst ej
      refine ⟨l1, ?_, hT⟩
      rw [wyP_e]
      refine ⟨hW.1, hW.2.1, hW.2.2.1, fun i x hx => ?_⟩
      obtain ⟨e, e1, e2, e3, e4⟩ := hW.2.2.2 i x hx
      refine ⟨e, e1, e2, ?_, e4⟩
      show wyT tg n w1 _ e = 1
      have hew : e ≠ w1 := fun c => by
        have := e4.1
        rw [c, hW.1] at this
        exact absurd this (by decide)
      by_cases c : n ≤ e
      · exact wyT_1 c hew
      · rw [wyT_lo (by omega)]
        exact e3.resolve_right c
    · by_cases c0 : ρ = 20 + 10 * j
      · subst c0
        obtain ⟨b1, b2, b3, b4⟩ := H.ob hj
        refine ⟨fun _ h => by omega, fun h => by omega, fun h => by omega, fun k hk h => by have := H.K4; omega, fun j' hj' h => ?_, fun j' o' hj' h1' h6' h => by omega, fun j' hj' h => by omega⟩
        have ej : j' = j := by omega
        subst ej
        rw [hpl _ c, hV _ (H.lt hu0), hC _ (by omega)]
        refine ⟨hk, b2, b3, fun o h1 h2 => ?_⟩
        by_cases e : o = 7
        · subst e
          rw [wyP_e]
          exact h8
        · rw [hr _ (by omega), hpl _ (by omega)]
          exact b4 o h1 h2
      · have hne : pl ρ ≠ pl (20 + 10 * j) := H.ne hu hu0 c0
        refine (H.2.2.2 ρ hu).to H.K4 (hpl ρ c) (hs _ (H.lt hu) hne) (hV _ (H.lt hu)) (fun ρ' hc => hpl ρ' (fun e => ?_)) (fun e he h1 => ?_) (fun e he h1 h10 => ⟨hs e he (fun q => ?_), hV e he⟩) hn (fun q hq => hC q (fun z => ?_))
        · unfold child at hc
          unfold used at hu
          omega
        · rw [wyT_lo he]
          exact h1
        · rw [q, (H.ob hj).1] at h10
          exact absurd h10 (by decide)
        · unfold rowOf at hq
          unfold used at hu
          have := H.K4
          omega
theorem REP.hour {tg pl : Nat → Nat} {n : Nat} {sh : Nat → jv_S} {V C : Nat → Nat → Int32} {N K R : Nat} {x : Int32} (H : REP tg pl n sh V C N K R) : REP tg pl n sh (jv_U V 123 0 x) (jv_U C 0 5 x) N K R := by
  refine ⟨H.1, H.2.1, ⟨H.s, H.2.2.1.2.1, H.s5, H.s6, by rw [jv_Ueq, jv_Ueq]⟩, fun ρ hu => (H.2.2.2 ρ hu).to H.K4 rfl rfl (jv_U_other (by have := H.ge hu; omega)) (fun _ _ => rfl) (fun _ _ h => h) (fun e he h1 _ => ⟨rfl, jv_U_other (by have := H.e124 h1; omega)⟩) (Nat.le_refl _) (fun q hq => jv_U_other ?_)⟩
  unfold rowOf at hq
  omega
