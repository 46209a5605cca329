/-! ===== what the ways' answers are, whatever the working rows hold ===== -/
def Wg (V1 V : Nat → Nat → Int32) : Prop := (∀ q, q < 29 → V1 q = V q) ∧ ∀ q, 29 ≤ q → q ≤ 31 → ∀ c, c < 12 → V1 q c = V q c
theorem Wg.U {V1 V : Nat → Nat → Int32} {p i : Nat} {x : Int32} (h : Wg V1 V) (h1 : 29 ≤ p) : Wg (jv_U V1 p i x) (jv_U V p i x) := by
  refine ⟨fun q hq => ?_, fun q h2 h3 c hc => ?_⟩
  · rw [jv_U_other (by omega), jv_U_other (by omega)]; exact h.1 q hq
  · unfold jv_U
    rw [h.2 q h2 h3 c hc]
theorem Wg.ld {V1 V : Nat → Nat → Int32} {a i : Nat} (h : Wg V1 V) (ha : a < 12) (hi : i < 12) : Wg (ldb V1 29 30 a i (V1 (8 + a) i) (V1 3 a)) (ldb V 29 30 a i (V (8 + a) i) (V 3 a)) := by
  unfold ldb btI
  rw [h.1 (8 + a) (by omega), h.1 3 (by omega), h.2 29 (by omega) (by omega) i hi, h.2 29 (by omega) (by omega) a ha, h.2 30 (by omega) (by omega) i hi, h.2 30 (by omega) (by omega) a ha]
  split
  · exact (h.U (by decide)).U (by decide)
  · exact h
theorem Wg.ll {a : Nat} (ha : a < 12) : ∀ m i V1 V, i + m ≤ 12 → Wg V1 V → Wg (ldL a m i V1) (ldL a m i V) := by
  intro m
  induction m with
  | zero => intro i V1 V _ h; exact h
  | succ m ih => intro i V1 V hi h; exact ih (i + 1) _ _ (by omega) (h.ld ha (by omega))
theorem Wg.nr {V1 V : Nat → Nat → Int32} (h : Wg V1 V) : ∀ m i b, i + m ≤ 12 → (∀ j, b = some j → j < 12) → nrs V1 29 30 31 m i b = nrs V 29 30 31 m i b := by
  intro m
  induction m with
  | zero => intro i b _ _; rfl
  | succ m ih =>
    intro i b hi hb
    have e : btb V1 29 30 b i = btb V 29 30 b i := by
      cases b with
      | none => rfl
      | some j =>
        have hj := hb j rfl
        show btI V1 29 30 _ _ j = btI V 29 30 _ _ j
        unfold btI
        rw [h.2 29 (by omega) (by omega) i (by omega), h.2 30 (by omega) (by omega) i (by omega), h.2 29 (by omega) (by omega) j hj, h.2 30 (by omega) (by omega) j hj]
    show nrs V1 29 30 31 m (i + 1) (if (V1 31 i = 0 ∧ ¬ V1 29 i = -1) ∧ btb V1 29 30 b i = true then some i else b) = nrs V 29 30 31 m (i + 1) (if (V 31 i = 0 ∧ ¬ V 29 i = -1) ∧ btb V 29 30 b i = true then some i else b)
    rw [e, h.2 31 (by omega) (by omega) i (by omega), h.2 29 (by omega) (by omega) i (by omega)]
    refine ih (i + 1) _ (by omega) (fun j hj => ?_)
    split at hj
    · cases hj; omega
    · exact hb j hj
theorem Wg.rnd {N : Nat} (hN : N ≤ 12) : ∀ m V1 V, Wg V1 V → Wg (rndC N m V1) (rndC N m V) := by
  intro m
  induction m with
  | zero => intro V1 V h; exact h
  | succ m ih =>
    intro V1 V h
    unfold rndC
    rw [h.nr N 0 none (by omega) (fun j hj => by cases hj)]
    cases hn : nrs V 29 30 31 N 0 none with
    | none => exact h
    | some a =>
      have ha := nrs_lt (N := N) N 0 none (by omega) (fun j hj => by cases hj) a hn
      exact ih _ _ (Wg.ll (by omega) _ _ _ _ (by omega) (h.U (by decide)))
theorem fnd_cg {V1 V : Nat → Nat → Int32} {N f : Nat} (hN : N ≤ 12) (h : ∀ q, q < 29 → V1 q = V q) : Wg (fndC V1 N f) (fndC V N f) := by
  unfold fndC
  refine Wg.rnd hN _ _ _ (Wg.U (Wg.U ⟨fun q hq => ?_, fun q h1 h2 c hc => ?_⟩ (by decide)) (by decide))
  · funext c
    unfold iniC
    rw [h q hq]
  · unfold iniC
    rw [if_pos hc, if_pos hc]
    have hq : q = 29 ∨ q = 30 ∨ q = 31 := by omega
    rcases hq with rfl | rfl | rfl <;> rfl
/-- hours and pipes of the quickest way -/
def qk (V : Nat → Nat → Int32) (N f t : Nat) : Int32 := fndC V N f 29 t
def pb (V : Nat → Nat → Int32) (N f t : Nat) : Int32 := fndC V N f 30 t
theorem qk_cg {V1 V : Nat → Nat → Int32} {N f t : Nat} (hN : N ≤ 12) (ht : t < 12) (h : ∀ q, q < 29 → V1 q = V q) : qk V1 N f t = qk V N f t := (fnd_cg hN h).2 29 (by decide) (by decide) t ht
theorem pb_cg {V1 V : Nat → Nat → Int32} {N f t : Nat} (hN : N ≤ 12) (ht : t < 12) (h : ∀ q, q < 29 → V1 q = V q) : pb V1 N f t = pb V N f t := (fnd_cg hN h).2 30 (by decide) (by decide) t ht
section MET
variable {V : Nat → Nat → Int32} {N : Nat}
theorem qk_self (G : PG V N) {f : Nat} (hf : f < N) : qk V N f f = nI 0 ∧ pb V N f f = nI 0 := (fnd_FN G hf).2.2
theorem qk_val (G : PG V N) {f t : Nat} (hf : f < N) (ht : t < N) : (qk V N f t = -1 ∧ pb V N f t = -1) ∨ ∃ h u, qk V N f t = nI h ∧ pb V N f t = nI u ∧ Pth V N f t h u ∧ u + 1 ≤ N ∧ h ≤ 276 := (fnd_FN G hf).1 t ht
theorem qk_edge (G : PG V N) {f t p s : Nat} (hf : f < N) (ht : t < N) (hp : V (8 + f) t = nI p) (hp14 : p ≤ 14) (hs : V 3 f = nI s) (hs9 : s ≤ 9) : ∃ c, qk V N f t = nI c ∧ c ≤ s + p := by
  have H := fnd_FN G hf
  obtain ⟨c, h1, h2⟩ := H.2.1 f t p s 0 hf ht hp hp14 hs hs9 H.2.2.1 (by omega)
  exact ⟨c, h1, by omega⟩
theorem FN.along {w : Nat} {V1 : Nat → Nat → Int32} (H : FN V N w V1) {x hx : Nat} (h0 : V1 29 x = nI hx) (hx20 : hx ≤ 1000) : ∀ u c h, u ≤ 12 → PthR V N x u c h → ∃ hc, V1 29 c = nI hc ∧ hc ≤ hx + h := by
  intro u
  induction u with
  | zero =>
    intro c h _ hp
    obtain ⟨rfl, h1, rfl⟩ := hp
    exact ⟨hx, h0, by omega⟩
  | succ u ih =>
    intro c h hu hp
    obtain ⟨a, h0, s, p, h1, h2, h3, h4, h5, h6, h7, rfl⟩ := hp
    obtain ⟨ha, e1, e2⟩ := ih a h0 (by omega) h1
    have hl := PthR.lt u a h0 h1
    obtain ⟨hj, f1, f2⟩ := H.2.1 a c p s ha hl.1 h2 h3 h5 h6 h7 e1 (by omega)
    exact ⟨hj, f1, by omega⟩
theorem qk_tri (G : PG V N) {f w t a b : Nat} (hf : f < N) (hw : w < N) (ht : t < N) (ha : qk V N f w = nI a) (hb : qk V N w t = nI b) (ha3 : a ≤ 1000) (hb3 : b ≤ 1000) : ∃ c, qk V N f t = nI c ∧ c ≤ a + b := by
  rcases qk_val G hw ht with ⟨e1, -⟩ | ⟨h, u, e1, -, e3, e4, e5⟩
  · exact absurd (hb.symm.trans e1) (nI_nm1 (by omega))
  · have := nIi (hb.symm.trans e1) (by omega) (by omega)
    subst this
    have := G.2.1
    exact (fnd_FN G hf).along ha ha3 u t b (by omega) e3
theorem pb_zero (G : PG V N) {f t : Nat} (hf : f < N) (ht : t < N) : pb V N f t = 0 ↔ f = t := by
  constructor
  · intro h
    rcases qk_val G hf ht with ⟨-, e2⟩ | ⟨h', u, e1, e2, e3, e4, e5⟩
    · exact absurd (e2.symm.trans h) (by decide +kernel)
    · have hN := G.2.1
      rw [← nI_0] at h
      have := nIi (e2.symm.trans h) (by omega) (by omega)
      exact (e3.zero this).symm
  · rintro rfl
    rw [(qk_self G hf).2, nI_0]
/-- there and back -/
theorem Pth.back (G : PG V N) : ∀ u x c h, u ≤ 12 → PthR V N x u c h → ¬ qk V N c x = -1 := by
  intro u
  induction u with
  | zero =>
    intro x c h _ hp
    obtain ⟨rfl, h1, rfl⟩ := hp
    rw [(qk_self G h1).1]
    exact nI_nm1 (by decide)
  | succ u ih =>
    intro x c h hu hp
    obtain ⟨a, h0, s, p, h1, h2, h3, h4, h5, h6, h7, rfl⟩ := hp
    have hl := PthR.lt u a h0 h1
    have hr := ih x a h0 (by omega) h1
    obtain ⟨sc, es, es9⟩ := G.2.2.2 c h2
    have hsym := (G.2.2.1 a c hl.1 h2).1
    obtain ⟨d, e1, e2⟩ := qk_edge G h2 hl.1 (hsym.symm.trans h3) h5 es es9
    rcases qk_val G hl.1 hl.2.1 with ⟨f1, -⟩ | ⟨h', u', f1, -, f3, f4, f5⟩
    · exact absurd f1 hr
    · obtain ⟨e, g1, g2⟩ := qk_tri G h2 hl.1 hl.2.1 e1 f1 (by omega) (by omega)
      rw [g1]
      exact nI_nm1 (by omega)
theorem qk_back (G : PG V N) {f t : Nat} (hf : f < N) (ht : t < N) (h : ¬ qk V N f t = -1) : ¬ qk V N t f = -1 := by
  have hN := G.2.1
  rcases qk_val G hf ht with ⟨e1, -⟩ | ⟨h', u, e1, -, e3, e4, e5⟩
  · exact absurd e1 h
  · exact Pth.back G u f t h' (by omega) e3
theorem qk_trans (G : PG V N) {f w t : Nat} (hf : f < N) (hw : w < N) (ht : t < N) (h1 : ¬ qk V N f w = -1) (h2 : ¬ qk V N w t = -1) : ¬ qk V N f t = -1 := by
  rcases qk_val G hf hw with ⟨e1, -⟩ | ⟨a, u, e1, -, e3, e4, e5⟩
  · exact absurd e1 h1
  · rcases qk_val G hw ht with ⟨f1, -⟩ | ⟨b, u, f1, -, f3, f4, f5⟩
    · exact absurd f1 h2
    · obtain ⟨c, g1, g2⟩ := qk_tri G hf hw ht e1 f1 (by omega) (by omega)
      rw [g1]
      exact nI_nm1 (by omega)
/-- the farthest is farthest -/
theorem far_max {V1 : Nat → Nat → Int32} : ∀ m i b, (∀ c, c < i → V1 29 c ≤ V1 29 b) → ∀ c, c < i + m → V1 29 c ≤ V1 29 (farL V1 m i b) := by
  intro m
  induction m with
  | zero => intro i b h c hc; exact h c (by omega)
  | succ m ih =>
    intro i b h c hc
    refine ih (i + 1) _ (fun c hc => ?_) c (by omega)
    split
    · rename_i h1
      by_cases e : c = i
      · rw [e]; exact h1
      · exact h c (by omega)
    · rename_i h1
      by_cases e : c = i
      · rw [e]; exact Int32.le_refl _
      · exact Int32.le_trans (h c (by omega)) (Int32.le_of_lt (Int32.not_le.mp h1))
theorem far_lt2 {V1 : Nat → Nat → Int32} : ∀ m i b, i + m ≤ N → b < N → farL V1 m i b < N := by
  intro m
  induction m with
  | zero => intro i b _ hb; exact hb
  | succ m ih =>
    intro i b hi hb
    refine ih (i + 1) _ (by omega) ?_
    split
    · exact hb
    · omega
/-- the floor to which quickest is greatest -/
def fr (V : Nat → Nat → Int32) (N f : Nat) : Nat := farL (fndC V N f) N 0 f
theorem farL_cg {V1 V2 : Nat → Nat → Int32} (h : ∀ c, c < 12 → V1 29 c = V2 29 c) : ∀ m i b, i + m ≤ 12 → b < 12 → farL V1 m i b = farL V2 m i b := by
  intro m
  induction m with
  | zero => intro i b _ _; rfl
  | succ m ih =>
    intro i b hi hb
    show farL V1 m (i + 1) (if V1 29 i ≤ V1 29 b then b else i) = farL V2 m (i + 1) (if V2 29 i ≤ V2 29 b then b else i)
    rw [h i (by omega), h b hb]
    refine ih _ _ (by omega) ?_
    split <;> omega
theorem fr_cg {V1 V : Nat → Nat → Int32} {f : Nat} (hN : N ≤ 12) (hf : f < N) (h : ∀ q, q < 29 → V1 q = V q) : fr V1 N f = fr V N f := farL_cg (fun c hc => (fnd_cg hN h).2 29 (by decide) (by decide) c hc) N 0 f (by omega) (by omega)
theorem fr_lt {f : Nat} (hf : f < N) : fr V N f < N := far_lt2 N 0 f (by omega) hf
theorem fr_max {f c : Nat} (hc : c < N) : qk V N f c ≤ qk V N f (fr V N f) := far_max N 0 f (fun c hc => by omega) c (by omega)
/-- the greatest hours, if all are reached -/
theorem gth_max {V1 : Nat → Nat → Int32} : ∀ m i a, (∀ c, c < i + m → ¬ V1 29 c = -1) → (a = nI 0 ∨ ∃ c, c < i ∧ a = V1 29 c) → (∀ c, c < i → V1 29 c ≤ a) → (gthL V1 m i a = nI 0 ∨ ∃ c, c < i + m ∧ gthL V1 m i a = V1 29 c) ∧ ∀ c, c < i + m → V1 29 c ≤ gthL V1 m i a := by
  intro m
  induction m with
  | zero => intro i a _ h1 h2; exact ⟨h1, h2⟩
  | succ m ih =>
    intro i a h0 h1 h2
    show (gthL V1 (m + 1) i a = nI 0 ∨ _) ∧ _
    have e : gthL V1 (m + 1) i a = gthL V1 m (i + 1) (if a < V1 29 i then V1 29 i else a) := if_neg (h0 i (by omega))
    rw [e]
    have hh := ih (i + 1) (if a < V1 29 i then V1 29 i else a) (fun c hc => h0 c (by omega)) (by
      split
      · exact Or.inr ⟨i, by omega, rfl⟩
      · rcases h1 with h1 | ⟨c, c1, c2⟩
        · exact Or.inl h1
        · exact Or.inr ⟨c, by omega, c2⟩) (fun c hc => by
      split
      · rename_i h3
        by_cases e : c = i
        · rw [e]; exact Int32.le_refl _
        · exact Int32.le_trans (h2 c (by omega)) (Int32.le_of_lt h3)
      · rename_i h3
        by_cases e : c = i
        · rw [e]; exact Int32.not_lt.mp h3
        · exact h2 c (by omega))
    refine ⟨hh.1.imp id (fun ⟨c, c1, c2⟩ => ⟨c, by omega, c2⟩), fun c hc => hh.2 c (by omega)⟩
theorem gth_m1 {V1 : Nat → Nat → Int32} : ∀ m i a, gthL V1 m i a = -1 ∨ ∀ c, i ≤ c → c < i + m → ¬ V1 29 c = -1 := by
  intro m
  induction m with
  | zero => intro i a; exact Or.inr (fun c h1 h2 => by omega)
  | succ m ih =>
    intro i a
    by_cases h : V1 29 i = -1
    · exact Or.inl (if_pos h)
    · have e : gthL V1 (m + 1) i a = gthL V1 m (i + 1) (if a < V1 29 i then V1 29 i else a) := if_neg h
      rw [e]
      rcases ih (i + 1) (if a < V1 29 i then V1 29 i else a) with h1 | h1
      · exact Or.inl h1
      · refine Or.inr (fun c h2 h3 => ?_)
        by_cases e : c = i
        · rw [e]; exact h
        · exact h1 c (by omega) (by omega)
def gt (V : Nat → Nat → Int32) (N f : Nat) : Int32 := gthL (fndC V N f) N 0 (nI 0)
theorem gt_far (G : PG V N) {f : Nat} (hf : f < N) (h : ∀ c, c < N → ¬ qk V N f c = -1) : gt V N f = qk V N f (fr V N f) := by
  obtain ⟨h1, h2⟩ := gth_max (V1 := fndC V N f) N 0 (nI 0) (fun c hc => h c (by omega)) (Or.inl rfl) (fun c hc => by omega)
  have h3 := h2 (fr V N f) (by have := fr_lt (V := V) hf; omega)
  have h4 : gthL (fndC V N f) N 0 (nI 0) ≤ qk V N f (fr V N f) := by
    rcases h1 with h1 | ⟨c, c1, c2⟩
    · rw [h1, ← (qk_self G hf).1]
      exact fr_max hf
    · rw [c2]
      exact fr_max (by omega)
  exact Int32.le_antisymm h4 h3
theorem gthL_cg {V1 V2 : Nat → Nat → Int32} (h : ∀ c, c < 12 → V1 29 c = V2 29 c) : ∀ m i a, i + m ≤ 12 → gthL V1 m i a = gthL V2 m i a := by
  intro m
  induction m with
  | zero => intro i a _; rfl
  | succ m ih =>
    intro i a hi
    show (if V1 29 i = -1 then -1 else gthL V1 m (i + 1) (if a < V1 29 i then V1 29 i else a)) = (if V2 29 i = -1 then -1 else gthL V2 m (i + 1) (if a < V2 29 i then V2 29 i else a))
    rw [h i (by omega), ih _ _ (by omega)]
theorem gt_cg {V1 V : Nat → Nat → Int32} {f : Nat} (hN : N ≤ 12) (h : ∀ q, q < 29 → V1 q = V q) : gt V1 N f = gt V N f := gthL_cg (fun c hc => (fnd_cg hN h).2 29 (by decide) (by decide) c hc) N 0 _ (by omega)
/-- the centre has the least greatest hours -/
theorem cen_least (hN : N ≤ 12) : ∀ m i V1 b l, i + m = N → (∀ q, q < 29 → V1 q = V q) → (b = none → i = 0 ∨ ∀ c, c < i → gt V N c = -1) → (∀ j, b = some j → j < N ∧ l = gt V N j ∧ ∀ c, c < i → ¬ gt V N c = -1 → l ≤ gt V N c) → ∀ j, (cenL N m i V1 b l).2 = some j → j < N ∧ ∀ c, c < N → ¬ gt V N c = -1 → gt V N j ≤ gt V N c := by
  intro m
  induction m with
  | zero =>
    intro i V1 b l hi hV h1 h2 j hj
    obtain ⟨h3, h4, h5⟩ := h2 j hj
    exact ⟨h3, fun c hc h => by rw [← h4]; exact h5 c (by omega) h⟩
  | succ m ih =>
    intro i V1 b l hi hV h1 h2 j hj
    have eg : gthL (fndC V1 N i) N 0 (nI 0) = gt V N i := gt_cg hN hV
    have eV : ∀ q, q < 29 → fndC V1 N i q = V q := fun q hq => (fndC_out (by omega)).trans (hV q hq)
    unfold cenL at hj
    rw [eg] at hj
    by_cases hc : ¬ gt V N i = -1 ∧ (b = none ∨ gt V N i < l)
    · rw [if_pos hc] at hj
      refine ih (i + 1) _ _ _ (by omega) eV (fun h => by cases h) (fun j' hj' => ?_) j hj
      cases hj'
      refine ⟨by omega, rfl, fun c c1 c2 => ?_⟩
      by_cases e : c = i
      · rw [e]; exact Int32.le_refl _
      · rcases hc.2 with hb | hb
        · rcases h1 hb with h | h
          · omega
          · exact absurd (h c (by omega)) c2
        · cases b with
          | none =>
            rcases h1 rfl with h | h
            · omega
            · exact absurd (h c (by omega)) c2
          | some j0 => exact Int32.le_trans (Int32.le_of_lt hb) ((h2 j0 rfl).2.2 c (by omega) c2)
    · rw [if_neg hc] at hj
      refine ih (i + 1) _ _ _ (by omega) eV (fun hb => Or.inr (fun c c1 => ?_)) (fun j' hj' => ?_) j hj
      · by_cases e : c = i
        · rw [e]
          exact Classical.byContradiction fun x => hc ⟨x, Or.inl hb⟩
        · rcases h1 hb with h | h
          · omega
          · exact h c (by omega)
      · obtain ⟨h3, h4, h5⟩ := h2 j' hj'
        refine ⟨h3, h4, fun c c1 c2 => ?_⟩
        by_cases e : c = i
        · rw [e]
          rw [e] at c2
          exact Int32.not_lt.mp fun x => hc ⟨c2, Or.inr x⟩
        · exact h5 c (by omega) c2
theorem cen_some (hN : N ≤ 12) : ∀ m i V1 b l, i + m = N → (∀ q, q < 29 → V1 q = V q) → ((∃ j, b = some j) ∨ ∃ c, i ≤ c ∧ c < N ∧ ¬ gt V N c = -1) → ∃ j, (cenL N m i V1 b l).2 = some j := by
  intro m
  induction m with
  | zero =>
    intro i V1 b l hi hV h
    rcases h with ⟨j, hj⟩ | ⟨c, c1, c2, c3⟩
    · exact ⟨j, hj⟩
    · omega
  | succ m ih =>
    intro i V1 b l hi hV h
    have eg : gthL (fndC V1 N i) N 0 (nI 0) = gt V N i := gt_cg hN hV
    have eV : ∀ q, q < 29 → fndC V1 N i q = V q := fun q hq => (fndC_out (by omega)).trans (hV q hq)
    unfold cenL
    rw [eg]
    by_cases hc : ¬ gt V N i = -1 ∧ (b = none ∨ gt V N i < l)
    · rw [if_pos hc]
      exact ih (i + 1) _ _ _ (by omega) eV (Or.inl ⟨i, rfl⟩)
    · rw [if_neg hc]
      refine ih (i + 1) _ _ _ (by omega) eV ?_
      rcases h with h | ⟨c, c1, c2, c3⟩
      · exact Or.inl h
      · by_cases e : c = i
        · cases b with
          | some j => exact Or.inl ⟨j, rfl⟩
          | none => exact absurd ⟨by rw [← e]; exact c3, Or.inl rfl⟩ hc
        · exact Or.inr ⟨c, by omega, c2, c3⟩
/-- one part: all reach each other -/
theorem lbw_t {V1 : Nat → Nat → Int32} : ∀ m i, lbwL V1 m i = true → ∃ c, i ≤ c ∧ c < i + m ∧ ¬ V1 29 c = -1 := by
  intro m
  induction m with
  | zero => intro i h; cases h
  | succ m ih =>
    intro i h
    by_cases c : V1 29 i = -1
    · have e : lbwL V1 (m + 1) i = lbwL V1 m (i + 1) := if_neg (fun x => x c)
      rw [e] at h
      obtain ⟨d, d1, d2, d3⟩ := ih (i + 1) h
      exact ⟨d, by omega, by omega, d3⟩
    · exact ⟨i, by omega, by omega, c⟩
theorem par_ge : ∀ m i V1 a, a ≤ (parL N m i V1 a).2 := by
  intro m
  induction m with
  | zero => intro i V1 a; exact Nat.le_refl _
  | succ m ih =>
    intro i V1 a
    refine Nat.le_trans ?_ (ih (i + 1) _ _)
    split <;> omega
theorem par_one (hN : N ≤ 12) : ∀ m i V1 a, i + m = N → (∀ q, q < 29 → V1 q = V q) → (parL N m i V1 a).2 ≤ a → ∀ c, i ≤ c → c < N → ∃ d, d < c ∧ ¬ qk V N c d = -1 := by
  intro m
  induction m with
  | zero => intro i V1 a hi hV h c c1 c2; omega
  | succ m ih =>
    intro i V1 a hi hV h c c1 c2
    have eV : ∀ q, q < 29 → fndC V1 N i q = V q := fun q hq => (fndC_out (by omega)).trans (hV q hq)
    have h' : (parL N m (i + 1) (fndC V1 N i) (if lbwL (fndC V1 N i) i 0 = true then a else a + 1)).2 ≤ a := h
    by_cases hl : lbwL (fndC V1 N i) i 0 = true
    · rw [if_pos hl] at h'
      by_cases e : c = i
      · subst e
        obtain ⟨d, d1, d2, d3⟩ := lbw_t _ _ hl
        refine ⟨d, by omega, fun x => d3 ?_⟩
        rw [← x]
        exact qk_cg hN (by omega) hV
      · exact ih (i + 1) _ _ (by omega) eV h' c (by omega) c2
    · rw [if_neg hl] at h'
      have := par_ge (N := N) m (i + 1) (fndC V1 N i) (a + 1)
      omega
theorem par_all (G : PG V N) {V1 : Nat → Nat → Int32} (hV : ∀ q, q < 29 → V1 q = V q) (h : (parL N N 0 V1 0).2 = 1) : ∀ a b, a < N → b < N → ¬ qk V N a b = -1 := by
  have hN := G.2.1
  have hN2 := G.1
  have h1 : ∀ c, 1 ≤ c → c < N → ∃ d, d < c ∧ ¬ qk V N c d = -1 := by
    have e : N = (N - 1) + 1 := by omega
    have h2 : (parL N (N - 1) 1 (fndC V1 N 0) 1).2 = 1 := by
      have : (parL N ((N - 1) + 1) 0 V1 0).2 = 1 := by rw [← e]; exact h
      exact this
    exact par_one hN (N - 1) 1 _ 1 (by omega) (fun q hq => (fndC_out (by omega)).trans (hV q hq)) (Nat.le_of_eq h2)
  have h0 : ∀ m c, c ≤ m → c < N → ¬ qk V N c 0 = -1 := by
    intro m
    induction m with
    | zero =>
      intro c hc hcN
      obtain rfl : c = 0 := by omega
      rw [(qk_self G hcN).1]
      exact nI_nm1 (by decide)
    | succ m ih =>
      intro c hc hcN
      by_cases e : c ≤ m
      · exact ih c e hcN
      · obtain ⟨d, d1, d2⟩ := h1 c (by omega) hcN
        exact qk_trans G hcN (by omega) (by omega) d2 (ih d (by omega) (by omega))
  intro a b ha hb
  exact qk_trans G ha (by omega) hb (h0 a a (Nat.le_refl _) ha) (qk_back G hb (by omega) (h0 b b (Nat.le_refl _) hb))
/-- the centre's greatest is least -/
theorem cen_best (G : PG V N) {V1 : Nat → Nat → Int32} {l : Int32} (hV : ∀ q, q < 29 → V1 q = V q) (hall : ∀ a b, a < N → b < N → ¬ qk V N a b = -1) : ∃ j, (cenL N N 0 V1 none l).2 = some j ∧ j < N ∧ ∀ c, c < N → qk V N j (fr V N j) ≤ qk V N c (fr V N c) := by
  have hN := G.2.1
  have hN2 := G.1
  have hg : ∀ c, c < N → gt V N c = qk V N c (fr V N c) := fun c hc => gt_far G hc (fun d hd => hall c d hc hd)
  have hgn : ∀ c, c < N → ¬ gt V N c = -1 := fun c hc => by rw [hg c hc]; exact hall c _ hc (fr_lt hc)
  obtain ⟨j, hj⟩ := cen_some (V := V) hN N 0 V1 none l (by omega) hV (Or.inr ⟨0, by omega, by omega, hgn 0 (by omega)⟩)
  obtain ⟨h1, h2⟩ := cen_least (V := V) hN N 0 V1 none l (by omega) hV (fun _ => Or.inl rfl) (fun j h => by cases h) j hj
  exact ⟨j, hj, h1, fun c hc => by rw [← hg j h1, ← hg c hc]; exact h2 c hc (hgn c hc)⟩
end MET
