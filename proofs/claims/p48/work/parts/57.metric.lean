/-! ===== the quickest ways are a metric ===== -/
def PG (V : Nat → Nat → Int32) (N : Nat) : Prop := 2 ≤ N ∧ N ≤ 12 ∧ (∀ a b, a < N → b < N → V (8 + a) b = V (8 + b) a ∧ okP (V (8 + a) b)) ∧ ∀ a, a < N → ∃ s, V 3 a = nI s ∧ s ≤ 9
/-- a way, its hours and pipes -/
def PthR (V : Nat → Nat → Int32) (N w : Nat) : Nat → Nat → Nat → Prop
  | 0, i, h => i = w ∧ w < N ∧ h = 0
  | u + 1, i, h => ∃ a h0 s p, PthR V N w u a h0 ∧ i < N ∧ V (8 + a) i = nI p ∧ 1 ≤ p ∧ p ≤ 14 ∧ V 3 a = nI s ∧ s ≤ 9 ∧ h = h0 + s + p
def Pth (V : Nat → Nat → Int32) (N w i h u : Nat) : Prop := PthR V N w u i h
theorem Pth.nil {V : Nat → Nat → Int32} {N w : Nat} (h : w < N) : Pth V N w w 0 0 := ⟨rfl, h, rfl⟩
theorem Pth.step {V : Nat → Nat → Int32} {N w a i h u s p : Nat} (h0 : Pth V N w a h u) (h1 : i < N) (h2 : V (8 + a) i = nI p) (h3 : 1 ≤ p) (h4 : p ≤ 14) (h5 : V 3 a = nI s) (h6 : s ≤ 9) : Pth V N w i (h + s + p) (u + 1) := ⟨a, h, s, p, h0, h1, h2, h3, h4, h5, h6, rfl⟩
theorem PthR.lt {V : Nat → Nat → Int32} {N w : Nat} : ∀ u i h, PthR V N w u i h → i < N ∧ w < N ∧ h ≤ 23 * u := by
  intro u
  induction u with
  | zero =>
    intro i h H
    obtain ⟨rfl, h1, rfl⟩ := H
    exact ⟨h1, h1, by omega⟩
  | succ u ih =>
    intro i h H
    obtain ⟨a, h0, s, p, h1, h2, h3, h4, h5, h6, h7, rfl⟩ := H
    obtain ⟨-, c, d⟩ := ih a h0 h1
    exact ⟨h2, c, by omega⟩
theorem Pth.lt {V : Nat → Nat → Int32} {N w i h u : Nat} (H : Pth V N w i h u) : i < N ∧ w < N ∧ h ≤ 23 * u := PthR.lt u i h H
theorem Pth.zero {V : Nat → Nat → Int32} {N w i h u : Nat} (H : Pth V N w i h u) (hu : u = 0) : i = w := by
  subst hu
  exact H.1
def cnt (V : Nat → Nat → Int32) (N : Nat) : Nat := sm (fun c => if V 31 c = 0 then 0 else 1) N
theorem sm_1 {a : Nat → Nat} (h : ∀ c, a c ≤ 1) : ∀ n, sm a n ≤ n := by
  intro n
  have := sm_max (x := 1) h n
  omega
theorem cnt_le {V : Nat → Nat → Int32} {N : Nat} : cnt V N ≤ N := sm_1 (fun c => by split <;> omega) N
theorem sm_all {a : Nat → Nat} (h : ∀ c, a c ≤ 1) : ∀ n c, c < n → n ≤ sm a n → a c = 1 := by
  intro n
  induction n with
  | zero => intro c hc _; omega
  | succ n ih =>
    intro c hc hn
    have h1 : n + 1 ≤ sm a n + a n := hn
    have h2 := sm_1 h n
    have h3 := h n
    have h4 := h c
    by_cases e : c = n
    · subst e; omega
    · exact ih c (by omega) (by omega)
/-- the search's state: k floors settled, the last of them a, its neighbours below i done -/
def DJ (V : Nat → Nat → Int32) (N w : Nat) (V1 : Nat → Nat → Int32) (k a i : Nat) : Prop :=
  (∀ q, q < 29 → V1 q = V q) ∧ cnt V1 N = k ∧
  (∀ c, c < N → (V1 29 c = -1 ∧ V1 30 c = -1 ∧ V1 31 c = 0) ∨ ∃ h u, V1 29 c = nI h ∧ V1 30 c = nI u ∧ Pth V N w c h u ∧ u ≤ k ∧ (¬ V1 31 c = 0 → u + 1 ≤ k)) ∧
  (∀ b c hb hc, b < N → c < N → ¬ V1 31 b = 0 → V1 31 c = 0 → V1 29 b = nI hb → V1 29 c = nI hc → hb < 2 ^ 20 → hc < 2 ^ 20 → hb ≤ hc) ∧
  (∀ b hb ha, b < N → ¬ V1 31 b = 0 → V1 29 b = nI hb → V1 29 a = nI ha → hb < 2 ^ 20 → ha < 2 ^ 20 → 0 < i → hb ≤ ha) ∧
  (∀ b j p s hb, b < N → j < N → ¬ V1 31 b = 0 → (b = a → j < i) → V (8 + b) j = nI p → p ≤ 14 → V 3 b = nI s → s ≤ 9 → V1 29 b = nI hb → hb < 2 ^ 20 → ∃ hj, V1 29 j = nI hj ∧ hj ≤ hb + s + p) ∧
  V1 29 w = nI 0 ∧ V1 30 w = nI 0
theorem DJ.u {V V1 : Nat → Nat → Int32} {N w k a i : Nat} (H : DJ V N w V1 k a i) : k ≤ N := by rw [← H.2.1]; exact cnt_le
/-- what is known of a reached floor -/
theorem DJ.at {V V1 : Nat → Nat → Int32} {N w k a i c : Nat} (H : DJ V N w V1 k a i) (hN : N ≤ 12) (hc : c < N) (h : ¬ V1 29 c = -1 ∨ ¬ V1 31 c = 0) : ∃ h u, V1 29 c = nI h ∧ V1 30 c = nI u ∧ Pth V N w c h u ∧ u ≤ k ∧ (¬ V1 31 c = 0 → u + 1 ≤ k) ∧ h ≤ 276 := by
  have hk := H.u
  rcases H.2.2.1 c hc with ⟨e1, -, e2⟩ | ⟨h', u, e1, e2, e3, e4, e5⟩
  · rcases h with h | h
    · exact absurd e1 h
    · exact absurd e2 h
  · have := e3.lt
    exact ⟨h', u, e1, e2, e3, e4, e5, by omega⟩
theorem nIi {a b : Nat} (h : nI a = nI b) (ha : a < 2 ^ 31) (hb : b < 2 ^ 31) : a = b := (nI_eq ha hb).mp h
theorem DJ.relax {V V2 : Nat → Nat → Int32} {N w k a i : Nat} (G : PG V N) (H : DJ V N w V2 k a i) (hi : i < N) (ha : a < N) (hsa : ¬ V2 31 a = 0) (hb0 : ∀ b hb ha, b < N → ¬ V2 31 b = 0 → V2 29 b = nI hb → V2 29 a = nI ha → hb < 2 ^ 20 → ha < 2 ^ 20 → hb ≤ ha) : DJ V N w (ldb V2 29 30 a i (V2 (8 + a) i) (V2 3 a)) k a (i + 1) ∧ ∀ b hb ha, b < N → ¬ ldb V2 29 30 a i (V2 (8 + a) i) (V2 3 a) 31 b = 0 → ldb V2 29 30 a i (V2 (8 + a) i) (V2 3 a) 29 b = nI hb → ldb V2 29 30 a i (V2 (8 + a) i) (V2 3 a) 29 a = nI ha → hb < 2 ^ 20 → ha < 2 ^ 20 → hb ≤ ha := by
  obtain ⟨-, hN, hP, hS⟩ := G
  have hk := H.u
  obtain ⟨ha', ua, ea, eu, epa, eua, eub, ela⟩ := H.at hN ha (Or.inr hsa)
  obtain ⟨d0, d1, d2, d3, d4, d5, d6, d7⟩ := id H
  have eub := eub hsa
  rw [d0 (8 + a) (by omega), d0 3 (by omega)]
  obtain ⟨s, es, hs9⟩ := hS a ha
  have keep : (∀ p, V (8 + a) i = nI p → p ≤ 14 → ∃ hj, V2 29 i = nI hj ∧ hj ≤ ha' + s + p) → DJ V N w V2 k a (i + 1) := fun hh => by
    refine ⟨d0, d1, d2, d3, fun b hb x b1 b2 b3 b4 b5 b6 _ => hb0 b hb x b1 b2 b3 b4 b5 b6, fun b j p s' hb b1 b2 b3 b4 b5 b6 b7 b8 b9 b10 => ?_, d6, d7⟩
    by_cases e : b = a ∧ j = i
    · obtain ⟨rfl, rfl⟩ := e
      obtain ⟨hj, h1, h2⟩ := hh p b5 b6
      have e1 := nIi (b9.symm.trans ea) (by omega) (by omega)
      have e2 := nIi (b7.symm.trans es) (by omega) (by omega)
      exact ⟨hj, h1, by omega⟩
    · exact d5 b j p s' hb b1 b2 b3 (fun c => by have := b4 c; have : ¬ j = i := fun c' => e ⟨c, c'⟩; omega) b5 b6 b7 b8 b9 b10
  unfold ldb
  rcases (hP a i ha hi).2 with hx | ⟨p, hx, hp1, hp14⟩
  · rw [if_neg (fun c => c.1 hx)]
    exact ⟨keep (fun p hp hp14 => absurd (hp.symm.trans hx) (nI_nm1 (by omega))), hb0⟩
  · rw [hx, es, ea, eu, nI_add, nI_add, nI_add]
    by_cases hc : ¬ nI p = -1 ∧ (V2 29 i = -1 ∨ btI V2 29 30 (nI (ha' + s + p)) (nI (ua + 1)) i = true)
    · rw [if_pos hc]
      have hold : ∀ hi', V2 29 i = nI hi' → hi' < 2 ^ 21 → ha' + s + p ≤ hi' := fun hi' e1 e2 => by
        rcases hc.2 with c | c
        · exact absurd (e1.symm.trans c) (nI_nm1 (by omega))
        · unfold btI at c
          rw [e1, Bool.or_eq_true, Bool.and_eq_true, decide_eq_true_iff, decide_eq_true_iff] at c
          rcases c with c | ⟨c, -⟩
          · have := (nI_ltI (by omega) (by omega)).mp c
            omega
          · have := nIi c (by omega) (by omega)
            omega
      have hun : V2 31 i = 0 := by
        refine Classical.byContradiction fun c => ?_
        obtain ⟨h', u', e1, e2, e3, e4, e5, e6⟩ := H.at hN hi (Or.inr c)
        have h1 := hold h' e1 (by omega)
        have h2 := hb0 i h' ha' hi c e1 ea (by omega) (by omega)
        omega
      have hai : a ≠ i := fun c => hsa (c ▸ hun)
      have hwi : w ≠ i := fun c => by
        have := hold 0 (c ▸ d6) (by omega)
        omega
      have e31 : ∀ q, q ≠ 29 → q ≠ 30 → jv_U (jv_U V2 29 i (nI (ha' + s + p))) 30 i (nI (ua + 1)) q = V2 q := fun q h1 h2 => by rw [jv_U_other h2, jv_U_other h1]
      have e29 : ∀ c, c ≠ i → jv_U (jv_U V2 29 i (nI (ha' + s + p))) 30 i (nI (ua + 1)) 29 c = V2 29 c := fun c h => by rw [jv_Une (by decide), jv_Unj h]
      have e30 : ∀ c, c ≠ i → jv_U (jv_U V2 29 i (nI (ha' + s + p))) 30 i (nI (ua + 1)) 30 c = V2 30 c := fun c h => by rw [jv_Unj h, jv_Une (by decide)]
      have i29 : jv_U (jv_U V2 29 i (nI (ha' + s + p))) 30 i (nI (ua + 1)) 29 i = nI (ha' + s + p) := by rw [jv_Une (by decide), jv_Ueq]
      have i30 : jv_U (jv_U V2 29 i (nI (ha' + s + p))) 30 i (nI (ua + 1)) 30 i = nI (ua + 1) := jv_Ueq
      generalize jv_U (jv_U V2 29 i (nI (ha' + s + p))) 30 i (nI (ua + 1)) = V3 at e31 e29 e30 i29 i30 ⊢
      have s31 : V3 31 = V2 31 := e31 31 (by decide) (by decide)
      have hb1 : ∀ b hb ha, b < N → ¬ V3 31 b = 0 → V3 29 b = nI hb → V3 29 a = nI ha → hb < 2 ^ 20 → ha < 2 ^ 20 → hb ≤ ha := fun b hb x b1 b2 b3 b4 b5 b6 => by
        rw [s31] at b2
        have hbi : b ≠ i := fun c => b2 (c ▸ hun)
        rw [e29 b hbi] at b3
        rw [e29 a hai] at b4
        exact hb0 b hb x b1 b2 b3 b4 b5 b6
      refine ⟨⟨fun q hq => by rw [e31 q (by omega) (by omega)]; exact d0 q hq, ?_, fun c hc' => ?_, fun b c hb hc' b1 b2 b3 b4 b5 b6 b7 b8 => ?_, fun b hb x b1 b2 b3 b4 b5 b6 _ => hb1 b hb x b1 b2 b3 b4 b5 b6, fun b j p' s' hb b1 b2 b3 b4 b5 b6 b7 b8 b9 b10 => ?_, ?_, ?_⟩, hb1⟩
      · unfold cnt
        rw [s31]
        exact d1
      · by_cases e : c = i
        · subst e
          refine Or.inr ⟨_, _, i29, i30, Pth.step epa hi hx hp1 hp14 es hs9, by omega, fun c => absurd (by rw [s31]; exact hun) c⟩
        · rw [e29 c e, e30 c e, s31]
          exact d2 c hc'
      · rw [s31] at b3 b4
        have hbi : b ≠ i := fun c => b3 (c ▸ hun)
        rw [e29 b hbi] at b5
        by_cases e : c = i
        · subst e
          have e1 := nIi (b6.symm.trans i29) (by omega) (by omega)
          have e2 := hb0 b hb ha' b1 b3 b5 ea b7 (by omega)
          omega
        · rw [e29 c e] at b6
          exact d3 b c hb hc' b1 b2 b3 b4 b5 b6 b7 b8
      · rw [s31] at b3
        have hbi : b ≠ i := fun c => b3 (c ▸ hun)
        rw [e29 b hbi] at b9
        by_cases e : j = i
        · subst e
          refine ⟨_, i29, ?_⟩
          by_cases eb : b = a
          · subst eb
            have e1 := nIi (b9.symm.trans ea) (by omega) (by omega)
            have e2 := nIi (b7.symm.trans es) (by omega) (by omega)
            have e3 := nIi (b5.symm.trans hx) (by omega) (by omega)
            omega
          · obtain ⟨hj, h1, h2⟩ := d5 b j p' s' hb b1 b2 b3 (fun c => absurd c eb) b5 b6 b7 b8 b9 b10
            have := hold hj h1 (by omega)
            omega
        · rw [e29 j e]
          exact d5 b j p' s' hb b1 b2 b3 (fun c => by have := b4 c; omega) b5 b6 b7 b8 b9 b10
      · rw [e29 w hwi]; exact d6
      · rw [e30 w hwi]; exact d7
    · rw [if_neg hc]
      refine ⟨keep (fun p' hp' hp14' => ?_), hb0⟩
      have ep := nIi (hp'.symm.trans hx) (by omega) (by omega)
      subst ep
      have hpm : ¬ nI p' = -1 := nI_nm1 (by omega)
      have h1 : ¬ V2 29 i = -1 := fun c => hc ⟨hpm, Or.inl c⟩
      obtain ⟨h', u', e1, e2, e3, e4, e5, e6⟩ := H.at hN hi (Or.inl h1)
      refine ⟨h', e1, ?_⟩
      refine Classical.byContradiction fun c => hc ⟨hpm, Or.inr ?_⟩
      unfold btI
      rw [e1, Bool.or_eq_true, decide_eq_true_iff]
      exact Or.inl ((nI_ltI (by omega) (by omega)).mpr (by omega))
theorem ldb_31 {V : Nat → Nat → Int32} {a i : Nat} {x y : Int32} : ldb V 29 30 a i x y 31 = V 31 := ldb_out (by decide) (by decide)
theorem DJ.relaxL {V : Nat → Nat → Int32} {N w k a : Nat} (G : PG V N) (ha : a < N) : ∀ m i V2, i + m = N → DJ V N w V2 k a i → ¬ V2 31 a = 0 → (∀ b hb ha, b < N → ¬ V2 31 b = 0 → V2 29 b = nI hb → V2 29 a = nI ha → hb < 2 ^ 20 → ha < 2 ^ 20 → hb ≤ ha) → DJ V N w (ldL a m i V2) k a N := by
  intro m
  induction m with
  | zero => intro i V2 hi H _ _; rw [show N = i by omega]; rw [show N = i by omega] at H; exact H
  | succ m ih =>
    intro i V2 hi H h1 h2
    obtain ⟨h3, h4⟩ := H.relax G (by omega) ha h1 h2
    exact ih (i + 1) _ (by omega) h3 (by rw [ldb_31]; exact h1) h4
/-- the nearest one not settled -/
theorem nrs_none {V : Nat → Nat → Int32} {N : Nat} : ∀ m i b, i + m = N → nrs V 29 30 31 m i b = none → b = none ∧ ∀ c, i ≤ c → c < N → V 31 c = 0 → V 29 c = -1 := by
  intro m
  induction m with
  | zero => intro i b hi h; exact ⟨h, fun c h1 h2 => by omega⟩
  | succ m ih =>
    intro i b hi h
    obtain ⟨h1, h2⟩ := ih (i + 1) _ (by omega) h
    split at h1
    · cases h1
    · rename_i hc
      subst h1
      refine ⟨rfl, fun c c1 c2 c3 => ?_⟩
      by_cases e : c = i
      · subst e
        exact Classical.byContradiction fun c4 => hc ⟨⟨c3, c4⟩, rfl⟩
      · exact h2 c (by omega) c2 c3
theorem nrs_some {V : Nat → Nat → Int32} {N a : Nat} (hv : ∀ c, c < N → V 29 c = -1 ∨ ∃ h, V 29 c = nI h ∧ h ≤ 276) : ∀ m i b, i + m = N → (∀ j, b = some j → j < i ∧ V 31 j = 0 ∧ ¬ V 29 j = -1 ∧ ∀ c, c < i → V 31 c = 0 → ¬ V 29 c = -1 → V 29 j ≤ V 29 c) → (b = none → ∀ c, c < i → V 31 c = 0 → V 29 c = -1) → nrs V 29 30 31 m i b = some a → a < N ∧ V 31 a = 0 ∧ ¬ V 29 a = -1 ∧ ∀ c, c < N → V 31 c = 0 → ¬ V 29 c = -1 → V 29 a ≤ V 29 c := by
  intro m
  induction m with
  | zero =>
    intro i b hi h1 _ h
    obtain ⟨c1, c2, c3, c4⟩ := h1 a h
    exact ⟨by omega, c2, c3, fun c c5 => c4 c (by omega)⟩
  | succ m ih =>
    intro i b hi h1 h2 h
    refine ih (i + 1) _ (by omega) (fun j hj => ?_) (fun hn c c1 c2 => ?_) h
    · split at hj
      · rename_i hc
        cases hj
        refine ⟨by omega, hc.1.1, hc.1.2, fun c c1 c2 c3 => ?_⟩
        by_cases e : c = i
        · subst e; exact Int32.le_refl _
        · cases b with
          | none => exact absurd (h2 rfl c (by omega) c2) c3
          | some j =>
            obtain ⟨d1, d2, d3, d4⟩ := h1 j rfl
            have hb : btI V 29 30 (V 29 i) (V 30 i) j = true := hc.2
            unfold btI at hb
            rw [Bool.or_eq_true, Bool.and_eq_true, decide_eq_true_iff, decide_eq_true_iff] at hb
            have h4 := d4 c (by omega) c2 c3
            rcases hb with hb | ⟨hb, -⟩
            · exact Int32.le_trans (Int32.le_of_lt hb) h4
            · rw [hb]; exact h4
      · rename_i hc
        subst hj
        obtain ⟨d1, d2, d3, d4⟩ := h1 j rfl
        refine ⟨by omega, d2, d3, fun c c1 c2 c3 => ?_⟩
        by_cases e : c = i
        · subst e
          have hb : ¬ btI V 29 30 (V 29 c) (V 30 c) j = true := fun x => hc ⟨⟨c2, c3⟩, x⟩
          unfold btI at hb
          rw [Bool.or_eq_true, decide_eq_true_iff] at hb
          exact Int32.not_lt.mp (fun x => hb (Or.inl x))
        · exact d4 c (by omega) c2 c3
    · split at hn
      · cases hn
      · rename_i hc
        by_cases e : c = i
        · subst e
          exact Classical.byContradiction fun c4 => hc ⟨⟨c2, c4⟩, by rw [hn]; rfl⟩
        · exact h2 hn c (by omega) c2
/-- all ways from w -/
def FN (V : Nat → Nat → Int32) (N w : Nat) (V1 : Nat → Nat → Int32) : Prop :=
  (∀ c, c < N → (V1 29 c = -1 ∧ V1 30 c = -1) ∨ ∃ h u, V1 29 c = nI h ∧ V1 30 c = nI u ∧ Pth V N w c h u ∧ u + 1 ≤ N ∧ h ≤ 276) ∧
  (∀ b j p s hb, b < N → j < N → V (8 + b) j = nI p → p ≤ 14 → V 3 b = nI s → s ≤ 9 → V1 29 b = nI hb → hb < 2 ^ 20 → ∃ hj, V1 29 j = nI hj ∧ hj ≤ hb + s + p) ∧
  V1 29 w = nI 0 ∧ V1 30 w = nI 0
theorem DJ.fin {V V1 : Nat → Nat → Int32} {N w k a : Nat} (hN : N ≤ 12) (H : DJ V N w V1 k a N) (hf : ∀ c, c < N → V1 31 c = 0 → V1 29 c = -1) : FN V N w V1 := by
  have hk := H.u
  refine ⟨fun c hc => ?_, fun b j p s hb b1 b2 b3 b4 b5 b6 b7 b8 => ?_, H.2.2.2.2.2.2.1, H.2.2.2.2.2.2.2⟩
  · rcases H.2.2.1 c hc with ⟨e1, e2, -⟩ | ⟨h, u, e1, e2, e3, e4, e5⟩
    · exact Or.inl ⟨e1, e2⟩
    · have hs : ¬ V1 31 c = 0 := fun x => nI_nm1 (by have := e3.lt; omega) (e1.symm.trans (hf c hc x))
      have := e5 hs
      have := e3.lt
      exact Or.inr ⟨h, u, e1, e2, e3, by omega, by omega⟩
  · have hs : ¬ V1 31 b = 0 := fun x => nI_nm1 (by omega) (b7.symm.trans (hf b b1 x))
    exact H.2.2.2.2.2.1 b j p s hb b1 b2 hs (fun _ => b2) b3 b4 b5 b6 b7 b8
theorem DJ.rounds {V : Nat → Nat → Int32} {N w : Nat} (G : PG V N) : ∀ m k a V1, N ≤ k + m → DJ V N w V1 k a N → FN V N w (rndC N m V1) := by
  have hN := G.2.1
  intro m
  induction m with
  | zero =>
    intro k a V1 hk H
    show FN V N w V1
    refine H.fin hN (fun c hc h0 => ?_)
    have h1 := sm_all (a := fun c => if V1 31 c = 0 then 0 else 1) (fun c => by split <;> omega) N c hc (by have := H.2.1; unfold cnt at this; omega)
    rw [if_pos h0] at h1
    omega
  | succ m ih =>
    intro k a V1 hk H
    have hku := H.u
    unfold rndC
    cases hn : nrs V1 29 30 31 N 0 none with
    | none =>
      obtain ⟨-, h2⟩ := nrs_none (N := N) N 0 none (by omega) hn
      exact H.fin hN (fun c hc => h2 c (by omega) hc)
    | some b =>
      show FN V N w (rndC N m (ldL b N 0 (jv_U V1 31 b (nI 1))))
      obtain ⟨b1, b2, b3, b4⟩ := nrs_some (N := N) (fun c hc => by
        rcases H.2.2.1 c hc with ⟨e1, -, -⟩ | ⟨h, u, e1, e2, e3, e4, e5⟩
        · exact Or.inl e1
        · have := e3.lt
          exact Or.inr ⟨h, e1, by omega⟩) N 0 none (by omega) (fun j hj => by cases hj) (fun _ c hc => by omega) hn
      obtain ⟨d0, d1, d2, d3, d4, d5, d6, d7⟩ := id H
      obtain ⟨hB, uB, f1, f2, f3, f4, -, f6⟩ := H.at hN b1 (Or.inl b3)
      have e0 : ∀ q, q ≠ 31 → jv_U V1 31 b (nI 1) q = V1 q := fun q h => jv_U_other h
      have e1 : ∀ c, c ≠ b → jv_U V1 31 b (nI 1) 31 c = V1 31 c := fun c h => jv_Unj h
      have e2 : jv_U V1 31 b (nI 1) 31 b = nI 1 := jv_Ueq
      generalize jv_U V1 31 b (nI 1) = V2 at e0 e1 e2 ⊢
      have e29 := e0 29 (by decide)
      have e30 := e0 30 (by decide)
      have hs2 : ¬ V2 31 b = 0 := by rw [e2]; exact z1'
      have hmin : ∀ c hc x, c < N → ¬ V2 31 c = 0 → V2 29 c = nI hc → V2 29 b = nI x → hc < 2 ^ 20 → x < 2 ^ 20 → hc ≤ x := fun c hc x c1 c2 c3 c4 c5 c6 => by
        rw [e29] at c3 c4
        by_cases e : c = b
        · subst e
          have := nIi (c3.symm.trans c4) (by omega) (by omega)
          omega
        · rw [e1 c e] at c2
          exact d3 c b hc x c1 b1 c2 b2 c3 c4 c5 c6
      refine ih (k + 1) b _ (by omega) (DJ.relaxL G b1 N 0 V2 (by omega) ⟨fun q hq => (e0 q (by omega)).trans (d0 q hq), ?_, fun c hc => ?_, fun b' c hb hc c1 c2 c3 c4 c5 c6 c7 c8 => ?_, fun b' hb ha _ _ _ _ _ _ h => by omega, fun b' j p s hb c1 c2 c3 c4 c5 c6 c7 c8 c9 c10 => ?_, by rw [e29]; exact d6, by rw [e30]; exact d7⟩ hs2 hmin)
      · have := sm_swap (a := fun c => if V1 31 c = 0 then 0 else 1) (b := fun c => if V2 31 c = 0 then 0 else 1) (j := b) N b1 (fun c _ h => by show (if V2 31 c = 0 then 0 else 1) = _; rw [e1 c h])
        have x1 : (if V1 31 b = 0 then 0 else 1) = 0 := if_pos b2
        have x2 : (if V2 31 b = 0 then 0 else 1) = 1 := if_neg hs2
        unfold cnt at d1 ⊢
        simp only [x1, x2] at this
        omega
      · rw [e29, e30]
        rcases d2 c hc with ⟨g1, g2, g3⟩ | ⟨h, u, g1, g2, g3, g4, g5⟩
        · have hcb : c ≠ b := fun x => b3 (x ▸ g1)
          exact Or.inl ⟨g1, g2, by rw [e1 c hcb]; exact g3⟩
        · exact Or.inr ⟨h, u, g1, g2, g3, by omega, fun _ => by omega⟩
      · have hcb : c ≠ b := fun x => hs2 (x ▸ c4)
        rw [e29] at c5 c6
        rw [e1 c hcb] at c4
        by_cases e : b' = b
        · subst e
          have h5 := b4 c c2 c4 (by rw [c6]; exact nI_nm1 (by omega))
          rw [c5, c6] at h5
          exact (nI_leI (by omega) (by omega)).mp h5
        · rw [e1 b' e] at c3
          exact d3 b' c hb hc c1 c2 c3 c4 c5 c6 c7 c8
      · have hbb : b' ≠ b := fun x => by have := c4 x; omega
        rw [e1 b' hbb] at c3
        rw [e29] at c9 ⊢
        exact d5 b' j p s hb c1 c2 c3 (fun _ => c2) c5 c6 c7 c8 c9 c10
theorem fnd_FN {V : Nat → Nat → Int32} {N w : Nat} (G : PG V N) (hw : w < N) : FN V N w (fndC V N w) := by
  have hN := G.2.1
  unfold fndC
  have i31 : ∀ c, c < 12 → jv_U (jv_U (iniC V 12) 29 w (nI 0)) 30 w (nI 0) 31 c = 0 := fun c hc => by
    rw [jv_Une (by decide), jv_Une (by decide)]
    unfold iniC
    rw [if_pos hc, if_neg (by decide), if_neg (by decide), if_pos rfl, nI_0]
  have i29 : ∀ c, c < 12 → c ≠ w → jv_U (jv_U (iniC V 12) 29 w (nI 0)) 30 w (nI 0) 29 c = -1 := fun c hc h => by
    rw [jv_Une (by decide), jv_Unj h]
    unfold iniC
    rw [if_pos hc, if_pos rfl]
  have i30 : ∀ c, c < 12 → c ≠ w → jv_U (jv_U (iniC V 12) 29 w (nI 0)) 30 w (nI 0) 30 c = -1 := fun c hc h => by
    rw [jv_Unj h, jv_Une (by decide)]
    unfold iniC
    rw [if_pos hc, if_neg (by decide), if_pos rfl]
  have w29 : jv_U (jv_U (iniC V 12) 29 w (nI 0)) 30 w (nI 0) 29 w = nI 0 := by rw [jv_Une (by decide), jv_Ueq]
  have w30 : jv_U (jv_U (iniC V 12) 29 w (nI 0)) 30 w (nI 0) 30 w = nI 0 := jv_Ueq
  have e0 : ∀ q, q < 29 → jv_U (jv_U (iniC V 12) 29 w (nI 0)) 30 w (nI 0) q = V q := fun q hq => by
    rw [jv_U_other (by omega), jv_U_other (by omega)]
    funext c
    unfold iniC
    rw [if_neg (show ¬ q = 29 by omega), if_neg (show ¬ q = 30 by omega), if_neg (show ¬ q = 31 by omega), ite_self]
  generalize jv_U (jv_U (iniC V 12) 29 w (nI 0)) 30 w (nI 0) = V1 at i31 i29 i30 w29 w30 e0 ⊢
  refine DJ.rounds G N 0 w V1 (by omega) ⟨e0, ?_, fun c hc => ?_, fun b c hb hc b1 b2 b3 => absurd (i31 b (by omega)) b3, fun b hb ha b1 b2 => absurd (i31 b (by omega)) b2, fun b j p s hb b1 b2 b3 => absurd (i31 b (by omega)) b3, w29, w30⟩
  · have h1 : cnt V1 N = sm (fun _ => 0) N := sm_cg N (fun c hc => if_pos (i31 c (by omega)))
    rw [h1]
    have := sm_max (a := fun _ => 0) (x := 0) (fun _ => Nat.le_refl _) N
    omega
  · by_cases e : c = w
    · subst e
      exact Or.inr ⟨0, 0, w29, w30, Pth.nil hw, by omega, fun x => absurd (i31 c (by omega)) x⟩
    · exact Or.inl ⟨i29 c (by omega) e, i30 c (by omega) e, i31 c (by omega)⟩
